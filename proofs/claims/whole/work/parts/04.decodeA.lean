theorem dX0_init_0 : decode cX0_init 0 = .ok (.aload_n 0, 1) := by decide +kernel
theorem dX0_init_1 : decode cX0_init 1 = .ok (.invokespecial 3, 3) := by decide +kernel
theorem dX0_init_4 : decode cX0_init 4 = .ok (.aload_n 0, 1) := by decide +kernel
theorem dX0_init_5 : decode cX0_init 5 = .ok (.new 9, 3) := by decide +kernel
theorem dX0_init_8 : decode cX0_init 8 = .ok (.dup, 1) := by decide +kernel
theorem dX0_init_9 : decode cX0_init 9 = .ok (.invokespecial 11, 3) := by decide +kernel
theorem dX0_init_12 : decode cX0_init 12 = .ok (.putfield 12, 3) := by decide +kernel
theorem dX0_init_15 : decode cX0_init 15 = .ok (.aload_n 0, 1) := by decide +kernel
theorem dX0_init_16 : decode cX0_init 16 = .ok (.bipush 8, 2) := by decide +kernel
theorem dX0_init_18 : decode cX0_init 18 = .ok (.newarray .int, 2) := by decide +kernel
theorem dX0_init_20 : decode cX0_init 20 = .ok (.putfield 18, 3) := by decide +kernel
theorem dX0_init_23 : decode cX0_init 23 = .ok (.return_, 1) := by decide +kernel
theorem dX0_cellsAstray_0 : decode cX0_cellsAstray 0 = .ok (.iconst 0, 1) := by decide +kernel
theorem dX0_cellsAstray_1 : decode cX0_cellsAstray 1 = .ok (.istore_n 2, 1) := by decide +kernel
theorem dX0_cellsAstray_2 : decode cX0_cellsAstray 2 = .ok (.iconst 0, 1) := by decide +kernel
theorem dX0_cellsAstray_3 : decode cX0_cellsAstray 3 = .ok (.istore_n 3, 1) := by decide +kernel
theorem dX0_cellsAstray_4 : decode cX0_cellsAstray 4 = .ok (.iload_n 3, 1) := by decide +kernel
theorem dX0_cellsAstray_5 : decode cX0_cellsAstray 5 = .ok (.bipush 10, 2) := by decide +kernel
theorem dX0_cellsAstray_7 : decode cX0_cellsAstray 7 = .ok (.if_icmp .gt 28, 3) := by decide +kernel
theorem dX0_cellsAstray_10 : decode cX0_cellsAstray 10 = .ok (.aload_n 0, 1) := by decide +kernel
theorem dX0_cellsAstray_11 : decode cX0_cellsAstray 11 = .ok (.getfield 12, 3) := by decide +kernel
theorem dX0_cellsAstray_14 : decode cX0_cellsAstray 14 = .ok (.iload_n 3, 1) := by decide +kernel
theorem dX0_cellsAstray_15 : decode cX0_cellsAstray 15 = .ok (.putfield 22, 3) := by decide +kernel
theorem dX0_cellsAstray_18 : decode cX0_cellsAstray 18 = .ok (.iload_n 2, 1) := by decide +kernel
theorem dX0_cellsAstray_19 : decode cX0_cellsAstray 19 = .ok (.aload_n 0, 1) := by decide +kernel
theorem dX0_cellsAstray_20 : decode cX0_cellsAstray 20 = .ok (.getfield 12, 3) := by decide +kernel
theorem dX0_cellsAstray_23 : decode cX0_cellsAstray 23 = .ok (.iload_n 1, 1) := by decide +kernel
theorem dX0_cellsAstray_24 : decode cX0_cellsAstray 24 = .ok (.invokevirtual 26, 3) := by decide +kernel
theorem dX0_cellsAstray_27 : decode cX0_cellsAstray 27 = .ok (.ior, 1) := by decide +kernel
theorem dX0_cellsAstray_28 : decode cX0_cellsAstray 28 = .ok (.istore_n 2, 1) := by decide +kernel
theorem dX0_cellsAstray_29 : decode cX0_cellsAstray 29 = .ok (.iinc 3 1, 3) := by decide +kernel
theorem dX0_cellsAstray_32 : decode cX0_cellsAstray 32 = .ok (.goto (-28), 3) := by decide +kernel
theorem dX0_cellsAstray_35 : decode cX0_cellsAstray 35 = .ok (.iload_n 2, 1) := by decide +kernel
theorem dX0_cellsAstray_36 : decode cX0_cellsAstray 36 = .ok (.ireturn, 1) := by decide +kernel
theorem dX0_countWinds_0 : decode cX0_countWinds 0 = .ok (.iconst 0, 1) := by decide +kernel
theorem dX0_countWinds_1 : decode cX0_countWinds 1 = .ok (.istore 5, 2) := by decide +kernel
theorem dX0_countWinds_3 : decode cX0_countWinds 3 = .ok (.iconst 0, 1) := by decide +kernel
theorem dX0_countWinds_4 : decode cX0_countWinds 4 = .ok (.istore 6, 2) := by decide +kernel
theorem dX0_countWinds_6 : decode cX0_countWinds 6 = .ok (.iload 6, 2) := by decide +kernel
theorem dX0_countWinds_8 : decode cX0_countWinds 8 = .ok (.bipush 10, 2) := by decide +kernel
theorem dX0_countWinds_10 : decode cX0_countWinds 10 = .ok (.if_icmp .gt 36, 3) := by decide +kernel
theorem dX0_countWinds_13 : decode cX0_countWinds 13 = .ok (.aload_n 0, 1) := by decide +kernel
theorem dX0_countWinds_14 : decode cX0_countWinds 14 = .ok (.getfield 12, 3) := by decide +kernel
theorem dX0_countWinds_17 : decode cX0_countWinds 17 = .ok (.iload 6, 2) := by decide +kernel
theorem dX0_countWinds_19 : decode cX0_countWinds 19 = .ok (.putfield 22, 3) := by decide +kernel
theorem dX0_countWinds_22 : decode cX0_countWinds 22 = .ok (.aload_n 0, 1) := by decide +kernel
theorem dX0_countWinds_23 : decode cX0_countWinds 23 = .ok (.getfield 12, 3) := by decide +kernel
theorem dX0_countWinds_26 : decode cX0_countWinds 26 = .ok (.iload_n 2, 1) := by decide +kernel
theorem dX0_countWinds_27 : decode cX0_countWinds 27 = .ok (.iload_n 3, 1) := by decide +kernel
theorem dX0_countWinds_28 : decode cX0_countWinds 28 = .ok (.iload 4, 2) := by decide +kernel
theorem dX0_countWinds_30 : decode cX0_countWinds 30 = .ok (.invokevirtual 30, 3) := by decide +kernel
theorem dX0_countWinds_33 : decode cX0_countWinds 33 = .ok (.iload_n 1, 1) := by decide +kernel
theorem dX0_countWinds_34 : decode cX0_countWinds 34 = .ok (.if_icmp .ne 6, 3) := by decide +kernel
theorem dX0_countWinds_37 : decode cX0_countWinds 37 = .ok (.iinc 5 1, 3) := by decide +kernel
theorem dX0_countWinds_40 : decode cX0_countWinds 40 = .ok (.iinc 6 1, 3) := by decide +kernel
theorem dX0_countWinds_43 : decode cX0_countWinds 43 = .ok (.goto (-37), 3) := by decide +kernel
theorem dX0_countWinds_46 : decode cX0_countWinds 46 = .ok (.iload 5, 2) := by decide +kernel
theorem dX0_countWinds_48 : decode cX0_countWinds 48 = .ok (.ireturn, 1) := by decide +kernel
theorem dX0_leastWind_0 : decode cX0_leastWind 0 = .ok (.iconst 0, 1) := by decide +kernel
theorem dX0_leastWind_1 : decode cX0_leastWind 1 = .ok (.istore 5, 2) := by decide +kernel
theorem dX0_leastWind_3 : decode cX0_leastWind 3 = .ok (.iload 5, 2) := by decide +kernel
theorem dX0_leastWind_5 : decode cX0_leastWind 5 = .ok (.bipush 10, 2) := by decide +kernel
theorem dX0_leastWind_7 : decode cX0_leastWind 7 = .ok (.if_icmp .gt 36, 3) := by decide +kernel
theorem dX0_leastWind_10 : decode cX0_leastWind 10 = .ok (.aload_n 0, 1) := by decide +kernel
theorem dX0_leastWind_11 : decode cX0_leastWind 11 = .ok (.getfield 12, 3) := by decide +kernel
theorem dX0_leastWind_14 : decode cX0_leastWind 14 = .ok (.iload 5, 2) := by decide +kernel
theorem dX0_leastWind_16 : decode cX0_leastWind 16 = .ok (.putfield 22, 3) := by decide +kernel
theorem dX0_leastWind_19 : decode cX0_leastWind 19 = .ok (.aload_n 0, 1) := by decide +kernel
theorem dX0_leastWind_20 : decode cX0_leastWind 20 = .ok (.getfield 12, 3) := by decide +kernel
theorem dX0_leastWind_23 : decode cX0_leastWind 23 = .ok (.iload_n 2, 1) := by decide +kernel
theorem dX0_leastWind_24 : decode cX0_leastWind 24 = .ok (.iload_n 3, 1) := by decide +kernel
theorem dX0_leastWind_25 : decode cX0_leastWind 25 = .ok (.iload 4, 2) := by decide +kernel
theorem dX0_leastWind_27 : decode cX0_leastWind 27 = .ok (.invokevirtual 30, 3) := by decide +kernel
theorem dX0_leastWind_30 : decode cX0_leastWind 30 = .ok (.iload_n 1, 1) := by decide +kernel
theorem dX0_leastWind_31 : decode cX0_leastWind 31 = .ok (.if_icmp .ne 6, 3) := by decide +kernel
theorem dX0_leastWind_34 : decode cX0_leastWind 34 = .ok (.iload 5, 2) := by decide +kernel
theorem dX0_leastWind_36 : decode cX0_leastWind 36 = .ok (.ireturn, 1) := by decide +kernel
theorem dX0_leastWind_37 : decode cX0_leastWind 37 = .ok (.iinc 5 1, 3) := by decide +kernel
theorem dX0_leastWind_40 : decode cX0_leastWind 40 = .ok (.goto (-37), 3) := by decide +kernel
theorem dX0_leastWind_43 : decode cX0_leastWind 43 = .ok (.iconst (-1), 1) := by decide +kernel
theorem dX0_leastWind_44 : decode cX0_leastWind 44 = .ok (.ireturn, 1) := by decide +kernel
theorem dX0_safestThrow_0 : decode cX0_safestThrow 0 = .ok (.iconst (-1), 1) := by decide +kernel
theorem dX0_safestThrow_1 : decode cX0_safestThrow 1 = .ok (.istore_n 3, 1) := by decide +kernel
theorem dX0_safestThrow_2 : decode cX0_safestThrow 2 = .ok (.iconst 0, 1) := by decide +kernel
theorem dX0_safestThrow_3 : decode cX0_safestThrow 3 = .ok (.istore 4, 2) := by decide +kernel
theorem dX0_safestThrow_5 : decode cX0_safestThrow 5 = .ok (.iconst 0, 1) := by decide +kernel
theorem dX0_safestThrow_6 : decode cX0_safestThrow 6 = .ok (.istore 5, 2) := by decide +kernel
theorem dX0_safestThrow_8 : decode cX0_safestThrow 8 = .ok (.iload 5, 2) := by decide +kernel
theorem dX0_safestThrow_10 : decode cX0_safestThrow 10 = .ok (.bipush 30, 2) := by decide +kernel
theorem dX0_safestThrow_12 : decode cX0_safestThrow 12 = .ok (.if_icmp .ge 49, 3) := by decide +kernel
theorem dX0_safestThrow_15 : decode cX0_safestThrow 15 = .ok (.aload_n 0, 1) := by decide +kernel
theorem dX0_safestThrow_16 : decode cX0_safestThrow 16 = .ok (.iload_n 1, 1) := by decide +kernel
theorem dX0_safestThrow_17 : decode cX0_safestThrow 17 = .ok (.iload_n 2, 1) := by decide +kernel
theorem dX0_safestThrow_18 : decode cX0_safestThrow 18 = .ok (.iload 5, 2) := by decide +kernel
theorem dX0_safestThrow_20 : decode cX0_safestThrow 20 = .ok (.iconst 3, 1) := by decide +kernel
theorem dX0_safestThrow_21 : decode cX0_safestThrow 21 = .ok (.idiv, 1) := by decide +kernel
theorem dX0_safestThrow_22 : decode cX0_safestThrow 22 = .ok (.iload 5, 2) := by decide +kernel
theorem dX0_safestThrow_24 : decode cX0_safestThrow 24 = .ok (.iconst 3, 1) := by decide +kernel
theorem dX0_safestThrow_25 : decode cX0_safestThrow 25 = .ok (.irem, 1) := by decide +kernel
theorem dX0_safestThrow_26 : decode cX0_safestThrow 26 = .ok (.invokevirtual 34, 3) := by decide +kernel
theorem dX0_safestThrow_29 : decode cX0_safestThrow 29 = .ok (.istore 6, 2) := by decide +kernel
theorem dX0_safestThrow_31 : decode cX0_safestThrow 31 = .ok (.iload 6, 2) := by decide +kernel
theorem dX0_safestThrow_33 : decode cX0_safestThrow 33 = .ok (.iload 4, 2) := by decide +kernel
theorem dX0_safestThrow_35 : decode cX0_safestThrow 35 = .ok (.if_icmp .le 20, 3) := by decide +kernel
theorem dX0_safestThrow_38 : decode cX0_safestThrow 38 = .ok (.iload 6, 2) := by decide +kernel
theorem dX0_safestThrow_40 : decode cX0_safestThrow 40 = .ok (.istore 4, 2) := by decide +kernel
theorem dX0_safestThrow_42 : decode cX0_safestThrow 42 = .ok (.bipush 10, 2) := by decide +kernel
theorem dX0_safestThrow_44 : decode cX0_safestThrow 44 = .ok (.iload 5, 2) := by decide +kernel
theorem dX0_safestThrow_46 : decode cX0_safestThrow 46 = .ok (.iconst 3, 1) := by decide +kernel
theorem dX0_safestThrow_47 : decode cX0_safestThrow 47 = .ok (.idiv, 1) := by decide +kernel
theorem dX0_safestThrow_48 : decode cX0_safestThrow 48 = .ok (.imul, 1) := by decide +kernel
theorem dX0_safestThrow_49 : decode cX0_safestThrow 49 = .ok (.iload 5, 2) := by decide +kernel
theorem dX0_safestThrow_51 : decode cX0_safestThrow 51 = .ok (.iconst 3, 1) := by decide +kernel
theorem dX0_safestThrow_52 : decode cX0_safestThrow 52 = .ok (.irem, 1) := by decide +kernel
theorem dX0_safestThrow_53 : decode cX0_safestThrow 53 = .ok (.iadd, 1) := by decide +kernel
theorem dX0_safestThrow_54 : decode cX0_safestThrow 54 = .ok (.istore_n 3, 1) := by decide +kernel
theorem dX0_safestThrow_55 : decode cX0_safestThrow 55 = .ok (.iinc 5 1, 3) := by decide +kernel
theorem dX0_safestThrow_58 : decode cX0_safestThrow 58 = .ok (.goto (-50), 3) := by decide +kernel
theorem dX0_safestThrow_61 : decode cX0_safestThrow 61 = .ok (.iload_n 3, 1) := by decide +kernel
theorem dX0_safestThrow_62 : decode cX0_safestThrow 62 = .ok (.ireturn, 1) := by decide +kernel
theorem dX0_seekPlace_0 : decode cX0_seekPlace 0 = .ok (.iconst 0, 1) := by decide +kernel
theorem dX0_seekPlace_1 : decode cX0_seekPlace 1 = .ok (.istore_n 2, 1) := by decide +kernel
theorem dX0_seekPlace_2 : decode cX0_seekPlace 2 = .ok (.iload_n 2, 1) := by decide +kernel
theorem dX0_seekPlace_3 : decode cX0_seekPlace 3 = .ok (.aload_n 0, 1) := by decide +kernel
theorem dX0_seekPlace_4 : decode cX0_seekPlace 4 = .ok (.getfield 12, 3) := by decide +kernel
theorem dX0_seekPlace_7 : decode cX0_seekPlace 7 = .ok (.getfield 38, 3) := by decide +kernel
theorem dX0_seekPlace_10 : decode cX0_seekPlace 10 = .ok (.if_icmp .ge 23, 3) := by decide +kernel
theorem dX0_seekPlace_13 : decode cX0_seekPlace 13 = .ok (.aload_n 0, 1) := by decide +kernel
theorem dX0_seekPlace_14 : decode cX0_seekPlace 14 = .ok (.getfield 18, 3) := by decide +kernel
theorem dX0_seekPlace_17 : decode cX0_seekPlace 17 = .ok (.iload_n 2, 1) := by decide +kernel
theorem dX0_seekPlace_18 : decode cX0_seekPlace 18 = .ok (.aload_n 0, 1) := by decide +kernel
theorem dX0_seekPlace_19 : decode cX0_seekPlace 19 = .ok (.getfield 12, 3) := by decide +kernel
theorem dX0_seekPlace_22 : decode cX0_seekPlace 22 = .ok (.iload_n 2, 1) := by decide +kernel
theorem dX0_seekPlace_23 : decode cX0_seekPlace 23 = .ok (.invokevirtual 26, 3) := by decide +kernel
theorem dX0_seekPlace_26 : decode cX0_seekPlace 26 = .ok (.iastore, 1) := by decide +kernel
theorem dX0_seekPlace_27 : decode cX0_seekPlace 27 = .ok (.iinc 2 1, 3) := by decide +kernel
theorem dX0_seekPlace_30 : decode cX0_seekPlace 30 = .ok (.goto (-28), 3) := by decide +kernel
theorem dX0_seekPlace_33 : decode cX0_seekPlace 33 = .ok (.aload_n 0, 1) := by decide +kernel
theorem dX0_seekPlace_34 : decode cX0_seekPlace 34 = .ok (.iconst 0, 1) := by decide +kernel
theorem dX0_seekPlace_35 : decode cX0_seekPlace 35 = .ok (.putfield 41, 3) := by decide +kernel
theorem dX0_seekPlace_38 : decode cX0_seekPlace 38 = .ok (.aload_n 0, 1) := by decide +kernel
theorem dX0_seekPlace_39 : decode cX0_seekPlace 39 = .ok (.iconst 0, 1) := by decide +kernel
theorem dX0_seekPlace_40 : decode cX0_seekPlace 40 = .ok (.putfield 44, 3) := by decide +kernel
theorem dX0_seekPlace_43 : decode cX0_seekPlace 43 = .ok (.iconst 0, 1) := by decide +kernel
theorem dX0_seekPlace_44 : decode cX0_seekPlace 44 = .ok (.istore_n 2, 1) := by decide +kernel
theorem dX0_seekPlace_45 : decode cX0_seekPlace 45 = .ok (.iload_n 2, 1) := by decide +kernel
theorem dX0_seekPlace_46 : decode cX0_seekPlace 46 = .ok (.aload_n 0, 1) := by decide +kernel
theorem dX0_seekPlace_47 : decode cX0_seekPlace 47 = .ok (.getfield 12, 3) := by decide +kernel
theorem dX0_seekPlace_50 : decode cX0_seekPlace 50 = .ok (.getfield 47, 3) := by decide +kernel
theorem dX0_seekPlace_53 : decode cX0_seekPlace 53 = .ok (.if_icmp .ge 39, 3) := by decide +kernel
theorem dX0_seekPlace_56 : decode cX0_seekPlace 56 = .ok (.aload_n 0, 1) := by decide +kernel
theorem dX0_seekPlace_57 : decode cX0_seekPlace 57 = .ok (.getfield 12, 3) := by decide +kernel
theorem dX0_seekPlace_60 : decode cX0_seekPlace 60 = .ok (.getfield 50, 3) := by decide +kernel
theorem dX0_seekPlace_63 : decode cX0_seekPlace 63 = .ok (.iload_n 1, 1) := by decide +kernel
theorem dX0_seekPlace_64 : decode cX0_seekPlace 64 = .ok (.aaload, 1) := by decide +kernel
theorem dX0_seekPlace_65 : decode cX0_seekPlace 65 = .ok (.iload_n 2, 1) := by decide +kernel
theorem dX0_seekPlace_66 : decode cX0_seekPlace 66 = .ok (.putfield 54, 3) := by decide +kernel
theorem dX0_seekPlace_69 : decode cX0_seekPlace 69 = .ok (.aload_n 0, 1) := by decide +kernel
theorem dX0_seekPlace_70 : decode cX0_seekPlace 70 = .ok (.iload_n 2, 1) := by decide +kernel
theorem dX0_seekPlace_71 : decode cX0_seekPlace 71 = .ok (.aload_n 0, 1) := by decide +kernel
theorem dX0_seekPlace_72 : decode cX0_seekPlace 72 = .ok (.aload_n 0, 1) := by decide +kernel
theorem dX0_seekPlace_73 : decode cX0_seekPlace 73 = .ok (.getfield 12, 3) := by decide +kernel
theorem dX0_seekPlace_76 : decode cX0_seekPlace 76 = .ok (.iload_n 1, 1) := by decide +kernel
theorem dX0_seekPlace_77 : decode cX0_seekPlace 77 = .ok (.invokevirtual 59, 3) := by decide +kernel
theorem dX0_seekPlace_80 : decode cX0_seekPlace 80 = .ok (.invokevirtual 62, 3) := by decide +kernel
theorem dX0_seekPlace_83 : decode cX0_seekPlace 83 = .ok (.invokevirtual 65, 3) := by decide +kernel
theorem dX0_seekPlace_86 : decode cX0_seekPlace 86 = .ok (.iinc 2 1, 3) := by decide +kernel
theorem dX0_seekPlace_89 : decode cX0_seekPlace 89 = .ok (.goto (-44), 3) := by decide +kernel
theorem dX0_seekPlace_92 : decode cX0_seekPlace 92 = .ok (.return_, 1) := by decide +kernel
theorem dX0_countOpenings_0 : decode cX0_countOpenings 0 = .ok (.iconst 0, 1) := by decide +kernel
theorem dX0_countOpenings_1 : decode cX0_countOpenings 1 = .ok (.istore_n 2, 1) := by decide +kernel
theorem dX0_countOpenings_2 : decode cX0_countOpenings 2 = .ok (.iconst 0, 1) := by decide +kernel
theorem dX0_countOpenings_3 : decode cX0_countOpenings 3 = .ok (.istore_n 3, 1) := by decide +kernel
theorem dX0_countOpenings_4 : decode cX0_countOpenings 4 = .ok (.iload_n 3, 1) := by decide +kernel
theorem dX0_countOpenings_5 : decode cX0_countOpenings 5 = .ok (.aload_n 0, 1) := by decide +kernel
theorem dX0_countOpenings_6 : decode cX0_countOpenings 6 = .ok (.getfield 12, 3) := by decide +kernel
theorem dX0_countOpenings_9 : decode cX0_countOpenings 9 = .ok (.getfield 38, 3) := by decide +kernel
theorem dX0_countOpenings_12 : decode cX0_countOpenings 12 = .ok (.if_icmp .ge 23, 3) := by decide +kernel
theorem dX0_countOpenings_15 : decode cX0_countOpenings 15 = .ok (.aload_n 0, 1) := by decide +kernel
theorem dX0_countOpenings_16 : decode cX0_countOpenings 16 = .ok (.getfield 18, 3) := by decide +kernel
theorem dX0_countOpenings_19 : decode cX0_countOpenings 19 = .ok (.iload_n 3, 1) := by decide +kernel
theorem dX0_countOpenings_20 : decode cX0_countOpenings 20 = .ok (.iaload, 1) := by decide +kernel
theorem dX0_countOpenings_21 : decode cX0_countOpenings 21 = .ok (.iload_n 1, 1) := by decide +kernel
theorem dX0_countOpenings_22 : decode cX0_countOpenings 22 = .ok (.iand, 1) := by decide +kernel
theorem dX0_countOpenings_23 : decode cX0_countOpenings 23 = .ok (.ifCond .eq 6, 3) := by decide +kernel
theorem dX0_countOpenings_26 : decode cX0_countOpenings 26 = .ok (.iinc 2 1, 3) := by decide +kernel
theorem dX0_countOpenings_29 : decode cX0_countOpenings 29 = .ok (.iinc 3 1, 3) := by decide +kernel
theorem dX0_countOpenings_32 : decode cX0_countOpenings 32 = .ok (.goto (-28), 3) := by decide +kernel
theorem dX0_countOpenings_35 : decode cX0_countOpenings 35 = .ok (.iload_n 2, 1) := by decide +kernel
theorem dX0_countOpenings_36 : decode cX0_countOpenings 36 = .ok (.ireturn, 1) := by decide +kernel
theorem dX0_seekBed_0 : decode cX0_seekBed 0 = .ok (.aload_n 0, 1) := by decide +kernel
theorem dX0_seekBed_1 : decode cX0_seekBed 1 = .ok (.iconst 0, 1) := by decide +kernel
theorem dX0_seekBed_2 : decode cX0_seekBed 2 = .ok (.putfield 41, 3) := by decide +kernel
theorem dX0_seekBed_5 : decode cX0_seekBed 5 = .ok (.aload_n 0, 1) := by decide +kernel
theorem dX0_seekBed_6 : decode cX0_seekBed 6 = .ok (.iconst 0, 1) := by decide +kernel
theorem dX0_seekBed_7 : decode cX0_seekBed 7 = .ok (.putfield 44, 3) := by decide +kernel
theorem dX0_seekBed_10 : decode cX0_seekBed 10 = .ok (.iconst 0, 1) := by decide +kernel
theorem dX0_seekBed_11 : decode cX0_seekBed 11 = .ok (.istore_n 1, 1) := by decide +kernel
theorem dX0_seekBed_12 : decode cX0_seekBed 12 = .ok (.iload_n 1, 1) := by decide +kernel
theorem dX0_seekBed_13 : decode cX0_seekBed 13 = .ok (.aload_n 0, 1) := by decide +kernel
theorem dX0_seekBed_14 : decode cX0_seekBed 14 = .ok (.getfield 12, 3) := by decide +kernel
theorem dX0_seekBed_17 : decode cX0_seekBed 17 = .ok (.getfield 47, 3) := by decide +kernel
theorem dX0_seekBed_20 : decode cX0_seekBed 20 = .ok (.if_icmp .ge 48, 3) := by decide +kernel
theorem dX0_seekBed_23 : decode cX0_seekBed 23 = .ok (.iconst 0, 1) := by decide +kernel
theorem dX0_seekBed_24 : decode cX0_seekBed 24 = .ok (.istore_n 2, 1) := by decide +kernel
theorem dX0_seekBed_25 : decode cX0_seekBed 25 = .ok (.iconst 0, 1) := by decide +kernel
theorem dX0_seekBed_26 : decode cX0_seekBed 26 = .ok (.istore_n 3, 1) := by decide +kernel
theorem dX0_seekBed_27 : decode cX0_seekBed 27 = .ok (.iload_n 3, 1) := by decide +kernel
theorem dX0_seekBed_28 : decode cX0_seekBed 28 = .ok (.aload_n 0, 1) := by decide +kernel
theorem dX0_seekBed_29 : decode cX0_seekBed 29 = .ok (.getfield 12, 3) := by decide +kernel
theorem dX0_seekBed_32 : decode cX0_seekBed 32 = .ok (.getfield 38, 3) := by decide +kernel
theorem dX0_seekBed_35 : decode cX0_seekBed 35 = .ok (.if_icmp .ge 21, 3) := by decide +kernel
theorem dX0_seekBed_38 : decode cX0_seekBed 38 = .ok (.iload_n 2, 1) := by decide +kernel
theorem dX0_seekBed_39 : decode cX0_seekBed 39 = .ok (.aload_n 0, 1) := by decide +kernel
theorem dX0_seekBed_40 : decode cX0_seekBed 40 = .ok (.getfield 12, 3) := by decide +kernel
theorem dX0_seekBed_43 : decode cX0_seekBed 43 = .ok (.iload_n 3, 1) := by decide +kernel
theorem dX0_seekBed_44 : decode cX0_seekBed 44 = .ok (.iload_n 1, 1) := by decide +kernel
theorem dX0_seekBed_45 : decode cX0_seekBed 45 = .ok (.invokevirtual 69, 3) := by decide +kernel
theorem dX0_seekBed_48 : decode cX0_seekBed 48 = .ok (.iadd, 1) := by decide +kernel
theorem dX0_seekBed_49 : decode cX0_seekBed 49 = .ok (.istore_n 2, 1) := by decide +kernel
theorem dX0_seekBed_50 : decode cX0_seekBed 50 = .ok (.iinc 3 1, 3) := by decide +kernel
theorem dX0_seekBed_53 : decode cX0_seekBed 53 = .ok (.goto (-26), 3) := by decide +kernel
theorem dX0_seekBed_56 : decode cX0_seekBed 56 = .ok (.aload_n 0, 1) := by decide +kernel
theorem dX0_seekBed_57 : decode cX0_seekBed 57 = .ok (.iload_n 1, 1) := by decide +kernel
theorem dX0_seekBed_58 : decode cX0_seekBed 58 = .ok (.iload_n 2, 1) := by decide +kernel
theorem dX0_seekBed_59 : decode cX0_seekBed 59 = .ok (.invokevirtual 65, 3) := by decide +kernel
theorem dX0_seekBed_62 : decode cX0_seekBed 62 = .ok (.iinc 1 1, 3) := by decide +kernel
theorem dX0_seekBed_65 : decode cX0_seekBed 65 = .ok (.goto (-53), 3) := by decide +kernel
theorem dX0_seekBed_68 : decode cX0_seekBed 68 = .ok (.return_, 1) := by decide +kernel
theorem dX0_propose_0 : decode cX0_propose 0 = .ok (.iload_n 2, 1) := by decide +kernel
theorem dX0_propose_1 : decode cX0_propose 1 = .ok (.aload_n 0, 1) := by decide +kernel
theorem dX0_propose_2 : decode cX0_propose 2 = .ok (.getfield 44, 3) := by decide +kernel
theorem dX0_propose_5 : decode cX0_propose 5 = .ok (.if_icmp .le 13, 3) := by decide +kernel
theorem dX0_propose_8 : decode cX0_propose 8 = .ok (.aload_n 0, 1) := by decide +kernel
theorem dX0_propose_9 : decode cX0_propose 9 = .ok (.iload_n 1, 1) := by decide +kernel
theorem dX0_propose_10 : decode cX0_propose 10 = .ok (.putfield 41, 3) := by decide +kernel
theorem dX0_propose_13 : decode cX0_propose 13 = .ok (.aload_n 0, 1) := by decide +kernel
theorem dX0_propose_14 : decode cX0_propose 14 = .ok (.iload_n 2, 1) := by decide +kernel
theorem dX0_propose_15 : decode cX0_propose 15 = .ok (.putfield 44, 3) := by decide +kernel
theorem dX0_propose_18 : decode cX0_propose 18 = .ok (.return_, 1) := by decide +kernel
theorem dX0_windsThatFit_0 : decode cX0_windsThatFit 0 = .ok (.iconst 0, 1) := by decide +kernel
theorem dX0_windsThatFit_1 : decode cX0_windsThatFit 1 = .ok (.istore_n 3, 1) := by decide +kernel
theorem dX0_windsThatFit_2 : decode cX0_windsThatFit 2 = .ok (.iconst 0, 1) := by decide +kernel
theorem dX0_windsThatFit_3 : decode cX0_windsThatFit 3 = .ok (.istore 4, 2) := by decide +kernel
theorem dX0_windsThatFit_5 : decode cX0_windsThatFit 5 = .ok (.iload 4, 2) := by decide +kernel
theorem dX0_windsThatFit_7 : decode cX0_windsThatFit 7 = .ok (.bipush 10, 2) := by decide +kernel
theorem dX0_windsThatFit_9 : decode cX0_windsThatFit 9 = .ok (.if_icmp .gt 34, 3) := by decide +kernel
theorem dX0_windsThatFit_12 : decode cX0_windsThatFit 12 = .ok (.aload_n 0, 1) := by decide +kernel
theorem dX0_windsThatFit_13 : decode cX0_windsThatFit 13 = .ok (.getfield 12, 3) := by decide +kernel
theorem dX0_windsThatFit_16 : decode cX0_windsThatFit 16 = .ok (.iload 4, 2) := by decide +kernel
theorem dX0_windsThatFit_18 : decode cX0_windsThatFit 18 = .ok (.putfield 22, 3) := by decide +kernel
theorem dX0_windsThatFit_21 : decode cX0_windsThatFit 21 = .ok (.aload_n 0, 1) := by decide +kernel
theorem dX0_windsThatFit_22 : decode cX0_windsThatFit 22 = .ok (.aload_n 1, 1) := by decide +kernel
theorem dX0_windsThatFit_23 : decode cX0_windsThatFit 23 = .ok (.iload_n 2, 1) := by decide +kernel
theorem dX0_windsThatFit_24 : decode cX0_windsThatFit 24 = .ok (.invokevirtual 73, 3) := by decide +kernel
theorem dX0_windsThatFit_27 : decode cX0_windsThatFit 27 = .ok (.ifCond .eq 10, 3) := by decide +kernel
theorem dX0_windsThatFit_30 : decode cX0_windsThatFit 30 = .ok (.iload_n 3, 1) := by decide +kernel
theorem dX0_windsThatFit_31 : decode cX0_windsThatFit 31 = .ok (.iconst 1, 1) := by decide +kernel
theorem dX0_windsThatFit_32 : decode cX0_windsThatFit 32 = .ok (.iload 4, 2) := by decide +kernel
theorem dX0_windsThatFit_34 : decode cX0_windsThatFit 34 = .ok (.ishl, 1) := by decide +kernel
theorem dX0_windsThatFit_35 : decode cX0_windsThatFit 35 = .ok (.ior, 1) := by decide +kernel
theorem dX0_windsThatFit_36 : decode cX0_windsThatFit 36 = .ok (.istore_n 3, 1) := by decide +kernel
theorem dX0_windsThatFit_37 : decode cX0_windsThatFit 37 = .ok (.iinc 4 1, 3) := by decide +kernel
theorem dX0_windsThatFit_40 : decode cX0_windsThatFit 40 = .ok (.goto (-35), 3) := by decide +kernel
theorem dX0_windsThatFit_43 : decode cX0_windsThatFit 43 = .ok (.iload_n 3, 1) := by decide +kernel
theorem dX0_windsThatFit_44 : decode cX0_windsThatFit 44 = .ok (.ireturn, 1) := by decide +kernel
theorem dX0_landsAsTold_0 : decode cX0_landsAsTold 0 = .ok (.iconst 0, 1) := by decide +kernel
theorem dX0_landsAsTold_1 : decode cX0_landsAsTold 1 = .ok (.istore_n 3, 1) := by decide +kernel
theorem dX0_landsAsTold_2 : decode cX0_landsAsTold 2 = .ok (.iload_n 3, 1) := by decide +kernel
theorem dX0_landsAsTold_3 : decode cX0_landsAsTold 3 = .ok (.iload_n 2, 1) := by decide +kernel
theorem dX0_landsAsTold_4 : decode cX0_landsAsTold 4 = .ok (.if_icmp .ge 66, 3) := by decide +kernel
theorem dX0_landsAsTold_7 : decode cX0_landsAsTold 7 = .ok (.aload_n 1, 1) := by decide +kernel
theorem dX0_landsAsTold_8 : decode cX0_landsAsTold 8 = .ok (.getfield 77, 3) := by decide +kernel
theorem dX0_landsAsTold_11 : decode cX0_landsAsTold 11 = .ok (.iconst 2, 1) := by decide +kernel
theorem dX0_landsAsTold_12 : decode cX0_landsAsTold 12 = .ok (.iload_n 3, 1) := by decide +kernel
theorem dX0_landsAsTold_13 : decode cX0_landsAsTold 13 = .ok (.imul, 1) := by decide +kernel
theorem dX0_landsAsTold_14 : decode cX0_landsAsTold 14 = .ok (.laload, 1) := by decide +kernel
theorem dX0_landsAsTold_15 : decode cX0_landsAsTold 15 = .ok (.l2i, 1) := by decide +kernel
theorem dX0_landsAsTold_16 : decode cX0_landsAsTold 16 = .ok (.istore 4, 2) := by decide +kernel
theorem dX0_landsAsTold_18 : decode cX0_landsAsTold 18 = .ok (.aload_n 0, 1) := by decide +kernel
theorem dX0_landsAsTold_19 : decode cX0_landsAsTold 19 = .ok (.getfield 12, 3) := by decide +kernel
theorem dX0_landsAsTold_22 : decode cX0_landsAsTold 22 = .ok (.iload 4, 2) := by decide +kernel
theorem dX0_landsAsTold_24 : decode cX0_landsAsTold 24 = .ok (.bipush 100, 2) := by decide +kernel
theorem dX0_landsAsTold_26 : decode cX0_landsAsTold 26 = .ok (.idiv, 1) := by decide +kernel
theorem dX0_landsAsTold_27 : decode cX0_landsAsTold 27 = .ok (.iload 4, 2) := by decide +kernel
theorem dX0_landsAsTold_29 : decode cX0_landsAsTold 29 = .ok (.bipush 10, 2) := by decide +kernel
theorem dX0_landsAsTold_31 : decode cX0_landsAsTold 31 = .ok (.idiv, 1) := by decide +kernel
theorem dX0_landsAsTold_32 : decode cX0_landsAsTold 32 = .ok (.bipush 10, 2) := by decide +kernel
theorem dX0_landsAsTold_34 : decode cX0_landsAsTold 34 = .ok (.irem, 1) := by decide +kernel
theorem dX0_landsAsTold_35 : decode cX0_landsAsTold 35 = .ok (.iload 4, 2) := by decide +kernel
theorem dX0_landsAsTold_37 : decode cX0_landsAsTold 37 = .ok (.bipush 10, 2) := by decide +kernel
theorem dX0_landsAsTold_39 : decode cX0_landsAsTold 39 = .ok (.irem, 1) := by decide +kernel
theorem dX0_landsAsTold_40 : decode cX0_landsAsTold 40 = .ok (.invokevirtual 83, 3) := by decide +kernel
theorem dX0_landsAsTold_43 : decode cX0_landsAsTold 43 = .ok (.istore 5, 2) := by decide +kernel
theorem dX0_landsAsTold_45 : decode cX0_landsAsTold 45 = .ok (.iload 5, 2) := by decide +kernel
theorem dX0_landsAsTold_47 : decode cX0_landsAsTold 47 = .ok (.i2l, 1) := by decide +kernel
theorem dX0_landsAsTold_48 : decode cX0_landsAsTold 48 = .ok (.aload_n 1, 1) := by decide +kernel
theorem dX0_landsAsTold_49 : decode cX0_landsAsTold 49 = .ok (.getfield 77, 3) := by decide +kernel
theorem dX0_landsAsTold_52 : decode cX0_landsAsTold 52 = .ok (.iconst 2, 1) := by decide +kernel
theorem dX0_landsAsTold_53 : decode cX0_landsAsTold 53 = .ok (.iload_n 3, 1) := by decide +kernel
theorem dX0_landsAsTold_54 : decode cX0_landsAsTold 54 = .ok (.imul, 1) := by decide +kernel
theorem dX0_landsAsTold_55 : decode cX0_landsAsTold 55 = .ok (.iconst 1, 1) := by decide +kernel
theorem dX0_landsAsTold_56 : decode cX0_landsAsTold 56 = .ok (.iadd, 1) := by decide +kernel
theorem dX0_landsAsTold_57 : decode cX0_landsAsTold 57 = .ok (.laload, 1) := by decide +kernel
theorem dX0_landsAsTold_58 : decode cX0_landsAsTold 58 = .ok (.lcmp, 1) := by decide +kernel
theorem dX0_landsAsTold_59 : decode cX0_landsAsTold 59 = .ok (.ifCond .eq 5, 3) := by decide +kernel
theorem dX0_landsAsTold_62 : decode cX0_landsAsTold 62 = .ok (.iconst 0, 1) := by decide +kernel
theorem dX0_landsAsTold_63 : decode cX0_landsAsTold 63 = .ok (.ireturn, 1) := by decide +kernel
theorem dX0_landsAsTold_64 : decode cX0_landsAsTold 64 = .ok (.iinc 3 1, 3) := by decide +kernel
theorem dX0_landsAsTold_67 : decode cX0_landsAsTold 67 = .ok (.goto (-65), 3) := by decide +kernel
theorem dX0_landsAsTold_70 : decode cX0_landsAsTold 70 = .ok (.iconst 1, 1) := by decide +kernel
theorem dX0_landsAsTold_71 : decode cX0_landsAsTold 71 = .ok (.ireturn, 1) := by decide +kernel
theorem dX0_follow_0 : decode cX0_follow 0 = .ok (.aload_n 0, 1) := by decide +kernel
theorem dX0_follow_1 : decode cX0_follow 1 = .ok (.iconst 0, 1) := by decide +kernel
theorem dX0_follow_2 : decode cX0_follow 2 = .ok (.putfield 86, 3) := by decide +kernel
theorem dX0_follow_5 : decode cX0_follow 5 = .ok (.aload_n 0, 1) := by decide +kernel
theorem dX0_follow_6 : decode cX0_follow 6 = .ok (.iconst 0, 1) := by decide +kernel
theorem dX0_follow_7 : decode cX0_follow 7 = .ok (.putfield 89, 3) := by decide +kernel
theorem dX0_follow_10 : decode cX0_follow 10 = .ok (.aload_n 0, 1) := by decide +kernel
theorem dX0_follow_11 : decode cX0_follow 11 = .ok (.iconst 0, 1) := by decide +kernel
theorem dX0_follow_12 : decode cX0_follow 12 = .ok (.putfield 92, 3) := by decide +kernel
theorem dX0_follow_15 : decode cX0_follow 15 = .ok (.iconst 0, 1) := by decide +kernel
theorem dX0_follow_16 : decode cX0_follow 16 = .ok (.istore_n 3, 1) := by decide +kernel
theorem dX0_follow_17 : decode cX0_follow 17 = .ok (.iload_n 3, 1) := by decide +kernel
theorem dX0_follow_18 : decode cX0_follow 18 = .ok (.iload_n 2, 1) := by decide +kernel
theorem dX0_follow_19 : decode cX0_follow 19 = .ok (.if_icmp .ge 112, 3) := by decide +kernel
theorem dX0_follow_22 : decode cX0_follow 22 = .ok (.aload_n 1, 1) := by decide +kernel
theorem dX0_follow_23 : decode cX0_follow 23 = .ok (.getfield 77, 3) := by decide +kernel
theorem dX0_follow_26 : decode cX0_follow 26 = .ok (.iload_n 3, 1) := by decide +kernel
theorem dX0_follow_27 : decode cX0_follow 27 = .ok (.laload, 1) := by decide +kernel
theorem dX0_follow_28 : decode cX0_follow 28 = .ok (.l2i, 1) := by decide +kernel
theorem dX0_follow_29 : decode cX0_follow 29 = .ok (.istore 4, 2) := by decide +kernel
theorem dX0_follow_31 : decode cX0_follow 31 = .ok (.iload 4, 2) := by decide +kernel
theorem dX0_follow_33 : decode cX0_follow 33 = .ok (.bipush 100, 2) := by decide +kernel
theorem dX0_follow_35 : decode cX0_follow 35 = .ok (.idiv, 1) := by decide +kernel
theorem dX0_follow_36 : decode cX0_follow 36 = .ok (.istore 5, 2) := by decide +kernel
theorem dX0_follow_38 : decode cX0_follow 38 = .ok (.iload 4, 2) := by decide +kernel
theorem dX0_follow_40 : decode cX0_follow 40 = .ok (.bipush 10, 2) := by decide +kernel
theorem dX0_follow_42 : decode cX0_follow 42 = .ok (.idiv, 1) := by decide +kernel
theorem dX0_follow_43 : decode cX0_follow 43 = .ok (.bipush 10, 2) := by decide +kernel
theorem dX0_follow_45 : decode cX0_follow 45 = .ok (.irem, 1) := by decide +kernel
theorem dX0_follow_46 : decode cX0_follow 46 = .ok (.istore 6, 2) := by decide +kernel
theorem dX0_follow_48 : decode cX0_follow 48 = .ok (.iload 4, 2) := by decide +kernel
theorem dX0_follow_50 : decode cX0_follow 50 = .ok (.bipush 10, 2) := by decide +kernel
theorem dX0_follow_52 : decode cX0_follow 52 = .ok (.irem, 1) := by decide +kernel
theorem dX0_follow_53 : decode cX0_follow 53 = .ok (.istore 7, 2) := by decide +kernel
theorem dX0_follow_55 : decode cX0_follow 55 = .ok (.aload_n 0, 1) := by decide +kernel
theorem dX0_follow_56 : decode cX0_follow 56 = .ok (.getfield 12, 3) := by decide +kernel
theorem dX0_follow_59 : decode cX0_follow 59 = .ok (.iload 5, 2) := by decide +kernel
theorem dX0_follow_61 : decode cX0_follow 61 = .ok (.iload 6, 2) := by decide +kernel
theorem dX0_follow_63 : decode cX0_follow 63 = .ok (.iload 7, 2) := by decide +kernel
theorem dX0_follow_65 : decode cX0_follow 65 = .ok (.invokevirtual 83, 3) := by decide +kernel
theorem dX0_follow_68 : decode cX0_follow 68 = .ok (.iconst (-1), 1) := by decide +kernel
theorem dX0_follow_69 : decode cX0_follow 69 = .ok (.if_icmp .ne 16, 3) := by decide +kernel
theorem dX0_follow_72 : decode cX0_follow 72 = .ok (.aload_n 0, 1) := by decide +kernel
theorem dX0_follow_73 : decode cX0_follow 73 = .ok (.dup, 1) := by decide +kernel
theorem dX0_follow_74 : decode cX0_follow 74 = .ok (.getfield 92, 3) := by decide +kernel
theorem dX0_follow_77 : decode cX0_follow 77 = .ok (.iconst 1, 1) := by decide +kernel
theorem dX0_follow_78 : decode cX0_follow 78 = .ok (.iadd, 1) := by decide +kernel
theorem dX0_follow_79 : decode cX0_follow 79 = .ok (.putfield 92, 3) := by decide +kernel
theorem dX0_follow_82 : decode cX0_follow 82 = .ok (.goto 43, 3) := by decide +kernel
theorem dX0_follow_85 : decode cX0_follow 85 = .ok (.aload_n 0, 1) := by decide +kernel
theorem dX0_follow_86 : decode cX0_follow 86 = .ok (.getfield 12, 3) := by decide +kernel
theorem dX0_follow_89 : decode cX0_follow 89 = .ok (.iload 5, 2) := by decide +kernel
theorem dX0_follow_91 : decode cX0_follow 91 = .ok (.iload 6, 2) := by decide +kernel
theorem dX0_follow_93 : decode cX0_follow 93 = .ok (.iload 7, 2) := by decide +kernel
theorem dX0_follow_95 : decode cX0_follow 95 = .ok (.invokevirtual 95, 3) := by decide +kernel
theorem dX0_follow_98 : decode cX0_follow 98 = .ok (.iconst (-1), 1) := by decide +kernel
theorem dX0_follow_99 : decode cX0_follow 99 = .ok (.if_icmp .ne 16, 3) := by decide +kernel
theorem dX0_follow_102 : decode cX0_follow 102 = .ok (.aload_n 0, 1) := by decide +kernel
theorem dX0_follow_103 : decode cX0_follow 103 = .ok (.dup, 1) := by decide +kernel
theorem dX0_follow_104 : decode cX0_follow 104 = .ok (.getfield 89, 3) := by decide +kernel
theorem dX0_follow_107 : decode cX0_follow 107 = .ok (.iconst 1, 1) := by decide +kernel
theorem dX0_follow_108 : decode cX0_follow 108 = .ok (.iadd, 1) := by decide +kernel
theorem dX0_follow_109 : decode cX0_follow 109 = .ok (.putfield 89, 3) := by decide +kernel
theorem dX0_follow_112 : decode cX0_follow 112 = .ok (.goto 13, 3) := by decide +kernel
theorem dX0_follow_115 : decode cX0_follow 115 = .ok (.aload_n 0, 1) := by decide +kernel
theorem dX0_follow_116 : decode cX0_follow 116 = .ok (.dup, 1) := by decide +kernel
theorem dX0_follow_117 : decode cX0_follow 117 = .ok (.getfield 86, 3) := by decide +kernel
theorem dX0_follow_120 : decode cX0_follow 120 = .ok (.iconst 1, 1) := by decide +kernel
theorem dX0_follow_121 : decode cX0_follow 121 = .ok (.iadd, 1) := by decide +kernel
theorem dX0_follow_122 : decode cX0_follow 122 = .ok (.putfield 86, 3) := by decide +kernel
theorem dX0_follow_125 : decode cX0_follow 125 = .ok (.iinc 3 1, 3) := by decide +kernel
theorem dX0_follow_128 : decode cX0_follow 128 = .ok (.goto (-111), 3) := by decide +kernel
theorem dX0_follow_131 : decode cX0_follow 131 = .ok (.return_, 1) := by decide +kernel
theorem dX1_init_0 : decode cX1_init 0 = .ok (.aload_n 0, 1) := by decide +kernel
theorem dX1_init_1 : decode cX1_init 1 = .ok (.invokespecial 3, 3) := by decide +kernel
theorem dX1_init_4 : decode cX1_init 4 = .ok (.aload_n 0, 1) := by decide +kernel
theorem dX1_init_5 : decode cX1_init 5 = .ok (.new 9, 3) := by decide +kernel
theorem dX1_init_8 : decode cX1_init 8 = .ok (.dup, 1) := by decide +kernel
theorem dX1_init_9 : decode cX1_init 9 = .ok (.invokespecial 11, 3) := by decide +kernel
theorem dX1_init_12 : decode cX1_init 12 = .ok (.putfield 12, 3) := by decide +kernel
theorem dX1_init_15 : decode cX1_init 15 = .ok (.aload_n 0, 1) := by decide +kernel
theorem dX1_init_16 : decode cX1_init 16 = .ok (.bipush 8, 2) := by decide +kernel
theorem dX1_init_18 : decode cX1_init 18 = .ok (.newarray .int, 2) := by decide +kernel
theorem dX1_init_20 : decode cX1_init 20 = .ok (.putfield 18, 3) := by decide +kernel
theorem dX1_init_23 : decode cX1_init 23 = .ok (.aload_n 0, 1) := by decide +kernel
theorem dX1_init_24 : decode cX1_init 24 = .ok (.bipush 9, 2) := by decide +kernel
theorem dX1_init_26 : decode cX1_init 26 = .ok (.sipush 256, 3) := by decide +kernel
theorem dX1_init_29 : decode cX1_init 29 = .ok (.multianewarray 22 2, 4) := by decide +kernel
theorem dX1_init_33 : decode cX1_init 33 = .ok (.putfield 24, 3) := by decide +kernel
theorem dX1_init_36 : decode cX1_init 36 = .ok (.aload_n 0, 1) := by decide +kernel
theorem dX1_init_37 : decode cX1_init 37 = .ok (.bipush 8, 2) := by decide +kernel
theorem dX1_init_39 : decode cX1_init 39 = .ok (.newarray .int, 2) := by decide +kernel
theorem dX1_init_41 : decode cX1_init 41 = .ok (.putfield 27, 3) := by decide +kernel
theorem dX1_init_44 : decode cX1_init 44 = .ok (.return_, 1) := by decide +kernel
theorem dX1_settle_0 : decode cX1_settle 0 = .ok (.aload_n 0, 1) := by decide +kernel
theorem dX1_settle_1 : decode cX1_settle 1 = .ok (.getfield 12, 3) := by decide +kernel
theorem dX1_settle_4 : decode cX1_settle 4 = .ok (.aload_n 1, 1) := by decide +kernel
theorem dX1_settle_5 : decode cX1_settle 5 = .ok (.invokevirtual 30, 3) := by decide +kernel
theorem dX1_settle_8 : decode cX1_settle 8 = .ok (.iconst 0, 1) := by decide +kernel
theorem dX1_settle_9 : decode cX1_settle 9 = .ok (.istore_n 2, 1) := by decide +kernel
theorem dX1_settle_10 : decode cX1_settle 10 = .ok (.iload_n 2, 1) := by decide +kernel
theorem dX1_settle_11 : decode cX1_settle 11 = .ok (.aload_n 0, 1) := by decide +kernel
theorem dX1_settle_12 : decode cX1_settle 12 = .ok (.getfield 12, 3) := by decide +kernel
theorem dX1_settle_15 : decode cX1_settle 15 = .ok (.getfield 34, 3) := by decide +kernel
theorem dX1_settle_18 : decode cX1_settle 18 = .ok (.if_icmp .ge 21, 3) := by decide +kernel
theorem dX1_settle_21 : decode cX1_settle 21 = .ok (.aload_n 0, 1) := by decide +kernel
theorem dX1_settle_22 : decode cX1_settle 22 = .ok (.getfield 12, 3) := by decide +kernel
theorem dX1_settle_25 : decode cX1_settle 25 = .ok (.getfield 38, 3) := by decide +kernel
theorem dX1_settle_28 : decode cX1_settle 28 = .ok (.iload_n 2, 1) := by decide +kernel
theorem dX1_settle_29 : decode cX1_settle 29 = .ok (.aaload, 1) := by decide +kernel
theorem dX1_settle_30 : decode cX1_settle 30 = .ok (.invokevirtual 42, 3) := by decide +kernel
theorem dX1_settle_33 : decode cX1_settle 33 = .ok (.iinc 2 1, 3) := by decide +kernel
theorem dX1_settle_36 : decode cX1_settle 36 = .ok (.goto (-26), 3) := by decide +kernel
theorem dX1_settle_39 : decode cX1_settle 39 = .ok (.iconst 0, 1) := by decide +kernel
theorem dX1_settle_40 : decode cX1_settle 40 = .ok (.istore_n 2, 1) := by decide +kernel
theorem dX1_settle_41 : decode cX1_settle 41 = .ok (.iload_n 2, 1) := by decide +kernel
theorem dX1_settle_42 : decode cX1_settle 42 = .ok (.aload_n 0, 1) := by decide +kernel
theorem dX1_settle_43 : decode cX1_settle 43 = .ok (.getfield 12, 3) := by decide +kernel
theorem dX1_settle_46 : decode cX1_settle 46 = .ok (.getfield 47, 3) := by decide +kernel
theorem dX1_settle_49 : decode cX1_settle 49 = .ok (.if_icmp .ge 23, 3) := by decide +kernel
theorem dX1_settle_52 : decode cX1_settle 52 = .ok (.aload_n 0, 1) := by decide +kernel
theorem dX1_settle_53 : decode cX1_settle 53 = .ok (.getfield 18, 3) := by decide +kernel
theorem dX1_settle_56 : decode cX1_settle 56 = .ok (.iload_n 2, 1) := by decide +kernel
theorem dX1_settle_57 : decode cX1_settle 57 = .ok (.aload_n 0, 1) := by decide +kernel
theorem dX1_settle_58 : decode cX1_settle 58 = .ok (.getfield 12, 3) := by decide +kernel
theorem dX1_settle_61 : decode cX1_settle 61 = .ok (.iload_n 2, 1) := by decide +kernel
theorem dX1_settle_62 : decode cX1_settle 62 = .ok (.invokevirtual 50, 3) := by decide +kernel
theorem dX1_settle_65 : decode cX1_settle 65 = .ok (.iastore, 1) := by decide +kernel
theorem dX1_settle_66 : decode cX1_settle 66 = .ok (.iinc 2 1, 3) := by decide +kernel
theorem dX1_settle_69 : decode cX1_settle 69 = .ok (.goto (-28), 3) := by decide +kernel
theorem dX1_settle_72 : decode cX1_settle 72 = .ok (.aload_n 0, 1) := by decide +kernel
theorem dX1_settle_73 : decode cX1_settle 73 = .ok (.invokevirtual 54, 3) := by decide +kernel
theorem dX1_settle_76 : decode cX1_settle 76 = .ok (.aload_n 0, 1) := by decide +kernel
theorem dX1_settle_77 : decode cX1_settle 77 = .ok (.invokevirtual 57, 3) := by decide +kernel
theorem dX1_settle_80 : decode cX1_settle 80 = .ok (.return_, 1) := by decide +kernel
theorem dX1_fondTogether_0 : decode cX1_fondTogether 0 = .ok (.aload_n 0, 1) := by decide +kernel
theorem dX1_fondTogether_1 : decode cX1_fondTogether 1 = .ok (.getfield 24, 3) := by decide +kernel
theorem dX1_fondTogether_4 : decode cX1_fondTogether 4 = .ok (.iconst 0, 1) := by decide +kernel
theorem dX1_fondTogether_5 : decode cX1_fondTogether 5 = .ok (.aaload, 1) := by decide +kernel
theorem dX1_fondTogether_6 : decode cX1_fondTogether 6 = .ok (.iconst 0, 1) := by decide +kernel
theorem dX1_fondTogether_7 : decode cX1_fondTogether 7 = .ok (.iaload, 1) := by decide +kernel
theorem dX1_fondTogether_8 : decode cX1_fondTogether 8 = .ok (.ireturn, 1) := by decide +kernel
theorem dX1_countPaired_0 : decode cX1_countPaired 0 = .ok (.iconst 0, 1) := by decide +kernel
theorem dX1_countPaired_1 : decode cX1_countPaired 1 = .ok (.istore_n 1, 1) := by decide +kernel
theorem dX1_countPaired_2 : decode cX1_countPaired 2 = .ok (.iconst 0, 1) := by decide +kernel
theorem dX1_countPaired_3 : decode cX1_countPaired 3 = .ok (.istore_n 2, 1) := by decide +kernel
theorem dX1_countPaired_4 : decode cX1_countPaired 4 = .ok (.iload_n 2, 1) := by decide +kernel
theorem dX1_countPaired_5 : decode cX1_countPaired 5 = .ok (.aload_n 0, 1) := by decide +kernel
theorem dX1_countPaired_6 : decode cX1_countPaired 6 = .ok (.getfield 12, 3) := by decide +kernel
theorem dX1_countPaired_9 : decode cX1_countPaired 9 = .ok (.getfield 47, 3) := by decide +kernel
theorem dX1_countPaired_12 : decode cX1_countPaired 12 = .ok (.if_icmp .ge 22, 3) := by decide +kernel
theorem dX1_countPaired_15 : decode cX1_countPaired 15 = .ok (.aload_n 0, 1) := by decide +kernel
theorem dX1_countPaired_16 : decode cX1_countPaired 16 = .ok (.getfield 27, 3) := by decide +kernel
theorem dX1_countPaired_19 : decode cX1_countPaired 19 = .ok (.iload_n 2, 1) := by decide +kernel
theorem dX1_countPaired_20 : decode cX1_countPaired 20 = .ok (.iaload, 1) := by decide +kernel
theorem dX1_countPaired_21 : decode cX1_countPaired 21 = .ok (.iconst (-1), 1) := by decide +kernel
theorem dX1_countPaired_22 : decode cX1_countPaired 22 = .ok (.if_icmp .eq 6, 3) := by decide +kernel
theorem dX1_countPaired_25 : decode cX1_countPaired 25 = .ok (.iinc 1 1, 3) := by decide +kernel
theorem dX1_countPaired_28 : decode cX1_countPaired 28 = .ok (.iinc 2 1, 3) := by decide +kernel
theorem dX1_countPaired_31 : decode cX1_countPaired 31 = .ok (.goto (-27), 3) := by decide +kernel
theorem dX1_countPaired_34 : decode cX1_countPaired 34 = .ok (.iload_n 1, 1) := by decide +kernel
theorem dX1_countPaired_35 : decode cX1_countPaired 35 = .ok (.ireturn, 1) := by decide +kernel
theorem dX1_weigh_0 : decode cX1_weigh 0 = .ok (.iconst 1, 1) := by decide +kernel
theorem dX1_weigh_1 : decode cX1_weigh 1 = .ok (.aload_n 0, 1) := by decide +kernel
theorem dX1_weigh_2 : decode cX1_weigh 2 = .ok (.getfield 12, 3) := by decide +kernel
theorem dX1_weigh_5 : decode cX1_weigh 5 = .ok (.getfield 34, 3) := by decide +kernel
theorem dX1_weigh_8 : decode cX1_weigh 8 = .ok (.ishl, 1) := by decide +kernel
theorem dX1_weigh_9 : decode cX1_weigh 9 = .ok (.iconst 1, 1) := by decide +kernel
theorem dX1_weigh_10 : decode cX1_weigh 10 = .ok (.isub, 1) := by decide +kernel
theorem dX1_weigh_11 : decode cX1_weigh 11 = .ok (.istore_n 1, 1) := by decide +kernel
theorem dX1_weigh_12 : decode cX1_weigh 12 = .ok (.iconst 0, 1) := by decide +kernel
theorem dX1_weigh_13 : decode cX1_weigh 13 = .ok (.istore_n 2, 1) := by decide +kernel
theorem dX1_weigh_14 : decode cX1_weigh 14 = .ok (.iload_n 2, 1) := by decide +kernel
theorem dX1_weigh_15 : decode cX1_weigh 15 = .ok (.iload_n 1, 1) := by decide +kernel
theorem dX1_weigh_16 : decode cX1_weigh 16 = .ok (.if_icmp .gt 24, 3) := by decide +kernel
theorem dX1_weigh_19 : decode cX1_weigh 19 = .ok (.aload_n 0, 1) := by decide +kernel
theorem dX1_weigh_20 : decode cX1_weigh 20 = .ok (.getfield 24, 3) := by decide +kernel
theorem dX1_weigh_23 : decode cX1_weigh 23 = .ok (.aload_n 0, 1) := by decide +kernel
theorem dX1_weigh_24 : decode cX1_weigh 24 = .ok (.getfield 12, 3) := by decide +kernel
theorem dX1_weigh_27 : decode cX1_weigh 27 = .ok (.getfield 47, 3) := by decide +kernel
theorem dX1_weigh_30 : decode cX1_weigh 30 = .ok (.aaload, 1) := by decide +kernel
theorem dX1_weigh_31 : decode cX1_weigh 31 = .ok (.iload_n 2, 1) := by decide +kernel
theorem dX1_weigh_32 : decode cX1_weigh 32 = .ok (.iconst 0, 1) := by decide +kernel
theorem dX1_weigh_33 : decode cX1_weigh 33 = .ok (.iastore, 1) := by decide +kernel
theorem dX1_weigh_34 : decode cX1_weigh 34 = .ok (.iinc 2 1, 3) := by decide +kernel
theorem dX1_weigh_37 : decode cX1_weigh 37 = .ok (.goto (-23), 3) := by decide +kernel
theorem dX1_weigh_40 : decode cX1_weigh 40 = .ok (.aload_n 0, 1) := by decide +kernel
theorem dX1_weigh_41 : decode cX1_weigh 41 = .ok (.getfield 12, 3) := by decide +kernel
theorem dX1_weigh_44 : decode cX1_weigh 44 = .ok (.getfield 47, 3) := by decide +kernel
theorem dX1_weigh_47 : decode cX1_weigh 47 = .ok (.iconst 1, 1) := by decide +kernel
theorem dX1_weigh_48 : decode cX1_weigh 48 = .ok (.isub, 1) := by decide +kernel
theorem dX1_weigh_49 : decode cX1_weigh 49 = .ok (.istore_n 2, 1) := by decide +kernel
theorem dX1_weigh_50 : decode cX1_weigh 50 = .ok (.iload_n 2, 1) := by decide +kernel
theorem dX1_weigh_51 : decode cX1_weigh 51 = .ok (.ifCond .lt 36, 3) := by decide +kernel
theorem dX1_weigh_54 : decode cX1_weigh 54 = .ok (.iconst 0, 1) := by decide +kernel
theorem dX1_weigh_55 : decode cX1_weigh 55 = .ok (.istore_n 3, 1) := by decide +kernel
theorem dX1_weigh_56 : decode cX1_weigh 56 = .ok (.iload_n 3, 1) := by decide +kernel
theorem dX1_weigh_57 : decode cX1_weigh 57 = .ok (.iload_n 1, 1) := by decide +kernel
theorem dX1_weigh_58 : decode cX1_weigh 58 = .ok (.if_icmp .gt 23, 3) := by decide +kernel
theorem dX1_weigh_61 : decode cX1_weigh 61 = .ok (.aload_n 0, 1) := by decide +kernel
theorem dX1_weigh_62 : decode cX1_weigh 62 = .ok (.getfield 24, 3) := by decide +kernel
theorem dX1_weigh_65 : decode cX1_weigh 65 = .ok (.iload_n 2, 1) := by decide +kernel
theorem dX1_weigh_66 : decode cX1_weigh 66 = .ok (.aaload, 1) := by decide +kernel
theorem dX1_weigh_67 : decode cX1_weigh 67 = .ok (.iload_n 3, 1) := by decide +kernel
theorem dX1_weigh_68 : decode cX1_weigh 68 = .ok (.aload_n 0, 1) := by decide +kernel
theorem dX1_weigh_69 : decode cX1_weigh 69 = .ok (.iload_n 2, 1) := by decide +kernel
theorem dX1_weigh_70 : decode cX1_weigh 70 = .ok (.iload_n 3, 1) := by decide +kernel
theorem dX1_weigh_71 : decode cX1_weigh 71 = .ok (.invokevirtual 60, 3) := by decide +kernel
theorem dX1_weigh_74 : decode cX1_weigh 74 = .ok (.iastore, 1) := by decide +kernel
theorem dX1_weigh_75 : decode cX1_weigh 75 = .ok (.iinc 3 1, 3) := by decide +kernel
theorem dX1_weigh_78 : decode cX1_weigh 78 = .ok (.goto (-22), 3) := by decide +kernel
theorem dX1_weigh_81 : decode cX1_weigh 81 = .ok (.iinc 2 (-1), 3) := by decide +kernel
theorem dX1_weigh_84 : decode cX1_weigh 84 = .ok (.goto (-34), 3) := by decide +kernel
theorem dX1_weigh_87 : decode cX1_weigh 87 = .ok (.return_, 1) := by decide +kernel
theorem dX1_mostFrom_0 : decode cX1_mostFrom 0 = .ok (.aload_n 0, 1) := by decide +kernel
theorem dX1_mostFrom_1 : decode cX1_mostFrom 1 = .ok (.getfield 24, 3) := by decide +kernel
theorem dX1_mostFrom_4 : decode cX1_mostFrom 4 = .ok (.iload_n 1, 1) := by decide +kernel
theorem dX1_mostFrom_5 : decode cX1_mostFrom 5 = .ok (.iconst 1, 1) := by decide +kernel
theorem dX1_mostFrom_6 : decode cX1_mostFrom 6 = .ok (.iadd, 1) := by decide +kernel
theorem dX1_mostFrom_7 : decode cX1_mostFrom 7 = .ok (.aaload, 1) := by decide +kernel
theorem dX1_mostFrom_8 : decode cX1_mostFrom 8 = .ok (.iload_n 2, 1) := by decide +kernel
theorem dX1_mostFrom_9 : decode cX1_mostFrom 9 = .ok (.iaload, 1) := by decide +kernel
theorem dX1_mostFrom_10 : decode cX1_mostFrom 10 = .ok (.istore_n 3, 1) := by decide +kernel
theorem dX1_mostFrom_11 : decode cX1_mostFrom 11 = .ok (.aload_n 0, 1) := by decide +kernel
theorem dX1_mostFrom_12 : decode cX1_mostFrom 12 = .ok (.getfield 18, 3) := by decide +kernel
theorem dX1_mostFrom_15 : decode cX1_mostFrom 15 = .ok (.iload_n 1, 1) := by decide +kernel
theorem dX1_mostFrom_16 : decode cX1_mostFrom 16 = .ok (.iaload, 1) := by decide +kernel
theorem dX1_mostFrom_17 : decode cX1_mostFrom 17 = .ok (.iload_n 2, 1) := by decide +kernel
theorem dX1_mostFrom_18 : decode cX1_mostFrom 18 = .ok (.iconst (-1), 1) := by decide +kernel
theorem dX1_mostFrom_19 : decode cX1_mostFrom 19 = .ok (.ixor, 1) := by decide +kernel
theorem dX1_mostFrom_20 : decode cX1_mostFrom 20 = .ok (.iand, 1) := by decide +kernel
theorem dX1_mostFrom_21 : decode cX1_mostFrom 21 = .ok (.istore 4, 2) := by decide +kernel
theorem dX1_mostFrom_23 : decode cX1_mostFrom 23 = .ok (.iconst 0, 1) := by decide +kernel
theorem dX1_mostFrom_24 : decode cX1_mostFrom 24 = .ok (.istore 5, 2) := by decide +kernel
theorem dX1_mostFrom_26 : decode cX1_mostFrom 26 = .ok (.iload 5, 2) := by decide +kernel
theorem dX1_mostFrom_28 : decode cX1_mostFrom 28 = .ok (.aload_n 0, 1) := by decide +kernel
theorem dX1_mostFrom_29 : decode cX1_mostFrom 29 = .ok (.getfield 12, 3) := by decide +kernel
theorem dX1_mostFrom_32 : decode cX1_mostFrom 32 = .ok (.getfield 34, 3) := by decide +kernel
theorem dX1_mostFrom_35 : decode cX1_mostFrom 35 = .ok (.if_icmp .ge 32, 3) := by decide +kernel
theorem dX1_mostFrom_38 : decode cX1_mostFrom 38 = .ok (.iload 4, 2) := by decide +kernel
theorem dX1_mostFrom_40 : decode cX1_mostFrom 40 = .ok (.iload 5, 2) := by decide +kernel
theorem dX1_mostFrom_42 : decode cX1_mostFrom 42 = .ok (.ishr, 1) := by decide +kernel
theorem dX1_mostFrom_43 : decode cX1_mostFrom 43 = .ok (.iconst 1, 1) := by decide +kernel
theorem dX1_mostFrom_44 : decode cX1_mostFrom 44 = .ok (.iand, 1) := by decide +kernel
theorem dX1_mostFrom_45 : decode cX1_mostFrom 45 = .ok (.ifCond .eq 16, 3) := by decide +kernel
theorem dX1_mostFrom_48 : decode cX1_mostFrom 48 = .ok (.iload_n 3, 1) := by decide +kernel
theorem dX1_mostFrom_49 : decode cX1_mostFrom 49 = .ok (.aload_n 0, 1) := by decide +kernel
theorem dX1_mostFrom_50 : decode cX1_mostFrom 50 = .ok (.iload_n 1, 1) := by decide +kernel
theorem dX1_mostFrom_51 : decode cX1_mostFrom 51 = .ok (.iload_n 2, 1) := by decide +kernel
theorem dX1_mostFrom_52 : decode cX1_mostFrom 52 = .ok (.iload 5, 2) := by decide +kernel
theorem dX1_mostFrom_54 : decode cX1_mostFrom 54 = .ok (.invokevirtual 64, 3) := by decide +kernel
theorem dX1_mostFrom_57 : decode cX1_mostFrom 57 = .ok (.invokestatic 68, 3) := by decide +kernel
theorem dX1_mostFrom_60 : decode cX1_mostFrom 60 = .ok (.istore_n 3, 1) := by decide +kernel
theorem dX1_mostFrom_61 : decode cX1_mostFrom 61 = .ok (.iinc 5 1, 3) := by decide +kernel
theorem dX1_mostFrom_64 : decode cX1_mostFrom 64 = .ok (.goto (-38), 3) := by decide +kernel
theorem dX1_mostFrom_67 : decode cX1_mostFrom 67 = .ok (.iload_n 3, 1) := by decide +kernel
theorem dX1_mostFrom_68 : decode cX1_mostFrom 68 = .ok (.ireturn, 1) := by decide +kernel
theorem dX1_mostWith_0 : decode cX1_mostWith 0 = .ok (.aload_n 0, 1) := by decide +kernel
theorem dX1_mostWith_1 : decode cX1_mostWith 1 = .ok (.getfield 12, 3) := by decide +kernel
theorem dX1_mostWith_4 : decode cX1_mostWith 4 = .ok (.iload_n 1, 1) := by decide +kernel
theorem dX1_mostWith_5 : decode cX1_mostWith 5 = .ok (.iload_n 3, 1) := by decide +kernel
theorem dX1_mostWith_6 : decode cX1_mostWith 6 = .ok (.invokevirtual 73, 3) := by decide +kernel
theorem dX1_mostWith_9 : decode cX1_mostWith 9 = .ok (.aload_n 0, 1) := by decide +kernel
theorem dX1_mostWith_10 : decode cX1_mostWith 10 = .ok (.getfield 24, 3) := by decide +kernel
theorem dX1_mostWith_13 : decode cX1_mostWith 13 = .ok (.iload_n 1, 1) := by decide +kernel
theorem dX1_mostWith_14 : decode cX1_mostWith 14 = .ok (.iconst 1, 1) := by decide +kernel
theorem dX1_mostWith_15 : decode cX1_mostWith 15 = .ok (.iadd, 1) := by decide +kernel
theorem dX1_mostWith_16 : decode cX1_mostWith 16 = .ok (.aaload, 1) := by decide +kernel
theorem dX1_mostWith_17 : decode cX1_mostWith 17 = .ok (.iload_n 2, 1) := by decide +kernel
theorem dX1_mostWith_18 : decode cX1_mostWith 18 = .ok (.iconst 1, 1) := by decide +kernel
theorem dX1_mostWith_19 : decode cX1_mostWith 19 = .ok (.iload_n 3, 1) := by decide +kernel
theorem dX1_mostWith_20 : decode cX1_mostWith 20 = .ok (.ishl, 1) := by decide +kernel
theorem dX1_mostWith_21 : decode cX1_mostWith 21 = .ok (.ior, 1) := by decide +kernel
theorem dX1_mostWith_22 : decode cX1_mostWith 22 = .ok (.iaload, 1) := by decide +kernel
theorem dX1_mostWith_23 : decode cX1_mostWith 23 = .ok (.iadd, 1) := by decide +kernel
theorem dX1_mostWith_24 : decode cX1_mostWith 24 = .ok (.ireturn, 1) := by decide +kernel
theorem dX1_choose_0 : decode cX1_choose 0 = .ok (.iconst 0, 1) := by decide +kernel
theorem dX1_choose_1 : decode cX1_choose 1 = .ok (.istore_n 1, 1) := by decide +kernel
theorem dX1_choose_2 : decode cX1_choose 2 = .ok (.iconst 0, 1) := by decide +kernel
theorem dX1_choose_3 : decode cX1_choose 3 = .ok (.istore_n 2, 1) := by decide +kernel
theorem dX1_choose_4 : decode cX1_choose 4 = .ok (.iload_n 2, 1) := by decide +kernel
theorem dX1_choose_5 : decode cX1_choose 5 = .ok (.aload_n 0, 1) := by decide +kernel
theorem dX1_choose_6 : decode cX1_choose 6 = .ok (.getfield 12, 3) := by decide +kernel
theorem dX1_choose_9 : decode cX1_choose 9 = .ok (.getfield 47, 3) := by decide +kernel
theorem dX1_choose_12 : decode cX1_choose 12 = .ok (.if_icmp .ge 42, 3) := by decide +kernel
theorem dX1_choose_15 : decode cX1_choose 15 = .ok (.aload_n 0, 1) := by decide +kernel
theorem dX1_choose_16 : decode cX1_choose 16 = .ok (.getfield 27, 3) := by decide +kernel
theorem dX1_choose_19 : decode cX1_choose 19 = .ok (.iload_n 2, 1) := by decide +kernel
theorem dX1_choose_20 : decode cX1_choose 20 = .ok (.aload_n 0, 1) := by decide +kernel
theorem dX1_choose_21 : decode cX1_choose 21 = .ok (.iload_n 2, 1) := by decide +kernel
theorem dX1_choose_22 : decode cX1_choose 22 = .ok (.iload_n 1, 1) := by decide +kernel
theorem dX1_choose_23 : decode cX1_choose 23 = .ok (.invokevirtual 76, 3) := by decide +kernel
theorem dX1_choose_26 : decode cX1_choose 26 = .ok (.iastore, 1) := by decide +kernel
theorem dX1_choose_27 : decode cX1_choose 27 = .ok (.aload_n 0, 1) := by decide +kernel
theorem dX1_choose_28 : decode cX1_choose 28 = .ok (.getfield 27, 3) := by decide +kernel
theorem dX1_choose_31 : decode cX1_choose 31 = .ok (.iload_n 2, 1) := by decide +kernel
theorem dX1_choose_32 : decode cX1_choose 32 = .ok (.iaload, 1) := by decide +kernel
theorem dX1_choose_33 : decode cX1_choose 33 = .ok (.iconst (-1), 1) := by decide +kernel
theorem dX1_choose_34 : decode cX1_choose 34 = .ok (.if_icmp .eq 14, 3) := by decide +kernel
theorem dX1_choose_37 : decode cX1_choose 37 = .ok (.iload_n 1, 1) := by decide +kernel
theorem dX1_choose_38 : decode cX1_choose 38 = .ok (.iconst 1, 1) := by decide +kernel
theorem dX1_choose_39 : decode cX1_choose 39 = .ok (.aload_n 0, 1) := by decide +kernel
theorem dX1_choose_40 : decode cX1_choose 40 = .ok (.getfield 27, 3) := by decide +kernel
theorem dX1_choose_43 : decode cX1_choose 43 = .ok (.iload_n 2, 1) := by decide +kernel
theorem dX1_choose_44 : decode cX1_choose 44 = .ok (.iaload, 1) := by decide +kernel
theorem dX1_choose_45 : decode cX1_choose 45 = .ok (.ishl, 1) := by decide +kernel
theorem dX1_choose_46 : decode cX1_choose 46 = .ok (.ior, 1) := by decide +kernel
theorem dX1_choose_47 : decode cX1_choose 47 = .ok (.istore_n 1, 1) := by decide +kernel
theorem dX1_choose_48 : decode cX1_choose 48 = .ok (.iinc 2 1, 3) := by decide +kernel
theorem dX1_choose_51 : decode cX1_choose 51 = .ok (.goto (-47), 3) := by decide +kernel
theorem dX1_choose_54 : decode cX1_choose 54 = .ok (.return_, 1) := by decide +kernel
theorem dX1_firstBest_0 : decode cX1_firstBest 0 = .ok (.aload_n 0, 1) := by decide +kernel
theorem dX1_firstBest_1 : decode cX1_firstBest 1 = .ok (.getfield 24, 3) := by decide +kernel
theorem dX1_firstBest_4 : decode cX1_firstBest 4 = .ok (.iload_n 1, 1) := by decide +kernel
theorem dX1_firstBest_5 : decode cX1_firstBest 5 = .ok (.aaload, 1) := by decide +kernel
theorem dX1_firstBest_6 : decode cX1_firstBest 6 = .ok (.iload_n 2, 1) := by decide +kernel
theorem dX1_firstBest_7 : decode cX1_firstBest 7 = .ok (.iaload, 1) := by decide +kernel
theorem dX1_firstBest_8 : decode cX1_firstBest 8 = .ok (.istore_n 3, 1) := by decide +kernel
theorem dX1_firstBest_9 : decode cX1_firstBest 9 = .ok (.aload_n 0, 1) := by decide +kernel
theorem dX1_firstBest_10 : decode cX1_firstBest 10 = .ok (.getfield 24, 3) := by decide +kernel
theorem dX1_firstBest_13 : decode cX1_firstBest 13 = .ok (.iload_n 1, 1) := by decide +kernel
theorem dX1_firstBest_14 : decode cX1_firstBest 14 = .ok (.iconst 1, 1) := by decide +kernel
theorem dX1_firstBest_15 : decode cX1_firstBest 15 = .ok (.iadd, 1) := by decide +kernel
theorem dX1_firstBest_16 : decode cX1_firstBest 16 = .ok (.aaload, 1) := by decide +kernel
theorem dX1_firstBest_17 : decode cX1_firstBest 17 = .ok (.iload_n 2, 1) := by decide +kernel
theorem dX1_firstBest_18 : decode cX1_firstBest 18 = .ok (.iaload, 1) := by decide +kernel
theorem dX1_firstBest_19 : decode cX1_firstBest 19 = .ok (.iload_n 3, 1) := by decide +kernel
theorem dX1_firstBest_20 : decode cX1_firstBest 20 = .ok (.if_icmp .ne 5, 3) := by decide +kernel
theorem dX1_firstBest_23 : decode cX1_firstBest 23 = .ok (.iconst (-1), 1) := by decide +kernel
theorem dX1_firstBest_24 : decode cX1_firstBest 24 = .ok (.ireturn, 1) := by decide +kernel
theorem dX1_firstBest_25 : decode cX1_firstBest 25 = .ok (.aload_n 0, 1) := by decide +kernel
theorem dX1_firstBest_26 : decode cX1_firstBest 26 = .ok (.getfield 18, 3) := by decide +kernel
theorem dX1_firstBest_29 : decode cX1_firstBest 29 = .ok (.iload_n 1, 1) := by decide +kernel
theorem dX1_firstBest_30 : decode cX1_firstBest 30 = .ok (.iaload, 1) := by decide +kernel
theorem dX1_firstBest_31 : decode cX1_firstBest 31 = .ok (.iload_n 2, 1) := by decide +kernel
theorem dX1_firstBest_32 : decode cX1_firstBest 32 = .ok (.iconst (-1), 1) := by decide +kernel
theorem dX1_firstBest_33 : decode cX1_firstBest 33 = .ok (.ixor, 1) := by decide +kernel
theorem dX1_firstBest_34 : decode cX1_firstBest 34 = .ok (.iand, 1) := by decide +kernel
theorem dX1_firstBest_35 : decode cX1_firstBest 35 = .ok (.istore 4, 2) := by decide +kernel
theorem dX1_firstBest_37 : decode cX1_firstBest 37 = .ok (.iconst 0, 1) := by decide +kernel
theorem dX1_firstBest_38 : decode cX1_firstBest 38 = .ok (.istore 5, 2) := by decide +kernel
theorem dX1_firstBest_40 : decode cX1_firstBest 40 = .ok (.iload 5, 2) := by decide +kernel
theorem dX1_firstBest_42 : decode cX1_firstBest 42 = .ok (.aload_n 0, 1) := by decide +kernel
theorem dX1_firstBest_43 : decode cX1_firstBest 43 = .ok (.getfield 12, 3) := by decide +kernel
theorem dX1_firstBest_46 : decode cX1_firstBest 46 = .ok (.getfield 34, 3) := by decide +kernel
theorem dX1_firstBest_49 : decode cX1_firstBest 49 = .ok (.if_icmp .ge 34, 3) := by decide +kernel
theorem dX1_firstBest_52 : decode cX1_firstBest 52 = .ok (.iload 4, 2) := by decide +kernel
theorem dX1_firstBest_54 : decode cX1_firstBest 54 = .ok (.iload 5, 2) := by decide +kernel
theorem dX1_firstBest_56 : decode cX1_firstBest 56 = .ok (.ishr, 1) := by decide +kernel
theorem dX1_firstBest_57 : decode cX1_firstBest 57 = .ok (.iconst 1, 1) := by decide +kernel
theorem dX1_firstBest_58 : decode cX1_firstBest 58 = .ok (.iand, 1) := by decide +kernel
theorem dX1_firstBest_59 : decode cX1_firstBest 59 = .ok (.ifCond .eq 18, 3) := by decide +kernel
theorem dX1_firstBest_62 : decode cX1_firstBest 62 = .ok (.aload_n 0, 1) := by decide +kernel
theorem dX1_firstBest_63 : decode cX1_firstBest 63 = .ok (.iload_n 1, 1) := by decide +kernel
theorem dX1_firstBest_64 : decode cX1_firstBest 64 = .ok (.iload_n 2, 1) := by decide +kernel
theorem dX1_firstBest_65 : decode cX1_firstBest 65 = .ok (.iload 5, 2) := by decide +kernel
theorem dX1_firstBest_67 : decode cX1_firstBest 67 = .ok (.invokevirtual 64, 3) := by decide +kernel
theorem dX1_firstBest_70 : decode cX1_firstBest 70 = .ok (.iload_n 3, 1) := by decide +kernel
theorem dX1_firstBest_71 : decode cX1_firstBest 71 = .ok (.if_icmp .ne 6, 3) := by decide +kernel
theorem dX1_firstBest_74 : decode cX1_firstBest 74 = .ok (.iload 5, 2) := by decide +kernel
theorem dX1_firstBest_76 : decode cX1_firstBest 76 = .ok (.ireturn, 1) := by decide +kernel
theorem dX1_firstBest_77 : decode cX1_firstBest 77 = .ok (.iinc 5 1, 3) := by decide +kernel
theorem dX1_firstBest_80 : decode cX1_firstBest 80 = .ok (.goto (-40), 3) := by decide +kernel
theorem dX1_firstBest_83 : decode cX1_firstBest 83 = .ok (.iconst (-1), 1) := by decide +kernel
theorem dX1_firstBest_84 : decode cX1_firstBest 84 = .ok (.ireturn, 1) := by decide +kernel
theorem dX2_init_0 : decode cX2_init 0 = .ok (.aload_n 0, 1) := by decide +kernel
theorem dX2_init_1 : decode cX2_init 1 = .ok (.invokespecial 3, 3) := by decide +kernel
theorem dX2_init_4 : decode cX2_init 4 = .ok (.aload_n 0, 1) := by decide +kernel
theorem dX2_init_5 : decode cX2_init 5 = .ok (.iconst (-1), 1) := by decide +kernel
theorem dX2_init_6 : decode cX2_init 6 = .ok (.putfield 9, 3) := by decide +kernel
theorem dX2_init_9 : decode cX2_init 9 = .ok (.aload_n 0, 1) := by decide +kernel
theorem dX2_init_10 : decode cX2_init 10 = .ok (.iconst (-1), 1) := by decide +kernel
theorem dX2_init_11 : decode cX2_init 11 = .ok (.putfield 15, 3) := by decide +kernel
theorem dX2_init_14 : decode cX2_init 14 = .ok (.return_, 1) := by decide +kernel
theorem dX2_copyFrom_0 : decode cX2_copyFrom 0 = .ok (.aload_n 0, 1) := by decide +kernel
theorem dX2_copyFrom_1 : decode cX2_copyFrom 1 = .ok (.aload_n 1, 1) := by decide +kernel
theorem dX2_copyFrom_2 : decode cX2_copyFrom 2 = .ok (.getfield 18, 3) := by decide +kernel
theorem dX2_copyFrom_5 : decode cX2_copyFrom 5 = .ok (.putfield 18, 3) := by decide +kernel
theorem dX2_copyFrom_8 : decode cX2_copyFrom 8 = .ok (.aload_n 0, 1) := by decide +kernel
theorem dX2_copyFrom_9 : decode cX2_copyFrom 9 = .ok (.aload_n 1, 1) := by decide +kernel
theorem dX2_copyFrom_10 : decode cX2_copyFrom 10 = .ok (.getfield 21, 3) := by decide +kernel
theorem dX2_copyFrom_13 : decode cX2_copyFrom 13 = .ok (.putfield 21, 3) := by decide +kernel
theorem dX2_copyFrom_16 : decode cX2_copyFrom 16 = .ok (.aload_n 0, 1) := by decide +kernel
theorem dX2_copyFrom_17 : decode cX2_copyFrom 17 = .ok (.aload_n 1, 1) := by decide +kernel
theorem dX2_copyFrom_18 : decode cX2_copyFrom 18 = .ok (.getfield 24, 3) := by decide +kernel
theorem dX2_copyFrom_21 : decode cX2_copyFrom 21 = .ok (.putfield 24, 3) := by decide +kernel
theorem dX2_copyFrom_24 : decode cX2_copyFrom 24 = .ok (.aload_n 0, 1) := by decide +kernel
theorem dX2_copyFrom_25 : decode cX2_copyFrom 25 = .ok (.aload_n 1, 1) := by decide +kernel
theorem dX2_copyFrom_26 : decode cX2_copyFrom 26 = .ok (.getfield 9, 3) := by decide +kernel
theorem dX2_copyFrom_29 : decode cX2_copyFrom 29 = .ok (.putfield 9, 3) := by decide +kernel
theorem dX2_copyFrom_32 : decode cX2_copyFrom 32 = .ok (.aload_n 0, 1) := by decide +kernel
theorem dX2_copyFrom_33 : decode cX2_copyFrom 33 = .ok (.aload_n 1, 1) := by decide +kernel
theorem dX2_copyFrom_34 : decode cX2_copyFrom 34 = .ok (.getfield 15, 3) := by decide +kernel
theorem dX2_copyFrom_37 : decode cX2_copyFrom 37 = .ok (.putfield 15, 3) := by decide +kernel
theorem dX2_copyFrom_40 : decode cX2_copyFrom 40 = .ok (.return_, 1) := by decide +kernel
theorem dX2_isOf_0 : decode cX2_isOf 0 = .ok (.iload_n 1, 1) := by decide +kernel
theorem dX2_isOf_1 : decode cX2_isOf 1 = .ok (.ifCond .eq 23, 3) := by decide +kernel
theorem dX2_isOf_4 : decode cX2_isOf 4 = .ok (.iload_n 1, 1) := by decide +kernel
theorem dX2_isOf_5 : decode cX2_isOf 5 = .ok (.aload_n 0, 1) := by decide +kernel
theorem dX2_isOf_6 : decode cX2_isOf 6 = .ok (.getfield 18, 3) := by decide +kernel
theorem dX2_isOf_9 : decode cX2_isOf 9 = .ok (.if_icmp .eq 15, 3) := by decide +kernel
theorem dX2_isOf_12 : decode cX2_isOf 12 = .ok (.iload_n 1, 1) := by decide +kernel
theorem dX2_isOf_13 : decode cX2_isOf 13 = .ok (.getstatic 27, 3) := by decide +kernel
theorem dX2_isOf_16 : decode cX2_isOf 16 = .ok (.aload_n 0, 1) := by decide +kernel
theorem dX2_isOf_17 : decode cX2_isOf 17 = .ok (.getfield 18, 3) := by decide +kernel
theorem dX2_isOf_20 : decode cX2_isOf 20 = .ok (.iaload, 1) := by decide +kernel
theorem dX2_isOf_21 : decode cX2_isOf 21 = .ok (.if_icmp .ne 7, 3) := by decide +kernel
theorem dX2_isOf_24 : decode cX2_isOf 24 = .ok (.iconst 1, 1) := by decide +kernel
theorem dX2_isOf_25 : decode cX2_isOf 25 = .ok (.goto 4, 3) := by decide +kernel
theorem dX2_isOf_28 : decode cX2_isOf 28 = .ok (.iconst 0, 1) := by decide +kernel
theorem dX2_isOf_29 : decode cX2_isOf 29 = .ok (.ireturn, 1) := by decide +kernel
theorem dX2_isHorse_0 : decode cX2_isHorse 0 = .ok (.aload_n 0, 1) := by decide +kernel
theorem dX2_isHorse_1 : decode cX2_isHorse 1 = .ok (.getfield 18, 3) := by decide +kernel
theorem dX2_isHorse_4 : decode cX2_isHorse 4 = .ok (.iconst 5, 1) := by decide +kernel
theorem dX2_isHorse_5 : decode cX2_isHorse 5 = .ok (.if_icmp .ne 7, 3) := by decide +kernel
theorem dX2_isHorse_8 : decode cX2_isHorse 8 = .ok (.iconst 1, 1) := by decide +kernel
theorem dX2_isHorse_9 : decode cX2_isHorse 9 = .ok (.goto 4, 3) := by decide +kernel
theorem dX2_isHorse_12 : decode cX2_isHorse 12 = .ok (.iconst 0, 1) := by decide +kernel
theorem dX2_isHorse_13 : decode cX2_isHorse 13 = .ok (.ireturn, 1) := by decide +kernel
theorem dX2_reach_0 : decode cX2_reach 0 = .ok (.getstatic 31, 3) := by decide +kernel
theorem dX2_reach_3 : decode cX2_reach 3 = .ok (.aload_n 0, 1) := by decide +kernel
theorem dX2_reach_4 : decode cX2_reach 4 = .ok (.getfield 18, 3) := by decide +kernel
theorem dX2_reach_7 : decode cX2_reach 7 = .ok (.iaload, 1) := by decide +kernel
theorem dX2_reach_8 : decode cX2_reach 8 = .ok (.ireturn, 1) := by decide +kernel
theorem dX2_reaches_0 : decode cX2_reaches 0 = .ok (.aload_n 0, 1) := by decide +kernel
theorem dX2_reaches_1 : decode cX2_reaches 1 = .ok (.getfield 24, 3) := by decide +kernel
theorem dX2_reaches_4 : decode cX2_reaches 4 = .ok (.iload_n 1, 1) := by decide +kernel
theorem dX2_reaches_5 : decode cX2_reaches 5 = .ok (.isub, 1) := by decide +kernel
theorem dX2_reaches_6 : decode cX2_reaches 6 = .ok (.invokestatic 34, 3) := by decide +kernel
theorem dX2_reaches_9 : decode cX2_reaches 9 = .ok (.aload_n 0, 1) := by decide +kernel
theorem dX2_reaches_10 : decode cX2_reaches 10 = .ok (.invokevirtual 40, 3) := by decide +kernel
theorem dX2_reaches_13 : decode cX2_reaches 13 = .ok (.if_icmp .gt 7, 3) := by decide +kernel
theorem dX2_reaches_16 : decode cX2_reaches 16 = .ok (.iconst 1, 1) := by decide +kernel
theorem dX2_reaches_17 : decode cX2_reaches 17 = .ok (.goto 4, 3) := by decide +kernel
theorem dX2_reaches_20 : decode cX2_reaches 20 = .ok (.iconst 0, 1) := by decide +kernel
theorem dX2_reaches_21 : decode cX2_reaches 21 = .ok (.ireturn, 1) := by decide +kernel
theorem dX2_isAheadOf_0 : decode cX2_isAheadOf 0 = .ok (.aload_n 0, 1) := by decide +kernel
theorem dX2_isAheadOf_1 : decode cX2_isAheadOf 1 = .ok (.invokevirtual 44, 3) := by decide +kernel
theorem dX2_isAheadOf_4 : decode cX2_isAheadOf 4 = .ok (.aload_n 1, 1) := by decide +kernel
theorem dX2_isAheadOf_5 : decode cX2_isAheadOf 5 = .ok (.invokevirtual 44, 3) := by decide +kernel
theorem dX2_isAheadOf_8 : decode cX2_isAheadOf 8 = .ok (.if_icmp .eq 8, 3) := by decide +kernel
theorem dX2_isAheadOf_11 : decode cX2_isAheadOf 11 = .ok (.aload_n 1, 1) := by decide +kernel
theorem dX2_isAheadOf_12 : decode cX2_isAheadOf 12 = .ok (.invokevirtual 44, 3) := by decide +kernel
theorem dX2_isAheadOf_15 : decode cX2_isAheadOf 15 = .ok (.ireturn, 1) := by decide +kernel
theorem dX2_isAheadOf_16 : decode cX2_isAheadOf 16 = .ok (.aload_n 0, 1) := by decide +kernel
theorem dX2_isAheadOf_17 : decode cX2_isAheadOf 17 = .ok (.getfield 24, 3) := by decide +kernel
theorem dX2_isAheadOf_20 : decode cX2_isAheadOf 20 = .ok (.iload_n 2, 1) := by decide +kernel
theorem dX2_isAheadOf_21 : decode cX2_isAheadOf 21 = .ok (.isub, 1) := by decide +kernel
theorem dX2_isAheadOf_22 : decode cX2_isAheadOf 22 = .ok (.invokestatic 34, 3) := by decide +kernel
theorem dX2_isAheadOf_25 : decode cX2_isAheadOf 25 = .ok (.aload_n 1, 1) := by decide +kernel
theorem dX2_isAheadOf_26 : decode cX2_isAheadOf 26 = .ok (.getfield 24, 3) := by decide +kernel
theorem dX2_isAheadOf_29 : decode cX2_isAheadOf 29 = .ok (.iload_n 2, 1) := by decide +kernel
theorem dX2_isAheadOf_30 : decode cX2_isAheadOf 30 = .ok (.isub, 1) := by decide +kernel
theorem dX2_isAheadOf_31 : decode cX2_isAheadOf 31 = .ok (.invokestatic 34, 3) := by decide +kernel
theorem dX2_isAheadOf_34 : decode cX2_isAheadOf 34 = .ok (.if_icmp .ge 7, 3) := by decide +kernel
theorem dX2_isAheadOf_37 : decode cX2_isAheadOf 37 = .ok (.iconst 1, 1) := by decide +kernel
theorem dX2_isAheadOf_38 : decode cX2_isAheadOf 38 = .ok (.goto 4, 3) := by decide +kernel
theorem dX2_isAheadOf_41 : decode cX2_isAheadOf 41 = .ok (.iconst 0, 1) := by decide +kernel
theorem dX2_isAheadOf_42 : decode cX2_isAheadOf 42 = .ok (.ireturn, 1) := by decide +kernel
theorem dX2_drop_0 : decode cX2_drop 0 = .ok (.aload_n 0, 1) := by decide +kernel
theorem dX2_drop_1 : decode cX2_drop 1 = .ok (.iconst (-1), 1) := by decide +kernel
theorem dX2_drop_2 : decode cX2_drop 2 = .ok (.putfield 9, 3) := by decide +kernel
theorem dX2_drop_5 : decode cX2_drop 5 = .ok (.aload_n 0, 1) := by decide +kernel
theorem dX2_drop_6 : decode cX2_drop 6 = .ok (.iconst (-1), 1) := by decide +kernel
theorem dX2_drop_7 : decode cX2_drop 7 = .ok (.putfield 15, 3) := by decide +kernel
theorem dX2_drop_10 : decode cX2_drop 10 = .ok (.return_, 1) := by decide +kernel
theorem dX3_init_0 : decode cX3_init 0 = .ok (.aload_n 0, 1) := by decide +kernel
theorem dX3_init_1 : decode cX3_init 1 = .ok (.invokespecial 3, 3) := by decide +kernel
theorem dX3_init_4 : decode cX3_init 4 = .ok (.aload_n 0, 1) := by decide +kernel
theorem dX3_init_5 : decode cX3_init 5 = .ok (.bipush 40, 2) := by decide +kernel
theorem dX3_init_7 : decode cX3_init 7 = .ok (.newarray .long, 2) := by decide +kernel
theorem dX3_init_9 : decode cX3_init 9 = .ok (.putfield 9, 3) := by decide +kernel
theorem dX3_init_12 : decode cX3_init 12 = .ok (.return_, 1) := by decide +kernel
theorem dX3_hasElement_0 : decode cX3_hasElement 0 = .ok (.iload_n 1, 1) := by decide +kernel
theorem dX3_hasElement_1 : decode cX3_hasElement 1 = .ok (.iconst 0, 1) := by decide +kernel
theorem dX3_hasElement_2 : decode cX3_hasElement 2 = .ok (.aload_n 0, 1) := by decide +kernel
theorem dX3_hasElement_3 : decode cX3_hasElement 3 = .ok (.getfield 15, 3) := by decide +kernel
theorem dX3_hasElement_6 : decode cX3_hasElement 6 = .ok (.iconst 1, 1) := by decide +kernel
theorem dX3_hasElement_7 : decode cX3_hasElement 7 = .ok (.isub, 1) := by decide +kernel
theorem dX3_hasElement_8 : decode cX3_hasElement 8 = .ok (.invokestatic 19, 3) := by decide +kernel
theorem dX3_hasElement_11 : decode cX3_hasElement 11 = .ok (.ireturn, 1) := by decide +kernel
theorem dX3_hasStretch_0 : decode cX3_hasStretch 0 = .ok (.iload_n 1, 1) := by decide +kernel
theorem dX3_hasStretch_1 : decode cX3_hasStretch 1 = .ok (.ifCond .lt 29, 3) := by decide +kernel
theorem dX3_hasStretch_4 : decode cX3_hasStretch 4 = .ok (.iload_n 2, 1) := by decide +kernel
theorem dX3_hasStretch_5 : decode cX3_hasStretch 5 = .ok (.ifCond .lt 25, 3) := by decide +kernel
theorem dX3_hasStretch_8 : decode cX3_hasStretch 8 = .ok (.iload_n 2, 1) := by decide +kernel
theorem dX3_hasStretch_9 : decode cX3_hasStretch 9 = .ok (.aload_n 0, 1) := by decide +kernel
theorem dX3_hasStretch_10 : decode cX3_hasStretch 10 = .ok (.getfield 15, 3) := by decide +kernel
theorem dX3_hasStretch_13 : decode cX3_hasStretch 13 = .ok (.if_icmp .gt 17, 3) := by decide +kernel
theorem dX3_hasStretch_16 : decode cX3_hasStretch 16 = .ok (.iload_n 1, 1) := by decide +kernel
theorem dX3_hasStretch_17 : decode cX3_hasStretch 17 = .ok (.aload_n 0, 1) := by decide +kernel
theorem dX3_hasStretch_18 : decode cX3_hasStretch 18 = .ok (.getfield 15, 3) := by decide +kernel
theorem dX3_hasStretch_21 : decode cX3_hasStretch 21 = .ok (.iload_n 2, 1) := by decide +kernel
theorem dX3_hasStretch_22 : decode cX3_hasStretch 22 = .ok (.isub, 1) := by decide +kernel
theorem dX3_hasStretch_23 : decode cX3_hasStretch 23 = .ok (.if_icmp .gt 7, 3) := by decide +kernel
theorem dX3_hasStretch_26 : decode cX3_hasStretch 26 = .ok (.iconst 1, 1) := by decide +kernel
theorem dX3_hasStretch_27 : decode cX3_hasStretch 27 = .ok (.goto 4, 3) := by decide +kernel
theorem dX3_hasStretch_30 : decode cX3_hasStretch 30 = .ok (.iconst 0, 1) := by decide +kernel
theorem dX3_hasStretch_31 : decode cX3_hasStretch 31 = .ok (.ireturn, 1) := by decide +kernel
theorem dX3_fitted_0 : decode cX3_fitted 0 = .ok (.aload_n 0, 1) := by decide +kernel
theorem dX3_fitted_1 : decode cX3_fitted 1 = .ok (.getfield 23, 3) := by decide +kernel
theorem dX3_fitted_4 : decode cX3_fitted 4 = .ok (.tableswitch 62 0 4 #[36, 41, 46, 62, 50], 36) := by decide +kernel
theorem dX3_fitted_40 : decode cX3_fitted 40 = .ok (.lload_n 1, 1) := by decide +kernel
theorem dX3_fitted_41 : decode cX3_fitted 41 = .ok (.l2i, 1) := by decide +kernel
theorem dX3_fitted_42 : decode cX3_fitted 42 = .ok (.i2b, 1) := by decide +kernel
theorem dX3_fitted_43 : decode cX3_fitted 43 = .ok (.i2l, 1) := by decide +kernel
theorem dX3_fitted_44 : decode cX3_fitted 44 = .ok (.lreturn, 1) := by decide +kernel
theorem dX3_fitted_45 : decode cX3_fitted 45 = .ok (.lload_n 1, 1) := by decide +kernel
theorem dX3_fitted_46 : decode cX3_fitted 46 = .ok (.l2i, 1) := by decide +kernel
theorem dX3_fitted_47 : decode cX3_fitted 47 = .ok (.i2s, 1) := by decide +kernel
theorem dX3_fitted_48 : decode cX3_fitted 48 = .ok (.i2l, 1) := by decide +kernel
theorem dX3_fitted_49 : decode cX3_fitted 49 = .ok (.lreturn, 1) := by decide +kernel
theorem dX3_fitted_50 : decode cX3_fitted 50 = .ok (.lload_n 1, 1) := by decide +kernel
theorem dX3_fitted_51 : decode cX3_fitted 51 = .ok (.l2i, 1) := by decide +kernel
theorem dX3_fitted_52 : decode cX3_fitted 52 = .ok (.i2l, 1) := by decide +kernel
theorem dX3_fitted_53 : decode cX3_fitted 53 = .ok (.lreturn, 1) := by decide +kernel
theorem dX3_fitted_54 : decode cX3_fitted 54 = .ok (.lload_n 1, 1) := by decide +kernel
theorem dX3_fitted_55 : decode cX3_fitted 55 = .ok (.lconst 0, 1) := by decide +kernel
theorem dX3_fitted_56 : decode cX3_fitted 56 = .ok (.lcmp, 1) := by decide +kernel
theorem dX3_fitted_57 : decode cX3_fitted 57 = .ok (.ifCond .eq 7, 3) := by decide +kernel
theorem dX3_fitted_60 : decode cX3_fitted 60 = .ok (.lconst 1, 1) := by decide +kernel
theorem dX3_fitted_61 : decode cX3_fitted 61 = .ok (.goto 4, 3) := by decide +kernel
theorem dX3_fitted_64 : decode cX3_fitted 64 = .ok (.lconst 0, 1) := by decide +kernel
theorem dX3_fitted_65 : decode cX3_fitted 65 = .ok (.lreturn, 1) := by decide +kernel
theorem dX3_fitted_66 : decode cX3_fitted 66 = .ok (.lload_n 1, 1) := by decide +kernel
theorem dX3_fitted_67 : decode cX3_fitted 67 = .ok (.lreturn, 1) := by decide +kernel
theorem dX4_init_0 : decode cX4_init 0 = .ok (.aload_n 0, 1) := by decide +kernel
theorem dX4_init_1 : decode cX4_init 1 = .ok (.invokespecial 3, 3) := by decide +kernel
theorem dX4_init_4 : decode cX4_init 4 = .ok (.aload_n 0, 1) := by decide +kernel
theorem dX4_init_5 : decode cX4_init 5 = .ok (.new 9, 3) := by decide +kernel
theorem dX4_init_8 : decode cX4_init 8 = .ok (.dup, 1) := by decide +kernel
theorem dX4_init_9 : decode cX4_init 9 = .ok (.invokespecial 11, 3) := by decide +kernel
theorem dX4_init_12 : decode cX4_init 12 = .ok (.putfield 12, 3) := by decide +kernel
theorem dX4_init_15 : decode cX4_init 15 = .ok (.aload_n 0, 1) := by decide +kernel
theorem dX4_init_16 : decode cX4_init 16 = .ok (.iconst (-1), 1) := by decide +kernel
theorem dX4_init_17 : decode cX4_init 17 = .ok (.putfield 18, 3) := by decide +kernel
theorem dX4_init_20 : decode cX4_init 20 = .ok (.return_, 1) := by decide +kernel
theorem dX4_isEmpty_0 : decode cX4_isEmpty 0 = .ok (.aload_n 0, 1) := by decide +kernel
theorem dX4_isEmpty_1 : decode cX4_isEmpty 1 = .ok (.getfield 22, 3) := by decide +kernel
theorem dX4_isEmpty_4 : decode cX4_isEmpty 4 = .ok (.ifCond .ne 15, 3) := by decide +kernel
theorem dX4_isEmpty_7 : decode cX4_isEmpty 7 = .ok (.aload_n 0, 1) := by decide +kernel
theorem dX4_isEmpty_8 : decode cX4_isEmpty 8 = .ok (.getfield 18, 3) := by decide +kernel
theorem dX4_isEmpty_11 : decode cX4_isEmpty 11 = .ok (.iconst (-1), 1) := by decide +kernel
theorem dX4_isEmpty_12 : decode cX4_isEmpty 12 = .ok (.if_icmp .ne 7, 3) := by decide +kernel
theorem dX4_isEmpty_15 : decode cX4_isEmpty 15 = .ok (.iconst 1, 1) := by decide +kernel
theorem dX4_isEmpty_16 : decode cX4_isEmpty 16 = .ok (.goto 4, 3) := by decide +kernel
theorem dX4_isEmpty_19 : decode cX4_isEmpty 19 = .ok (.iconst 0, 1) := by decide +kernel
theorem dX4_isEmpty_20 : decode cX4_isEmpty 20 = .ok (.ireturn, 1) := by decide +kernel
theorem dX4_takeRow_0 : decode cX4_takeRow 0 = .ok (.aload_n 0, 1) := by decide +kernel
theorem dX4_takeRow_1 : decode cX4_takeRow 1 = .ok (.iconst 1, 1) := by decide +kernel
theorem dX4_takeRow_2 : decode cX4_takeRow 2 = .ok (.putfield 22, 3) := by decide +kernel
theorem dX4_takeRow_5 : decode cX4_takeRow 5 = .ok (.aload_n 0, 1) := by decide +kernel
theorem dX4_takeRow_6 : decode cX4_takeRow 6 = .ok (.iconst (-1), 1) := by decide +kernel
theorem dX4_takeRow_7 : decode cX4_takeRow 7 = .ok (.putfield 18, 3) := by decide +kernel
theorem dX4_takeRow_10 : decode cX4_takeRow 10 = .ok (.aload_n 0, 1) := by decide +kernel
theorem dX4_takeRow_11 : decode cX4_takeRow 11 = .ok (.getfield 12, 3) := by decide +kernel
theorem dX4_takeRow_14 : decode cX4_takeRow 14 = .ok (.iload_n 1, 1) := by decide +kernel
theorem dX4_takeRow_15 : decode cX4_takeRow 15 = .ok (.putfield 26, 3) := by decide +kernel
theorem dX4_takeRow_18 : decode cX4_takeRow 18 = .ok (.aload_n 0, 1) := by decide +kernel
theorem dX4_takeRow_19 : decode cX4_takeRow 19 = .ok (.getfield 12, 3) := by decide +kernel
theorem dX4_takeRow_22 : decode cX4_takeRow 22 = .ok (.iload_n 2, 1) := by decide +kernel
theorem dX4_takeRow_23 : decode cX4_takeRow 23 = .ok (.putfield 29, 3) := by decide +kernel
theorem dX4_takeRow_26 : decode cX4_takeRow 26 = .ok (.iconst 0, 1) := by decide +kernel
theorem dX4_takeRow_27 : decode cX4_takeRow 27 = .ok (.istore_n 3, 1) := by decide +kernel
theorem dX4_takeRow_28 : decode cX4_takeRow 28 = .ok (.iload_n 3, 1) := by decide +kernel
theorem dX4_takeRow_29 : decode cX4_takeRow 29 = .ok (.iload_n 2, 1) := by decide +kernel
theorem dX4_takeRow_30 : decode cX4_takeRow 30 = .ok (.if_icmp .ge 19, 3) := by decide +kernel
theorem dX4_takeRow_33 : decode cX4_takeRow 33 = .ok (.aload_n 0, 1) := by decide +kernel
theorem dX4_takeRow_34 : decode cX4_takeRow 34 = .ok (.getfield 12, 3) := by decide +kernel
theorem dX4_takeRow_37 : decode cX4_takeRow 37 = .ok (.getfield 32, 3) := by decide +kernel
theorem dX4_takeRow_40 : decode cX4_takeRow 40 = .ok (.iload_n 3, 1) := by decide +kernel
theorem dX4_takeRow_41 : decode cX4_takeRow 41 = .ok (.lconst 0, 1) := by decide +kernel
theorem dX4_takeRow_42 : decode cX4_takeRow 42 = .ok (.lastore, 1) := by decide +kernel
theorem dX4_takeRow_43 : decode cX4_takeRow 43 = .ok (.iinc 3 1, 3) := by decide +kernel
theorem dX4_takeRow_46 : decode cX4_takeRow 46 = .ok (.goto (-18), 3) := by decide +kernel
theorem dX4_takeRow_49 : decode cX4_takeRow 49 = .ok (.return_, 1) := by decide +kernel
theorem dX4_takePerson_0 : decode cX4_takePerson 0 = .ok (.aload_n 0, 1) := by decide +kernel
theorem dX4_takePerson_1 : decode cX4_takePerson 1 = .ok (.iconst 0, 1) := by decide +kernel
theorem dX4_takePerson_2 : decode cX4_takePerson 2 = .ok (.putfield 22, 3) := by decide +kernel
theorem dX4_takePerson_5 : decode cX4_takePerson 5 = .ok (.aload_n 0, 1) := by decide +kernel
theorem dX4_takePerson_6 : decode cX4_takePerson 6 = .ok (.iload_n 1, 1) := by decide +kernel
theorem dX4_takePerson_7 : decode cX4_takePerson 7 = .ok (.putfield 18, 3) := by decide +kernel
theorem dX4_takePerson_10 : decode cX4_takePerson 10 = .ok (.return_, 1) := by decide +kernel
theorem dX5_init_0 : decode cX5_init 0 = .ok (.aload_n 0, 1) := by decide +kernel
theorem dX5_init_1 : decode cX5_init 1 = .ok (.invokespecial 3, 3) := by decide +kernel
theorem dX5_init_4 : decode cX5_init 4 = .ok (.aload_n 0, 1) := by decide +kernel
theorem dX5_init_5 : decode cX5_init 5 = .ok (.bipush 8, 2) := by decide +kernel
theorem dX5_init_7 : decode cX5_init 7 = .ok (.anewarray 9, 3) := by decide +kernel
theorem dX5_init_10 : decode cX5_init 10 = .ok (.putfield 11, 3) := by decide +kernel
theorem dX5_init_13 : decode cX5_init 13 = .ok (.aload_n 0, 1) := by decide +kernel
theorem dX5_init_14 : decode cX5_init 14 = .ok (.bipush 8, 2) := by decide +kernel
theorem dX5_init_16 : decode cX5_init 16 = .ok (.anewarray 17, 3) := by decide +kernel
theorem dX5_init_19 : decode cX5_init 19 = .ok (.putfield 19, 3) := by decide +kernel
theorem dX5_init_22 : decode cX5_init 22 = .ok (.aload_n 0, 1) := by decide +kernel
theorem dX5_init_23 : decode cX5_init 23 = .ok (.bipush 12, 2) := by decide +kernel
theorem dX5_init_25 : decode cX5_init 25 = .ok (.putfield 23, 3) := by decide +kernel
theorem dX5_init_28 : decode cX5_init 28 = .ok (.aload_n 0, 1) := by decide +kernel
theorem dX5_init_29 : decode cX5_init 29 = .ok (.iconst 5, 1) := by decide +kernel
theorem dX5_init_30 : decode cX5_init 30 = .ok (.putfield 27, 3) := by decide +kernel
theorem dX5_init_33 : decode cX5_init 33 = .ok (.aload_n 0, 1) := by decide +kernel
theorem dX5_init_34 : decode cX5_init 34 = .ok (.bipush 40, 2) := by decide +kernel
theorem dX5_init_36 : decode cX5_init 36 = .ok (.putfield 30, 3) := by decide +kernel
theorem dX5_init_39 : decode cX5_init 39 = .ok (.aload_n 0, 1) := by decide +kernel
theorem dX5_init_40 : decode cX5_init 40 = .ok (.iconst 1, 1) := by decide +kernel
theorem dX5_init_41 : decode cX5_init 41 = .ok (.putfield 33, 3) := by decide +kernel
theorem dX5_init_44 : decode cX5_init 44 = .ok (.iconst 0, 1) := by decide +kernel
theorem dX5_init_45 : decode cX5_init 45 = .ok (.istore_n 1, 1) := by decide +kernel
theorem dX5_init_46 : decode cX5_init 46 = .ok (.iload_n 1, 1) := by decide +kernel
theorem dX5_init_47 : decode cX5_init 47 = .ok (.bipush 8, 2) := by decide +kernel
theorem dX5_init_49 : decode cX5_init 49 = .ok (.if_icmp .ge 22, 3) := by decide +kernel
theorem dX5_init_52 : decode cX5_init 52 = .ok (.aload_n 0, 1) := by decide +kernel
theorem dX5_init_53 : decode cX5_init 53 = .ok (.getfield 11, 3) := by decide +kernel
theorem dX5_init_56 : decode cX5_init 56 = .ok (.iload_n 1, 1) := by decide +kernel
theorem dX5_init_57 : decode cX5_init 57 = .ok (.new 9, 3) := by decide +kernel
theorem dX5_init_60 : decode cX5_init 60 = .ok (.dup, 1) := by decide +kernel
theorem dX5_init_61 : decode cX5_init 61 = .ok (.invokespecial 36, 3) := by decide +kernel
theorem dX5_init_64 : decode cX5_init 64 = .ok (.aastore, 1) := by decide +kernel
theorem dX5_init_65 : decode cX5_init 65 = .ok (.iinc 1 1, 3) := by decide +kernel
theorem dX5_init_68 : decode cX5_init 68 = .ok (.goto (-22), 3) := by decide +kernel
theorem dX5_init_71 : decode cX5_init 71 = .ok (.iconst 0, 1) := by decide +kernel
theorem dX5_init_72 : decode cX5_init 72 = .ok (.istore_n 1, 1) := by decide +kernel
theorem dX5_init_73 : decode cX5_init 73 = .ok (.iload_n 1, 1) := by decide +kernel
theorem dX5_init_74 : decode cX5_init 74 = .ok (.bipush 8, 2) := by decide +kernel
theorem dX5_init_76 : decode cX5_init 76 = .ok (.if_icmp .ge 22, 3) := by decide +kernel
theorem dX5_init_79 : decode cX5_init 79 = .ok (.aload_n 0, 1) := by decide +kernel
theorem dX5_init_80 : decode cX5_init 80 = .ok (.getfield 19, 3) := by decide +kernel
theorem dX5_init_83 : decode cX5_init 83 = .ok (.iload_n 1, 1) := by decide +kernel
theorem dX5_init_84 : decode cX5_init 84 = .ok (.new 17, 3) := by decide +kernel
theorem dX5_init_87 : decode cX5_init 87 = .ok (.dup, 1) := by decide +kernel
theorem dX5_init_88 : decode cX5_init 88 = .ok (.invokespecial 37, 3) := by decide +kernel
theorem dX5_init_91 : decode cX5_init 91 = .ok (.aastore, 1) := by decide +kernel
theorem dX5_init_92 : decode cX5_init 92 = .ok (.iinc 1 1, 3) := by decide +kernel
theorem dX5_init_95 : decode cX5_init 95 = .ok (.goto (-22), 3) := by decide +kernel
theorem dX5_init_98 : decode cX5_init 98 = .ok (.return_, 1) := by decide +kernel
theorem dX5_copyFrom_0 : decode cX5_copyFrom 0 = .ok (.aload_n 0, 1) := by decide +kernel
theorem dX5_copyFrom_1 : decode cX5_copyFrom 1 = .ok (.aload_n 1, 1) := by decide +kernel
theorem dX5_copyFrom_2 : decode cX5_copyFrom 2 = .ok (.getfield 38, 3) := by decide +kernel
theorem dX5_copyFrom_5 : decode cX5_copyFrom 5 = .ok (.putfield 38, 3) := by decide +kernel
theorem dX5_copyFrom_8 : decode cX5_copyFrom 8 = .ok (.aload_n 0, 1) := by decide +kernel
theorem dX5_copyFrom_9 : decode cX5_copyFrom 9 = .ok (.aload_n 1, 1) := by decide +kernel
theorem dX5_copyFrom_10 : decode cX5_copyFrom 10 = .ok (.getfield 41, 3) := by decide +kernel
theorem dX5_copyFrom_13 : decode cX5_copyFrom 13 = .ok (.putfield 41, 3) := by decide +kernel
theorem dX5_copyFrom_16 : decode cX5_copyFrom 16 = .ok (.aload_n 0, 1) := by decide +kernel
theorem dX5_copyFrom_17 : decode cX5_copyFrom 17 = .ok (.aload_n 1, 1) := by decide +kernel
theorem dX5_copyFrom_18 : decode cX5_copyFrom 18 = .ok (.getfield 23, 3) := by decide +kernel
theorem dX5_copyFrom_21 : decode cX5_copyFrom 21 = .ok (.putfield 23, 3) := by decide +kernel
theorem dX5_copyFrom_24 : decode cX5_copyFrom 24 = .ok (.aload_n 0, 1) := by decide +kernel
theorem dX5_copyFrom_25 : decode cX5_copyFrom 25 = .ok (.aload_n 1, 1) := by decide +kernel
theorem dX5_copyFrom_26 : decode cX5_copyFrom 26 = .ok (.getfield 27, 3) := by decide +kernel
theorem dX5_copyFrom_29 : decode cX5_copyFrom 29 = .ok (.putfield 27, 3) := by decide +kernel
theorem dX5_copyFrom_32 : decode cX5_copyFrom 32 = .ok (.aload_n 0, 1) := by decide +kernel
theorem dX5_copyFrom_33 : decode cX5_copyFrom 33 = .ok (.aload_n 1, 1) := by decide +kernel
theorem dX5_copyFrom_34 : decode cX5_copyFrom 34 = .ok (.getfield 44, 3) := by decide +kernel
theorem dX5_copyFrom_37 : decode cX5_copyFrom 37 = .ok (.putfield 44, 3) := by decide +kernel
theorem dX5_copyFrom_40 : decode cX5_copyFrom 40 = .ok (.aload_n 0, 1) := by decide +kernel
theorem dX5_copyFrom_41 : decode cX5_copyFrom 41 = .ok (.aload_n 1, 1) := by decide +kernel
theorem dX5_copyFrom_42 : decode cX5_copyFrom 42 = .ok (.getfield 30, 3) := by decide +kernel
theorem dX5_copyFrom_45 : decode cX5_copyFrom 45 = .ok (.putfield 30, 3) := by decide +kernel
theorem dX5_copyFrom_48 : decode cX5_copyFrom 48 = .ok (.aload_n 0, 1) := by decide +kernel
theorem dX5_copyFrom_49 : decode cX5_copyFrom 49 = .ok (.aload_n 1, 1) := by decide +kernel
theorem dX5_copyFrom_50 : decode cX5_copyFrom 50 = .ok (.getfield 47, 3) := by decide +kernel
theorem dX5_copyFrom_53 : decode cX5_copyFrom 53 = .ok (.putfield 47, 3) := by decide +kernel
theorem dX5_copyFrom_56 : decode cX5_copyFrom 56 = .ok (.aload_n 0, 1) := by decide +kernel
theorem dX5_copyFrom_57 : decode cX5_copyFrom 57 = .ok (.aload_n 1, 1) := by decide +kernel
theorem dX5_copyFrom_58 : decode cX5_copyFrom 58 = .ok (.getfield 33, 3) := by decide +kernel
theorem dX5_copyFrom_61 : decode cX5_copyFrom 61 = .ok (.putfield 33, 3) := by decide +kernel
theorem dX5_copyFrom_64 : decode cX5_copyFrom 64 = .ok (.iconst 0, 1) := by decide +kernel
theorem dX5_copyFrom_65 : decode cX5_copyFrom 65 = .ok (.istore_n 2, 1) := by decide +kernel
theorem dX5_copyFrom_66 : decode cX5_copyFrom 66 = .ok (.iload_n 2, 1) := by decide +kernel
theorem dX5_copyFrom_67 : decode cX5_copyFrom 67 = .ok (.aload_n 0, 1) := by decide +kernel
theorem dX5_copyFrom_68 : decode cX5_copyFrom 68 = .ok (.getfield 38, 3) := by decide +kernel
theorem dX5_copyFrom_71 : decode cX5_copyFrom 71 = .ok (.if_icmp .ge 24, 3) := by decide +kernel
theorem dX5_copyFrom_74 : decode cX5_copyFrom 74 = .ok (.aload_n 0, 1) := by decide +kernel
theorem dX5_copyFrom_75 : decode cX5_copyFrom 75 = .ok (.getfield 11, 3) := by decide +kernel
theorem dX5_copyFrom_78 : decode cX5_copyFrom 78 = .ok (.iload_n 2, 1) := by decide +kernel
theorem dX5_copyFrom_79 : decode cX5_copyFrom 79 = .ok (.aaload, 1) := by decide +kernel
theorem dX5_copyFrom_80 : decode cX5_copyFrom 80 = .ok (.aload_n 1, 1) := by decide +kernel
theorem dX5_copyFrom_81 : decode cX5_copyFrom 81 = .ok (.getfield 11, 3) := by decide +kernel
theorem dX5_copyFrom_84 : decode cX5_copyFrom 84 = .ok (.iload_n 2, 1) := by decide +kernel
theorem dX5_copyFrom_85 : decode cX5_copyFrom 85 = .ok (.aaload, 1) := by decide +kernel
theorem dX5_copyFrom_86 : decode cX5_copyFrom 86 = .ok (.invokevirtual 50, 3) := by decide +kernel
theorem dX5_copyFrom_89 : decode cX5_copyFrom 89 = .ok (.iinc 2 1, 3) := by decide +kernel
theorem dX5_copyFrom_92 : decode cX5_copyFrom 92 = .ok (.goto (-26), 3) := by decide +kernel
theorem dX5_copyFrom_95 : decode cX5_copyFrom 95 = .ok (.iconst 0, 1) := by decide +kernel
theorem dX5_copyFrom_96 : decode cX5_copyFrom 96 = .ok (.istore_n 2, 1) := by decide +kernel
theorem dX5_copyFrom_97 : decode cX5_copyFrom 97 = .ok (.iload_n 2, 1) := by decide +kernel
theorem dX5_copyFrom_98 : decode cX5_copyFrom 98 = .ok (.aload_n 0, 1) := by decide +kernel
theorem dX5_copyFrom_99 : decode cX5_copyFrom 99 = .ok (.getfield 41, 3) := by decide +kernel
theorem dX5_copyFrom_102 : decode cX5_copyFrom 102 = .ok (.if_icmp .ge 24, 3) := by decide +kernel
theorem dX5_copyFrom_105 : decode cX5_copyFrom 105 = .ok (.aload_n 0, 1) := by decide +kernel
theorem dX5_copyFrom_106 : decode cX5_copyFrom 106 = .ok (.getfield 19, 3) := by decide +kernel
theorem dX5_copyFrom_109 : decode cX5_copyFrom 109 = .ok (.iload_n 2, 1) := by decide +kernel
theorem dX5_copyFrom_110 : decode cX5_copyFrom 110 = .ok (.aaload, 1) := by decide +kernel
theorem dX5_copyFrom_111 : decode cX5_copyFrom 111 = .ok (.aload_n 1, 1) := by decide +kernel
theorem dX5_copyFrom_112 : decode cX5_copyFrom 112 = .ok (.getfield 19, 3) := by decide +kernel
theorem dX5_copyFrom_115 : decode cX5_copyFrom 115 = .ok (.iload_n 2, 1) := by decide +kernel
theorem dX5_copyFrom_116 : decode cX5_copyFrom 116 = .ok (.aaload, 1) := by decide +kernel
theorem dX5_copyFrom_117 : decode cX5_copyFrom 117 = .ok (.invokevirtual 54, 3) := by decide +kernel
theorem dX5_copyFrom_120 : decode cX5_copyFrom 120 = .ok (.iinc 2 1, 3) := by decide +kernel
theorem dX5_copyFrom_123 : decode cX5_copyFrom 123 = .ok (.goto (-26), 3) := by decide +kernel
theorem dX5_copyFrom_126 : decode cX5_copyFrom 126 = .ok (.return_, 1) := by decide +kernel
theorem dX5_hasCell_0 : decode cX5_hasCell 0 = .ok (.iload_n 1, 1) := by decide +kernel
theorem dX5_hasCell_1 : decode cX5_hasCell 1 = .ok (.iconst 0, 1) := by decide +kernel
theorem dX5_hasCell_2 : decode cX5_hasCell 2 = .ok (.aload_n 0, 1) := by decide +kernel
theorem dX5_hasCell_3 : decode cX5_hasCell 3 = .ok (.getfield 23, 3) := by decide +kernel
theorem dX5_hasCell_6 : decode cX5_hasCell 6 = .ok (.iconst 1, 1) := by decide +kernel
theorem dX5_hasCell_7 : decode cX5_hasCell 7 = .ok (.isub, 1) := by decide +kernel
theorem dX5_hasCell_8 : decode cX5_hasCell 8 = .ok (.invokestatic 57, 3) := by decide +kernel
theorem dX5_hasCell_11 : decode cX5_hasCell 11 = .ok (.ireturn, 1) := by decide +kernel
theorem dX5_hasWindow_0 : decode cX5_hasWindow 0 = .ok (.iload_n 1, 1) := by decide +kernel
theorem dX5_hasWindow_1 : decode cX5_hasWindow 1 = .ok (.iconst 0, 1) := by decide +kernel
theorem dX5_hasWindow_2 : decode cX5_hasWindow 2 = .ok (.aload_n 0, 1) := by decide +kernel
theorem dX5_hasWindow_3 : decode cX5_hasWindow 3 = .ok (.getfield 38, 3) := by decide +kernel
theorem dX5_hasWindow_6 : decode cX5_hasWindow 6 = .ok (.iconst 1, 1) := by decide +kernel
theorem dX5_hasWindow_7 : decode cX5_hasWindow 7 = .ok (.isub, 1) := by decide +kernel
theorem dX5_hasWindow_8 : decode cX5_hasWindow 8 = .ok (.invokestatic 57, 3) := by decide +kernel
theorem dX5_hasWindow_11 : decode cX5_hasWindow 11 = .ok (.ireturn, 1) := by decide +kernel
theorem dX5_hasPerson_0 : decode cX5_hasPerson 0 = .ok (.iload_n 1, 1) := by decide +kernel
theorem dX5_hasPerson_1 : decode cX5_hasPerson 1 = .ok (.iconst 0, 1) := by decide +kernel
theorem dX5_hasPerson_2 : decode cX5_hasPerson 2 = .ok (.aload_n 0, 1) := by decide +kernel
theorem dX5_hasPerson_3 : decode cX5_hasPerson 3 = .ok (.getfield 41, 3) := by decide +kernel
theorem dX5_hasPerson_6 : decode cX5_hasPerson 6 = .ok (.iconst 1, 1) := by decide +kernel
theorem dX5_hasPerson_7 : decode cX5_hasPerson 7 = .ok (.isub, 1) := by decide +kernel
theorem dX5_hasPerson_8 : decode cX5_hasPerson 8 = .ok (.invokestatic 57, 3) := by decide +kernel
theorem dX5_hasPerson_11 : decode cX5_hasPerson 11 = .ok (.ireturn, 1) := by decide +kernel
theorem dX5_hasRoomForWindow_0 : decode cX5_hasRoomForWindow 0 = .ok (.aload_n 0, 1) := by decide +kernel
theorem dX5_hasRoomForWindow_1 : decode cX5_hasRoomForWindow 1 = .ok (.getfield 38, 3) := by decide +kernel
theorem dX5_hasRoomForWindow_4 : decode cX5_hasRoomForWindow 4 = .ok (.bipush 8, 2) := by decide +kernel
theorem dX5_hasRoomForWindow_6 : decode cX5_hasRoomForWindow 6 = .ok (.if_icmp .ge 7, 3) := by decide +kernel
theorem dX5_hasRoomForWindow_9 : decode cX5_hasRoomForWindow 9 = .ok (.iconst 1, 1) := by decide +kernel
theorem dX5_hasRoomForWindow_10 : decode cX5_hasRoomForWindow 10 = .ok (.goto 4, 3) := by decide +kernel
theorem dX5_hasRoomForWindow_13 : decode cX5_hasRoomForWindow 13 = .ok (.iconst 0, 1) := by decide +kernel
theorem dX5_hasRoomForWindow_14 : decode cX5_hasRoomForWindow 14 = .ok (.ireturn, 1) := by decide +kernel
theorem dX5_hasRoomForPerson_0 : decode cX5_hasRoomForPerson 0 = .ok (.aload_n 0, 1) := by decide +kernel
theorem dX5_hasRoomForPerson_1 : decode cX5_hasRoomForPerson 1 = .ok (.getfield 41, 3) := by decide +kernel
theorem dX5_hasRoomForPerson_4 : decode cX5_hasRoomForPerson 4 = .ok (.bipush 8, 2) := by decide +kernel
theorem dX5_hasRoomForPerson_6 : decode cX5_hasRoomForPerson 6 = .ok (.if_icmp .ge 7, 3) := by decide +kernel
theorem dX5_hasRoomForPerson_9 : decode cX5_hasRoomForPerson 9 = .ok (.iconst 1, 1) := by decide +kernel
theorem dX5_hasRoomForPerson_10 : decode cX5_hasRoomForPerson 10 = .ok (.goto 4, 3) := by decide +kernel
theorem dX5_hasRoomForPerson_13 : decode cX5_hasRoomForPerson 13 = .ok (.iconst 0, 1) := by decide +kernel
theorem dX5_hasRoomForPerson_14 : decode cX5_hasRoomForPerson 14 = .ok (.ireturn, 1) := by decide +kernel
theorem dX5_addWindow_0 : decode cX5_addWindow 0 = .ok (.aload_n 0, 1) := by decide +kernel
theorem dX5_addWindow_1 : decode cX5_addWindow 1 = .ok (.getfield 11, 3) := by decide +kernel
theorem dX5_addWindow_4 : decode cX5_addWindow 4 = .ok (.aload_n 0, 1) := by decide +kernel
theorem dX5_addWindow_5 : decode cX5_addWindow 5 = .ok (.getfield 38, 3) := by decide +kernel
theorem dX5_addWindow_8 : decode cX5_addWindow 8 = .ok (.aaload, 1) := by decide +kernel
theorem dX5_addWindow_9 : decode cX5_addWindow 9 = .ok (.astore 4, 2) := by decide +kernel
theorem dX5_addWindow_11 : decode cX5_addWindow 11 = .ok (.aload 4, 2) := by decide +kernel
theorem dX5_addWindow_13 : decode cX5_addWindow 13 = .ok (.iload_n 1, 1) := by decide +kernel
theorem dX5_addWindow_14 : decode cX5_addWindow 14 = .ok (.putfield 61, 3) := by decide +kernel
theorem dX5_addWindow_17 : decode cX5_addWindow 17 = .ok (.aload 4, 2) := by decide +kernel
theorem dX5_addWindow_19 : decode cX5_addWindow 19 = .ok (.iload_n 2, 1) := by decide +kernel
theorem dX5_addWindow_20 : decode cX5_addWindow 20 = .ok (.putfield 64, 3) := by decide +kernel
theorem dX5_addWindow_23 : decode cX5_addWindow 23 = .ok (.aload 4, 2) := by decide +kernel
theorem dX5_addWindow_25 : decode cX5_addWindow 25 = .ok (.iload_n 3, 1) := by decide +kernel
theorem dX5_addWindow_26 : decode cX5_addWindow 26 = .ok (.putfield 67, 3) := by decide +kernel
theorem dX5_addWindow_29 : decode cX5_addWindow 29 = .ok (.aload_n 0, 1) := by decide +kernel
theorem dX5_addWindow_30 : decode cX5_addWindow 30 = .ok (.dup, 1) := by decide +kernel
theorem dX5_addWindow_31 : decode cX5_addWindow 31 = .ok (.getfield 38, 3) := by decide +kernel
theorem dX5_addWindow_34 : decode cX5_addWindow 34 = .ok (.iconst 1, 1) := by decide +kernel
theorem dX5_addWindow_35 : decode cX5_addWindow 35 = .ok (.iadd, 1) := by decide +kernel
theorem dX5_addWindow_36 : decode cX5_addWindow 36 = .ok (.putfield 38, 3) := by decide +kernel
theorem dX5_addWindow_39 : decode cX5_addWindow 39 = .ok (.aload_n 0, 1) := by decide +kernel
theorem dX5_addWindow_40 : decode cX5_addWindow 40 = .ok (.getfield 38, 3) := by decide +kernel
theorem dX5_addWindow_43 : decode cX5_addWindow 43 = .ok (.iconst 1, 1) := by decide +kernel
theorem dX5_addWindow_44 : decode cX5_addWindow 44 = .ok (.isub, 1) := by decide +kernel
theorem dX5_addWindow_45 : decode cX5_addWindow 45 = .ok (.ireturn, 1) := by decide +kernel
theorem dX5_addPerson_0 : decode cX5_addPerson 0 = .ok (.aload_n 0, 1) := by decide +kernel
theorem dX5_addPerson_1 : decode cX5_addPerson 1 = .ok (.getfield 19, 3) := by decide +kernel
theorem dX5_addPerson_4 : decode cX5_addPerson 4 = .ok (.aload_n 0, 1) := by decide +kernel
theorem dX5_addPerson_5 : decode cX5_addPerson 5 = .ok (.getfield 41, 3) := by decide +kernel
theorem dX5_addPerson_8 : decode cX5_addPerson 8 = .ok (.aaload, 1) := by decide +kernel
theorem dX5_addPerson_9 : decode cX5_addPerson 9 = .ok (.astore 4, 2) := by decide +kernel
theorem dX5_addPerson_11 : decode cX5_addPerson 11 = .ok (.aload 4, 2) := by decide +kernel
theorem dX5_addPerson_13 : decode cX5_addPerson 13 = .ok (.iload_n 1, 1) := by decide +kernel
theorem dX5_addPerson_14 : decode cX5_addPerson 14 = .ok (.putfield 70, 3) := by decide +kernel
theorem dX5_addPerson_17 : decode cX5_addPerson 17 = .ok (.aload 4, 2) := by decide +kernel
theorem dX5_addPerson_19 : decode cX5_addPerson 19 = .ok (.iload_n 2, 1) := by decide +kernel
theorem dX5_addPerson_20 : decode cX5_addPerson 20 = .ok (.putfield 73, 3) := by decide +kernel
theorem dX5_addPerson_23 : decode cX5_addPerson 23 = .ok (.aload 4, 2) := by decide +kernel
theorem dX5_addPerson_25 : decode cX5_addPerson 25 = .ok (.iload_n 3, 1) := by decide +kernel
theorem dX5_addPerson_26 : decode cX5_addPerson 26 = .ok (.putfield 76, 3) := by decide +kernel
theorem dX5_addPerson_29 : decode cX5_addPerson 29 = .ok (.aload 4, 2) := by decide +kernel
theorem dX5_addPerson_31 : decode cX5_addPerson 31 = .ok (.invokevirtual 79, 3) := by decide +kernel
theorem dX5_addPerson_34 : decode cX5_addPerson 34 = .ok (.aload_n 0, 1) := by decide +kernel
theorem dX5_addPerson_35 : decode cX5_addPerson 35 = .ok (.dup, 1) := by decide +kernel
theorem dX5_addPerson_36 : decode cX5_addPerson 36 = .ok (.getfield 41, 3) := by decide +kernel
theorem dX5_addPerson_39 : decode cX5_addPerson 39 = .ok (.iconst 1, 1) := by decide +kernel
theorem dX5_addPerson_40 : decode cX5_addPerson 40 = .ok (.iadd, 1) := by decide +kernel
theorem dX5_addPerson_41 : decode cX5_addPerson 41 = .ok (.putfield 41, 3) := by decide +kernel
theorem dX5_addPerson_44 : decode cX5_addPerson 44 = .ok (.aload_n 0, 1) := by decide +kernel
theorem dX5_addPerson_45 : decode cX5_addPerson 45 = .ok (.getfield 41, 3) := by decide +kernel
theorem dX5_addPerson_48 : decode cX5_addPerson 48 = .ok (.iconst 1, 1) := by decide +kernel
theorem dX5_addPerson_49 : decode cX5_addPerson 49 = .ok (.isub, 1) := by decide +kernel
theorem dX5_addPerson_50 : decode cX5_addPerson 50 = .ok (.ireturn, 1) := by decide +kernel
theorem dX5_landing_0 : decode cX5_landing 0 = .ok (.aload_n 0, 1) := by decide +kernel
theorem dX5_landing_1 : decode cX5_landing 1 = .ok (.getfield 11, 3) := by decide +kernel
theorem dX5_landing_4 : decode cX5_landing 4 = .ok (.iload_n 1, 1) := by decide +kernel
theorem dX5_landing_5 : decode cX5_landing 5 = .ok (.aaload, 1) := by decide +kernel
theorem dX5_landing_6 : decode cX5_landing 6 = .ok (.astore 4, 2) := by decide +kernel
theorem dX5_landing_8 : decode cX5_landing 8 = .ok (.iload_n 2, 1) := by decide +kernel
theorem dX5_landing_9 : decode cX5_landing 9 = .ok (.aload 4, 2) := by decide +kernel
theorem dX5_landing_11 : decode cX5_landing 11 = .ok (.getfield 64, 3) := by decide +kernel
theorem dX5_landing_14 : decode cX5_landing 14 = .ok (.imul, 1) := by decide +kernel
theorem dX5_landing_15 : decode cX5_landing 15 = .ok (.iconst 3, 1) := by decide +kernel
theorem dX5_landing_16 : decode cX5_landing 16 = .ok (.idiv, 1) := by decide +kernel
theorem dX5_landing_17 : decode cX5_landing 17 = .ok (.istore 5, 2) := by decide +kernel
theorem dX5_landing_19 : decode cX5_landing 19 = .ok (.aload 4, 2) := by decide +kernel
theorem dX5_landing_21 : decode cX5_landing 21 = .ok (.getfield 61, 3) := by decide +kernel
theorem dX5_landing_24 : decode cX5_landing 24 = .ok (.aload_n 0, 1) := by decide +kernel
theorem dX5_landing_25 : decode cX5_landing 25 = .ok (.getfield 27, 3) := by decide +kernel
theorem dX5_landing_28 : decode cX5_landing 28 = .ok (.iadd, 1) := by decide +kernel
theorem dX5_landing_29 : decode cX5_landing 29 = .ok (.iconst 5, 1) := by decide +kernel
theorem dX5_landing_30 : decode cX5_landing 30 = .ok (.isub, 1) := by decide +kernel
theorem dX5_landing_31 : decode cX5_landing 31 = .ok (.istore 6, 2) := by decide +kernel
theorem dX5_landing_33 : decode cX5_landing 33 = .ok (.iload_n 3, 1) := by decide +kernel
theorem dX5_landing_34 : decode cX5_landing 34 = .ok (.iconst 1, 1) := by decide +kernel
theorem dX5_landing_35 : decode cX5_landing 35 = .ok (.if_icmp .ne 13, 3) := by decide +kernel
theorem dX5_landing_38 : decode cX5_landing 38 = .ok (.iload 6, 2) := by decide +kernel
theorem dX5_landing_40 : decode cX5_landing 40 = .ok (.iload 5, 2) := by decide +kernel
theorem dX5_landing_42 : decode cX5_landing 42 = .ok (.iadd, 1) := by decide +kernel
theorem dX5_landing_43 : decode cX5_landing 43 = .ok (.istore 6, 2) := by decide +kernel
theorem dX5_landing_45 : decode cX5_landing 45 = .ok (.goto 15, 3) := by decide +kernel
theorem dX5_landing_48 : decode cX5_landing 48 = .ok (.iload_n 3, 1) := by decide +kernel
theorem dX5_landing_49 : decode cX5_landing 49 = .ok (.iconst 2, 1) := by decide +kernel
theorem dX5_landing_50 : decode cX5_landing 50 = .ok (.if_icmp .ne 10, 3) := by decide +kernel
theorem dX5_landing_53 : decode cX5_landing 53 = .ok (.iload 6, 2) := by decide +kernel
theorem dX5_landing_55 : decode cX5_landing 55 = .ok (.iload 5, 2) := by decide +kernel
theorem dX5_landing_57 : decode cX5_landing 57 = .ok (.isub, 1) := by decide +kernel
theorem dX5_landing_58 : decode cX5_landing 58 = .ok (.istore 6, 2) := by decide +kernel
theorem dX5_landing_60 : decode cX5_landing 60 = .ok (.aload_n 0, 1) := by decide +kernel
theorem dX5_landing_61 : decode cX5_landing 61 = .ok (.iload 6, 2) := by decide +kernel
theorem dX5_landing_63 : decode cX5_landing 63 = .ok (.invokevirtual 82, 3) := by decide +kernel
theorem dX5_landing_66 : decode cX5_landing 66 = .ok (.ifCond .eq 8, 3) := by decide +kernel
theorem dX5_landing_69 : decode cX5_landing 69 = .ok (.iload 6, 2) := by decide +kernel
theorem dX5_landing_71 : decode cX5_landing 71 = .ok (.goto 4, 3) := by decide +kernel
theorem dX5_landing_74 : decode cX5_landing 74 = .ok (.iconst (-1), 1) := by decide +kernel
theorem dX5_landing_75 : decode cX5_landing 75 = .ok (.ireturn, 1) := by decide +kernel
theorem dX5_catcherOf_0 : decode cX5_catcherOf 0 = .ok (.aload_n 0, 1) := by decide +kernel
theorem dX5_catcherOf_1 : decode cX5_catcherOf 1 = .ok (.iconst (-1), 1) := by decide +kernel
theorem dX5_catcherOf_2 : decode cX5_catcherOf 2 = .ok (.aload_n 0, 1) := by decide +kernel
theorem dX5_catcherOf_3 : decode cX5_catcherOf 3 = .ok (.iload_n 1, 1) := by decide +kernel
theorem dX5_catcherOf_4 : decode cX5_catcherOf 4 = .ok (.iload_n 2, 1) := by decide +kernel
theorem dX5_catcherOf_5 : decode cX5_catcherOf 5 = .ok (.iload_n 3, 1) := by decide +kernel
theorem dX5_catcherOf_6 : decode cX5_catcherOf 6 = .ok (.invokevirtual 86, 3) := by decide +kernel
theorem dX5_catcherOf_9 : decode cX5_catcherOf 9 = .ok (.invokevirtual 90, 3) := by decide +kernel
theorem dX5_catcherOf_12 : decode cX5_catcherOf 12 = .ok (.ireturn, 1) := by decide +kernel
theorem dX5_catcherBut_0 : decode cX5_catcherBut 0 = .ok (.iconst (-1), 1) := by decide +kernel
theorem dX5_catcherBut_1 : decode cX5_catcherBut 1 = .ok (.istore_n 3, 1) := by decide +kernel
theorem dX5_catcherBut_2 : decode cX5_catcherBut 2 = .ok (.aload_n 0, 1) := by decide +kernel
theorem dX5_catcherBut_3 : decode cX5_catcherBut 3 = .ok (.iload_n 2, 1) := by decide +kernel
theorem dX5_catcherBut_4 : decode cX5_catcherBut 4 = .ok (.invokevirtual 82, 3) := by decide +kernel
theorem dX5_catcherBut_7 : decode cX5_catcherBut 7 = .ok (.ifCond .ne 5, 3) := by decide +kernel
theorem dX5_catcherBut_10 : decode cX5_catcherBut 10 = .ok (.iconst (-1), 1) := by decide +kernel
theorem dX5_catcherBut_11 : decode cX5_catcherBut 11 = .ok (.ireturn, 1) := by decide +kernel
theorem dX5_catcherBut_12 : decode cX5_catcherBut 12 = .ok (.iconst 0, 1) := by decide +kernel
theorem dX5_catcherBut_13 : decode cX5_catcherBut 13 = .ok (.istore 4, 2) := by decide +kernel
theorem dX5_catcherBut_15 : decode cX5_catcherBut 15 = .ok (.iload 4, 2) := by decide +kernel
theorem dX5_catcherBut_17 : decode cX5_catcherBut 17 = .ok (.aload_n 0, 1) := by decide +kernel
theorem dX5_catcherBut_18 : decode cX5_catcherBut 18 = .ok (.getfield 41, 3) := by decide +kernel
theorem dX5_catcherBut_21 : decode cX5_catcherBut 21 = .ok (.if_icmp .ge 65, 3) := by decide +kernel
theorem dX5_catcherBut_24 : decode cX5_catcherBut 24 = .ok (.aload_n 0, 1) := by decide +kernel
theorem dX5_catcherBut_25 : decode cX5_catcherBut 25 = .ok (.getfield 19, 3) := by decide +kernel
theorem dX5_catcherBut_28 : decode cX5_catcherBut 28 = .ok (.iload 4, 2) := by decide +kernel
theorem dX5_catcherBut_30 : decode cX5_catcherBut 30 = .ok (.aaload, 1) := by decide +kernel
theorem dX5_catcherBut_31 : decode cX5_catcherBut 31 = .ok (.astore 5, 2) := by decide +kernel
theorem dX5_catcherBut_33 : decode cX5_catcherBut 33 = .ok (.iload 4, 2) := by decide +kernel
theorem dX5_catcherBut_35 : decode cX5_catcherBut 35 = .ok (.iload_n 1, 1) := by decide +kernel
theorem dX5_catcherBut_36 : decode cX5_catcherBut 36 = .ok (.if_icmp .eq 44, 3) := by decide +kernel
theorem dX5_catcherBut_39 : decode cX5_catcherBut 39 = .ok (.aload 5, 2) := by decide +kernel
theorem dX5_catcherBut_41 : decode cX5_catcherBut 41 = .ok (.getfield 94, 3) := by decide +kernel
theorem dX5_catcherBut_44 : decode cX5_catcherBut 44 = .ok (.iconst (-1), 1) := by decide +kernel
theorem dX5_catcherBut_45 : decode cX5_catcherBut 45 = .ok (.if_icmp .ne 35, 3) := by decide +kernel
theorem dX5_catcherBut_48 : decode cX5_catcherBut 48 = .ok (.aload 5, 2) := by decide +kernel
theorem dX5_catcherBut_50 : decode cX5_catcherBut 50 = .ok (.iload_n 2, 1) := by decide +kernel
theorem dX5_catcherBut_51 : decode cX5_catcherBut 51 = .ok (.invokevirtual 97, 3) := by decide +kernel
theorem dX5_catcherBut_54 : decode cX5_catcherBut 54 = .ok (.ifCond .eq 26, 3) := by decide +kernel
theorem dX5_catcherBut_57 : decode cX5_catcherBut 57 = .ok (.iload_n 3, 1) := by decide +kernel
theorem dX5_catcherBut_58 : decode cX5_catcherBut 58 = .ok (.iconst (-1), 1) := by decide +kernel
theorem dX5_catcherBut_59 : decode cX5_catcherBut 59 = .ok (.if_icmp .eq 18, 3) := by decide +kernel
theorem dX5_catcherBut_62 : decode cX5_catcherBut 62 = .ok (.aload 5, 2) := by decide +kernel
theorem dX5_catcherBut_64 : decode cX5_catcherBut 64 = .ok (.aload_n 0, 1) := by decide +kernel
theorem dX5_catcherBut_65 : decode cX5_catcherBut 65 = .ok (.getfield 19, 3) := by decide +kernel
theorem dX5_catcherBut_68 : decode cX5_catcherBut 68 = .ok (.iload_n 3, 1) := by decide +kernel
theorem dX5_catcherBut_69 : decode cX5_catcherBut 69 = .ok (.aaload, 1) := by decide +kernel
theorem dX5_catcherBut_70 : decode cX5_catcherBut 70 = .ok (.iload_n 2, 1) := by decide +kernel
theorem dX5_catcherBut_71 : decode cX5_catcherBut 71 = .ok (.invokevirtual 100, 3) := by decide +kernel
theorem dX5_catcherBut_74 : decode cX5_catcherBut 74 = .ok (.ifCond .eq 6, 3) := by decide +kernel
theorem dX5_catcherBut_77 : decode cX5_catcherBut 77 = .ok (.iload 4, 2) := by decide +kernel
theorem dX5_catcherBut_79 : decode cX5_catcherBut 79 = .ok (.istore_n 3, 1) := by decide +kernel
theorem dX5_catcherBut_80 : decode cX5_catcherBut 80 = .ok (.iinc 4 1, 3) := by decide +kernel
theorem dX5_catcherBut_83 : decode cX5_catcherBut 83 = .ok (.goto (-68), 3) := by decide +kernel
theorem dX5_catcherBut_86 : decode cX5_catcherBut 86 = .ok (.iload_n 3, 1) := by decide +kernel
theorem dX5_catcherBut_87 : decode cX5_catcherBut 87 = .ok (.ireturn, 1) := by decide +kernel
theorem dX5_slowOf_0 : decode cX5_slowOf 0 = .ok (.aload_n 0, 1) := by decide +kernel
theorem dX5_slowOf_1 : decode cX5_slowOf 1 = .ok (.getfield 19, 3) := by decide +kernel
theorem dX5_slowOf_4 : decode cX5_slowOf 4 = .ok (.iload_n 1, 1) := by decide +kernel
theorem dX5_slowOf_5 : decode cX5_slowOf 5 = .ok (.aaload, 1) := by decide +kernel
theorem dX5_slowOf_6 : decode cX5_slowOf 6 = .ok (.getfield 70, 3) := by decide +kernel
theorem dX5_slowOf_9 : decode cX5_slowOf 9 = .ok (.aload_n 0, 1) := by decide +kernel
theorem dX5_slowOf_10 : decode cX5_slowOf 10 = .ok (.getfield 19, 3) := by decide +kernel
theorem dX5_slowOf_13 : decode cX5_slowOf 13 = .ok (.iload_n 1, 1) := by decide +kernel
theorem dX5_slowOf_14 : decode cX5_slowOf 14 = .ok (.aaload, 1) := by decide +kernel
theorem dX5_slowOf_15 : decode cX5_slowOf 15 = .ok (.getfield 73, 3) := by decide +kernel
theorem dX5_slowOf_18 : decode cX5_slowOf 18 = .ok (.aload_n 0, 1) := by decide +kernel
theorem dX5_slowOf_19 : decode cX5_slowOf 19 = .ok (.getfield 11, 3) := by decide +kernel
theorem dX5_slowOf_22 : decode cX5_slowOf 22 = .ok (.iload_n 2, 1) := by decide +kernel
theorem dX5_slowOf_23 : decode cX5_slowOf 23 = .ok (.aaload, 1) := by decide +kernel
theorem dX5_slowOf_24 : decode cX5_slowOf 24 = .ok (.getfield 64, 3) := by decide +kernel
theorem dX5_slowOf_27 : decode cX5_slowOf 27 = .ok (.invokestatic 104, 3) := by decide +kernel
theorem dX5_slowOf_30 : decode cX5_slowOf 30 = .ok (.ireturn, 1) := by decide +kernel
theorem dX5_dayBack_0 : decode cX5_dayBack 0 = .ok (.aload_n 0, 1) := by decide +kernel
theorem dX5_dayBack_1 : decode cX5_dayBack 1 = .ok (.getfield 19, 3) := by decide +kernel
theorem dX5_dayBack_4 : decode cX5_dayBack 4 = .ok (.iload_n 1, 1) := by decide +kernel
theorem dX5_dayBack_5 : decode cX5_dayBack 5 = .ok (.aaload, 1) := by decide +kernel
theorem dX5_dayBack_6 : decode cX5_dayBack 6 = .ok (.invokevirtual 107, 3) := by decide +kernel
theorem dX5_dayBack_9 : decode cX5_dayBack 9 = .ok (.ifCond .eq 18, 3) := by decide +kernel
theorem dX5_dayBack_12 : decode cX5_dayBack 12 = .ok (.aload_n 0, 1) := by decide +kernel
theorem dX5_dayBack_13 : decode cX5_dayBack 13 = .ok (.getfield 11, 3) := by decide +kernel
theorem dX5_dayBack_16 : decode cX5_dayBack 16 = .ok (.iload_n 2, 1) := by decide +kernel
theorem dX5_dayBack_17 : decode cX5_dayBack 17 = .ok (.aaload, 1) := by decide +kernel
theorem dX5_dayBack_18 : decode cX5_dayBack 18 = .ok (.getfield 64, 3) := by decide +kernel
theorem dX5_dayBack_21 : decode cX5_dayBack 21 = .ok (.iconst 1, 1) := by decide +kernel
theorem dX5_dayBack_22 : decode cX5_dayBack 22 = .ok (.if_icmp .eq 5, 3) := by decide +kernel
theorem dX5_dayBack_25 : decode cX5_dayBack 25 = .ok (.iconst (-1), 1) := by decide +kernel
theorem dX5_dayBack_26 : decode cX5_dayBack 26 = .ok (.ireturn, 1) := by decide +kernel
theorem dX5_dayBack_27 : decode cX5_dayBack 27 = .ok (.aload_n 0, 1) := by decide +kernel
theorem dX5_dayBack_28 : decode cX5_dayBack 28 = .ok (.getfield 44, 3) := by decide +kernel
theorem dX5_dayBack_31 : decode cX5_dayBack 31 = .ok (.aload_n 0, 1) := by decide +kernel
theorem dX5_dayBack_32 : decode cX5_dayBack 32 = .ok (.iload_n 1, 1) := by decide +kernel
theorem dX5_dayBack_33 : decode cX5_dayBack 33 = .ok (.iload_n 2, 1) := by decide +kernel
theorem dX5_dayBack_34 : decode cX5_dayBack 34 = .ok (.invokevirtual 111, 3) := by decide +kernel
theorem dX5_dayBack_37 : decode cX5_dayBack 37 = .ok (.iadd, 1) := by decide +kernel
theorem dX5_dayBack_38 : decode cX5_dayBack 38 = .ok (.istore_n 3, 1) := by decide +kernel
theorem dX5_dayBack_39 : decode cX5_dayBack 39 = .ok (.iload_n 3, 1) := by decide +kernel
theorem dX5_dayBack_40 : decode cX5_dayBack 40 = .ok (.sipush 999, 3) := by decide +kernel
theorem dX5_dayBack_43 : decode cX5_dayBack 43 = .ok (.if_icmp .gt 7, 3) := by decide +kernel
theorem dX5_dayBack_46 : decode cX5_dayBack 46 = .ok (.iload_n 3, 1) := by decide +kernel
theorem dX5_dayBack_47 : decode cX5_dayBack 47 = .ok (.goto 4, 3) := by decide +kernel
theorem dX5_dayBack_50 : decode cX5_dayBack 50 = .ok (.iconst (-1), 1) := by decide +kernel
theorem dX5_dayBack_51 : decode cX5_dayBack 51 = .ok (.ireturn, 1) := by decide +kernel
theorem dX5_dueDay_0 : decode cX5_dueDay 0 = .ok (.aload_n 0, 1) := by decide +kernel
theorem dX5_dueDay_1 : decode cX5_dueDay 1 = .ok (.iload_n 1, 1) := by decide +kernel
theorem dX5_dueDay_2 : decode cX5_dueDay 2 = .ok (.iload_n 2, 1) := by decide +kernel
theorem dX5_dueDay_3 : decode cX5_dueDay 3 = .ok (.invokevirtual 114, 3) := by decide +kernel
theorem dX5_dueDay_6 : decode cX5_dueDay 6 = .ok (.istore_n 3, 1) := by decide +kernel
theorem dX5_dueDay_7 : decode cX5_dueDay 7 = .ok (.iload_n 3, 1) := by decide +kernel
theorem dX5_dueDay_8 : decode cX5_dueDay 8 = .ok (.aload_n 0, 1) := by decide +kernel
theorem dX5_dueDay_9 : decode cX5_dueDay 9 = .ok (.getfield 30, 3) := by decide +kernel
theorem dX5_dueDay_12 : decode cX5_dueDay 12 = .ok (.if_icmp .gt 7, 3) := by decide +kernel
theorem dX5_dueDay_15 : decode cX5_dueDay 15 = .ok (.iload_n 3, 1) := by decide +kernel
theorem dX5_dueDay_16 : decode cX5_dueDay 16 = .ok (.goto 4, 3) := by decide +kernel
theorem dX5_dueDay_19 : decode cX5_dueDay 19 = .ok (.iconst (-1), 1) := by decide +kernel
theorem dX5_dueDay_20 : decode cX5_dueDay 20 = .ok (.ireturn, 1) := by decide +kernel
theorem dX5_countThrows_0 : decode cX5_countThrows 0 = .ok (.iconst 0, 1) := by decide +kernel
theorem dX5_countThrows_1 : decode cX5_countThrows 1 = .ok (.istore_n 3, 1) := by decide +kernel
theorem dX5_countThrows_2 : decode cX5_countThrows 2 = .ok (.iconst 0, 1) := by decide +kernel
theorem dX5_countThrows_3 : decode cX5_countThrows 3 = .ok (.istore 4, 2) := by decide +kernel
theorem dX5_countThrows_5 : decode cX5_countThrows 5 = .ok (.iload 4, 2) := by decide +kernel
theorem dX5_countThrows_7 : decode cX5_countThrows 7 = .ok (.bipush 30, 2) := by decide +kernel
theorem dX5_countThrows_9 : decode cX5_countThrows 9 = .ok (.if_icmp .ge 29, 3) := by decide +kernel
theorem dX5_countThrows_12 : decode cX5_countThrows 12 = .ok (.aload_n 0, 1) := by decide +kernel
theorem dX5_countThrows_13 : decode cX5_countThrows 13 = .ok (.iload_n 2, 1) := by decide +kernel
theorem dX5_countThrows_14 : decode cX5_countThrows 14 = .ok (.iload 4, 2) := by decide +kernel
theorem dX5_countThrows_16 : decode cX5_countThrows 16 = .ok (.iconst 3, 1) := by decide +kernel
theorem dX5_countThrows_17 : decode cX5_countThrows 17 = .ok (.idiv, 1) := by decide +kernel
theorem dX5_countThrows_18 : decode cX5_countThrows 18 = .ok (.iload 4, 2) := by decide +kernel
theorem dX5_countThrows_20 : decode cX5_countThrows 20 = .ok (.iconst 3, 1) := by decide +kernel
theorem dX5_countThrows_21 : decode cX5_countThrows 21 = .ok (.irem, 1) := by decide +kernel
theorem dX5_countThrows_22 : decode cX5_countThrows 22 = .ok (.invokevirtual 117, 3) := by decide +kernel
theorem dX5_countThrows_25 : decode cX5_countThrows 25 = .ok (.iload_n 1, 1) := by decide +kernel
theorem dX5_countThrows_26 : decode cX5_countThrows 26 = .ok (.if_icmp .ne 6, 3) := by decide +kernel
theorem dX5_countThrows_29 : decode cX5_countThrows 29 = .ok (.iinc 3 1, 3) := by decide +kernel
theorem dX5_countThrows_32 : decode cX5_countThrows 32 = .ok (.iinc 4 1, 3) := by decide +kernel
theorem dX5_countThrows_35 : decode cX5_countThrows 35 = .ok (.goto (-30), 3) := by decide +kernel
theorem dX5_countThrows_38 : decode cX5_countThrows 38 = .ok (.iload_n 3, 1) := by decide +kernel
theorem dX5_countThrows_39 : decode cX5_countThrows 39 = .ok (.ireturn, 1) := by decide +kernel
theorem dX5_firstThrow_0 : decode cX5_firstThrow 0 = .ok (.iconst 0, 1) := by decide +kernel
theorem dX5_firstThrow_1 : decode cX5_firstThrow 1 = .ok (.istore_n 3, 1) := by decide +kernel
theorem dX5_firstThrow_2 : decode cX5_firstThrow 2 = .ok (.iload_n 3, 1) := by decide +kernel
theorem dX5_firstThrow_3 : decode cX5_firstThrow 3 = .ok (.bipush 30, 2) := by decide +kernel
theorem dX5_firstThrow_5 : decode cX5_firstThrow 5 = .ok (.if_icmp .ge 35, 3) := by decide +kernel
theorem dX5_firstThrow_8 : decode cX5_firstThrow 8 = .ok (.aload_n 0, 1) := by decide +kernel
theorem dX5_firstThrow_9 : decode cX5_firstThrow 9 = .ok (.iload_n 2, 1) := by decide +kernel
theorem dX5_firstThrow_10 : decode cX5_firstThrow 10 = .ok (.iload_n 3, 1) := by decide +kernel
theorem dX5_firstThrow_11 : decode cX5_firstThrow 11 = .ok (.iconst 3, 1) := by decide +kernel
theorem dX5_firstThrow_12 : decode cX5_firstThrow 12 = .ok (.idiv, 1) := by decide +kernel
theorem dX5_firstThrow_13 : decode cX5_firstThrow 13 = .ok (.iload_n 3, 1) := by decide +kernel
theorem dX5_firstThrow_14 : decode cX5_firstThrow 14 = .ok (.iconst 3, 1) := by decide +kernel
theorem dX5_firstThrow_15 : decode cX5_firstThrow 15 = .ok (.irem, 1) := by decide +kernel
theorem dX5_firstThrow_16 : decode cX5_firstThrow 16 = .ok (.invokevirtual 117, 3) := by decide +kernel
theorem dX5_firstThrow_19 : decode cX5_firstThrow 19 = .ok (.iload_n 1, 1) := by decide +kernel
theorem dX5_firstThrow_20 : decode cX5_firstThrow 20 = .ok (.if_icmp .ne 14, 3) := by decide +kernel
theorem dX5_firstThrow_23 : decode cX5_firstThrow 23 = .ok (.bipush 10, 2) := by decide +kernel
theorem dX5_firstThrow_25 : decode cX5_firstThrow 25 = .ok (.iload_n 3, 1) := by decide +kernel
theorem dX5_firstThrow_26 : decode cX5_firstThrow 26 = .ok (.iconst 3, 1) := by decide +kernel
theorem dX5_firstThrow_27 : decode cX5_firstThrow 27 = .ok (.idiv, 1) := by decide +kernel
theorem dX5_firstThrow_28 : decode cX5_firstThrow 28 = .ok (.imul, 1) := by decide +kernel
theorem dX5_firstThrow_29 : decode cX5_firstThrow 29 = .ok (.iload_n 3, 1) := by decide +kernel
theorem dX5_firstThrow_30 : decode cX5_firstThrow 30 = .ok (.iconst 3, 1) := by decide +kernel
theorem dX5_firstThrow_31 : decode cX5_firstThrow 31 = .ok (.irem, 1) := by decide +kernel
theorem dX5_firstThrow_32 : decode cX5_firstThrow 32 = .ok (.iadd, 1) := by decide +kernel
theorem dX5_firstThrow_33 : decode cX5_firstThrow 33 = .ok (.ireturn, 1) := by decide +kernel
theorem dX5_firstThrow_34 : decode cX5_firstThrow 34 = .ok (.iinc 3 1, 3) := by decide +kernel
theorem dX5_firstThrow_37 : decode cX5_firstThrow 37 = .ok (.goto (-35), 3) := by decide +kernel
theorem dX5_firstThrow_40 : decode cX5_firstThrow 40 = .ok (.iconst (-1), 1) := by decide +kernel
theorem dX5_firstThrow_41 : decode cX5_firstThrow 41 = .ok (.ireturn, 1) := by decide +kernel
theorem dX5_openCells_0 : decode cX5_openCells 0 = .ok (.iconst 0, 1) := by decide +kernel
theorem dX5_openCells_1 : decode cX5_openCells 1 = .ok (.istore_n 2, 1) := by decide +kernel
theorem dX5_openCells_2 : decode cX5_openCells 2 = .ok (.iconst 0, 1) := by decide +kernel
theorem dX5_openCells_3 : decode cX5_openCells 3 = .ok (.istore_n 3, 1) := by decide +kernel
theorem dX5_openCells_4 : decode cX5_openCells 4 = .ok (.iload_n 3, 1) := by decide +kernel
theorem dX5_openCells_5 : decode cX5_openCells 5 = .ok (.bipush 30, 2) := by decide +kernel
theorem dX5_openCells_7 : decode cX5_openCells 7 = .ok (.if_icmp .ge 35, 3) := by decide +kernel
theorem dX5_openCells_10 : decode cX5_openCells 10 = .ok (.aload_n 0, 1) := by decide +kernel
theorem dX5_openCells_11 : decode cX5_openCells 11 = .ok (.iload_n 1, 1) := by decide +kernel
theorem dX5_openCells_12 : decode cX5_openCells 12 = .ok (.iload_n 3, 1) := by decide +kernel
theorem dX5_openCells_13 : decode cX5_openCells 13 = .ok (.iconst 3, 1) := by decide +kernel
theorem dX5_openCells_14 : decode cX5_openCells 14 = .ok (.idiv, 1) := by decide +kernel
theorem dX5_openCells_15 : decode cX5_openCells 15 = .ok (.iload_n 3, 1) := by decide +kernel
theorem dX5_openCells_16 : decode cX5_openCells 16 = .ok (.iconst 3, 1) := by decide +kernel
theorem dX5_openCells_17 : decode cX5_openCells 17 = .ok (.irem, 1) := by decide +kernel
theorem dX5_openCells_18 : decode cX5_openCells 18 = .ok (.invokevirtual 86, 3) := by decide +kernel
theorem dX5_openCells_21 : decode cX5_openCells 21 = .ok (.istore 4, 2) := by decide +kernel
theorem dX5_openCells_23 : decode cX5_openCells 23 = .ok (.iload 4, 2) := by decide +kernel
theorem dX5_openCells_25 : decode cX5_openCells 25 = .ok (.iconst (-1), 1) := by decide +kernel
theorem dX5_openCells_26 : decode cX5_openCells 26 = .ok (.if_icmp .eq 10, 3) := by decide +kernel
theorem dX5_openCells_29 : decode cX5_openCells 29 = .ok (.iload_n 2, 1) := by decide +kernel
theorem dX5_openCells_30 : decode cX5_openCells 30 = .ok (.iconst 1, 1) := by decide +kernel
theorem dX5_openCells_31 : decode cX5_openCells 31 = .ok (.iload 4, 2) := by decide +kernel
theorem dX5_openCells_33 : decode cX5_openCells 33 = .ok (.ishl, 1) := by decide +kernel
theorem dX5_openCells_34 : decode cX5_openCells 34 = .ok (.ior, 1) := by decide +kernel
theorem dX5_openCells_35 : decode cX5_openCells 35 = .ok (.istore_n 2, 1) := by decide +kernel
theorem dX5_openCells_36 : decode cX5_openCells 36 = .ok (.iinc 3 1, 3) := by decide +kernel
theorem dX5_openCells_39 : decode cX5_openCells 39 = .ok (.goto (-35), 3) := by decide +kernel
theorem dX5_openCells_42 : decode cX5_openCells 42 = .ok (.iload_n 2, 1) := by decide +kernel
theorem dX5_openCells_43 : decode cX5_openCells 43 = .ok (.ireturn, 1) := by decide +kernel
theorem dX5_countLandings_0 : decode cX5_countLandings 0 = .ok (.iconst 0, 1) := by decide +kernel
theorem dX5_countLandings_1 : decode cX5_countLandings 1 = .ok (.istore_n 3, 1) := by decide +kernel
theorem dX5_countLandings_2 : decode cX5_countLandings 2 = .ok (.iconst 0, 1) := by decide +kernel
theorem dX5_countLandings_3 : decode cX5_countLandings 3 = .ok (.istore 4, 2) := by decide +kernel
theorem dX5_countLandings_5 : decode cX5_countLandings 5 = .ok (.iload 4, 2) := by decide +kernel
theorem dX5_countLandings_7 : decode cX5_countLandings 7 = .ok (.bipush 30, 2) := by decide +kernel
theorem dX5_countLandings_9 : decode cX5_countLandings 9 = .ok (.if_icmp .ge 29, 3) := by decide +kernel
theorem dX5_countLandings_12 : decode cX5_countLandings 12 = .ok (.aload_n 0, 1) := by decide +kernel
theorem dX5_countLandings_13 : decode cX5_countLandings 13 = .ok (.iload_n 1, 1) := by decide +kernel
theorem dX5_countLandings_14 : decode cX5_countLandings 14 = .ok (.iload 4, 2) := by decide +kernel
theorem dX5_countLandings_16 : decode cX5_countLandings 16 = .ok (.iconst 3, 1) := by decide +kernel
theorem dX5_countLandings_17 : decode cX5_countLandings 17 = .ok (.idiv, 1) := by decide +kernel
theorem dX5_countLandings_18 : decode cX5_countLandings 18 = .ok (.iload 4, 2) := by decide +kernel
theorem dX5_countLandings_20 : decode cX5_countLandings 20 = .ok (.iconst 3, 1) := by decide +kernel
theorem dX5_countLandings_21 : decode cX5_countLandings 21 = .ok (.irem, 1) := by decide +kernel
theorem dX5_countLandings_22 : decode cX5_countLandings 22 = .ok (.invokevirtual 86, 3) := by decide +kernel
theorem dX5_countLandings_25 : decode cX5_countLandings 25 = .ok (.iload_n 2, 1) := by decide +kernel
theorem dX5_countLandings_26 : decode cX5_countLandings 26 = .ok (.if_icmp .ne 6, 3) := by decide +kernel
theorem dX5_countLandings_29 : decode cX5_countLandings 29 = .ok (.iinc 3 1, 3) := by decide +kernel
theorem dX5_countLandings_32 : decode cX5_countLandings 32 = .ok (.iinc 4 1, 3) := by decide +kernel
theorem dX5_countLandings_35 : decode cX5_countLandings 35 = .ok (.goto (-30), 3) := by decide +kernel
theorem dX5_countLandings_38 : decode cX5_countLandings 38 = .ok (.iload_n 3, 1) := by decide +kernel
theorem dX5_countLandings_39 : decode cX5_countLandings 39 = .ok (.ireturn, 1) := by decide +kernel
theorem dX5_cellsCaughtBy_0 : decode cX5_cellsCaughtBy 0 = .ok (.aload_n 0, 1) := by decide +kernel
theorem dX5_cellsCaughtBy_1 : decode cX5_cellsCaughtBy 1 = .ok (.getfield 19, 3) := by decide +kernel
theorem dX5_cellsCaughtBy_4 : decode cX5_cellsCaughtBy 4 = .ok (.iload_n 1, 1) := by decide +kernel
theorem dX5_cellsCaughtBy_5 : decode cX5_cellsCaughtBy 5 = .ok (.aaload, 1) := by decide +kernel
theorem dX5_cellsCaughtBy_6 : decode cX5_cellsCaughtBy 6 = .ok (.astore_n 2, 1) := by decide +kernel
theorem dX5_cellsCaughtBy_7 : decode cX5_cellsCaughtBy 7 = .ok (.iconst 0, 1) := by decide +kernel
theorem dX5_cellsCaughtBy_8 : decode cX5_cellsCaughtBy 8 = .ok (.istore_n 3, 1) := by decide +kernel
theorem dX5_cellsCaughtBy_9 : decode cX5_cellsCaughtBy 9 = .ok (.aload_n 2, 1) := by decide +kernel
theorem dX5_cellsCaughtBy_10 : decode cX5_cellsCaughtBy 10 = .ok (.getfield 76, 3) := by decide +kernel
theorem dX5_cellsCaughtBy_13 : decode cX5_cellsCaughtBy 13 = .ok (.aload_n 2, 1) := by decide +kernel
theorem dX5_cellsCaughtBy_14 : decode cX5_cellsCaughtBy 14 = .ok (.invokevirtual 120, 3) := by decide +kernel
theorem dX5_cellsCaughtBy_17 : decode cX5_cellsCaughtBy 17 = .ok (.isub, 1) := by decide +kernel
theorem dX5_cellsCaughtBy_18 : decode cX5_cellsCaughtBy 18 = .ok (.istore 4, 2) := by decide +kernel
theorem dX5_cellsCaughtBy_20 : decode cX5_cellsCaughtBy 20 = .ok (.iload 4, 2) := by decide +kernel
theorem dX5_cellsCaughtBy_22 : decode cX5_cellsCaughtBy 22 = .ok (.aload_n 2, 1) := by decide +kernel
theorem dX5_cellsCaughtBy_23 : decode cX5_cellsCaughtBy 23 = .ok (.getfield 76, 3) := by decide +kernel
theorem dX5_cellsCaughtBy_26 : decode cX5_cellsCaughtBy 26 = .ok (.aload_n 2, 1) := by decide +kernel
theorem dX5_cellsCaughtBy_27 : decode cX5_cellsCaughtBy 27 = .ok (.invokevirtual 120, 3) := by decide +kernel
theorem dX5_cellsCaughtBy_30 : decode cX5_cellsCaughtBy 30 = .ok (.iadd, 1) := by decide +kernel
theorem dX5_cellsCaughtBy_31 : decode cX5_cellsCaughtBy 31 = .ok (.if_icmp .gt 27, 3) := by decide +kernel
theorem dX5_cellsCaughtBy_34 : decode cX5_cellsCaughtBy 34 = .ok (.aload_n 0, 1) := by decide +kernel
theorem dX5_cellsCaughtBy_35 : decode cX5_cellsCaughtBy 35 = .ok (.iconst (-1), 1) := by decide +kernel
theorem dX5_cellsCaughtBy_36 : decode cX5_cellsCaughtBy 36 = .ok (.iload 4, 2) := by decide +kernel
theorem dX5_cellsCaughtBy_38 : decode cX5_cellsCaughtBy 38 = .ok (.invokevirtual 90, 3) := by decide +kernel
theorem dX5_cellsCaughtBy_41 : decode cX5_cellsCaughtBy 41 = .ok (.iload_n 1, 1) := by decide +kernel
theorem dX5_cellsCaughtBy_42 : decode cX5_cellsCaughtBy 42 = .ok (.if_icmp .ne 10, 3) := by decide +kernel
theorem dX5_cellsCaughtBy_45 : decode cX5_cellsCaughtBy 45 = .ok (.iload_n 3, 1) := by decide +kernel
theorem dX5_cellsCaughtBy_46 : decode cX5_cellsCaughtBy 46 = .ok (.iconst 1, 1) := by decide +kernel
theorem dX5_cellsCaughtBy_47 : decode cX5_cellsCaughtBy 47 = .ok (.iload 4, 2) := by decide +kernel
theorem dX5_cellsCaughtBy_49 : decode cX5_cellsCaughtBy 49 = .ok (.ishl, 1) := by decide +kernel
theorem dX5_cellsCaughtBy_50 : decode cX5_cellsCaughtBy 50 = .ok (.ior, 1) := by decide +kernel
theorem dX5_cellsCaughtBy_51 : decode cX5_cellsCaughtBy 51 = .ok (.istore_n 3, 1) := by decide +kernel
theorem dX5_cellsCaughtBy_52 : decode cX5_cellsCaughtBy 52 = .ok (.iinc 4 1, 3) := by decide +kernel
theorem dX5_cellsCaughtBy_55 : decode cX5_cellsCaughtBy 55 = .ok (.goto (-35), 3) := by decide +kernel
theorem dX5_cellsCaughtBy_58 : decode cX5_cellsCaughtBy 58 = .ok (.iload_n 3, 1) := by decide +kernel
theorem dX5_cellsCaughtBy_59 : decode cX5_cellsCaughtBy 59 = .ok (.ireturn, 1) := by decide +kernel
theorem dX5_cellsReachedBy_0 : decode cX5_cellsReachedBy 0 = .ok (.iconst 0, 1) := by decide +kernel
theorem dX5_cellsReachedBy_1 : decode cX5_cellsReachedBy 1 = .ok (.istore_n 2, 1) := by decide +kernel
theorem dX5_cellsReachedBy_2 : decode cX5_cellsReachedBy 2 = .ok (.iconst 0, 1) := by decide +kernel
theorem dX5_cellsReachedBy_3 : decode cX5_cellsReachedBy 3 = .ok (.istore_n 3, 1) := by decide +kernel
theorem dX5_cellsReachedBy_4 : decode cX5_cellsReachedBy 4 = .ok (.iload_n 3, 1) := by decide +kernel
theorem dX5_cellsReachedBy_5 : decode cX5_cellsReachedBy 5 = .ok (.aload_n 0, 1) := by decide +kernel
theorem dX5_cellsReachedBy_6 : decode cX5_cellsReachedBy 6 = .ok (.getfield 23, 3) := by decide +kernel
theorem dX5_cellsReachedBy_9 : decode cX5_cellsReachedBy 9 = .ok (.if_icmp .ge 28, 3) := by decide +kernel
theorem dX5_cellsReachedBy_12 : decode cX5_cellsReachedBy 12 = .ok (.aload_n 0, 1) := by decide +kernel
theorem dX5_cellsReachedBy_13 : decode cX5_cellsReachedBy 13 = .ok (.getfield 19, 3) := by decide +kernel
theorem dX5_cellsReachedBy_16 : decode cX5_cellsReachedBy 16 = .ok (.iload_n 1, 1) := by decide +kernel
theorem dX5_cellsReachedBy_17 : decode cX5_cellsReachedBy 17 = .ok (.aaload, 1) := by decide +kernel
theorem dX5_cellsReachedBy_18 : decode cX5_cellsReachedBy 18 = .ok (.iload_n 3, 1) := by decide +kernel
theorem dX5_cellsReachedBy_19 : decode cX5_cellsReachedBy 19 = .ok (.invokevirtual 97, 3) := by decide +kernel
theorem dX5_cellsReachedBy_22 : decode cX5_cellsReachedBy 22 = .ok (.ifCond .eq 9, 3) := by decide +kernel
theorem dX5_cellsReachedBy_25 : decode cX5_cellsReachedBy 25 = .ok (.iload_n 2, 1) := by decide +kernel
theorem dX5_cellsReachedBy_26 : decode cX5_cellsReachedBy 26 = .ok (.iconst 1, 1) := by decide +kernel
theorem dX5_cellsReachedBy_27 : decode cX5_cellsReachedBy 27 = .ok (.iload_n 3, 1) := by decide +kernel
theorem dX5_cellsReachedBy_28 : decode cX5_cellsReachedBy 28 = .ok (.ishl, 1) := by decide +kernel
theorem dX5_cellsReachedBy_29 : decode cX5_cellsReachedBy 29 = .ok (.ior, 1) := by decide +kernel
theorem dX5_cellsReachedBy_30 : decode cX5_cellsReachedBy 30 = .ok (.istore_n 2, 1) := by decide +kernel
theorem dX5_cellsReachedBy_31 : decode cX5_cellsReachedBy 31 = .ok (.iinc 3 1, 3) := by decide +kernel
theorem dX5_cellsReachedBy_34 : decode cX5_cellsReachedBy 34 = .ok (.goto (-30), 3) := by decide +kernel
theorem dX5_cellsReachedBy_37 : decode cX5_cellsReachedBy 37 = .ok (.iload_n 2, 1) := by decide +kernel
theorem dX5_cellsReachedBy_38 : decode cX5_cellsReachedBy 38 = .ok (.ireturn, 1) := by decide +kernel
theorem dX5_peopleReaching_0 : decode cX5_peopleReaching 0 = .ok (.iconst 0, 1) := by decide +kernel
theorem dX5_peopleReaching_1 : decode cX5_peopleReaching 1 = .ok (.istore_n 2, 1) := by decide +kernel
theorem dX5_peopleReaching_2 : decode cX5_peopleReaching 2 = .ok (.iconst 0, 1) := by decide +kernel
theorem dX5_peopleReaching_3 : decode cX5_peopleReaching 3 = .ok (.istore_n 3, 1) := by decide +kernel
theorem dX5_peopleReaching_4 : decode cX5_peopleReaching 4 = .ok (.iload_n 3, 1) := by decide +kernel
theorem dX5_peopleReaching_5 : decode cX5_peopleReaching 5 = .ok (.aload_n 0, 1) := by decide +kernel
theorem dX5_peopleReaching_6 : decode cX5_peopleReaching 6 = .ok (.getfield 41, 3) := by decide +kernel
theorem dX5_peopleReaching_9 : decode cX5_peopleReaching 9 = .ok (.if_icmp .ge 28, 3) := by decide +kernel
theorem dX5_peopleReaching_12 : decode cX5_peopleReaching 12 = .ok (.aload_n 0, 1) := by decide +kernel
theorem dX5_peopleReaching_13 : decode cX5_peopleReaching 13 = .ok (.getfield 19, 3) := by decide +kernel
theorem dX5_peopleReaching_16 : decode cX5_peopleReaching 16 = .ok (.iload_n 3, 1) := by decide +kernel
theorem dX5_peopleReaching_17 : decode cX5_peopleReaching 17 = .ok (.aaload, 1) := by decide +kernel
theorem dX5_peopleReaching_18 : decode cX5_peopleReaching 18 = .ok (.iload_n 1, 1) := by decide +kernel
theorem dX5_peopleReaching_19 : decode cX5_peopleReaching 19 = .ok (.invokevirtual 97, 3) := by decide +kernel
theorem dX5_peopleReaching_22 : decode cX5_peopleReaching 22 = .ok (.ifCond .eq 9, 3) := by decide +kernel
theorem dX5_peopleReaching_25 : decode cX5_peopleReaching 25 = .ok (.iload_n 2, 1) := by decide +kernel
theorem dX5_peopleReaching_26 : decode cX5_peopleReaching 26 = .ok (.iconst 1, 1) := by decide +kernel
theorem dX5_peopleReaching_27 : decode cX5_peopleReaching 27 = .ok (.iload_n 3, 1) := by decide +kernel
theorem dX5_peopleReaching_28 : decode cX5_peopleReaching 28 = .ok (.ishl, 1) := by decide +kernel
theorem dX5_peopleReaching_29 : decode cX5_peopleReaching 29 = .ok (.ior, 1) := by decide +kernel
theorem dX5_peopleReaching_30 : decode cX5_peopleReaching 30 = .ok (.istore_n 2, 1) := by decide +kernel
theorem dX5_peopleReaching_31 : decode cX5_peopleReaching 31 = .ok (.iinc 3 1, 3) := by decide +kernel
theorem dX5_peopleReaching_34 : decode cX5_peopleReaching 34 = .ok (.goto (-30), 3) := by decide +kernel
theorem dX5_peopleReaching_37 : decode cX5_peopleReaching 37 = .ok (.iload_n 2, 1) := by decide +kernel
theorem dX5_peopleReaching_38 : decode cX5_peopleReaching 38 = .ok (.ireturn, 1) := by decide +kernel
theorem dX5_uncaughtCells_0 : decode cX5_uncaughtCells 0 = .ok (.iconst 0, 1) := by decide +kernel
theorem dX5_uncaughtCells_1 : decode cX5_uncaughtCells 1 = .ok (.istore_n 1, 1) := by decide +kernel
theorem dX5_uncaughtCells_2 : decode cX5_uncaughtCells 2 = .ok (.iconst 0, 1) := by decide +kernel
theorem dX5_uncaughtCells_3 : decode cX5_uncaughtCells 3 = .ok (.istore_n 2, 1) := by decide +kernel
theorem dX5_uncaughtCells_4 : decode cX5_uncaughtCells 4 = .ok (.iload_n 2, 1) := by decide +kernel
theorem dX5_uncaughtCells_5 : decode cX5_uncaughtCells 5 = .ok (.aload_n 0, 1) := by decide +kernel
theorem dX5_uncaughtCells_6 : decode cX5_uncaughtCells 6 = .ok (.getfield 23, 3) := by decide +kernel
theorem dX5_uncaughtCells_9 : decode cX5_uncaughtCells 9 = .ok (.if_icmp .ge 25, 3) := by decide +kernel
theorem dX5_uncaughtCells_12 : decode cX5_uncaughtCells 12 = .ok (.aload_n 0, 1) := by decide +kernel
theorem dX5_uncaughtCells_13 : decode cX5_uncaughtCells 13 = .ok (.iconst (-1), 1) := by decide +kernel
theorem dX5_uncaughtCells_14 : decode cX5_uncaughtCells 14 = .ok (.iload_n 2, 1) := by decide +kernel
theorem dX5_uncaughtCells_15 : decode cX5_uncaughtCells 15 = .ok (.invokevirtual 90, 3) := by decide +kernel
theorem dX5_uncaughtCells_18 : decode cX5_uncaughtCells 18 = .ok (.iconst (-1), 1) := by decide +kernel
theorem dX5_uncaughtCells_19 : decode cX5_uncaughtCells 19 = .ok (.if_icmp .ne 9, 3) := by decide +kernel
theorem dX5_uncaughtCells_22 : decode cX5_uncaughtCells 22 = .ok (.iload_n 1, 1) := by decide +kernel
theorem dX5_uncaughtCells_23 : decode cX5_uncaughtCells 23 = .ok (.iconst 1, 1) := by decide +kernel
theorem dX5_uncaughtCells_24 : decode cX5_uncaughtCells 24 = .ok (.iload_n 2, 1) := by decide +kernel
theorem dX5_uncaughtCells_25 : decode cX5_uncaughtCells 25 = .ok (.ishl, 1) := by decide +kernel
theorem dX5_uncaughtCells_26 : decode cX5_uncaughtCells 26 = .ok (.ior, 1) := by decide +kernel
theorem dX5_uncaughtCells_27 : decode cX5_uncaughtCells 27 = .ok (.istore_n 1, 1) := by decide +kernel
theorem dX5_uncaughtCells_28 : decode cX5_uncaughtCells 28 = .ok (.iinc 2 1, 3) := by decide +kernel
theorem dX5_uncaughtCells_31 : decode cX5_uncaughtCells 31 = .ok (.goto (-27), 3) := by decide +kernel
theorem dX5_uncaughtCells_34 : decode cX5_uncaughtCells 34 = .ok (.iload_n 1, 1) := by decide +kernel
theorem dX5_uncaughtCells_35 : decode cX5_uncaughtCells 35 = .ok (.ireturn, 1) := by decide +kernel
theorem dX5_peopleHit_0 : decode cX5_peopleHit 0 = .ok (.aload_n 0, 1) := by decide +kernel
theorem dX5_peopleHit_1 : decode cX5_peopleHit 1 = .ok (.iload_n 1, 1) := by decide +kernel
theorem dX5_peopleHit_2 : decode cX5_peopleHit 2 = .ok (.invokevirtual 124, 3) := by decide +kernel
theorem dX5_peopleHit_5 : decode cX5_peopleHit 5 = .ok (.istore_n 2, 1) := by decide +kernel
theorem dX5_peopleHit_6 : decode cX5_peopleHit 6 = .ok (.iconst 0, 1) := by decide +kernel
theorem dX5_peopleHit_7 : decode cX5_peopleHit 7 = .ok (.istore_n 3, 1) := by decide +kernel
theorem dX5_peopleHit_8 : decode cX5_peopleHit 8 = .ok (.iconst 0, 1) := by decide +kernel
theorem dX5_peopleHit_9 : decode cX5_peopleHit 9 = .ok (.istore 4, 2) := by decide +kernel
theorem dX5_peopleHit_11 : decode cX5_peopleHit 11 = .ok (.iload 4, 2) := by decide +kernel
theorem dX5_peopleHit_13 : decode cX5_peopleHit 13 = .ok (.aload_n 0, 1) := by decide +kernel
theorem dX5_peopleHit_14 : decode cX5_peopleHit 14 = .ok (.getfield 41, 3) := by decide +kernel
theorem dX5_peopleHit_17 : decode cX5_peopleHit 17 = .ok (.if_icmp .ge 27, 3) := by decide +kernel
theorem dX5_peopleHit_20 : decode cX5_peopleHit 20 = .ok (.iload_n 2, 1) := by decide +kernel
theorem dX5_peopleHit_21 : decode cX5_peopleHit 21 = .ok (.aload_n 0, 1) := by decide +kernel
theorem dX5_peopleHit_22 : decode cX5_peopleHit 22 = .ok (.iload 4, 2) := by decide +kernel
theorem dX5_peopleHit_24 : decode cX5_peopleHit 24 = .ok (.invokevirtual 128, 3) := by decide +kernel
theorem dX5_peopleHit_27 : decode cX5_peopleHit 27 = .ok (.iand, 1) := by decide +kernel
theorem dX5_peopleHit_28 : decode cX5_peopleHit 28 = .ok (.ifCond .eq 10, 3) := by decide +kernel
theorem dX5_peopleHit_31 : decode cX5_peopleHit 31 = .ok (.iload_n 3, 1) := by decide +kernel
theorem dX5_peopleHit_32 : decode cX5_peopleHit 32 = .ok (.iconst 1, 1) := by decide +kernel
theorem dX5_peopleHit_33 : decode cX5_peopleHit 33 = .ok (.iload 4, 2) := by decide +kernel
theorem dX5_peopleHit_35 : decode cX5_peopleHit 35 = .ok (.ishl, 1) := by decide +kernel
theorem dX5_peopleHit_36 : decode cX5_peopleHit 36 = .ok (.ior, 1) := by decide +kernel
theorem dX5_peopleHit_37 : decode cX5_peopleHit 37 = .ok (.istore_n 3, 1) := by decide +kernel
theorem dX5_peopleHit_38 : decode cX5_peopleHit 38 = .ok (.iinc 4 1, 3) := by decide +kernel
theorem dX5_peopleHit_41 : decode cX5_peopleHit 41 = .ok (.goto (-30), 3) := by decide +kernel
theorem dX5_peopleHit_44 : decode cX5_peopleHit 44 = .ok (.iload_n 3, 1) := by decide +kernel
theorem dX5_peopleHit_45 : decode cX5_peopleHit 45 = .ok (.ireturn, 1) := by decide +kernel
theorem dX5_windowsOpenTo_0 : decode cX5_windowsOpenTo 0 = .ok (.iconst 0, 1) := by decide +kernel
theorem dX5_windowsOpenTo_1 : decode cX5_windowsOpenTo 1 = .ok (.istore_n 2, 1) := by decide +kernel
theorem dX5_windowsOpenTo_2 : decode cX5_windowsOpenTo 2 = .ok (.iconst 0, 1) := by decide +kernel
theorem dX5_windowsOpenTo_3 : decode cX5_windowsOpenTo 3 = .ok (.istore_n 3, 1) := by decide +kernel
theorem dX5_windowsOpenTo_4 : decode cX5_windowsOpenTo 4 = .ok (.iload_n 3, 1) := by decide +kernel
theorem dX5_windowsOpenTo_5 : decode cX5_windowsOpenTo 5 = .ok (.aload_n 0, 1) := by decide +kernel
theorem dX5_windowsOpenTo_6 : decode cX5_windowsOpenTo 6 = .ok (.getfield 38, 3) := by decide +kernel
theorem dX5_windowsOpenTo_9 : decode cX5_windowsOpenTo 9 = .ok (.if_icmp .ge 25, 3) := by decide +kernel
theorem dX5_windowsOpenTo_12 : decode cX5_windowsOpenTo 12 = .ok (.aload_n 0, 1) := by decide +kernel
theorem dX5_windowsOpenTo_13 : decode cX5_windowsOpenTo 13 = .ok (.iload_n 3, 1) := by decide +kernel
theorem dX5_windowsOpenTo_14 : decode cX5_windowsOpenTo 14 = .ok (.invokevirtual 124, 3) := by decide +kernel
theorem dX5_windowsOpenTo_17 : decode cX5_windowsOpenTo 17 = .ok (.iload_n 1, 1) := by decide +kernel
theorem dX5_windowsOpenTo_18 : decode cX5_windowsOpenTo 18 = .ok (.iand, 1) := by decide +kernel
theorem dX5_windowsOpenTo_19 : decode cX5_windowsOpenTo 19 = .ok (.ifCond .eq 9, 3) := by decide +kernel
theorem dX5_windowsOpenTo_22 : decode cX5_windowsOpenTo 22 = .ok (.iload_n 2, 1) := by decide +kernel
theorem dX5_windowsOpenTo_23 : decode cX5_windowsOpenTo 23 = .ok (.iconst 1, 1) := by decide +kernel
theorem dX5_windowsOpenTo_24 : decode cX5_windowsOpenTo 24 = .ok (.iload_n 3, 1) := by decide +kernel
theorem dX5_windowsOpenTo_25 : decode cX5_windowsOpenTo 25 = .ok (.ishl, 1) := by decide +kernel
theorem dX5_windowsOpenTo_26 : decode cX5_windowsOpenTo 26 = .ok (.ior, 1) := by decide +kernel
theorem dX5_windowsOpenTo_27 : decode cX5_windowsOpenTo 27 = .ok (.istore_n 2, 1) := by decide +kernel
theorem dX5_windowsOpenTo_28 : decode cX5_windowsOpenTo 28 = .ok (.iinc 3 1, 3) := by decide +kernel
theorem dX5_windowsOpenTo_31 : decode cX5_windowsOpenTo 31 = .ok (.goto (-27), 3) := by decide +kernel
theorem dX5_windowsOpenTo_34 : decode cX5_windowsOpenTo 34 = .ok (.iload_n 2, 1) := by decide +kernel
theorem dX5_windowsOpenTo_35 : decode cX5_windowsOpenTo 35 = .ok (.ireturn, 1) := by decide +kernel
theorem dX5_bestWindow_0 : decode cX5_bestWindow 0 = .ok (.iconst (-1), 1) := by decide +kernel
theorem dX5_bestWindow_1 : decode cX5_bestWindow 1 = .ok (.istore_n 1, 1) := by decide +kernel
theorem dX5_bestWindow_2 : decode cX5_bestWindow 2 = .ok (.iconst (-1), 1) := by decide +kernel
theorem dX5_bestWindow_3 : decode cX5_bestWindow 3 = .ok (.istore_n 2, 1) := by decide +kernel
theorem dX5_bestWindow_4 : decode cX5_bestWindow 4 = .ok (.iconst 0, 1) := by decide +kernel
theorem dX5_bestWindow_5 : decode cX5_bestWindow 5 = .ok (.istore_n 3, 1) := by decide +kernel
theorem dX5_bestWindow_6 : decode cX5_bestWindow 6 = .ok (.iload_n 3, 1) := by decide +kernel
theorem dX5_bestWindow_7 : decode cX5_bestWindow 7 = .ok (.aload_n 0, 1) := by decide +kernel
theorem dX5_bestWindow_8 : decode cX5_bestWindow 8 = .ok (.getfield 38, 3) := by decide +kernel
theorem dX5_bestWindow_11 : decode cX5_bestWindow 11 = .ok (.if_icmp .ge 30, 3) := by decide +kernel
theorem dX5_bestWindow_14 : decode cX5_bestWindow 14 = .ok (.aload_n 0, 1) := by decide +kernel
theorem dX5_bestWindow_15 : decode cX5_bestWindow 15 = .ok (.iload_n 3, 1) := by decide +kernel
theorem dX5_bestWindow_16 : decode cX5_bestWindow 16 = .ok (.invokevirtual 131, 3) := by decide +kernel
theorem dX5_bestWindow_19 : decode cX5_bestWindow 19 = .ok (.invokestatic 134, 3) := by decide +kernel
theorem dX5_bestWindow_22 : decode cX5_bestWindow 22 = .ok (.istore 4, 2) := by decide +kernel
theorem dX5_bestWindow_24 : decode cX5_bestWindow 24 = .ok (.iload 4, 2) := by decide +kernel
theorem dX5_bestWindow_26 : decode cX5_bestWindow 26 = .ok (.iload_n 2, 1) := by decide +kernel
theorem dX5_bestWindow_27 : decode cX5_bestWindow 27 = .ok (.if_icmp .le 8, 3) := by decide +kernel
theorem dX5_bestWindow_30 : decode cX5_bestWindow 30 = .ok (.iload 4, 2) := by decide +kernel
theorem dX5_bestWindow_32 : decode cX5_bestWindow 32 = .ok (.istore_n 2, 1) := by decide +kernel
theorem dX5_bestWindow_33 : decode cX5_bestWindow 33 = .ok (.iload_n 3, 1) := by decide +kernel
theorem dX5_bestWindow_34 : decode cX5_bestWindow 34 = .ok (.istore_n 1, 1) := by decide +kernel
theorem dX5_bestWindow_35 : decode cX5_bestWindow 35 = .ok (.iinc 3 1, 3) := by decide +kernel
theorem dX5_bestWindow_38 : decode cX5_bestWindow 38 = .ok (.goto (-32), 3) := by decide +kernel
theorem dX5_bestWindow_41 : decode cX5_bestWindow 41 = .ok (.iload_n 1, 1) := by decide +kernel
theorem dX5_bestWindow_42 : decode cX5_bestWindow 42 = .ok (.ireturn, 1) := by decide +kernel
theorem dX5_windowsWithin_0 : decode cX5_windowsWithin 0 = .ok (.aload_n 0, 1) := by decide +kernel
theorem dX5_windowsWithin_1 : decode cX5_windowsWithin 1 = .ok (.aload_n 0, 1) := by decide +kernel
theorem dX5_windowsWithin_2 : decode cX5_windowsWithin 2 = .ok (.iload_n 1, 1) := by decide +kernel
theorem dX5_windowsWithin_3 : decode cX5_windowsWithin 3 = .ok (.invokevirtual 139, 3) := by decide +kernel
theorem dX5_windowsWithin_6 : decode cX5_windowsWithin 6 = .ok (.invokevirtual 142, 3) := by decide +kernel
theorem dX5_windowsWithin_9 : decode cX5_windowsWithin 9 = .ok (.istore_n 3, 1) := by decide +kernel
theorem dX5_windowsWithin_10 : decode cX5_windowsWithin 10 = .ok (.iconst 0, 1) := by decide +kernel
theorem dX5_windowsWithin_11 : decode cX5_windowsWithin 11 = .ok (.istore 4, 2) := by decide +kernel
theorem dX5_windowsWithin_13 : decode cX5_windowsWithin 13 = .ok (.iload 4, 2) := by decide +kernel
theorem dX5_windowsWithin_15 : decode cX5_windowsWithin 15 = .ok (.aload_n 0, 1) := by decide +kernel
theorem dX5_windowsWithin_16 : decode cX5_windowsWithin 16 = .ok (.getfield 38, 3) := by decide +kernel
theorem dX5_windowsWithin_19 : decode cX5_windowsWithin 19 = .ok (.if_icmp .ge 32, 3) := by decide +kernel
theorem dX5_windowsWithin_22 : decode cX5_windowsWithin 22 = .ok (.aload_n 0, 1) := by decide +kernel
theorem dX5_windowsWithin_23 : decode cX5_windowsWithin 23 = .ok (.getfield 11, 3) := by decide +kernel
theorem dX5_windowsWithin_26 : decode cX5_windowsWithin 26 = .ok (.iload 4, 2) := by decide +kernel
theorem dX5_windowsWithin_28 : decode cX5_windowsWithin 28 = .ok (.aaload, 1) := by decide +kernel
theorem dX5_windowsWithin_29 : decode cX5_windowsWithin 29 = .ok (.getfield 67, 3) := by decide +kernel
theorem dX5_windowsWithin_32 : decode cX5_windowsWithin 32 = .ok (.iload_n 2, 1) := by decide +kernel
theorem dX5_windowsWithin_33 : decode cX5_windowsWithin 33 = .ok (.if_icmp .eq 12, 3) := by decide +kernel
theorem dX5_windowsWithin_36 : decode cX5_windowsWithin 36 = .ok (.iload_n 3, 1) := by decide +kernel
theorem dX5_windowsWithin_37 : decode cX5_windowsWithin 37 = .ok (.iconst 1, 1) := by decide +kernel
theorem dX5_windowsWithin_38 : decode cX5_windowsWithin 38 = .ok (.iload 4, 2) := by decide +kernel
theorem dX5_windowsWithin_40 : decode cX5_windowsWithin 40 = .ok (.ishl, 1) := by decide +kernel
theorem dX5_windowsWithin_41 : decode cX5_windowsWithin 41 = .ok (.iconst (-1), 1) := by decide +kernel
theorem dX5_windowsWithin_42 : decode cX5_windowsWithin 42 = .ok (.ixor, 1) := by decide +kernel
theorem dX5_windowsWithin_43 : decode cX5_windowsWithin 43 = .ok (.iand, 1) := by decide +kernel
theorem dX5_windowsWithin_44 : decode cX5_windowsWithin 44 = .ok (.istore_n 3, 1) := by decide +kernel
theorem dX5_windowsWithin_45 : decode cX5_windowsWithin 45 = .ok (.iinc 4 1, 3) := by decide +kernel
theorem dX5_windowsWithin_48 : decode cX5_windowsWithin 48 = .ok (.goto (-35), 3) := by decide +kernel
theorem dX5_windowsWithin_51 : decode cX5_windowsWithin 51 = .ok (.iload_n 3, 1) := by decide +kernel
theorem dX5_windowsWithin_52 : decode cX5_windowsWithin 52 = .ok (.ireturn, 1) := by decide +kernel
theorem dX5_floorsTogether_0 : decode cX5_floorsTogether 0 = .ok (.iconst 0, 1) := by decide +kernel
theorem dX5_floorsTogether_1 : decode cX5_floorsTogether 1 = .ok (.istore_n 2, 1) := by decide +kernel
theorem dX5_floorsTogether_2 : decode cX5_floorsTogether 2 = .ok (.iconst 0, 1) := by decide +kernel
theorem dX5_floorsTogether_3 : decode cX5_floorsTogether 3 = .ok (.istore_n 3, 1) := by decide +kernel
theorem dX5_floorsTogether_4 : decode cX5_floorsTogether 4 = .ok (.iload_n 3, 1) := by decide +kernel
theorem dX5_floorsTogether_5 : decode cX5_floorsTogether 5 = .ok (.aload_n 0, 1) := by decide +kernel
theorem dX5_floorsTogether_6 : decode cX5_floorsTogether 6 = .ok (.getfield 38, 3) := by decide +kernel
theorem dX5_floorsTogether_9 : decode cX5_floorsTogether 9 = .ok (.if_icmp .ge 29, 3) := by decide +kernel
theorem dX5_floorsTogether_12 : decode cX5_floorsTogether 12 = .ok (.iload_n 1, 1) := by decide +kernel
theorem dX5_floorsTogether_13 : decode cX5_floorsTogether 13 = .ok (.iload_n 3, 1) := by decide +kernel
theorem dX5_floorsTogether_14 : decode cX5_floorsTogether 14 = .ok (.ishr, 1) := by decide +kernel
theorem dX5_floorsTogether_15 : decode cX5_floorsTogether 15 = .ok (.iconst 1, 1) := by decide +kernel
theorem dX5_floorsTogether_16 : decode cX5_floorsTogether 16 = .ok (.iand, 1) := by decide +kernel
theorem dX5_floorsTogether_17 : decode cX5_floorsTogether 17 = .ok (.ifCond .eq 15, 3) := by decide +kernel
theorem dX5_floorsTogether_20 : decode cX5_floorsTogether 20 = .ok (.iload_n 2, 1) := by decide +kernel
theorem dX5_floorsTogether_21 : decode cX5_floorsTogether 21 = .ok (.aload_n 0, 1) := by decide +kernel
theorem dX5_floorsTogether_22 : decode cX5_floorsTogether 22 = .ok (.getfield 11, 3) := by decide +kernel
theorem dX5_floorsTogether_25 : decode cX5_floorsTogether 25 = .ok (.iload_n 3, 1) := by decide +kernel
theorem dX5_floorsTogether_26 : decode cX5_floorsTogether 26 = .ok (.aaload, 1) := by decide +kernel
theorem dX5_floorsTogether_27 : decode cX5_floorsTogether 27 = .ok (.getfield 64, 3) := by decide +kernel
theorem dX5_floorsTogether_30 : decode cX5_floorsTogether 30 = .ok (.iadd, 1) := by decide +kernel
theorem dX5_floorsTogether_31 : decode cX5_floorsTogether 31 = .ok (.istore_n 2, 1) := by decide +kernel
theorem dX5_floorsTogether_32 : decode cX5_floorsTogether 32 = .ok (.iinc 3 1, 3) := by decide +kernel
theorem dX5_floorsTogether_35 : decode cX5_floorsTogether 35 = .ok (.goto (-31), 3) := by decide +kernel
theorem dX5_floorsTogether_38 : decode cX5_floorsTogether 38 = .ok (.iload_n 2, 1) := by decide +kernel
theorem dX5_floorsTogether_39 : decode cX5_floorsTogether 39 = .ok (.ireturn, 1) := by decide +kernel
theorem dX5_lowestOf_0 : decode cX5_lowestOf 0 = .ok (.iconst (-1), 1) := by decide +kernel
theorem dX5_lowestOf_1 : decode cX5_lowestOf 1 = .ok (.istore_n 2, 1) := by decide +kernel
theorem dX5_lowestOf_2 : decode cX5_lowestOf 2 = .ok (.iconst 0, 1) := by decide +kernel
theorem dX5_lowestOf_3 : decode cX5_lowestOf 3 = .ok (.istore_n 3, 1) := by decide +kernel
theorem dX5_lowestOf_4 : decode cX5_lowestOf 4 = .ok (.iload_n 3, 1) := by decide +kernel
theorem dX5_lowestOf_5 : decode cX5_lowestOf 5 = .ok (.aload_n 0, 1) := by decide +kernel
theorem dX5_lowestOf_6 : decode cX5_lowestOf 6 = .ok (.getfield 38, 3) := by decide +kernel
theorem dX5_lowestOf_9 : decode cX5_lowestOf 9 = .ok (.if_icmp .ge 45, 3) := by decide +kernel
theorem dX5_lowestOf_12 : decode cX5_lowestOf 12 = .ok (.iload_n 1, 1) := by decide +kernel
theorem dX5_lowestOf_13 : decode cX5_lowestOf 13 = .ok (.iload_n 3, 1) := by decide +kernel
theorem dX5_lowestOf_14 : decode cX5_lowestOf 14 = .ok (.ishr, 1) := by decide +kernel
theorem dX5_lowestOf_15 : decode cX5_lowestOf 15 = .ok (.iconst 1, 1) := by decide +kernel
theorem dX5_lowestOf_16 : decode cX5_lowestOf 16 = .ok (.iand, 1) := by decide +kernel
theorem dX5_lowestOf_17 : decode cX5_lowestOf 17 = .ok (.ifCond .eq 31, 3) := by decide +kernel
theorem dX5_lowestOf_20 : decode cX5_lowestOf 20 = .ok (.iload_n 2, 1) := by decide +kernel
theorem dX5_lowestOf_21 : decode cX5_lowestOf 21 = .ok (.iconst (-1), 1) := by decide +kernel
theorem dX5_lowestOf_22 : decode cX5_lowestOf 22 = .ok (.if_icmp .eq 24, 3) := by decide +kernel
theorem dX5_lowestOf_25 : decode cX5_lowestOf 25 = .ok (.aload_n 0, 1) := by decide +kernel
theorem dX5_lowestOf_26 : decode cX5_lowestOf 26 = .ok (.getfield 11, 3) := by decide +kernel
theorem dX5_lowestOf_29 : decode cX5_lowestOf 29 = .ok (.iload_n 3, 1) := by decide +kernel
theorem dX5_lowestOf_30 : decode cX5_lowestOf 30 = .ok (.aaload, 1) := by decide +kernel
theorem dX5_lowestOf_31 : decode cX5_lowestOf 31 = .ok (.getfield 64, 3) := by decide +kernel
theorem dX5_lowestOf_34 : decode cX5_lowestOf 34 = .ok (.aload_n 0, 1) := by decide +kernel
theorem dX5_lowestOf_35 : decode cX5_lowestOf 35 = .ok (.getfield 11, 3) := by decide +kernel
theorem dX5_lowestOf_38 : decode cX5_lowestOf 38 = .ok (.iload_n 2, 1) := by decide +kernel
theorem dX5_lowestOf_39 : decode cX5_lowestOf 39 = .ok (.aaload, 1) := by decide +kernel
theorem dX5_lowestOf_40 : decode cX5_lowestOf 40 = .ok (.getfield 64, 3) := by decide +kernel
theorem dX5_lowestOf_43 : decode cX5_lowestOf 43 = .ok (.if_icmp .ge 5, 3) := by decide +kernel
theorem dX5_lowestOf_46 : decode cX5_lowestOf 46 = .ok (.iload_n 3, 1) := by decide +kernel
theorem dX5_lowestOf_47 : decode cX5_lowestOf 47 = .ok (.istore_n 2, 1) := by decide +kernel
theorem dX5_lowestOf_48 : decode cX5_lowestOf 48 = .ok (.iinc 3 1, 3) := by decide +kernel
theorem dX5_lowestOf_51 : decode cX5_lowestOf 51 = .ok (.goto (-47), 3) := by decide +kernel
theorem dX5_lowestOf_54 : decode cX5_lowestOf 54 = .ok (.iload_n 2, 1) := by decide +kernel
theorem dX5_lowestOf_55 : decode cX5_lowestOf 55 = .ok (.ireturn, 1) := by decide +kernel
theorem dX5_fondness_0 : decode cX5_fondness 0 = .ok (.bipush 10, 2) := by decide +kernel
theorem dX5_fondness_2 : decode cX5_fondness 2 = .ok (.aload_n 0, 1) := by decide +kernel
theorem dX5_fondness_3 : decode cX5_fondness 3 = .ok (.getfield 11, 3) := by decide +kernel
theorem dX5_fondness_6 : decode cX5_fondness 6 = .ok (.iload_n 1, 1) := by decide +kernel
theorem dX5_fondness_7 : decode cX5_fondness 7 = .ok (.aaload, 1) := by decide +kernel
theorem dX5_fondness_8 : decode cX5_fondness 8 = .ok (.getfield 67, 3) := by decide +kernel
theorem dX5_fondness_11 : decode cX5_fondness 11 = .ok (.aload_n 0, 1) := by decide +kernel
theorem dX5_fondness_12 : decode cX5_fondness 12 = .ok (.getfield 19, 3) := by decide +kernel
theorem dX5_fondness_15 : decode cX5_fondness 15 = .ok (.iload_n 2, 1) := by decide +kernel
theorem dX5_fondness_16 : decode cX5_fondness 16 = .ok (.aaload, 1) := by decide +kernel
theorem dX5_fondness_17 : decode cX5_fondness 17 = .ok (.getfield 73, 3) := by decide +kernel
theorem dX5_fondness_20 : decode cX5_fondness 20 = .ok (.isub, 1) := by decide +kernel
theorem dX5_fondness_21 : decode cX5_fondness 21 = .ok (.invokestatic 145, 3) := by decide +kernel
theorem dX5_fondness_24 : decode cX5_fondness 24 = .ok (.isub, 1) := by decide +kernel
theorem dX5_fondness_25 : decode cX5_fondness 25 = .ok (.ireturn, 1) := by decide +kernel
theorem dX5_fondestPerson_0 : decode cX5_fondestPerson 0 = .ok (.aload_n 0, 1) := by decide +kernel
theorem dX5_fondestPerson_1 : decode cX5_fondestPerson 1 = .ok (.iload_n 1, 1) := by decide +kernel
theorem dX5_fondestPerson_2 : decode cX5_fondestPerson 2 = .ok (.invokevirtual 131, 3) := by decide +kernel
theorem dX5_fondestPerson_5 : decode cX5_fondestPerson 5 = .ok (.istore_n 2, 1) := by decide +kernel
theorem dX5_fondestPerson_6 : decode cX5_fondestPerson 6 = .ok (.iconst (-1), 1) := by decide +kernel
theorem dX5_fondestPerson_7 : decode cX5_fondestPerson 7 = .ok (.istore_n 3, 1) := by decide +kernel
theorem dX5_fondestPerson_8 : decode cX5_fondestPerson 8 = .ok (.iconst 0, 1) := by decide +kernel
theorem dX5_fondestPerson_9 : decode cX5_fondestPerson 9 = .ok (.istore 4, 2) := by decide +kernel
theorem dX5_fondestPerson_11 : decode cX5_fondestPerson 11 = .ok (.iload 4, 2) := by decide +kernel
theorem dX5_fondestPerson_13 : decode cX5_fondestPerson 13 = .ok (.aload_n 0, 1) := by decide +kernel
theorem dX5_fondestPerson_14 : decode cX5_fondestPerson 14 = .ok (.getfield 41, 3) := by decide +kernel
theorem dX5_fondestPerson_17 : decode cX5_fondestPerson 17 = .ok (.if_icmp .ge 42, 3) := by decide +kernel
theorem dX5_fondestPerson_20 : decode cX5_fondestPerson 20 = .ok (.iload_n 2, 1) := by decide +kernel
theorem dX5_fondestPerson_21 : decode cX5_fondestPerson 21 = .ok (.iload 4, 2) := by decide +kernel
theorem dX5_fondestPerson_23 : decode cX5_fondestPerson 23 = .ok (.ishr, 1) := by decide +kernel
theorem dX5_fondestPerson_24 : decode cX5_fondestPerson 24 = .ok (.iconst 1, 1) := by decide +kernel
theorem dX5_fondestPerson_25 : decode cX5_fondestPerson 25 = .ok (.iand, 1) := by decide +kernel
theorem dX5_fondestPerson_26 : decode cX5_fondestPerson 26 = .ok (.ifCond .eq 27, 3) := by decide +kernel
theorem dX5_fondestPerson_29 : decode cX5_fondestPerson 29 = .ok (.iload_n 3, 1) := by decide +kernel
theorem dX5_fondestPerson_30 : decode cX5_fondestPerson 30 = .ok (.iconst (-1), 1) := by decide +kernel
theorem dX5_fondestPerson_31 : decode cX5_fondestPerson 31 = .ok (.if_icmp .eq 19, 3) := by decide +kernel
theorem dX5_fondestPerson_34 : decode cX5_fondestPerson 34 = .ok (.aload_n 0, 1) := by decide +kernel
theorem dX5_fondestPerson_35 : decode cX5_fondestPerson 35 = .ok (.iload_n 1, 1) := by decide +kernel
theorem dX5_fondestPerson_36 : decode cX5_fondestPerson 36 = .ok (.iload 4, 2) := by decide +kernel
theorem dX5_fondestPerson_38 : decode cX5_fondestPerson 38 = .ok (.invokevirtual 150, 3) := by decide +kernel
theorem dX5_fondestPerson_41 : decode cX5_fondestPerson 41 = .ok (.aload_n 0, 1) := by decide +kernel
theorem dX5_fondestPerson_42 : decode cX5_fondestPerson 42 = .ok (.iload_n 1, 1) := by decide +kernel
theorem dX5_fondestPerson_43 : decode cX5_fondestPerson 43 = .ok (.iload_n 3, 1) := by decide +kernel
theorem dX5_fondestPerson_44 : decode cX5_fondestPerson 44 = .ok (.invokevirtual 150, 3) := by decide +kernel
theorem dX5_fondestPerson_47 : decode cX5_fondestPerson 47 = .ok (.if_icmp .le 6, 3) := by decide +kernel
theorem dX5_fondestPerson_50 : decode cX5_fondestPerson 50 = .ok (.iload 4, 2) := by decide +kernel
theorem dX5_fondestPerson_52 : decode cX5_fondestPerson 52 = .ok (.istore_n 3, 1) := by decide +kernel
theorem dX5_fondestPerson_53 : decode cX5_fondestPerson 53 = .ok (.iinc 4 1, 3) := by decide +kernel
theorem dX5_fondestPerson_56 : decode cX5_fondestPerson 56 = .ok (.goto (-45), 3) := by decide +kernel
theorem dX5_fondestPerson_59 : decode cX5_fondestPerson 59 = .ok (.iload_n 3, 1) := by decide +kernel
theorem dX5_fondestPerson_60 : decode cX5_fondestPerson 60 = .ok (.ireturn, 1) := by decide +kernel
theorem dX5_fondestWindow_0 : decode cX5_fondestWindow 0 = .ok (.aload_n 0, 1) := by decide +kernel
theorem dX5_fondestWindow_1 : decode cX5_fondestWindow 1 = .ok (.aload_n 0, 1) := by decide +kernel
theorem dX5_fondestWindow_2 : decode cX5_fondestWindow 2 = .ok (.iload_n 1, 1) := by decide +kernel
theorem dX5_fondestWindow_3 : decode cX5_fondestWindow 3 = .ok (.invokevirtual 128, 3) := by decide +kernel
theorem dX5_fondestWindow_6 : decode cX5_fondestWindow 6 = .ok (.invokevirtual 142, 3) := by decide +kernel
theorem dX5_fondestWindow_9 : decode cX5_fondestWindow 9 = .ok (.istore_n 2, 1) := by decide +kernel
theorem dX5_fondestWindow_10 : decode cX5_fondestWindow 10 = .ok (.iconst (-1), 1) := by decide +kernel
theorem dX5_fondestWindow_11 : decode cX5_fondestWindow 11 = .ok (.istore_n 3, 1) := by decide +kernel
theorem dX5_fondestWindow_12 : decode cX5_fondestWindow 12 = .ok (.iconst 0, 1) := by decide +kernel
theorem dX5_fondestWindow_13 : decode cX5_fondestWindow 13 = .ok (.istore 4, 2) := by decide +kernel
theorem dX5_fondestWindow_15 : decode cX5_fondestWindow 15 = .ok (.iload 4, 2) := by decide +kernel
theorem dX5_fondestWindow_17 : decode cX5_fondestWindow 17 = .ok (.aload_n 0, 1) := by decide +kernel
theorem dX5_fondestWindow_18 : decode cX5_fondestWindow 18 = .ok (.getfield 38, 3) := by decide +kernel
theorem dX5_fondestWindow_21 : decode cX5_fondestWindow 21 = .ok (.if_icmp .ge 42, 3) := by decide +kernel
theorem dX5_fondestWindow_24 : decode cX5_fondestWindow 24 = .ok (.iload_n 2, 1) := by decide +kernel
theorem dX5_fondestWindow_25 : decode cX5_fondestWindow 25 = .ok (.iload 4, 2) := by decide +kernel
theorem dX5_fondestWindow_27 : decode cX5_fondestWindow 27 = .ok (.ishr, 1) := by decide +kernel
theorem dX5_fondestWindow_28 : decode cX5_fondestWindow 28 = .ok (.iconst 1, 1) := by decide +kernel
theorem dX5_fondestWindow_29 : decode cX5_fondestWindow 29 = .ok (.iand, 1) := by decide +kernel
theorem dX5_fondestWindow_30 : decode cX5_fondestWindow 30 = .ok (.ifCond .eq 27, 3) := by decide +kernel
theorem dX5_fondestWindow_33 : decode cX5_fondestWindow 33 = .ok (.iload_n 3, 1) := by decide +kernel
theorem dX5_fondestWindow_34 : decode cX5_fondestWindow 34 = .ok (.iconst (-1), 1) := by decide +kernel
theorem dX5_fondestWindow_35 : decode cX5_fondestWindow 35 = .ok (.if_icmp .eq 19, 3) := by decide +kernel
theorem dX5_fondestWindow_38 : decode cX5_fondestWindow 38 = .ok (.aload_n 0, 1) := by decide +kernel
theorem dX5_fondestWindow_39 : decode cX5_fondestWindow 39 = .ok (.iload 4, 2) := by decide +kernel
theorem dX5_fondestWindow_41 : decode cX5_fondestWindow 41 = .ok (.iload_n 1, 1) := by decide +kernel
theorem dX5_fondestWindow_42 : decode cX5_fondestWindow 42 = .ok (.invokevirtual 150, 3) := by decide +kernel
theorem dX5_fondestWindow_45 : decode cX5_fondestWindow 45 = .ok (.aload_n 0, 1) := by decide +kernel
theorem dX5_fondestWindow_46 : decode cX5_fondestWindow 46 = .ok (.iload_n 3, 1) := by decide +kernel
theorem dX5_fondestWindow_47 : decode cX5_fondestWindow 47 = .ok (.iload_n 1, 1) := by decide +kernel
theorem dX5_fondestWindow_48 : decode cX5_fondestWindow 48 = .ok (.invokevirtual 150, 3) := by decide +kernel
theorem dX5_fondestWindow_51 : decode cX5_fondestWindow 51 = .ok (.if_icmp .le 6, 3) := by decide +kernel
theorem dX5_fondestWindow_54 : decode cX5_fondestWindow 54 = .ok (.iload 4, 2) := by decide +kernel
theorem dX5_fondestWindow_56 : decode cX5_fondestWindow 56 = .ok (.istore_n 3, 1) := by decide +kernel
theorem dX5_fondestWindow_57 : decode cX5_fondestWindow 57 = .ok (.iinc 4 1, 3) := by decide +kernel
theorem dX5_fondestWindow_60 : decode cX5_fondestWindow 60 = .ok (.goto (-45), 3) := by decide +kernel
theorem dX5_fondestWindow_63 : decode cX5_fondestWindow 63 = .ok (.iload_n 3, 1) := by decide +kernel
theorem dX5_fondestWindow_64 : decode cX5_fondestWindow 64 = .ok (.ireturn, 1) := by decide +kernel
theorem dX5_windowsTooLate_0 : decode cX5_windowsTooLate 0 = .ok (.iconst 0, 1) := by decide +kernel
theorem dX5_windowsTooLate_1 : decode cX5_windowsTooLate 1 = .ok (.istore_n 2, 1) := by decide +kernel
theorem dX5_windowsTooLate_2 : decode cX5_windowsTooLate 2 = .ok (.iconst 0, 1) := by decide +kernel
theorem dX5_windowsTooLate_3 : decode cX5_windowsTooLate 3 = .ok (.istore_n 3, 1) := by decide +kernel
theorem dX5_windowsTooLate_4 : decode cX5_windowsTooLate 4 = .ok (.iload_n 3, 1) := by decide +kernel
theorem dX5_windowsTooLate_5 : decode cX5_windowsTooLate 5 = .ok (.aload_n 0, 1) := by decide +kernel
theorem dX5_windowsTooLate_6 : decode cX5_windowsTooLate 6 = .ok (.getfield 38, 3) := by decide +kernel
theorem dX5_windowsTooLate_9 : decode cX5_windowsTooLate 9 = .ok (.if_icmp .ge 25, 3) := by decide +kernel
theorem dX5_windowsTooLate_12 : decode cX5_windowsTooLate 12 = .ok (.aload_n 0, 1) := by decide +kernel
theorem dX5_windowsTooLate_13 : decode cX5_windowsTooLate 13 = .ok (.iload_n 1, 1) := by decide +kernel
theorem dX5_windowsTooLate_14 : decode cX5_windowsTooLate 14 = .ok (.iload_n 3, 1) := by decide +kernel
theorem dX5_windowsTooLate_15 : decode cX5_windowsTooLate 15 = .ok (.invokevirtual 153, 3) := by decide +kernel
theorem dX5_windowsTooLate_18 : decode cX5_windowsTooLate 18 = .ok (.iconst (-1), 1) := by decide +kernel
theorem dX5_windowsTooLate_19 : decode cX5_windowsTooLate 19 = .ok (.if_icmp .ne 9, 3) := by decide +kernel
theorem dX5_windowsTooLate_22 : decode cX5_windowsTooLate 22 = .ok (.iload_n 2, 1) := by decide +kernel
theorem dX5_windowsTooLate_23 : decode cX5_windowsTooLate 23 = .ok (.iconst 1, 1) := by decide +kernel
theorem dX5_windowsTooLate_24 : decode cX5_windowsTooLate 24 = .ok (.iload_n 3, 1) := by decide +kernel
theorem dX5_windowsTooLate_25 : decode cX5_windowsTooLate 25 = .ok (.ishl, 1) := by decide +kernel
theorem dX5_windowsTooLate_26 : decode cX5_windowsTooLate 26 = .ok (.ior, 1) := by decide +kernel
theorem dX5_windowsTooLate_27 : decode cX5_windowsTooLate 27 = .ok (.istore_n 2, 1) := by decide +kernel
theorem dX5_windowsTooLate_28 : decode cX5_windowsTooLate 28 = .ok (.iinc 3 1, 3) := by decide +kernel
theorem dX5_windowsTooLate_31 : decode cX5_windowsTooLate 31 = .ok (.goto (-27), 3) := by decide +kernel
theorem dX5_windowsTooLate_34 : decode cX5_windowsTooLate 34 = .ok (.iload_n 2, 1) := by decide +kernel
theorem dX5_windowsTooLate_35 : decode cX5_windowsTooLate 35 = .ok (.ireturn, 1) := by decide +kernel
theorem dX5_countKind_0 : decode cX5_countKind 0 = .ok (.iconst 0, 1) := by decide +kernel
theorem dX5_countKind_1 : decode cX5_countKind 1 = .ok (.istore_n 2, 1) := by decide +kernel
theorem dX5_countKind_2 : decode cX5_countKind 2 = .ok (.iconst 0, 1) := by decide +kernel
theorem dX5_countKind_3 : decode cX5_countKind 3 = .ok (.istore_n 3, 1) := by decide +kernel
theorem dX5_countKind_4 : decode cX5_countKind 4 = .ok (.iload_n 3, 1) := by decide +kernel
theorem dX5_countKind_5 : decode cX5_countKind 5 = .ok (.aload_n 0, 1) := by decide +kernel
theorem dX5_countKind_6 : decode cX5_countKind 6 = .ok (.getfield 41, 3) := by decide +kernel
theorem dX5_countKind_9 : decode cX5_countKind 9 = .ok (.if_icmp .ge 25, 3) := by decide +kernel
theorem dX5_countKind_12 : decode cX5_countKind 12 = .ok (.aload_n 0, 1) := by decide +kernel
theorem dX5_countKind_13 : decode cX5_countKind 13 = .ok (.getfield 19, 3) := by decide +kernel
theorem dX5_countKind_16 : decode cX5_countKind 16 = .ok (.iload_n 3, 1) := by decide +kernel
theorem dX5_countKind_17 : decode cX5_countKind 17 = .ok (.aaload, 1) := by decide +kernel
theorem dX5_countKind_18 : decode cX5_countKind 18 = .ok (.getfield 70, 3) := by decide +kernel
theorem dX5_countKind_21 : decode cX5_countKind 21 = .ok (.iload_n 1, 1) := by decide +kernel
theorem dX5_countKind_22 : decode cX5_countKind 22 = .ok (.if_icmp .ne 6, 3) := by decide +kernel
theorem dX5_countKind_25 : decode cX5_countKind 25 = .ok (.iinc 2 1, 3) := by decide +kernel
theorem dX5_countKind_28 : decode cX5_countKind 28 = .ok (.iinc 3 1, 3) := by decide +kernel
theorem dX5_countKind_31 : decode cX5_countKind 31 = .ok (.goto (-27), 3) := by decide +kernel
theorem dX5_countKind_34 : decode cX5_countKind 34 = .ok (.iload_n 2, 1) := by decide +kernel
theorem dX5_countKind_35 : decode cX5_countKind 35 = .ok (.ireturn, 1) := by decide +kernel
theorem dX5_roseBearers_0 : decode cX5_roseBearers 0 = .ok (.iconst 0, 1) := by decide +kernel
theorem dX5_roseBearers_1 : decode cX5_roseBearers 1 = .ok (.istore_n 2, 1) := by decide +kernel
theorem dX5_roseBearers_2 : decode cX5_roseBearers 2 = .ok (.iconst 0, 1) := by decide +kernel
theorem dX5_roseBearers_3 : decode cX5_roseBearers 3 = .ok (.istore_n 3, 1) := by decide +kernel
theorem dX5_roseBearers_4 : decode cX5_roseBearers 4 = .ok (.iload_n 3, 1) := by decide +kernel
theorem dX5_roseBearers_5 : decode cX5_roseBearers 5 = .ok (.aload_n 0, 1) := by decide +kernel
theorem dX5_roseBearers_6 : decode cX5_roseBearers 6 = .ok (.getfield 41, 3) := by decide +kernel
theorem dX5_roseBearers_9 : decode cX5_roseBearers 9 = .ok (.if_icmp .ge 45, 3) := by decide +kernel
theorem dX5_roseBearers_12 : decode cX5_roseBearers 12 = .ok (.aload_n 0, 1) := by decide +kernel
theorem dX5_roseBearers_13 : decode cX5_roseBearers 13 = .ok (.getfield 19, 3) := by decide +kernel
theorem dX5_roseBearers_16 : decode cX5_roseBearers 16 = .ok (.iload_n 3, 1) := by decide +kernel
theorem dX5_roseBearers_17 : decode cX5_roseBearers 17 = .ok (.aaload, 1) := by decide +kernel
theorem dX5_roseBearers_18 : decode cX5_roseBearers 18 = .ok (.getfield 94, 3) := by decide +kernel
theorem dX5_roseBearers_21 : decode cX5_roseBearers 21 = .ok (.iconst (-1), 1) := by decide +kernel
theorem dX5_roseBearers_22 : decode cX5_roseBearers 22 = .ok (.if_icmp .eq 26, 3) := by decide +kernel
theorem dX5_roseBearers_25 : decode cX5_roseBearers 25 = .ok (.iload_n 1, 1) := by decide +kernel
theorem dX5_roseBearers_26 : decode cX5_roseBearers 26 = .ok (.ifCond .eq 16, 3) := by decide +kernel
theorem dX5_roseBearers_29 : decode cX5_roseBearers 29 = .ok (.aload_n 0, 1) := by decide +kernel
theorem dX5_roseBearers_30 : decode cX5_roseBearers 30 = .ok (.getfield 19, 3) := by decide +kernel
theorem dX5_roseBearers_33 : decode cX5_roseBearers 33 = .ok (.iload_n 3, 1) := by decide +kernel
theorem dX5_roseBearers_34 : decode cX5_roseBearers 34 = .ok (.aaload, 1) := by decide +kernel
theorem dX5_roseBearers_35 : decode cX5_roseBearers 35 = .ok (.getfield 156, 3) := by decide +kernel
theorem dX5_roseBearers_38 : decode cX5_roseBearers 38 = .ok (.iconst (-1), 1) := by decide +kernel
theorem dX5_roseBearers_39 : decode cX5_roseBearers 39 = .ok (.if_icmp .ne 9, 3) := by decide +kernel
theorem dX5_roseBearers_42 : decode cX5_roseBearers 42 = .ok (.iload_n 2, 1) := by decide +kernel
theorem dX5_roseBearers_43 : decode cX5_roseBearers 43 = .ok (.iconst 1, 1) := by decide +kernel
theorem dX5_roseBearers_44 : decode cX5_roseBearers 44 = .ok (.iload_n 3, 1) := by decide +kernel
theorem dX5_roseBearers_45 : decode cX5_roseBearers 45 = .ok (.ishl, 1) := by decide +kernel
theorem dX5_roseBearers_46 : decode cX5_roseBearers 46 = .ok (.ior, 1) := by decide +kernel
theorem dX5_roseBearers_47 : decode cX5_roseBearers 47 = .ok (.istore_n 2, 1) := by decide +kernel
theorem dX5_roseBearers_48 : decode cX5_roseBearers 48 = .ok (.iinc 3 1, 3) := by decide +kernel
theorem dX5_roseBearers_51 : decode cX5_roseBearers 51 = .ok (.goto (-47), 3) := by decide +kernel
theorem dX5_roseBearers_54 : decode cX5_roseBearers 54 = .ok (.iload_n 2, 1) := by decide +kernel
theorem dX5_roseBearers_55 : decode cX5_roseBearers 55 = .ok (.ireturn, 1) := by decide +kernel
theorem dX5_dueOn_0 : decode cX5_dueOn 0 = .ok (.iconst 0, 1) := by decide +kernel
theorem dX5_dueOn_1 : decode cX5_dueOn 1 = .ok (.istore_n 2, 1) := by decide +kernel
theorem dX5_dueOn_2 : decode cX5_dueOn 2 = .ok (.iconst 0, 1) := by decide +kernel
theorem dX5_dueOn_3 : decode cX5_dueOn 3 = .ok (.istore_n 3, 1) := by decide +kernel
theorem dX5_dueOn_4 : decode cX5_dueOn 4 = .ok (.iload_n 3, 1) := by decide +kernel
theorem dX5_dueOn_5 : decode cX5_dueOn 5 = .ok (.aload_n 0, 1) := by decide +kernel
theorem dX5_dueOn_6 : decode cX5_dueOn 6 = .ok (.getfield 41, 3) := by decide +kernel
theorem dX5_dueOn_9 : decode cX5_dueOn 9 = .ok (.if_icmp .ge 41, 3) := by decide +kernel
theorem dX5_dueOn_12 : decode cX5_dueOn 12 = .ok (.aload_n 0, 1) := by decide +kernel
theorem dX5_dueOn_13 : decode cX5_dueOn 13 = .ok (.getfield 19, 3) := by decide +kernel
theorem dX5_dueOn_16 : decode cX5_dueOn 16 = .ok (.iload_n 3, 1) := by decide +kernel
theorem dX5_dueOn_17 : decode cX5_dueOn 17 = .ok (.aaload, 1) := by decide +kernel
theorem dX5_dueOn_18 : decode cX5_dueOn 18 = .ok (.getfield 156, 3) := by decide +kernel
theorem dX5_dueOn_21 : decode cX5_dueOn 21 = .ok (.iconst (-1), 1) := by decide +kernel
theorem dX5_dueOn_22 : decode cX5_dueOn 22 = .ok (.if_icmp .eq 22, 3) := by decide +kernel
theorem dX5_dueOn_25 : decode cX5_dueOn 25 = .ok (.aload_n 0, 1) := by decide +kernel
theorem dX5_dueOn_26 : decode cX5_dueOn 26 = .ok (.getfield 19, 3) := by decide +kernel
theorem dX5_dueOn_29 : decode cX5_dueOn 29 = .ok (.iload_n 3, 1) := by decide +kernel
theorem dX5_dueOn_30 : decode cX5_dueOn 30 = .ok (.aaload, 1) := by decide +kernel
theorem dX5_dueOn_31 : decode cX5_dueOn 31 = .ok (.getfield 156, 3) := by decide +kernel
theorem dX5_dueOn_34 : decode cX5_dueOn 34 = .ok (.iload_n 1, 1) := by decide +kernel
theorem dX5_dueOn_35 : decode cX5_dueOn 35 = .ok (.if_icmp .ne 9, 3) := by decide +kernel
theorem dX5_dueOn_38 : decode cX5_dueOn 38 = .ok (.iload_n 2, 1) := by decide +kernel
theorem dX5_dueOn_39 : decode cX5_dueOn 39 = .ok (.iconst 1, 1) := by decide +kernel
theorem dX5_dueOn_40 : decode cX5_dueOn 40 = .ok (.iload_n 3, 1) := by decide +kernel
theorem dX5_dueOn_41 : decode cX5_dueOn 41 = .ok (.ishl, 1) := by decide +kernel
theorem dX5_dueOn_42 : decode cX5_dueOn 42 = .ok (.ior, 1) := by decide +kernel
theorem dX5_dueOn_43 : decode cX5_dueOn 43 = .ok (.istore_n 2, 1) := by decide +kernel
theorem dX5_dueOn_44 : decode cX5_dueOn 44 = .ok (.iinc 3 1, 3) := by decide +kernel
theorem dX5_dueOn_47 : decode cX5_dueOn 47 = .ok (.goto (-43), 3) := by decide +kernel
theorem dX5_dueOn_50 : decode cX5_dueOn 50 = .ok (.iload_n 2, 1) := by decide +kernel
theorem dX5_dueOn_51 : decode cX5_dueOn 51 = .ok (.ireturn, 1) := by decide +kernel
theorem dX5_firstDue_0 : decode cX5_firstDue 0 = .ok (.iconst (-1), 1) := by decide +kernel
theorem dX5_firstDue_1 : decode cX5_firstDue 1 = .ok (.istore_n 1, 1) := by decide +kernel
theorem dX5_firstDue_2 : decode cX5_firstDue 2 = .ok (.iconst 0, 1) := by decide +kernel
theorem dX5_firstDue_3 : decode cX5_firstDue 3 = .ok (.istore_n 2, 1) := by decide +kernel
theorem dX5_firstDue_4 : decode cX5_firstDue 4 = .ok (.iload_n 2, 1) := by decide +kernel
theorem dX5_firstDue_5 : decode cX5_firstDue 5 = .ok (.aload_n 0, 1) := by decide +kernel
theorem dX5_firstDue_6 : decode cX5_firstDue 6 = .ok (.getfield 41, 3) := by decide +kernel
theorem dX5_firstDue_9 : decode cX5_firstDue 9 = .ok (.if_icmp .ge 36, 3) := by decide +kernel
theorem dX5_firstDue_12 : decode cX5_firstDue 12 = .ok (.aload_n 0, 1) := by decide +kernel
theorem dX5_firstDue_13 : decode cX5_firstDue 13 = .ok (.getfield 19, 3) := by decide +kernel
theorem dX5_firstDue_16 : decode cX5_firstDue 16 = .ok (.iload_n 2, 1) := by decide +kernel
theorem dX5_firstDue_17 : decode cX5_firstDue 17 = .ok (.aaload, 1) := by decide +kernel
theorem dX5_firstDue_18 : decode cX5_firstDue 18 = .ok (.getfield 156, 3) := by decide +kernel
theorem dX5_firstDue_21 : decode cX5_firstDue 21 = .ok (.istore_n 3, 1) := by decide +kernel
theorem dX5_firstDue_22 : decode cX5_firstDue 22 = .ok (.iload_n 3, 1) := by decide +kernel
theorem dX5_firstDue_23 : decode cX5_firstDue 23 = .ok (.iconst (-1), 1) := by decide +kernel
theorem dX5_firstDue_24 : decode cX5_firstDue 24 = .ok (.if_icmp .eq 15, 3) := by decide +kernel
theorem dX5_firstDue_27 : decode cX5_firstDue 27 = .ok (.iload_n 1, 1) := by decide +kernel
theorem dX5_firstDue_28 : decode cX5_firstDue 28 = .ok (.iconst (-1), 1) := by decide +kernel
theorem dX5_firstDue_29 : decode cX5_firstDue 29 = .ok (.if_icmp .eq 8, 3) := by decide +kernel
theorem dX5_firstDue_32 : decode cX5_firstDue 32 = .ok (.iload_n 3, 1) := by decide +kernel
theorem dX5_firstDue_33 : decode cX5_firstDue 33 = .ok (.iload_n 1, 1) := by decide +kernel
theorem dX5_firstDue_34 : decode cX5_firstDue 34 = .ok (.if_icmp .ge 5, 3) := by decide +kernel
theorem dX5_firstDue_37 : decode cX5_firstDue 37 = .ok (.iload_n 3, 1) := by decide +kernel
theorem dX5_firstDue_38 : decode cX5_firstDue 38 = .ok (.istore_n 1, 1) := by decide +kernel
theorem dX5_firstDue_39 : decode cX5_firstDue 39 = .ok (.iinc 2 1, 3) := by decide +kernel
theorem dX5_firstDue_42 : decode cX5_firstDue 42 = .ok (.goto (-38), 3) := by decide +kernel
theorem dX5_firstDue_45 : decode cX5_firstDue 45 = .ok (.iload_n 1, 1) := by decide +kernel
theorem dX5_firstDue_46 : decode cX5_firstDue 46 = .ok (.ireturn, 1) := by decide +kernel
theorem dX5_lastDue_0 : decode cX5_lastDue 0 = .ok (.iconst (-1), 1) := by decide +kernel
theorem dX5_lastDue_1 : decode cX5_lastDue 1 = .ok (.istore_n 1, 1) := by decide +kernel
theorem dX5_lastDue_2 : decode cX5_lastDue 2 = .ok (.iconst 0, 1) := by decide +kernel
theorem dX5_lastDue_3 : decode cX5_lastDue 3 = .ok (.istore_n 2, 1) := by decide +kernel
theorem dX5_lastDue_4 : decode cX5_lastDue 4 = .ok (.iload_n 2, 1) := by decide +kernel
theorem dX5_lastDue_5 : decode cX5_lastDue 5 = .ok (.aload_n 0, 1) := by decide +kernel
theorem dX5_lastDue_6 : decode cX5_lastDue 6 = .ok (.getfield 41, 3) := by decide +kernel
theorem dX5_lastDue_9 : decode cX5_lastDue 9 = .ok (.if_icmp .ge 23, 3) := by decide +kernel
theorem dX5_lastDue_12 : decode cX5_lastDue 12 = .ok (.iload_n 1, 1) := by decide +kernel
theorem dX5_lastDue_13 : decode cX5_lastDue 13 = .ok (.aload_n 0, 1) := by decide +kernel
theorem dX5_lastDue_14 : decode cX5_lastDue 14 = .ok (.getfield 19, 3) := by decide +kernel
theorem dX5_lastDue_17 : decode cX5_lastDue 17 = .ok (.iload_n 2, 1) := by decide +kernel
theorem dX5_lastDue_18 : decode cX5_lastDue 18 = .ok (.aaload, 1) := by decide +kernel
theorem dX5_lastDue_19 : decode cX5_lastDue 19 = .ok (.getfield 156, 3) := by decide +kernel
theorem dX5_lastDue_22 : decode cX5_lastDue 22 = .ok (.invokestatic 159, 3) := by decide +kernel
theorem dX5_lastDue_25 : decode cX5_lastDue 25 = .ok (.istore_n 1, 1) := by decide +kernel
theorem dX5_lastDue_26 : decode cX5_lastDue 26 = .ok (.iinc 2 1, 3) := by decide +kernel
theorem dX5_lastDue_29 : decode cX5_lastDue 29 = .ok (.goto (-25), 3) := by decide +kernel
theorem dX5_lastDue_32 : decode cX5_lastDue 32 = .ok (.iload_n 1, 1) := by decide +kernel
theorem dX5_lastDue_33 : decode cX5_lastDue 33 = .ok (.ireturn, 1) := by decide +kernel
theorem dX5_queueLength_0 : decode cX5_queueLength 0 = .ok (.iconst 0, 1) := by decide +kernel
theorem dX5_queueLength_1 : decode cX5_queueLength 1 = .ok (.istore_n 3, 1) := by decide +kernel
theorem dX5_queueLength_2 : decode cX5_queueLength 2 = .ok (.iconst 0, 1) := by decide +kernel
theorem dX5_queueLength_3 : decode cX5_queueLength 3 = .ok (.istore 4, 2) := by decide +kernel
theorem dX5_queueLength_5 : decode cX5_queueLength 5 = .ok (.iload 4, 2) := by decide +kernel
theorem dX5_queueLength_7 : decode cX5_queueLength 7 = .ok (.aload_n 0, 1) := by decide +kernel
theorem dX5_queueLength_8 : decode cX5_queueLength 8 = .ok (.getfield 41, 3) := by decide +kernel
theorem dX5_queueLength_11 : decode cX5_queueLength 11 = .ok (.if_icmp .ge 40, 3) := by decide +kernel
theorem dX5_queueLength_14 : decode cX5_queueLength 14 = .ok (.aload_n 0, 1) := by decide +kernel
theorem dX5_queueLength_15 : decode cX5_queueLength 15 = .ok (.getfield 19, 3) := by decide +kernel
theorem dX5_queueLength_18 : decode cX5_queueLength 18 = .ok (.iload 4, 2) := by decide +kernel
theorem dX5_queueLength_20 : decode cX5_queueLength 20 = .ok (.aaload, 1) := by decide +kernel
theorem dX5_queueLength_21 : decode cX5_queueLength 21 = .ok (.getfield 94, 3) := by decide +kernel
theorem dX5_queueLength_24 : decode cX5_queueLength 24 = .ok (.iload_n 1, 1) := by decide +kernel
theorem dX5_queueLength_25 : decode cX5_queueLength 25 = .ok (.if_icmp .ne 20, 3) := by decide +kernel
theorem dX5_queueLength_28 : decode cX5_queueLength 28 = .ok (.aload_n 0, 1) := by decide +kernel
theorem dX5_queueLength_29 : decode cX5_queueLength 29 = .ok (.getfield 19, 3) := by decide +kernel
theorem dX5_queueLength_32 : decode cX5_queueLength 32 = .ok (.iload 4, 2) := by decide +kernel
theorem dX5_queueLength_34 : decode cX5_queueLength 34 = .ok (.aaload, 1) := by decide +kernel
theorem dX5_queueLength_35 : decode cX5_queueLength 35 = .ok (.getfield 156, 3) := by decide +kernel
theorem dX5_queueLength_38 : decode cX5_queueLength 38 = .ok (.iload_n 2, 1) := by decide +kernel
theorem dX5_queueLength_39 : decode cX5_queueLength 39 = .ok (.if_icmp .ne 6, 3) := by decide +kernel
theorem dX5_queueLength_42 : decode cX5_queueLength 42 = .ok (.iinc 3 1, 3) := by decide +kernel
theorem dX5_queueLength_45 : decode cX5_queueLength 45 = .ok (.iinc 4 1, 3) := by decide +kernel
theorem dX5_queueLength_48 : decode cX5_queueLength 48 = .ok (.goto (-43), 3) := by decide +kernel
theorem dX5_queueLength_51 : decode cX5_queueLength 51 = .ok (.iload_n 3, 1) := by decide +kernel
theorem dX5_queueLength_52 : decode cX5_queueLength 52 = .ok (.ireturn, 1) := by decide +kernel
theorem dX5_longestWaiter_0 : decode cX5_longestWaiter 0 = .ok (.iconst (-1), 1) := by decide +kernel
theorem dX5_longestWaiter_1 : decode cX5_longestWaiter 1 = .ok (.istore_n 1, 1) := by decide +kernel
theorem dX5_longestWaiter_2 : decode cX5_longestWaiter 2 = .ok (.iconst 0, 1) := by decide +kernel
theorem dX5_longestWaiter_3 : decode cX5_longestWaiter 3 = .ok (.istore_n 2, 1) := by decide +kernel
theorem dX5_longestWaiter_4 : decode cX5_longestWaiter 4 = .ok (.iload_n 2, 1) := by decide +kernel
theorem dX5_longestWaiter_5 : decode cX5_longestWaiter 5 = .ok (.aload_n 0, 1) := by decide +kernel
theorem dX5_longestWaiter_6 : decode cX5_longestWaiter 6 = .ok (.getfield 41, 3) := by decide +kernel
theorem dX5_longestWaiter_9 : decode cX5_longestWaiter 9 = .ok (.if_icmp .ge 48, 3) := by decide +kernel
theorem dX5_longestWaiter_12 : decode cX5_longestWaiter 12 = .ok (.aload_n 0, 1) := by decide +kernel
theorem dX5_longestWaiter_13 : decode cX5_longestWaiter 13 = .ok (.getfield 19, 3) := by decide +kernel
theorem dX5_longestWaiter_16 : decode cX5_longestWaiter 16 = .ok (.iload_n 2, 1) := by decide +kernel
theorem dX5_longestWaiter_17 : decode cX5_longestWaiter 17 = .ok (.aaload, 1) := by decide +kernel
theorem dX5_longestWaiter_18 : decode cX5_longestWaiter 18 = .ok (.getfield 156, 3) := by decide +kernel
theorem dX5_longestWaiter_21 : decode cX5_longestWaiter 21 = .ok (.iconst (-1), 1) := by decide +kernel
theorem dX5_longestWaiter_22 : decode cX5_longestWaiter 22 = .ok (.if_icmp .eq 29, 3) := by decide +kernel
theorem dX5_longestWaiter_25 : decode cX5_longestWaiter 25 = .ok (.iload_n 1, 1) := by decide +kernel
theorem dX5_longestWaiter_26 : decode cX5_longestWaiter 26 = .ok (.iconst (-1), 1) := by decide +kernel
theorem dX5_longestWaiter_27 : decode cX5_longestWaiter 27 = .ok (.if_icmp .eq 22, 3) := by decide +kernel
theorem dX5_longestWaiter_30 : decode cX5_longestWaiter 30 = .ok (.aload_n 0, 1) := by decide +kernel
theorem dX5_longestWaiter_31 : decode cX5_longestWaiter 31 = .ok (.aload_n 0, 1) := by decide +kernel
theorem dX5_longestWaiter_32 : decode cX5_longestWaiter 32 = .ok (.getfield 19, 3) := by decide +kernel
theorem dX5_longestWaiter_35 : decode cX5_longestWaiter 35 = .ok (.iload_n 2, 1) := by decide +kernel
theorem dX5_longestWaiter_36 : decode cX5_longestWaiter 36 = .ok (.aaload, 1) := by decide +kernel
theorem dX5_longestWaiter_37 : decode cX5_longestWaiter 37 = .ok (.aload_n 0, 1) := by decide +kernel
theorem dX5_longestWaiter_38 : decode cX5_longestWaiter 38 = .ok (.getfield 19, 3) := by decide +kernel
theorem dX5_longestWaiter_41 : decode cX5_longestWaiter 41 = .ok (.iload_n 1, 1) := by decide +kernel
theorem dX5_longestWaiter_42 : decode cX5_longestWaiter 42 = .ok (.aaload, 1) := by decide +kernel
theorem dX5_longestWaiter_43 : decode cX5_longestWaiter 43 = .ok (.invokevirtual 162, 3) := by decide +kernel
theorem dX5_longestWaiter_46 : decode cX5_longestWaiter 46 = .ok (.ifCond .eq 5, 3) := by decide +kernel
theorem dX5_longestWaiter_49 : decode cX5_longestWaiter 49 = .ok (.iload_n 2, 1) := by decide +kernel
theorem dX5_longestWaiter_50 : decode cX5_longestWaiter 50 = .ok (.istore_n 1, 1) := by decide +kernel
theorem dX5_longestWaiter_51 : decode cX5_longestWaiter 51 = .ok (.iinc 2 1, 3) := by decide +kernel
theorem dX5_longestWaiter_54 : decode cX5_longestWaiter 54 = .ok (.goto (-50), 3) := by decide +kernel
theorem dX5_longestWaiter_57 : decode cX5_longestWaiter 57 = .ok (.iload_n 1, 1) := by decide +kernel
theorem dX5_longestWaiter_58 : decode cX5_longestWaiter 58 = .ok (.ireturn, 1) := by decide +kernel
theorem dX5_waitsLonger_0 : decode cX5_waitsLonger 0 = .ok (.aload_n 0, 1) := by decide +kernel
theorem dX5_waitsLonger_1 : decode cX5_waitsLonger 1 = .ok (.aload_n 1, 1) := by decide +kernel
theorem dX5_waitsLonger_2 : decode cX5_waitsLonger 2 = .ok (.getfield 94, 3) := by decide +kernel
theorem dX5_waitsLonger_5 : decode cX5_waitsLonger 5 = .ok (.aload_n 1, 1) := by decide +kernel
theorem dX5_waitsLonger_6 : decode cX5_waitsLonger 6 = .ok (.getfield 156, 3) := by decide +kernel
theorem dX5_waitsLonger_9 : decode cX5_waitsLonger 9 = .ok (.invokevirtual 166, 3) := by decide +kernel
theorem dX5_waitsLonger_12 : decode cX5_waitsLonger 12 = .ok (.istore_n 3, 1) := by decide +kernel
theorem dX5_waitsLonger_13 : decode cX5_waitsLonger 13 = .ok (.aload_n 0, 1) := by decide +kernel
theorem dX5_waitsLonger_14 : decode cX5_waitsLonger 14 = .ok (.aload_n 2, 1) := by decide +kernel
theorem dX5_waitsLonger_15 : decode cX5_waitsLonger 15 = .ok (.getfield 94, 3) := by decide +kernel
theorem dX5_waitsLonger_18 : decode cX5_waitsLonger 18 = .ok (.aload_n 2, 1) := by decide +kernel
theorem dX5_waitsLonger_19 : decode cX5_waitsLonger 19 = .ok (.getfield 156, 3) := by decide +kernel
theorem dX5_waitsLonger_22 : decode cX5_waitsLonger 22 = .ok (.invokevirtual 166, 3) := by decide +kernel
theorem dX5_waitsLonger_25 : decode cX5_waitsLonger 25 = .ok (.istore 4, 2) := by decide +kernel
theorem dX5_waitsLonger_27 : decode cX5_waitsLonger 27 = .ok (.iload_n 3, 1) := by decide +kernel
theorem dX5_waitsLonger_28 : decode cX5_waitsLonger 28 = .ok (.iload 4, 2) := by decide +kernel
theorem dX5_waitsLonger_30 : decode cX5_waitsLonger 30 = .ok (.if_icmp .eq 15, 3) := by decide +kernel
theorem dX5_waitsLonger_33 : decode cX5_waitsLonger 33 = .ok (.iload_n 3, 1) := by decide +kernel
theorem dX5_waitsLonger_34 : decode cX5_waitsLonger 34 = .ok (.iload 4, 2) := by decide +kernel
theorem dX5_waitsLonger_36 : decode cX5_waitsLonger 36 = .ok (.if_icmp .le 7, 3) := by decide +kernel
theorem dX5_waitsLonger_39 : decode cX5_waitsLonger 39 = .ok (.iconst 1, 1) := by decide +kernel
theorem dX5_waitsLonger_40 : decode cX5_waitsLonger 40 = .ok (.goto 4, 3) := by decide +kernel
theorem dX5_waitsLonger_43 : decode cX5_waitsLonger 43 = .ok (.iconst 0, 1) := by decide +kernel
theorem dX5_waitsLonger_44 : decode cX5_waitsLonger 44 = .ok (.ireturn, 1) := by decide +kernel
theorem dX5_waitsLonger_45 : decode cX5_waitsLonger 45 = .ok (.aload_n 1, 1) := by decide +kernel
theorem dX5_waitsLonger_46 : decode cX5_waitsLonger 46 = .ok (.getfield 94, 3) := by decide +kernel
theorem dX5_waitsLonger_49 : decode cX5_waitsLonger 49 = .ok (.aload_n 2, 1) := by decide +kernel
theorem dX5_waitsLonger_50 : decode cX5_waitsLonger 50 = .ok (.getfield 94, 3) := by decide +kernel
theorem dX5_waitsLonger_53 : decode cX5_waitsLonger 53 = .ok (.if_icmp .eq 22, 3) := by decide +kernel
theorem dX5_waitsLonger_56 : decode cX5_waitsLonger 56 = .ok (.aload_n 1, 1) := by decide +kernel
theorem dX5_waitsLonger_57 : decode cX5_waitsLonger 57 = .ok (.getfield 94, 3) := by decide +kernel
theorem dX5_waitsLonger_60 : decode cX5_waitsLonger 60 = .ok (.aload_n 2, 1) := by decide +kernel
theorem dX5_waitsLonger_61 : decode cX5_waitsLonger 61 = .ok (.getfield 94, 3) := by decide +kernel
theorem dX5_waitsLonger_64 : decode cX5_waitsLonger 64 = .ok (.if_icmp .ge 7, 3) := by decide +kernel
theorem dX5_waitsLonger_67 : decode cX5_waitsLonger 67 = .ok (.iconst 1, 1) := by decide +kernel
theorem dX5_waitsLonger_68 : decode cX5_waitsLonger 68 = .ok (.goto 23, 3) := by decide +kernel
theorem dX5_waitsLonger_71 : decode cX5_waitsLonger 71 = .ok (.iconst 0, 1) := by decide +kernel
theorem dX5_waitsLonger_72 : decode cX5_waitsLonger 72 = .ok (.goto 19, 3) := by decide +kernel
theorem dX5_waitsLonger_75 : decode cX5_waitsLonger 75 = .ok (.aload_n 1, 1) := by decide +kernel
theorem dX5_waitsLonger_76 : decode cX5_waitsLonger 76 = .ok (.getfield 156, 3) := by decide +kernel
theorem dX5_waitsLonger_79 : decode cX5_waitsLonger 79 = .ok (.aload_n 2, 1) := by decide +kernel
theorem dX5_waitsLonger_80 : decode cX5_waitsLonger 80 = .ok (.getfield 156, 3) := by decide +kernel
theorem dX5_waitsLonger_83 : decode cX5_waitsLonger 83 = .ok (.if_icmp .ge 7, 3) := by decide +kernel
theorem dX5_waitsLonger_86 : decode cX5_waitsLonger 86 = .ok (.iconst 1, 1) := by decide +kernel
theorem dX5_waitsLonger_87 : decode cX5_waitsLonger 87 = .ok (.goto 4, 3) := by decide +kernel
theorem dX5_waitsLonger_90 : decode cX5_waitsLonger 90 = .ok (.iconst 0, 1) := by decide +kernel
theorem dX5_waitsLonger_91 : decode cX5_waitsLonger 91 = .ok (.ireturn, 1) := by decide +kernel
theorem dX5_firstWrong_0 : decode cX5_firstWrong 0 = .ok (.iconst 0, 1) := by decide +kernel
theorem dX5_firstWrong_1 : decode cX5_firstWrong 1 = .ok (.istore 4, 2) := by decide +kernel
theorem dX5_firstWrong_3 : decode cX5_firstWrong 3 = .ok (.iload 4, 2) := by decide +kernel
theorem dX5_firstWrong_5 : decode cX5_firstWrong 5 = .ok (.iload_n 2, 1) := by decide +kernel
theorem dX5_firstWrong_6 : decode cX5_firstWrong 6 = .ok (.if_icmp .ge 28, 3) := by decide +kernel
theorem dX5_firstWrong_9 : decode cX5_firstWrong 9 = .ok (.aload_n 0, 1) := by decide +kernel
theorem dX5_firstWrong_10 : decode cX5_firstWrong 10 = .ok (.aload_n 1, 1) := by decide +kernel
theorem dX5_firstWrong_11 : decode cX5_firstWrong 11 = .ok (.getfield 169, 3) := by decide +kernel
theorem dX5_firstWrong_14 : decode cX5_firstWrong 14 = .ok (.iload 4, 2) := by decide +kernel
theorem dX5_firstWrong_16 : decode cX5_firstWrong 16 = .ok (.iload_n 3, 1) := by decide +kernel
theorem dX5_firstWrong_17 : decode cX5_firstWrong 17 = .ok (.imul, 1) := by decide +kernel
theorem dX5_firstWrong_18 : decode cX5_firstWrong 18 = .ok (.laload, 1) := by decide +kernel
theorem dX5_firstWrong_19 : decode cX5_firstWrong 19 = .ok (.invokevirtual 175, 3) := by decide +kernel
theorem dX5_firstWrong_22 : decode cX5_firstWrong 22 = .ok (.ifCond .ne 6, 3) := by decide +kernel
theorem dX5_firstWrong_25 : decode cX5_firstWrong 25 = .ok (.iload 4, 2) := by decide +kernel
theorem dX5_firstWrong_27 : decode cX5_firstWrong 27 = .ok (.ireturn, 1) := by decide +kernel
theorem dX5_firstWrong_28 : decode cX5_firstWrong 28 = .ok (.iinc 4 1, 3) := by decide +kernel
theorem dX5_firstWrong_31 : decode cX5_firstWrong 31 = .ok (.goto (-28), 3) := by decide +kernel
theorem dX5_firstWrong_34 : decode cX5_firstWrong 34 = .ok (.iconst (-1), 1) := by decide +kernel
theorem dX5_firstWrong_35 : decode cX5_firstWrong 35 = .ok (.ireturn, 1) := by decide +kernel
theorem dX5_isToldThrow_0 : decode cX5_isToldThrow 0 = .ok (.lload_n 1, 1) := by decide +kernel
theorem dX5_isToldThrow_1 : decode cX5_isToldThrow 1 = .ok (.lconst 0, 1) := by decide +kernel
theorem dX5_isToldThrow_2 : decode cX5_isToldThrow 2 = .ok (.lcmp, 1) := by decide +kernel
theorem dX5_isToldThrow_3 : decode cX5_isToldThrow 3 = .ok (.ifCond .lt 33, 3) := by decide +kernel
theorem dX5_isToldThrow_6 : decode cX5_isToldThrow 6 = .ok (.lload_n 1, 1) := by decide +kernel
theorem dX5_isToldThrow_7 : decode cX5_isToldThrow 7 = .ok (.ldc2_w 179, 3) := by decide +kernel
theorem dX5_isToldThrow_10 : decode cX5_isToldThrow 10 = .ok (.ldiv, 1) := by decide +kernel
theorem dX5_isToldThrow_11 : decode cX5_isToldThrow 11 = .ok (.aload_n 0, 1) := by decide +kernel
theorem dX5_isToldThrow_12 : decode cX5_isToldThrow 12 = .ok (.getfield 38, 3) := by decide +kernel
theorem dX5_isToldThrow_15 : decode cX5_isToldThrow 15 = .ok (.i2l, 1) := by decide +kernel
theorem dX5_isToldThrow_16 : decode cX5_isToldThrow 16 = .ok (.lcmp, 1) := by decide +kernel
theorem dX5_isToldThrow_17 : decode cX5_isToldThrow 17 = .ok (.ifCond .ge 19, 3) := by decide +kernel
theorem dX5_isToldThrow_20 : decode cX5_isToldThrow 20 = .ok (.lload_n 1, 1) := by decide +kernel
theorem dX5_isToldThrow_21 : decode cX5_isToldThrow 21 = .ok (.ldc2_w 181, 3) := by decide +kernel
theorem dX5_isToldThrow_24 : decode cX5_isToldThrow 24 = .ok (.lrem, 1) := by decide +kernel
theorem dX5_isToldThrow_25 : decode cX5_isToldThrow 25 = .ok (.ldc2_w 183, 3) := by decide +kernel
theorem dX5_isToldThrow_28 : decode cX5_isToldThrow 28 = .ok (.lcmp, 1) := by decide +kernel
theorem dX5_isToldThrow_29 : decode cX5_isToldThrow 29 = .ok (.ifCond .ge 7, 3) := by decide +kernel
theorem dX5_isToldThrow_32 : decode cX5_isToldThrow 32 = .ok (.iconst 1, 1) := by decide +kernel
theorem dX5_isToldThrow_33 : decode cX5_isToldThrow 33 = .ok (.goto 4, 3) := by decide +kernel
theorem dX5_isToldThrow_36 : decode cX5_isToldThrow 36 = .ok (.iconst 0, 1) := by decide +kernel
theorem dX5_isToldThrow_37 : decode cX5_isToldThrow 37 = .ok (.ireturn, 1) := by decide +kernel
theorem dX5_tellsOfWindows_0 : decode cX5_tellsOfWindows 0 = .ok (.iconst 0, 1) := by decide +kernel
theorem dX5_tellsOfWindows_1 : decode cX5_tellsOfWindows 1 = .ok (.istore_n 3, 1) := by decide +kernel
theorem dX5_tellsOfWindows_2 : decode cX5_tellsOfWindows 2 = .ok (.iload_n 3, 1) := by decide +kernel
theorem dX5_tellsOfWindows_3 : decode cX5_tellsOfWindows 3 = .ok (.iload_n 2, 1) := by decide +kernel
theorem dX5_tellsOfWindows_4 : decode cX5_tellsOfWindows 4 = .ok (.if_icmp .ge 39, 3) := by decide +kernel
theorem dX5_tellsOfWindows_7 : decode cX5_tellsOfWindows 7 = .ok (.aload_n 1, 1) := by decide +kernel
theorem dX5_tellsOfWindows_8 : decode cX5_tellsOfWindows 8 = .ok (.getfield 169, 3) := by decide +kernel
theorem dX5_tellsOfWindows_11 : decode cX5_tellsOfWindows 11 = .ok (.iconst 2, 1) := by decide +kernel
theorem dX5_tellsOfWindows_12 : decode cX5_tellsOfWindows 12 = .ok (.iload_n 3, 1) := by decide +kernel
theorem dX5_tellsOfWindows_13 : decode cX5_tellsOfWindows 13 = .ok (.imul, 1) := by decide +kernel
theorem dX5_tellsOfWindows_14 : decode cX5_tellsOfWindows 14 = .ok (.laload, 1) := by decide +kernel
theorem dX5_tellsOfWindows_15 : decode cX5_tellsOfWindows 15 = .ok (.lstore 4, 2) := by decide +kernel
theorem dX5_tellsOfWindows_17 : decode cX5_tellsOfWindows 17 = .ok (.lload 4, 2) := by decide +kernel
theorem dX5_tellsOfWindows_19 : decode cX5_tellsOfWindows 19 = .ok (.lconst 0, 1) := by decide +kernel
theorem dX5_tellsOfWindows_20 : decode cX5_tellsOfWindows 20 = .ok (.lcmp, 1) := by decide +kernel
theorem dX5_tellsOfWindows_21 : decode cX5_tellsOfWindows 21 = .ok (.ifCond .lt 14, 3) := by decide +kernel
theorem dX5_tellsOfWindows_24 : decode cX5_tellsOfWindows 24 = .ok (.lload 4, 2) := by decide +kernel
theorem dX5_tellsOfWindows_26 : decode cX5_tellsOfWindows 26 = .ok (.aload_n 0, 1) := by decide +kernel
theorem dX5_tellsOfWindows_27 : decode cX5_tellsOfWindows 27 = .ok (.getfield 38, 3) := by decide +kernel
theorem dX5_tellsOfWindows_30 : decode cX5_tellsOfWindows 30 = .ok (.i2l, 1) := by decide +kernel
theorem dX5_tellsOfWindows_31 : decode cX5_tellsOfWindows 31 = .ok (.lcmp, 1) := by decide +kernel
theorem dX5_tellsOfWindows_32 : decode cX5_tellsOfWindows 32 = .ok (.ifCond .lt 5, 3) := by decide +kernel
theorem dX5_tellsOfWindows_35 : decode cX5_tellsOfWindows 35 = .ok (.iconst 0, 1) := by decide +kernel
theorem dX5_tellsOfWindows_36 : decode cX5_tellsOfWindows 36 = .ok (.ireturn, 1) := by decide +kernel
theorem dX5_tellsOfWindows_37 : decode cX5_tellsOfWindows 37 = .ok (.iinc 3 1, 3) := by decide +kernel
theorem dX5_tellsOfWindows_40 : decode cX5_tellsOfWindows 40 = .ok (.goto (-38), 3) := by decide +kernel
theorem dX5_tellsOfWindows_43 : decode cX5_tellsOfWindows 43 = .ok (.iconst 1, 1) := by decide +kernel
theorem dX5_tellsOfWindows_44 : decode cX5_tellsOfWindows 44 = .ok (.ireturn, 1) := by decide +kernel
theorem dX5_kindsThatFit_0 : decode cX5_kindsThatFit 0 = .ok (.iconst 0, 1) := by decide +kernel
theorem dX5_kindsThatFit_1 : decode cX5_kindsThatFit 1 = .ok (.istore 4, 2) := by decide +kernel
theorem dX5_kindsThatFit_3 : decode cX5_kindsThatFit 3 = .ok (.iconst 0, 1) := by decide +kernel
theorem dX5_kindsThatFit_4 : decode cX5_kindsThatFit 4 = .ok (.istore 5, 2) := by decide +kernel
theorem dX5_kindsThatFit_6 : decode cX5_kindsThatFit 6 = .ok (.iload 5, 2) := by decide +kernel
theorem dX5_kindsThatFit_8 : decode cX5_kindsThatFit 8 = .ok (.iconst 5, 1) := by decide +kernel
theorem dX5_kindsThatFit_9 : decode cX5_kindsThatFit 9 = .ok (.if_icmp .gt 38, 3) := by decide +kernel
theorem dX5_kindsThatFit_12 : decode cX5_kindsThatFit 12 = .ok (.aload_n 0, 1) := by decide +kernel
theorem dX5_kindsThatFit_13 : decode cX5_kindsThatFit 13 = .ok (.aload_n 1, 1) := by decide +kernel
theorem dX5_kindsThatFit_14 : decode cX5_kindsThatFit 14 = .ok (.iload_n 2, 1) := by decide +kernel
theorem dX5_kindsThatFit_15 : decode cX5_kindsThatFit 15 = .ok (.iload 5, 2) := by decide +kernel
theorem dX5_kindsThatFit_17 : decode cX5_kindsThatFit 17 = .ok (.aload_n 0, 1) := by decide +kernel
theorem dX5_kindsThatFit_18 : decode cX5_kindsThatFit 18 = .ok (.getfield 19, 3) := by decide +kernel
theorem dX5_kindsThatFit_21 : decode cX5_kindsThatFit 21 = .ok (.iload_n 3, 1) := by decide +kernel
theorem dX5_kindsThatFit_22 : decode cX5_kindsThatFit 22 = .ok (.aaload, 1) := by decide +kernel
theorem dX5_kindsThatFit_23 : decode cX5_kindsThatFit 23 = .ok (.getfield 73, 3) := by decide +kernel
theorem dX5_kindsThatFit_26 : decode cX5_kindsThatFit 26 = .ok (.invokevirtual 185, 3) := by decide +kernel
theorem dX5_kindsThatFit_29 : decode cX5_kindsThatFit 29 = .ok (.ifCond .eq 12, 3) := by decide +kernel
theorem dX5_kindsThatFit_32 : decode cX5_kindsThatFit 32 = .ok (.iload 4, 2) := by decide +kernel
theorem dX5_kindsThatFit_34 : decode cX5_kindsThatFit 34 = .ok (.iconst 1, 1) := by decide +kernel
theorem dX5_kindsThatFit_35 : decode cX5_kindsThatFit 35 = .ok (.iload 5, 2) := by decide +kernel
theorem dX5_kindsThatFit_37 : decode cX5_kindsThatFit 37 = .ok (.ishl, 1) := by decide +kernel
theorem dX5_kindsThatFit_38 : decode cX5_kindsThatFit 38 = .ok (.ior, 1) := by decide +kernel
theorem dX5_kindsThatFit_39 : decode cX5_kindsThatFit 39 = .ok (.istore 4, 2) := by decide +kernel
theorem dX5_kindsThatFit_41 : decode cX5_kindsThatFit 41 = .ok (.iinc 5 1, 3) := by decide +kernel
theorem dX5_kindsThatFit_44 : decode cX5_kindsThatFit 44 = .ok (.goto (-38), 3) := by decide +kernel
theorem dX5_kindsThatFit_47 : decode cX5_kindsThatFit 47 = .ok (.iload 4, 2) := by decide +kernel
theorem dX5_kindsThatFit_49 : decode cX5_kindsThatFit 49 = .ok (.ireturn, 1) := by decide +kernel
theorem dX5_isSlowAsTold_0 : decode cX5_isSlowAsTold 0 = .ok (.iconst 0, 1) := by decide +kernel
theorem dX5_isSlowAsTold_1 : decode cX5_isSlowAsTold 1 = .ok (.istore 5, 2) := by decide +kernel
theorem dX5_isSlowAsTold_3 : decode cX5_isSlowAsTold 3 = .ok (.iload 5, 2) := by decide +kernel
theorem dX5_isSlowAsTold_5 : decode cX5_isSlowAsTold 5 = .ok (.iload_n 2, 1) := by decide +kernel
theorem dX5_isSlowAsTold_6 : decode cX5_isSlowAsTold 6 = .ok (.if_icmp .ge 55, 3) := by decide +kernel
theorem dX5_isSlowAsTold_9 : decode cX5_isSlowAsTold 9 = .ok (.aload_n 1, 1) := by decide +kernel
theorem dX5_isSlowAsTold_10 : decode cX5_isSlowAsTold 10 = .ok (.getfield 169, 3) := by decide +kernel
theorem dX5_isSlowAsTold_13 : decode cX5_isSlowAsTold 13 = .ok (.iconst 2, 1) := by decide +kernel
theorem dX5_isSlowAsTold_14 : decode cX5_isSlowAsTold 14 = .ok (.iload 5, 2) := by decide +kernel
theorem dX5_isSlowAsTold_16 : decode cX5_isSlowAsTold 16 = .ok (.imul, 1) := by decide +kernel
theorem dX5_isSlowAsTold_17 : decode cX5_isSlowAsTold 17 = .ok (.laload, 1) := by decide +kernel
theorem dX5_isSlowAsTold_18 : decode cX5_isSlowAsTold 18 = .ok (.l2i, 1) := by decide +kernel
theorem dX5_isSlowAsTold_19 : decode cX5_isSlowAsTold 19 = .ok (.istore 6, 2) := by decide +kernel
theorem dX5_isSlowAsTold_21 : decode cX5_isSlowAsTold 21 = .ok (.iload_n 3, 1) := by decide +kernel
theorem dX5_isSlowAsTold_22 : decode cX5_isSlowAsTold 22 = .ok (.iload 4, 2) := by decide +kernel
theorem dX5_isSlowAsTold_24 : decode cX5_isSlowAsTold 24 = .ok (.aload_n 0, 1) := by decide +kernel
theorem dX5_isSlowAsTold_25 : decode cX5_isSlowAsTold 25 = .ok (.getfield 11, 3) := by decide +kernel
theorem dX5_isSlowAsTold_28 : decode cX5_isSlowAsTold 28 = .ok (.iload 6, 2) := by decide +kernel
theorem dX5_isSlowAsTold_30 : decode cX5_isSlowAsTold 30 = .ok (.aaload, 1) := by decide +kernel
theorem dX5_isSlowAsTold_31 : decode cX5_isSlowAsTold 31 = .ok (.getfield 64, 3) := by decide +kernel
theorem dX5_isSlowAsTold_34 : decode cX5_isSlowAsTold 34 = .ok (.invokestatic 104, 3) := by decide +kernel
theorem dX5_isSlowAsTold_37 : decode cX5_isSlowAsTold 37 = .ok (.i2l, 1) := by decide +kernel
theorem dX5_isSlowAsTold_38 : decode cX5_isSlowAsTold 38 = .ok (.aload_n 1, 1) := by decide +kernel
theorem dX5_isSlowAsTold_39 : decode cX5_isSlowAsTold 39 = .ok (.getfield 169, 3) := by decide +kernel
theorem dX5_isSlowAsTold_42 : decode cX5_isSlowAsTold 42 = .ok (.iconst 2, 1) := by decide +kernel
theorem dX5_isSlowAsTold_43 : decode cX5_isSlowAsTold 43 = .ok (.iload 5, 2) := by decide +kernel
theorem dX5_isSlowAsTold_45 : decode cX5_isSlowAsTold 45 = .ok (.imul, 1) := by decide +kernel
theorem dX5_isSlowAsTold_46 : decode cX5_isSlowAsTold 46 = .ok (.iconst 1, 1) := by decide +kernel
theorem dX5_isSlowAsTold_47 : decode cX5_isSlowAsTold 47 = .ok (.iadd, 1) := by decide +kernel
theorem dX5_isSlowAsTold_48 : decode cX5_isSlowAsTold 48 = .ok (.laload, 1) := by decide +kernel
theorem dX5_isSlowAsTold_49 : decode cX5_isSlowAsTold 49 = .ok (.lcmp, 1) := by decide +kernel
theorem dX5_isSlowAsTold_50 : decode cX5_isSlowAsTold 50 = .ok (.ifCond .eq 5, 3) := by decide +kernel
theorem dX5_isSlowAsTold_53 : decode cX5_isSlowAsTold 53 = .ok (.iconst 0, 1) := by decide +kernel
theorem dX5_isSlowAsTold_54 : decode cX5_isSlowAsTold 54 = .ok (.ireturn, 1) := by decide +kernel
theorem dX5_isSlowAsTold_55 : decode cX5_isSlowAsTold 55 = .ok (.iinc 5 1, 3) := by decide +kernel
theorem dX5_isSlowAsTold_58 : decode cX5_isSlowAsTold 58 = .ok (.goto (-55), 3) := by decide +kernel
theorem dX5_isSlowAsTold_61 : decode cX5_isSlowAsTold 61 = .ok (.iconst 1, 1) := by decide +kernel
theorem dX5_isSlowAsTold_62 : decode cX5_isSlowAsTold 62 = .ok (.ireturn, 1) := by decide +kernel
theorem dX5_throwRose_0 : decode cX5_throwRose 0 = .ok (.aload_n 0, 1) := by decide +kernel
theorem dX5_throwRose_1 : decode cX5_throwRose 1 = .ok (.iload_n 1, 1) := by decide +kernel
theorem dX5_throwRose_2 : decode cX5_throwRose 2 = .ok (.iload_n 2, 1) := by decide +kernel
theorem dX5_throwRose_3 : decode cX5_throwRose 3 = .ok (.iload_n 3, 1) := by decide +kernel
theorem dX5_throwRose_4 : decode cX5_throwRose 4 = .ok (.invokevirtual 117, 3) := by decide +kernel
theorem dX5_throwRose_7 : decode cX5_throwRose 7 = .ok (.istore 4, 2) := by decide +kernel
theorem dX5_throwRose_9 : decode cX5_throwRose 9 = .ok (.iload 4, 2) := by decide +kernel
theorem dX5_throwRose_11 : decode cX5_throwRose 11 = .ok (.iconst (-1), 1) := by decide +kernel
theorem dX5_throwRose_12 : decode cX5_throwRose 12 = .ok (.if_icmp .eq 31, 3) := by decide +kernel
theorem dX5_throwRose_15 : decode cX5_throwRose 15 = .ok (.aload_n 0, 1) := by decide +kernel
theorem dX5_throwRose_16 : decode cX5_throwRose 16 = .ok (.getfield 19, 3) := by decide +kernel
theorem dX5_throwRose_19 : decode cX5_throwRose 19 = .ok (.iload 4, 2) := by decide +kernel
theorem dX5_throwRose_21 : decode cX5_throwRose 21 = .ok (.aaload, 1) := by decide +kernel
theorem dX5_throwRose_22 : decode cX5_throwRose 22 = .ok (.iload_n 1, 1) := by decide +kernel
theorem dX5_throwRose_23 : decode cX5_throwRose 23 = .ok (.putfield 94, 3) := by decide +kernel
theorem dX5_throwRose_26 : decode cX5_throwRose 26 = .ok (.aload_n 0, 1) := by decide +kernel
theorem dX5_throwRose_27 : decode cX5_throwRose 27 = .ok (.getfield 19, 3) := by decide +kernel
theorem dX5_throwRose_30 : decode cX5_throwRose 30 = .ok (.iload 4, 2) := by decide +kernel
theorem dX5_throwRose_32 : decode cX5_throwRose 32 = .ok (.aaload, 1) := by decide +kernel
theorem dX5_throwRose_33 : decode cX5_throwRose 33 = .ok (.aload_n 0, 1) := by decide +kernel
theorem dX5_throwRose_34 : decode cX5_throwRose 34 = .ok (.iload 4, 2) := by decide +kernel
theorem dX5_throwRose_36 : decode cX5_throwRose 36 = .ok (.iload_n 1, 1) := by decide +kernel
theorem dX5_throwRose_37 : decode cX5_throwRose 37 = .ok (.invokevirtual 153, 3) := by decide +kernel
theorem dX5_throwRose_40 : decode cX5_throwRose 40 = .ok (.putfield 156, 3) := by decide +kernel
theorem dX5_throwRose_43 : decode cX5_throwRose 43 = .ok (.iload 4, 2) := by decide +kernel
theorem dX5_throwRose_45 : decode cX5_throwRose 45 = .ok (.ireturn, 1) := by decide +kernel
theorem dX5_passDay_0 : decode cX5_passDay 0 = .ok (.aload_n 0, 1) := by decide +kernel
theorem dX5_passDay_1 : decode cX5_passDay 1 = .ok (.aload_n 0, 1) := by decide +kernel
theorem dX5_passDay_2 : decode cX5_passDay 2 = .ok (.getfield 44, 3) := by decide +kernel
theorem dX5_passDay_5 : decode cX5_passDay 5 = .ok (.iconst 1, 1) := by decide +kernel
theorem dX5_passDay_6 : decode cX5_passDay 6 = .ok (.iadd, 1) := by decide +kernel
theorem dX5_passDay_7 : decode cX5_passDay 7 = .ok (.sipush 999, 3) := by decide +kernel
theorem dX5_passDay_10 : decode cX5_passDay 10 = .ok (.invokestatic 189, 3) := by decide +kernel
theorem dX5_passDay_13 : decode cX5_passDay 13 = .ok (.putfield 44, 3) := by decide +kernel
theorem dX5_passDay_16 : decode cX5_passDay 16 = .ok (.iconst 0, 1) := by decide +kernel
theorem dX5_passDay_17 : decode cX5_passDay 17 = .ok (.istore_n 1, 1) := by decide +kernel
theorem dX5_passDay_18 : decode cX5_passDay 18 = .ok (.iload_n 1, 1) := by decide +kernel
theorem dX5_passDay_19 : decode cX5_passDay 19 = .ok (.aload_n 0, 1) := by decide +kernel
theorem dX5_passDay_20 : decode cX5_passDay 20 = .ok (.getfield 41, 3) := by decide +kernel
theorem dX5_passDay_23 : decode cX5_passDay 23 = .ok (.if_icmp .ge 57, 3) := by decide +kernel
theorem dX5_passDay_26 : decode cX5_passDay 26 = .ok (.aload_n 0, 1) := by decide +kernel
theorem dX5_passDay_27 : decode cX5_passDay 27 = .ok (.getfield 19, 3) := by decide +kernel
theorem dX5_passDay_30 : decode cX5_passDay 30 = .ok (.iload_n 1, 1) := by decide +kernel
theorem dX5_passDay_31 : decode cX5_passDay 31 = .ok (.aaload, 1) := by decide +kernel
theorem dX5_passDay_32 : decode cX5_passDay 32 = .ok (.getfield 156, 3) := by decide +kernel
theorem dX5_passDay_35 : decode cX5_passDay 35 = .ok (.iconst (-1), 1) := by decide +kernel
theorem dX5_passDay_36 : decode cX5_passDay 36 = .ok (.if_icmp .eq 38, 3) := by decide +kernel
theorem dX5_passDay_39 : decode cX5_passDay 39 = .ok (.aload_n 0, 1) := by decide +kernel
theorem dX5_passDay_40 : decode cX5_passDay 40 = .ok (.getfield 19, 3) := by decide +kernel
theorem dX5_passDay_43 : decode cX5_passDay 43 = .ok (.iload_n 1, 1) := by decide +kernel
theorem dX5_passDay_44 : decode cX5_passDay 44 = .ok (.aaload, 1) := by decide +kernel
theorem dX5_passDay_45 : decode cX5_passDay 45 = .ok (.getfield 156, 3) := by decide +kernel
theorem dX5_passDay_48 : decode cX5_passDay 48 = .ok (.aload_n 0, 1) := by decide +kernel
theorem dX5_passDay_49 : decode cX5_passDay 49 = .ok (.getfield 44, 3) := by decide +kernel
theorem dX5_passDay_52 : decode cX5_passDay 52 = .ok (.if_icmp .gt 22, 3) := by decide +kernel
theorem dX5_passDay_55 : decode cX5_passDay 55 = .ok (.aload_n 0, 1) := by decide +kernel
theorem dX5_passDay_56 : decode cX5_passDay 56 = .ok (.getfield 19, 3) := by decide +kernel
theorem dX5_passDay_59 : decode cX5_passDay 59 = .ok (.iload_n 1, 1) := by decide +kernel
theorem dX5_passDay_60 : decode cX5_passDay 60 = .ok (.aaload, 1) := by decide +kernel
theorem dX5_passDay_61 : decode cX5_passDay 61 = .ok (.invokevirtual 79, 3) := by decide +kernel
theorem dX5_passDay_64 : decode cX5_passDay 64 = .ok (.aload_n 0, 1) := by decide +kernel
theorem dX5_passDay_65 : decode cX5_passDay 65 = .ok (.dup, 1) := by decide +kernel
theorem dX5_passDay_66 : decode cX5_passDay 66 = .ok (.getfield 47, 3) := by decide +kernel
theorem dX5_passDay_69 : decode cX5_passDay 69 = .ok (.iconst 1, 1) := by decide +kernel
theorem dX5_passDay_70 : decode cX5_passDay 70 = .ok (.iadd, 1) := by decide +kernel
theorem dX5_passDay_71 : decode cX5_passDay 71 = .ok (.putfield 47, 3) := by decide +kernel
theorem dX5_passDay_74 : decode cX5_passDay 74 = .ok (.iinc 1 1, 3) := by decide +kernel
theorem dX5_passDay_77 : decode cX5_passDay 77 = .ok (.goto (-59), 3) := by decide +kernel
theorem dX5_passDay_80 : decode cX5_passDay 80 = .ok (.return_, 1) := by decide +kernel
theorem dX5_carnival_0 : decode cX5_carnival 0 = .ok (.aload_n 0, 1) := by decide +kernel
theorem dX5_carnival_1 : decode cX5_carnival 1 = .ok (.aload_n 0, 1) := by decide +kernel
theorem dX5_carnival_2 : decode cX5_carnival 2 = .ok (.bipush 11, 2) := by decide +kernel
theorem dX5_carnival_4 : decode cX5_carnival 4 = .ok (.invokevirtual 192, 3) := by decide +kernel
theorem dX5_carnival_7 : decode cX5_carnival 7 = .ok (.putfield 27, 3) := by decide +kernel
theorem dX5_carnival_10 : decode cX5_carnival 10 = .ok (.aload_n 0, 1) := by decide +kernel
theorem dX5_carnival_11 : decode cX5_carnival 11 = .ok (.aload_n 0, 1) := by decide +kernel
theorem dX5_carnival_12 : decode cX5_carnival 12 = .ok (.getfield 38, 3) := by decide +kernel
theorem dX5_carnival_15 : decode cX5_carnival 15 = .ok (.invokevirtual 192, 3) := by decide +kernel
theorem dX5_carnival_18 : decode cX5_carnival 18 = .ok (.istore_n 1, 1) := by decide +kernel
theorem dX5_carnival_19 : decode cX5_carnival 19 = .ok (.aload_n 0, 1) := by decide +kernel
theorem dX5_carnival_20 : decode cX5_carnival 20 = .ok (.bipush 10, 2) := by decide +kernel
theorem dX5_carnival_22 : decode cX5_carnival 22 = .ok (.invokevirtual 192, 3) := by decide +kernel
theorem dX5_carnival_25 : decode cX5_carnival 25 = .ok (.istore_n 2, 1) := by decide +kernel
theorem dX5_carnival_26 : decode cX5_carnival 26 = .ok (.aload_n 0, 1) := by decide +kernel
theorem dX5_carnival_27 : decode cX5_carnival 27 = .ok (.iconst 3, 1) := by decide +kernel
theorem dX5_carnival_28 : decode cX5_carnival 28 = .ok (.invokevirtual 192, 3) := by decide +kernel
theorem dX5_carnival_31 : decode cX5_carnival 31 = .ok (.istore_n 3, 1) := by decide +kernel
theorem dX5_carnival_32 : decode cX5_carnival 32 = .ok (.aload_n 0, 1) := by decide +kernel
theorem dX5_carnival_33 : decode cX5_carnival 33 = .ok (.iload_n 1, 1) := by decide +kernel
theorem dX5_carnival_34 : decode cX5_carnival 34 = .ok (.iload_n 2, 1) := by decide +kernel
theorem dX5_carnival_35 : decode cX5_carnival 35 = .ok (.iload_n 3, 1) := by decide +kernel
theorem dX5_carnival_36 : decode cX5_carnival 36 = .ok (.invokevirtual 195, 3) := by decide +kernel
theorem dX5_carnival_39 : decode cX5_carnival 39 = .ok (.istore 4, 2) := by decide +kernel
theorem dX5_carnival_41 : decode cX5_carnival 41 = .ok (.aload_n 0, 1) := by decide +kernel
theorem dX5_carnival_42 : decode cX5_carnival 42 = .ok (.invokevirtual 198, 3) := by decide +kernel
theorem dX5_carnival_45 : decode cX5_carnival 45 = .ok (.iload 4, 2) := by decide +kernel
theorem dX5_carnival_47 : decode cX5_carnival 47 = .ok (.ireturn, 1) := by decide +kernel
theorem dX5_draw_0 : decode cX5_draw 0 = .ok (.aload_n 0, 1) := by decide +kernel
theorem dX5_draw_1 : decode cX5_draw 1 = .ok (.aload_n 0, 1) := by decide +kernel
theorem dX5_draw_2 : decode cX5_draw 2 = .ok (.getfield 33, 3) := by decide +kernel
theorem dX5_draw_5 : decode cX5_draw 5 = .ok (.ldc 201, 2) := by decide +kernel
theorem dX5_draw_7 : decode cX5_draw 7 = .ok (.imul, 1) := by decide +kernel
theorem dX5_draw_8 : decode cX5_draw 8 = .ok (.sipush 12345, 3) := by decide +kernel
theorem dX5_draw_11 : decode cX5_draw 11 = .ok (.iadd, 1) := by decide +kernel
theorem dX5_draw_12 : decode cX5_draw 12 = .ok (.putfield 33, 3) := by decide +kernel
theorem dX5_draw_15 : decode cX5_draw 15 = .ok (.iload_n 1, 1) := by decide +kernel
theorem dX5_draw_16 : decode cX5_draw 16 = .ok (.ifCond .le 15, 3) := by decide +kernel
theorem dX5_draw_19 : decode cX5_draw 19 = .ok (.aload_n 0, 1) := by decide +kernel
theorem dX5_draw_20 : decode cX5_draw 20 = .ok (.getfield 33, 3) := by decide +kernel
theorem dX5_draw_23 : decode cX5_draw 23 = .ok (.bipush 16, 2) := by decide +kernel
theorem dX5_draw_25 : decode cX5_draw 25 = .ok (.iushr, 1) := by decide +kernel
theorem dX5_draw_26 : decode cX5_draw 26 = .ok (.iload_n 1, 1) := by decide +kernel
theorem dX5_draw_27 : decode cX5_draw 27 = .ok (.irem, 1) := by decide +kernel
theorem dX5_draw_28 : decode cX5_draw 28 = .ok (.goto 4, 3) := by decide +kernel
theorem dX5_draw_31 : decode cX5_draw 31 = .ok (.iconst 0, 1) := by decide +kernel
theorem dX5_draw_32 : decode cX5_draw 32 = .ok (.ireturn, 1) := by decide +kernel
theorem dX6_init_0 : decode cX6_init 0 = .ok (.aload_n 0, 1) := by decide +kernel
theorem dX6_init_1 : decode cX6_init 1 = .ok (.invokespecial 3, 3) := by decide +kernel
theorem dX6_init_4 : decode cX6_init 4 = .ok (.aload_n 0, 1) := by decide +kernel
theorem dX6_init_5 : decode cX6_init 5 = .ok (.sipush 250, 3) := by decide +kernel
theorem dX6_init_8 : decode cX6_init 8 = .ok (.newarray .int, 2) := by decide +kernel
theorem dX6_init_10 : decode cX6_init 10 = .ok (.putfield 9, 3) := by decide +kernel
theorem dX6_init_13 : decode cX6_init 13 = .ok (.aload_n 0, 1) := by decide +kernel
theorem dX6_init_14 : decode cX6_init 14 = .ok (.new 15, 3) := by decide +kernel
theorem dX6_init_17 : decode cX6_init 17 = .ok (.dup, 1) := by decide +kernel
theorem dX6_init_18 : decode cX6_init 18 = .ok (.invokespecial 17, 3) := by decide +kernel
theorem dX6_init_21 : decode cX6_init 21 = .ok (.putfield 18, 3) := by decide +kernel
theorem dX6_init_24 : decode cX6_init 24 = .ok (.aload_n 0, 1) := by decide +kernel
theorem dX6_init_25 : decode cX6_init 25 = .ok (.iconst 3, 1) := by decide +kernel
theorem dX6_init_26 : decode cX6_init 26 = .ok (.newarray .int, 2) := by decide +kernel
theorem dX6_init_28 : decode cX6_init 28 = .ok (.putfield 22, 3) := by decide +kernel
theorem dX6_init_31 : decode cX6_init 31 = .ok (.return_, 1) := by decide +kernel
theorem dX6_read_0 : decode cX6_read 0 = .ok (.iconst 0, 1) := by decide +kernel
theorem dX6_read_1 : decode cX6_read 1 = .ok (.istore_n 1, 1) := by decide +kernel
theorem dX6_read_2 : decode cX6_read 2 = .ok (.aload_n 0, 1) := by decide +kernel
theorem dX6_read_3 : decode cX6_read 3 = .ok (.iconst 0, 1) := by decide +kernel
theorem dX6_read_4 : decode cX6_read 4 = .ok (.putfield 25, 3) := by decide +kernel
theorem dX6_read_7 : decode cX6_read 7 = .ok (.aload_n 0, 1) := by decide +kernel
theorem dX6_read_8 : decode cX6_read 8 = .ok (.invokevirtual 29, 3) := by decide +kernel
theorem dX6_read_11 : decode cX6_read 11 = .ok (.ifCond .ne 5, 3) := by decide +kernel
theorem dX6_read_14 : decode cX6_read 14 = .ok (.iconst (-1), 1) := by decide +kernel
theorem dX6_read_15 : decode cX6_read 15 = .ok (.ireturn, 1) := by decide +kernel
theorem dX6_read_16 : decode cX6_read 16 = .ok (.iinc 1 1, 3) := by decide +kernel
theorem dX6_read_19 : decode cX6_read 19 = .ok (.aload_n 0, 1) := by decide +kernel
theorem dX6_read_20 : decode cX6_read 20 = .ok (.invokevirtual 33, 3) := by decide +kernel
theorem dX6_read_23 : decode cX6_read 23 = .ok (.aload_n 0, 1) := by decide +kernel
theorem dX6_read_24 : decode cX6_read 24 = .ok (.getfield 36, 3) := by decide +kernel
theorem dX6_read_27 : decode cX6_read 27 = .ok (.iconst 3, 1) := by decide +kernel
theorem dX6_read_28 : decode cX6_read 28 = .ok (.if_icmp .ne 10, 3) := by decide +kernel
theorem dX6_read_31 : decode cX6_read 31 = .ok (.iload_n 1, 1) := by decide +kernel
theorem dX6_read_32 : decode cX6_read 32 = .ok (.sipush 250, 3) := by decide +kernel
theorem dX6_read_35 : decode cX6_read 35 = .ok (.if_icmp .lt (-28), 3) := by decide +kernel
theorem dX6_read_38 : decode cX6_read 38 = .ok (.aload_n 0, 1) := by decide +kernel
theorem dX6_read_39 : decode cX6_read 39 = .ok (.getfield 36, 3) := by decide +kernel
theorem dX6_read_42 : decode cX6_read 42 = .ok (.ifCond .ne 7, 3) := by decide +kernel
theorem dX6_read_45 : decode cX6_read 45 = .ok (.iload_n 1, 1) := by decide +kernel
theorem dX6_read_46 : decode cX6_read 46 = .ok (.goto 4, 3) := by decide +kernel
theorem dX6_read_49 : decode cX6_read 49 = .ok (.iconst (-1), 1) := by decide +kernel
theorem dX6_read_50 : decode cX6_read 50 = .ok (.ireturn, 1) := by decide +kernel
theorem dX6_fault_0 : decode cX6_fault 0 = .ok (.aload_n 0, 1) := by decide +kernel
theorem dX6_fault_1 : decode cX6_fault 1 = .ok (.getfield 39, 3) := by decide +kernel
theorem dX6_fault_4 : decode cX6_fault 4 = .ok (.ireturn, 1) := by decide +kernel
theorem dX6_readStatement_0 : decode cX6_readStatement 0 = .ok (.aload_n 0, 1) := by decide +kernel
theorem dX6_readStatement_1 : decode cX6_readStatement 1 = .ok (.invokevirtual 33, 3) := by decide +kernel
theorem dX6_readStatement_4 : decode cX6_readStatement 4 = .ok (.aload_n 0, 1) := by decide +kernel
theorem dX6_readStatement_5 : decode cX6_readStatement 5 = .ok (.getfield 36, 3) := by decide +kernel
theorem dX6_readStatement_8 : decode cX6_readStatement 8 = .ok (.iconst 1, 1) := by decide +kernel
theorem dX6_readStatement_9 : decode cX6_readStatement 9 = .ok (.if_icmp .ne 10, 3) := by decide +kernel
theorem dX6_readStatement_12 : decode cX6_readStatement 12 = .ok (.aload_n 0, 1) := by decide +kernel
theorem dX6_readStatement_13 : decode cX6_readStatement 13 = .ok (.invokevirtual 42, 3) := by decide +kernel
theorem dX6_readStatement_16 : decode cX6_readStatement 16 = .ok (.goto 4, 3) := by decide +kernel
theorem dX6_readStatement_19 : decode cX6_readStatement 19 = .ok (.iconst (-1), 1) := by decide +kernel
theorem dX6_readStatement_20 : decode cX6_readStatement 20 = .ok (.istore_n 1, 1) := by decide +kernel
theorem dX6_readStatement_21 : decode cX6_readStatement 21 = .ok (.iload_n 1, 1) := by decide +kernel
theorem dX6_readStatement_22 : decode cX6_readStatement 22 = .ok (.iconst (-1), 1) := by decide +kernel
theorem dX6_readStatement_23 : decode cX6_readStatement 23 = .ok (.if_icmp .eq 11, 3) := by decide +kernel
theorem dX6_readStatement_26 : decode cX6_readStatement 26 = .ok (.aload_n 0, 1) := by decide +kernel
theorem dX6_readStatement_27 : decode cX6_readStatement 27 = .ok (.iload_n 1, 1) := by decide +kernel
theorem dX6_readStatement_28 : decode cX6_readStatement 28 = .ok (.invokevirtual 46, 3) := by decide +kernel
theorem dX6_readStatement_31 : decode cX6_readStatement 31 = .ok (.ifCond .ne 5, 3) := by decide +kernel
theorem dX6_readStatement_34 : decode cX6_readStatement 34 = .ok (.iconst 0, 1) := by decide +kernel
theorem dX6_readStatement_35 : decode cX6_readStatement 35 = .ok (.ireturn, 1) := by decide +kernel
theorem dX6_readStatement_36 : decode cX6_readStatement 36 = .ok (.iconst 0, 1) := by decide +kernel
theorem dX6_readStatement_37 : decode cX6_readStatement 37 = .ok (.istore_n 2, 1) := by decide +kernel
theorem dX6_readStatement_38 : decode cX6_readStatement 38 = .ok (.iload_n 2, 1) := by decide +kernel
theorem dX6_readStatement_39 : decode cX6_readStatement 39 = .ok (.getstatic 50, 3) := by decide +kernel
theorem dX6_readStatement_42 : decode cX6_readStatement 42 = .ok (.iload_n 1, 1) := by decide +kernel
theorem dX6_readStatement_43 : decode cX6_readStatement 43 = .ok (.iaload, 1) := by decide +kernel
theorem dX6_readStatement_44 : decode cX6_readStatement 44 = .ok (.if_icmp .ge 72, 3) := by decide +kernel
theorem dX6_readStatement_47 : decode cX6_readStatement 47 = .ok (.aload_n 0, 1) := by decide +kernel
theorem dX6_readStatement_48 : decode cX6_readStatement 48 = .ok (.invokevirtual 33, 3) := by decide +kernel
theorem dX6_readStatement_51 : decode cX6_readStatement 51 = .ok (.aload_n 0, 1) := by decide +kernel
theorem dX6_readStatement_52 : decode cX6_readStatement 52 = .ok (.getfield 36, 3) := by decide +kernel
theorem dX6_readStatement_55 : decode cX6_readStatement 55 = .ok (.iconst 2, 1) := by decide +kernel
theorem dX6_readStatement_56 : decode cX6_readStatement 56 = .ok (.if_icmp .ne 16, 3) := by decide +kernel
theorem dX6_readStatement_59 : decode cX6_readStatement 59 = .ok (.aload_n 0, 1) := by decide +kernel
theorem dX6_readStatement_60 : decode cX6_readStatement 60 = .ok (.getfield 25, 3) := by decide +kernel
theorem dX6_readStatement_63 : decode cX6_readStatement 63 = .ok (.aload_n 0, 1) := by decide +kernel
theorem dX6_readStatement_64 : decode cX6_readStatement 64 = .ok (.getfield 39, 3) := by decide +kernel
theorem dX6_readStatement_67 : decode cX6_readStatement 67 = .ok (.isub, 1) := by decide +kernel
theorem dX6_readStatement_68 : decode cX6_readStatement 68 = .ok (.iconst 3, 1) := by decide +kernel
theorem dX6_readStatement_69 : decode cX6_readStatement 69 = .ok (.if_icmp .le 5, 3) := by decide +kernel
theorem dX6_readStatement_72 : decode cX6_readStatement 72 = .ok (.iconst 0, 1) := by decide +kernel
theorem dX6_readStatement_73 : decode cX6_readStatement 73 = .ok (.ireturn, 1) := by decide +kernel
theorem dX6_readStatement_74 : decode cX6_readStatement 74 = .ok (.aload_n 0, 1) := by decide +kernel
theorem dX6_readStatement_75 : decode cX6_readStatement 75 = .ok (.getfield 22, 3) := by decide +kernel
theorem dX6_readStatement_78 : decode cX6_readStatement 78 = .ok (.iload_n 2, 1) := by decide +kernel
theorem dX6_readStatement_79 : decode cX6_readStatement 79 = .ok (.aload_n 0, 1) := by decide +kernel
theorem dX6_readStatement_80 : decode cX6_readStatement 80 = .ok (.invokevirtual 53, 3) := by decide +kernel
theorem dX6_readStatement_83 : decode cX6_readStatement 83 = .ok (.iastore, 1) := by decide +kernel
theorem dX6_readStatement_84 : decode cX6_readStatement 84 = .ok (.aload_n 0, 1) := by decide +kernel
theorem dX6_readStatement_85 : decode cX6_readStatement 85 = .ok (.getfield 22, 3) := by decide +kernel
theorem dX6_readStatement_88 : decode cX6_readStatement 88 = .ok (.iload_n 2, 1) := by decide +kernel
theorem dX6_readStatement_89 : decode cX6_readStatement 89 = .ok (.iaload, 1) := by decide +kernel
theorem dX6_readStatement_90 : decode cX6_readStatement 90 = .ok (.aload_n 0, 1) := by decide +kernel
theorem dX6_readStatement_91 : decode cX6_readStatement 91 = .ok (.iload_n 1, 1) := by decide +kernel
theorem dX6_readStatement_92 : decode cX6_readStatement 92 = .ok (.iload_n 2, 1) := by decide +kernel
theorem dX6_readStatement_93 : decode cX6_readStatement 93 = .ok (.invokevirtual 56, 3) := by decide +kernel
theorem dX6_readStatement_96 : decode cX6_readStatement 96 = .ok (.aload_n 0, 1) := by decide +kernel
theorem dX6_readStatement_97 : decode cX6_readStatement 97 = .ok (.iload_n 1, 1) := by decide +kernel
theorem dX6_readStatement_98 : decode cX6_readStatement 98 = .ok (.iload_n 2, 1) := by decide +kernel
theorem dX6_readStatement_99 : decode cX6_readStatement 99 = .ok (.invokevirtual 60, 3) := by decide +kernel
theorem dX6_readStatement_102 : decode cX6_readStatement 102 = .ok (.invokestatic 63, 3) := by decide +kernel
theorem dX6_readStatement_105 : decode cX6_readStatement 105 = .ok (.ifCond .ne 5, 3) := by decide +kernel
theorem dX6_readStatement_108 : decode cX6_readStatement 108 = .ok (.iconst 0, 1) := by decide +kernel
theorem dX6_readStatement_109 : decode cX6_readStatement 109 = .ok (.ireturn, 1) := by decide +kernel
theorem dX6_readStatement_110 : decode cX6_readStatement 110 = .ok (.iinc 2 1, 3) := by decide +kernel
theorem dX6_readStatement_113 : decode cX6_readStatement 113 = .ok (.goto (-75), 3) := by decide +kernel
theorem dX6_readStatement_116 : decode cX6_readStatement 116 = .ok (.aload_n 0, 1) := by decide +kernel
theorem dX6_readStatement_117 : decode cX6_readStatement 117 = .ok (.iload_n 1, 1) := by decide +kernel
theorem dX6_readStatement_118 : decode cX6_readStatement 118 = .ok (.invokevirtual 67, 3) := by decide +kernel
theorem dX6_readStatement_121 : decode cX6_readStatement 121 = .ok (.iconst 1, 1) := by decide +kernel
theorem dX6_readStatement_122 : decode cX6_readStatement 122 = .ok (.ireturn, 1) := by decide +kernel
theorem dX6_advance_0 : decode cX6_advance 0 = .ok (.aload_n 0, 1) := by decide +kernel
theorem dX6_advance_1 : decode cX6_advance 1 = .ok (.getfield 25, 3) := by decide +kernel
theorem dX6_advance_4 : decode cX6_advance 4 = .ok (.aload_n 0, 1) := by decide +kernel
theorem dX6_advance_5 : decode cX6_advance 5 = .ok (.getfield 71, 3) := by decide +kernel
theorem dX6_advance_8 : decode cX6_advance 8 = .ok (.if_icmp .ge 30, 3) := by decide +kernel
theorem dX6_advance_11 : decode cX6_advance 11 = .ok (.aload_n 0, 1) := by decide +kernel
theorem dX6_advance_12 : decode cX6_advance 12 = .ok (.getfield 9, 3) := by decide +kernel
theorem dX6_advance_15 : decode cX6_advance 15 = .ok (.aload_n 0, 1) := by decide +kernel
theorem dX6_advance_16 : decode cX6_advance 16 = .ok (.getfield 25, 3) := by decide +kernel
theorem dX6_advance_19 : decode cX6_advance 19 = .ok (.iaload, 1) := by decide +kernel
theorem dX6_advance_20 : decode cX6_advance 20 = .ok (.bipush 32, 2) := by decide +kernel
theorem dX6_advance_22 : decode cX6_advance 22 = .ok (.if_icmp .ne 16, 3) := by decide +kernel
theorem dX6_advance_25 : decode cX6_advance 25 = .ok (.aload_n 0, 1) := by decide +kernel
theorem dX6_advance_26 : decode cX6_advance 26 = .ok (.dup, 1) := by decide +kernel
theorem dX6_advance_27 : decode cX6_advance 27 = .ok (.getfield 25, 3) := by decide +kernel
theorem dX6_advance_30 : decode cX6_advance 30 = .ok (.iconst 1, 1) := by decide +kernel
theorem dX6_advance_31 : decode cX6_advance 31 = .ok (.iadd, 1) := by decide +kernel
theorem dX6_advance_32 : decode cX6_advance 32 = .ok (.putfield 25, 3) := by decide +kernel
theorem dX6_advance_35 : decode cX6_advance 35 = .ok (.goto (-35), 3) := by decide +kernel
theorem dX6_advance_38 : decode cX6_advance 38 = .ok (.aload_n 0, 1) := by decide +kernel
theorem dX6_advance_39 : decode cX6_advance 39 = .ok (.aload_n 0, 1) := by decide +kernel
theorem dX6_advance_40 : decode cX6_advance 40 = .ok (.getfield 25, 3) := by decide +kernel
theorem dX6_advance_43 : decode cX6_advance 43 = .ok (.putfield 39, 3) := by decide +kernel
theorem dX6_advance_46 : decode cX6_advance 46 = .ok (.aload_n 0, 1) := by decide +kernel
theorem dX6_advance_47 : decode cX6_advance 47 = .ok (.aload_n 0, 1) := by decide +kernel
theorem dX6_advance_48 : decode cX6_advance 48 = .ok (.aload_n 0, 1) := by decide +kernel
theorem dX6_advance_49 : decode cX6_advance 49 = .ok (.getfield 39, 3) := by decide +kernel
theorem dX6_advance_52 : decode cX6_advance 52 = .ok (.invokevirtual 74, 3) := by decide +kernel
theorem dX6_advance_55 : decode cX6_advance 55 = .ok (.putfield 36, 3) := by decide +kernel
theorem dX6_advance_58 : decode cX6_advance 58 = .ok (.aload_n 0, 1) := by decide +kernel
theorem dX6_advance_59 : decode cX6_advance 59 = .ok (.getfield 39, 3) := by decide +kernel
theorem dX6_advance_62 : decode cX6_advance 62 = .ok (.aload_n 0, 1) := by decide +kernel
theorem dX6_advance_63 : decode cX6_advance 63 = .ok (.getfield 71, 3) := by decide +kernel
theorem dX6_advance_66 : decode cX6_advance 66 = .ok (.if_icmp .ge 13, 3) := by decide +kernel
theorem dX6_advance_69 : decode cX6_advance 69 = .ok (.aload_n 0, 1) := by decide +kernel
theorem dX6_advance_70 : decode cX6_advance 70 = .ok (.dup, 1) := by decide +kernel
theorem dX6_advance_71 : decode cX6_advance 71 = .ok (.getfield 25, 3) := by decide +kernel
theorem dX6_advance_74 : decode cX6_advance 74 = .ok (.iconst 1, 1) := by decide +kernel
theorem dX6_advance_75 : decode cX6_advance 75 = .ok (.iadd, 1) := by decide +kernel
theorem dX6_advance_76 : decode cX6_advance 76 = .ok (.putfield 25, 3) := by decide +kernel
theorem dX6_advance_79 : decode cX6_advance 79 = .ok (.aload_n 0, 1) := by decide +kernel
theorem dX6_advance_80 : decode cX6_advance 80 = .ok (.getfield 25, 3) := by decide +kernel
theorem dX6_advance_83 : decode cX6_advance 83 = .ok (.aload_n 0, 1) := by decide +kernel
theorem dX6_advance_84 : decode cX6_advance 84 = .ok (.getfield 71, 3) := by decide +kernel
theorem dX6_advance_87 : decode cX6_advance 87 = .ok (.if_icmp .ge 47, 3) := by decide +kernel
theorem dX6_advance_90 : decode cX6_advance 90 = .ok (.aload_n 0, 1) := by decide +kernel
theorem dX6_advance_91 : decode cX6_advance 91 = .ok (.getfield 36, 3) := by decide +kernel
theorem dX6_advance_94 : decode cX6_advance 94 = .ok (.iconst 1, 1) := by decide +kernel
theorem dX6_advance_95 : decode cX6_advance 95 = .ok (.if_icmp .eq 11, 3) := by decide +kernel
theorem dX6_advance_98 : decode cX6_advance 98 = .ok (.aload_n 0, 1) := by decide +kernel
theorem dX6_advance_99 : decode cX6_advance 99 = .ok (.getfield 36, 3) := by decide +kernel
theorem dX6_advance_102 : decode cX6_advance 102 = .ok (.iconst 2, 1) := by decide +kernel
theorem dX6_advance_103 : decode cX6_advance 103 = .ok (.if_icmp .ne 31, 3) := by decide +kernel
theorem dX6_advance_106 : decode cX6_advance 106 = .ok (.aload_n 0, 1) := by decide +kernel
theorem dX6_advance_107 : decode cX6_advance 107 = .ok (.aload_n 0, 1) := by decide +kernel
theorem dX6_advance_108 : decode cX6_advance 108 = .ok (.getfield 25, 3) := by decide +kernel
theorem dX6_advance_111 : decode cX6_advance 111 = .ok (.invokevirtual 74, 3) := by decide +kernel
theorem dX6_advance_114 : decode cX6_advance 114 = .ok (.aload_n 0, 1) := by decide +kernel
theorem dX6_advance_115 : decode cX6_advance 115 = .ok (.getfield 36, 3) := by decide +kernel
theorem dX6_advance_118 : decode cX6_advance 118 = .ok (.if_icmp .ne 16, 3) := by decide +kernel
theorem dX6_advance_121 : decode cX6_advance 121 = .ok (.aload_n 0, 1) := by decide +kernel
theorem dX6_advance_122 : decode cX6_advance 122 = .ok (.dup, 1) := by decide +kernel
theorem dX6_advance_123 : decode cX6_advance 123 = .ok (.getfield 25, 3) := by decide +kernel
theorem dX6_advance_126 : decode cX6_advance 126 = .ok (.iconst 1, 1) := by decide +kernel
theorem dX6_advance_127 : decode cX6_advance 127 = .ok (.iadd, 1) := by decide +kernel
theorem dX6_advance_128 : decode cX6_advance 128 = .ok (.putfield 25, 3) := by decide +kernel
theorem dX6_advance_131 : decode cX6_advance 131 = .ok (.goto (-52), 3) := by decide +kernel
theorem dX6_advance_134 : decode cX6_advance 134 = .ok (.return_, 1) := by decide +kernel
theorem dX6_typeAt_0 : decode cX6_typeAt 0 = .ok (.iload_n 1, 1) := by decide +kernel
theorem dX6_typeAt_1 : decode cX6_typeAt 1 = .ok (.aload_n 0, 1) := by decide +kernel
theorem dX6_typeAt_2 : decode cX6_typeAt 2 = .ok (.getfield 71, 3) := by decide +kernel
theorem dX6_typeAt_5 : decode cX6_typeAt 5 = .ok (.if_icmp .lt 5, 3) := by decide +kernel
theorem dX6_typeAt_8 : decode cX6_typeAt 8 = .ok (.iconst 0, 1) := by decide +kernel
theorem dX6_typeAt_9 : decode cX6_typeAt 9 = .ok (.ireturn, 1) := by decide +kernel
theorem dX6_typeAt_10 : decode cX6_typeAt 10 = .ok (.aload_n 0, 1) := by decide +kernel
theorem dX6_typeAt_11 : decode cX6_typeAt 11 = .ok (.getfield 9, 3) := by decide +kernel
theorem dX6_typeAt_14 : decode cX6_typeAt 14 = .ok (.iload_n 1, 1) := by decide +kernel
theorem dX6_typeAt_15 : decode cX6_typeAt 15 = .ok (.iaload, 1) := by decide +kernel
theorem dX6_typeAt_16 : decode cX6_typeAt 16 = .ok (.istore_n 2, 1) := by decide +kernel
theorem dX6_typeAt_17 : decode cX6_typeAt 17 = .ok (.iload_n 2, 1) := by decide +kernel
theorem dX6_typeAt_18 : decode cX6_typeAt 18 = .ok (.bipush 97, 2) := by decide +kernel
theorem dX6_typeAt_20 : decode cX6_typeAt 20 = .ok (.bipush 122, 2) := by decide +kernel
theorem dX6_typeAt_22 : decode cX6_typeAt 22 = .ok (.invokestatic 63, 3) := by decide +kernel
theorem dX6_typeAt_25 : decode cX6_typeAt 25 = .ok (.ifCond .eq 5, 3) := by decide +kernel
theorem dX6_typeAt_28 : decode cX6_typeAt 28 = .ok (.iconst 1, 1) := by decide +kernel
theorem dX6_typeAt_29 : decode cX6_typeAt 29 = .ok (.ireturn, 1) := by decide +kernel
theorem dX6_typeAt_30 : decode cX6_typeAt 30 = .ok (.iload_n 2, 1) := by decide +kernel
theorem dX6_typeAt_31 : decode cX6_typeAt 31 = .ok (.bipush 48, 2) := by decide +kernel
theorem dX6_typeAt_33 : decode cX6_typeAt 33 = .ok (.bipush 57, 2) := by decide +kernel
theorem dX6_typeAt_35 : decode cX6_typeAt 35 = .ok (.invokestatic 63, 3) := by decide +kernel
theorem dX6_typeAt_38 : decode cX6_typeAt 38 = .ok (.ifCond .eq 5, 3) := by decide +kernel
theorem dX6_typeAt_41 : decode cX6_typeAt 41 = .ok (.iconst 2, 1) := by decide +kernel
theorem dX6_typeAt_42 : decode cX6_typeAt 42 = .ok (.ireturn, 1) := by decide +kernel
theorem dX6_typeAt_43 : decode cX6_typeAt 43 = .ok (.iload_n 2, 1) := by decide +kernel
theorem dX6_typeAt_44 : decode cX6_typeAt 44 = .ok (.bipush 59, 2) := by decide +kernel
theorem dX6_typeAt_46 : decode cX6_typeAt 46 = .ok (.if_icmp .ne 7, 3) := by decide +kernel
theorem dX6_typeAt_49 : decode cX6_typeAt 49 = .ok (.iconst 3, 1) := by decide +kernel
theorem dX6_typeAt_50 : decode cX6_typeAt 50 = .ok (.goto 4, 3) := by decide +kernel
theorem dX6_typeAt_53 : decode cX6_typeAt 53 = .ok (.iconst 4, 1) := by decide +kernel
theorem dX6_typeAt_54 : decode cX6_typeAt 54 = .ok (.ireturn, 1) := by decide +kernel
theorem dX6_number_0 : decode cX6_number 0 = .ok (.iconst 0, 1) := by decide +kernel
theorem dX6_number_1 : decode cX6_number 1 = .ok (.istore_n 1, 1) := by decide +kernel
theorem dX6_number_2 : decode cX6_number 2 = .ok (.aload_n 0, 1) := by decide +kernel
theorem dX6_number_3 : decode cX6_number 3 = .ok (.getfield 39, 3) := by decide +kernel
theorem dX6_number_6 : decode cX6_number 6 = .ok (.istore_n 2, 1) := by decide +kernel
theorem dX6_number_7 : decode cX6_number 7 = .ok (.iload_n 2, 1) := by decide +kernel
theorem dX6_number_8 : decode cX6_number 8 = .ok (.aload_n 0, 1) := by decide +kernel
theorem dX6_number_9 : decode cX6_number 9 = .ok (.getfield 25, 3) := by decide +kernel
theorem dX6_number_12 : decode cX6_number 12 = .ok (.if_icmp .ge 24, 3) := by decide +kernel
theorem dX6_number_15 : decode cX6_number 15 = .ok (.bipush 10, 2) := by decide +kernel
theorem dX6_number_17 : decode cX6_number 17 = .ok (.iload_n 1, 1) := by decide +kernel
theorem dX6_number_18 : decode cX6_number 18 = .ok (.imul, 1) := by decide +kernel
theorem dX6_number_19 : decode cX6_number 19 = .ok (.aload_n 0, 1) := by decide +kernel
theorem dX6_number_20 : decode cX6_number 20 = .ok (.getfield 9, 3) := by decide +kernel
theorem dX6_number_23 : decode cX6_number 23 = .ok (.iload_n 2, 1) := by decide +kernel
theorem dX6_number_24 : decode cX6_number 24 = .ok (.iaload, 1) := by decide +kernel
theorem dX6_number_25 : decode cX6_number 25 = .ok (.iadd, 1) := by decide +kernel
theorem dX6_number_26 : decode cX6_number 26 = .ok (.bipush 48, 2) := by decide +kernel
theorem dX6_number_28 : decode cX6_number 28 = .ok (.isub, 1) := by decide +kernel
theorem dX6_number_29 : decode cX6_number 29 = .ok (.istore_n 1, 1) := by decide +kernel
theorem dX6_number_30 : decode cX6_number 30 = .ok (.iinc 2 1, 3) := by decide +kernel
theorem dX6_number_33 : decode cX6_number 33 = .ok (.goto (-26), 3) := by decide +kernel
theorem dX6_number_36 : decode cX6_number 36 = .ok (.iload_n 1, 1) := by decide +kernel
theorem dX6_number_37 : decode cX6_number 37 = .ok (.ireturn, 1) := by decide +kernel
theorem dX6_verb_0 : decode cX6_verb 0 = .ok (.aload_n 0, 1) := by decide +kernel
theorem dX6_verb_1 : decode cX6_verb 1 = .ok (.ldc 78, 2) := by decide +kernel
theorem dX6_verb_3 : decode cX6_verb 3 = .ok (.invokevirtual 80, 3) := by decide +kernel
theorem dX6_verb_6 : decode cX6_verb 6 = .ok (.ifCond .eq 5, 3) := by decide +kernel
theorem dX6_verb_9 : decode cX6_verb 9 = .ok (.iconst 0, 1) := by decide +kernel
theorem dX6_verb_10 : decode cX6_verb 10 = .ok (.ireturn, 1) := by decide +kernel
theorem dX6_verb_11 : decode cX6_verb 11 = .ok (.aload_n 0, 1) := by decide +kernel
theorem dX6_verb_12 : decode cX6_verb 12 = .ok (.ldc 84, 2) := by decide +kernel
theorem dX6_verb_14 : decode cX6_verb 14 = .ok (.invokevirtual 80, 3) := by decide +kernel
theorem dX6_verb_17 : decode cX6_verb 17 = .ok (.ifCond .eq 5, 3) := by decide +kernel
theorem dX6_verb_20 : decode cX6_verb 20 = .ok (.iconst 1, 1) := by decide +kernel
theorem dX6_verb_21 : decode cX6_verb 21 = .ok (.ireturn, 1) := by decide +kernel
theorem dX6_verb_22 : decode cX6_verb 22 = .ok (.aload_n 0, 1) := by decide +kernel
theorem dX6_verb_23 : decode cX6_verb 23 = .ok (.ldc 86, 2) := by decide +kernel
theorem dX6_verb_25 : decode cX6_verb 25 = .ok (.invokevirtual 80, 3) := by decide +kernel
theorem dX6_verb_28 : decode cX6_verb 28 = .ok (.ifCond .eq 5, 3) := by decide +kernel
theorem dX6_verb_31 : decode cX6_verb 31 = .ok (.iconst 2, 1) := by decide +kernel
theorem dX6_verb_32 : decode cX6_verb 32 = .ok (.ireturn, 1) := by decide +kernel
theorem dX6_verb_33 : decode cX6_verb 33 = .ok (.aload_n 0, 1) := by decide +kernel
theorem dX6_verb_34 : decode cX6_verb 34 = .ok (.ldc 88, 2) := by decide +kernel
theorem dX6_verb_36 : decode cX6_verb 36 = .ok (.invokevirtual 80, 3) := by decide +kernel
theorem dX6_verb_39 : decode cX6_verb 39 = .ok (.ifCond .eq 5, 3) := by decide +kernel
theorem dX6_verb_42 : decode cX6_verb 42 = .ok (.iconst 3, 1) := by decide +kernel
theorem dX6_verb_43 : decode cX6_verb 43 = .ok (.ireturn, 1) := by decide +kernel
theorem dX6_verb_44 : decode cX6_verb 44 = .ok (.aload_n 0, 1) := by decide +kernel
theorem dX6_verb_45 : decode cX6_verb 45 = .ok (.ldc 90, 2) := by decide +kernel
theorem dX6_verb_47 : decode cX6_verb 47 = .ok (.invokevirtual 80, 3) := by decide +kernel
theorem dX6_verb_50 : decode cX6_verb 50 = .ok (.ifCond .eq 5, 3) := by decide +kernel
theorem dX6_verb_53 : decode cX6_verb 53 = .ok (.iconst 4, 1) := by decide +kernel
theorem dX6_verb_54 : decode cX6_verb 54 = .ok (.ireturn, 1) := by decide +kernel
theorem dX6_verb_55 : decode cX6_verb 55 = .ok (.aload_n 0, 1) := by decide +kernel
theorem dX6_verb_56 : decode cX6_verb 56 = .ok (.ldc 92, 2) := by decide +kernel
theorem dX6_verb_58 : decode cX6_verb 58 = .ok (.invokevirtual 80, 3) := by decide +kernel
theorem dX6_verb_61 : decode cX6_verb 61 = .ok (.ifCond .eq 5, 3) := by decide +kernel
theorem dX6_verb_64 : decode cX6_verb 64 = .ok (.iconst 5, 1) := by decide +kernel
theorem dX6_verb_65 : decode cX6_verb 65 = .ok (.ireturn, 1) := by decide +kernel
theorem dX6_verb_66 : decode cX6_verb 66 = .ok (.aload_n 0, 1) := by decide +kernel
theorem dX6_verb_67 : decode cX6_verb 67 = .ok (.ldc 94, 2) := by decide +kernel
theorem dX6_verb_69 : decode cX6_verb 69 = .ok (.invokevirtual 80, 3) := by decide +kernel
theorem dX6_verb_72 : decode cX6_verb 72 = .ok (.ifCond .eq 8, 3) := by decide +kernel
theorem dX6_verb_75 : decode cX6_verb 75 = .ok (.bipush 6, 2) := by decide +kernel
theorem dX6_verb_77 : decode cX6_verb 77 = .ok (.goto 4, 3) := by decide +kernel
theorem dX6_verb_80 : decode cX6_verb 80 = .ok (.iconst (-1), 1) := by decide +kernel
theorem dX6_verb_81 : decode cX6_verb 81 = .ok (.ireturn, 1) := by decide +kernel
theorem dX6_spells_0 : decode cX6_spells 0 = .ok (.aload_n 1, 1) := by decide +kernel
theorem dX6_spells_1 : decode cX6_spells 1 = .ok (.invokevirtual 96, 3) := by decide +kernel
theorem dX6_spells_4 : decode cX6_spells 4 = .ok (.aload_n 0, 1) := by decide +kernel
theorem dX6_spells_5 : decode cX6_spells 5 = .ok (.getfield 25, 3) := by decide +kernel
theorem dX6_spells_8 : decode cX6_spells 8 = .ok (.aload_n 0, 1) := by decide +kernel
theorem dX6_spells_9 : decode cX6_spells 9 = .ok (.getfield 39, 3) := by decide +kernel
theorem dX6_spells_12 : decode cX6_spells 12 = .ok (.isub, 1) := by decide +kernel
theorem dX6_spells_13 : decode cX6_spells 13 = .ok (.if_icmp .eq 5, 3) := by decide +kernel
theorem dX6_spells_16 : decode cX6_spells 16 = .ok (.iconst 0, 1) := by decide +kernel
theorem dX6_spells_17 : decode cX6_spells 17 = .ok (.ireturn, 1) := by decide +kernel
theorem dX6_spells_18 : decode cX6_spells 18 = .ok (.iconst 0, 1) := by decide +kernel
theorem dX6_spells_19 : decode cX6_spells 19 = .ok (.istore_n 2, 1) := by decide +kernel
theorem dX6_spells_20 : decode cX6_spells 20 = .ok (.iload_n 2, 1) := by decide +kernel
theorem dX6_spells_21 : decode cX6_spells 21 = .ok (.aload_n 1, 1) := by decide +kernel
theorem dX6_spells_22 : decode cX6_spells 22 = .ok (.invokevirtual 96, 3) := by decide +kernel
theorem dX6_spells_25 : decode cX6_spells 25 = .ok (.if_icmp .ge 30, 3) := by decide +kernel
theorem dX6_spells_28 : decode cX6_spells 28 = .ok (.aload_n 0, 1) := by decide +kernel
theorem dX6_spells_29 : decode cX6_spells 29 = .ok (.getfield 9, 3) := by decide +kernel
theorem dX6_spells_32 : decode cX6_spells 32 = .ok (.aload_n 0, 1) := by decide +kernel
theorem dX6_spells_33 : decode cX6_spells 33 = .ok (.getfield 39, 3) := by decide +kernel
theorem dX6_spells_36 : decode cX6_spells 36 = .ok (.iload_n 2, 1) := by decide +kernel
theorem dX6_spells_37 : decode cX6_spells 37 = .ok (.iadd, 1) := by decide +kernel
theorem dX6_spells_38 : decode cX6_spells 38 = .ok (.iaload, 1) := by decide +kernel
theorem dX6_spells_39 : decode cX6_spells 39 = .ok (.aload_n 1, 1) := by decide +kernel
theorem dX6_spells_40 : decode cX6_spells 40 = .ok (.iload_n 2, 1) := by decide +kernel
theorem dX6_spells_41 : decode cX6_spells 41 = .ok (.invokevirtual 101, 3) := by decide +kernel
theorem dX6_spells_44 : decode cX6_spells 44 = .ok (.if_icmp .eq 5, 3) := by decide +kernel
theorem dX6_spells_47 : decode cX6_spells 47 = .ok (.iconst 0, 1) := by decide +kernel
theorem dX6_spells_48 : decode cX6_spells 48 = .ok (.ireturn, 1) := by decide +kernel
theorem dX6_spells_49 : decode cX6_spells 49 = .ok (.iinc 2 1, 3) := by decide +kernel
theorem dX6_spells_52 : decode cX6_spells 52 = .ok (.goto (-32), 3) := by decide +kernel
theorem dX6_spells_55 : decode cX6_spells 55 = .ok (.iconst 1, 1) := by decide +kernel
theorem dX6_spells_56 : decode cX6_spells 56 = .ok (.ireturn, 1) := by decide +kernel
theorem dX6_hasRoom_0 : decode cX6_hasRoom 0 = .ok (.iload_n 1, 1) := by decide +kernel
theorem dX6_hasRoom_1 : decode cX6_hasRoom 1 = .ok (.iconst 1, 1) := by decide +kernel
theorem dX6_hasRoom_2 : decode cX6_hasRoom 2 = .ok (.if_icmp .ne 11, 3) := by decide +kernel
theorem dX6_hasRoom_5 : decode cX6_hasRoom 5 = .ok (.aload_n 0, 1) := by decide +kernel
theorem dX6_hasRoom_6 : decode cX6_hasRoom 6 = .ok (.getfield 18, 3) := by decide +kernel
theorem dX6_hasRoom_9 : decode cX6_hasRoom 9 = .ok (.invokevirtual 105, 3) := by decide +kernel
theorem dX6_hasRoom_12 : decode cX6_hasRoom 12 = .ok (.ireturn, 1) := by decide +kernel
theorem dX6_hasRoom_13 : decode cX6_hasRoom 13 = .ok (.iload_n 1, 1) := by decide +kernel
theorem dX6_hasRoom_14 : decode cX6_hasRoom 14 = .ok (.iconst 2, 1) := by decide +kernel
theorem dX6_hasRoom_15 : decode cX6_hasRoom 15 = .ok (.if_icmp .ne 13, 3) := by decide +kernel
theorem dX6_hasRoom_18 : decode cX6_hasRoom 18 = .ok (.aload_n 0, 1) := by decide +kernel
theorem dX6_hasRoom_19 : decode cX6_hasRoom 19 = .ok (.getfield 18, 3) := by decide +kernel
theorem dX6_hasRoom_22 : decode cX6_hasRoom 22 = .ok (.invokevirtual 108, 3) := by decide +kernel
theorem dX6_hasRoom_25 : decode cX6_hasRoom 25 = .ok (.ifCond .eq 7, 3) := by decide +kernel
theorem dX6_hasRoom_28 : decode cX6_hasRoom 28 = .ok (.iconst 1, 1) := by decide +kernel
theorem dX6_hasRoom_29 : decode cX6_hasRoom 29 = .ok (.goto 4, 3) := by decide +kernel
theorem dX6_hasRoom_32 : decode cX6_hasRoom 32 = .ok (.iconst 0, 1) := by decide +kernel
theorem dX6_hasRoom_33 : decode cX6_hasRoom 33 = .ok (.ireturn, 1) := by decide +kernel
theorem dX6_least_0 : decode cX6_least 0 = .ok (.iload_n 1, 1) := by decide +kernel
theorem dX6_least_1 : decode cX6_least 1 = .ok (.ifCond .ne 11, 3) := by decide +kernel
theorem dX6_least_4 : decode cX6_least 4 = .ok (.aload_n 0, 1) := by decide +kernel
theorem dX6_least_5 : decode cX6_least 5 = .ok (.getfield 18, 3) := by decide +kernel
theorem dX6_least_8 : decode cX6_least 8 = .ok (.getfield 111, 3) := by decide +kernel
theorem dX6_least_11 : decode cX6_least 11 = .ok (.ireturn, 1) := by decide +kernel
theorem dX6_least_12 : decode cX6_least 12 = .ok (.iload_n 1, 1) := by decide +kernel
theorem dX6_least_13 : decode cX6_least 13 = .ok (.iconst 1, 1) := by decide +kernel
theorem dX6_least_14 : decode cX6_least 14 = .ok (.if_icmp .ne 12, 3) := by decide +kernel
theorem dX6_least_17 : decode cX6_least 17 = .ok (.iload_n 2, 1) := by decide +kernel
theorem dX6_least_18 : decode cX6_least 18 = .ok (.iconst 1, 1) := by decide +kernel
theorem dX6_least_19 : decode cX6_least 19 = .ok (.if_icmp .ne 7, 3) := by decide +kernel
theorem dX6_least_22 : decode cX6_least 22 = .ok (.iconst 1, 1) := by decide +kernel
theorem dX6_least_23 : decode cX6_least 23 = .ok (.goto 4, 3) := by decide +kernel
theorem dX6_least_26 : decode cX6_least 26 = .ok (.iconst 0, 1) := by decide +kernel
theorem dX6_least_27 : decode cX6_least 27 = .ok (.ireturn, 1) := by decide +kernel
theorem dX6_most_0 : decode cX6_most 0 = .ok (.aload_n 0, 1) := by decide +kernel
theorem dX6_most_1 : decode cX6_most 1 = .ok (.getfield 18, 3) := by decide +kernel
theorem dX6_most_4 : decode cX6_most 4 = .ok (.getfield 111, 3) := by decide +kernel
theorem dX6_most_7 : decode cX6_most 7 = .ok (.iconst 1, 1) := by decide +kernel
theorem dX6_most_8 : decode cX6_most 8 = .ok (.isub, 1) := by decide +kernel
theorem dX6_most_9 : decode cX6_most 9 = .ok (.istore_n 3, 1) := by decide +kernel
theorem dX6_most_10 : decode cX6_most 10 = .ok (.iload_n 1, 1) := by decide +kernel
theorem dX6_most_11 : decode cX6_most 11 = .ok (.tableswitch 73 0 4 #[33, 36, 45, 54, 70], 33) := by decide +kernel
theorem dX6_most_44 : decode cX6_most 44 = .ok (.bipush 30, 2) := by decide +kernel
theorem dX6_most_46 : decode cX6_most 46 = .ok (.ireturn, 1) := by decide +kernel
theorem dX6_most_47 : decode cX6_most 47 = .ok (.iload_n 2, 1) := by decide +kernel
theorem dX6_most_48 : decode cX6_most 48 = .ok (.iload_n 3, 1) := by decide +kernel
theorem dX6_most_49 : decode cX6_most 49 = .ok (.iconst 5, 1) := by decide +kernel
theorem dX6_most_50 : decode cX6_most 50 = .ok (.bipush 9, 2) := by decide +kernel
theorem dX6_most_52 : decode cX6_most 52 = .ok (.invokestatic 113, 3) := by decide +kernel
theorem dX6_most_55 : decode cX6_most 55 = .ok (.ireturn, 1) := by decide +kernel
theorem dX6_most_56 : decode cX6_most 56 = .ok (.iload_n 2, 1) := by decide +kernel
theorem dX6_most_57 : decode cX6_most 57 = .ok (.iconst 5, 1) := by decide +kernel
theorem dX6_most_58 : decode cX6_most 58 = .ok (.bipush 9, 2) := by decide +kernel
theorem dX6_most_60 : decode cX6_most 60 = .ok (.iload_n 3, 1) := by decide +kernel
theorem dX6_most_61 : decode cX6_most 61 = .ok (.invokestatic 113, 3) := by decide +kernel
theorem dX6_most_64 : decode cX6_most 64 = .ok (.ireturn, 1) := by decide +kernel
theorem dX6_most_65 : decode cX6_most 65 = .ok (.iload_n 2, 1) := by decide +kernel
theorem dX6_most_66 : decode cX6_most 66 = .ok (.aload_n 0, 1) := by decide +kernel
theorem dX6_most_67 : decode cX6_most 67 = .ok (.getfield 18, 3) := by decide +kernel
theorem dX6_most_70 : decode cX6_most 70 = .ok (.getfield 117, 3) := by decide +kernel
theorem dX6_most_73 : decode cX6_most 73 = .ok (.iconst 1, 1) := by decide +kernel
theorem dX6_most_74 : decode cX6_most 74 = .ok (.isub, 1) := by decide +kernel
theorem dX6_most_75 : decode cX6_most 75 = .ok (.iload_n 3, 1) := by decide +kernel
theorem dX6_most_76 : decode cX6_most 76 = .ok (.iconst 0, 1) := by decide +kernel
theorem dX6_most_77 : decode cX6_most 77 = .ok (.invokestatic 113, 3) := by decide +kernel
theorem dX6_most_80 : decode cX6_most 80 = .ok (.ireturn, 1) := by decide +kernel
theorem dX6_most_81 : decode cX6_most 81 = .ok (.bipush 10, 2) := by decide +kernel
theorem dX6_most_83 : decode cX6_most 83 = .ok (.ireturn, 1) := by decide +kernel
theorem dX6_most_84 : decode cX6_most 84 = .ok (.sipush 999, 3) := by decide +kernel
theorem dX6_most_87 : decode cX6_most 87 = .ok (.ireturn, 1) := by decide +kernel
theorem dX6_mostOf_0 : decode cX6_mostOf 0 = .ok (.iload_n 0, 1) := by decide +kernel
theorem dX6_mostOf_1 : decode cX6_mostOf 1 = .ok (.ifCond .ne 5, 3) := by decide +kernel
theorem dX6_mostOf_4 : decode cX6_mostOf 4 = .ok (.iload_n 1, 1) := by decide +kernel
theorem dX6_mostOf_5 : decode cX6_mostOf 5 = .ok (.ireturn, 1) := by decide +kernel
theorem dX6_mostOf_6 : decode cX6_mostOf 6 = .ok (.iload_n 0, 1) := by decide +kernel
theorem dX6_mostOf_7 : decode cX6_mostOf 7 = .ok (.iconst 1, 1) := by decide +kernel
theorem dX6_mostOf_8 : decode cX6_mostOf 8 = .ok (.if_icmp .ne 7, 3) := by decide +kernel
theorem dX6_mostOf_11 : decode cX6_mostOf 11 = .ok (.iload_n 2, 1) := by decide +kernel
theorem dX6_mostOf_12 : decode cX6_mostOf 12 = .ok (.goto 4, 3) := by decide +kernel
theorem dX6_mostOf_15 : decode cX6_mostOf 15 = .ok (.iload_n 3, 1) := by decide +kernel
theorem dX6_mostOf_16 : decode cX6_mostOf 16 = .ok (.ireturn, 1) := by decide +kernel
theorem dX6_apply_0 : decode cX6_apply 0 = .ok (.iload_n 1, 1) := by decide +kernel
theorem dX6_apply_1 : decode cX6_apply 1 = .ok (.tableswitch 171 0 5 #[39, 55, 84, 113, 139, 155], 39) := by decide +kernel
theorem dX6_apply_40 : decode cX6_apply 40 = .ok (.aload_n 0, 1) := by decide +kernel
theorem dX6_apply_41 : decode cX6_apply 41 = .ok (.getfield 18, 3) := by decide +kernel
theorem dX6_apply_44 : decode cX6_apply 44 = .ok (.aload_n 0, 1) := by decide +kernel
theorem dX6_apply_45 : decode cX6_apply 45 = .ok (.getfield 22, 3) := by decide +kernel
theorem dX6_apply_48 : decode cX6_apply 48 = .ok (.iconst 0, 1) := by decide +kernel
theorem dX6_apply_49 : decode cX6_apply 49 = .ok (.iaload, 1) := by decide +kernel
theorem dX6_apply_50 : decode cX6_apply 50 = .ok (.putfield 111, 3) := by decide +kernel
theorem dX6_apply_53 : decode cX6_apply 53 = .ok (.goto 132, 3) := by decide +kernel
theorem dX6_apply_56 : decode cX6_apply 56 = .ok (.aload_n 0, 1) := by decide +kernel
theorem dX6_apply_57 : decode cX6_apply 57 = .ok (.getfield 18, 3) := by decide +kernel
theorem dX6_apply_60 : decode cX6_apply 60 = .ok (.aload_n 0, 1) := by decide +kernel
theorem dX6_apply_61 : decode cX6_apply 61 = .ok (.getfield 22, 3) := by decide +kernel
theorem dX6_apply_64 : decode cX6_apply 64 = .ok (.iconst 0, 1) := by decide +kernel
theorem dX6_apply_65 : decode cX6_apply 65 = .ok (.iaload, 1) := by decide +kernel
theorem dX6_apply_66 : decode cX6_apply 66 = .ok (.aload_n 0, 1) := by decide +kernel
theorem dX6_apply_67 : decode cX6_apply 67 = .ok (.getfield 22, 3) := by decide +kernel
theorem dX6_apply_70 : decode cX6_apply 70 = .ok (.iconst 1, 1) := by decide +kernel
theorem dX6_apply_71 : decode cX6_apply 71 = .ok (.iaload, 1) := by decide +kernel
theorem dX6_apply_72 : decode cX6_apply 72 = .ok (.aload_n 0, 1) := by decide +kernel
theorem dX6_apply_73 : decode cX6_apply 73 = .ok (.getfield 22, 3) := by decide +kernel
theorem dX6_apply_76 : decode cX6_apply 76 = .ok (.iconst 2, 1) := by decide +kernel
theorem dX6_apply_77 : decode cX6_apply 77 = .ok (.iaload, 1) := by decide +kernel
theorem dX6_apply_78 : decode cX6_apply 78 = .ok (.invokevirtual 120, 3) := by decide +kernel
theorem dX6_apply_81 : decode cX6_apply 81 = .ok (.pop, 1) := by decide +kernel
theorem dX6_apply_82 : decode cX6_apply 82 = .ok (.goto 103, 3) := by decide +kernel
theorem dX6_apply_85 : decode cX6_apply 85 = .ok (.aload_n 0, 1) := by decide +kernel
theorem dX6_apply_86 : decode cX6_apply 86 = .ok (.getfield 18, 3) := by decide +kernel
theorem dX6_apply_89 : decode cX6_apply 89 = .ok (.aload_n 0, 1) := by decide +kernel
theorem dX6_apply_90 : decode cX6_apply 90 = .ok (.getfield 22, 3) := by decide +kernel
theorem dX6_apply_93 : decode cX6_apply 93 = .ok (.iconst 0, 1) := by decide +kernel
theorem dX6_apply_94 : decode cX6_apply 94 = .ok (.iaload, 1) := by decide +kernel
theorem dX6_apply_95 : decode cX6_apply 95 = .ok (.aload_n 0, 1) := by decide +kernel
theorem dX6_apply_96 : decode cX6_apply 96 = .ok (.getfield 22, 3) := by decide +kernel
theorem dX6_apply_99 : decode cX6_apply 99 = .ok (.iconst 1, 1) := by decide +kernel
theorem dX6_apply_100 : decode cX6_apply 100 = .ok (.iaload, 1) := by decide +kernel
theorem dX6_apply_101 : decode cX6_apply 101 = .ok (.aload_n 0, 1) := by decide +kernel
theorem dX6_apply_102 : decode cX6_apply 102 = .ok (.getfield 22, 3) := by decide +kernel
theorem dX6_apply_105 : decode cX6_apply 105 = .ok (.iconst 2, 1) := by decide +kernel
theorem dX6_apply_106 : decode cX6_apply 106 = .ok (.iaload, 1) := by decide +kernel
theorem dX6_apply_107 : decode cX6_apply 107 = .ok (.invokevirtual 124, 3) := by decide +kernel
theorem dX6_apply_110 : decode cX6_apply 110 = .ok (.pop, 1) := by decide +kernel
theorem dX6_apply_111 : decode cX6_apply 111 = .ok (.goto 74, 3) := by decide +kernel
theorem dX6_apply_114 : decode cX6_apply 114 = .ok (.aload_n 0, 1) := by decide +kernel
theorem dX6_apply_115 : decode cX6_apply 115 = .ok (.getfield 18, 3) := by decide +kernel
theorem dX6_apply_118 : decode cX6_apply 118 = .ok (.getfield 127, 3) := by decide +kernel
theorem dX6_apply_121 : decode cX6_apply 121 = .ok (.aload_n 0, 1) := by decide +kernel
theorem dX6_apply_122 : decode cX6_apply 122 = .ok (.getfield 22, 3) := by decide +kernel
theorem dX6_apply_125 : decode cX6_apply 125 = .ok (.iconst 0, 1) := by decide +kernel
theorem dX6_apply_126 : decode cX6_apply 126 = .ok (.iaload, 1) := by decide +kernel
theorem dX6_apply_127 : decode cX6_apply 127 = .ok (.aaload, 1) := by decide +kernel
theorem dX6_apply_128 : decode cX6_apply 128 = .ok (.aload_n 0, 1) := by decide +kernel
theorem dX6_apply_129 : decode cX6_apply 129 = .ok (.getfield 22, 3) := by decide +kernel
theorem dX6_apply_132 : decode cX6_apply 132 = .ok (.iconst 1, 1) := by decide +kernel
theorem dX6_apply_133 : decode cX6_apply 133 = .ok (.iaload, 1) := by decide +kernel
theorem dX6_apply_134 : decode cX6_apply 134 = .ok (.putfield 131, 3) := by decide +kernel
theorem dX6_apply_137 : decode cX6_apply 137 = .ok (.goto 48, 3) := by decide +kernel
theorem dX6_apply_140 : decode cX6_apply 140 = .ok (.aload_n 0, 1) := by decide +kernel
theorem dX6_apply_141 : decode cX6_apply 141 = .ok (.getfield 18, 3) := by decide +kernel
theorem dX6_apply_144 : decode cX6_apply 144 = .ok (.aload_n 0, 1) := by decide +kernel
theorem dX6_apply_145 : decode cX6_apply 145 = .ok (.getfield 22, 3) := by decide +kernel
theorem dX6_apply_148 : decode cX6_apply 148 = .ok (.iconst 0, 1) := by decide +kernel
theorem dX6_apply_149 : decode cX6_apply 149 = .ok (.iaload, 1) := by decide +kernel
theorem dX6_apply_150 : decode cX6_apply 150 = .ok (.putfield 135, 3) := by decide +kernel
theorem dX6_apply_153 : decode cX6_apply 153 = .ok (.goto 32, 3) := by decide +kernel
theorem dX6_apply_156 : decode cX6_apply 156 = .ok (.aload_n 0, 1) := by decide +kernel
theorem dX6_apply_157 : decode cX6_apply 157 = .ok (.getfield 18, 3) := by decide +kernel
theorem dX6_apply_160 : decode cX6_apply 160 = .ok (.aload_n 0, 1) := by decide +kernel
theorem dX6_apply_161 : decode cX6_apply 161 = .ok (.getfield 22, 3) := by decide +kernel
theorem dX6_apply_164 : decode cX6_apply 164 = .ok (.iconst 0, 1) := by decide +kernel
theorem dX6_apply_165 : decode cX6_apply 165 = .ok (.iaload, 1) := by decide +kernel
theorem dX6_apply_166 : decode cX6_apply 166 = .ok (.putfield 137, 3) := by decide +kernel
theorem dX6_apply_169 : decode cX6_apply 169 = .ok (.goto 16, 3) := by decide +kernel
theorem dX6_apply_172 : decode cX6_apply 172 = .ok (.aload_n 0, 1) := by decide +kernel
theorem dX6_apply_173 : decode cX6_apply 173 = .ok (.getfield 18, 3) := by decide +kernel
theorem dX6_apply_176 : decode cX6_apply 176 = .ok (.aload_n 0, 1) := by decide +kernel
theorem dX6_apply_177 : decode cX6_apply 177 = .ok (.getfield 22, 3) := by decide +kernel
theorem dX6_apply_180 : decode cX6_apply 180 = .ok (.iconst 0, 1) := by decide +kernel
theorem dX6_apply_181 : decode cX6_apply 181 = .ok (.iaload, 1) := by decide +kernel
theorem dX6_apply_182 : decode cX6_apply 182 = .ok (.putfield 139, 3) := by decide +kernel
theorem dX6_apply_185 : decode cX6_apply 185 = .ok (.return_, 1) := by decide +kernel
theorem dX7_init_0 : decode cX7_init 0 = .ok (.aload_n 0, 1) := by decide +kernel
theorem dX7_init_1 : decode cX7_init 1 = .ok (.invokespecial 1, 3) := by decide +kernel
theorem dX7_init_4 : decode cX7_init 4 = .ok (.return_, 1) := by decide +kernel
theorem dX7_copyFrom_0 : decode cX7_copyFrom 0 = .ok (.aload_n 0, 1) := by decide +kernel
theorem dX7_copyFrom_1 : decode cX7_copyFrom 1 = .ok (.aload_n 1, 1) := by decide +kernel
theorem dX7_copyFrom_2 : decode cX7_copyFrom 2 = .ok (.getfield 7, 3) := by decide +kernel
theorem dX7_copyFrom_5 : decode cX7_copyFrom 5 = .ok (.putfield 7, 3) := by decide +kernel
theorem dX7_copyFrom_8 : decode cX7_copyFrom 8 = .ok (.aload_n 0, 1) := by decide +kernel
theorem dX7_copyFrom_9 : decode cX7_copyFrom 9 = .ok (.aload_n 1, 1) := by decide +kernel
theorem dX7_copyFrom_10 : decode cX7_copyFrom 10 = .ok (.getfield 13, 3) := by decide +kernel
theorem dX7_copyFrom_13 : decode cX7_copyFrom 13 = .ok (.putfield 13, 3) := by decide +kernel
theorem dX7_copyFrom_16 : decode cX7_copyFrom 16 = .ok (.aload_n 0, 1) := by decide +kernel
theorem dX7_copyFrom_17 : decode cX7_copyFrom 17 = .ok (.aload_n 1, 1) := by decide +kernel
theorem dX7_copyFrom_18 : decode cX7_copyFrom 18 = .ok (.getfield 16, 3) := by decide +kernel
theorem dX7_copyFrom_21 : decode cX7_copyFrom 21 = .ok (.putfield 16, 3) := by decide +kernel
theorem dX7_copyFrom_24 : decode cX7_copyFrom 24 = .ok (.return_, 1) := by decide +kernel
theorem dX8_init_0 : decode cX8_init 0 = .ok (.aload_n 0, 1) := by decide +kernel
theorem dX8_init_1 : decode cX8_init 1 = .ok (.invokespecial 3, 3) := by decide +kernel
theorem dX8_init_4 : decode cX8_init 4 = .ok (.aload_n 0, 1) := by decide +kernel
theorem dX8_init_5 : decode cX8_init 5 = .ok (.new 9, 3) := by decide +kernel
theorem dX8_init_8 : decode cX8_init 8 = .ok (.dup, 1) := by decide +kernel
theorem dX8_init_9 : decode cX8_init 9 = .ok (.invokespecial 11, 3) := by decide +kernel
theorem dX8_init_12 : decode cX8_init 12 = .ok (.putfield 12, 3) := by decide +kernel
theorem dX8_init_15 : decode cX8_init 15 = .ok (.aload_n 0, 1) := by decide +kernel
theorem dX8_init_16 : decode cX8_init 16 = .ok (.new 9, 3) := by decide +kernel
theorem dX8_init_19 : decode cX8_init 19 = .ok (.dup, 1) := by decide +kernel
theorem dX8_init_20 : decode cX8_init 20 = .ok (.invokespecial 11, 3) := by decide +kernel
theorem dX8_init_23 : decode cX8_init 23 = .ok (.putfield 16, 3) := by decide +kernel
theorem dX8_init_26 : decode cX8_init 26 = .ok (.aload_n 0, 1) := by decide +kernel
theorem dX8_init_27 : decode cX8_init 27 = .ok (.new 19, 3) := by decide +kernel
theorem dX8_init_30 : decode cX8_init 30 = .ok (.dup, 1) := by decide +kernel
theorem dX8_init_31 : decode cX8_init 31 = .ok (.invokespecial 21, 3) := by decide +kernel
theorem dX8_init_34 : decode cX8_init 34 = .ok (.putfield 22, 3) := by decide +kernel
theorem dX8_init_37 : decode cX8_init 37 = .ok (.aload_n 0, 1) := by decide +kernel
theorem dX8_init_38 : decode cX8_init 38 = .ok (.new 26, 3) := by decide +kernel
theorem dX8_init_41 : decode cX8_init 41 = .ok (.dup, 1) := by decide +kernel
theorem dX8_init_42 : decode cX8_init 42 = .ok (.invokespecial 28, 3) := by decide +kernel
theorem dX8_init_45 : decode cX8_init 45 = .ok (.putfield 29, 3) := by decide +kernel
theorem dX8_init_48 : decode cX8_init 48 = .ok (.aload_n 0, 1) := by decide +kernel
theorem dX8_init_49 : decode cX8_init 49 = .ok (.new 33, 3) := by decide +kernel
theorem dX8_init_52 : decode cX8_init 52 = .ok (.dup, 1) := by decide +kernel
theorem dX8_init_53 : decode cX8_init 53 = .ok (.invokespecial 35, 3) := by decide +kernel
theorem dX8_init_56 : decode cX8_init 56 = .ok (.putfield 36, 3) := by decide +kernel
theorem dX8_init_59 : decode cX8_init 59 = .ok (.aload_n 0, 1) := by decide +kernel
theorem dX8_init_60 : decode cX8_init 60 = .ok (.bipush 8, 2) := by decide +kernel
theorem dX8_init_62 : decode cX8_init 62 = .ok (.anewarray 40, 3) := by decide +kernel
theorem dX8_init_65 : decode cX8_init 65 = .ok (.putfield 42, 3) := by decide +kernel
theorem dX8_init_68 : decode cX8_init 68 = .ok (.aload_n 0, 1) := by decide +kernel
theorem dX8_init_69 : decode cX8_init 69 = .ok (.bipush 7, 2) := by decide +kernel
theorem dX8_init_71 : decode cX8_init 71 = .ok (.newarray .int, 2) := by decide +kernel
theorem dX8_init_73 : decode cX8_init 73 = .ok (.putfield 46, 3) := by decide +kernel
theorem dX8_init_76 : decode cX8_init 76 = .ok (.iconst 0, 1) := by decide +kernel
theorem dX8_init_77 : decode cX8_init 77 = .ok (.istore_n 1, 1) := by decide +kernel
theorem dX8_init_78 : decode cX8_init 78 = .ok (.iload_n 1, 1) := by decide +kernel
theorem dX8_init_79 : decode cX8_init 79 = .ok (.bipush 8, 2) := by decide +kernel
theorem dX8_init_81 : decode cX8_init 81 = .ok (.if_icmp .ge 22, 3) := by decide +kernel
theorem dX8_init_84 : decode cX8_init 84 = .ok (.aload_n 0, 1) := by decide +kernel
theorem dX8_init_85 : decode cX8_init 85 = .ok (.getfield 42, 3) := by decide +kernel
theorem dX8_init_88 : decode cX8_init 88 = .ok (.iload_n 1, 1) := by decide +kernel
theorem dX8_init_89 : decode cX8_init 89 = .ok (.new 40, 3) := by decide +kernel
theorem dX8_init_92 : decode cX8_init 92 = .ok (.dup, 1) := by decide +kernel
theorem dX8_init_93 : decode cX8_init 93 = .ok (.invokespecial 50, 3) := by decide +kernel
theorem dX8_init_96 : decode cX8_init 96 = .ok (.aastore, 1) := by decide +kernel
theorem dX8_init_97 : decode cX8_init 97 = .ok (.iinc 1 1, 3) := by decide +kernel
theorem dX8_init_100 : decode cX8_init 100 = .ok (.goto (-22), 3) := by decide +kernel
theorem dX8_init_103 : decode cX8_init 103 = .ok (.return_, 1) := by decide +kernel
theorem dX8_row_0 : decode cX8_row 0 = .ok (.iload_n 1, 1) := by decide +kernel
theorem dX8_row_1 : decode cX8_row 1 = .ok (.invokestatic 51, 3) := by decide +kernel
theorem dX8_row_4 : decode cX8_row 4 = .ok (.ifCond .eq 22, 3) := by decide +kernel
theorem dX8_row_7 : decode cX8_row 7 = .ok (.iload_n 2, 1) := by decide +kernel
theorem dX8_row_8 : decode cX8_row 8 = .ok (.iconst 0, 1) := by decide +kernel
theorem dX8_row_9 : decode cX8_row 9 = .ok (.iconst 4, 1) := by decide +kernel
theorem dX8_row_10 : decode cX8_row 10 = .ok (.invokestatic 55, 3) := by decide +kernel
theorem dX8_row_13 : decode cX8_row 13 = .ok (.ifCond .eq 13, 3) := by decide +kernel
theorem dX8_row_16 : decode cX8_row 16 = .ok (.iload_n 3, 1) := by decide +kernel
theorem dX8_row_17 : decode cX8_row 17 = .ok (.iconst 0, 1) := by decide +kernel
theorem dX8_row_18 : decode cX8_row 18 = .ok (.bipush 40, 2) := by decide +kernel
theorem dX8_row_20 : decode cX8_row 20 = .ok (.invokestatic 55, 3) := by decide +kernel
theorem dX8_row_23 : decode cX8_row 23 = .ok (.ifCond .ne 10, 3) := by decide +kernel
theorem dX8_row_26 : decode cX8_row 26 = .ok (.aload_n 0, 1) := by decide +kernel
theorem dX8_row_27 : decode cX8_row 27 = .ok (.bipush (-2), 2) := by decide +kernel
theorem dX8_row_29 : decode cX8_row 29 = .ok (.invokevirtual 59, 3) := by decide +kernel
theorem dX8_row_32 : decode cX8_row 32 = .ok (.ireturn, 1) := by decide +kernel
theorem dX8_row_33 : decode cX8_row 33 = .ok (.aload_n 0, 1) := by decide +kernel
theorem dX8_row_34 : decode cX8_row 34 = .ok (.getfield 42, 3) := by decide +kernel
theorem dX8_row_37 : decode cX8_row 37 = .ok (.iload_n 1, 1) := by decide +kernel
theorem dX8_row_38 : decode cX8_row 38 = .ok (.aaload, 1) := by decide +kernel
theorem dX8_row_39 : decode cX8_row 39 = .ok (.iload_n 2, 1) := by decide +kernel
theorem dX8_row_40 : decode cX8_row 40 = .ok (.iload_n 3, 1) := by decide +kernel
theorem dX8_row_41 : decode cX8_row 41 = .ok (.invokevirtual 63, 3) := by decide +kernel
theorem dX8_row_44 : decode cX8_row 44 = .ok (.iconst 1, 1) := by decide +kernel
theorem dX8_row_45 : decode cX8_row 45 = .ok (.ireturn, 1) := by decide +kernel
theorem dX8_set_0 : decode cX8_set 0 = .ok (.aload_n 0, 1) := by decide +kernel
theorem dX8_set_1 : decode cX8_set 1 = .ok (.iload_n 1, 1) := by decide +kernel
theorem dX8_set_2 : decode cX8_set 2 = .ok (.iconst 0, 1) := by decide +kernel
theorem dX8_set_3 : decode cX8_set 3 = .ok (.invokevirtual 67, 3) := by decide +kernel
theorem dX8_set_6 : decode cX8_set 6 = .ok (.istore 5, 2) := by decide +kernel
theorem dX8_set_8 : decode cX8_set 8 = .ok (.iload 5, 2) := by decide +kernel
theorem dX8_set_10 : decode cX8_set 10 = .ok (.ifCond .eq 10, 3) := by decide +kernel
theorem dX8_set_13 : decode cX8_set 13 = .ok (.aload_n 0, 1) := by decide +kernel
theorem dX8_set_14 : decode cX8_set 14 = .ok (.iload 5, 2) := by decide +kernel
theorem dX8_set_16 : decode cX8_set 16 = .ok (.invokevirtual 59, 3) := by decide +kernel
theorem dX8_set_19 : decode cX8_set 19 = .ok (.ireturn, 1) := by decide +kernel
theorem dX8_set_20 : decode cX8_set 20 = .ok (.aload_n 0, 1) := by decide +kernel
theorem dX8_set_21 : decode cX8_set 21 = .ok (.getfield 42, 3) := by decide +kernel
theorem dX8_set_24 : decode cX8_set 24 = .ok (.iload_n 1, 1) := by decide +kernel
theorem dX8_set_25 : decode cX8_set 25 = .ok (.aaload, 1) := by decide +kernel
theorem dX8_set_26 : decode cX8_set 26 = .ok (.getfield 71, 3) := by decide +kernel
theorem dX8_set_29 : decode cX8_set 29 = .ok (.astore 6, 2) := by decide +kernel
theorem dX8_set_31 : decode cX8_set 31 = .ok (.aload 6, 2) := by decide +kernel
theorem dX8_set_33 : decode cX8_set 33 = .ok (.iload_n 2, 1) := by decide +kernel
theorem dX8_set_34 : decode cX8_set 34 = .ok (.invokevirtual 75, 3) := by decide +kernel
theorem dX8_set_37 : decode cX8_set 37 = .ok (.ifCond .ne 10, 3) := by decide +kernel
theorem dX8_set_40 : decode cX8_set 40 = .ok (.aload_n 0, 1) := by decide +kernel
theorem dX8_set_41 : decode cX8_set 41 = .ok (.bipush (-2), 2) := by decide +kernel
theorem dX8_set_43 : decode cX8_set 43 = .ok (.invokevirtual 59, 3) := by decide +kernel
theorem dX8_set_46 : decode cX8_set 46 = .ok (.ireturn, 1) := by decide +kernel
theorem dX8_set_47 : decode cX8_set 47 = .ok (.aload 6, 2) := by decide +kernel
theorem dX8_set_49 : decode cX8_set 49 = .ok (.getfield 80, 3) := by decide +kernel
theorem dX8_set_52 : decode cX8_set 52 = .ok (.iload_n 2, 1) := by decide +kernel
theorem dX8_set_53 : decode cX8_set 53 = .ok (.aload 6, 2) := by decide +kernel
theorem dX8_set_55 : decode cX8_set 55 = .ok (.lload_n 3, 1) := by decide +kernel
theorem dX8_set_56 : decode cX8_set 56 = .ok (.invokevirtual 84, 3) := by decide +kernel
theorem dX8_set_59 : decode cX8_set 59 = .ok (.lastore, 1) := by decide +kernel
theorem dX8_set_60 : decode cX8_set 60 = .ok (.iconst 1, 1) := by decide +kernel
theorem dX8_set_61 : decode cX8_set 61 = .ok (.ireturn, 1) := by decide +kernel
theorem dX8_copy_0 : decode cX8_copy 0 = .ok (.iload_n 1, 1) := by decide +kernel
theorem dX8_copy_1 : decode cX8_copy 1 = .ok (.invokestatic 51, 3) := by decide +kernel
theorem dX8_copy_4 : decode cX8_copy 4 = .ok (.ifCond .eq 10, 3) := by decide +kernel
theorem dX8_copy_7 : decode cX8_copy 7 = .ok (.iload_n 2, 1) := by decide +kernel
theorem dX8_copy_8 : decode cX8_copy 8 = .ok (.invokestatic 51, 3) := by decide +kernel
theorem dX8_copy_11 : decode cX8_copy 11 = .ok (.ifCond .ne 10, 3) := by decide +kernel
theorem dX8_copy_14 : decode cX8_copy 14 = .ok (.aload_n 0, 1) := by decide +kernel
theorem dX8_copy_15 : decode cX8_copy 15 = .ok (.bipush (-2), 2) := by decide +kernel
theorem dX8_copy_17 : decode cX8_copy 17 = .ok (.invokevirtual 59, 3) := by decide +kernel
theorem dX8_copy_20 : decode cX8_copy 20 = .ok (.ireturn, 1) := by decide +kernel
theorem dX8_copy_21 : decode cX8_copy 21 = .ok (.aload_n 0, 1) := by decide +kernel
theorem dX8_copy_22 : decode cX8_copy 22 = .ok (.getfield 42, 3) := by decide +kernel
theorem dX8_copy_25 : decode cX8_copy 25 = .ok (.iload_n 1, 1) := by decide +kernel
theorem dX8_copy_26 : decode cX8_copy 26 = .ok (.aaload, 1) := by decide +kernel
theorem dX8_copy_27 : decode cX8_copy 27 = .ok (.astore 6, 2) := by decide +kernel
theorem dX8_copy_29 : decode cX8_copy 29 = .ok (.aload_n 0, 1) := by decide +kernel
theorem dX8_copy_30 : decode cX8_copy 30 = .ok (.getfield 42, 3) := by decide +kernel
theorem dX8_copy_33 : decode cX8_copy 33 = .ok (.iload_n 2, 1) := by decide +kernel
theorem dX8_copy_34 : decode cX8_copy 34 = .ok (.aaload, 1) := by decide +kernel
theorem dX8_copy_35 : decode cX8_copy 35 = .ok (.astore 7, 2) := by decide +kernel
theorem dX8_copy_37 : decode cX8_copy 37 = .ok (.aload 6, 2) := by decide +kernel
theorem dX8_copy_39 : decode cX8_copy 39 = .ok (.getfield 88, 3) := by decide +kernel
theorem dX8_copy_42 : decode cX8_copy 42 = .ok (.iconst (-1), 1) := by decide +kernel
theorem dX8_copy_43 : decode cX8_copy 43 = .ok (.if_icmp .ne 12, 3) := by decide +kernel
theorem dX8_copy_46 : decode cX8_copy 46 = .ok (.aload 7, 2) := by decide +kernel
theorem dX8_copy_48 : decode cX8_copy 48 = .ok (.getfield 88, 3) := by decide +kernel
theorem dX8_copy_51 : decode cX8_copy 51 = .ok (.iconst (-1), 1) := by decide +kernel
theorem dX8_copy_52 : decode cX8_copy 52 = .ok (.if_icmp .eq 10, 3) := by decide +kernel
theorem dX8_copy_55 : decode cX8_copy 55 = .ok (.aload_n 0, 1) := by decide +kernel
theorem dX8_copy_56 : decode cX8_copy 56 = .ok (.bipush (-3), 2) := by decide +kernel
theorem dX8_copy_58 : decode cX8_copy 58 = .ok (.invokevirtual 59, 3) := by decide +kernel
theorem dX8_copy_61 : decode cX8_copy 61 = .ok (.ireturn, 1) := by decide +kernel
theorem dX8_copy_62 : decode cX8_copy 62 = .ok (.aload 6, 2) := by decide +kernel
theorem dX8_copy_64 : decode cX8_copy 64 = .ok (.getfield 92, 3) := by decide +kernel
theorem dX8_copy_67 : decode cX8_copy 67 = .ok (.ifCond .eq 37, 3) := by decide +kernel
theorem dX8_copy_70 : decode cX8_copy 70 = .ok (.aload 7, 2) := by decide +kernel
theorem dX8_copy_72 : decode cX8_copy 72 = .ok (.getfield 92, 3) := by decide +kernel
theorem dX8_copy_75 : decode cX8_copy 75 = .ok (.ifCond .eq 29, 3) := by decide +kernel
theorem dX8_copy_78 : decode cX8_copy 78 = .ok (.aload 6, 2) := by decide +kernel
theorem dX8_copy_80 : decode cX8_copy 80 = .ok (.getfield 71, 3) := by decide +kernel
theorem dX8_copy_83 : decode cX8_copy 83 = .ok (.getfield 96, 3) := by decide +kernel
theorem dX8_copy_86 : decode cX8_copy 86 = .ok (.aload 7, 2) := by decide +kernel
theorem dX8_copy_88 : decode cX8_copy 88 = .ok (.getfield 71, 3) := by decide +kernel
theorem dX8_copy_91 : decode cX8_copy 91 = .ok (.getfield 96, 3) := by decide +kernel
theorem dX8_copy_94 : decode cX8_copy 94 = .ok (.if_icmp .eq 10, 3) := by decide +kernel
theorem dX8_copy_97 : decode cX8_copy 97 = .ok (.aload_n 0, 1) := by decide +kernel
theorem dX8_copy_98 : decode cX8_copy 98 = .ok (.bipush (-3), 2) := by decide +kernel
theorem dX8_copy_100 : decode cX8_copy 100 = .ok (.invokevirtual 59, 3) := by decide +kernel
theorem dX8_copy_103 : decode cX8_copy 103 = .ok (.ireturn, 1) := by decide +kernel
theorem dX8_copy_104 : decode cX8_copy 104 = .ok (.aload 6, 2) := by decide +kernel
theorem dX8_copy_106 : decode cX8_copy 106 = .ok (.getfield 92, 3) := by decide +kernel
theorem dX8_copy_109 : decode cX8_copy 109 = .ok (.ifCond .eq 11, 3) := by decide +kernel
theorem dX8_copy_112 : decode cX8_copy 112 = .ok (.aload 7, 2) := by decide +kernel
theorem dX8_copy_114 : decode cX8_copy 114 = .ok (.getfield 92, 3) := by decide +kernel
theorem dX8_copy_117 : decode cX8_copy 117 = .ok (.ifCond .ne 10, 3) := by decide +kernel
theorem dX8_copy_120 : decode cX8_copy 120 = .ok (.aload_n 0, 1) := by decide +kernel
theorem dX8_copy_121 : decode cX8_copy 121 = .ok (.bipush (-4), 2) := by decide +kernel
theorem dX8_copy_123 : decode cX8_copy 123 = .ok (.invokevirtual 59, 3) := by decide +kernel
theorem dX8_copy_126 : decode cX8_copy 126 = .ok (.ireturn, 1) := by decide +kernel
theorem dX8_copy_127 : decode cX8_copy 127 = .ok (.aload 6, 2) := by decide +kernel
theorem dX8_copy_129 : decode cX8_copy 129 = .ok (.getfield 71, 3) := by decide +kernel
theorem dX8_copy_132 : decode cX8_copy 132 = .ok (.iload_n 3, 1) := by decide +kernel
theorem dX8_copy_133 : decode cX8_copy 133 = .ok (.iload 5, 2) := by decide +kernel
theorem dX8_copy_135 : decode cX8_copy 135 = .ok (.invokevirtual 99, 3) := by decide +kernel
theorem dX8_copy_138 : decode cX8_copy 138 = .ok (.ifCond .eq 18, 3) := by decide +kernel
theorem dX8_copy_141 : decode cX8_copy 141 = .ok (.aload 7, 2) := by decide +kernel
theorem dX8_copy_143 : decode cX8_copy 143 = .ok (.getfield 71, 3) := by decide +kernel
theorem dX8_copy_146 : decode cX8_copy 146 = .ok (.iload 4, 2) := by decide +kernel
theorem dX8_copy_148 : decode cX8_copy 148 = .ok (.iload 5, 2) := by decide +kernel
theorem dX8_copy_150 : decode cX8_copy 150 = .ok (.invokevirtual 99, 3) := by decide +kernel
theorem dX8_copy_153 : decode cX8_copy 153 = .ok (.ifCond .ne 10, 3) := by decide +kernel
theorem dX8_copy_156 : decode cX8_copy 156 = .ok (.aload_n 0, 1) := by decide +kernel
theorem dX8_copy_157 : decode cX8_copy 157 = .ok (.bipush (-2), 2) := by decide +kernel
theorem dX8_copy_159 : decode cX8_copy 159 = .ok (.invokevirtual 59, 3) := by decide +kernel
theorem dX8_copy_162 : decode cX8_copy 162 = .ok (.ireturn, 1) := by decide +kernel
theorem dX8_copy_163 : decode cX8_copy 163 = .ok (.aload 6, 2) := by decide +kernel
theorem dX8_copy_165 : decode cX8_copy 165 = .ok (.getfield 71, 3) := by decide +kernel
theorem dX8_copy_168 : decode cX8_copy 168 = .ok (.getfield 80, 3) := by decide +kernel
theorem dX8_copy_171 : decode cX8_copy 171 = .ok (.iload_n 3, 1) := by decide +kernel
theorem dX8_copy_172 : decode cX8_copy 172 = .ok (.aload 7, 2) := by decide +kernel
theorem dX8_copy_174 : decode cX8_copy 174 = .ok (.getfield 71, 3) := by decide +kernel
theorem dX8_copy_177 : decode cX8_copy 177 = .ok (.getfield 80, 3) := by decide +kernel
theorem dX8_copy_180 : decode cX8_copy 180 = .ok (.iload 4, 2) := by decide +kernel
theorem dX8_copy_182 : decode cX8_copy 182 = .ok (.iload 5, 2) := by decide +kernel
theorem dX8_copy_184 : decode cX8_copy 184 = .ok (.invokestatic 103, 3) := by decide +kernel
theorem dX8_copy_187 : decode cX8_copy 187 = .ok (.iload 5, 2) := by decide +kernel
theorem dX8_copy_189 : decode cX8_copy 189 = .ok (.ireturn, 1) := by decide +kernel
theorem dX8_element_0 : decode cX8_element 0 = .ok (.iload_n 1, 1) := by decide +kernel
theorem dX8_element_1 : decode cX8_element 1 = .ok (.invokestatic 51, 3) := by decide +kernel
theorem dX8_element_4 : decode cX8_element 4 = .ok (.ifCond .eq 31, 3) := by decide +kernel
theorem dX8_element_7 : decode cX8_element 7 = .ok (.aload_n 0, 1) := by decide +kernel
theorem dX8_element_8 : decode cX8_element 8 = .ok (.getfield 42, 3) := by decide +kernel
theorem dX8_element_11 : decode cX8_element 11 = .ok (.iload_n 1, 1) := by decide +kernel
theorem dX8_element_12 : decode cX8_element 12 = .ok (.aaload, 1) := by decide +kernel
theorem dX8_element_13 : decode cX8_element 13 = .ok (.getfield 92, 3) := by decide +kernel
theorem dX8_element_16 : decode cX8_element 16 = .ok (.ifCond .eq 19, 3) := by decide +kernel
theorem dX8_element_19 : decode cX8_element 19 = .ok (.aload_n 0, 1) := by decide +kernel
theorem dX8_element_20 : decode cX8_element 20 = .ok (.getfield 42, 3) := by decide +kernel
theorem dX8_element_23 : decode cX8_element 23 = .ok (.iload_n 1, 1) := by decide +kernel
theorem dX8_element_24 : decode cX8_element 24 = .ok (.aaload, 1) := by decide +kernel
theorem dX8_element_25 : decode cX8_element 25 = .ok (.getfield 71, 3) := by decide +kernel
theorem dX8_element_28 : decode cX8_element 28 = .ok (.iload_n 2, 1) := by decide +kernel
theorem dX8_element_29 : decode cX8_element 29 = .ok (.invokevirtual 75, 3) := by decide +kernel
theorem dX8_element_32 : decode cX8_element 32 = .ok (.ifCond .ne 5, 3) := by decide +kernel
theorem dX8_element_35 : decode cX8_element 35 = .ok (.lconst 0, 1) := by decide +kernel
theorem dX8_element_36 : decode cX8_element 36 = .ok (.lreturn, 1) := by decide +kernel
theorem dX8_element_37 : decode cX8_element 37 = .ok (.aload_n 0, 1) := by decide +kernel
theorem dX8_element_38 : decode cX8_element 38 = .ok (.getfield 42, 3) := by decide +kernel
theorem dX8_element_41 : decode cX8_element 41 = .ok (.iload_n 1, 1) := by decide +kernel
theorem dX8_element_42 : decode cX8_element 42 = .ok (.aaload, 1) := by decide +kernel
theorem dX8_element_43 : decode cX8_element 43 = .ok (.getfield 71, 3) := by decide +kernel
theorem dX8_element_46 : decode cX8_element 46 = .ok (.getfield 80, 3) := by decide +kernel
theorem dX8_element_49 : decode cX8_element 49 = .ok (.iload_n 2, 1) := by decide +kernel
theorem dX8_element_50 : decode cX8_element 50 = .ok (.laload, 1) := by decide +kernel
theorem dX8_element_51 : decode cX8_element 51 = .ok (.lreturn, 1) := by decide +kernel
theorem dX8_holds_0 : decode cX8_holds 0 = .ok (.iload_n 1, 1) := by decide +kernel
theorem dX8_holds_1 : decode cX8_holds 1 = .ok (.invokestatic 51, 3) := by decide +kernel
theorem dX8_holds_4 : decode cX8_holds 4 = .ok (.ifCond .eq 15, 3) := by decide +kernel
theorem dX8_holds_7 : decode cX8_holds 7 = .ok (.aload_n 0, 1) := by decide +kernel
theorem dX8_holds_8 : decode cX8_holds 8 = .ok (.getfield 42, 3) := by decide +kernel
theorem dX8_holds_11 : decode cX8_holds 11 = .ok (.iload_n 1, 1) := by decide +kernel
theorem dX8_holds_12 : decode cX8_holds 12 = .ok (.aaload, 1) := by decide +kernel
theorem dX8_holds_13 : decode cX8_holds 13 = .ok (.invokevirtual 109, 3) := by decide +kernel
theorem dX8_holds_16 : decode cX8_holds 16 = .ok (.ifCond .eq 5, 3) := by decide +kernel
theorem dX8_holds_19 : decode cX8_holds 19 = .ok (.iconst (-1), 1) := by decide +kernel
theorem dX8_holds_20 : decode cX8_holds 20 = .ok (.ireturn, 1) := by decide +kernel
theorem dX8_holds_21 : decode cX8_holds 21 = .ok (.aload_n 0, 1) := by decide +kernel
theorem dX8_holds_22 : decode cX8_holds 22 = .ok (.getfield 42, 3) := by decide +kernel
theorem dX8_holds_25 : decode cX8_holds 25 = .ok (.iload_n 1, 1) := by decide +kernel
theorem dX8_holds_26 : decode cX8_holds 26 = .ok (.aaload, 1) := by decide +kernel
theorem dX8_holds_27 : decode cX8_holds 27 = .ok (.getfield 92, 3) := by decide +kernel
theorem dX8_holds_30 : decode cX8_holds 30 = .ok (.ifCond .eq 18, 3) := by decide +kernel
theorem dX8_holds_33 : decode cX8_holds 33 = .ok (.aload_n 0, 1) := by decide +kernel
theorem dX8_holds_34 : decode cX8_holds 34 = .ok (.getfield 42, 3) := by decide +kernel
theorem dX8_holds_37 : decode cX8_holds 37 = .ok (.iload_n 1, 1) := by decide +kernel
theorem dX8_holds_38 : decode cX8_holds 38 = .ok (.aaload, 1) := by decide +kernel
theorem dX8_holds_39 : decode cX8_holds 39 = .ok (.getfield 71, 3) := by decide +kernel
theorem dX8_holds_42 : decode cX8_holds 42 = .ok (.getfield 96, 3) := by decide +kernel
theorem dX8_holds_45 : decode cX8_holds 45 = .ok (.goto 15, 3) := by decide +kernel
theorem dX8_holds_48 : decode cX8_holds 48 = .ok (.bipush 10, 2) := by decide +kernel
theorem dX8_holds_50 : decode cX8_holds 50 = .ok (.aload_n 0, 1) := by decide +kernel
theorem dX8_holds_51 : decode cX8_holds 51 = .ok (.getfield 42, 3) := by decide +kernel
theorem dX8_holds_54 : decode cX8_holds 54 = .ok (.iload_n 1, 1) := by decide +kernel
theorem dX8_holds_55 : decode cX8_holds 55 = .ok (.aaload, 1) := by decide +kernel
theorem dX8_holds_56 : decode cX8_holds 56 = .ok (.getfield 88, 3) := by decide +kernel
theorem dX8_holds_59 : decode cX8_holds 59 = .ok (.iadd, 1) := by decide +kernel
theorem dX8_holds_60 : decode cX8_holds 60 = .ok (.ireturn, 1) := by decide +kernel
theorem dX8_show_0 : decode cX8_show 0 = .ok (.iload_n 1, 1) := by decide +kernel
theorem dX8_show_1 : decode cX8_show 1 = .ok (.invokestatic 51, 3) := by decide +kernel
theorem dX8_show_4 : decode cX8_show 4 = .ok (.ifCond .eq 19, 3) := by decide +kernel
theorem dX8_show_7 : decode cX8_show 7 = .ok (.iload_n 2, 1) := by decide +kernel
theorem dX8_show_8 : decode cX8_show 8 = .ok (.iconst (-1), 1) := by decide +kernel
theorem dX8_show_9 : decode cX8_show 9 = .ok (.if_icmp .eq 21, 3) := by decide +kernel
theorem dX8_show_12 : decode cX8_show 12 = .ok (.aload_n 0, 1) := by decide +kernel
theorem dX8_show_13 : decode cX8_show 13 = .ok (.getfield 12, 3) := by decide +kernel
theorem dX8_show_16 : decode cX8_show 16 = .ok (.iload_n 2, 1) := by decide +kernel
theorem dX8_show_17 : decode cX8_show 17 = .ok (.invokevirtual 113, 3) := by decide +kernel
theorem dX8_show_20 : decode cX8_show 20 = .ok (.ifCond .ne 10, 3) := by decide +kernel
theorem dX8_show_23 : decode cX8_show 23 = .ok (.aload_n 0, 1) := by decide +kernel
theorem dX8_show_24 : decode cX8_show 24 = .ok (.bipush (-2), 2) := by decide +kernel
theorem dX8_show_26 : decode cX8_show 26 = .ok (.invokevirtual 59, 3) := by decide +kernel
theorem dX8_show_29 : decode cX8_show 29 = .ok (.ireturn, 1) := by decide +kernel
theorem dX8_show_30 : decode cX8_show 30 = .ok (.aload_n 0, 1) := by decide +kernel
theorem dX8_show_31 : decode cX8_show 31 = .ok (.getfield 42, 3) := by decide +kernel
theorem dX8_show_34 : decode cX8_show 34 = .ok (.iload_n 1, 1) := by decide +kernel
theorem dX8_show_35 : decode cX8_show 35 = .ok (.aaload, 1) := by decide +kernel
theorem dX8_show_36 : decode cX8_show 36 = .ok (.iload_n 2, 1) := by decide +kernel
theorem dX8_show_37 : decode cX8_show 37 = .ok (.invokevirtual 116, 3) := by decide +kernel
theorem dX8_show_40 : decode cX8_show 40 = .ok (.iconst 1, 1) := by decide +kernel
theorem dX8_show_41 : decode cX8_show 41 = .ok (.ireturn, 1) := by decide +kernel
theorem dX8_says_0 : decode cX8_says 0 = .ok (.iload_n 1, 1) := by decide +kernel
theorem dX8_says_1 : decode cX8_says 1 = .ok (.invokestatic 51, 3) := by decide +kernel
theorem dX8_says_4 : decode cX8_says 4 = .ok (.ifCond .eq 10, 3) := by decide +kernel
theorem dX8_says_7 : decode cX8_says 7 = .ok (.iload_n 2, 1) := by decide +kernel
theorem dX8_says_8 : decode cX8_says 8 = .ok (.invokestatic 120, 3) := by decide +kernel
theorem dX8_says_11 : decode cX8_says 11 = .ok (.ifCond .ne 10, 3) := by decide +kernel
theorem dX8_says_14 : decode cX8_says 14 = .ok (.aload_n 0, 1) := by decide +kernel
theorem dX8_says_15 : decode cX8_says 15 = .ok (.bipush (-2), 2) := by decide +kernel
theorem dX8_says_17 : decode cX8_says 17 = .ok (.invokevirtual 59, 3) := by decide +kernel
theorem dX8_says_20 : decode cX8_says 20 = .ok (.ireturn, 1) := by decide +kernel
theorem dX8_says_21 : decode cX8_says 21 = .ok (.aload_n 0, 1) := by decide +kernel
theorem dX8_says_22 : decode cX8_says 22 = .ok (.getfield 42, 3) := by decide +kernel
theorem dX8_says_25 : decode cX8_says 25 = .ok (.iload_n 1, 1) := by decide +kernel
theorem dX8_says_26 : decode cX8_says 26 = .ok (.aaload, 1) := by decide +kernel
theorem dX8_says_27 : decode cX8_says 27 = .ok (.astore_n 3, 1) := by decide +kernel
theorem dX8_says_28 : decode cX8_says 28 = .ok (.aload_n 3, 1) := by decide +kernel
theorem dX8_says_29 : decode cX8_says 29 = .ok (.getfield 92, 3) := by decide +kernel
theorem dX8_says_32 : decode cX8_says 32 = .ok (.ifCond .eq 10, 3) := by decide +kernel
theorem dX8_says_35 : decode cX8_says 35 = .ok (.aload_n 0, 1) := by decide +kernel
theorem dX8_says_36 : decode cX8_says 36 = .ok (.bipush (-3), 2) := by decide +kernel
theorem dX8_says_38 : decode cX8_says 38 = .ok (.invokevirtual 59, 3) := by decide +kernel
theorem dX8_says_41 : decode cX8_says 41 = .ok (.ireturn, 1) := by decide +kernel
theorem dX8_says_42 : decode cX8_says 42 = .ok (.aload_n 0, 1) := by decide +kernel
theorem dX8_says_43 : decode cX8_says 43 = .ok (.getfield 12, 3) := by decide +kernel
theorem dX8_says_46 : decode cX8_says 46 = .ok (.aload_n 3, 1) := by decide +kernel
theorem dX8_says_47 : decode cX8_says 47 = .ok (.getfield 88, 3) := by decide +kernel
theorem dX8_says_50 : decode cX8_says 50 = .ok (.invokevirtual 113, 3) := by decide +kernel
theorem dX8_says_53 : decode cX8_says 53 = .ok (.ifCond .ne 10, 3) := by decide +kernel
theorem dX8_says_56 : decode cX8_says 56 = .ok (.aload_n 0, 1) := by decide +kernel
theorem dX8_says_57 : decode cX8_says 57 = .ok (.bipush (-4), 2) := by decide +kernel
theorem dX8_says_59 : decode cX8_says 59 = .ok (.invokevirtual 59, 3) := by decide +kernel
theorem dX8_says_62 : decode cX8_says 62 = .ok (.ireturn, 1) := by decide +kernel
theorem dX8_says_63 : decode cX8_says 63 = .ok (.aload_n 0, 1) := by decide +kernel
theorem dX8_says_64 : decode cX8_says 64 = .ok (.getfield 12, 3) := by decide +kernel
theorem dX8_says_67 : decode cX8_says 67 = .ok (.getfield 123, 3) := by decide +kernel
theorem dX8_says_70 : decode cX8_says 70 = .ok (.aload_n 3, 1) := by decide +kernel
theorem dX8_says_71 : decode cX8_says 71 = .ok (.getfield 88, 3) := by decide +kernel
theorem dX8_says_74 : decode cX8_says 74 = .ok (.aaload, 1) := by decide +kernel
theorem dX8_says_75 : decode cX8_says 75 = .ok (.astore 4, 2) := by decide +kernel
theorem dX8_says_77 : decode cX8_says 77 = .ok (.aload 4, 2) := by decide +kernel
theorem dX8_says_79 : decode cX8_says 79 = .ok (.iload_n 2, 1) := by decide +kernel
theorem dX8_says_80 : decode cX8_says 80 = .ok (.invokevirtual 127, 3) := by decide +kernel
theorem dX8_says_83 : decode cX8_says 83 = .ok (.ifCond .ne 10, 3) := by decide +kernel
theorem dX8_says_86 : decode cX8_says 86 = .ok (.aload_n 0, 1) := by decide +kernel
theorem dX8_says_87 : decode cX8_says 87 = .ok (.bipush (-3), 2) := by decide +kernel
theorem dX8_says_89 : decode cX8_says 89 = .ok (.invokevirtual 59, 3) := by decide +kernel
theorem dX8_says_92 : decode cX8_says 92 = .ok (.ireturn, 1) := by decide +kernel
theorem dX8_says_93 : decode cX8_says 93 = .ok (.iload_n 2, 1) := by decide +kernel
theorem dX8_says_94 : decode cX8_says 94 = .ok (.ifCond .ne 11, 3) := by decide +kernel
theorem dX8_says_97 : decode cX8_says 97 = .ok (.aload 4, 2) := by decide +kernel
theorem dX8_says_99 : decode cX8_says 99 = .ok (.getfield 132, 3) := by decide +kernel
theorem dX8_says_102 : decode cX8_says 102 = .ok (.goto 17, 3) := by decide +kernel
theorem dX8_says_105 : decode cX8_says 105 = .ok (.aload 4, 2) := by decide +kernel
theorem dX8_says_107 : decode cX8_says 107 = .ok (.getfield 135, 3) := by decide +kernel
theorem dX8_says_110 : decode cX8_says 110 = .ok (.aload 4, 2) := by decide +kernel
theorem dX8_says_112 : decode cX8_says 112 = .ok (.getfield 132, 3) := by decide +kernel
theorem dX8_says_115 : decode cX8_says 115 = .ok (.iconst 5, 1) := by decide +kernel
theorem dX8_says_116 : decode cX8_says 116 = .ok (.invokestatic 138, 3) := by decide +kernel
theorem dX8_says_119 : decode cX8_says 119 = .ok (.ireturn, 1) := by decide +kernel
theorem dX8_paves_0 : decode cX8_paves 0 = .ok (.iload_n 1, 1) := by decide +kernel
theorem dX8_paves_1 : decode cX8_paves 1 = .ok (.aload_n 0, 1) := by decide +kernel
theorem dX8_paves_2 : decode cX8_paves 2 = .ok (.getfield 12, 3) := by decide +kernel
theorem dX8_paves_5 : decode cX8_paves 5 = .ok (.getfield 142, 3) := by decide +kernel
theorem dX8_paves_8 : decode cX8_paves 8 = .ok (.bipush 30, 2) := by decide +kernel
theorem dX8_paves_10 : decode cX8_paves 10 = .ok (.invokestatic 55, 3) := by decide +kernel
theorem dX8_paves_13 : decode cX8_paves 13 = .ok (.ifCond .ne 10, 3) := by decide +kernel
theorem dX8_paves_16 : decode cX8_paves 16 = .ok (.aload_n 0, 1) := by decide +kernel
theorem dX8_paves_17 : decode cX8_paves 17 = .ok (.bipush (-2), 2) := by decide +kernel
theorem dX8_paves_19 : decode cX8_paves 19 = .ok (.invokevirtual 59, 3) := by decide +kernel
theorem dX8_paves_22 : decode cX8_paves 22 = .ok (.ireturn, 1) := by decide +kernel
theorem dX8_paves_23 : decode cX8_paves 23 = .ok (.aload_n 0, 1) := by decide +kernel
theorem dX8_paves_24 : decode cX8_paves 24 = .ok (.getfield 12, 3) := by decide +kernel
theorem dX8_paves_27 : decode cX8_paves 27 = .ok (.getfield 142, 3) := by decide +kernel
theorem dX8_paves_30 : decode cX8_paves 30 = .ok (.istore_n 2, 1) := by decide +kernel
theorem dX8_paves_31 : decode cX8_paves 31 = .ok (.aload_n 0, 1) := by decide +kernel
theorem dX8_paves_32 : decode cX8_paves 32 = .ok (.getfield 12, 3) := by decide +kernel
theorem dX8_paves_35 : decode cX8_paves 35 = .ok (.iload_n 1, 1) := by decide +kernel
theorem dX8_paves_36 : decode cX8_paves 36 = .ok (.putfield 142, 3) := by decide +kernel
theorem dX8_paves_39 : decode cX8_paves 39 = .ok (.iload_n 2, 1) := by decide +kernel
theorem dX8_paves_40 : decode cX8_paves 40 = .ok (.ireturn, 1) := by decide +kernel
theorem dX8_window_0 : decode cX8_window 0 = .ok (.aload_n 0, 1) := by decide +kernel
theorem dX8_window_1 : decode cX8_window 1 = .ok (.getfield 12, 3) := by decide +kernel
theorem dX8_window_4 : decode cX8_window 4 = .ok (.iload_n 1, 1) := by decide +kernel
theorem dX8_window_5 : decode cX8_window 5 = .ok (.invokevirtual 145, 3) := by decide +kernel
theorem dX8_window_8 : decode cX8_window 8 = .ok (.ifCond .eq 19, 3) := by decide +kernel
theorem dX8_window_11 : decode cX8_window 11 = .ok (.iload_n 2, 1) := by decide +kernel
theorem dX8_window_12 : decode cX8_window 12 = .ok (.iconst 1, 1) := by decide +kernel
theorem dX8_window_13 : decode cX8_window 13 = .ok (.iconst 5, 1) := by decide +kernel
theorem dX8_window_14 : decode cX8_window 14 = .ok (.invokestatic 55, 3) := by decide +kernel
theorem dX8_window_17 : decode cX8_window 17 = .ok (.ifCond .eq 10, 3) := by decide +kernel
theorem dX8_window_20 : decode cX8_window 20 = .ok (.iload_n 3, 1) := by decide +kernel
theorem dX8_window_21 : decode cX8_window 21 = .ok (.invokestatic 148, 3) := by decide +kernel
theorem dX8_window_24 : decode cX8_window 24 = .ok (.ifCond .ne 10, 3) := by decide +kernel
theorem dX8_window_27 : decode cX8_window 27 = .ok (.aload_n 0, 1) := by decide +kernel
theorem dX8_window_28 : decode cX8_window 28 = .ok (.bipush (-2), 2) := by decide +kernel
theorem dX8_window_30 : decode cX8_window 30 = .ok (.invokevirtual 59, 3) := by decide +kernel
theorem dX8_window_33 : decode cX8_window 33 = .ok (.ireturn, 1) := by decide +kernel
theorem dX8_window_34 : decode cX8_window 34 = .ok (.aload_n 0, 1) := by decide +kernel
theorem dX8_window_35 : decode cX8_window 35 = .ok (.getfield 12, 3) := by decide +kernel
theorem dX8_window_38 : decode cX8_window 38 = .ok (.invokevirtual 151, 3) := by decide +kernel
theorem dX8_window_41 : decode cX8_window 41 = .ok (.ifCond .ne 10, 3) := by decide +kernel
theorem dX8_window_44 : decode cX8_window 44 = .ok (.aload_n 0, 1) := by decide +kernel
theorem dX8_window_45 : decode cX8_window 45 = .ok (.bipush (-6), 2) := by decide +kernel
theorem dX8_window_47 : decode cX8_window 47 = .ok (.invokevirtual 59, 3) := by decide +kernel
theorem dX8_window_50 : decode cX8_window 50 = .ok (.ireturn, 1) := by decide +kernel
theorem dX8_window_51 : decode cX8_window 51 = .ok (.aload_n 0, 1) := by decide +kernel
theorem dX8_window_52 : decode cX8_window 52 = .ok (.getfield 12, 3) := by decide +kernel
theorem dX8_window_55 : decode cX8_window 55 = .ok (.iload_n 1, 1) := by decide +kernel
theorem dX8_window_56 : decode cX8_window 56 = .ok (.iload_n 2, 1) := by decide +kernel
theorem dX8_window_57 : decode cX8_window 57 = .ok (.iload_n 3, 1) := by decide +kernel
theorem dX8_window_58 : decode cX8_window 58 = .ok (.invokevirtual 154, 3) := by decide +kernel
theorem dX8_window_61 : decode cX8_window 61 = .ok (.ireturn, 1) := by decide +kernel
theorem dX8_person_0 : decode cX8_person 0 = .ok (.iload_n 1, 1) := by decide +kernel
theorem dX8_person_1 : decode cX8_person 1 = .ok (.invokestatic 120, 3) := by decide +kernel
theorem dX8_person_4 : decode cX8_person 4 = .ok (.ifCond .eq 24, 3) := by decide +kernel
theorem dX8_person_7 : decode cX8_person 7 = .ok (.iload_n 2, 1) := by decide +kernel
theorem dX8_person_8 : decode cX8_person 8 = .ok (.iconst 0, 1) := by decide +kernel
theorem dX8_person_9 : decode cX8_person 9 = .ok (.bipush 9, 2) := by decide +kernel
theorem dX8_person_11 : decode cX8_person 11 = .ok (.invokestatic 55, 3) := by decide +kernel
theorem dX8_person_14 : decode cX8_person 14 = .ok (.ifCond .eq 14, 3) := by decide +kernel
theorem dX8_person_17 : decode cX8_person 17 = .ok (.aload_n 0, 1) := by decide +kernel
theorem dX8_person_18 : decode cX8_person 18 = .ok (.getfield 12, 3) := by decide +kernel
theorem dX8_person_21 : decode cX8_person 21 = .ok (.iload_n 3, 1) := by decide +kernel
theorem dX8_person_22 : decode cX8_person 22 = .ok (.invokevirtual 145, 3) := by decide +kernel
theorem dX8_person_25 : decode cX8_person 25 = .ok (.ifCond .ne 10, 3) := by decide +kernel
theorem dX8_person_28 : decode cX8_person 28 = .ok (.aload_n 0, 1) := by decide +kernel
theorem dX8_person_29 : decode cX8_person 29 = .ok (.bipush (-2), 2) := by decide +kernel
theorem dX8_person_31 : decode cX8_person 31 = .ok (.invokevirtual 59, 3) := by decide +kernel
theorem dX8_person_34 : decode cX8_person 34 = .ok (.ireturn, 1) := by decide +kernel
theorem dX8_person_35 : decode cX8_person 35 = .ok (.aload_n 0, 1) := by decide +kernel
theorem dX8_person_36 : decode cX8_person 36 = .ok (.getfield 12, 3) := by decide +kernel
theorem dX8_person_39 : decode cX8_person 39 = .ok (.invokevirtual 157, 3) := by decide +kernel
theorem dX8_person_42 : decode cX8_person 42 = .ok (.ifCond .ne 10, 3) := by decide +kernel
theorem dX8_person_45 : decode cX8_person 45 = .ok (.aload_n 0, 1) := by decide +kernel
theorem dX8_person_46 : decode cX8_person 46 = .ok (.bipush (-6), 2) := by decide +kernel
theorem dX8_person_48 : decode cX8_person 48 = .ok (.invokevirtual 59, 3) := by decide +kernel
theorem dX8_person_51 : decode cX8_person 51 = .ok (.ireturn, 1) := by decide +kernel
theorem dX8_person_52 : decode cX8_person 52 = .ok (.aload_n 0, 1) := by decide +kernel
theorem dX8_person_53 : decode cX8_person 53 = .ok (.getfield 12, 3) := by decide +kernel
theorem dX8_person_56 : decode cX8_person 56 = .ok (.iload_n 1, 1) := by decide +kernel
theorem dX8_person_57 : decode cX8_person 57 = .ok (.iload_n 2, 1) := by decide +kernel
theorem dX8_person_58 : decode cX8_person 58 = .ok (.iload_n 3, 1) := by decide +kernel
theorem dX8_person_59 : decode cX8_person 59 = .ok (.invokevirtual 160, 3) := by decide +kernel
theorem dX8_person_62 : decode cX8_person 62 = .ok (.ireturn, 1) := by decide +kernel
theorem dX8_put_0 : decode cX8_put 0 = .ok (.aload_n 0, 1) := by decide +kernel
theorem dX8_put_1 : decode cX8_put 1 = .ok (.getfield 12, 3) := by decide +kernel
theorem dX8_put_4 : decode cX8_put 4 = .ok (.iload_n 1, 1) := by decide +kernel
theorem dX8_put_5 : decode cX8_put 5 = .ok (.invokevirtual 113, 3) := by decide +kernel
theorem dX8_put_8 : decode cX8_put 8 = .ok (.ifCond .eq 14, 3) := by decide +kernel
theorem dX8_put_11 : decode cX8_put 11 = .ok (.aload_n 0, 1) := by decide +kernel
theorem dX8_put_12 : decode cX8_put 12 = .ok (.getfield 12, 3) := by decide +kernel
theorem dX8_put_15 : decode cX8_put 15 = .ok (.iload_n 2, 1) := by decide +kernel
theorem dX8_put_16 : decode cX8_put 16 = .ok (.invokevirtual 145, 3) := by decide +kernel
theorem dX8_put_19 : decode cX8_put 19 = .ok (.ifCond .ne 10, 3) := by decide +kernel
theorem dX8_put_22 : decode cX8_put 22 = .ok (.aload_n 0, 1) := by decide +kernel
theorem dX8_put_23 : decode cX8_put 23 = .ok (.bipush (-2), 2) := by decide +kernel
theorem dX8_put_25 : decode cX8_put 25 = .ok (.invokevirtual 59, 3) := by decide +kernel
theorem dX8_put_28 : decode cX8_put 28 = .ok (.ireturn, 1) := by decide +kernel
theorem dX8_put_29 : decode cX8_put 29 = .ok (.aload_n 0, 1) := by decide +kernel
theorem dX8_put_30 : decode cX8_put 30 = .ok (.getfield 12, 3) := by decide +kernel
theorem dX8_put_33 : decode cX8_put 33 = .ok (.getfield 123, 3) := by decide +kernel
theorem dX8_put_36 : decode cX8_put 36 = .ok (.iload_n 1, 1) := by decide +kernel
theorem dX8_put_37 : decode cX8_put 37 = .ok (.aaload, 1) := by decide +kernel
theorem dX8_put_38 : decode cX8_put 38 = .ok (.getfield 163, 3) := by decide +kernel
theorem dX8_put_41 : decode cX8_put 41 = .ok (.istore_n 3, 1) := by decide +kernel
theorem dX8_put_42 : decode cX8_put 42 = .ok (.aload_n 0, 1) := by decide +kernel
theorem dX8_put_43 : decode cX8_put 43 = .ok (.getfield 12, 3) := by decide +kernel
theorem dX8_put_46 : decode cX8_put 46 = .ok (.getfield 123, 3) := by decide +kernel
theorem dX8_put_49 : decode cX8_put 49 = .ok (.iload_n 1, 1) := by decide +kernel
theorem dX8_put_50 : decode cX8_put 50 = .ok (.aaload, 1) := by decide +kernel
theorem dX8_put_51 : decode cX8_put 51 = .ok (.iload_n 2, 1) := by decide +kernel
theorem dX8_put_52 : decode cX8_put 52 = .ok (.putfield 163, 3) := by decide +kernel
theorem dX8_put_55 : decode cX8_put 55 = .ok (.iload_n 3, 1) := by decide +kernel
theorem dX8_put_56 : decode cX8_put 56 = .ok (.ireturn, 1) := by decide +kernel
theorem dX8_tell_0 : decode cX8_tell 0 = .ok (.iload_n 1, 1) := by decide +kernel
theorem dX8_tell_1 : decode cX8_tell 1 = .ok (.iconst 2, 1) := by decide +kernel
theorem dX8_tell_2 : decode cX8_tell 2 = .ok (.invokestatic 166, 3) := by decide +kernel
theorem dX8_tell_5 : decode cX8_tell 5 = .ok (.ifCond .eq 23, 3) := by decide +kernel
theorem dX8_tell_8 : decode cX8_tell 8 = .ok (.iload_n 2, 1) := by decide +kernel
theorem dX8_tell_9 : decode cX8_tell 9 = .ok (.iconst 0, 1) := by decide +kernel
theorem dX8_tell_10 : decode cX8_tell 10 = .ok (.iload_n 1, 1) := by decide +kernel
theorem dX8_tell_11 : decode cX8_tell 11 = .ok (.ifCond .ne 8, 3) := by decide +kernel
theorem dX8_tell_14 : decode cX8_tell 14 = .ok (.bipush 10, 2) := by decide +kernel
theorem dX8_tell_16 : decode cX8_tell 16 = .ok (.goto 6, 3) := by decide +kernel
theorem dX8_tell_19 : decode cX8_tell 19 = .ok (.sipush 999, 3) := by decide +kernel
theorem dX8_tell_22 : decode cX8_tell 22 = .ok (.invokestatic 55, 3) := by decide +kernel
theorem dX8_tell_25 : decode cX8_tell 25 = .ok (.ifCond .ne 10, 3) := by decide +kernel
theorem dX8_tell_28 : decode cX8_tell 28 = .ok (.aload_n 0, 1) := by decide +kernel
theorem dX8_tell_29 : decode cX8_tell 29 = .ok (.bipush (-2), 2) := by decide +kernel
theorem dX8_tell_31 : decode cX8_tell 31 = .ok (.invokevirtual 59, 3) := by decide +kernel
theorem dX8_tell_34 : decode cX8_tell 34 = .ok (.ireturn, 1) := by decide +kernel
theorem dX8_tell_35 : decode cX8_tell 35 = .ok (.iload_n 1, 1) := by decide +kernel
theorem dX8_tell_36 : decode cX8_tell 36 = .ok (.ifCond .ne 22, 3) := by decide +kernel
theorem dX8_tell_39 : decode cX8_tell 39 = .ok (.aload_n 0, 1) := by decide +kernel
theorem dX8_tell_40 : decode cX8_tell 40 = .ok (.getfield 12, 3) := by decide +kernel
theorem dX8_tell_43 : decode cX8_tell 43 = .ok (.getfield 169, 3) := by decide +kernel
theorem dX8_tell_46 : decode cX8_tell 46 = .ok (.istore_n 3, 1) := by decide +kernel
theorem dX8_tell_47 : decode cX8_tell 47 = .ok (.aload_n 0, 1) := by decide +kernel
theorem dX8_tell_48 : decode cX8_tell 48 = .ok (.getfield 12, 3) := by decide +kernel
theorem dX8_tell_51 : decode cX8_tell 51 = .ok (.iload_n 2, 1) := by decide +kernel
theorem dX8_tell_52 : decode cX8_tell 52 = .ok (.putfield 169, 3) := by decide +kernel
theorem dX8_tell_55 : decode cX8_tell 55 = .ok (.goto 43, 3) := by decide +kernel
theorem dX8_tell_58 : decode cX8_tell 58 = .ok (.iload_n 1, 1) := by decide +kernel
theorem dX8_tell_59 : decode cX8_tell 59 = .ok (.iconst 1, 1) := by decide +kernel
theorem dX8_tell_60 : decode cX8_tell 60 = .ok (.if_icmp .ne 22, 3) := by decide +kernel
theorem dX8_tell_63 : decode cX8_tell 63 = .ok (.aload_n 0, 1) := by decide +kernel
theorem dX8_tell_64 : decode cX8_tell 64 = .ok (.getfield 12, 3) := by decide +kernel
theorem dX8_tell_67 : decode cX8_tell 67 = .ok (.getfield 172, 3) := by decide +kernel
theorem dX8_tell_70 : decode cX8_tell 70 = .ok (.istore_n 3, 1) := by decide +kernel
theorem dX8_tell_71 : decode cX8_tell 71 = .ok (.aload_n 0, 1) := by decide +kernel
theorem dX8_tell_72 : decode cX8_tell 72 = .ok (.getfield 12, 3) := by decide +kernel
theorem dX8_tell_75 : decode cX8_tell 75 = .ok (.iload_n 2, 1) := by decide +kernel
theorem dX8_tell_76 : decode cX8_tell 76 = .ok (.putfield 172, 3) := by decide +kernel
theorem dX8_tell_79 : decode cX8_tell 79 = .ok (.goto 19, 3) := by decide +kernel
theorem dX8_tell_82 : decode cX8_tell 82 = .ok (.aload_n 0, 1) := by decide +kernel
theorem dX8_tell_83 : decode cX8_tell 83 = .ok (.getfield 12, 3) := by decide +kernel
theorem dX8_tell_86 : decode cX8_tell 86 = .ok (.getfield 175, 3) := by decide +kernel
theorem dX8_tell_89 : decode cX8_tell 89 = .ok (.istore_n 3, 1) := by decide +kernel
theorem dX8_tell_90 : decode cX8_tell 90 = .ok (.aload_n 0, 1) := by decide +kernel
theorem dX8_tell_91 : decode cX8_tell 91 = .ok (.getfield 12, 3) := by decide +kernel
theorem dX8_tell_94 : decode cX8_tell 94 = .ok (.iload_n 2, 1) := by decide +kernel
theorem dX8_tell_95 : decode cX8_tell 95 = .ok (.putfield 175, 3) := by decide +kernel
theorem dX8_tell_98 : decode cX8_tell 98 = .ok (.iload_n 3, 1) := by decide +kernel
theorem dX8_tell_99 : decode cX8_tell 99 = .ok (.ireturn, 1) := by decide +kernel
theorem dX8_feed_0 : decode cX8_feed 0 = .ok (.iload_n 1, 1) := by decide +kernel
theorem dX8_feed_1 : decode cX8_feed 1 = .ok (.iconst 0, 1) := by decide +kernel
theorem dX8_feed_2 : decode cX8_feed 2 = .ok (.sipush 255, 3) := by decide +kernel
theorem dX8_feed_5 : decode cX8_feed 5 = .ok (.invokestatic 55, 3) := by decide +kernel
theorem dX8_feed_8 : decode cX8_feed 8 = .ok (.ifCond .ne 10, 3) := by decide +kernel
theorem dX8_feed_11 : decode cX8_feed 11 = .ok (.aload_n 0, 1) := by decide +kernel
theorem dX8_feed_12 : decode cX8_feed 12 = .ok (.bipush (-2), 2) := by decide +kernel
theorem dX8_feed_14 : decode cX8_feed 14 = .ok (.invokevirtual 59, 3) := by decide +kernel
theorem dX8_feed_17 : decode cX8_feed 17 = .ok (.ireturn, 1) := by decide +kernel
theorem dX8_feed_18 : decode cX8_feed 18 = .ok (.aload_n 0, 1) := by decide +kernel
theorem dX8_feed_19 : decode cX8_feed 19 = .ok (.getfield 36, 3) := by decide +kernel
theorem dX8_feed_22 : decode cX8_feed 22 = .ok (.getfield 178, 3) := by decide +kernel
theorem dX8_feed_25 : decode cX8_feed 25 = .ok (.sipush 250, 3) := by decide +kernel
theorem dX8_feed_28 : decode cX8_feed 28 = .ok (.if_icmp .lt 10, 3) := by decide +kernel
theorem dX8_feed_31 : decode cX8_feed 31 = .ok (.aload_n 0, 1) := by decide +kernel
theorem dX8_feed_32 : decode cX8_feed 32 = .ok (.bipush (-6), 2) := by decide +kernel
theorem dX8_feed_34 : decode cX8_feed 34 = .ok (.invokevirtual 59, 3) := by decide +kernel
theorem dX8_feed_37 : decode cX8_feed 37 = .ok (.ireturn, 1) := by decide +kernel
theorem dX8_feed_38 : decode cX8_feed 38 = .ok (.aload_n 0, 1) := by decide +kernel
theorem dX8_feed_39 : decode cX8_feed 39 = .ok (.getfield 36, 3) := by decide +kernel
theorem dX8_feed_42 : decode cX8_feed 42 = .ok (.getfield 181, 3) := by decide +kernel
theorem dX8_feed_45 : decode cX8_feed 45 = .ok (.aload_n 0, 1) := by decide +kernel
theorem dX8_feed_46 : decode cX8_feed 46 = .ok (.getfield 36, 3) := by decide +kernel
theorem dX8_feed_49 : decode cX8_feed 49 = .ok (.getfield 178, 3) := by decide +kernel
theorem dX8_feed_52 : decode cX8_feed 52 = .ok (.iload_n 1, 1) := by decide +kernel
theorem dX8_feed_53 : decode cX8_feed 53 = .ok (.iastore, 1) := by decide +kernel
theorem dX8_feed_54 : decode cX8_feed 54 = .ok (.aload_n 0, 1) := by decide +kernel
theorem dX8_feed_55 : decode cX8_feed 55 = .ok (.getfield 36, 3) := by decide +kernel
theorem dX8_feed_58 : decode cX8_feed 58 = .ok (.dup, 1) := by decide +kernel
theorem dX8_feed_59 : decode cX8_feed 59 = .ok (.getfield 178, 3) := by decide +kernel
theorem dX8_feed_62 : decode cX8_feed 62 = .ok (.iconst 1, 1) := by decide +kernel
theorem dX8_feed_63 : decode cX8_feed 63 = .ok (.iadd, 1) := by decide +kernel
theorem dX8_feed_64 : decode cX8_feed 64 = .ok (.putfield 178, 3) := by decide +kernel
theorem dX8_feed_67 : decode cX8_feed 67 = .ok (.aload_n 0, 1) := by decide +kernel
theorem dX8_feed_68 : decode cX8_feed 68 = .ok (.getfield 36, 3) := by decide +kernel
theorem dX8_feed_71 : decode cX8_feed 71 = .ok (.getfield 178, 3) := by decide +kernel
theorem dX8_feed_74 : decode cX8_feed 74 = .ok (.ireturn, 1) := by decide +kernel
theorem dX8_wipe_0 : decode cX8_wipe 0 = .ok (.aload_n 0, 1) := by decide +kernel
theorem dX8_wipe_1 : decode cX8_wipe 1 = .ok (.getfield 36, 3) := by decide +kernel
theorem dX8_wipe_4 : decode cX8_wipe 4 = .ok (.getfield 178, 3) := by decide +kernel
theorem dX8_wipe_7 : decode cX8_wipe 7 = .ok (.istore_n 1, 1) := by decide +kernel
theorem dX8_wipe_8 : decode cX8_wipe 8 = .ok (.aload_n 0, 1) := by decide +kernel
theorem dX8_wipe_9 : decode cX8_wipe 9 = .ok (.getfield 36, 3) := by decide +kernel
theorem dX8_wipe_12 : decode cX8_wipe 12 = .ok (.iconst 0, 1) := by decide +kernel
theorem dX8_wipe_13 : decode cX8_wipe 13 = .ok (.putfield 178, 3) := by decide +kernel
theorem dX8_wipe_16 : decode cX8_wipe 16 = .ok (.iload_n 1, 1) := by decide +kernel
theorem dX8_wipe_17 : decode cX8_wipe 17 = .ok (.ireturn, 1) := by decide +kernel
theorem dX8_street_0 : decode cX8_street 0 = .ok (.aload_n 0, 1) := by decide +kernel
theorem dX8_street_1 : decode cX8_street 1 = .ok (.getfield 36, 3) := by decide +kernel
theorem dX8_street_4 : decode cX8_street 4 = .ok (.getfield 184, 3) := by decide +kernel
theorem dX8_street_7 : decode cX8_street 7 = .ok (.aload_n 0, 1) := by decide +kernel
theorem dX8_street_8 : decode cX8_street 8 = .ok (.getfield 12, 3) := by decide +kernel
theorem dX8_street_11 : decode cX8_street 11 = .ok (.invokevirtual 187, 3) := by decide +kernel
theorem dX8_street_14 : decode cX8_street 14 = .ok (.aload_n 0, 1) := by decide +kernel
theorem dX8_street_15 : decode cX8_street 15 = .ok (.getfield 36, 3) := by decide +kernel
theorem dX8_street_18 : decode cX8_street 18 = .ok (.invokevirtual 191, 3) := by decide +kernel
theorem dX8_street_21 : decode cX8_street 21 = .ok (.istore_n 1, 1) := by decide +kernel
theorem dX8_street_22 : decode cX8_street 22 = .ok (.aload_n 0, 1) := by decide +kernel
theorem dX8_street_23 : decode cX8_street 23 = .ok (.getfield 36, 3) := by decide +kernel
theorem dX8_street_26 : decode cX8_street 26 = .ok (.iconst 0, 1) := by decide +kernel
theorem dX8_street_27 : decode cX8_street 27 = .ok (.putfield 178, 3) := by decide +kernel
theorem dX8_street_30 : decode cX8_street 30 = .ok (.iload_n 1, 1) := by decide +kernel
theorem dX8_street_31 : decode cX8_street 31 = .ok (.iconst (-1), 1) := by decide +kernel
theorem dX8_street_32 : decode cX8_street 32 = .ok (.if_icmp .ne 21, 3) := by decide +kernel
theorem dX8_street_35 : decode cX8_street 35 = .ok (.aload_n 0, 1) := by decide +kernel
theorem dX8_street_36 : decode cX8_street 36 = .ok (.bipush (-2), 2) := by decide +kernel
theorem dX8_street_38 : decode cX8_street 38 = .ok (.invokevirtual 59, 3) := by decide +kernel
theorem dX8_street_41 : decode cX8_street 41 = .ok (.pop, 1) := by decide +kernel
theorem dX8_street_42 : decode cX8_street 42 = .ok (.bipush (-20), 2) := by decide +kernel
theorem dX8_street_44 : decode cX8_street 44 = .ok (.aload_n 0, 1) := by decide +kernel
theorem dX8_street_45 : decode cX8_street 45 = .ok (.getfield 36, 3) := by decide +kernel
theorem dX8_street_48 : decode cX8_street 48 = .ok (.invokevirtual 195, 3) := by decide +kernel
theorem dX8_street_51 : decode cX8_street 51 = .ok (.isub, 1) := by decide +kernel
theorem dX8_street_52 : decode cX8_street 52 = .ok (.ireturn, 1) := by decide +kernel
theorem dX8_street_53 : decode cX8_street 53 = .ok (.aload_n 0, 1) := by decide +kernel
theorem dX8_street_54 : decode cX8_street 54 = .ok (.getfield 12, 3) := by decide +kernel
theorem dX8_street_57 : decode cX8_street 57 = .ok (.aload_n 0, 1) := by decide +kernel
theorem dX8_street_58 : decode cX8_street 58 = .ok (.getfield 36, 3) := by decide +kernel
theorem dX8_street_61 : decode cX8_street 61 = .ok (.getfield 184, 3) := by decide +kernel
theorem dX8_street_64 : decode cX8_street 64 = .ok (.invokevirtual 187, 3) := by decide +kernel
theorem dX8_street_67 : decode cX8_street 67 = .ok (.iload_n 1, 1) := by decide +kernel
theorem dX8_street_68 : decode cX8_street 68 = .ok (.ireturn, 1) := by decide +kernel
theorem dX8_personOf_0 : decode cX8_personOf 0 = .ok (.aload_n 0, 1) := by decide +kernel
theorem dX8_personOf_1 : decode cX8_personOf 1 = .ok (.getfield 12, 3) := by decide +kernel
theorem dX8_personOf_4 : decode cX8_personOf 4 = .ok (.iload_n 1, 1) := by decide +kernel
theorem dX8_personOf_5 : decode cX8_personOf 5 = .ok (.invokevirtual 113, 3) := by decide +kernel
theorem dX8_personOf_8 : decode cX8_personOf 8 = .ok (.ifCond .eq 11, 3) := by decide +kernel
theorem dX8_personOf_11 : decode cX8_personOf 11 = .ok (.iload_n 2, 1) := by decide +kernel
theorem dX8_personOf_12 : decode cX8_personOf 12 = .ok (.iconst 5, 1) := by decide +kernel
theorem dX8_personOf_13 : decode cX8_personOf 13 = .ok (.invokestatic 166, 3) := by decide +kernel
theorem dX8_personOf_16 : decode cX8_personOf 16 = .ok (.ifCond .ne 10, 3) := by decide +kernel
theorem dX8_personOf_19 : decode cX8_personOf 19 = .ok (.aload_n 0, 1) := by decide +kernel
theorem dX8_personOf_20 : decode cX8_personOf 20 = .ok (.bipush (-2), 2) := by decide +kernel
theorem dX8_personOf_22 : decode cX8_personOf 22 = .ok (.invokevirtual 59, 3) := by decide +kernel
theorem dX8_personOf_25 : decode cX8_personOf 25 = .ok (.ireturn, 1) := by decide +kernel
theorem dX8_personOf_26 : decode cX8_personOf 26 = .ok (.aload_n 0, 1) := by decide +kernel
theorem dX8_personOf_27 : decode cX8_personOf 27 = .ok (.getfield 12, 3) := by decide +kernel
theorem dX8_personOf_30 : decode cX8_personOf 30 = .ok (.getfield 123, 3) := by decide +kernel
theorem dX8_personOf_33 : decode cX8_personOf 33 = .ok (.iload_n 1, 1) := by decide +kernel
theorem dX8_personOf_34 : decode cX8_personOf 34 = .ok (.aaload, 1) := by decide +kernel
theorem dX8_personOf_35 : decode cX8_personOf 35 = .ok (.astore_n 3, 1) := by decide +kernel
theorem dX8_personOf_36 : decode cX8_personOf 36 = .ok (.iload_n 2, 1) := by decide +kernel
theorem dX8_personOf_37 : decode cX8_personOf 37 = .ok (.tableswitch 60 0 4 #[35, 40, 45, 50, 55], 35) := by decide +kernel
theorem dX8_personOf_72 : decode cX8_personOf 72 = .ok (.aload_n 3, 1) := by decide +kernel
theorem dX8_personOf_73 : decode cX8_personOf 73 = .ok (.getfield 135, 3) := by decide +kernel
theorem dX8_personOf_76 : decode cX8_personOf 76 = .ok (.ireturn, 1) := by decide +kernel
theorem dX8_personOf_77 : decode cX8_personOf 77 = .ok (.aload_n 3, 1) := by decide +kernel
theorem dX8_personOf_78 : decode cX8_personOf 78 = .ok (.getfield 132, 3) := by decide +kernel
theorem dX8_personOf_81 : decode cX8_personOf 81 = .ok (.ireturn, 1) := by decide +kernel
theorem dX8_personOf_82 : decode cX8_personOf 82 = .ok (.aload_n 3, 1) := by decide +kernel
theorem dX8_personOf_83 : decode cX8_personOf 83 = .ok (.getfield 163, 3) := by decide +kernel
theorem dX8_personOf_86 : decode cX8_personOf 86 = .ok (.ireturn, 1) := by decide +kernel
theorem dX8_personOf_87 : decode cX8_personOf 87 = .ok (.aload_n 3, 1) := by decide +kernel
theorem dX8_personOf_88 : decode cX8_personOf 88 = .ok (.getfield 198, 3) := by decide +kernel
theorem dX8_personOf_91 : decode cX8_personOf 91 = .ok (.ireturn, 1) := by decide +kernel
theorem dX8_personOf_92 : decode cX8_personOf 92 = .ok (.aload_n 3, 1) := by decide +kernel
theorem dX8_personOf_93 : decode cX8_personOf 93 = .ok (.getfield 201, 3) := by decide +kernel
theorem dX8_personOf_96 : decode cX8_personOf 96 = .ok (.ireturn, 1) := by decide +kernel
theorem dX8_personOf_97 : decode cX8_personOf 97 = .ok (.aload_n 3, 1) := by decide +kernel
theorem dX8_personOf_98 : decode cX8_personOf 98 = .ok (.invokevirtual 204, 3) := by decide +kernel
theorem dX8_personOf_101 : decode cX8_personOf 101 = .ok (.ireturn, 1) := by decide +kernel
theorem dX8_windowOf_0 : decode cX8_windowOf 0 = .ok (.aload_n 0, 1) := by decide +kernel
theorem dX8_windowOf_1 : decode cX8_windowOf 1 = .ok (.getfield 12, 3) := by decide +kernel
theorem dX8_windowOf_4 : decode cX8_windowOf 4 = .ok (.iload_n 1, 1) := by decide +kernel
theorem dX8_windowOf_5 : decode cX8_windowOf 5 = .ok (.invokevirtual 207, 3) := by decide +kernel
theorem dX8_windowOf_8 : decode cX8_windowOf 8 = .ok (.ifCond .eq 11, 3) := by decide +kernel
theorem dX8_windowOf_11 : decode cX8_windowOf 11 = .ok (.iload_n 2, 1) := by decide +kernel
theorem dX8_windowOf_12 : decode cX8_windowOf 12 = .ok (.iconst 2, 1) := by decide +kernel
theorem dX8_windowOf_13 : decode cX8_windowOf 13 = .ok (.invokestatic 166, 3) := by decide +kernel
theorem dX8_windowOf_16 : decode cX8_windowOf 16 = .ok (.ifCond .ne 10, 3) := by decide +kernel
theorem dX8_windowOf_19 : decode cX8_windowOf 19 = .ok (.aload_n 0, 1) := by decide +kernel
theorem dX8_windowOf_20 : decode cX8_windowOf 20 = .ok (.bipush (-2), 2) := by decide +kernel
theorem dX8_windowOf_22 : decode cX8_windowOf 22 = .ok (.invokevirtual 59, 3) := by decide +kernel
theorem dX8_windowOf_25 : decode cX8_windowOf 25 = .ok (.ireturn, 1) := by decide +kernel
theorem dX8_windowOf_26 : decode cX8_windowOf 26 = .ok (.aload_n 0, 1) := by decide +kernel
theorem dX8_windowOf_27 : decode cX8_windowOf 27 = .ok (.getfield 12, 3) := by decide +kernel
theorem dX8_windowOf_30 : decode cX8_windowOf 30 = .ok (.getfield 210, 3) := by decide +kernel
theorem dX8_windowOf_33 : decode cX8_windowOf 33 = .ok (.iload_n 1, 1) := by decide +kernel
theorem dX8_windowOf_34 : decode cX8_windowOf 34 = .ok (.aaload, 1) := by decide +kernel
theorem dX8_windowOf_35 : decode cX8_windowOf 35 = .ok (.astore_n 3, 1) := by decide +kernel
theorem dX8_windowOf_36 : decode cX8_windowOf 36 = .ok (.iload_n 2, 1) := by decide +kernel
theorem dX8_windowOf_37 : decode cX8_windowOf 37 = .ok (.ifCond .ne 8, 3) := by decide +kernel
theorem dX8_windowOf_40 : decode cX8_windowOf 40 = .ok (.aload_n 3, 1) := by decide +kernel
theorem dX8_windowOf_41 : decode cX8_windowOf 41 = .ok (.getfield 214, 3) := by decide +kernel
theorem dX8_windowOf_44 : decode cX8_windowOf 44 = .ok (.ireturn, 1) := by decide +kernel
theorem dX8_windowOf_45 : decode cX8_windowOf 45 = .ok (.iload_n 2, 1) := by decide +kernel
theorem dX8_windowOf_46 : decode cX8_windowOf 46 = .ok (.iconst 1, 1) := by decide +kernel
theorem dX8_windowOf_47 : decode cX8_windowOf 47 = .ok (.if_icmp .ne 10, 3) := by decide +kernel
theorem dX8_windowOf_50 : decode cX8_windowOf 50 = .ok (.aload_n 3, 1) := by decide +kernel
theorem dX8_windowOf_51 : decode cX8_windowOf 51 = .ok (.getfield 219, 3) := by decide +kernel
theorem dX8_windowOf_54 : decode cX8_windowOf 54 = .ok (.goto 7, 3) := by decide +kernel
theorem dX8_windowOf_57 : decode cX8_windowOf 57 = .ok (.aload_n 3, 1) := by decide +kernel
theorem dX8_windowOf_58 : decode cX8_windowOf 58 = .ok (.getfield 222, 3) := by decide +kernel
theorem dX8_windowOf_61 : decode cX8_windowOf 61 = .ok (.ireturn, 1) := by decide +kernel
theorem dX8_lands_0 : decode cX8_lands 0 = .ok (.aload_n 0, 1) := by decide +kernel
theorem dX8_lands_1 : decode cX8_lands 1 = .ok (.iload_n 1, 1) := by decide +kernel
theorem dX8_lands_2 : decode cX8_lands 2 = .ok (.iload_n 2, 1) := by decide +kernel
theorem dX8_lands_3 : decode cX8_lands 3 = .ok (.iload_n 3, 1) := by decide +kernel
theorem dX8_lands_4 : decode cX8_lands 4 = .ok (.invokevirtual 225, 3) := by decide +kernel
theorem dX8_lands_7 : decode cX8_lands 7 = .ok (.ifCond .eq 16, 3) := by decide +kernel
theorem dX8_lands_10 : decode cX8_lands 10 = .ok (.aload_n 0, 1) := by decide +kernel
theorem dX8_lands_11 : decode cX8_lands 11 = .ok (.getfield 12, 3) := by decide +kernel
theorem dX8_lands_14 : decode cX8_lands 14 = .ok (.iload_n 1, 1) := by decide +kernel
theorem dX8_lands_15 : decode cX8_lands 15 = .ok (.iload_n 2, 1) := by decide +kernel
theorem dX8_lands_16 : decode cX8_lands 16 = .ok (.iload_n 3, 1) := by decide +kernel
theorem dX8_lands_17 : decode cX8_lands 17 = .ok (.invokevirtual 228, 3) := by decide +kernel
theorem dX8_lands_20 : decode cX8_lands 20 = .ok (.goto 9, 3) := by decide +kernel
theorem dX8_lands_23 : decode cX8_lands 23 = .ok (.aload_n 0, 1) := by decide +kernel
theorem dX8_lands_24 : decode cX8_lands 24 = .ok (.bipush (-2), 2) := by decide +kernel
theorem dX8_lands_26 : decode cX8_lands 26 = .ok (.invokevirtual 59, 3) := by decide +kernel
theorem dX8_lands_29 : decode cX8_lands 29 = .ok (.ireturn, 1) := by decide +kernel
theorem dX8_caught_0 : decode cX8_caught 0 = .ok (.aload_n 0, 1) := by decide +kernel
theorem dX8_caught_1 : decode cX8_caught 1 = .ok (.iload_n 1, 1) := by decide +kernel
theorem dX8_caught_2 : decode cX8_caught 2 = .ok (.iload_n 2, 1) := by decide +kernel
theorem dX8_caught_3 : decode cX8_caught 3 = .ok (.iload_n 3, 1) := by decide +kernel
theorem dX8_caught_4 : decode cX8_caught 4 = .ok (.invokevirtual 225, 3) := by decide +kernel
theorem dX8_caught_7 : decode cX8_caught 7 = .ok (.ifCond .eq 16, 3) := by decide +kernel
theorem dX8_caught_10 : decode cX8_caught 10 = .ok (.aload_n 0, 1) := by decide +kernel
theorem dX8_caught_11 : decode cX8_caught 11 = .ok (.getfield 12, 3) := by decide +kernel
theorem dX8_caught_14 : decode cX8_caught 14 = .ok (.iload_n 1, 1) := by decide +kernel
theorem dX8_caught_15 : decode cX8_caught 15 = .ok (.iload_n 2, 1) := by decide +kernel
theorem dX8_caught_16 : decode cX8_caught 16 = .ok (.iload_n 3, 1) := by decide +kernel
theorem dX8_caught_17 : decode cX8_caught 17 = .ok (.invokevirtual 231, 3) := by decide +kernel
theorem dX8_caught_20 : decode cX8_caught 20 = .ok (.goto 9, 3) := by decide +kernel
theorem dX8_caught_23 : decode cX8_caught 23 = .ok (.aload_n 0, 1) := by decide +kernel
theorem dX8_caught_24 : decode cX8_caught 24 = .ok (.bipush (-2), 2) := by decide +kernel
theorem dX8_caught_26 : decode cX8_caught 26 = .ok (.invokevirtual 59, 3) := by decide +kernel
theorem dX8_caught_29 : decode cX8_caught 29 = .ok (.ireturn, 1) := by decide +kernel
theorem dX8_slow_0 : decode cX8_slow 0 = .ok (.aload_n 0, 1) := by decide +kernel
theorem dX8_slow_1 : decode cX8_slow 1 = .ok (.iload_n 1, 1) := by decide +kernel
theorem dX8_slow_2 : decode cX8_slow 2 = .ok (.iload_n 2, 1) := by decide +kernel
theorem dX8_slow_3 : decode cX8_slow 3 = .ok (.invokevirtual 234, 3) := by decide +kernel
theorem dX8_slow_6 : decode cX8_slow 6 = .ok (.ifCond .eq 15, 3) := by decide +kernel
theorem dX8_slow_9 : decode cX8_slow 9 = .ok (.aload_n 0, 1) := by decide +kernel
theorem dX8_slow_10 : decode cX8_slow 10 = .ok (.getfield 12, 3) := by decide +kernel
theorem dX8_slow_13 : decode cX8_slow 13 = .ok (.iload_n 1, 1) := by decide +kernel
theorem dX8_slow_14 : decode cX8_slow 14 = .ok (.iload_n 2, 1) := by decide +kernel
theorem dX8_slow_15 : decode cX8_slow 15 = .ok (.invokevirtual 237, 3) := by decide +kernel
theorem dX8_slow_18 : decode cX8_slow 18 = .ok (.goto 9, 3) := by decide +kernel
theorem dX8_slow_21 : decode cX8_slow 21 = .ok (.aload_n 0, 1) := by decide +kernel
theorem dX8_slow_22 : decode cX8_slow 22 = .ok (.bipush (-2), 2) := by decide +kernel
theorem dX8_slow_24 : decode cX8_slow 24 = .ok (.invokevirtual 59, 3) := by decide +kernel
theorem dX8_slow_27 : decode cX8_slow 27 = .ok (.ireturn, 1) := by decide +kernel
theorem dX8_comes_0 : decode cX8_comes 0 = .ok (.aload_n 0, 1) := by decide +kernel
theorem dX8_comes_1 : decode cX8_comes 1 = .ok (.iload_n 1, 1) := by decide +kernel
theorem dX8_comes_2 : decode cX8_comes 2 = .ok (.iload_n 2, 1) := by decide +kernel
theorem dX8_comes_3 : decode cX8_comes 3 = .ok (.invokevirtual 234, 3) := by decide +kernel
theorem dX8_comes_6 : decode cX8_comes 6 = .ok (.ifCond .ne 10, 3) := by decide +kernel
theorem dX8_comes_9 : decode cX8_comes 9 = .ok (.aload_n 0, 1) := by decide +kernel
theorem dX8_comes_10 : decode cX8_comes 10 = .ok (.bipush (-2), 2) := by decide +kernel
theorem dX8_comes_12 : decode cX8_comes 12 = .ok (.invokevirtual 59, 3) := by decide +kernel
theorem dX8_comes_15 : decode cX8_comes 15 = .ok (.ireturn, 1) := by decide +kernel
theorem dX8_comes_16 : decode cX8_comes 16 = .ok (.aload_n 0, 1) := by decide +kernel
theorem dX8_comes_17 : decode cX8_comes 17 = .ok (.getfield 12, 3) := by decide +kernel
theorem dX8_comes_20 : decode cX8_comes 20 = .ok (.iload_n 1, 1) := by decide +kernel
theorem dX8_comes_21 : decode cX8_comes 21 = .ok (.iload_n 2, 1) := by decide +kernel
theorem dX8_comes_22 : decode cX8_comes 22 = .ok (.invokevirtual 240, 3) := by decide +kernel
theorem dX8_comes_25 : decode cX8_comes 25 = .ok (.iconst (-1), 1) := by decide +kernel
theorem dX8_comes_26 : decode cX8_comes 26 = .ok (.if_icmp .eq 7, 3) := by decide +kernel
theorem dX8_comes_29 : decode cX8_comes 29 = .ok (.iconst 1, 1) := by decide +kernel
theorem dX8_comes_30 : decode cX8_comes 30 = .ok (.goto 4, 3) := by decide +kernel
theorem dX8_comes_33 : decode cX8_comes 33 = .ok (.iconst 0, 1) := by decide +kernel
theorem dX8_comes_34 : decode cX8_comes 34 = .ok (.ireturn, 1) := by decide +kernel
theorem dX8_throwsFor_0 : decode cX8_throwsFor 0 = .ok (.aload_n 0, 1) := by decide +kernel
theorem dX8_throwsFor_1 : decode cX8_throwsFor 1 = .ok (.iload_n 1, 1) := by decide +kernel
theorem dX8_throwsFor_2 : decode cX8_throwsFor 2 = .ok (.iload_n 2, 1) := by decide +kernel
theorem dX8_throwsFor_3 : decode cX8_throwsFor 3 = .ok (.invokevirtual 234, 3) := by decide +kernel
theorem dX8_throwsFor_6 : decode cX8_throwsFor 6 = .ok (.ifCond .eq 11, 3) := by decide +kernel
theorem dX8_throwsFor_9 : decode cX8_throwsFor 9 = .ok (.iload_n 3, 1) := by decide +kernel
theorem dX8_throwsFor_10 : decode cX8_throwsFor 10 = .ok (.iconst 2, 1) := by decide +kernel
theorem dX8_throwsFor_11 : decode cX8_throwsFor 11 = .ok (.invokestatic 166, 3) := by decide +kernel
theorem dX8_throwsFor_14 : decode cX8_throwsFor 14 = .ok (.ifCond .ne 10, 3) := by decide +kernel
theorem dX8_throwsFor_17 : decode cX8_throwsFor 17 = .ok (.aload_n 0, 1) := by decide +kernel
theorem dX8_throwsFor_18 : decode cX8_throwsFor 18 = .ok (.bipush (-2), 2) := by decide +kernel
theorem dX8_throwsFor_20 : decode cX8_throwsFor 20 = .ok (.invokevirtual 59, 3) := by decide +kernel
theorem dX8_throwsFor_23 : decode cX8_throwsFor 23 = .ok (.ireturn, 1) := by decide +kernel
theorem dX8_throwsFor_24 : decode cX8_throwsFor 24 = .ok (.iload_n 3, 1) := by decide +kernel
theorem dX8_throwsFor_25 : decode cX8_throwsFor 25 = .ok (.ifCond .ne 13, 3) := by decide +kernel
theorem dX8_throwsFor_28 : decode cX8_throwsFor 28 = .ok (.aload_n 0, 1) := by decide +kernel
theorem dX8_throwsFor_29 : decode cX8_throwsFor 29 = .ok (.getfield 12, 3) := by decide +kernel
theorem dX8_throwsFor_32 : decode cX8_throwsFor 32 = .ok (.iload_n 1, 1) := by decide +kernel
theorem dX8_throwsFor_33 : decode cX8_throwsFor 33 = .ok (.iload_n 2, 1) := by decide +kernel
theorem dX8_throwsFor_34 : decode cX8_throwsFor 34 = .ok (.invokevirtual 243, 3) := by decide +kernel
theorem dX8_throwsFor_37 : decode cX8_throwsFor 37 = .ok (.ireturn, 1) := by decide +kernel
theorem dX8_throwsFor_38 : decode cX8_throwsFor 38 = .ok (.aload_n 0, 1) := by decide +kernel
theorem dX8_throwsFor_39 : decode cX8_throwsFor 39 = .ok (.getfield 12, 3) := by decide +kernel
theorem dX8_throwsFor_42 : decode cX8_throwsFor 42 = .ok (.iload_n 1, 1) := by decide +kernel
theorem dX8_throwsFor_43 : decode cX8_throwsFor 43 = .ok (.iload_n 2, 1) := by decide +kernel
theorem dX8_throwsFor_44 : decode cX8_throwsFor 44 = .ok (.invokevirtual 246, 3) := by decide +kernel
theorem dX8_throwsFor_47 : decode cX8_throwsFor 47 = .ok (.istore 4, 2) := by decide +kernel
theorem dX8_throwsFor_49 : decode cX8_throwsFor 49 = .ok (.iload 4, 2) := by decide +kernel
theorem dX8_throwsFor_51 : decode cX8_throwsFor 51 = .ok (.iconst (-1), 1) := by decide +kernel
theorem dX8_throwsFor_52 : decode cX8_throwsFor 52 = .ok (.if_icmp .ne 5, 3) := by decide +kernel
theorem dX8_throwsFor_55 : decode cX8_throwsFor 55 = .ok (.iconst (-1), 1) := by decide +kernel
theorem dX8_throwsFor_56 : decode cX8_throwsFor 56 = .ok (.ireturn, 1) := by decide +kernel
theorem dX8_throwsFor_57 : decode cX8_throwsFor 57 = .ok (.iload_n 3, 1) := by decide +kernel
theorem dX8_throwsFor_58 : decode cX8_throwsFor 58 = .ok (.iconst 1, 1) := by decide +kernel
theorem dX8_throwsFor_59 : decode cX8_throwsFor 59 = .ok (.if_icmp .ne 11, 3) := by decide +kernel
theorem dX8_throwsFor_62 : decode cX8_throwsFor 62 = .ok (.iload 4, 2) := by decide +kernel
theorem dX8_throwsFor_64 : decode cX8_throwsFor 64 = .ok (.bipush 10, 2) := by decide +kernel
theorem dX8_throwsFor_66 : decode cX8_throwsFor 66 = .ok (.idiv, 1) := by decide +kernel
theorem dX8_throwsFor_67 : decode cX8_throwsFor 67 = .ok (.goto 8, 3) := by decide +kernel
theorem dX8_throwsFor_70 : decode cX8_throwsFor 70 = .ok (.iload 4, 2) := by decide +kernel
theorem dX8_throwsFor_72 : decode cX8_throwsFor 72 = .ok (.bipush 10, 2) := by decide +kernel
theorem dX8_throwsFor_74 : decode cX8_throwsFor 74 = .ok (.irem, 1) := by decide +kernel
theorem dX8_throwsFor_75 : decode cX8_throwsFor 75 = .ok (.ireturn, 1) := by decide +kernel
theorem dX8_hit_0 : decode cX8_hit 0 = .ok (.aload_n 0, 1) := by decide +kernel
theorem dX8_hit_1 : decode cX8_hit 1 = .ok (.getfield 12, 3) := by decide +kernel
theorem dX8_hit_4 : decode cX8_hit 4 = .ok (.iload_n 1, 1) := by decide +kernel
theorem dX8_hit_5 : decode cX8_hit 5 = .ok (.invokevirtual 207, 3) := by decide +kernel
theorem dX8_hit_8 : decode cX8_hit 8 = .ok (.ifCond .eq 14, 3) := by decide +kernel
theorem dX8_hit_11 : decode cX8_hit 11 = .ok (.aload_n 0, 1) := by decide +kernel
theorem dX8_hit_12 : decode cX8_hit 12 = .ok (.getfield 12, 3) := by decide +kernel
theorem dX8_hit_15 : decode cX8_hit 15 = .ok (.iload_n 1, 1) := by decide +kernel
theorem dX8_hit_16 : decode cX8_hit 16 = .ok (.invokevirtual 249, 3) := by decide +kernel
theorem dX8_hit_19 : decode cX8_hit 19 = .ok (.goto 9, 3) := by decide +kernel
theorem dX8_hit_22 : decode cX8_hit 22 = .ok (.aload_n 0, 1) := by decide +kernel
theorem dX8_hit_23 : decode cX8_hit 23 = .ok (.bipush (-2), 2) := by decide +kernel
theorem dX8_hit_25 : decode cX8_hit 25 = .ok (.invokevirtual 59, 3) := by decide +kernel
theorem dX8_hit_28 : decode cX8_hit 28 = .ok (.ireturn, 1) := by decide +kernel
theorem dX8_open_0 : decode cX8_open 0 = .ok (.aload_n 0, 1) := by decide +kernel
theorem dX8_open_1 : decode cX8_open 1 = .ok (.getfield 12, 3) := by decide +kernel
theorem dX8_open_4 : decode cX8_open 4 = .ok (.iload_n 1, 1) := by decide +kernel
theorem dX8_open_5 : decode cX8_open 5 = .ok (.invokevirtual 207, 3) := by decide +kernel
theorem dX8_open_8 : decode cX8_open 8 = .ok (.ifCond .eq 11, 3) := by decide +kernel
theorem dX8_open_11 : decode cX8_open 11 = .ok (.iload_n 2, 1) := by decide +kernel
theorem dX8_open_12 : decode cX8_open 12 = .ok (.iconst 1, 1) := by decide +kernel
theorem dX8_open_13 : decode cX8_open 13 = .ok (.invokestatic 166, 3) := by decide +kernel
theorem dX8_open_16 : decode cX8_open 16 = .ok (.ifCond .ne 10, 3) := by decide +kernel
theorem dX8_open_19 : decode cX8_open 19 = .ok (.aload_n 0, 1) := by decide +kernel
theorem dX8_open_20 : decode cX8_open 20 = .ok (.bipush (-2), 2) := by decide +kernel
theorem dX8_open_22 : decode cX8_open 22 = .ok (.invokevirtual 59, 3) := by decide +kernel
theorem dX8_open_25 : decode cX8_open 25 = .ok (.ireturn, 1) := by decide +kernel
theorem dX8_open_26 : decode cX8_open 26 = .ok (.iload_n 2, 1) := by decide +kernel
theorem dX8_open_27 : decode cX8_open 27 = .ok (.ifCond .ne 14, 3) := by decide +kernel
theorem dX8_open_30 : decode cX8_open 30 = .ok (.aload_n 0, 1) := by decide +kernel
theorem dX8_open_31 : decode cX8_open 31 = .ok (.getfield 12, 3) := by decide +kernel
theorem dX8_open_34 : decode cX8_open 34 = .ok (.iload_n 1, 1) := by decide +kernel
theorem dX8_open_35 : decode cX8_open 35 = .ok (.invokevirtual 252, 3) := by decide +kernel
theorem dX8_open_38 : decode cX8_open 38 = .ok (.goto 11, 3) := by decide +kernel
theorem dX8_open_41 : decode cX8_open 41 = .ok (.aload_n 0, 1) := by decide +kernel
theorem dX8_open_42 : decode cX8_open 42 = .ok (.invokevirtual 255, 3) := by decide +kernel
theorem dX8_open_45 : decode cX8_open 45 = .ok (.iload_n 1, 1) := by decide +kernel
theorem dX8_open_46 : decode cX8_open 46 = .ok (.invokevirtual 259, 3) := by decide +kernel
theorem dX8_open_49 : decode cX8_open 49 = .ok (.ireturn, 1) := by decide +kernel
theorem dX8_whose_0 : decode cX8_whose 0 = .ok (.aload_n 0, 1) := by decide +kernel
theorem dX8_whose_1 : decode cX8_whose 1 = .ok (.getfield 12, 3) := by decide +kernel
theorem dX8_whose_4 : decode cX8_whose 4 = .ok (.iload_n 1, 1) := by decide +kernel
theorem dX8_whose_5 : decode cX8_whose 5 = .ok (.invokevirtual 113, 3) := by decide +kernel
theorem dX8_whose_8 : decode cX8_whose 8 = .ok (.ifCond .eq 18, 3) := by decide +kernel
theorem dX8_whose_11 : decode cX8_whose 11 = .ok (.iload_n 2, 1) := by decide +kernel
theorem dX8_whose_12 : decode cX8_whose 12 = .ok (.invokestatic 148, 3) := by decide +kernel
theorem dX8_whose_15 : decode cX8_whose 15 = .ok (.ifCond .eq 11, 3) := by decide +kernel
theorem dX8_whose_18 : decode cX8_whose 18 = .ok (.iload_n 3, 1) := by decide +kernel
theorem dX8_whose_19 : decode cX8_whose 19 = .ok (.iconst 2, 1) := by decide +kernel
theorem dX8_whose_20 : decode cX8_whose 20 = .ok (.invokestatic 166, 3) := by decide +kernel
theorem dX8_whose_23 : decode cX8_whose 23 = .ok (.ifCond .ne 10, 3) := by decide +kernel
theorem dX8_whose_26 : decode cX8_whose 26 = .ok (.aload_n 0, 1) := by decide +kernel
theorem dX8_whose_27 : decode cX8_whose 27 = .ok (.bipush (-2), 2) := by decide +kernel
theorem dX8_whose_29 : decode cX8_whose 29 = .ok (.invokevirtual 59, 3) := by decide +kernel
theorem dX8_whose_32 : decode cX8_whose 32 = .ok (.ireturn, 1) := by decide +kernel
theorem dX8_whose_33 : decode cX8_whose 33 = .ok (.aload_n 0, 1) := by decide +kernel
theorem dX8_whose_34 : decode cX8_whose 34 = .ok (.getfield 12, 3) := by decide +kernel
theorem dX8_whose_37 : decode cX8_whose 37 = .ok (.iload_n 1, 1) := by decide +kernel
theorem dX8_whose_38 : decode cX8_whose 38 = .ok (.iload_n 2, 1) := by decide +kernel
theorem dX8_whose_39 : decode cX8_whose 39 = .ok (.invokevirtual 262, 3) := by decide +kernel
theorem dX8_whose_42 : decode cX8_whose 42 = .ok (.istore 4, 2) := by decide +kernel
theorem dX8_whose_44 : decode cX8_whose 44 = .ok (.iload_n 3, 1) := by decide +kernel
theorem dX8_whose_45 : decode cX8_whose 45 = .ok (.ifCond .ne 6, 3) := by decide +kernel
theorem dX8_whose_48 : decode cX8_whose 48 = .ok (.iload 4, 2) := by decide +kernel
theorem dX8_whose_50 : decode cX8_whose 50 = .ok (.ireturn, 1) := by decide +kernel
theorem dX8_whose_51 : decode cX8_whose 51 = .ok (.iload_n 3, 1) := by decide +kernel
theorem dX8_whose_52 : decode cX8_whose 52 = .ok (.iconst 1, 1) := by decide +kernel
theorem dX8_whose_53 : decode cX8_whose 53 = .ok (.if_icmp .ne 15, 3) := by decide +kernel
theorem dX8_whose_56 : decode cX8_whose 56 = .ok (.aload_n 0, 1) := by decide +kernel
theorem dX8_whose_57 : decode cX8_whose 57 = .ok (.getfield 12, 3) := by decide +kernel
theorem dX8_whose_60 : decode cX8_whose 60 = .ok (.iload 4, 2) := by decide +kernel
theorem dX8_whose_62 : decode cX8_whose 62 = .ok (.invokevirtual 265, 3) := by decide +kernel
theorem dX8_whose_65 : decode cX8_whose 65 = .ok (.goto 12, 3) := by decide +kernel
theorem dX8_whose_68 : decode cX8_whose 68 = .ok (.aload_n 0, 1) := by decide +kernel
theorem dX8_whose_69 : decode cX8_whose 69 = .ok (.getfield 12, 3) := by decide +kernel
theorem dX8_whose_72 : decode cX8_whose 72 = .ok (.iload 4, 2) := by decide +kernel
theorem dX8_whose_74 : decode cX8_whose 74 = .ok (.invokevirtual 268, 3) := by decide +kernel
theorem dX8_whose_77 : decode cX8_whose 77 = .ok (.ireturn, 1) := by decide +kernel
theorem dX8_fond_0 : decode cX8_fond 0 = .ok (.aload_n 0, 1) := by decide +kernel
theorem dX8_fond_1 : decode cX8_fond 1 = .ok (.iload_n 2, 1) := by decide +kernel
theorem dX8_fond_2 : decode cX8_fond 2 = .ok (.iload_n 1, 1) := by decide +kernel
theorem dX8_fond_3 : decode cX8_fond 3 = .ok (.invokevirtual 234, 3) := by decide +kernel
theorem dX8_fond_6 : decode cX8_fond 6 = .ok (.ifCond .eq 15, 3) := by decide +kernel
theorem dX8_fond_9 : decode cX8_fond 9 = .ok (.aload_n 0, 1) := by decide +kernel
theorem dX8_fond_10 : decode cX8_fond 10 = .ok (.getfield 12, 3) := by decide +kernel
theorem dX8_fond_13 : decode cX8_fond 13 = .ok (.iload_n 1, 1) := by decide +kernel
theorem dX8_fond_14 : decode cX8_fond 14 = .ok (.iload_n 2, 1) := by decide +kernel
theorem dX8_fond_15 : decode cX8_fond 15 = .ok (.invokevirtual 271, 3) := by decide +kernel
theorem dX8_fond_18 : decode cX8_fond 18 = .ok (.goto 9, 3) := by decide +kernel
theorem dX8_fond_21 : decode cX8_fond 21 = .ok (.aload_n 0, 1) := by decide +kernel
theorem dX8_fond_22 : decode cX8_fond 22 = .ok (.bipush (-2), 2) := by decide +kernel
theorem dX8_fond_24 : decode cX8_fond 24 = .ok (.invokevirtual 59, 3) := by decide +kernel
theorem dX8_fond_27 : decode cX8_fond 27 = .ok (.ireturn, 1) := by decide +kernel
theorem dX8_pairs_0 : decode cX8_pairs 0 = .ok (.iload_n 1, 1) := by decide +kernel
theorem dX8_pairs_1 : decode cX8_pairs 1 = .ok (.bipush (-2), 2) := by decide +kernel
theorem dX8_pairs_3 : decode cX8_pairs 3 = .ok (.if_icmp .eq 26, 3) := by decide +kernel
theorem dX8_pairs_6 : decode cX8_pairs 6 = .ok (.iload_n 1, 1) := by decide +kernel
theorem dX8_pairs_7 : decode cX8_pairs 7 = .ok (.iconst (-1), 1) := by decide +kernel
theorem dX8_pairs_8 : decode cX8_pairs 8 = .ok (.if_icmp .eq 21, 3) := by decide +kernel
theorem dX8_pairs_11 : decode cX8_pairs 11 = .ok (.aload_n 0, 1) := by decide +kernel
theorem dX8_pairs_12 : decode cX8_pairs 12 = .ok (.getfield 12, 3) := by decide +kernel
theorem dX8_pairs_15 : decode cX8_pairs 15 = .ok (.iload_n 1, 1) := by decide +kernel
theorem dX8_pairs_16 : decode cX8_pairs 16 = .ok (.invokevirtual 207, 3) := by decide +kernel
theorem dX8_pairs_19 : decode cX8_pairs 19 = .ok (.ifCond .ne 10, 3) := by decide +kernel
theorem dX8_pairs_22 : decode cX8_pairs 22 = .ok (.aload_n 0, 1) := by decide +kernel
theorem dX8_pairs_23 : decode cX8_pairs 23 = .ok (.bipush (-2), 2) := by decide +kernel
theorem dX8_pairs_25 : decode cX8_pairs 25 = .ok (.invokevirtual 59, 3) := by decide +kernel
theorem dX8_pairs_28 : decode cX8_pairs 28 = .ok (.ireturn, 1) := by decide +kernel
theorem dX8_pairs_29 : decode cX8_pairs 29 = .ok (.aload_n 0, 1) := by decide +kernel
theorem dX8_pairs_30 : decode cX8_pairs 30 = .ok (.getfield 29, 3) := by decide +kernel
theorem dX8_pairs_33 : decode cX8_pairs 33 = .ok (.aload_n 0, 1) := by decide +kernel
theorem dX8_pairs_34 : decode cX8_pairs 34 = .ok (.getfield 12, 3) := by decide +kernel
theorem dX8_pairs_37 : decode cX8_pairs 37 = .ok (.invokevirtual 274, 3) := by decide +kernel
theorem dX8_pairs_40 : decode cX8_pairs 40 = .ok (.iload_n 1, 1) := by decide +kernel
theorem dX8_pairs_41 : decode cX8_pairs 41 = .ok (.iconst (-1), 1) := by decide +kernel
theorem dX8_pairs_42 : decode cX8_pairs 42 = .ok (.if_icmp .ne 11, 3) := by decide +kernel
theorem dX8_pairs_45 : decode cX8_pairs 45 = .ok (.aload_n 0, 1) := by decide +kernel
theorem dX8_pairs_46 : decode cX8_pairs 46 = .ok (.getfield 29, 3) := by decide +kernel
theorem dX8_pairs_49 : decode cX8_pairs 49 = .ok (.invokevirtual 277, 3) := by decide +kernel
theorem dX8_pairs_52 : decode cX8_pairs 52 = .ok (.ireturn, 1) := by decide +kernel
theorem dX8_pairs_53 : decode cX8_pairs 53 = .ok (.iload_n 1, 1) := by decide +kernel
theorem dX8_pairs_54 : decode cX8_pairs 54 = .ok (.bipush (-2), 2) := by decide +kernel
theorem dX8_pairs_56 : decode cX8_pairs 56 = .ok (.if_icmp .ne 13, 3) := by decide +kernel
theorem dX8_pairs_59 : decode cX8_pairs 59 = .ok (.aload_n 0, 1) := by decide +kernel
theorem dX8_pairs_60 : decode cX8_pairs 60 = .ok (.getfield 29, 3) := by decide +kernel
theorem dX8_pairs_63 : decode cX8_pairs 63 = .ok (.invokevirtual 280, 3) := by decide +kernel
theorem dX8_pairs_66 : decode cX8_pairs 66 = .ok (.goto 12, 3) := by decide +kernel
theorem dX8_pairs_69 : decode cX8_pairs 69 = .ok (.aload_n 0, 1) := by decide +kernel
theorem dX8_pairs_70 : decode cX8_pairs 70 = .ok (.getfield 29, 3) := by decide +kernel
theorem dX8_pairs_73 : decode cX8_pairs 73 = .ok (.getfield 283, 3) := by decide +kernel
theorem dX8_pairs_76 : decode cX8_pairs 76 = .ok (.iload_n 1, 1) := by decide +kernel
theorem dX8_pairs_77 : decode cX8_pairs 77 = .ok (.iaload, 1) := by decide +kernel
theorem dX8_pairs_78 : decode cX8_pairs 78 = .ok (.ireturn, 1) := by decide +kernel
theorem dX8_winds_0 : decode cX8_winds 0 = .ok (.iload_n 2, 1) := by decide +kernel
theorem dX8_winds_1 : decode cX8_winds 1 = .ok (.iconst 0, 1) := by decide +kernel
theorem dX8_winds_2 : decode cX8_winds 2 = .ok (.bipush 20, 2) := by decide +kernel
theorem dX8_winds_4 : decode cX8_winds 4 = .ok (.invokestatic 55, 3) := by decide +kernel
theorem dX8_winds_7 : decode cX8_winds 7 = .ok (.ifCond .ne 10, 3) := by decide +kernel
theorem dX8_winds_10 : decode cX8_winds 10 = .ok (.aload_n 0, 1) := by decide +kernel
theorem dX8_winds_11 : decode cX8_winds 11 = .ok (.bipush (-2), 2) := by decide +kernel
theorem dX8_winds_13 : decode cX8_winds 13 = .ok (.invokevirtual 59, 3) := by decide +kernel
theorem dX8_winds_16 : decode cX8_winds 16 = .ok (.ireturn, 1) := by decide +kernel
theorem dX8_winds_17 : decode cX8_winds 17 = .ok (.aload_n 0, 1) := by decide +kernel
theorem dX8_winds_18 : decode cX8_winds 18 = .ok (.iload_n 1, 1) := by decide +kernel
theorem dX8_winds_19 : decode cX8_winds 19 = .ok (.iconst 2, 1) := by decide +kernel
theorem dX8_winds_20 : decode cX8_winds 20 = .ok (.iload_n 2, 1) := by decide +kernel
theorem dX8_winds_21 : decode cX8_winds 21 = .ok (.imul, 1) := by decide +kernel
theorem dX8_winds_22 : decode cX8_winds 22 = .ok (.invokevirtual 67, 3) := by decide +kernel
theorem dX8_winds_25 : decode cX8_winds 25 = .ok (.istore_n 3, 1) := by decide +kernel
theorem dX8_winds_26 : decode cX8_winds 26 = .ok (.iload_n 3, 1) := by decide +kernel
theorem dX8_winds_27 : decode cX8_winds 27 = .ok (.ifCond .eq 9, 3) := by decide +kernel
theorem dX8_winds_30 : decode cX8_winds 30 = .ok (.aload_n 0, 1) := by decide +kernel
theorem dX8_winds_31 : decode cX8_winds 31 = .ok (.iload_n 3, 1) := by decide +kernel
theorem dX8_winds_32 : decode cX8_winds 32 = .ok (.invokevirtual 59, 3) := by decide +kernel
theorem dX8_winds_35 : decode cX8_winds 35 = .ok (.ireturn, 1) := by decide +kernel
theorem dX8_winds_36 : decode cX8_winds 36 = .ok (.aload_n 0, 1) := by decide +kernel
theorem dX8_winds_37 : decode cX8_winds 37 = .ok (.getfield 12, 3) := by decide +kernel
theorem dX8_winds_40 : decode cX8_winds 40 = .ok (.aload_n 0, 1) := by decide +kernel
theorem dX8_winds_41 : decode cX8_winds 41 = .ok (.getfield 42, 3) := by decide +kernel
theorem dX8_winds_44 : decode cX8_winds 44 = .ok (.iload_n 1, 1) := by decide +kernel
theorem dX8_winds_45 : decode cX8_winds 45 = .ok (.aaload, 1) := by decide +kernel
theorem dX8_winds_46 : decode cX8_winds 46 = .ok (.getfield 71, 3) := by decide +kernel
theorem dX8_winds_49 : decode cX8_winds 49 = .ok (.iload_n 2, 1) := by decide +kernel
theorem dX8_winds_50 : decode cX8_winds 50 = .ok (.iconst 2, 1) := by decide +kernel
theorem dX8_winds_51 : decode cX8_winds 51 = .ok (.invokevirtual 286, 3) := by decide +kernel
theorem dX8_winds_54 : decode cX8_winds 54 = .ok (.iconst (-1), 1) := by decide +kernel
theorem dX8_winds_55 : decode cX8_winds 55 = .ok (.if_icmp .eq 10, 3) := by decide +kernel
theorem dX8_winds_58 : decode cX8_winds 58 = .ok (.aload_n 0, 1) := by decide +kernel
theorem dX8_winds_59 : decode cX8_winds 59 = .ok (.bipush (-5), 2) := by decide +kernel
theorem dX8_winds_61 : decode cX8_winds 61 = .ok (.invokevirtual 59, 3) := by decide +kernel
theorem dX8_winds_64 : decode cX8_winds 64 = .ok (.ireturn, 1) := by decide +kernel
theorem dX8_winds_65 : decode cX8_winds 65 = .ok (.aload_n 0, 1) := by decide +kernel
theorem dX8_winds_66 : decode cX8_winds 66 = .ok (.invokevirtual 255, 3) := by decide +kernel
theorem dX8_winds_69 : decode cX8_winds 69 = .ok (.aload_n 0, 1) := by decide +kernel
theorem dX8_winds_70 : decode cX8_winds 70 = .ok (.getfield 42, 3) := by decide +kernel
theorem dX8_winds_73 : decode cX8_winds 73 = .ok (.iload_n 1, 1) := by decide +kernel
theorem dX8_winds_74 : decode cX8_winds 74 = .ok (.aaload, 1) := by decide +kernel
theorem dX8_winds_75 : decode cX8_winds 75 = .ok (.getfield 71, 3) := by decide +kernel
theorem dX8_winds_78 : decode cX8_winds 78 = .ok (.iload_n 2, 1) := by decide +kernel
theorem dX8_winds_79 : decode cX8_winds 79 = .ok (.invokevirtual 290, 3) := by decide +kernel
theorem dX8_winds_82 : decode cX8_winds 82 = .ok (.ireturn, 1) := by decide +kernel
theorem dX8_kinds_0 : decode cX8_kinds 0 = .ok (.iload_n 2, 1) := by decide +kernel
theorem dX8_kinds_1 : decode cX8_kinds 1 = .ok (.iconst 0, 1) := by decide +kernel
theorem dX8_kinds_2 : decode cX8_kinds 2 = .ok (.bipush 20, 2) := by decide +kernel
theorem dX8_kinds_4 : decode cX8_kinds 4 = .ok (.invokestatic 55, 3) := by decide +kernel
theorem dX8_kinds_7 : decode cX8_kinds 7 = .ok (.ifCond .eq 14, 3) := by decide +kernel
theorem dX8_kinds_10 : decode cX8_kinds 10 = .ok (.aload_n 0, 1) := by decide +kernel
theorem dX8_kinds_11 : decode cX8_kinds 11 = .ok (.getfield 12, 3) := by decide +kernel
theorem dX8_kinds_14 : decode cX8_kinds 14 = .ok (.iload_n 3, 1) := by decide +kernel
theorem dX8_kinds_15 : decode cX8_kinds 15 = .ok (.invokevirtual 113, 3) := by decide +kernel
theorem dX8_kinds_18 : decode cX8_kinds 18 = .ok (.ifCond .ne 10, 3) := by decide +kernel
theorem dX8_kinds_21 : decode cX8_kinds 21 = .ok (.aload_n 0, 1) := by decide +kernel
theorem dX8_kinds_22 : decode cX8_kinds 22 = .ok (.bipush (-2), 2) := by decide +kernel
theorem dX8_kinds_24 : decode cX8_kinds 24 = .ok (.invokevirtual 59, 3) := by decide +kernel
theorem dX8_kinds_27 : decode cX8_kinds 27 = .ok (.ireturn, 1) := by decide +kernel
theorem dX8_kinds_28 : decode cX8_kinds 28 = .ok (.aload_n 0, 1) := by decide +kernel
theorem dX8_kinds_29 : decode cX8_kinds 29 = .ok (.iload_n 1, 1) := by decide +kernel
theorem dX8_kinds_30 : decode cX8_kinds 30 = .ok (.iconst 2, 1) := by decide +kernel
theorem dX8_kinds_31 : decode cX8_kinds 31 = .ok (.iload_n 2, 1) := by decide +kernel
theorem dX8_kinds_32 : decode cX8_kinds 32 = .ok (.imul, 1) := by decide +kernel
theorem dX8_kinds_33 : decode cX8_kinds 33 = .ok (.invokevirtual 67, 3) := by decide +kernel
theorem dX8_kinds_36 : decode cX8_kinds 36 = .ok (.istore 4, 2) := by decide +kernel
theorem dX8_kinds_38 : decode cX8_kinds 38 = .ok (.iload 4, 2) := by decide +kernel
theorem dX8_kinds_40 : decode cX8_kinds 40 = .ok (.ifCond .eq 10, 3) := by decide +kernel
theorem dX8_kinds_43 : decode cX8_kinds 43 = .ok (.aload_n 0, 1) := by decide +kernel
theorem dX8_kinds_44 : decode cX8_kinds 44 = .ok (.iload 4, 2) := by decide +kernel
theorem dX8_kinds_46 : decode cX8_kinds 46 = .ok (.invokevirtual 59, 3) := by decide +kernel
theorem dX8_kinds_49 : decode cX8_kinds 49 = .ok (.ireturn, 1) := by decide +kernel
theorem dX8_kinds_50 : decode cX8_kinds 50 = .ok (.aload_n 0, 1) := by decide +kernel
theorem dX8_kinds_51 : decode cX8_kinds 51 = .ok (.getfield 12, 3) := by decide +kernel
theorem dX8_kinds_54 : decode cX8_kinds 54 = .ok (.aload_n 0, 1) := by decide +kernel
theorem dX8_kinds_55 : decode cX8_kinds 55 = .ok (.getfield 42, 3) := by decide +kernel
theorem dX8_kinds_58 : decode cX8_kinds 58 = .ok (.iload_n 1, 1) := by decide +kernel
theorem dX8_kinds_59 : decode cX8_kinds 59 = .ok (.aaload, 1) := by decide +kernel
theorem dX8_kinds_60 : decode cX8_kinds 60 = .ok (.getfield 71, 3) := by decide +kernel
theorem dX8_kinds_63 : decode cX8_kinds 63 = .ok (.iload_n 2, 1) := by decide +kernel
theorem dX8_kinds_64 : decode cX8_kinds 64 = .ok (.invokevirtual 294, 3) := by decide +kernel
theorem dX8_kinds_67 : decode cX8_kinds 67 = .ok (.ifCond .ne 10, 3) := by decide +kernel
theorem dX8_kinds_70 : decode cX8_kinds 70 = .ok (.aload_n 0, 1) := by decide +kernel
theorem dX8_kinds_71 : decode cX8_kinds 71 = .ok (.bipush (-5), 2) := by decide +kernel
theorem dX8_kinds_73 : decode cX8_kinds 73 = .ok (.invokevirtual 59, 3) := by decide +kernel
theorem dX8_kinds_76 : decode cX8_kinds 76 = .ok (.ireturn, 1) := by decide +kernel
theorem dX8_kinds_77 : decode cX8_kinds 77 = .ok (.aload_n 0, 1) := by decide +kernel
theorem dX8_kinds_78 : decode cX8_kinds 78 = .ok (.getfield 12, 3) := by decide +kernel
theorem dX8_kinds_81 : decode cX8_kinds 81 = .ok (.aload_n 0, 1) := by decide +kernel
theorem dX8_kinds_82 : decode cX8_kinds 82 = .ok (.getfield 42, 3) := by decide +kernel
theorem dX8_kinds_85 : decode cX8_kinds 85 = .ok (.iload_n 1, 1) := by decide +kernel
theorem dX8_kinds_86 : decode cX8_kinds 86 = .ok (.aaload, 1) := by decide +kernel
theorem dX8_kinds_87 : decode cX8_kinds 87 = .ok (.getfield 71, 3) := by decide +kernel
theorem dX8_kinds_90 : decode cX8_kinds 90 = .ok (.iload_n 2, 1) := by decide +kernel
theorem dX8_kinds_91 : decode cX8_kinds 91 = .ok (.iload_n 3, 1) := by decide +kernel
theorem dX8_kinds_92 : decode cX8_kinds 92 = .ok (.invokevirtual 298, 3) := by decide +kernel
theorem dX8_kinds_95 : decode cX8_kinds 95 = .ok (.ireturn, 1) := by decide +kernel
theorem dX8_chance_0 : decode cX8_chance 0 = .ok (.aload_n 0, 1) := by decide +kernel
theorem dX8_chance_1 : decode cX8_chance 1 = .ok (.getfield 12, 3) := by decide +kernel
theorem dX8_chance_4 : decode cX8_chance 4 = .ok (.iload_n 1, 1) := by decide +kernel
theorem dX8_chance_5 : decode cX8_chance 5 = .ok (.invokevirtual 113, 3) := by decide +kernel
theorem dX8_chance_8 : decode cX8_chance 8 = .ok (.ifCond .eq 14, 3) := by decide +kernel
theorem dX8_chance_11 : decode cX8_chance 11 = .ok (.aload_n 0, 1) := by decide +kernel
theorem dX8_chance_12 : decode cX8_chance 12 = .ok (.iload_n 2, 1) := by decide +kernel
theorem dX8_chance_13 : decode cX8_chance 13 = .ok (.iload_n 3, 1) := by decide +kernel
theorem dX8_chance_14 : decode cX8_chance 14 = .ok (.iload 4, 2) := by decide +kernel
theorem dX8_chance_16 : decode cX8_chance 16 = .ok (.invokevirtual 225, 3) := by decide +kernel
theorem dX8_chance_19 : decode cX8_chance 19 = .ok (.ifCond .ne 10, 3) := by decide +kernel
theorem dX8_chance_22 : decode cX8_chance 22 = .ok (.aload_n 0, 1) := by decide +kernel
theorem dX8_chance_23 : decode cX8_chance 23 = .ok (.bipush (-2), 2) := by decide +kernel
theorem dX8_chance_25 : decode cX8_chance 25 = .ok (.invokevirtual 59, 3) := by decide +kernel
theorem dX8_chance_28 : decode cX8_chance 28 = .ok (.ireturn, 1) := by decide +kernel
theorem dX8_chance_29 : decode cX8_chance 29 = .ok (.aload_n 0, 1) := by decide +kernel
theorem dX8_chance_30 : decode cX8_chance 30 = .ok (.invokevirtual 255, 3) := by decide +kernel
theorem dX8_chance_33 : decode cX8_chance 33 = .ok (.iload_n 1, 1) := by decide +kernel
theorem dX8_chance_34 : decode cX8_chance 34 = .ok (.iload_n 2, 1) := by decide +kernel
theorem dX8_chance_35 : decode cX8_chance 35 = .ok (.iload_n 3, 1) := by decide +kernel
theorem dX8_chance_36 : decode cX8_chance 36 = .ok (.iload 4, 2) := by decide +kernel
theorem dX8_chance_38 : decode cX8_chance 38 = .ok (.invokevirtual 301, 3) := by decide +kernel
theorem dX8_chance_41 : decode cX8_chance 41 = .ok (.ldc_w 305, 3) := by decide +kernel
theorem dX8_chance_44 : decode cX8_chance 44 = .ok (.imul, 1) := by decide +kernel
theorem dX8_chance_45 : decode cX8_chance 45 = .ok (.bipush 11, 2) := by decide +kernel
theorem dX8_chance_47 : decode cX8_chance 47 = .ok (.idiv, 1) := by decide +kernel
theorem dX8_chance_48 : decode cX8_chance 48 = .ok (.ireturn, 1) := by decide +kernel
theorem dX8_safest_0 : decode cX8_safest 0 = .ok (.aload_n 0, 1) := by decide +kernel
theorem dX8_safest_1 : decode cX8_safest 1 = .ok (.iload_n 1, 1) := by decide +kernel
theorem dX8_safest_2 : decode cX8_safest 2 = .ok (.iload_n 2, 1) := by decide +kernel
theorem dX8_safest_3 : decode cX8_safest 3 = .ok (.invokevirtual 234, 3) := by decide +kernel
theorem dX8_safest_6 : decode cX8_safest 6 = .ok (.ifCond .eq 15, 3) := by decide +kernel
theorem dX8_safest_9 : decode cX8_safest 9 = .ok (.aload_n 0, 1) := by decide +kernel
theorem dX8_safest_10 : decode cX8_safest 10 = .ok (.invokevirtual 255, 3) := by decide +kernel
theorem dX8_safest_13 : decode cX8_safest 13 = .ok (.iload_n 1, 1) := by decide +kernel
theorem dX8_safest_14 : decode cX8_safest 14 = .ok (.iload_n 2, 1) := by decide +kernel
theorem dX8_safest_15 : decode cX8_safest 15 = .ok (.invokevirtual 306, 3) := by decide +kernel
theorem dX8_safest_18 : decode cX8_safest 18 = .ok (.goto 9, 3) := by decide +kernel
theorem dX8_safest_21 : decode cX8_safest 21 = .ok (.aload_n 0, 1) := by decide +kernel
theorem dX8_safest_22 : decode cX8_safest 22 = .ok (.bipush (-2), 2) := by decide +kernel
theorem dX8_safest_24 : decode cX8_safest 24 = .ok (.invokevirtual 59, 3) := by decide +kernel
theorem dX8_safest_27 : decode cX8_safest 27 = .ok (.ireturn, 1) := by decide +kernel
theorem dX8_queue_0 : decode cX8_queue 0 = .ok (.aload_n 0, 1) := by decide +kernel
theorem dX8_queue_1 : decode cX8_queue 1 = .ok (.getfield 12, 3) := by decide +kernel
theorem dX8_queue_4 : decode cX8_queue 4 = .ok (.iload_n 1, 1) := by decide +kernel
theorem dX8_queue_5 : decode cX8_queue 5 = .ok (.invokevirtual 207, 3) := by decide +kernel
theorem dX8_queue_8 : decode cX8_queue 8 = .ok (.ifCond .eq 14, 3) := by decide +kernel
theorem dX8_queue_11 : decode cX8_queue 11 = .ok (.iload_n 2, 1) := by decide +kernel
theorem dX8_queue_12 : decode cX8_queue 12 = .ok (.iconst 0, 1) := by decide +kernel
theorem dX8_queue_13 : decode cX8_queue 13 = .ok (.sipush 999, 3) := by decide +kernel
theorem dX8_queue_16 : decode cX8_queue 16 = .ok (.invokestatic 55, 3) := by decide +kernel
theorem dX8_queue_19 : decode cX8_queue 19 = .ok (.ifCond .ne 10, 3) := by decide +kernel
theorem dX8_queue_22 : decode cX8_queue 22 = .ok (.aload_n 0, 1) := by decide +kernel
theorem dX8_queue_23 : decode cX8_queue 23 = .ok (.bipush (-2), 2) := by decide +kernel
theorem dX8_queue_25 : decode cX8_queue 25 = .ok (.invokevirtual 59, 3) := by decide +kernel
theorem dX8_queue_28 : decode cX8_queue 28 = .ok (.ireturn, 1) := by decide +kernel
theorem dX8_queue_29 : decode cX8_queue 29 = .ok (.aload_n 0, 1) := by decide +kernel
theorem dX8_queue_30 : decode cX8_queue 30 = .ok (.getfield 12, 3) := by decide +kernel
theorem dX8_queue_33 : decode cX8_queue 33 = .ok (.iload_n 1, 1) := by decide +kernel
theorem dX8_queue_34 : decode cX8_queue 34 = .ok (.iload_n 2, 1) := by decide +kernel
theorem dX8_queue_35 : decode cX8_queue 35 = .ok (.invokevirtual 309, 3) := by decide +kernel
theorem dX8_queue_38 : decode cX8_queue 38 = .ok (.ireturn, 1) := by decide +kernel
theorem dX8_longest_0 : decode cX8_longest 0 = .ok (.iload_n 1, 1) := by decide +kernel
theorem dX8_longest_1 : decode cX8_longest 1 = .ok (.iconst 2, 1) := by decide +kernel
theorem dX8_longest_2 : decode cX8_longest 2 = .ok (.invokestatic 166, 3) := by decide +kernel
theorem dX8_longest_5 : decode cX8_longest 5 = .ok (.ifCond .ne 10, 3) := by decide +kernel
theorem dX8_longest_8 : decode cX8_longest 8 = .ok (.aload_n 0, 1) := by decide +kernel
theorem dX8_longest_9 : decode cX8_longest 9 = .ok (.bipush (-2), 2) := by decide +kernel
theorem dX8_longest_11 : decode cX8_longest 11 = .ok (.invokevirtual 59, 3) := by decide +kernel
theorem dX8_longest_14 : decode cX8_longest 14 = .ok (.ireturn, 1) := by decide +kernel
theorem dX8_longest_15 : decode cX8_longest 15 = .ok (.aload_n 0, 1) := by decide +kernel
theorem dX8_longest_16 : decode cX8_longest 16 = .ok (.getfield 12, 3) := by decide +kernel
theorem dX8_longest_19 : decode cX8_longest 19 = .ok (.invokevirtual 312, 3) := by decide +kernel
theorem dX8_longest_22 : decode cX8_longest 22 = .ok (.istore_n 2, 1) := by decide +kernel
theorem dX8_longest_23 : decode cX8_longest 23 = .ok (.iload_n 2, 1) := by decide +kernel
theorem dX8_longest_24 : decode cX8_longest 24 = .ok (.iconst (-1), 1) := by decide +kernel
theorem dX8_longest_25 : decode cX8_longest 25 = .ok (.if_icmp .ne 13, 3) := by decide +kernel
theorem dX8_longest_28 : decode cX8_longest 28 = .ok (.iload_n 1, 1) := by decide +kernel
theorem dX8_longest_29 : decode cX8_longest 29 = .ok (.ifCond .ne 7, 3) := by decide +kernel
theorem dX8_longest_32 : decode cX8_longest 32 = .ok (.iconst 0, 1) := by decide +kernel
theorem dX8_longest_33 : decode cX8_longest 33 = .ok (.goto 4, 3) := by decide +kernel
theorem dX8_longest_36 : decode cX8_longest 36 = .ok (.iconst (-1), 1) := by decide +kernel
theorem dX8_longest_37 : decode cX8_longest 37 = .ok (.ireturn, 1) := by decide +kernel
theorem dX8_longest_38 : decode cX8_longest 38 = .ok (.aload_n 0, 1) := by decide +kernel
theorem dX8_longest_39 : decode cX8_longest 39 = .ok (.getfield 12, 3) := by decide +kernel
theorem dX8_longest_42 : decode cX8_longest 42 = .ok (.getfield 123, 3) := by decide +kernel
theorem dX8_longest_45 : decode cX8_longest 45 = .ok (.iload_n 2, 1) := by decide +kernel
theorem dX8_longest_46 : decode cX8_longest 46 = .ok (.aaload, 1) := by decide +kernel
theorem dX8_longest_47 : decode cX8_longest 47 = .ok (.astore_n 3, 1) := by decide +kernel
theorem dX8_longest_48 : decode cX8_longest 48 = .ok (.iload_n 1, 1) := by decide +kernel
theorem dX8_longest_49 : decode cX8_longest 49 = .ok (.ifCond .ne 19, 3) := by decide +kernel
theorem dX8_longest_52 : decode cX8_longest 52 = .ok (.aload_n 0, 1) := by decide +kernel
theorem dX8_longest_53 : decode cX8_longest 53 = .ok (.getfield 12, 3) := by decide +kernel
theorem dX8_longest_56 : decode cX8_longest 56 = .ok (.aload_n 3, 1) := by decide +kernel
theorem dX8_longest_57 : decode cX8_longest 57 = .ok (.getfield 198, 3) := by decide +kernel
theorem dX8_longest_60 : decode cX8_longest 60 = .ok (.aload_n 3, 1) := by decide +kernel
theorem dX8_longest_61 : decode cX8_longest 61 = .ok (.getfield 201, 3) := by decide +kernel
theorem dX8_longest_64 : decode cX8_longest 64 = .ok (.invokevirtual 309, 3) := by decide +kernel
theorem dX8_longest_67 : decode cX8_longest 67 = .ok (.ireturn, 1) := by decide +kernel
theorem dX8_longest_68 : decode cX8_longest 68 = .ok (.iload_n 1, 1) := by decide +kernel
theorem dX8_longest_69 : decode cX8_longest 69 = .ok (.iconst 1, 1) := by decide +kernel
theorem dX8_longest_70 : decode cX8_longest 70 = .ok (.if_icmp .ne 10, 3) := by decide +kernel
theorem dX8_longest_73 : decode cX8_longest 73 = .ok (.aload_n 3, 1) := by decide +kernel
theorem dX8_longest_74 : decode cX8_longest 74 = .ok (.getfield 201, 3) := by decide +kernel
theorem dX8_longest_77 : decode cX8_longest 77 = .ok (.goto 7, 3) := by decide +kernel
theorem dX8_longest_80 : decode cX8_longest 80 = .ok (.aload_n 3, 1) := by decide +kernel
theorem dX8_longest_81 : decode cX8_longest 81 = .ok (.getfield 198, 3) := by decide +kernel
theorem dX8_longest_84 : decode cX8_longest 84 = .ok (.ireturn, 1) := by decide +kernel
theorem dX8_move_0 : decode cX8_move 0 = .ok (.aload_n 0, 1) := by decide +kernel
theorem dX8_move_1 : decode cX8_move 1 = .ok (.getfield 12, 3) := by decide +kernel
theorem dX8_move_4 : decode cX8_move 4 = .ok (.iload_n 1, 1) := by decide +kernel
theorem dX8_move_5 : decode cX8_move 5 = .ok (.invokevirtual 113, 3) := by decide +kernel
theorem dX8_move_8 : decode cX8_move 8 = .ok (.ifCond .eq 11, 3) := by decide +kernel
theorem dX8_move_11 : decode cX8_move 11 = .ok (.iload_n 2, 1) := by decide +kernel
theorem dX8_move_12 : decode cX8_move 12 = .ok (.iconst 1, 1) := by decide +kernel
theorem dX8_move_13 : decode cX8_move 13 = .ok (.invokestatic 166, 3) := by decide +kernel
theorem dX8_move_16 : decode cX8_move 16 = .ok (.ifCond .ne 10, 3) := by decide +kernel
theorem dX8_move_19 : decode cX8_move 19 = .ok (.aload_n 0, 1) := by decide +kernel
theorem dX8_move_20 : decode cX8_move 20 = .ok (.bipush (-2), 2) := by decide +kernel
theorem dX8_move_22 : decode cX8_move 22 = .ok (.invokevirtual 59, 3) := by decide +kernel
theorem dX8_move_25 : decode cX8_move 25 = .ok (.ireturn, 1) := by decide +kernel
theorem dX8_move_26 : decode cX8_move 26 = .ok (.aload_n 0, 1) := by decide +kernel
theorem dX8_move_27 : decode cX8_move 27 = .ok (.invokevirtual 255, 3) := by decide +kernel
theorem dX8_move_30 : decode cX8_move 30 = .ok (.iload_n 1, 1) := by decide +kernel
theorem dX8_move_31 : decode cX8_move 31 = .ok (.invokevirtual 315, 3) := by decide +kernel
theorem dX8_move_34 : decode cX8_move 34 = .ok (.iload_n 2, 1) := by decide +kernel
theorem dX8_move_35 : decode cX8_move 35 = .ok (.ifCond .ne 13, 3) := by decide +kernel
theorem dX8_move_38 : decode cX8_move 38 = .ok (.aload_n 0, 1) := by decide +kernel
theorem dX8_move_39 : decode cX8_move 39 = .ok (.getfield 22, 3) := by decide +kernel
theorem dX8_move_42 : decode cX8_move 42 = .ok (.getfield 318, 3) := by decide +kernel
theorem dX8_move_45 : decode cX8_move 45 = .ok (.goto 10, 3) := by decide +kernel
theorem dX8_move_48 : decode cX8_move 48 = .ok (.aload_n 0, 1) := by decide +kernel
theorem dX8_move_49 : decode cX8_move 49 = .ok (.getfield 22, 3) := by decide +kernel
theorem dX8_move_52 : decode cX8_move 52 = .ok (.getfield 321, 3) := by decide +kernel
theorem dX8_move_55 : decode cX8_move 55 = .ok (.ireturn, 1) := by decide +kernel
theorem dX8_rival_0 : decode cX8_rival 0 = .ok (.aload_n 0, 1) := by decide +kernel
theorem dX8_rival_1 : decode cX8_rival 1 = .ok (.getfield 12, 3) := by decide +kernel
theorem dX8_rival_4 : decode cX8_rival 4 = .ok (.iload_n 1, 1) := by decide +kernel
theorem dX8_rival_5 : decode cX8_rival 5 = .ok (.invokevirtual 113, 3) := by decide +kernel
theorem dX8_rival_8 : decode cX8_rival 8 = .ok (.ifCond .eq 14, 3) := by decide +kernel
theorem dX8_rival_11 : decode cX8_rival 11 = .ok (.aload_n 0, 1) := by decide +kernel
theorem dX8_rival_12 : decode cX8_rival 12 = .ok (.iload_n 2, 1) := by decide +kernel
theorem dX8_rival_13 : decode cX8_rival 13 = .ok (.iload_n 3, 1) := by decide +kernel
theorem dX8_rival_14 : decode cX8_rival 14 = .ok (.iload 4, 2) := by decide +kernel
theorem dX8_rival_16 : decode cX8_rival 16 = .ok (.invokevirtual 225, 3) := by decide +kernel
theorem dX8_rival_19 : decode cX8_rival 19 = .ok (.ifCond .ne 10, 3) := by decide +kernel
theorem dX8_rival_22 : decode cX8_rival 22 = .ok (.aload_n 0, 1) := by decide +kernel
theorem dX8_rival_23 : decode cX8_rival 23 = .ok (.bipush (-2), 2) := by decide +kernel
theorem dX8_rival_25 : decode cX8_rival 25 = .ok (.invokevirtual 59, 3) := by decide +kernel
theorem dX8_rival_28 : decode cX8_rival 28 = .ok (.ireturn, 1) := by decide +kernel
theorem dX8_rival_29 : decode cX8_rival 29 = .ok (.aload_n 0, 1) := by decide +kernel
theorem dX8_rival_30 : decode cX8_rival 30 = .ok (.getfield 12, 3) := by decide +kernel
theorem dX8_rival_33 : decode cX8_rival 33 = .ok (.iload_n 1, 1) := by decide +kernel
theorem dX8_rival_34 : decode cX8_rival 34 = .ok (.aload_n 0, 1) := by decide +kernel
theorem dX8_rival_35 : decode cX8_rival 35 = .ok (.getfield 12, 3) := by decide +kernel
theorem dX8_rival_38 : decode cX8_rival 38 = .ok (.iload_n 2, 1) := by decide +kernel
theorem dX8_rival_39 : decode cX8_rival 39 = .ok (.iload_n 3, 1) := by decide +kernel
theorem dX8_rival_40 : decode cX8_rival 40 = .ok (.iload 4, 2) := by decide +kernel
theorem dX8_rival_42 : decode cX8_rival 42 = .ok (.invokevirtual 228, 3) := by decide +kernel
theorem dX8_rival_45 : decode cX8_rival 45 = .ok (.invokevirtual 324, 3) := by decide +kernel
theorem dX8_rival_48 : decode cX8_rival 48 = .ok (.ireturn, 1) := by decide +kernel
theorem dX8_having_0 : decode cX8_having 0 = .ok (.iload_n 1, 1) := by decide +kernel
theorem dX8_having_1 : decode cX8_having 1 = .ok (.iconst 2, 1) := by decide +kernel
theorem dX8_having_2 : decode cX8_having 2 = .ok (.invokestatic 166, 3) := by decide +kernel
theorem dX8_having_5 : decode cX8_having 5 = .ok (.ifCond .ne 10, 3) := by decide +kernel
theorem dX8_having_8 : decode cX8_having 8 = .ok (.aload_n 0, 1) := by decide +kernel
theorem dX8_having_9 : decode cX8_having 9 = .ok (.bipush (-2), 2) := by decide +kernel
theorem dX8_having_11 : decode cX8_having 11 = .ok (.invokevirtual 59, 3) := by decide +kernel
theorem dX8_having_14 : decode cX8_having 14 = .ok (.ireturn, 1) := by decide +kernel
theorem dX8_having_15 : decode cX8_having 15 = .ok (.iload_n 1, 1) := by decide +kernel
theorem dX8_having_16 : decode cX8_having 16 = .ok (.iconst 2, 1) := by decide +kernel
theorem dX8_having_17 : decode cX8_having 17 = .ok (.if_icmp .ne 20, 3) := by decide +kernel
theorem dX8_having_20 : decode cX8_having 20 = .ok (.aload_n 0, 1) := by decide +kernel
theorem dX8_having_21 : decode cX8_having 21 = .ok (.getfield 12, 3) := by decide +kernel
theorem dX8_having_24 : decode cX8_having 24 = .ok (.aload_n 0, 1) := by decide +kernel
theorem dX8_having_25 : decode cX8_having 25 = .ok (.getfield 12, 3) := by decide +kernel
theorem dX8_having_28 : decode cX8_having 28 = .ok (.invokevirtual 327, 3) := by decide +kernel
theorem dX8_having_31 : decode cX8_having 31 = .ok (.invokevirtual 330, 3) := by decide +kernel
theorem dX8_having_34 : decode cX8_having 34 = .ok (.goto 20, 3) := by decide +kernel
theorem dX8_having_37 : decode cX8_having 37 = .ok (.aload_n 0, 1) := by decide +kernel
theorem dX8_having_38 : decode cX8_having 38 = .ok (.getfield 12, 3) := by decide +kernel
theorem dX8_having_41 : decode cX8_having 41 = .ok (.iload_n 1, 1) := by decide +kernel
theorem dX8_having_42 : decode cX8_having 42 = .ok (.iconst 1, 1) := by decide +kernel
theorem dX8_having_43 : decode cX8_having 43 = .ok (.if_icmp .ne 7, 3) := by decide +kernel
theorem dX8_having_46 : decode cX8_having 46 = .ok (.iconst 1, 1) := by decide +kernel
theorem dX8_having_47 : decode cX8_having 47 = .ok (.goto 4, 3) := by decide +kernel
theorem dX8_having_50 : decode cX8_having 50 = .ok (.iconst 0, 1) := by decide +kernel
theorem dX8_having_51 : decode cX8_having 51 = .ok (.invokevirtual 333, 3) := by decide +kernel
theorem dX8_having_54 : decode cX8_having 54 = .ok (.ireturn, 1) := by decide +kernel
theorem dX8_due_0 : decode cX8_due 0 = .ok (.iload_n 1, 1) := by decide +kernel
theorem dX8_due_1 : decode cX8_due 1 = .ok (.iconst 1, 1) := by decide +kernel
theorem dX8_due_2 : decode cX8_due 2 = .ok (.invokestatic 166, 3) := by decide +kernel
theorem dX8_due_5 : decode cX8_due 5 = .ok (.ifCond .ne 10, 3) := by decide +kernel
theorem dX8_due_8 : decode cX8_due 8 = .ok (.aload_n 0, 1) := by decide +kernel
theorem dX8_due_9 : decode cX8_due 9 = .ok (.bipush (-2), 2) := by decide +kernel
theorem dX8_due_11 : decode cX8_due 11 = .ok (.invokevirtual 59, 3) := by decide +kernel
theorem dX8_due_14 : decode cX8_due 14 = .ok (.ireturn, 1) := by decide +kernel
theorem dX8_due_15 : decode cX8_due 15 = .ok (.iload_n 1, 1) := by decide +kernel
theorem dX8_due_16 : decode cX8_due 16 = .ok (.ifCond .ne 13, 3) := by decide +kernel
theorem dX8_due_19 : decode cX8_due 19 = .ok (.aload_n 0, 1) := by decide +kernel
theorem dX8_due_20 : decode cX8_due 20 = .ok (.getfield 12, 3) := by decide +kernel
theorem dX8_due_23 : decode cX8_due 23 = .ok (.invokevirtual 327, 3) := by decide +kernel
theorem dX8_due_26 : decode cX8_due 26 = .ok (.goto 10, 3) := by decide +kernel
theorem dX8_due_29 : decode cX8_due 29 = .ok (.aload_n 0, 1) := by decide +kernel
theorem dX8_due_30 : decode cX8_due 30 = .ok (.getfield 12, 3) := by decide +kernel
theorem dX8_due_33 : decode cX8_due 33 = .ok (.invokevirtual 337, 3) := by decide +kernel
theorem dX8_due_36 : decode cX8_due 36 = .ok (.ireturn, 1) := by decide +kernel
theorem dX8_lentFor_0 : decode cX8_lentFor 0 = .ok (.aload_n 0, 1) := by decide +kernel
theorem dX8_lentFor_1 : decode cX8_lentFor 1 = .ok (.iload_n 1, 1) := by decide +kernel
theorem dX8_lentFor_2 : decode cX8_lentFor 2 = .ok (.iload_n 2, 1) := by decide +kernel
theorem dX8_lentFor_3 : decode cX8_lentFor 3 = .ok (.invokevirtual 234, 3) := by decide +kernel
theorem dX8_lentFor_6 : decode cX8_lentFor 6 = .ok (.ifCond .eq 15, 3) := by decide +kernel
theorem dX8_lentFor_9 : decode cX8_lentFor 9 = .ok (.aload_n 0, 1) := by decide +kernel
theorem dX8_lentFor_10 : decode cX8_lentFor 10 = .ok (.getfield 12, 3) := by decide +kernel
theorem dX8_lentFor_13 : decode cX8_lentFor 13 = .ok (.iload_n 1, 1) := by decide +kernel
theorem dX8_lentFor_14 : decode cX8_lentFor 14 = .ok (.iload_n 2, 1) := by decide +kernel
theorem dX8_lentFor_15 : decode cX8_lentFor 15 = .ok (.invokevirtual 340, 3) := by decide +kernel
theorem dX8_lentFor_18 : decode cX8_lentFor 18 = .ok (.goto 9, 3) := by decide +kernel
theorem dX8_lentFor_21 : decode cX8_lentFor 21 = .ok (.aload_n 0, 1) := by decide +kernel
theorem dX8_lentFor_22 : decode cX8_lentFor 22 = .ok (.bipush (-2), 2) := by decide +kernel
theorem dX8_lentFor_24 : decode cX8_lentFor 24 = .ok (.invokevirtual 59, 3) := by decide +kernel
theorem dX8_lentFor_27 : decode cX8_lentFor 27 = .ok (.ireturn, 1) := by decide +kernel
theorem dX8_best_0 : decode cX8_best 0 = .ok (.iload_n 1, 1) := by decide +kernel
theorem dX8_best_1 : decode cX8_best 1 = .ok (.iconst 1, 1) := by decide +kernel
theorem dX8_best_2 : decode cX8_best 2 = .ok (.invokestatic 166, 3) := by decide +kernel
theorem dX8_best_5 : decode cX8_best 5 = .ok (.ifCond .ne 10, 3) := by decide +kernel
theorem dX8_best_8 : decode cX8_best 8 = .ok (.aload_n 0, 1) := by decide +kernel
theorem dX8_best_9 : decode cX8_best 9 = .ok (.bipush (-2), 2) := by decide +kernel
theorem dX8_best_11 : decode cX8_best 11 = .ok (.invokevirtual 59, 3) := by decide +kernel
theorem dX8_best_14 : decode cX8_best 14 = .ok (.ireturn, 1) := by decide +kernel
theorem dX8_best_15 : decode cX8_best 15 = .ok (.aload_n 0, 1) := by decide +kernel
theorem dX8_best_16 : decode cX8_best 16 = .ok (.getfield 12, 3) := by decide +kernel
theorem dX8_best_19 : decode cX8_best 19 = .ok (.getfield 343, 3) := by decide +kernel
theorem dX8_best_22 : decode cX8_best 22 = .ok (.ifCond .ne 10, 3) := by decide +kernel
theorem dX8_best_25 : decode cX8_best 25 = .ok (.aload_n 0, 1) := by decide +kernel
theorem dX8_best_26 : decode cX8_best 26 = .ok (.bipush (-5), 2) := by decide +kernel
theorem dX8_best_28 : decode cX8_best 28 = .ok (.invokevirtual 59, 3) := by decide +kernel
theorem dX8_best_31 : decode cX8_best 31 = .ok (.ireturn, 1) := by decide +kernel
theorem dX8_best_32 : decode cX8_best 32 = .ok (.aload_n 0, 1) := by decide +kernel
theorem dX8_best_33 : decode cX8_best 33 = .ok (.getfield 12, 3) := by decide +kernel
theorem dX8_best_36 : decode cX8_best 36 = .ok (.invokevirtual 346, 3) := by decide +kernel
theorem dX8_best_39 : decode cX8_best 39 = .ok (.istore_n 2, 1) := by decide +kernel
theorem dX8_best_40 : decode cX8_best 40 = .ok (.iload_n 1, 1) := by decide +kernel
theorem dX8_best_41 : decode cX8_best 41 = .ok (.ifCond .ne 7, 3) := by decide +kernel
theorem dX8_best_44 : decode cX8_best 44 = .ok (.iload_n 2, 1) := by decide +kernel
theorem dX8_best_45 : decode cX8_best 45 = .ok (.goto 14, 3) := by decide +kernel
theorem dX8_best_48 : decode cX8_best 48 = .ok (.aload_n 0, 1) := by decide +kernel
theorem dX8_best_49 : decode cX8_best 49 = .ok (.getfield 12, 3) := by decide +kernel
theorem dX8_best_52 : decode cX8_best 52 = .ok (.iload_n 2, 1) := by decide +kernel
theorem dX8_best_53 : decode cX8_best 53 = .ok (.invokevirtual 249, 3) := by decide +kernel
theorem dX8_best_56 : decode cX8_best 56 = .ok (.invokestatic 349, 3) := by decide +kernel
theorem dX8_best_59 : decode cX8_best 59 = .ok (.ireturn, 1) := by decide +kernel
theorem dX8_bed_0 : decode cX8_bed 0 = .ok (.iload_n 1, 1) := by decide +kernel
theorem dX8_bed_1 : decode cX8_bed 1 = .ok (.iconst 1, 1) := by decide +kernel
theorem dX8_bed_2 : decode cX8_bed 2 = .ok (.invokestatic 166, 3) := by decide +kernel
theorem dX8_bed_5 : decode cX8_bed 5 = .ok (.ifCond .ne 10, 3) := by decide +kernel
theorem dX8_bed_8 : decode cX8_bed 8 = .ok (.aload_n 0, 1) := by decide +kernel
theorem dX8_bed_9 : decode cX8_bed 9 = .ok (.bipush (-2), 2) := by decide +kernel
theorem dX8_bed_11 : decode cX8_bed 11 = .ok (.invokevirtual 59, 3) := by decide +kernel
theorem dX8_bed_14 : decode cX8_bed 14 = .ok (.ireturn, 1) := by decide +kernel
theorem dX8_bed_15 : decode cX8_bed 15 = .ok (.aload_n 0, 1) := by decide +kernel
theorem dX8_bed_16 : decode cX8_bed 16 = .ok (.invokevirtual 255, 3) := by decide +kernel
theorem dX8_bed_19 : decode cX8_bed 19 = .ok (.invokevirtual 354, 3) := by decide +kernel
theorem dX8_bed_22 : decode cX8_bed 22 = .ok (.iload_n 1, 1) := by decide +kernel
theorem dX8_bed_23 : decode cX8_bed 23 = .ok (.ifCond .ne 13, 3) := by decide +kernel
theorem dX8_bed_26 : decode cX8_bed 26 = .ok (.aload_n 0, 1) := by decide +kernel
theorem dX8_bed_27 : decode cX8_bed 27 = .ok (.getfield 22, 3) := by decide +kernel
theorem dX8_bed_30 : decode cX8_bed 30 = .ok (.getfield 318, 3) := by decide +kernel
theorem dX8_bed_33 : decode cX8_bed 33 = .ok (.goto 10, 3) := by decide +kernel
theorem dX8_bed_36 : decode cX8_bed 36 = .ok (.aload_n 0, 1) := by decide +kernel
theorem dX8_bed_37 : decode cX8_bed 37 = .ok (.getfield 22, 3) := by decide +kernel
theorem dX8_bed_40 : decode cX8_bed 40 = .ok (.getfield 321, 3) := by decide +kernel
theorem dX8_bed_43 : decode cX8_bed 43 = .ok (.ireturn, 1) := by decide +kernel
theorem dX8_off_0 : decode cX8_off 0 = .ok (.aload_n 0, 1) := by decide +kernel
theorem dX8_off_1 : decode cX8_off 1 = .ok (.getfield 12, 3) := by decide +kernel
theorem dX8_off_4 : decode cX8_off 4 = .ok (.iload_n 1, 1) := by decide +kernel
theorem dX8_off_5 : decode cX8_off 5 = .ok (.invokevirtual 207, 3) := by decide +kernel
theorem dX8_off_8 : decode cX8_off 8 = .ok (.ifCond .eq 15, 3) := by decide +kernel
theorem dX8_off_11 : decode cX8_off 11 = .ok (.aload_n 0, 1) := by decide +kernel
theorem dX8_off_12 : decode cX8_off 12 = .ok (.getfield 12, 3) := by decide +kernel
theorem dX8_off_15 : decode cX8_off 15 = .ok (.iload_n 1, 1) := by decide +kernel
theorem dX8_off_16 : decode cX8_off 16 = .ok (.iconst (-1), 1) := by decide +kernel
theorem dX8_off_17 : decode cX8_off 17 = .ok (.invokevirtual 357, 3) := by decide +kernel
theorem dX8_off_20 : decode cX8_off 20 = .ok (.goto 9, 3) := by decide +kernel
theorem dX8_off_23 : decode cX8_off 23 = .ok (.aload_n 0, 1) := by decide +kernel
theorem dX8_off_24 : decode cX8_off 24 = .ok (.bipush (-2), 2) := by decide +kernel
theorem dX8_off_26 : decode cX8_off 26 = .ok (.invokevirtual 59, 3) := by decide +kernel
theorem dX8_off_29 : decode cX8_off 29 = .ok (.ireturn, 1) := by decide +kernel
theorem dX8_windFor_0 : decode cX8_windFor 0 = .ok (.aload_n 0, 1) := by decide +kernel
theorem dX8_windFor_1 : decode cX8_windFor 1 = .ok (.getfield 12, 3) := by decide +kernel
theorem dX8_windFor_4 : decode cX8_windFor 4 = .ok (.iload_n 1, 1) := by decide +kernel
theorem dX8_windFor_5 : decode cX8_windFor 5 = .ok (.invokevirtual 113, 3) := by decide +kernel
theorem dX8_windFor_8 : decode cX8_windFor 8 = .ok (.ifCond .eq 14, 3) := by decide +kernel
theorem dX8_windFor_11 : decode cX8_windFor 11 = .ok (.aload_n 0, 1) := by decide +kernel
theorem dX8_windFor_12 : decode cX8_windFor 12 = .ok (.iload_n 2, 1) := by decide +kernel
theorem dX8_windFor_13 : decode cX8_windFor 13 = .ok (.iload_n 3, 1) := by decide +kernel
theorem dX8_windFor_14 : decode cX8_windFor 14 = .ok (.iload 4, 2) := by decide +kernel
theorem dX8_windFor_16 : decode cX8_windFor 16 = .ok (.invokevirtual 225, 3) := by decide +kernel
theorem dX8_windFor_19 : decode cX8_windFor 19 = .ok (.ifCond .ne 10, 3) := by decide +kernel
theorem dX8_windFor_22 : decode cX8_windFor 22 = .ok (.aload_n 0, 1) := by decide +kernel
theorem dX8_windFor_23 : decode cX8_windFor 23 = .ok (.bipush (-2), 2) := by decide +kernel
theorem dX8_windFor_25 : decode cX8_windFor 25 = .ok (.invokevirtual 59, 3) := by decide +kernel
theorem dX8_windFor_28 : decode cX8_windFor 28 = .ok (.ireturn, 1) := by decide +kernel
theorem dX8_windFor_29 : decode cX8_windFor 29 = .ok (.aload_n 0, 1) := by decide +kernel
theorem dX8_windFor_30 : decode cX8_windFor 30 = .ok (.invokevirtual 255, 3) := by decide +kernel
theorem dX8_windFor_33 : decode cX8_windFor 33 = .ok (.iload_n 1, 1) := by decide +kernel
theorem dX8_windFor_34 : decode cX8_windFor 34 = .ok (.iload_n 2, 1) := by decide +kernel
theorem dX8_windFor_35 : decode cX8_windFor 35 = .ok (.iload_n 3, 1) := by decide +kernel
theorem dX8_windFor_36 : decode cX8_windFor 36 = .ok (.iload 4, 2) := by decide +kernel
theorem dX8_windFor_38 : decode cX8_windFor 38 = .ok (.invokevirtual 360, 3) := by decide +kernel
theorem dX8_windFor_41 : decode cX8_windFor 41 = .ok (.ireturn, 1) := by decide +kernel
theorem dX8_catches_0 : decode cX8_catches 0 = .ok (.aload_n 0, 1) := by decide +kernel
theorem dX8_catches_1 : decode cX8_catches 1 = .ok (.getfield 12, 3) := by decide +kernel
theorem dX8_catches_4 : decode cX8_catches 4 = .ok (.iload_n 1, 1) := by decide +kernel
theorem dX8_catches_5 : decode cX8_catches 5 = .ok (.invokevirtual 145, 3) := by decide +kernel
theorem dX8_catches_8 : decode cX8_catches 8 = .ok (.ifCond .eq 15, 3) := by decide +kernel
theorem dX8_catches_11 : decode cX8_catches 11 = .ok (.aload_n 0, 1) := by decide +kernel
theorem dX8_catches_12 : decode cX8_catches 12 = .ok (.getfield 12, 3) := by decide +kernel
theorem dX8_catches_15 : decode cX8_catches 15 = .ok (.iconst (-1), 1) := by decide +kernel
theorem dX8_catches_16 : decode cX8_catches 16 = .ok (.iload_n 1, 1) := by decide +kernel
theorem dX8_catches_17 : decode cX8_catches 17 = .ok (.invokevirtual 324, 3) := by decide +kernel
theorem dX8_catches_20 : decode cX8_catches 20 = .ok (.goto 9, 3) := by decide +kernel
theorem dX8_catches_23 : decode cX8_catches 23 = .ok (.aload_n 0, 1) := by decide +kernel
theorem dX8_catches_24 : decode cX8_catches 24 = .ok (.bipush (-2), 2) := by decide +kernel
theorem dX8_catches_26 : decode cX8_catches 26 = .ok (.invokevirtual 59, 3) := by decide +kernel
theorem dX8_catches_29 : decode cX8_catches 29 = .ok (.ireturn, 1) := by decide +kernel
theorem dX8_gaps_0 : decode cX8_gaps 0 = .ok (.aload_n 0, 1) := by decide +kernel
theorem dX8_gaps_1 : decode cX8_gaps 1 = .ok (.getfield 12, 3) := by decide +kernel
theorem dX8_gaps_4 : decode cX8_gaps 4 = .ok (.invokevirtual 363, 3) := by decide +kernel
theorem dX8_gaps_7 : decode cX8_gaps 7 = .ok (.ireturn, 1) := by decide +kernel
theorem dX8_between_0 : decode cX8_between 0 = .ok (.aload_n 0, 1) := by decide +kernel
theorem dX8_between_1 : decode cX8_between 1 = .ok (.getfield 12, 3) := by decide +kernel
theorem dX8_between_4 : decode cX8_between 4 = .ok (.iload_n 1, 1) := by decide +kernel
theorem dX8_between_5 : decode cX8_between 5 = .ok (.invokevirtual 207, 3) := by decide +kernel
theorem dX8_between_8 : decode cX8_between 8 = .ok (.ifCond .eq 14, 3) := by decide +kernel
theorem dX8_between_11 : decode cX8_between 11 = .ok (.aload_n 0, 1) := by decide +kernel
theorem dX8_between_12 : decode cX8_between 12 = .ok (.getfield 12, 3) := by decide +kernel
theorem dX8_between_15 : decode cX8_between 15 = .ok (.iload_n 2, 1) := by decide +kernel
theorem dX8_between_16 : decode cX8_between 16 = .ok (.invokevirtual 207, 3) := by decide +kernel
theorem dX8_between_19 : decode cX8_between 19 = .ok (.ifCond .ne 10, 3) := by decide +kernel
theorem dX8_between_22 : decode cX8_between 22 = .ok (.aload_n 0, 1) := by decide +kernel
theorem dX8_between_23 : decode cX8_between 23 = .ok (.bipush (-2), 2) := by decide +kernel
theorem dX8_between_25 : decode cX8_between 25 = .ok (.invokevirtual 59, 3) := by decide +kernel
theorem dX8_between_28 : decode cX8_between 28 = .ok (.ireturn, 1) := by decide +kernel
theorem dX8_between_29 : decode cX8_between 29 = .ok (.aload_n 0, 1) := by decide +kernel
theorem dX8_between_30 : decode cX8_between 30 = .ok (.getfield 12, 3) := by decide +kernel
theorem dX8_between_33 : decode cX8_between 33 = .ok (.iload_n 1, 1) := by decide +kernel
theorem dX8_between_34 : decode cX8_between 34 = .ok (.invokevirtual 252, 3) := by decide +kernel
theorem dX8_between_37 : decode cX8_between 37 = .ok (.aload_n 0, 1) := by decide +kernel
theorem dX8_between_38 : decode cX8_between 38 = .ok (.getfield 12, 3) := by decide +kernel
theorem dX8_between_41 : decode cX8_between 41 = .ok (.iload_n 2, 1) := by decide +kernel
theorem dX8_between_42 : decode cX8_between 42 = .ok (.invokevirtual 252, 3) := by decide +kernel
theorem dX8_between_45 : decode cX8_between 45 = .ok (.iand, 1) := by decide +kernel
theorem dX8_between_46 : decode cX8_between 46 = .ok (.ireturn, 1) := by decide +kernel
theorem dX8_fondest_0 : decode cX8_fondest 0 = .ok (.aload_n 0, 1) := by decide +kernel
theorem dX8_fondest_1 : decode cX8_fondest 1 = .ok (.getfield 12, 3) := by decide +kernel
theorem dX8_fondest_4 : decode cX8_fondest 4 = .ok (.iload_n 1, 1) := by decide +kernel
theorem dX8_fondest_5 : decode cX8_fondest 5 = .ok (.invokevirtual 207, 3) := by decide +kernel
theorem dX8_fondest_8 : decode cX8_fondest 8 = .ok (.ifCond .eq 14, 3) := by decide +kernel
theorem dX8_fondest_11 : decode cX8_fondest 11 = .ok (.aload_n 0, 1) := by decide +kernel
theorem dX8_fondest_12 : decode cX8_fondest 12 = .ok (.getfield 12, 3) := by decide +kernel
theorem dX8_fondest_15 : decode cX8_fondest 15 = .ok (.iload_n 1, 1) := by decide +kernel
theorem dX8_fondest_16 : decode cX8_fondest 16 = .ok (.invokevirtual 366, 3) := by decide +kernel
theorem dX8_fondest_19 : decode cX8_fondest 19 = .ok (.goto 9, 3) := by decide +kernel
theorem dX8_fondest_22 : decode cX8_fondest 22 = .ok (.aload_n 0, 1) := by decide +kernel
theorem dX8_fondest_23 : decode cX8_fondest 23 = .ok (.bipush (-2), 2) := by decide +kernel
theorem dX8_fondest_25 : decode cX8_fondest 25 = .ok (.invokevirtual 59, 3) := by decide +kernel
theorem dX8_fondest_28 : decode cX8_fondest 28 = .ok (.ireturn, 1) := by decide +kernel
theorem dX8_admirer_0 : decode cX8_admirer 0 = .ok (.aload_n 0, 1) := by decide +kernel
theorem dX8_admirer_1 : decode cX8_admirer 1 = .ok (.getfield 12, 3) := by decide +kernel
theorem dX8_admirer_4 : decode cX8_admirer 4 = .ok (.iload_n 1, 1) := by decide +kernel
theorem dX8_admirer_5 : decode cX8_admirer 5 = .ok (.invokevirtual 113, 3) := by decide +kernel
theorem dX8_admirer_8 : decode cX8_admirer 8 = .ok (.ifCond .eq 14, 3) := by decide +kernel
theorem dX8_admirer_11 : decode cX8_admirer 11 = .ok (.aload_n 0, 1) := by decide +kernel
theorem dX8_admirer_12 : decode cX8_admirer 12 = .ok (.getfield 12, 3) := by decide +kernel
theorem dX8_admirer_15 : decode cX8_admirer 15 = .ok (.iload_n 1, 1) := by decide +kernel
theorem dX8_admirer_16 : decode cX8_admirer 16 = .ok (.invokevirtual 369, 3) := by decide +kernel
theorem dX8_admirer_19 : decode cX8_admirer 19 = .ok (.goto 9, 3) := by decide +kernel
theorem dX8_admirer_22 : decode cX8_admirer 22 = .ok (.aload_n 0, 1) := by decide +kernel
theorem dX8_admirer_23 : decode cX8_admirer 23 = .ok (.bipush (-2), 2) := by decide +kernel
theorem dX8_admirer_25 : decode cX8_admirer 25 = .ok (.invokevirtual 59, 3) := by decide +kernel
theorem dX8_admirer_28 : decode cX8_admirer 28 = .ok (.ireturn, 1) := by decide +kernel
theorem dX8_reached_0 : decode cX8_reached 0 = .ok (.aload_n 0, 1) := by decide +kernel
theorem dX8_reached_1 : decode cX8_reached 1 = .ok (.getfield 12, 3) := by decide +kernel
theorem dX8_reached_4 : decode cX8_reached 4 = .ok (.iload_n 1, 1) := by decide +kernel
theorem dX8_reached_5 : decode cX8_reached 5 = .ok (.invokevirtual 145, 3) := by decide +kernel
theorem dX8_reached_8 : decode cX8_reached 8 = .ok (.ifCond .eq 14, 3) := by decide +kernel
theorem dX8_reached_11 : decode cX8_reached 11 = .ok (.aload_n 0, 1) := by decide +kernel
theorem dX8_reached_12 : decode cX8_reached 12 = .ok (.getfield 12, 3) := by decide +kernel
theorem dX8_reached_15 : decode cX8_reached 15 = .ok (.iload_n 1, 1) := by decide +kernel
theorem dX8_reached_16 : decode cX8_reached 16 = .ok (.invokevirtual 372, 3) := by decide +kernel
theorem dX8_reached_19 : decode cX8_reached 19 = .ok (.goto 9, 3) := by decide +kernel
theorem dX8_reached_22 : decode cX8_reached 22 = .ok (.aload_n 0, 1) := by decide +kernel
theorem dX8_reached_23 : decode cX8_reached 23 = .ok (.bipush (-2), 2) := by decide +kernel
theorem dX8_reached_25 : decode cX8_reached 25 = .ok (.invokevirtual 59, 3) := by decide +kernel
theorem dX8_reached_28 : decode cX8_reached 28 = .ok (.ireturn, 1) := by decide +kernel
theorem dX8_late_0 : decode cX8_late 0 = .ok (.aload_n 0, 1) := by decide +kernel
theorem dX8_late_1 : decode cX8_late 1 = .ok (.getfield 12, 3) := by decide +kernel
theorem dX8_late_4 : decode cX8_late 4 = .ok (.iload_n 1, 1) := by decide +kernel
theorem dX8_late_5 : decode cX8_late 5 = .ok (.invokevirtual 113, 3) := by decide +kernel
theorem dX8_late_8 : decode cX8_late 8 = .ok (.ifCond .eq 14, 3) := by decide +kernel
theorem dX8_late_11 : decode cX8_late 11 = .ok (.aload_n 0, 1) := by decide +kernel
theorem dX8_late_12 : decode cX8_late 12 = .ok (.getfield 12, 3) := by decide +kernel
theorem dX8_late_15 : decode cX8_late 15 = .ok (.iload_n 1, 1) := by decide +kernel
theorem dX8_late_16 : decode cX8_late 16 = .ok (.invokevirtual 375, 3) := by decide +kernel
theorem dX8_late_19 : decode cX8_late 19 = .ok (.goto 9, 3) := by decide +kernel
theorem dX8_late_22 : decode cX8_late 22 = .ok (.aload_n 0, 1) := by decide +kernel
theorem dX8_late_23 : decode cX8_late 23 = .ok (.bipush (-2), 2) := by decide +kernel
theorem dX8_late_25 : decode cX8_late 25 = .ok (.invokevirtual 59, 3) := by decide +kernel
theorem dX8_late_28 : decode cX8_late 28 = .ok (.ireturn, 1) := by decide +kernel
theorem dX8_ofKind_0 : decode cX8_ofKind 0 = .ok (.iload_n 1, 1) := by decide +kernel
theorem dX8_ofKind_1 : decode cX8_ofKind 1 = .ok (.invokestatic 120, 3) := by decide +kernel
theorem dX8_ofKind_4 : decode cX8_ofKind 4 = .ok (.ifCond .eq 14, 3) := by decide +kernel
theorem dX8_ofKind_7 : decode cX8_ofKind 7 = .ok (.aload_n 0, 1) := by decide +kernel
theorem dX8_ofKind_8 : decode cX8_ofKind 8 = .ok (.getfield 12, 3) := by decide +kernel
theorem dX8_ofKind_11 : decode cX8_ofKind 11 = .ok (.iload_n 1, 1) := by decide +kernel
theorem dX8_ofKind_12 : decode cX8_ofKind 12 = .ok (.invokevirtual 378, 3) := by decide +kernel
theorem dX8_ofKind_15 : decode cX8_ofKind 15 = .ok (.goto 9, 3) := by decide +kernel
theorem dX8_ofKind_18 : decode cX8_ofKind 18 = .ok (.aload_n 0, 1) := by decide +kernel
theorem dX8_ofKind_19 : decode cX8_ofKind 19 = .ok (.bipush (-2), 2) := by decide +kernel
theorem dX8_ofKind_21 : decode cX8_ofKind 21 = .ok (.invokevirtual 59, 3) := by decide +kernel
theorem dX8_ofKind_24 : decode cX8_ofKind 24 = .ok (.ireturn, 1) := by decide +kernel
theorem dX8_judge_0 : decode cX8_judge 0 = .ok (.iload_n 2, 1) := by decide +kernel
theorem dX8_judge_1 : decode cX8_judge 1 = .ok (.iconst 0, 1) := by decide +kernel
theorem dX8_judge_2 : decode cX8_judge 2 = .ok (.bipush 40, 2) := by decide +kernel
theorem dX8_judge_4 : decode cX8_judge 4 = .ok (.invokestatic 55, 3) := by decide +kernel
theorem dX8_judge_7 : decode cX8_judge 7 = .ok (.ifCond .ne 10, 3) := by decide +kernel
theorem dX8_judge_10 : decode cX8_judge 10 = .ok (.aload_n 0, 1) := by decide +kernel
theorem dX8_judge_11 : decode cX8_judge 11 = .ok (.bipush (-2), 2) := by decide +kernel
theorem dX8_judge_13 : decode cX8_judge 13 = .ok (.invokevirtual 59, 3) := by decide +kernel
theorem dX8_judge_16 : decode cX8_judge 16 = .ok (.ireturn, 1) := by decide +kernel
theorem dX8_judge_17 : decode cX8_judge 17 = .ok (.aload_n 0, 1) := by decide +kernel
theorem dX8_judge_18 : decode cX8_judge 18 = .ok (.iload_n 1, 1) := by decide +kernel
theorem dX8_judge_19 : decode cX8_judge 19 = .ok (.iload_n 2, 1) := by decide +kernel
theorem dX8_judge_20 : decode cX8_judge 20 = .ok (.invokevirtual 67, 3) := by decide +kernel
theorem dX8_judge_23 : decode cX8_judge 23 = .ok (.istore_n 3, 1) := by decide +kernel
theorem dX8_judge_24 : decode cX8_judge 24 = .ok (.iload_n 3, 1) := by decide +kernel
theorem dX8_judge_25 : decode cX8_judge 25 = .ok (.ifCond .eq 9, 3) := by decide +kernel
theorem dX8_judge_28 : decode cX8_judge 28 = .ok (.aload_n 0, 1) := by decide +kernel
theorem dX8_judge_29 : decode cX8_judge 29 = .ok (.iload_n 3, 1) := by decide +kernel
theorem dX8_judge_30 : decode cX8_judge 30 = .ok (.invokevirtual 59, 3) := by decide +kernel
theorem dX8_judge_33 : decode cX8_judge 33 = .ok (.ireturn, 1) := by decide +kernel
theorem dX8_judge_34 : decode cX8_judge 34 = .ok (.aload_n 0, 1) := by decide +kernel
theorem dX8_judge_35 : decode cX8_judge 35 = .ok (.getfield 12, 3) := by decide +kernel
theorem dX8_judge_38 : decode cX8_judge 38 = .ok (.aload_n 0, 1) := by decide +kernel
theorem dX8_judge_39 : decode cX8_judge 39 = .ok (.getfield 42, 3) := by decide +kernel
theorem dX8_judge_42 : decode cX8_judge 42 = .ok (.iload_n 1, 1) := by decide +kernel
theorem dX8_judge_43 : decode cX8_judge 43 = .ok (.aaload, 1) := by decide +kernel
theorem dX8_judge_44 : decode cX8_judge 44 = .ok (.getfield 71, 3) := by decide +kernel
theorem dX8_judge_47 : decode cX8_judge 47 = .ok (.iload_n 2, 1) := by decide +kernel
theorem dX8_judge_48 : decode cX8_judge 48 = .ok (.iconst 1, 1) := by decide +kernel
theorem dX8_judge_49 : decode cX8_judge 49 = .ok (.invokevirtual 286, 3) := by decide +kernel
theorem dX8_judge_52 : decode cX8_judge 52 = .ok (.ireturn, 1) := by decide +kernel
theorem dX8_behind_0 : decode cX8_behind 0 = .ok (.iload_n 2, 1) := by decide +kernel
theorem dX8_behind_1 : decode cX8_behind 1 = .ok (.iconst 0, 1) := by decide +kernel
theorem dX8_behind_2 : decode cX8_behind 2 = .ok (.bipush 40, 2) := by decide +kernel
theorem dX8_behind_4 : decode cX8_behind 4 = .ok (.invokestatic 55, 3) := by decide +kernel
theorem dX8_behind_7 : decode cX8_behind 7 = .ok (.ifCond .eq 11, 3) := by decide +kernel
theorem dX8_behind_10 : decode cX8_behind 10 = .ok (.iload_n 3, 1) := by decide +kernel
theorem dX8_behind_11 : decode cX8_behind 11 = .ok (.iconst 3, 1) := by decide +kernel
theorem dX8_behind_12 : decode cX8_behind 12 = .ok (.invokestatic 166, 3) := by decide +kernel
theorem dX8_behind_15 : decode cX8_behind 15 = .ok (.ifCond .ne 10, 3) := by decide +kernel
theorem dX8_behind_18 : decode cX8_behind 18 = .ok (.aload_n 0, 1) := by decide +kernel
theorem dX8_behind_19 : decode cX8_behind 19 = .ok (.bipush (-2), 2) := by decide +kernel
theorem dX8_behind_21 : decode cX8_behind 21 = .ok (.invokevirtual 59, 3) := by decide +kernel
theorem dX8_behind_24 : decode cX8_behind 24 = .ok (.ireturn, 1) := by decide +kernel
theorem dX8_behind_25 : decode cX8_behind 25 = .ok (.aload_n 0, 1) := by decide +kernel
theorem dX8_behind_26 : decode cX8_behind 26 = .ok (.iload_n 1, 1) := by decide +kernel
theorem dX8_behind_27 : decode cX8_behind 27 = .ok (.iload_n 2, 1) := by decide +kernel
theorem dX8_behind_28 : decode cX8_behind 28 = .ok (.invokevirtual 67, 3) := by decide +kernel
theorem dX8_behind_31 : decode cX8_behind 31 = .ok (.istore 4, 2) := by decide +kernel
theorem dX8_behind_33 : decode cX8_behind 33 = .ok (.iload 4, 2) := by decide +kernel
theorem dX8_behind_35 : decode cX8_behind 35 = .ok (.ifCond .eq 10, 3) := by decide +kernel
theorem dX8_behind_38 : decode cX8_behind 38 = .ok (.aload_n 0, 1) := by decide +kernel
theorem dX8_behind_39 : decode cX8_behind 39 = .ok (.iload 4, 2) := by decide +kernel
theorem dX8_behind_41 : decode cX8_behind 41 = .ok (.invokevirtual 59, 3) := by decide +kernel
theorem dX8_behind_44 : decode cX8_behind 44 = .ok (.ireturn, 1) := by decide +kernel
theorem dX8_behind_45 : decode cX8_behind 45 = .ok (.aload_n 0, 1) := by decide +kernel
theorem dX8_behind_46 : decode cX8_behind 46 = .ok (.getfield 12, 3) := by decide +kernel
theorem dX8_behind_49 : decode cX8_behind 49 = .ok (.aload_n 0, 1) := by decide +kernel
theorem dX8_behind_50 : decode cX8_behind 50 = .ok (.getfield 42, 3) := by decide +kernel
theorem dX8_behind_53 : decode cX8_behind 53 = .ok (.iload_n 1, 1) := by decide +kernel
theorem dX8_behind_54 : decode cX8_behind 54 = .ok (.aaload, 1) := by decide +kernel
theorem dX8_behind_55 : decode cX8_behind 55 = .ok (.getfield 71, 3) := by decide +kernel
theorem dX8_behind_58 : decode cX8_behind 58 = .ok (.iload_n 2, 1) := by decide +kernel
theorem dX8_behind_59 : decode cX8_behind 59 = .ok (.iconst 1, 1) := by decide +kernel
theorem dX8_behind_60 : decode cX8_behind 60 = .ok (.invokevirtual 286, 3) := by decide +kernel
theorem dX8_behind_63 : decode cX8_behind 63 = .ok (.iconst (-1), 1) := by decide +kernel
theorem dX8_behind_64 : decode cX8_behind 64 = .ok (.if_icmp .eq 10, 3) := by decide +kernel
theorem dX8_behind_67 : decode cX8_behind 67 = .ok (.aload_n 0, 1) := by decide +kernel
theorem dX8_behind_68 : decode cX8_behind 68 = .ok (.bipush (-5), 2) := by decide +kernel
theorem dX8_behind_70 : decode cX8_behind 70 = .ok (.invokevirtual 59, 3) := by decide +kernel
theorem dX8_behind_73 : decode cX8_behind 73 = .ok (.ireturn, 1) := by decide +kernel
theorem dX8_behind_74 : decode cX8_behind 74 = .ok (.aload_n 0, 1) := by decide +kernel
theorem dX8_behind_75 : decode cX8_behind 75 = .ok (.invokevirtual 255, 3) := by decide +kernel
theorem dX8_behind_78 : decode cX8_behind 78 = .ok (.aload_n 0, 1) := by decide +kernel
theorem dX8_behind_79 : decode cX8_behind 79 = .ok (.getfield 42, 3) := by decide +kernel
theorem dX8_behind_82 : decode cX8_behind 82 = .ok (.iload_n 1, 1) := by decide +kernel
theorem dX8_behind_83 : decode cX8_behind 83 = .ok (.aaload, 1) := by decide +kernel
theorem dX8_behind_84 : decode cX8_behind 84 = .ok (.getfield 71, 3) := by decide +kernel
theorem dX8_behind_87 : decode cX8_behind 87 = .ok (.iload_n 2, 1) := by decide +kernel
theorem dX8_behind_88 : decode cX8_behind 88 = .ok (.invokevirtual 381, 3) := by decide +kernel
theorem dX8_behind_91 : decode cX8_behind 91 = .ok (.iload_n 3, 1) := by decide +kernel
theorem dX8_behind_92 : decode cX8_behind 92 = .ok (.tableswitch 56 0 2 #[28, 40, 48], 28) := by decide +kernel
theorem dX8_behind_120 : decode cX8_behind 120 = .ok (.aload_n 0, 1) := by decide +kernel
theorem dX8_behind_121 : decode cX8_behind 121 = .ok (.getfield 22, 3) := by decide +kernel
theorem dX8_behind_124 : decode cX8_behind 124 = .ok (.getfield 385, 3) := by decide +kernel
theorem dX8_behind_127 : decode cX8_behind 127 = .ok (.iconst 0, 1) := by decide +kernel
theorem dX8_behind_128 : decode cX8_behind 128 = .ok (.invokevirtual 333, 3) := by decide +kernel
theorem dX8_behind_131 : decode cX8_behind 131 = .ok (.ireturn, 1) := by decide +kernel
theorem dX8_behind_132 : decode cX8_behind 132 = .ok (.aload_n 0, 1) := by decide +kernel
theorem dX8_behind_133 : decode cX8_behind 133 = .ok (.getfield 22, 3) := by decide +kernel
theorem dX8_behind_136 : decode cX8_behind 136 = .ok (.getfield 386, 3) := by decide +kernel
theorem dX8_behind_139 : decode cX8_behind 139 = .ok (.ireturn, 1) := by decide +kernel
theorem dX8_behind_140 : decode cX8_behind 140 = .ok (.aload_n 0, 1) := by decide +kernel
theorem dX8_behind_141 : decode cX8_behind 141 = .ok (.getfield 22, 3) := by decide +kernel
theorem dX8_behind_144 : decode cX8_behind 144 = .ok (.getfield 389, 3) := by decide +kernel
theorem dX8_behind_147 : decode cX8_behind 147 = .ok (.ireturn, 1) := by decide +kernel
theorem dX8_behind_148 : decode cX8_behind 148 = .ok (.aload_n 0, 1) := by decide +kernel
theorem dX8_behind_149 : decode cX8_behind 149 = .ok (.getfield 22, 3) := by decide +kernel
theorem dX8_behind_152 : decode cX8_behind 152 = .ok (.getfield 392, 3) := by decide +kernel
theorem dX8_behind_155 : decode cX8_behind 155 = .ok (.ireturn, 1) := by decide +kernel
theorem dX8_thrown_0 : decode cX8_thrown 0 = .ok (.aload_n 0, 1) := by decide +kernel
theorem dX8_thrown_1 : decode cX8_thrown 1 = .ok (.iload_n 1, 1) := by decide +kernel
theorem dX8_thrown_2 : decode cX8_thrown 2 = .ok (.iload_n 2, 1) := by decide +kernel
theorem dX8_thrown_3 : decode cX8_thrown 3 = .ok (.iload_n 3, 1) := by decide +kernel
theorem dX8_thrown_4 : decode cX8_thrown 4 = .ok (.invokevirtual 225, 3) := by decide +kernel
theorem dX8_thrown_7 : decode cX8_thrown 7 = .ok (.ifCond .eq 16, 3) := by decide +kernel
theorem dX8_thrown_10 : decode cX8_thrown 10 = .ok (.aload_n 0, 1) := by decide +kernel
theorem dX8_thrown_11 : decode cX8_thrown 11 = .ok (.getfield 12, 3) := by decide +kernel
theorem dX8_thrown_14 : decode cX8_thrown 14 = .ok (.iload_n 1, 1) := by decide +kernel
theorem dX8_thrown_15 : decode cX8_thrown 15 = .ok (.iload_n 2, 1) := by decide +kernel
theorem dX8_thrown_16 : decode cX8_thrown 16 = .ok (.iload_n 3, 1) := by decide +kernel
theorem dX8_thrown_17 : decode cX8_thrown 17 = .ok (.invokevirtual 395, 3) := by decide +kernel
theorem dX8_thrown_20 : decode cX8_thrown 20 = .ok (.goto 9, 3) := by decide +kernel
theorem dX8_thrown_23 : decode cX8_thrown 23 = .ok (.aload_n 0, 1) := by decide +kernel
theorem dX8_thrown_24 : decode cX8_thrown 24 = .ok (.bipush (-2), 2) := by decide +kernel
theorem dX8_thrown_26 : decode cX8_thrown 26 = .ok (.invokevirtual 59, 3) := by decide +kernel
theorem dX8_thrown_29 : decode cX8_thrown 29 = .ok (.ireturn, 1) := by decide +kernel
theorem dX8_days_0 : decode cX8_days 0 = .ok (.iload_n 1, 1) := by decide +kernel
theorem dX8_days_1 : decode cX8_days 1 = .ok (.iconst 1, 1) := by decide +kernel
theorem dX8_days_2 : decode cX8_days 2 = .ok (.bipush 60, 2) := by decide +kernel
theorem dX8_days_4 : decode cX8_days 4 = .ok (.invokestatic 55, 3) := by decide +kernel
theorem dX8_days_7 : decode cX8_days 7 = .ok (.ifCond .ne 10, 3) := by decide +kernel
theorem dX8_days_10 : decode cX8_days 10 = .ok (.aload_n 0, 1) := by decide +kernel
theorem dX8_days_11 : decode cX8_days 11 = .ok (.bipush (-2), 2) := by decide +kernel
theorem dX8_days_13 : decode cX8_days 13 = .ok (.invokevirtual 59, 3) := by decide +kernel
theorem dX8_days_16 : decode cX8_days 16 = .ok (.ireturn, 1) := by decide +kernel
theorem dX8_days_17 : decode cX8_days 17 = .ok (.iconst 0, 1) := by decide +kernel
theorem dX8_days_18 : decode cX8_days 18 = .ok (.istore_n 2, 1) := by decide +kernel
theorem dX8_days_19 : decode cX8_days 19 = .ok (.iload_n 2, 1) := by decide +kernel
theorem dX8_days_20 : decode cX8_days 20 = .ok (.iload_n 1, 1) := by decide +kernel
theorem dX8_days_21 : decode cX8_days 21 = .ok (.if_icmp .ge 16, 3) := by decide +kernel
theorem dX8_days_24 : decode cX8_days 24 = .ok (.aload_n 0, 1) := by decide +kernel
theorem dX8_days_25 : decode cX8_days 25 = .ok (.getfield 12, 3) := by decide +kernel
theorem dX8_days_28 : decode cX8_days 28 = .ok (.invokevirtual 398, 3) := by decide +kernel
theorem dX8_days_31 : decode cX8_days 31 = .ok (.iinc 2 1, 3) := by decide +kernel
theorem dX8_days_34 : decode cX8_days 34 = .ok (.goto (-15), 3) := by decide +kernel
theorem dX8_days_37 : decode cX8_days 37 = .ok (.aload_n 0, 1) := by decide +kernel
theorem dX8_days_38 : decode cX8_days 38 = .ok (.getfield 12, 3) := by decide +kernel
theorem dX8_days_41 : decode cX8_days 41 = .ok (.getfield 401, 3) := by decide +kernel
theorem dX8_days_44 : decode cX8_days 44 = .ok (.ireturn, 1) := by decide +kernel
theorem dX8_drawn_0 : decode cX8_drawn 0 = .ok (.iload_n 1, 1) := by decide +kernel
theorem dX8_drawn_1 : decode cX8_drawn 1 = .ok (.iconst 1, 1) := by decide +kernel
theorem dX8_drawn_2 : decode cX8_drawn 2 = .ok (.bipush 40, 2) := by decide +kernel
theorem dX8_drawn_4 : decode cX8_drawn 4 = .ok (.invokestatic 55, 3) := by decide +kernel
theorem dX8_drawn_7 : decode cX8_drawn 7 = .ok (.ifCond .ne 10, 3) := by decide +kernel
theorem dX8_drawn_10 : decode cX8_drawn 10 = .ok (.aload_n 0, 1) := by decide +kernel
theorem dX8_drawn_11 : decode cX8_drawn 11 = .ok (.bipush (-2), 2) := by decide +kernel
theorem dX8_drawn_13 : decode cX8_drawn 13 = .ok (.invokevirtual 59, 3) := by decide +kernel
theorem dX8_drawn_16 : decode cX8_drawn 16 = .ok (.ireturn, 1) := by decide +kernel
theorem dX8_drawn_17 : decode cX8_drawn 17 = .ok (.aload_n 0, 1) := by decide +kernel
theorem dX8_drawn_18 : decode cX8_drawn 18 = .ok (.getfield 12, 3) := by decide +kernel
theorem dX8_drawn_21 : decode cX8_drawn 21 = .ok (.getfield 343, 3) := by decide +kernel
theorem dX8_drawn_24 : decode cX8_drawn 24 = .ok (.ifCond .ne 10, 3) := by decide +kernel
theorem dX8_drawn_27 : decode cX8_drawn 27 = .ok (.aload_n 0, 1) := by decide +kernel
theorem dX8_drawn_28 : decode cX8_drawn 28 = .ok (.bipush (-5), 2) := by decide +kernel
theorem dX8_drawn_30 : decode cX8_drawn 30 = .ok (.invokevirtual 59, 3) := by decide +kernel
theorem dX8_drawn_33 : decode cX8_drawn 33 = .ok (.ireturn, 1) := by decide +kernel
theorem dX8_drawn_34 : decode cX8_drawn 34 = .ok (.iconst 0, 1) := by decide +kernel
theorem dX8_drawn_35 : decode cX8_drawn 35 = .ok (.istore_n 2, 1) := by decide +kernel
theorem dX8_drawn_36 : decode cX8_drawn 36 = .ok (.iconst 0, 1) := by decide +kernel
theorem dX8_drawn_37 : decode cX8_drawn 37 = .ok (.istore_n 3, 1) := by decide +kernel
theorem dX8_drawn_38 : decode cX8_drawn 38 = .ok (.iload_n 3, 1) := by decide +kernel
theorem dX8_drawn_39 : decode cX8_drawn 39 = .ok (.iload_n 1, 1) := by decide +kernel
theorem dX8_drawn_40 : decode cX8_drawn 40 = .ok (.if_icmp .ge 23, 3) := by decide +kernel
theorem dX8_drawn_43 : decode cX8_drawn 43 = .ok (.aload_n 0, 1) := by decide +kernel
theorem dX8_drawn_44 : decode cX8_drawn 44 = .ok (.getfield 12, 3) := by decide +kernel
theorem dX8_drawn_47 : decode cX8_drawn 47 = .ok (.invokevirtual 404, 3) := by decide +kernel
theorem dX8_drawn_50 : decode cX8_drawn 50 = .ok (.iconst (-1), 1) := by decide +kernel
theorem dX8_drawn_51 : decode cX8_drawn 51 = .ok (.if_icmp .eq 6, 3) := by decide +kernel
theorem dX8_drawn_54 : decode cX8_drawn 54 = .ok (.iinc 2 1, 3) := by decide +kernel
theorem dX8_drawn_57 : decode cX8_drawn 57 = .ok (.iinc 3 1, 3) := by decide +kernel
theorem dX8_drawn_60 : decode cX8_drawn 60 = .ok (.goto (-22), 3) := by decide +kernel
theorem dX8_drawn_63 : decode cX8_drawn 63 = .ok (.iload_n 2, 1) := by decide +kernel
theorem dX8_drawn_64 : decode cX8_drawn 64 = .ok (.ireturn, 1) := by decide +kernel
theorem dX8_seed_0 : decode cX8_seed 0 = .ok (.aload_n 0, 1) := by decide +kernel
theorem dX8_seed_1 : decode cX8_seed 1 = .ok (.getfield 12, 3) := by decide +kernel
theorem dX8_seed_4 : decode cX8_seed 4 = .ok (.getfield 407, 3) := by decide +kernel
theorem dX8_seed_7 : decode cX8_seed 7 = .ok (.istore_n 2, 1) := by decide +kernel
theorem dX8_seed_8 : decode cX8_seed 8 = .ok (.aload_n 0, 1) := by decide +kernel
theorem dX8_seed_9 : decode cX8_seed 9 = .ok (.getfield 12, 3) := by decide +kernel
theorem dX8_seed_12 : decode cX8_seed 12 = .ok (.iload_n 1, 1) := by decide +kernel
theorem dX8_seed_13 : decode cX8_seed 13 = .ok (.putfield 407, 3) := by decide +kernel
theorem dX8_seed_16 : decode cX8_seed 16 = .ok (.iload_n 2, 1) := by decide +kernel
theorem dX8_seed_17 : decode cX8_seed 17 = .ok (.ireturn, 1) := by decide +kernel
theorem dX8_image_0 : decode cX8_image 0 = .ok (.aload_n 0, 1) := by decide +kernel
theorem dX8_image_1 : decode cX8_image 1 = .ok (.getfield 16, 3) := by decide +kernel
theorem dX8_image_4 : decode cX8_image 4 = .ok (.aload_n 0, 1) := by decide +kernel
theorem dX8_image_5 : decode cX8_image 5 = .ok (.getfield 12, 3) := by decide +kernel
theorem dX8_image_8 : decode cX8_image 8 = .ok (.invokevirtual 187, 3) := by decide +kernel
theorem dX8_image_11 : decode cX8_image 11 = .ok (.aload_n 0, 1) := by decide +kernel
theorem dX8_image_12 : decode cX8_image 12 = .ok (.iconst 1, 1) := by decide +kernel
theorem dX8_image_13 : decode cX8_image 13 = .ok (.putfield 410, 3) := by decide +kernel
theorem dX8_image_16 : decode cX8_image 16 = .ok (.iconst 1, 1) := by decide +kernel
theorem dX8_image_17 : decode cX8_image 17 = .ok (.ireturn, 1) := by decide +kernel
theorem dX8_back_0 : decode cX8_back 0 = .ok (.aload_n 0, 1) := by decide +kernel
theorem dX8_back_1 : decode cX8_back 1 = .ok (.getfield 410, 3) := by decide +kernel
theorem dX8_back_4 : decode cX8_back 4 = .ok (.ifCond .ne 10, 3) := by decide +kernel
theorem dX8_back_7 : decode cX8_back 7 = .ok (.aload_n 0, 1) := by decide +kernel
theorem dX8_back_8 : decode cX8_back 8 = .ok (.bipush (-5), 2) := by decide +kernel
theorem dX8_back_10 : decode cX8_back 10 = .ok (.invokevirtual 59, 3) := by decide +kernel
theorem dX8_back_13 : decode cX8_back 13 = .ok (.ireturn, 1) := by decide +kernel
theorem dX8_back_14 : decode cX8_back 14 = .ok (.aload_n 0, 1) := by decide +kernel
theorem dX8_back_15 : decode cX8_back 15 = .ok (.getfield 12, 3) := by decide +kernel
theorem dX8_back_18 : decode cX8_back 18 = .ok (.aload_n 0, 1) := by decide +kernel
theorem dX8_back_19 : decode cX8_back 19 = .ok (.getfield 16, 3) := by decide +kernel
theorem dX8_back_22 : decode cX8_back 22 = .ok (.invokevirtual 187, 3) := by decide +kernel
theorem dX8_back_25 : decode cX8_back 25 = .ok (.iconst 0, 1) := by decide +kernel
theorem dX8_back_26 : decode cX8_back 26 = .ok (.istore_n 1, 1) := by decide +kernel
theorem dX8_back_27 : decode cX8_back 27 = .ok (.iload_n 1, 1) := by decide +kernel
theorem dX8_back_28 : decode cX8_back 28 = .ok (.bipush 8, 2) := by decide +kernel
theorem dX8_back_30 : decode cX8_back 30 = .ok (.if_icmp .ge 38, 3) := by decide +kernel
theorem dX8_back_33 : decode cX8_back 33 = .ok (.aload_n 0, 1) := by decide +kernel
theorem dX8_back_34 : decode cX8_back 34 = .ok (.getfield 42, 3) := by decide +kernel
theorem dX8_back_37 : decode cX8_back 37 = .ok (.iload_n 1, 1) := by decide +kernel
theorem dX8_back_38 : decode cX8_back 38 = .ok (.aaload, 1) := by decide +kernel
theorem dX8_back_39 : decode cX8_back 39 = .ok (.getfield 88, 3) := by decide +kernel
theorem dX8_back_42 : decode cX8_back 42 = .ok (.aload_n 0, 1) := by decide +kernel
theorem dX8_back_43 : decode cX8_back 43 = .ok (.getfield 12, 3) := by decide +kernel
theorem dX8_back_46 : decode cX8_back 46 = .ok (.getfield 413, 3) := by decide +kernel
theorem dX8_back_49 : decode cX8_back 49 = .ok (.if_icmp .lt 13, 3) := by decide +kernel
theorem dX8_back_52 : decode cX8_back 52 = .ok (.aload_n 0, 1) := by decide +kernel
theorem dX8_back_53 : decode cX8_back 53 = .ok (.getfield 42, 3) := by decide +kernel
theorem dX8_back_56 : decode cX8_back 56 = .ok (.iload_n 1, 1) := by decide +kernel
theorem dX8_back_57 : decode cX8_back 57 = .ok (.aaload, 1) := by decide +kernel
theorem dX8_back_58 : decode cX8_back 58 = .ok (.iconst (-1), 1) := by decide +kernel
theorem dX8_back_59 : decode cX8_back 59 = .ok (.invokevirtual 116, 3) := by decide +kernel
theorem dX8_back_62 : decode cX8_back 62 = .ok (.iinc 1 1, 3) := by decide +kernel
theorem dX8_back_65 : decode cX8_back 65 = .ok (.goto (-38), 3) := by decide +kernel
theorem dX8_back_68 : decode cX8_back 68 = .ok (.iconst 1, 1) := by decide +kernel
theorem dX8_back_69 : decode cX8_back 69 = .ok (.ireturn, 1) := by decide +kernel
theorem dX8_status_0 : decode cX8_status 0 = .ok (.iload_n 1, 1) := by decide +kernel
theorem dX8_status_1 : decode cX8_status 1 = .ok (.bipush 12, 2) := by decide +kernel
theorem dX8_status_3 : decode cX8_status 3 = .ok (.if_icmp .lt 19, 3) := by decide +kernel
theorem dX8_status_6 : decode cX8_status 6 = .ok (.iload_n 1, 1) := by decide +kernel
theorem dX8_status_7 : decode cX8_status 7 = .ok (.bipush 16, 2) := by decide +kernel
theorem dX8_status_9 : decode cX8_status 9 = .ok (.if_icmp .gt 13, 3) := by decide +kernel
theorem dX8_status_12 : decode cX8_status 12 = .ok (.aload_n 0, 1) := by decide +kernel
theorem dX8_status_13 : decode cX8_status 13 = .ok (.getfield 46, 3) := by decide +kernel
theorem dX8_status_16 : decode cX8_status 16 = .ok (.iload_n 1, 1) := by decide +kernel
theorem dX8_status_17 : decode cX8_status 17 = .ok (.bipush 10, 2) := by decide +kernel
theorem dX8_status_19 : decode cX8_status 19 = .ok (.isub, 1) := by decide +kernel
theorem dX8_status_20 : decode cX8_status 20 = .ok (.iaload, 1) := by decide +kernel
theorem dX8_status_21 : decode cX8_status 21 = .ok (.ireturn, 1) := by decide +kernel
theorem dX8_status_22 : decode cX8_status 22 = .ok (.iload_n 1, 1) := by decide +kernel
theorem dX8_status_23 : decode cX8_status 23 = .ok (.tableswitch 146 0 10 #[57, 65, 73, 81, 89, 97, 105, 113, 125, 133, 141], 57) := by decide +kernel
theorem dX8_status_80 : decode cX8_status 80 = .ok (.aload_n 0, 1) := by decide +kernel
theorem dX8_status_81 : decode cX8_status 81 = .ok (.getfield 12, 3) := by decide +kernel
theorem dX8_status_84 : decode cX8_status 84 = .ok (.getfield 413, 3) := by decide +kernel
theorem dX8_status_87 : decode cX8_status 87 = .ok (.ireturn, 1) := by decide +kernel
theorem dX8_status_88 : decode cX8_status 88 = .ok (.aload_n 0, 1) := by decide +kernel
theorem dX8_status_89 : decode cX8_status 89 = .ok (.getfield 12, 3) := by decide +kernel
theorem dX8_status_92 : decode cX8_status 92 = .ok (.getfield 343, 3) := by decide +kernel
theorem dX8_status_95 : decode cX8_status 95 = .ok (.ireturn, 1) := by decide +kernel
theorem dX8_status_96 : decode cX8_status 96 = .ok (.aload_n 0, 1) := by decide +kernel
theorem dX8_status_97 : decode cX8_status 97 = .ok (.getfield 12, 3) := by decide +kernel
theorem dX8_status_100 : decode cX8_status 100 = .ok (.getfield 142, 3) := by decide +kernel
theorem dX8_status_103 : decode cX8_status 103 = .ok (.ireturn, 1) := by decide +kernel
theorem dX8_status_104 : decode cX8_status 104 = .ok (.aload_n 0, 1) := by decide +kernel
theorem dX8_status_105 : decode cX8_status 105 = .ok (.getfield 12, 3) := by decide +kernel
theorem dX8_status_108 : decode cX8_status 108 = .ok (.getfield 169, 3) := by decide +kernel
theorem dX8_status_111 : decode cX8_status 111 = .ok (.ireturn, 1) := by decide +kernel
theorem dX8_status_112 : decode cX8_status 112 = .ok (.aload_n 0, 1) := by decide +kernel
theorem dX8_status_113 : decode cX8_status 113 = .ok (.getfield 12, 3) := by decide +kernel
theorem dX8_status_116 : decode cX8_status 116 = .ok (.getfield 172, 3) := by decide +kernel
theorem dX8_status_119 : decode cX8_status 119 = .ok (.ireturn, 1) := by decide +kernel
theorem dX8_status_120 : decode cX8_status 120 = .ok (.aload_n 0, 1) := by decide +kernel
theorem dX8_status_121 : decode cX8_status 121 = .ok (.getfield 12, 3) := by decide +kernel
theorem dX8_status_124 : decode cX8_status 124 = .ok (.getfield 175, 3) := by decide +kernel
theorem dX8_status_127 : decode cX8_status 127 = .ok (.ireturn, 1) := by decide +kernel
theorem dX8_status_128 : decode cX8_status 128 = .ok (.aload_n 0, 1) := by decide +kernel
theorem dX8_status_129 : decode cX8_status 129 = .ok (.getfield 12, 3) := by decide +kernel
theorem dX8_status_132 : decode cX8_status 132 = .ok (.getfield 401, 3) := by decide +kernel
theorem dX8_status_135 : decode cX8_status 135 = .ok (.ireturn, 1) := by decide +kernel
theorem dX8_status_136 : decode cX8_status 136 = .ok (.aload_n 0, 1) := by decide +kernel
theorem dX8_status_137 : decode cX8_status 137 = .ok (.getfield 12, 3) := by decide +kernel
theorem dX8_status_140 : decode cX8_status 140 = .ok (.iconst 0, 1) := by decide +kernel
theorem dX8_status_141 : decode cX8_status 141 = .ok (.invokevirtual 333, 3) := by decide +kernel
theorem dX8_status_144 : decode cX8_status 144 = .ok (.invokestatic 349, 3) := by decide +kernel
theorem dX8_status_147 : decode cX8_status 147 = .ok (.ireturn, 1) := by decide +kernel
theorem dX8_status_148 : decode cX8_status 148 = .ok (.aload_n 0, 1) := by decide +kernel
theorem dX8_status_149 : decode cX8_status 149 = .ok (.getfield 36, 3) := by decide +kernel
theorem dX8_status_152 : decode cX8_status 152 = .ok (.getfield 178, 3) := by decide +kernel
theorem dX8_status_155 : decode cX8_status 155 = .ok (.ireturn, 1) := by decide +kernel
theorem dX8_status_156 : decode cX8_status 156 = .ok (.aload_n 0, 1) := by decide +kernel
theorem dX8_status_157 : decode cX8_status 157 = .ok (.getfield 12, 3) := by decide +kernel
theorem dX8_status_160 : decode cX8_status 160 = .ok (.getfield 407, 3) := by decide +kernel
theorem dX8_status_163 : decode cX8_status 163 = .ok (.ireturn, 1) := by decide +kernel
theorem dX8_status_164 : decode cX8_status 164 = .ok (.aload_n 0, 1) := by decide +kernel
theorem dX8_status_165 : decode cX8_status 165 = .ok (.invokevirtual 416, 3) := by decide +kernel
theorem dX8_status_168 : decode cX8_status 168 = .ok (.ireturn, 1) := by decide +kernel
theorem dX8_status_169 : decode cX8_status 169 = .ok (.iconst (-1), 1) := by decide +kernel
theorem dX8_status_170 : decode cX8_status 170 = .ok (.ireturn, 1) := by decide +kernel
theorem dX8_refuse_0 : decode cX8_refuse 0 = .ok (.aload_n 0, 1) := by decide +kernel
theorem dX8_refuse_1 : decode cX8_refuse 1 = .ok (.getfield 46, 3) := by decide +kernel
theorem dX8_refuse_4 : decode cX8_refuse 4 = .ok (.iload_n 1, 1) := by decide +kernel
theorem dX8_refuse_5 : decode cX8_refuse 5 = .ok (.ineg, 1) := by decide +kernel
theorem dX8_refuse_6 : decode cX8_refuse 6 = .ok (.dup2, 1) := by decide +kernel
theorem dX8_refuse_7 : decode cX8_refuse 7 = .ok (.iaload, 1) := by decide +kernel
theorem dX8_refuse_8 : decode cX8_refuse 8 = .ok (.iconst 1, 1) := by decide +kernel
theorem dX8_refuse_9 : decode cX8_refuse 9 = .ok (.iadd, 1) := by decide +kernel
theorem dX8_refuse_10 : decode cX8_refuse 10 = .ok (.iastore, 1) := by decide +kernel
theorem dX8_refuse_11 : decode cX8_refuse 11 = .ok (.iload_n 1, 1) := by decide +kernel
theorem dX8_refuse_12 : decode cX8_refuse 12 = .ok (.ireturn, 1) := by decide +kernel
theorem dX8_rowRefusal_0 : decode cX8_rowRefusal 0 = .ok (.iload_n 1, 1) := by decide +kernel
theorem dX8_rowRefusal_1 : decode cX8_rowRefusal 1 = .ok (.invokestatic 51, 3) := by decide +kernel
theorem dX8_rowRefusal_4 : decode cX8_rowRefusal 4 = .ok (.ifCond .ne 6, 3) := by decide +kernel
theorem dX8_rowRefusal_7 : decode cX8_rowRefusal 7 = .ok (.bipush (-2), 2) := by decide +kernel
theorem dX8_rowRefusal_9 : decode cX8_rowRefusal 9 = .ok (.ireturn, 1) := by decide +kernel
theorem dX8_rowRefusal_10 : decode cX8_rowRefusal 10 = .ok (.aload_n 0, 1) := by decide +kernel
theorem dX8_rowRefusal_11 : decode cX8_rowRefusal 11 = .ok (.getfield 42, 3) := by decide +kernel
theorem dX8_rowRefusal_14 : decode cX8_rowRefusal 14 = .ok (.iload_n 1, 1) := by decide +kernel
theorem dX8_rowRefusal_15 : decode cX8_rowRefusal 15 = .ok (.aaload, 1) := by decide +kernel
theorem dX8_rowRefusal_16 : decode cX8_rowRefusal 16 = .ok (.astore_n 3, 1) := by decide +kernel
theorem dX8_rowRefusal_17 : decode cX8_rowRefusal 17 = .ok (.aload_n 3, 1) := by decide +kernel
theorem dX8_rowRefusal_18 : decode cX8_rowRefusal 18 = .ok (.getfield 88, 3) := by decide +kernel
theorem dX8_rowRefusal_21 : decode cX8_rowRefusal 21 = .ok (.iconst (-1), 1) := by decide +kernel
theorem dX8_rowRefusal_22 : decode cX8_rowRefusal 22 = .ok (.if_icmp .eq 6, 3) := by decide +kernel
theorem dX8_rowRefusal_25 : decode cX8_rowRefusal 25 = .ok (.bipush (-3), 2) := by decide +kernel
theorem dX8_rowRefusal_27 : decode cX8_rowRefusal 27 = .ok (.ireturn, 1) := by decide +kernel
theorem dX8_rowRefusal_28 : decode cX8_rowRefusal 28 = .ok (.aload_n 3, 1) := by decide +kernel
theorem dX8_rowRefusal_29 : decode cX8_rowRefusal 29 = .ok (.getfield 92, 3) := by decide +kernel
theorem dX8_rowRefusal_32 : decode cX8_rowRefusal 32 = .ok (.ifCond .ne 6, 3) := by decide +kernel
theorem dX8_rowRefusal_35 : decode cX8_rowRefusal 35 = .ok (.bipush (-4), 2) := by decide +kernel
theorem dX8_rowRefusal_37 : decode cX8_rowRefusal 37 = .ok (.ireturn, 1) := by decide +kernel
theorem dX8_rowRefusal_38 : decode cX8_rowRefusal 38 = .ok (.aload_n 3, 1) := by decide +kernel
theorem dX8_rowRefusal_39 : decode cX8_rowRefusal 39 = .ok (.getfield 71, 3) := by decide +kernel
theorem dX8_rowRefusal_42 : decode cX8_rowRefusal 42 = .ok (.getfield 419, 3) := by decide +kernel
theorem dX8_rowRefusal_45 : decode cX8_rowRefusal 45 = .ok (.iload_n 2, 1) := by decide +kernel
theorem dX8_rowRefusal_46 : decode cX8_rowRefusal 46 = .ok (.if_icmp .ge 8, 3) := by decide +kernel
theorem dX8_rowRefusal_49 : decode cX8_rowRefusal 49 = .ok (.bipush (-2), 2) := by decide +kernel
theorem dX8_rowRefusal_51 : decode cX8_rowRefusal 51 = .ok (.goto 4, 3) := by decide +kernel
theorem dX8_rowRefusal_54 : decode cX8_rowRefusal 54 = .ok (.iconst 0, 1) := by decide +kernel
theorem dX8_rowRefusal_55 : decode cX8_rowRefusal 55 = .ok (.ireturn, 1) := by decide +kernel
theorem dX8_freshOutlook_0 : decode cX8_freshOutlook 0 = .ok (.aload_n 0, 1) := by decide +kernel
theorem dX8_freshOutlook_1 : decode cX8_freshOutlook 1 = .ok (.getfield 22, 3) := by decide +kernel
theorem dX8_freshOutlook_4 : decode cX8_freshOutlook 4 = .ok (.getfield 385, 3) := by decide +kernel
theorem dX8_freshOutlook_7 : decode cX8_freshOutlook 7 = .ok (.aload_n 0, 1) := by decide +kernel
theorem dX8_freshOutlook_8 : decode cX8_freshOutlook 8 = .ok (.getfield 12, 3) := by decide +kernel
theorem dX8_freshOutlook_11 : decode cX8_freshOutlook 11 = .ok (.invokevirtual 187, 3) := by decide +kernel
theorem dX8_freshOutlook_14 : decode cX8_freshOutlook 14 = .ok (.aload_n 0, 1) := by decide +kernel
theorem dX8_freshOutlook_15 : decode cX8_freshOutlook 15 = .ok (.getfield 22, 3) := by decide +kernel
theorem dX8_freshOutlook_18 : decode cX8_freshOutlook 18 = .ok (.areturn, 1) := by decide +kernel
theorem dX8_countFilledShelves_0 : decode cX8_countFilledShelves 0 = .ok (.iconst 0, 1) := by decide +kernel
theorem dX8_countFilledShelves_1 : decode cX8_countFilledShelves 1 = .ok (.istore_n 1, 1) := by decide +kernel
theorem dX8_countFilledShelves_2 : decode cX8_countFilledShelves 2 = .ok (.iconst 0, 1) := by decide +kernel
theorem dX8_countFilledShelves_3 : decode cX8_countFilledShelves 3 = .ok (.istore_n 2, 1) := by decide +kernel
theorem dX8_countFilledShelves_4 : decode cX8_countFilledShelves 4 = .ok (.iload_n 2, 1) := by decide +kernel
theorem dX8_countFilledShelves_5 : decode cX8_countFilledShelves 5 = .ok (.bipush 8, 2) := by decide +kernel
theorem dX8_countFilledShelves_7 : decode cX8_countFilledShelves 7 = .ok (.if_icmp .ge 24, 3) := by decide +kernel
theorem dX8_countFilledShelves_10 : decode cX8_countFilledShelves 10 = .ok (.aload_n 0, 1) := by decide +kernel
theorem dX8_countFilledShelves_11 : decode cX8_countFilledShelves 11 = .ok (.getfield 42, 3) := by decide +kernel
theorem dX8_countFilledShelves_14 : decode cX8_countFilledShelves 14 = .ok (.iload_n 2, 1) := by decide +kernel
theorem dX8_countFilledShelves_15 : decode cX8_countFilledShelves 15 = .ok (.aaload, 1) := by decide +kernel
theorem dX8_countFilledShelves_16 : decode cX8_countFilledShelves 16 = .ok (.invokevirtual 109, 3) := by decide +kernel
theorem dX8_countFilledShelves_19 : decode cX8_countFilledShelves 19 = .ok (.ifCond .ne 6, 3) := by decide +kernel
theorem dX8_countFilledShelves_22 : decode cX8_countFilledShelves 22 = .ok (.iinc 1 1, 3) := by decide +kernel
theorem dX8_countFilledShelves_25 : decode cX8_countFilledShelves 25 = .ok (.iinc 2 1, 3) := by decide +kernel
theorem dX8_countFilledShelves_28 : decode cX8_countFilledShelves 28 = .ok (.goto (-24), 3) := by decide +kernel
theorem dX8_countFilledShelves_31 : decode cX8_countFilledShelves 31 = .ok (.iload_n 1, 1) := by decide +kernel
theorem dX8_countFilledShelves_32 : decode cX8_countFilledShelves 32 = .ok (.ireturn, 1) := by decide +kernel
theorem dX8_isCouple_0 : decode cX8_isCouple 0 = .ok (.aload_n 0, 1) := by decide +kernel
theorem dX8_isCouple_1 : decode cX8_isCouple 1 = .ok (.getfield 12, 3) := by decide +kernel
theorem dX8_isCouple_4 : decode cX8_isCouple 4 = .ok (.iload_n 1, 1) := by decide +kernel
theorem dX8_isCouple_5 : decode cX8_isCouple 5 = .ok (.invokevirtual 113, 3) := by decide +kernel
theorem dX8_isCouple_8 : decode cX8_isCouple 8 = .ok (.ifCond .eq 18, 3) := by decide +kernel
theorem dX8_isCouple_11 : decode cX8_isCouple 11 = .ok (.aload_n 0, 1) := by decide +kernel
theorem dX8_isCouple_12 : decode cX8_isCouple 12 = .ok (.getfield 12, 3) := by decide +kernel
theorem dX8_isCouple_15 : decode cX8_isCouple 15 = .ok (.iload_n 2, 1) := by decide +kernel
theorem dX8_isCouple_16 : decode cX8_isCouple 16 = .ok (.invokevirtual 207, 3) := by decide +kernel
theorem dX8_isCouple_19 : decode cX8_isCouple 19 = .ok (.ifCond .eq 7, 3) := by decide +kernel
theorem dX8_isCouple_22 : decode cX8_isCouple 22 = .ok (.iconst 1, 1) := by decide +kernel
theorem dX8_isCouple_23 : decode cX8_isCouple 23 = .ok (.goto 4, 3) := by decide +kernel
theorem dX8_isCouple_26 : decode cX8_isCouple 26 = .ok (.iconst 0, 1) := by decide +kernel
theorem dX8_isCouple_27 : decode cX8_isCouple 27 = .ok (.ireturn, 1) := by decide +kernel
theorem dX8_isThrow_0 : decode cX8_isThrow 0 = .ok (.aload_n 0, 1) := by decide +kernel
theorem dX8_isThrow_1 : decode cX8_isThrow 1 = .ok (.getfield 12, 3) := by decide +kernel
theorem dX8_isThrow_4 : decode cX8_isThrow 4 = .ok (.iload_n 1, 1) := by decide +kernel
theorem dX8_isThrow_5 : decode cX8_isThrow 5 = .ok (.invokevirtual 207, 3) := by decide +kernel
theorem dX8_isThrow_8 : decode cX8_isThrow 8 = .ok (.ifCond .eq 26, 3) := by decide +kernel
theorem dX8_isThrow_11 : decode cX8_isThrow 11 = .ok (.iload_n 2, 1) := by decide +kernel
theorem dX8_isThrow_12 : decode cX8_isThrow 12 = .ok (.iconst 0, 1) := by decide +kernel
theorem dX8_isThrow_13 : decode cX8_isThrow 13 = .ok (.bipush 9, 2) := by decide +kernel
theorem dX8_isThrow_15 : decode cX8_isThrow 15 = .ok (.invokestatic 55, 3) := by decide +kernel
theorem dX8_isThrow_18 : decode cX8_isThrow 18 = .ok (.ifCond .eq 16, 3) := by decide +kernel
theorem dX8_isThrow_21 : decode cX8_isThrow 21 = .ok (.iload_n 3, 1) := by decide +kernel
theorem dX8_isThrow_22 : decode cX8_isThrow 22 = .ok (.iconst 0, 1) := by decide +kernel
theorem dX8_isThrow_23 : decode cX8_isThrow 23 = .ok (.iconst 2, 1) := by decide +kernel
theorem dX8_isThrow_24 : decode cX8_isThrow 24 = .ok (.invokestatic 55, 3) := by decide +kernel
theorem dX8_isThrow_27 : decode cX8_isThrow 27 = .ok (.ifCond .eq 7, 3) := by decide +kernel
theorem dX8_isThrow_30 : decode cX8_isThrow 30 = .ok (.iconst 1, 1) := by decide +kernel
theorem dX8_isThrow_31 : decode cX8_isThrow 31 = .ok (.goto 4, 3) := by decide +kernel
theorem dX8_isThrow_34 : decode cX8_isThrow 34 = .ok (.iconst 0, 1) := by decide +kernel
theorem dX8_isThrow_35 : decode cX8_isThrow 35 = .ok (.ireturn, 1) := by decide +kernel
theorem dX8_isShelf_0 : decode cX8_isShelf 0 = .ok (.iload_n 0, 1) := by decide +kernel
theorem dX8_isShelf_1 : decode cX8_isShelf 1 = .ok (.iconst 0, 1) := by decide +kernel
theorem dX8_isShelf_2 : decode cX8_isShelf 2 = .ok (.bipush 7, 2) := by decide +kernel
theorem dX8_isShelf_4 : decode cX8_isShelf 4 = .ok (.invokestatic 55, 3) := by decide +kernel
theorem dX8_isShelf_7 : decode cX8_isShelf 7 = .ok (.ireturn, 1) := by decide +kernel
theorem dX8_isKind_0 : decode cX8_isKind 0 = .ok (.iload_n 0, 1) := by decide +kernel
theorem dX8_isKind_1 : decode cX8_isKind 1 = .ok (.iconst 0, 1) := by decide +kernel
theorem dX8_isKind_2 : decode cX8_isKind 2 = .ok (.iconst 5, 1) := by decide +kernel
theorem dX8_isKind_3 : decode cX8_isKind 3 = .ok (.invokestatic 55, 3) := by decide +kernel
theorem dX8_isKind_6 : decode cX8_isKind 6 = .ok (.ireturn, 1) := by decide +kernel
theorem dX8_isThorns_0 : decode cX8_isThorns 0 = .ok (.iload_n 0, 1) := by decide +kernel
theorem dX8_isThorns_1 : decode cX8_isThorns 1 = .ok (.iconst 0, 1) := by decide +kernel
theorem dX8_isThorns_2 : decode cX8_isThorns 2 = .ok (.bipush 9, 2) := by decide +kernel
theorem dX8_isThorns_4 : decode cX8_isThorns 4 = .ok (.invokestatic 55, 3) := by decide +kernel
theorem dX8_isThorns_7 : decode cX8_isThorns 7 = .ok (.ireturn, 1) := by decide +kernel
theorem dX8_isWhat_0 : decode cX8_isWhat 0 = .ok (.iload_n 0, 1) := by decide +kernel
theorem dX8_isWhat_1 : decode cX8_isWhat 1 = .ok (.iconst 0, 1) := by decide +kernel
theorem dX8_isWhat_2 : decode cX8_isWhat 2 = .ok (.iload_n 1, 1) := by decide +kernel
theorem dX8_isWhat_3 : decode cX8_isWhat 3 = .ok (.invokestatic 55, 3) := by decide +kernel
theorem dX8_isWhat_6 : decode cX8_isWhat 6 = .ok (.ireturn, 1) := by decide +kernel
theorem dX8_within_0 : decode cX8_within 0 = .ok (.iload_n 0, 1) := by decide +kernel
theorem dX8_within_1 : decode cX8_within 1 = .ok (.iload_n 1, 1) := by decide +kernel
theorem dX8_within_2 : decode cX8_within 2 = .ok (.if_icmp .lt 12, 3) := by decide +kernel
theorem dX8_within_5 : decode cX8_within 5 = .ok (.iload_n 0, 1) := by decide +kernel
theorem dX8_within_6 : decode cX8_within 6 = .ok (.iload_n 2, 1) := by decide +kernel
theorem dX8_within_7 : decode cX8_within 7 = .ok (.if_icmp .gt 7, 3) := by decide +kernel
theorem dX8_within_10 : decode cX8_within 10 = .ok (.iconst 1, 1) := by decide +kernel
theorem dX8_within_11 : decode cX8_within 11 = .ok (.goto 4, 3) := by decide +kernel
theorem dX8_within_14 : decode cX8_within 14 = .ok (.iconst 0, 1) := by decide +kernel
theorem dX8_within_15 : decode cX8_within 15 = .ok (.ireturn, 1) := by decide +kernel
theorem dX8_slowness_0 : decode cX8_slowness 0 = .ok (.iload_n 0, 1) := by decide +kernel
theorem dX8_slowness_1 : decode cX8_slowness 1 = .ok (.tableswitch 60 1 5 #[35, 49, 41, 53, 55], 35) := by decide +kernel
theorem dX8_slowness_36 : decode cX8_slowness 36 = .ok (.iconst 2, 1) := by decide +kernel
theorem dX8_slowness_37 : decode cX8_slowness 37 = .ok (.iload_n 1, 1) := by decide +kernel
theorem dX8_slowness_38 : decode cX8_slowness 38 = .ok (.imul, 1) := by decide +kernel
theorem dX8_slowness_39 : decode cX8_slowness 39 = .ok (.iconst 3, 1) := by decide +kernel
theorem dX8_slowness_40 : decode cX8_slowness 40 = .ok (.iadd, 1) := by decide +kernel
theorem dX8_slowness_41 : decode cX8_slowness 41 = .ok (.ireturn, 1) := by decide +kernel
theorem dX8_slowness_42 : decode cX8_slowness 42 = .ok (.iconst 2, 1) := by decide +kernel
theorem dX8_slowness_43 : decode cX8_slowness 43 = .ok (.iload_n 1, 1) := by decide +kernel
theorem dX8_slowness_44 : decode cX8_slowness 44 = .ok (.imul, 1) := by decide +kernel
theorem dX8_slowness_45 : decode cX8_slowness 45 = .ok (.iconst 3, 1) := by decide +kernel
theorem dX8_slowness_46 : decode cX8_slowness 46 = .ok (.iadd, 1) := by decide +kernel
theorem dX8_slowness_47 : decode cX8_slowness 47 = .ok (.iload_n 2, 1) := by decide +kernel
theorem dX8_slowness_48 : decode cX8_slowness 48 = .ok (.iadd, 1) := by decide +kernel
theorem dX8_slowness_49 : decode cX8_slowness 49 = .ok (.ireturn, 1) := by decide +kernel
theorem dX8_slowness_50 : decode cX8_slowness 50 = .ok (.iload_n 1, 1) := by decide +kernel
theorem dX8_slowness_51 : decode cX8_slowness 51 = .ok (.iconst 2, 1) := by decide +kernel
theorem dX8_slowness_52 : decode cX8_slowness 52 = .ok (.idiv, 1) := by decide +kernel
theorem dX8_slowness_53 : decode cX8_slowness 53 = .ok (.ireturn, 1) := by decide +kernel
theorem dX8_slowness_54 : decode cX8_slowness 54 = .ok (.iconst 0, 1) := by decide +kernel
theorem dX8_slowness_55 : decode cX8_slowness 55 = .ok (.ireturn, 1) := by decide +kernel
theorem dX8_slowness_56 : decode cX8_slowness 56 = .ok (.iload_n 1, 1) := by decide +kernel
theorem dX8_slowness_57 : decode cX8_slowness 57 = .ok (.bipush 10, 2) := by decide +kernel
theorem dX8_slowness_59 : decode cX8_slowness 59 = .ok (.iadd, 1) := by decide +kernel
theorem dX8_slowness_60 : decode cX8_slowness 60 = .ok (.ireturn, 1) := by decide +kernel
theorem dX8_slowness_61 : decode cX8_slowness 61 = .ok (.iload_n 1, 1) := by decide +kernel
theorem dX8_slowness_62 : decode cX8_slowness 62 = .ok (.ireturn, 1) := by decide +kernel
theorem dJ6_bitCount_0f7a4_0 : decode cJ6_bitCount_0f7a4 0 = .ok (.iload_n 0, 1) := by decide +kernel
theorem dJ6_bitCount_0f7a4_1 : decode cJ6_bitCount_0f7a4 1 = .ok (.iload_n 0, 1) := by decide +kernel
theorem dJ6_bitCount_0f7a4_2 : decode cJ6_bitCount_0f7a4 2 = .ok (.iconst 1, 1) := by decide +kernel
theorem dJ6_bitCount_0f7a4_3 : decode cJ6_bitCount_0f7a4 3 = .ok (.iushr, 1) := by decide +kernel
theorem dJ6_bitCount_0f7a4_4 : decode cJ6_bitCount_0f7a4 4 = .ok (.ldc_w 265, 3) := by decide +kernel
theorem dJ6_bitCount_0f7a4_7 : decode cJ6_bitCount_0f7a4 7 = .ok (.iand, 1) := by decide +kernel
theorem dJ6_bitCount_0f7a4_8 : decode cJ6_bitCount_0f7a4 8 = .ok (.isub, 1) := by decide +kernel
theorem dJ6_bitCount_0f7a4_9 : decode cJ6_bitCount_0f7a4 9 = .ok (.istore_n 0, 1) := by decide +kernel
theorem dJ6_bitCount_0f7a4_10 : decode cJ6_bitCount_0f7a4 10 = .ok (.iload_n 0, 1) := by decide +kernel
theorem dJ6_bitCount_0f7a4_11 : decode cJ6_bitCount_0f7a4 11 = .ok (.ldc_w 266, 3) := by decide +kernel
theorem dJ6_bitCount_0f7a4_14 : decode cJ6_bitCount_0f7a4 14 = .ok (.iand, 1) := by decide +kernel
theorem dJ6_bitCount_0f7a4_15 : decode cJ6_bitCount_0f7a4 15 = .ok (.iload_n 0, 1) := by decide +kernel
theorem dJ6_bitCount_0f7a4_16 : decode cJ6_bitCount_0f7a4 16 = .ok (.iconst 2, 1) := by decide +kernel
theorem dJ6_bitCount_0f7a4_17 : decode cJ6_bitCount_0f7a4 17 = .ok (.iushr, 1) := by decide +kernel
theorem dJ6_bitCount_0f7a4_18 : decode cJ6_bitCount_0f7a4 18 = .ok (.ldc_w 266, 3) := by decide +kernel
theorem dJ6_bitCount_0f7a4_21 : decode cJ6_bitCount_0f7a4 21 = .ok (.iand, 1) := by decide +kernel
theorem dJ6_bitCount_0f7a4_22 : decode cJ6_bitCount_0f7a4 22 = .ok (.iadd, 1) := by decide +kernel
theorem dJ6_bitCount_0f7a4_23 : decode cJ6_bitCount_0f7a4 23 = .ok (.istore_n 0, 1) := by decide +kernel
theorem dJ6_bitCount_0f7a4_24 : decode cJ6_bitCount_0f7a4 24 = .ok (.iload_n 0, 1) := by decide +kernel
theorem dJ6_bitCount_0f7a4_25 : decode cJ6_bitCount_0f7a4 25 = .ok (.iload_n 0, 1) := by decide +kernel
theorem dJ6_bitCount_0f7a4_26 : decode cJ6_bitCount_0f7a4 26 = .ok (.iconst 4, 1) := by decide +kernel
theorem dJ6_bitCount_0f7a4_27 : decode cJ6_bitCount_0f7a4 27 = .ok (.iushr, 1) := by decide +kernel
theorem dJ6_bitCount_0f7a4_28 : decode cJ6_bitCount_0f7a4 28 = .ok (.iadd, 1) := by decide +kernel
theorem dJ6_bitCount_0f7a4_29 : decode cJ6_bitCount_0f7a4 29 = .ok (.ldc_w 267, 3) := by decide +kernel
theorem dJ6_bitCount_0f7a4_32 : decode cJ6_bitCount_0f7a4 32 = .ok (.iand, 1) := by decide +kernel
theorem dJ6_bitCount_0f7a4_33 : decode cJ6_bitCount_0f7a4 33 = .ok (.istore_n 0, 1) := by decide +kernel
theorem dJ6_bitCount_0f7a4_34 : decode cJ6_bitCount_0f7a4 34 = .ok (.iload_n 0, 1) := by decide +kernel
theorem dJ6_bitCount_0f7a4_35 : decode cJ6_bitCount_0f7a4 35 = .ok (.iload_n 0, 1) := by decide +kernel
theorem dJ6_bitCount_0f7a4_36 : decode cJ6_bitCount_0f7a4 36 = .ok (.bipush 8, 2) := by decide +kernel
theorem dJ6_bitCount_0f7a4_38 : decode cJ6_bitCount_0f7a4 38 = .ok (.iushr, 1) := by decide +kernel
theorem dJ6_bitCount_0f7a4_39 : decode cJ6_bitCount_0f7a4 39 = .ok (.iadd, 1) := by decide +kernel
theorem dJ6_bitCount_0f7a4_40 : decode cJ6_bitCount_0f7a4 40 = .ok (.istore_n 0, 1) := by decide +kernel
theorem dJ6_bitCount_0f7a4_41 : decode cJ6_bitCount_0f7a4 41 = .ok (.iload_n 0, 1) := by decide +kernel
theorem dJ6_bitCount_0f7a4_42 : decode cJ6_bitCount_0f7a4 42 = .ok (.iload_n 0, 1) := by decide +kernel
theorem dJ6_bitCount_0f7a4_43 : decode cJ6_bitCount_0f7a4 43 = .ok (.bipush 16, 2) := by decide +kernel
theorem dJ6_bitCount_0f7a4_45 : decode cJ6_bitCount_0f7a4 45 = .ok (.iushr, 1) := by decide +kernel
theorem dJ6_bitCount_0f7a4_46 : decode cJ6_bitCount_0f7a4 46 = .ok (.iadd, 1) := by decide +kernel
theorem dJ6_bitCount_0f7a4_47 : decode cJ6_bitCount_0f7a4 47 = .ok (.istore_n 0, 1) := by decide +kernel
theorem dJ6_bitCount_0f7a4_48 : decode cJ6_bitCount_0f7a4 48 = .ok (.iload_n 0, 1) := by decide +kernel
theorem dJ6_bitCount_0f7a4_49 : decode cJ6_bitCount_0f7a4 49 = .ok (.bipush 63, 2) := by decide +kernel
theorem dJ6_bitCount_0f7a4_51 : decode cJ6_bitCount_0f7a4 51 = .ok (.iand, 1) := by decide +kernel
theorem dJ6_bitCount_0f7a4_52 : decode cJ6_bitCount_0f7a4 52 = .ok (.ireturn, 1) := by decide +kernel
theorem dJ9_abs_0f7a4_0 : decode cJ9_abs_0f7a4 0 = .ok (.iload_n 0, 1) := by decide +kernel
theorem dJ9_abs_0f7a4_1 : decode cJ9_abs_0f7a4 1 = .ok (.ifCond .ge 8, 3) := by decide +kernel
theorem dJ9_abs_0f7a4_4 : decode cJ9_abs_0f7a4 4 = .ok (.iload_n 0, 1) := by decide +kernel
theorem dJ9_abs_0f7a4_5 : decode cJ9_abs_0f7a4 5 = .ok (.ineg, 1) := by decide +kernel
theorem dJ9_abs_0f7a4_6 : decode cJ9_abs_0f7a4 6 = .ok (.goto 4, 3) := by decide +kernel
theorem dJ9_abs_0f7a4_9 : decode cJ9_abs_0f7a4 9 = .ok (.iload_n 0, 1) := by decide +kernel
theorem dJ9_abs_0f7a4_10 : decode cJ9_abs_0f7a4 10 = .ok (.ireturn, 1) := by decide +kernel
theorem dJ9_max_7cf53_0 : decode cJ9_max_7cf53 0 = .ok (.iload_n 0, 1) := by decide +kernel
theorem dJ9_max_7cf53_1 : decode cJ9_max_7cf53 1 = .ok (.iload_n 1, 1) := by decide +kernel
theorem dJ9_max_7cf53_2 : decode cJ9_max_7cf53 2 = .ok (.if_icmp .lt 7, 3) := by decide +kernel
theorem dJ9_max_7cf53_5 : decode cJ9_max_7cf53 5 = .ok (.iload_n 0, 1) := by decide +kernel
theorem dJ9_max_7cf53_6 : decode cJ9_max_7cf53 6 = .ok (.goto 4, 3) := by decide +kernel
theorem dJ9_max_7cf53_9 : decode cJ9_max_7cf53 9 = .ok (.iload_n 1, 1) := by decide +kernel
theorem dJ9_max_7cf53_10 : decode cJ9_max_7cf53 10 = .ok (.ireturn, 1) := by decide +kernel
theorem dJ9_min_7cf53_0 : decode cJ9_min_7cf53 0 = .ok (.iload_n 0, 1) := by decide +kernel
theorem dJ9_min_7cf53_1 : decode cJ9_min_7cf53 1 = .ok (.iload_n 1, 1) := by decide +kernel
theorem dJ9_min_7cf53_2 : decode cJ9_min_7cf53 2 = .ok (.if_icmp .gt 7, 3) := by decide +kernel
theorem dJ9_min_7cf53_5 : decode cJ9_min_7cf53 5 = .ok (.iload_n 0, 1) := by decide +kernel
theorem dJ9_min_7cf53_6 : decode cJ9_min_7cf53 6 = .ok (.goto 4, 3) := by decide +kernel
theorem dJ9_min_7cf53_9 : decode cJ9_min_7cf53 9 = .ok (.iload_n 1, 1) := by decide +kernel
theorem dJ9_min_7cf53_10 : decode cJ9_min_7cf53 10 = .ok (.ireturn, 1) := by decide +kernel
theorem dJ0_length_8abf5_0 : decode cJ0_length_8abf5 0 = .ok (.aload_n 0, 1) := by decide +kernel
theorem dJ0_length_8abf5_1 : decode cJ0_length_8abf5 1 = .ok (.getfield 9, 3) := by decide +kernel
theorem dJ0_length_8abf5_4 : decode cJ0_length_8abf5 4 = .ok (.arraylength, 1) := by decide +kernel
theorem dJ0_length_8abf5_5 : decode cJ0_length_8abf5 5 = .ok (.aload_n 0, 1) := by decide +kernel
theorem dJ0_length_8abf5_6 : decode cJ0_length_8abf5 6 = .ok (.invokevirtual 335, 3) := by decide +kernel
theorem dJ0_length_8abf5_9 : decode cJ0_length_8abf5 9 = .ok (.ishr, 1) := by decide +kernel
theorem dJ0_length_8abf5_10 : decode cJ0_length_8abf5 10 = .ok (.ireturn, 1) := by decide +kernel
theorem dJ0_charAt_5068e_0 : decode cJ0_charAt_5068e 0 = .ok (.aload_n 0, 1) := by decide +kernel
theorem dJ0_charAt_5068e_1 : decode cJ0_charAt_5068e 1 = .ok (.invokevirtual 492, 3) := by decide +kernel
theorem dJ0_charAt_5068e_4 : decode cJ0_charAt_5068e 4 = .ok (.ifCond .eq 12, 3) := by decide +kernel
theorem dJ0_charAt_5068e_7 : decode cJ0_charAt_5068e 7 = .ok (.aload_n 0, 1) := by decide +kernel
theorem dJ0_charAt_5068e_8 : decode cJ0_charAt_5068e 8 = .ok (.getfield 9, 3) := by decide +kernel
theorem dJ0_charAt_5068e_11 : decode cJ0_charAt_5068e 11 = .ok (.iload_n 1, 1) := by decide +kernel
theorem dJ0_charAt_5068e_12 : decode cJ0_charAt_5068e 12 = .ok (.invokestatic 495, 3) := by decide +kernel
theorem dJ0_charAt_5068e_15 : decode cJ0_charAt_5068e 15 = .ok (.ireturn, 1) := by decide +kernel
theorem dJ0_charAt_5068e_16 : decode cJ0_charAt_5068e 16 = .ok (.aload_n 0, 1) := by decide +kernel
theorem dJ0_charAt_5068e_17 : decode cJ0_charAt_5068e 17 = .ok (.getfield 9, 3) := by decide +kernel
theorem dJ0_charAt_5068e_20 : decode cJ0_charAt_5068e 20 = .ok (.iload_n 1, 1) := by decide +kernel
theorem dJ0_charAt_5068e_21 : decode cJ0_charAt_5068e 21 = .ok (.invokestatic 498, 3) := by decide +kernel
theorem dJ0_charAt_5068e_24 : decode cJ0_charAt_5068e 24 = .ok (.ireturn, 1) := by decide +kernel
theorem dJ0_coder_7d493_0 : decode cJ0_coder_7d493 0 = .ok (.getstatic 38, 3) := by decide +kernel
theorem dJ0_coder_7d493_3 : decode cJ0_coder_7d493 3 = .ok (.ifCond .eq 10, 3) := by decide +kernel
theorem dJ0_coder_7d493_6 : decode cJ0_coder_7d493 6 = .ok (.aload_n 0, 1) := by decide +kernel
theorem dJ0_coder_7d493_7 : decode cJ0_coder_7d493 7 = .ok (.getfield 15, 3) := by decide +kernel
theorem dJ0_coder_7d493_10 : decode cJ0_coder_7d493 10 = .ok (.goto 4, 3) := by decide +kernel
theorem dJ0_coder_7d493_13 : decode cJ0_coder_7d493 13 = .ok (.iconst 1, 1) := by decide +kernel
theorem dJ0_coder_7d493_14 : decode cJ0_coder_7d493 14 = .ok (.ireturn, 1) := by decide +kernel
theorem dJ0_isLatin1_aae02_0 : decode cJ0_isLatin1_aae02 0 = .ok (.getstatic 38, 3) := by decide +kernel
theorem dJ0_isLatin1_aae02_3 : decode cJ0_isLatin1_aae02 3 = .ok (.ifCond .eq 14, 3) := by decide +kernel
theorem dJ0_isLatin1_aae02_6 : decode cJ0_isLatin1_aae02 6 = .ok (.aload_n 0, 1) := by decide +kernel
theorem dJ0_isLatin1_aae02_7 : decode cJ0_isLatin1_aae02 7 = .ok (.getfield 15, 3) := by decide +kernel
theorem dJ0_isLatin1_aae02_10 : decode cJ0_isLatin1_aae02 10 = .ok (.ifCond .ne 7, 3) := by decide +kernel
theorem dJ0_isLatin1_aae02_13 : decode cJ0_isLatin1_aae02 13 = .ok (.iconst 1, 1) := by decide +kernel
theorem dJ0_isLatin1_aae02_14 : decode cJ0_isLatin1_aae02 14 = .ok (.goto 4, 3) := by decide +kernel
theorem dJ0_isLatin1_aae02_17 : decode cJ0_isLatin1_aae02 17 = .ok (.iconst 0, 1) := by decide +kernel
theorem dJ0_isLatin1_aae02_18 : decode cJ0_isLatin1_aae02 18 = .ok (.ireturn, 1) := by decide +kernel
theorem dJ0_checkIndex_df160_0 : decode cJ0_checkIndex_df160 0 = .ok (.iload_n 0, 1) := by decide +kernel
theorem dJ0_checkIndex_df160_1 : decode cJ0_checkIndex_df160 1 = .ok (.iload_n 1, 1) := by decide +kernel
theorem dJ0_checkIndex_df160_2 : decode cJ0_checkIndex_df160 2 = .ok (.getstatic 1053, 3) := by decide +kernel
theorem dJ0_checkIndex_df160_5 : decode cJ0_checkIndex_df160 5 = .ok (.invokestatic 1059, 3) := by decide +kernel
theorem dJ0_checkIndex_df160_8 : decode cJ0_checkIndex_df160 8 = .ok (.pop, 1) := by decide +kernel
theorem dJ0_checkIndex_df160_9 : decode cJ0_checkIndex_df160 9 = .ok (.return_, 1) := by decide +kernel
theorem dJ1_charAt_3b067_0 : decode cJ1_charAt_3b067 0 = .ok (.iload_n 1, 1) := by decide +kernel
theorem dJ1_charAt_3b067_1 : decode cJ1_charAt_3b067 1 = .ok (.aload_n 0, 1) := by decide +kernel
theorem dJ1_charAt_3b067_2 : decode cJ1_charAt_3b067 2 = .ok (.arraylength, 1) := by decide +kernel
theorem dJ1_charAt_3b067_3 : decode cJ1_charAt_3b067 3 = .ok (.invokestatic 9, 3) := by decide +kernel
theorem dJ1_charAt_3b067_6 : decode cJ1_charAt_3b067 6 = .ok (.aload_n 0, 1) := by decide +kernel
theorem dJ1_charAt_3b067_7 : decode cJ1_charAt_3b067 7 = .ok (.iload_n 1, 1) := by decide +kernel
theorem dJ1_charAt_3b067_8 : decode cJ1_charAt_3b067 8 = .ok (.baload, 1) := by decide +kernel
theorem dJ1_charAt_3b067_9 : decode cJ1_charAt_3b067 9 = .ok (.sipush 255, 3) := by decide +kernel
theorem dJ1_charAt_3b067_12 : decode cJ1_charAt_3b067 12 = .ok (.iand, 1) := by decide +kernel
theorem dJ1_charAt_3b067_13 : decode cJ1_charAt_3b067 13 = .ok (.i2c, 1) := by decide +kernel
theorem dJ1_charAt_3b067_14 : decode cJ1_charAt_3b067 14 = .ok (.ireturn, 1) := by decide +kernel
theorem dJ2_getChar_3b067_0 : decode cJ2_getChar_3b067 0 = .ok (.getstatic 44, 3) := by decide +kernel
theorem dJ2_getChar_3b067_3 : decode cJ2_getChar_3b067 3 = .ok (.ifCond .ne 25, 3) := by decide +kernel
theorem dJ2_getChar_3b067_6 : decode cJ2_getChar_3b067 6 = .ok (.iload_n 1, 1) := by decide +kernel
theorem dJ2_getChar_3b067_7 : decode cJ2_getChar_3b067 7 = .ok (.ifCond .lt 11, 3) := by decide +kernel
theorem dJ2_getChar_3b067_10 : decode cJ2_getChar_3b067 10 = .ok (.iload_n 1, 1) := by decide +kernel
theorem dJ2_getChar_3b067_11 : decode cJ2_getChar_3b067 11 = .ok (.aload_n 0, 1) := by decide +kernel
theorem dJ2_getChar_3b067_12 : decode cJ2_getChar_3b067 12 = .ok (.invokestatic 48, 3) := by decide +kernel
theorem dJ2_getChar_3b067_15 : decode cJ2_getChar_3b067 15 = .ok (.if_icmp .lt 13, 3) := by decide +kernel
theorem dJ2_getChar_3b067_18 : decode cJ2_getChar_3b067 18 = .ok (.new 52, 3) := by decide +kernel
theorem dJ2_getChar_3b067_21 : decode cJ2_getChar_3b067 21 = .ok (.dup, 1) := by decide +kernel
theorem dJ2_getChar_3b067_22 : decode cJ2_getChar_3b067 22 = .ok (.ldc 54, 2) := by decide +kernel
theorem dJ2_getChar_3b067_24 : decode cJ2_getChar_3b067 24 = .ok (.invokespecial 56, 3) := by decide +kernel
theorem dJ2_getChar_3b067_27 : decode cJ2_getChar_3b067 27 = .ok (.athrow, 1) := by decide +kernel
theorem dJ2_getChar_3b067_28 : decode cJ2_getChar_3b067 28 = .ok (.iload_n 1, 1) := by decide +kernel
theorem dJ2_getChar_3b067_29 : decode cJ2_getChar_3b067 29 = .ok (.iconst 1, 1) := by decide +kernel
theorem dJ2_getChar_3b067_30 : decode cJ2_getChar_3b067 30 = .ok (.ishl, 1) := by decide +kernel
theorem dJ2_getChar_3b067_31 : decode cJ2_getChar_3b067 31 = .ok (.istore_n 1, 1) := by decide +kernel
theorem dJ2_getChar_3b067_32 : decode cJ2_getChar_3b067 32 = .ok (.aload_n 0, 1) := by decide +kernel
theorem dJ2_getChar_3b067_33 : decode cJ2_getChar_3b067 33 = .ok (.iload_n 1, 1) := by decide +kernel
theorem dJ2_getChar_3b067_34 : decode cJ2_getChar_3b067 34 = .ok (.iinc 1 1, 3) := by decide +kernel
theorem dJ2_getChar_3b067_37 : decode cJ2_getChar_3b067 37 = .ok (.baload, 1) := by decide +kernel
theorem dJ2_getChar_3b067_38 : decode cJ2_getChar_3b067 38 = .ok (.sipush 255, 3) := by decide +kernel
theorem dJ2_getChar_3b067_41 : decode cJ2_getChar_3b067 41 = .ok (.iand, 1) := by decide +kernel
theorem dJ2_getChar_3b067_42 : decode cJ2_getChar_3b067 42 = .ok (.getstatic 59, 3) := by decide +kernel
theorem dJ2_getChar_3b067_45 : decode cJ2_getChar_3b067 45 = .ok (.ishl, 1) := by decide +kernel
theorem dJ2_getChar_3b067_46 : decode cJ2_getChar_3b067 46 = .ok (.aload_n 0, 1) := by decide +kernel
theorem dJ2_getChar_3b067_47 : decode cJ2_getChar_3b067 47 = .ok (.iload_n 1, 1) := by decide +kernel
theorem dJ2_getChar_3b067_48 : decode cJ2_getChar_3b067 48 = .ok (.baload, 1) := by decide +kernel
theorem dJ2_getChar_3b067_49 : decode cJ2_getChar_3b067 49 = .ok (.sipush 255, 3) := by decide +kernel
theorem dJ2_getChar_3b067_52 : decode cJ2_getChar_3b067 52 = .ok (.iand, 1) := by decide +kernel
theorem dJ2_getChar_3b067_53 : decode cJ2_getChar_3b067 53 = .ok (.getstatic 63, 3) := by decide +kernel
theorem dJ2_getChar_3b067_56 : decode cJ2_getChar_3b067 56 = .ok (.ishl, 1) := by decide +kernel
theorem dJ2_getChar_3b067_57 : decode cJ2_getChar_3b067 57 = .ok (.ior, 1) := by decide +kernel
theorem dJ2_getChar_3b067_58 : decode cJ2_getChar_3b067 58 = .ok (.i2c, 1) := by decide +kernel
theorem dJ2_getChar_3b067_59 : decode cJ2_getChar_3b067 59 = .ok (.ireturn, 1) := by decide +kernel
theorem dJ2_length_9d52b_0 : decode cJ2_length_9d52b 0 = .ok (.aload_n 0, 1) := by decide +kernel
theorem dJ2_length_9d52b_1 : decode cJ2_length_9d52b 1 = .ok (.arraylength, 1) := by decide +kernel
theorem dJ2_length_9d52b_2 : decode cJ2_length_9d52b 2 = .ok (.iconst 1, 1) := by decide +kernel
theorem dJ2_length_9d52b_3 : decode cJ2_length_9d52b 3 = .ok (.ishr, 1) := by decide +kernel
theorem dJ2_length_9d52b_4 : decode cJ2_length_9d52b 4 = .ok (.ireturn, 1) := by decide +kernel
theorem dJ2_charAt_3b067_0 : decode cJ2_charAt_3b067 0 = .ok (.iload_n 1, 1) := by decide +kernel
theorem dJ2_charAt_3b067_1 : decode cJ2_charAt_3b067 1 = .ok (.aload_n 0, 1) := by decide +kernel
theorem dJ2_charAt_3b067_2 : decode cJ2_charAt_3b067 2 = .ok (.invokestatic 67, 3) := by decide +kernel
theorem dJ2_charAt_3b067_5 : decode cJ2_charAt_3b067 5 = .ok (.aload_n 0, 1) := by decide +kernel
theorem dJ2_charAt_3b067_6 : decode cJ2_charAt_3b067 6 = .ok (.iload_n 1, 1) := by decide +kernel
theorem dJ2_charAt_3b067_7 : decode cJ2_charAt_3b067 7 = .ok (.invokestatic 71, 3) := by decide +kernel
theorem dJ2_charAt_3b067_10 : decode cJ2_charAt_3b067 10 = .ok (.ireturn, 1) := by decide +kernel
theorem dJ2_checkIndex_2214a_0 : decode cJ2_checkIndex_2214a 0 = .ok (.iload_n 0, 1) := by decide +kernel
theorem dJ2_checkIndex_2214a_1 : decode cJ2_checkIndex_2214a 1 = .ok (.aload_n 1, 1) := by decide +kernel
theorem dJ2_checkIndex_2214a_2 : decode cJ2_checkIndex_2214a 2 = .ok (.invokestatic 48, 3) := by decide +kernel
theorem dJ2_checkIndex_2214a_5 : decode cJ2_checkIndex_2214a 5 = .ok (.invokestatic 414, 3) := by decide +kernel
theorem dJ2_checkIndex_2214a_8 : decode cJ2_checkIndex_2214a 8 = .ok (.return_, 1) := by decide +kernel
theorem dJ3_checkIndex_8e157_0 : decode cJ3_checkIndex_8e157 0 = .ok (.iload_n 0, 1) := by decide +kernel
theorem dJ3_checkIndex_8e157_1 : decode cJ3_checkIndex_8e157 1 = .ok (.ifCond .lt 8, 3) := by decide +kernel
theorem dJ3_checkIndex_8e157_4 : decode cJ3_checkIndex_8e157 4 = .ok (.iload_n 0, 1) := by decide +kernel
theorem dJ3_checkIndex_8e157_5 : decode cJ3_checkIndex_8e157 5 = .ok (.iload_n 1, 1) := by decide +kernel
theorem dJ3_checkIndex_8e157_6 : decode cJ3_checkIndex_8e157 6 = .ok (.if_icmp .lt 10, 3) := by decide +kernel
theorem dJ3_checkIndex_8e157_9 : decode cJ3_checkIndex_8e157 9 = .ok (.aload_n 2, 1) := by decide +kernel
theorem dJ3_checkIndex_8e157_10 : decode cJ3_checkIndex_8e157 10 = .ok (.iload_n 0, 1) := by decide +kernel
theorem dJ3_checkIndex_8e157_11 : decode cJ3_checkIndex_8e157 11 = .ok (.iload_n 1, 1) := by decide +kernel
theorem dJ3_checkIndex_8e157_12 : decode cJ3_checkIndex_8e157 12 = .ok (.invokestatic 95, 3) := by decide +kernel
theorem dJ3_checkIndex_8e157_15 : decode cJ3_checkIndex_8e157 15 = .ok (.athrow, 1) := by decide +kernel
theorem dJ3_checkIndex_8e157_16 : decode cJ3_checkIndex_8e157 16 = .ok (.iload_n 0, 1) := by decide +kernel
theorem dJ3_checkIndex_8e157_17 : decode cJ3_checkIndex_8e157 17 = .ok (.ireturn, 1) := by decide +kernel
