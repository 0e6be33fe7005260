theorem dX0_init_0 : decode cX0_init 0 = .ok (.aload_n 0, 1) := by decide +kernel
theorem dX0_init_1 : decode cX0_init 1 = .ok (.invokespecial 3, 3) := by decide +kernel
theorem dX0_init_4 : decode cX0_init 4 = .ok (.aload_n 0, 1) := by decide +kernel
theorem dX0_init_5 : decode cX0_init 5 = .ok (.new 9, 3) := by decide +kernel
theorem dX0_init_8 : decode cX0_init 8 = .ok (.dup, 1) := by decide +kernel
theorem dX0_init_9 : decode cX0_init 9 = .ok (.invokespecial 11, 3) := by decide +kernel
theorem dX0_init_12 : decode cX0_init 12 = .ok (.putfield 12, 3) := by decide +kernel
theorem dX0_init_15 : decode cX0_init 15 = .ok (.aload_n 0, 1) := by decide +kernel
theorem dX0_init_16 : decode cX0_init 16 = .ok (.bipush 7, 2) := by decide +kernel
theorem dX0_init_18 : decode cX0_init 18 = .ok (.newarray .int, 2) := by decide +kernel
theorem dX0_init_20 : decode cX0_init 20 = .ok (.putfield 18, 3) := by decide +kernel
theorem dX0_init_23 : decode cX0_init 23 = .ok (.aload_n 0, 1) := by decide +kernel
theorem dX0_init_24 : decode cX0_init 24 = .ok (.new 22, 3) := by decide +kernel
theorem dX0_init_27 : decode cX0_init 27 = .ok (.dup, 1) := by decide +kernel
theorem dX0_init_28 : decode cX0_init 28 = .ok (.invokespecial 24, 3) := by decide +kernel
theorem dX0_init_31 : decode cX0_init 31 = .ok (.putfield 25, 3) := by decide +kernel
theorem dX0_init_34 : decode cX0_init 34 = .ok (.aload_n 0, 1) := by decide +kernel
theorem dX0_init_35 : decode cX0_init 35 = .ok (.bipush 13, 2) := by decide +kernel
theorem dX0_init_37 : decode cX0_init 37 = .ok (.newarray .int, 2) := by decide +kernel
theorem dX0_init_39 : decode cX0_init 39 = .ok (.putfield 29, 3) := by decide +kernel
theorem dX0_init_42 : decode cX0_init 42 = .ok (.aload_n 0, 1) := by decide +kernel
theorem dX0_init_43 : decode cX0_init 43 = .ok (.iconst 4, 1) := by decide +kernel
theorem dX0_init_44 : decode cX0_init 44 = .ok (.newarray .int, 2) := by decide +kernel
theorem dX0_init_46 : decode cX0_init 46 = .ok (.putfield 32, 3) := by decide +kernel
theorem dX0_init_49 : decode cX0_init 49 = .ok (.aload_n 0, 1) := by decide +kernel
theorem dX0_init_50 : decode cX0_init 50 = .ok (.iconst 4, 1) := by decide +kernel
theorem dX0_init_51 : decode cX0_init 51 = .ok (.anewarray 22, 3) := by decide +kernel
theorem dX0_init_54 : decode cX0_init 54 = .ok (.putfield 35, 3) := by decide +kernel
theorem dX0_init_57 : decode cX0_init 57 = .ok (.iconst 0, 1) := by decide +kernel
theorem dX0_init_58 : decode cX0_init 58 = .ok (.istore_n 1, 1) := by decide +kernel
theorem dX0_init_59 : decode cX0_init 59 = .ok (.iload_n 1, 1) := by decide +kernel
theorem dX0_init_60 : decode cX0_init 60 = .ok (.iconst 4, 1) := by decide +kernel
theorem dX0_init_61 : decode cX0_init 61 = .ok (.if_icmp .ge 22, 3) := by decide +kernel
theorem dX0_init_64 : decode cX0_init 64 = .ok (.aload_n 0, 1) := by decide +kernel
theorem dX0_init_65 : decode cX0_init 65 = .ok (.getfield 35, 3) := by decide +kernel
theorem dX0_init_68 : decode cX0_init 68 = .ok (.iload_n 1, 1) := by decide +kernel
theorem dX0_init_69 : decode cX0_init 69 = .ok (.new 22, 3) := by decide +kernel
theorem dX0_init_72 : decode cX0_init 72 = .ok (.dup, 1) := by decide +kernel
theorem dX0_init_73 : decode cX0_init 73 = .ok (.invokespecial 24, 3) := by decide +kernel
theorem dX0_init_76 : decode cX0_init 76 = .ok (.aastore, 1) := by decide +kernel
theorem dX0_init_77 : decode cX0_init 77 = .ok (.iinc 1 1, 3) := by decide +kernel
theorem dX0_init_80 : decode cX0_init 80 = .ok (.goto (-21), 3) := by decide +kernel
theorem dX0_init_83 : decode cX0_init 83 = .ok (.return_, 1) := by decide +kernel
theorem dX0_hasBase_0 : decode cX0_hasBase 0 = .ok (.iload_n 1, 1) := by decide +kernel
theorem dX0_hasBase_1 : decode cX0_hasBase 1 = .ok (.ifCond .lt 15, 3) := by decide +kernel
theorem dX0_hasBase_4 : decode cX0_hasBase 4 = .ok (.iload_n 1, 1) := by decide +kernel
theorem dX0_hasBase_5 : decode cX0_hasBase 5 = .ok (.aload_n 0, 1) := by decide +kernel
theorem dX0_hasBase_6 : decode cX0_hasBase 6 = .ok (.getfield 39, 3) := by decide +kernel
theorem dX0_hasBase_9 : decode cX0_hasBase 9 = .ok (.if_icmp .ge 7, 3) := by decide +kernel
theorem dX0_hasBase_12 : decode cX0_hasBase 12 = .ok (.iconst 1, 1) := by decide +kernel
theorem dX0_hasBase_13 : decode cX0_hasBase 13 = .ok (.goto 4, 3) := by decide +kernel
theorem dX0_hasBase_16 : decode cX0_hasBase 16 = .ok (.iconst 0, 1) := by decide +kernel
theorem dX0_hasBase_17 : decode cX0_hasBase 17 = .ok (.ireturn, 1) := by decide +kernel
theorem dX0_find_0 : decode cX0_find 0 = .ok (.aload_n 2, 1) := by decide +kernel
theorem dX0_find_1 : decode cX0_find 1 = .ok (.aload_n 1, 1) := by decide +kernel
theorem dX0_find_2 : decode cX0_find 2 = .ok (.iconst 1, 1) := by decide +kernel
theorem dX0_find_3 : decode cX0_find 3 = .ok (.invokevirtual 43, 3) := by decide +kernel
theorem dX0_find_6 : decode cX0_find 6 = .ok (.aload_n 2, 1) := by decide +kernel
theorem dX0_find_7 : decode cX0_find 7 = .ok (.invokevirtual 49, 3) := by decide +kernel
theorem dX0_find_10 : decode cX0_find 10 = .ok (.aload_n 2, 1) := by decide +kernel
theorem dX0_find_11 : decode cX0_find 11 = .ok (.aload_n 0, 1) := by decide +kernel
theorem dX0_find_12 : decode cX0_find 12 = .ok (.getfield 25, 3) := by decide +kernel
theorem dX0_find_15 : decode cX0_find 15 = .ok (.invokevirtual 52, 3) := by decide +kernel
theorem dX0_find_18 : decode cX0_find 18 = .ok (.aload_n 0, 1) := by decide +kernel
theorem dX0_find_19 : decode cX0_find 19 = .ok (.aload_n 2, 1) := by decide +kernel
theorem dX0_find_20 : decode cX0_find 20 = .ok (.aload_n 0, 1) := by decide +kernel
theorem dX0_find_21 : decode cX0_find 21 = .ok (.getfield 29, 3) := by decide +kernel
theorem dX0_find_24 : decode cX0_find 24 = .ok (.invokevirtual 56, 3) := by decide +kernel
theorem dX0_find_27 : decode cX0_find 27 = .ok (.putfield 60, 3) := by decide +kernel
theorem dX0_find_30 : decode cX0_find 30 = .ok (.aload_n 0, 1) := by decide +kernel
theorem dX0_find_31 : decode cX0_find 31 = .ok (.aload_n 1, 1) := by decide +kernel
theorem dX0_find_32 : decode cX0_find 32 = .ok (.invokevirtual 64, 3) := by decide +kernel
theorem dX0_find_35 : decode cX0_find 35 = .ok (.aload_n 0, 1) := by decide +kernel
theorem dX0_find_36 : decode cX0_find 36 = .ok (.getfield 12, 3) := by decide +kernel
theorem dX0_find_39 : decode cX0_find 39 = .ok (.aload_n 0, 1) := by decide +kernel
theorem dX0_find_40 : decode cX0_find 40 = .ok (.getfield 18, 3) := by decide +kernel
theorem dX0_find_43 : decode cX0_find 43 = .ok (.invokevirtual 68, 3) := by decide +kernel
theorem dX0_find_46 : decode cX0_find 46 = .ok (.aload_n 0, 1) := by decide +kernel
theorem dX0_find_47 : decode cX0_find 47 = .ok (.aload_n 1, 1) := by decide +kernel
theorem dX0_find_48 : decode cX0_find 48 = .ok (.aload_n 2, 1) := by decide +kernel
theorem dX0_find_49 : decode cX0_find 49 = .ok (.invokevirtual 72, 3) := by decide +kernel
theorem dX0_find_52 : decode cX0_find 52 = .ok (.aload_n 0, 1) := by decide +kernel
theorem dX0_find_53 : decode cX0_find 53 = .ok (.iconst 1, 1) := by decide +kernel
theorem dX0_find_54 : decode cX0_find 54 = .ok (.putfield 76, 3) := by decide +kernel
theorem dX0_find_57 : decode cX0_find 57 = .ok (.return_, 1) := by decide +kernel
theorem dX0_findBases_0 : decode cX0_findBases 0 = .ok (.aload_n 0, 1) := by decide +kernel
theorem dX0_findBases_1 : decode cX0_findBases 1 = .ok (.iconst 0, 1) := by decide +kernel
theorem dX0_findBases_2 : decode cX0_findBases 2 = .ok (.putfield 39, 3) := by decide +kernel
theorem dX0_findBases_5 : decode cX0_findBases 5 = .ok (.iconst 0, 1) := by decide +kernel
theorem dX0_findBases_6 : decode cX0_findBases 6 = .ok (.istore_n 3, 1) := by decide +kernel
theorem dX0_findBases_7 : decode cX0_findBases 7 = .ok (.iload_n 3, 1) := by decide +kernel
theorem dX0_findBases_8 : decode cX0_findBases 8 = .ok (.aload_n 0, 1) := by decide +kernel
theorem dX0_findBases_9 : decode cX0_findBases 9 = .ok (.getfield 12, 3) := by decide +kernel
theorem dX0_findBases_12 : decode cX0_findBases 12 = .ok (.getfield 79, 3) := by decide +kernel
theorem dX0_findBases_15 : decode cX0_findBases 15 = .ok (.if_icmp .ge 95, 3) := by decide +kernel
theorem dX0_findBases_18 : decode cX0_findBases 18 = .ok (.aload_n 0, 1) := by decide +kernel
theorem dX0_findBases_19 : decode cX0_findBases 19 = .ok (.getfield 39, 3) := by decide +kernel
theorem dX0_findBases_22 : decode cX0_findBases 22 = .ok (.iconst 4, 1) := by decide +kernel
theorem dX0_findBases_23 : decode cX0_findBases 23 = .ok (.if_icmp .ge 87, 3) := by decide +kernel
theorem dX0_findBases_26 : decode cX0_findBases 26 = .ok (.aload_n 0, 1) := by decide +kernel
theorem dX0_findBases_27 : decode cX0_findBases 27 = .ok (.getfield 12, 3) := by decide +kernel
theorem dX0_findBases_30 : decode cX0_findBases 30 = .ok (.iload_n 3, 1) := by decide +kernel
theorem dX0_findBases_31 : decode cX0_findBases 31 = .ok (.invokevirtual 82, 3) := by decide +kernel
theorem dX0_findBases_34 : decode cX0_findBases 34 = .ok (.istore 4, 2) := by decide +kernel
theorem dX0_findBases_36 : decode cX0_findBases 36 = .ok (.iload 4, 2) := by decide +kernel
theorem dX0_findBases_38 : decode cX0_findBases 38 = .ok (.ifCond .gt 6, 3) := by decide +kernel
theorem dX0_findBases_41 : decode cX0_findBases 41 = .ok (.goto 63, 3) := by decide +kernel
theorem dX0_findBases_44 : decode cX0_findBases 44 = .ok (.aload_n 2, 1) := by decide +kernel
theorem dX0_findBases_45 : decode cX0_findBases 45 = .ok (.aload_n 1, 1) := by decide +kernel
theorem dX0_findBases_46 : decode cX0_findBases 46 = .ok (.iload 4, 2) := by decide +kernel
theorem dX0_findBases_48 : decode cX0_findBases 48 = .ok (.invokevirtual 43, 3) := by decide +kernel
theorem dX0_findBases_51 : decode cX0_findBases 51 = .ok (.aload_n 2, 1) := by decide +kernel
theorem dX0_findBases_52 : decode cX0_findBases 52 = .ok (.invokevirtual 49, 3) := by decide +kernel
theorem dX0_findBases_55 : decode cX0_findBases 55 = .ok (.aload_n 2, 1) := by decide +kernel
theorem dX0_findBases_56 : decode cX0_findBases 56 = .ok (.aload_n 0, 1) := by decide +kernel
theorem dX0_findBases_57 : decode cX0_findBases 57 = .ok (.getfield 35, 3) := by decide +kernel
theorem dX0_findBases_60 : decode cX0_findBases 60 = .ok (.aload_n 0, 1) := by decide +kernel
theorem dX0_findBases_61 : decode cX0_findBases 61 = .ok (.getfield 39, 3) := by decide +kernel
theorem dX0_findBases_64 : decode cX0_findBases 64 = .ok (.aaload, 1) := by decide +kernel
theorem dX0_findBases_65 : decode cX0_findBases 65 = .ok (.invokevirtual 52, 3) := by decide +kernel
theorem dX0_findBases_68 : decode cX0_findBases 68 = .ok (.aload_n 0, 1) := by decide +kernel
theorem dX0_findBases_69 : decode cX0_findBases 69 = .ok (.getfield 35, 3) := by decide +kernel
theorem dX0_findBases_72 : decode cX0_findBases 72 = .ok (.aload_n 0, 1) := by decide +kernel
theorem dX0_findBases_73 : decode cX0_findBases 73 = .ok (.getfield 39, 3) := by decide +kernel
theorem dX0_findBases_76 : decode cX0_findBases 76 = .ok (.aaload, 1) := by decide +kernel
theorem dX0_findBases_77 : decode cX0_findBases 77 = .ok (.getfield 86, 3) := by decide +kernel
theorem dX0_findBases_80 : decode cX0_findBases 80 = .ok (.ifCond .le 24, 3) := by decide +kernel
theorem dX0_findBases_83 : decode cX0_findBases 83 = .ok (.aload_n 0, 1) := by decide +kernel
theorem dX0_findBases_84 : decode cX0_findBases 84 = .ok (.getfield 32, 3) := by decide +kernel
theorem dX0_findBases_87 : decode cX0_findBases 87 = .ok (.aload_n 0, 1) := by decide +kernel
theorem dX0_findBases_88 : decode cX0_findBases 88 = .ok (.getfield 39, 3) := by decide +kernel
theorem dX0_findBases_91 : decode cX0_findBases 91 = .ok (.iload 4, 2) := by decide +kernel
theorem dX0_findBases_93 : decode cX0_findBases 93 = .ok (.iastore, 1) := by decide +kernel
theorem dX0_findBases_94 : decode cX0_findBases 94 = .ok (.aload_n 0, 1) := by decide +kernel
theorem dX0_findBases_95 : decode cX0_findBases 95 = .ok (.dup, 1) := by decide +kernel
theorem dX0_findBases_96 : decode cX0_findBases 96 = .ok (.getfield 39, 3) := by decide +kernel
theorem dX0_findBases_99 : decode cX0_findBases 99 = .ok (.iconst 1, 1) := by decide +kernel
theorem dX0_findBases_100 : decode cX0_findBases 100 = .ok (.iadd, 1) := by decide +kernel
theorem dX0_findBases_101 : decode cX0_findBases 101 = .ok (.putfield 39, 3) := by decide +kernel
theorem dX0_findBases_104 : decode cX0_findBases 104 = .ok (.iinc 3 1, 3) := by decide +kernel
theorem dX0_findBases_107 : decode cX0_findBases 107 = .ok (.goto (-100), 3) := by decide +kernel
theorem dX0_findBases_110 : decode cX0_findBases 110 = .ok (.return_, 1) := by decide +kernel
theorem dX0_collectTopNumbers_0 : decode cX0_collectTopNumbers 0 = .ok (.aload_n 1, 1) := by decide +kernel
theorem dX0_collectTopNumbers_1 : decode cX0_collectTopNumbers 1 = .ok (.invokevirtual 89, 3) := by decide +kernel
theorem dX0_collectTopNumbers_4 : decode cX0_collectTopNumbers 4 = .ok (.istore_n 2, 1) := by decide +kernel
theorem dX0_collectTopNumbers_5 : decode cX0_collectTopNumbers 5 = .ok (.iconst 0, 1) := by decide +kernel
theorem dX0_collectTopNumbers_6 : decode cX0_collectTopNumbers 6 = .ok (.istore_n 3, 1) := by decide +kernel
theorem dX0_collectTopNumbers_7 : decode cX0_collectTopNumbers 7 = .ok (.iload_n 3, 1) := by decide +kernel
theorem dX0_collectTopNumbers_8 : decode cX0_collectTopNumbers 8 = .ok (.bipush 7, 2) := by decide +kernel
theorem dX0_collectTopNumbers_10 : decode cX0_collectTopNumbers 10 = .ok (.if_icmp .ge 48, 3) := by decide +kernel
theorem dX0_collectTopNumbers_13 : decode cX0_collectTopNumbers 13 = .ok (.iload_n 3, 1) := by decide +kernel
theorem dX0_collectTopNumbers_14 : decode cX0_collectTopNumbers 14 = .ok (.iconst 4, 1) := by decide +kernel
theorem dX0_collectTopNumbers_15 : decode cX0_collectTopNumbers 15 = .ok (.if_icmp .gt 11, 3) := by decide +kernel
theorem dX0_collectTopNumbers_18 : decode cX0_collectTopNumbers 18 = .ok (.iload_n 2, 1) := by decide +kernel
theorem dX0_collectTopNumbers_19 : decode cX0_collectTopNumbers 19 = .ok (.ifCond .lt 7, 3) := by decide +kernel
theorem dX0_collectTopNumbers_22 : decode cX0_collectTopNumbers 22 = .ok (.iconst 1, 1) := by decide +kernel
theorem dX0_collectTopNumbers_23 : decode cX0_collectTopNumbers 23 = .ok (.goto 4, 3) := by decide +kernel
theorem dX0_collectTopNumbers_26 : decode cX0_collectTopNumbers 26 = .ok (.iconst 0, 1) := by decide +kernel
theorem dX0_collectTopNumbers_27 : decode cX0_collectTopNumbers 27 = .ok (.istore 4, 2) := by decide +kernel
theorem dX0_collectTopNumbers_29 : decode cX0_collectTopNumbers 29 = .ok (.aload_n 0, 1) := by decide +kernel
theorem dX0_collectTopNumbers_30 : decode cX0_collectTopNumbers 30 = .ok (.getfield 18, 3) := by decide +kernel
theorem dX0_collectTopNumbers_33 : decode cX0_collectTopNumbers 33 = .ok (.iload_n 3, 1) := by decide +kernel
theorem dX0_collectTopNumbers_34 : decode cX0_collectTopNumbers 34 = .ok (.iload 4, 2) := by decide +kernel
theorem dX0_collectTopNumbers_36 : decode cX0_collectTopNumbers 36 = .ok (.ifCond .eq 14, 3) := by decide +kernel
theorem dX0_collectTopNumbers_39 : decode cX0_collectTopNumbers 39 = .ok (.aload_n 1, 1) := by decide +kernel
theorem dX0_collectTopNumbers_40 : decode cX0_collectTopNumbers 40 = .ok (.getfield 95, 3) := by decide +kernel
theorem dX0_collectTopNumbers_43 : decode cX0_collectTopNumbers 43 = .ok (.iload_n 3, 1) := by decide +kernel
theorem dX0_collectTopNumbers_44 : decode cX0_collectTopNumbers 44 = .ok (.aaload, 1) := by decide +kernel
theorem dX0_collectTopNumbers_45 : decode cX0_collectTopNumbers 45 = .ok (.iload_n 2, 1) := by decide +kernel
theorem dX0_collectTopNumbers_46 : decode cX0_collectTopNumbers 46 = .ok (.iaload, 1) := by decide +kernel
theorem dX0_collectTopNumbers_47 : decode cX0_collectTopNumbers 47 = .ok (.goto 4, 3) := by decide +kernel
theorem dX0_collectTopNumbers_50 : decode cX0_collectTopNumbers 50 = .ok (.iconst 0, 1) := by decide +kernel
theorem dX0_collectTopNumbers_51 : decode cX0_collectTopNumbers 51 = .ok (.iastore, 1) := by decide +kernel
theorem dX0_collectTopNumbers_52 : decode cX0_collectTopNumbers 52 = .ok (.iinc 3 1, 3) := by decide +kernel
theorem dX0_collectTopNumbers_55 : decode cX0_collectTopNumbers 55 = .ok (.goto (-48), 3) := by decide +kernel
theorem dX0_collectTopNumbers_58 : decode cX0_collectTopNumbers 58 = .ok (.return_, 1) := by decide +kernel
theorem dX1_init_0 : decode cX1_init 0 = .ok (.aload_n 0, 1) := by decide +kernel
theorem dX1_init_1 : decode cX1_init 1 = .ok (.invokespecial 3, 3) := by decide +kernel
theorem dX1_init_4 : decode cX1_init 4 = .ok (.aload_n 0, 1) := by decide +kernel
theorem dX1_init_5 : decode cX1_init 5 = .ok (.iconst 5, 1) := by decide +kernel
theorem dX1_init_6 : decode cX1_init 6 = .ok (.bipush 7, 2) := by decide +kernel
theorem dX1_init_8 : decode cX1_init 8 = .ok (.multianewarray 9 2, 4) := by decide +kernel
theorem dX1_init_12 : decode cX1_init 12 = .ok (.putfield 11, 3) := by decide +kernel
theorem dX1_init_15 : decode cX1_init 15 = .ok (.aload_n 0, 1) := by decide +kernel
theorem dX1_init_16 : decode cX1_init 16 = .ok (.bipush 11, 2) := by decide +kernel
theorem dX1_init_18 : decode cX1_init 18 = .ok (.newarray .int, 2) := by decide +kernel
theorem dX1_init_20 : decode cX1_init 20 = .ok (.putfield 16, 3) := by decide +kernel
theorem dX1_init_23 : decode cX1_init 23 = .ok (.aload_n 0, 1) := by decide +kernel
theorem dX1_init_24 : decode cX1_init 24 = .ok (.iload_n 1, 1) := by decide +kernel
theorem dX1_init_25 : decode cX1_init 25 = .ok (.putfield 20, 3) := by decide +kernel
theorem dX1_init_28 : decode cX1_init 28 = .ok (.return_, 1) := by decide +kernel
theorem dX1_leastShift_0 : decode cX1_leastShift 0 = .ok (.iconst 0, 1) := by decide +kernel
theorem dX1_leastShift_1 : decode cX1_leastShift 1 = .ok (.istore_n 1, 1) := by decide +kernel
theorem dX1_leastShift_2 : decode cX1_leastShift 2 = .ok (.iload_n 1, 1) := by decide +kernel
theorem dX1_leastShift_3 : decode cX1_leastShift 3 = .ok (.iconst 4, 1) := by decide +kernel
theorem dX1_leastShift_4 : decode cX1_leastShift 4 = .ok (.if_icmp .gt 23, 3) := by decide +kernel
theorem dX1_leastShift_7 : decode cX1_leastShift 7 = .ok (.aload_n 0, 1) := by decide +kernel
theorem dX1_leastShift_8 : decode cX1_leastShift 8 = .ok (.getfield 11, 3) := by decide +kernel
theorem dX1_leastShift_11 : decode cX1_leastShift 11 = .ok (.iload_n 1, 1) := by decide +kernel
theorem dX1_leastShift_12 : decode cX1_leastShift 12 = .ok (.aaload, 1) := by decide +kernel
theorem dX1_leastShift_13 : decode cX1_leastShift 13 = .ok (.invokestatic 24, 3) := by decide +kernel
theorem dX1_leastShift_16 : decode cX1_leastShift 16 = .ok (.ifCond .lt 5, 3) := by decide +kernel
theorem dX1_leastShift_19 : decode cX1_leastShift 19 = .ok (.iload_n 1, 1) := by decide +kernel
theorem dX1_leastShift_20 : decode cX1_leastShift 20 = .ok (.ireturn, 1) := by decide +kernel
theorem dX1_leastShift_21 : decode cX1_leastShift 21 = .ok (.iinc 1 1, 3) := by decide +kernel
theorem dX1_leastShift_24 : decode cX1_leastShift 24 = .ok (.goto (-22), 3) := by decide +kernel
theorem dX1_leastShift_27 : decode cX1_leastShift 27 = .ok (.iconst (-1), 1) := by decide +kernel
theorem dX1_leastShift_28 : decode cX1_leastShift 28 = .ok (.ireturn, 1) := by decide +kernel
theorem dX1_greatestShift_0 : decode cX1_greatestShift 0 = .ok (.iconst 4, 1) := by decide +kernel
theorem dX1_greatestShift_1 : decode cX1_greatestShift 1 = .ok (.istore_n 1, 1) := by decide +kernel
theorem dX1_greatestShift_2 : decode cX1_greatestShift 2 = .ok (.iload_n 1, 1) := by decide +kernel
theorem dX1_greatestShift_3 : decode cX1_greatestShift 3 = .ok (.ifCond .lt 23, 3) := by decide +kernel
theorem dX1_greatestShift_6 : decode cX1_greatestShift 6 = .ok (.aload_n 0, 1) := by decide +kernel
theorem dX1_greatestShift_7 : decode cX1_greatestShift 7 = .ok (.getfield 11, 3) := by decide +kernel
theorem dX1_greatestShift_10 : decode cX1_greatestShift 10 = .ok (.iload_n 1, 1) := by decide +kernel
theorem dX1_greatestShift_11 : decode cX1_greatestShift 11 = .ok (.aaload, 1) := by decide +kernel
theorem dX1_greatestShift_12 : decode cX1_greatestShift 12 = .ok (.invokestatic 24, 3) := by decide +kernel
theorem dX1_greatestShift_15 : decode cX1_greatestShift 15 = .ok (.ifCond .lt 5, 3) := by decide +kernel
theorem dX1_greatestShift_18 : decode cX1_greatestShift 18 = .ok (.iload_n 1, 1) := by decide +kernel
theorem dX1_greatestShift_19 : decode cX1_greatestShift 19 = .ok (.ireturn, 1) := by decide +kernel
theorem dX1_greatestShift_20 : decode cX1_greatestShift 20 = .ok (.iinc 1 (-1), 3) := by decide +kernel
theorem dX1_greatestShift_23 : decode cX1_greatestShift 23 = .ok (.goto (-21), 3) := by decide +kernel
theorem dX1_greatestShift_26 : decode cX1_greatestShift 26 = .ok (.iconst (-1), 1) := by decide +kernel
theorem dX1_greatestShift_27 : decode cX1_greatestShift 27 = .ok (.ireturn, 1) := by decide +kernel
theorem dX1_greatestDegree_0 : decode cX1_greatestDegree 0 = .ok (.iconst (-1), 1) := by decide +kernel
theorem dX1_greatestDegree_1 : decode cX1_greatestDegree 1 = .ok (.istore_n 1, 1) := by decide +kernel
theorem dX1_greatestDegree_2 : decode cX1_greatestDegree 2 = .ok (.iconst 0, 1) := by decide +kernel
theorem dX1_greatestDegree_3 : decode cX1_greatestDegree 3 = .ok (.istore_n 2, 1) := by decide +kernel
theorem dX1_greatestDegree_4 : decode cX1_greatestDegree 4 = .ok (.iload_n 2, 1) := by decide +kernel
theorem dX1_greatestDegree_5 : decode cX1_greatestDegree 5 = .ok (.iconst 4, 1) := by decide +kernel
theorem dX1_greatestDegree_6 : decode cX1_greatestDegree 6 = .ok (.if_icmp .gt 23, 3) := by decide +kernel
theorem dX1_greatestDegree_9 : decode cX1_greatestDegree 9 = .ok (.iload_n 1, 1) := by decide +kernel
theorem dX1_greatestDegree_10 : decode cX1_greatestDegree 10 = .ok (.aload_n 0, 1) := by decide +kernel
theorem dX1_greatestDegree_11 : decode cX1_greatestDegree 11 = .ok (.getfield 11, 3) := by decide +kernel
theorem dX1_greatestDegree_14 : decode cX1_greatestDegree 14 = .ok (.iload_n 2, 1) := by decide +kernel
theorem dX1_greatestDegree_15 : decode cX1_greatestDegree 15 = .ok (.aaload, 1) := by decide +kernel
theorem dX1_greatestDegree_16 : decode cX1_greatestDegree 16 = .ok (.invokestatic 24, 3) := by decide +kernel
theorem dX1_greatestDegree_19 : decode cX1_greatestDegree 19 = .ok (.invokestatic 30, 3) := by decide +kernel
theorem dX1_greatestDegree_22 : decode cX1_greatestDegree 22 = .ok (.istore_n 1, 1) := by decide +kernel
theorem dX1_greatestDegree_23 : decode cX1_greatestDegree 23 = .ok (.iinc 2 1, 3) := by decide +kernel
theorem dX1_greatestDegree_26 : decode cX1_greatestDegree 26 = .ok (.goto (-22), 3) := by decide +kernel
theorem dX1_greatestDegree_29 : decode cX1_greatestDegree 29 = .ok (.iload_n 1, 1) := by decide +kernel
theorem dX1_greatestDegree_30 : decode cX1_greatestDegree 30 = .ok (.ireturn, 1) := by decide +kernel
theorem dX1_empty_0 : decode cX1_empty 0 = .ok (.iconst 0, 1) := by decide +kernel
theorem dX1_empty_1 : decode cX1_empty 1 = .ok (.istore_n 1, 1) := by decide +kernel
theorem dX1_empty_2 : decode cX1_empty 2 = .ok (.iload_n 1, 1) := by decide +kernel
theorem dX1_empty_3 : decode cX1_empty 3 = .ok (.iconst 4, 1) := by decide +kernel
theorem dX1_empty_4 : decode cX1_empty 4 = .ok (.if_icmp .gt 32, 3) := by decide +kernel
theorem dX1_empty_7 : decode cX1_empty 7 = .ok (.iconst 0, 1) := by decide +kernel
theorem dX1_empty_8 : decode cX1_empty 8 = .ok (.istore_n 2, 1) := by decide +kernel
theorem dX1_empty_9 : decode cX1_empty 9 = .ok (.iload_n 2, 1) := by decide +kernel
theorem dX1_empty_10 : decode cX1_empty 10 = .ok (.bipush 7, 2) := by decide +kernel
theorem dX1_empty_12 : decode cX1_empty 12 = .ok (.if_icmp .ge 18, 3) := by decide +kernel
theorem dX1_empty_15 : decode cX1_empty 15 = .ok (.aload_n 0, 1) := by decide +kernel
theorem dX1_empty_16 : decode cX1_empty 16 = .ok (.getfield 11, 3) := by decide +kernel
theorem dX1_empty_19 : decode cX1_empty 19 = .ok (.iload_n 1, 1) := by decide +kernel
theorem dX1_empty_20 : decode cX1_empty 20 = .ok (.aaload, 1) := by decide +kernel
theorem dX1_empty_21 : decode cX1_empty 21 = .ok (.iload_n 2, 1) := by decide +kernel
theorem dX1_empty_22 : decode cX1_empty 22 = .ok (.iconst 0, 1) := by decide +kernel
theorem dX1_empty_23 : decode cX1_empty 23 = .ok (.iastore, 1) := by decide +kernel
theorem dX1_empty_24 : decode cX1_empty 24 = .ok (.iinc 2 1, 3) := by decide +kernel
theorem dX1_empty_27 : decode cX1_empty 27 = .ok (.goto (-18), 3) := by decide +kernel
theorem dX1_empty_30 : decode cX1_empty 30 = .ok (.iinc 1 1, 3) := by decide +kernel
theorem dX1_empty_33 : decode cX1_empty 33 = .ok (.goto (-31), 3) := by decide +kernel
theorem dX1_empty_36 : decode cX1_empty 36 = .ok (.iconst 0, 1) := by decide +kernel
theorem dX1_empty_37 : decode cX1_empty 37 = .ok (.istore_n 1, 1) := by decide +kernel
theorem dX1_empty_38 : decode cX1_empty 38 = .ok (.iload_n 1, 1) := by decide +kernel
theorem dX1_empty_39 : decode cX1_empty 39 = .ok (.bipush 11, 2) := by decide +kernel
theorem dX1_empty_41 : decode cX1_empty 41 = .ok (.if_icmp .ge 16, 3) := by decide +kernel
theorem dX1_empty_44 : decode cX1_empty 44 = .ok (.aload_n 0, 1) := by decide +kernel
theorem dX1_empty_45 : decode cX1_empty 45 = .ok (.getfield 16, 3) := by decide +kernel
theorem dX1_empty_48 : decode cX1_empty 48 = .ok (.iload_n 1, 1) := by decide +kernel
theorem dX1_empty_49 : decode cX1_empty 49 = .ok (.iconst 0, 1) := by decide +kernel
theorem dX1_empty_50 : decode cX1_empty 50 = .ok (.iastore, 1) := by decide +kernel
theorem dX1_empty_51 : decode cX1_empty 51 = .ok (.iinc 1 1, 3) := by decide +kernel
theorem dX1_empty_54 : decode cX1_empty 54 = .ok (.goto (-16), 3) := by decide +kernel
theorem dX1_empty_57 : decode cX1_empty 57 = .ok (.return_, 1) := by decide +kernel
theorem dX2_init_0 : decode cX2_init 0 = .ok (.aload_n 0, 1) := by decide +kernel
theorem dX2_init_1 : decode cX2_init 1 = .ok (.invokespecial 3, 3) := by decide +kernel
theorem dX2_init_4 : decode cX2_init 4 = .ok (.aload_n 0, 1) := by decide +kernel
theorem dX2_init_5 : decode cX2_init 5 = .ok (.bipush 19, 2) := by decide +kernel
theorem dX2_init_7 : decode cX2_init 7 = .ok (.bipush 14, 2) := by decide +kernel
theorem dX2_init_9 : decode cX2_init 9 = .ok (.multianewarray 9 2, 4) := by decide +kernel
theorem dX2_init_13 : decode cX2_init 13 = .ok (.putfield 11, 3) := by decide +kernel
theorem dX2_init_16 : decode cX2_init 16 = .ok (.aload_n 0, 1) := by decide +kernel
theorem dX2_init_17 : decode cX2_init 17 = .ok (.bipush 19, 2) := by decide +kernel
theorem dX2_init_19 : decode cX2_init 19 = .ok (.newarray .boolean, 2) := by decide +kernel
theorem dX2_init_21 : decode cX2_init 21 = .ok (.putfield 16, 3) := by decide +kernel
theorem dX2_init_24 : decode cX2_init 24 = .ok (.aload_n 0, 1) := by decide +kernel
theorem dX2_init_25 : decode cX2_init 25 = .ok (.bipush 13, 2) := by decide +kernel
theorem dX2_init_27 : decode cX2_init 27 = .ok (.newarray .int, 2) := by decide +kernel
theorem dX2_init_29 : decode cX2_init 29 = .ok (.putfield 20, 3) := by decide +kernel
theorem dX2_init_32 : decode cX2_init 32 = .ok (.aload_n 0, 1) := by decide +kernel
theorem dX2_init_33 : decode cX2_init 33 = .ok (.bipush 19, 2) := by decide +kernel
theorem dX2_init_35 : decode cX2_init 35 = .ok (.newarray .int, 2) := by decide +kernel
theorem dX2_init_37 : decode cX2_init 37 = .ok (.putfield 24, 3) := by decide +kernel
theorem dX2_init_40 : decode cX2_init 40 = .ok (.return_, 1) := by decide +kernel
theorem dX2_fill_0 : decode cX2_fill 0 = .ok (.iconst 0, 1) := by decide +kernel
theorem dX2_fill_1 : decode cX2_fill 1 = .ok (.istore_n 3, 1) := by decide +kernel
theorem dX2_fill_2 : decode cX2_fill 2 = .ok (.iload_n 3, 1) := by decide +kernel
theorem dX2_fill_3 : decode cX2_fill 3 = .ok (.bipush 19, 2) := by decide +kernel
theorem dX2_fill_5 : decode cX2_fill 5 = .ok (.if_icmp .ge 60, 3) := by decide +kernel
theorem dX2_fill_8 : decode cX2_fill 8 = .ok (.iconst 0, 1) := by decide +kernel
theorem dX2_fill_9 : decode cX2_fill 9 = .ok (.istore 4, 2) := by decide +kernel
theorem dX2_fill_11 : decode cX2_fill 11 = .ok (.iload 4, 2) := by decide +kernel
theorem dX2_fill_13 : decode cX2_fill 13 = .ok (.bipush 13, 2) := by decide +kernel
theorem dX2_fill_15 : decode cX2_fill 15 = .ok (.if_icmp .ge 19, 3) := by decide +kernel
theorem dX2_fill_18 : decode cX2_fill 18 = .ok (.aload_n 0, 1) := by decide +kernel
theorem dX2_fill_19 : decode cX2_fill 19 = .ok (.getfield 11, 3) := by decide +kernel
theorem dX2_fill_22 : decode cX2_fill 22 = .ok (.iload_n 3, 1) := by decide +kernel
theorem dX2_fill_23 : decode cX2_fill 23 = .ok (.aaload, 1) := by decide +kernel
theorem dX2_fill_24 : decode cX2_fill 24 = .ok (.iload 4, 2) := by decide +kernel
theorem dX2_fill_26 : decode cX2_fill 26 = .ok (.iconst 0, 1) := by decide +kernel
theorem dX2_fill_27 : decode cX2_fill 27 = .ok (.iastore, 1) := by decide +kernel
theorem dX2_fill_28 : decode cX2_fill 28 = .ok (.iinc 4 1, 3) := by decide +kernel
theorem dX2_fill_31 : decode cX2_fill 31 = .ok (.goto (-20), 3) := by decide +kernel
theorem dX2_fill_34 : decode cX2_fill 34 = .ok (.aload_n 0, 1) := by decide +kernel
theorem dX2_fill_35 : decode cX2_fill 35 = .ok (.getfield 11, 3) := by decide +kernel
theorem dX2_fill_38 : decode cX2_fill 38 = .ok (.iload_n 3, 1) := by decide +kernel
theorem dX2_fill_39 : decode cX2_fill 39 = .ok (.aaload, 1) := by decide +kernel
theorem dX2_fill_40 : decode cX2_fill 40 = .ok (.bipush 13, 2) := by decide +kernel
theorem dX2_fill_42 : decode cX2_fill 42 = .ok (.iload_n 3, 1) := by decide +kernel
theorem dX2_fill_43 : decode cX2_fill 43 = .ok (.bipush 11, 2) := by decide +kernel
theorem dX2_fill_45 : decode cX2_fill 45 = .ok (.if_icmp .ge 12, 3) := by decide +kernel
theorem dX2_fill_48 : decode cX2_fill 48 = .ok (.aload_n 1, 1) := by decide +kernel
theorem dX2_fill_49 : decode cX2_fill 49 = .ok (.getfield 27, 3) := by decide +kernel
theorem dX2_fill_52 : decode cX2_fill 52 = .ok (.iload_n 3, 1) := by decide +kernel
theorem dX2_fill_53 : decode cX2_fill 53 = .ok (.iaload, 1) := by decide +kernel
theorem dX2_fill_54 : decode cX2_fill 54 = .ok (.goto 4, 3) := by decide +kernel
theorem dX2_fill_57 : decode cX2_fill 57 = .ok (.iconst 0, 1) := by decide +kernel
theorem dX2_fill_58 : decode cX2_fill 58 = .ok (.iastore, 1) := by decide +kernel
theorem dX2_fill_59 : decode cX2_fill 59 = .ok (.iinc 3 1, 3) := by decide +kernel
theorem dX2_fill_62 : decode cX2_fill 62 = .ok (.goto (-60), 3) := by decide +kernel
theorem dX2_fill_65 : decode cX2_fill 65 = .ok (.iconst 1, 1) := by decide +kernel
theorem dX2_fill_66 : decode cX2_fill 66 = .ok (.istore_n 3, 1) := by decide +kernel
theorem dX2_fill_67 : decode cX2_fill 67 = .ok (.iconst 0, 1) := by decide +kernel
theorem dX2_fill_68 : decode cX2_fill 68 = .ok (.istore 4, 2) := by decide +kernel
theorem dX2_fill_70 : decode cX2_fill 70 = .ok (.iload 4, 2) := by decide +kernel
theorem dX2_fill_72 : decode cX2_fill 72 = .ok (.iconst 4, 1) := by decide +kernel
theorem dX2_fill_73 : decode cX2_fill 73 = .ok (.if_icmp .gt 31, 3) := by decide +kernel
theorem dX2_fill_76 : decode cX2_fill 76 = .ok (.aload_n 0, 1) := by decide +kernel
theorem dX2_fill_77 : decode cX2_fill 77 = .ok (.aload_n 1, 1) := by decide +kernel
theorem dX2_fill_78 : decode cX2_fill 78 = .ok (.getfield 32, 3) := by decide +kernel
theorem dX2_fill_81 : decode cX2_fill 81 = .ok (.iload 4, 2) := by decide +kernel
theorem dX2_fill_83 : decode cX2_fill 83 = .ok (.aaload, 1) := by decide +kernel
theorem dX2_fill_84 : decode cX2_fill 84 = .ok (.iload 4, 2) := by decide +kernel
theorem dX2_fill_86 : decode cX2_fill 86 = .ok (.iload_n 3, 1) := by decide +kernel
theorem dX2_fill_87 : decode cX2_fill 87 = .ok (.invokevirtual 35, 3) := by decide +kernel
theorem dX2_fill_90 : decode cX2_fill 90 = .ok (.iload_n 3, 1) := by decide +kernel
theorem dX2_fill_91 : decode cX2_fill 91 = .ok (.iload_n 2, 1) := by decide +kernel
theorem dX2_fill_92 : decode cX2_fill 92 = .ok (.imul, 1) := by decide +kernel
theorem dX2_fill_93 : decode cX2_fill 93 = .ok (.sipush 32003, 3) := by decide +kernel
theorem dX2_fill_96 : decode cX2_fill 96 = .ok (.irem, 1) := by decide +kernel
theorem dX2_fill_97 : decode cX2_fill 97 = .ok (.istore_n 3, 1) := by decide +kernel
theorem dX2_fill_98 : decode cX2_fill 98 = .ok (.iinc 4 1, 3) := by decide +kernel
theorem dX2_fill_101 : decode cX2_fill 101 = .ok (.goto (-31), 3) := by decide +kernel
theorem dX2_fill_104 : decode cX2_fill 104 = .ok (.return_, 1) := by decide +kernel
theorem dX2_addFactor_0 : decode cX2_addFactor 0 = .ok (.aload_n 1, 1) := by decide +kernel
theorem dX2_addFactor_1 : decode cX2_addFactor 1 = .ok (.invokestatic 39, 3) := by decide +kernel
theorem dX2_addFactor_4 : decode cX2_addFactor 4 = .ok (.ifCond .ge 4, 3) := by decide +kernel
theorem dX2_addFactor_7 : decode cX2_addFactor 7 = .ok (.return_, 1) := by decide +kernel
theorem dX2_addFactor_8 : decode cX2_addFactor 8 = .ok (.iconst 0, 1) := by decide +kernel
theorem dX2_addFactor_9 : decode cX2_addFactor 9 = .ok (.istore 4, 2) := by decide +kernel
theorem dX2_addFactor_11 : decode cX2_addFactor 11 = .ok (.iload 4, 2) := by decide +kernel
theorem dX2_addFactor_13 : decode cX2_addFactor 13 = .ok (.bipush 19, 2) := by decide +kernel
theorem dX2_addFactor_15 : decode cX2_addFactor 15 = .ok (.if_icmp .ge 37, 3) := by decide +kernel
theorem dX2_addFactor_18 : decode cX2_addFactor 18 = .ok (.aload_n 0, 1) := by decide +kernel
theorem dX2_addFactor_19 : decode cX2_addFactor 19 = .ok (.getfield 24, 3) := by decide +kernel
theorem dX2_addFactor_22 : decode cX2_addFactor 22 = .ok (.iload 4, 2) := by decide +kernel
theorem dX2_addFactor_24 : decode cX2_addFactor 24 = .ok (.iload 4, 2) := by decide +kernel
theorem dX2_addFactor_26 : decode cX2_addFactor 26 = .ok (.aload_n 1, 1) := by decide +kernel
theorem dX2_addFactor_27 : decode cX2_addFactor 27 = .ok (.arraylength, 1) := by decide +kernel
theorem dX2_addFactor_28 : decode cX2_addFactor 28 = .ok (.if_icmp .ge 16, 3) := by decide +kernel
theorem dX2_addFactor_31 : decode cX2_addFactor 31 = .ok (.aload_n 1, 1) := by decide +kernel
theorem dX2_addFactor_32 : decode cX2_addFactor 32 = .ok (.iload 4, 2) := by decide +kernel
theorem dX2_addFactor_34 : decode cX2_addFactor 34 = .ok (.iaload, 1) := by decide +kernel
theorem dX2_addFactor_35 : decode cX2_addFactor 35 = .ok (.iload_n 3, 1) := by decide +kernel
theorem dX2_addFactor_36 : decode cX2_addFactor 36 = .ok (.imul, 1) := by decide +kernel
theorem dX2_addFactor_37 : decode cX2_addFactor 37 = .ok (.sipush 32003, 3) := by decide +kernel
theorem dX2_addFactor_40 : decode cX2_addFactor 40 = .ok (.irem, 1) := by decide +kernel
theorem dX2_addFactor_41 : decode cX2_addFactor 41 = .ok (.goto 4, 3) := by decide +kernel
theorem dX2_addFactor_44 : decode cX2_addFactor 44 = .ok (.iconst 0, 1) := by decide +kernel
theorem dX2_addFactor_45 : decode cX2_addFactor 45 = .ok (.iastore, 1) := by decide +kernel
theorem dX2_addFactor_46 : decode cX2_addFactor 46 = .ok (.iinc 4 1, 3) := by decide +kernel
theorem dX2_addFactor_49 : decode cX2_addFactor 49 = .ok (.goto (-38), 3) := by decide +kernel
theorem dX2_addFactor_52 : decode cX2_addFactor 52 = .ok (.iconst 0, 1) := by decide +kernel
theorem dX2_addFactor_53 : decode cX2_addFactor 53 = .ok (.istore 4, 2) := by decide +kernel
theorem dX2_addFactor_55 : decode cX2_addFactor 55 = .ok (.iload 4, 2) := by decide +kernel
theorem dX2_addFactor_57 : decode cX2_addFactor 57 = .ok (.bipush 13, 2) := by decide +kernel
theorem dX2_addFactor_59 : decode cX2_addFactor 59 = .ok (.if_icmp .ge 65, 3) := by decide +kernel
theorem dX2_addFactor_62 : decode cX2_addFactor 62 = .ok (.iconst 0, 1) := by decide +kernel
theorem dX2_addFactor_63 : decode cX2_addFactor 63 = .ok (.istore 5, 2) := by decide +kernel
theorem dX2_addFactor_65 : decode cX2_addFactor 65 = .ok (.iload 5, 2) := by decide +kernel
theorem dX2_addFactor_67 : decode cX2_addFactor 67 = .ok (.bipush 19, 2) := by decide +kernel
theorem dX2_addFactor_69 : decode cX2_addFactor 69 = .ok (.if_icmp .ge 41, 3) := by decide +kernel
theorem dX2_addFactor_72 : decode cX2_addFactor 72 = .ok (.aload_n 0, 1) := by decide +kernel
theorem dX2_addFactor_73 : decode cX2_addFactor 73 = .ok (.getfield 11, 3) := by decide +kernel
theorem dX2_addFactor_76 : decode cX2_addFactor 76 = .ok (.iload 5, 2) := by decide +kernel
theorem dX2_addFactor_78 : decode cX2_addFactor 78 = .ok (.aaload, 1) := by decide +kernel
theorem dX2_addFactor_79 : decode cX2_addFactor 79 = .ok (.iload 4, 2) := by decide +kernel
theorem dX2_addFactor_81 : decode cX2_addFactor 81 = .ok (.aload_n 0, 1) := by decide +kernel
theorem dX2_addFactor_82 : decode cX2_addFactor 82 = .ok (.getfield 11, 3) := by decide +kernel
theorem dX2_addFactor_85 : decode cX2_addFactor 85 = .ok (.iload 5, 2) := by decide +kernel
theorem dX2_addFactor_87 : decode cX2_addFactor 87 = .ok (.aaload, 1) := by decide +kernel
theorem dX2_addFactor_88 : decode cX2_addFactor 88 = .ok (.iload 4, 2) := by decide +kernel
theorem dX2_addFactor_90 : decode cX2_addFactor 90 = .ok (.iaload, 1) := by decide +kernel
theorem dX2_addFactor_91 : decode cX2_addFactor 91 = .ok (.aload_n 0, 1) := by decide +kernel
theorem dX2_addFactor_92 : decode cX2_addFactor 92 = .ok (.getfield 24, 3) := by decide +kernel
theorem dX2_addFactor_95 : decode cX2_addFactor 95 = .ok (.iload 5, 2) := by decide +kernel
theorem dX2_addFactor_97 : decode cX2_addFactor 97 = .ok (.iaload, 1) := by decide +kernel
theorem dX2_addFactor_98 : decode cX2_addFactor 98 = .ok (.iadd, 1) := by decide +kernel
theorem dX2_addFactor_99 : decode cX2_addFactor 99 = .ok (.sipush 32003, 3) := by decide +kernel
theorem dX2_addFactor_102 : decode cX2_addFactor 102 = .ok (.irem, 1) := by decide +kernel
theorem dX2_addFactor_103 : decode cX2_addFactor 103 = .ok (.iastore, 1) := by decide +kernel
theorem dX2_addFactor_104 : decode cX2_addFactor 104 = .ok (.iinc 5 1, 3) := by decide +kernel
theorem dX2_addFactor_107 : decode cX2_addFactor 107 = .ok (.goto (-42), 3) := by decide +kernel
theorem dX2_addFactor_110 : decode cX2_addFactor 110 = .ok (.aload_n 0, 1) := by decide +kernel
theorem dX2_addFactor_111 : decode cX2_addFactor 111 = .ok (.getfield 24, 3) := by decide +kernel
theorem dX2_addFactor_114 : decode cX2_addFactor 114 = .ok (.iload_n 2, 1) := by decide +kernel
theorem dX2_addFactor_115 : decode cX2_addFactor 115 = .ok (.invokestatic 45, 3) := by decide +kernel
theorem dX2_addFactor_118 : decode cX2_addFactor 118 = .ok (.iinc 4 1, 3) := by decide +kernel
theorem dX2_addFactor_121 : decode cX2_addFactor 121 = .ok (.goto (-66), 3) := by decide +kernel
theorem dX2_addFactor_124 : decode cX2_addFactor 124 = .ok (.return_, 1) := by decide +kernel
theorem dX2_leftOver_0 : decode cX2_leftOver 0 = .ok (.iload_n 2, 1) := by decide +kernel
theorem dX2_leftOver_1 : decode cX2_leftOver 1 = .ok (.ifCond .lt 9, 3) := by decide +kernel
theorem dX2_leftOver_4 : decode cX2_leftOver 4 = .ok (.iload_n 2, 1) := by decide +kernel
theorem dX2_leftOver_5 : decode cX2_leftOver 5 = .ok (.bipush 19, 2) := by decide +kernel
theorem dX2_leftOver_7 : decode cX2_leftOver 7 = .ok (.if_icmp .lt 5, 3) := by decide +kernel
theorem dX2_leftOver_10 : decode cX2_leftOver 10 = .ok (.iconst 0, 1) := by decide +kernel
theorem dX2_leftOver_11 : decode cX2_leftOver 11 = .ok (.ireturn, 1) := by decide +kernel
theorem dX2_leftOver_12 : decode cX2_leftOver 12 = .ok (.aload_n 0, 1) := by decide +kernel
theorem dX2_leftOver_13 : decode cX2_leftOver 13 = .ok (.getfield 11, 3) := by decide +kernel
theorem dX2_leftOver_16 : decode cX2_leftOver 16 = .ok (.iload_n 2, 1) := by decide +kernel
theorem dX2_leftOver_17 : decode cX2_leftOver 17 = .ok (.aaload, 1) := by decide +kernel
theorem dX2_leftOver_18 : decode cX2_leftOver 18 = .ok (.bipush 13, 2) := by decide +kernel
theorem dX2_leftOver_20 : decode cX2_leftOver 20 = .ok (.iaload, 1) := by decide +kernel
theorem dX2_leftOver_21 : decode cX2_leftOver 21 = .ok (.invokestatic 49, 3) := by decide +kernel
theorem dX2_leftOver_24 : decode cX2_leftOver 24 = .ok (.istore_n 3, 1) := by decide +kernel
theorem dX2_leftOver_25 : decode cX2_leftOver 25 = .ok (.iconst 0, 1) := by decide +kernel
theorem dX2_leftOver_26 : decode cX2_leftOver 26 = .ok (.istore 4, 2) := by decide +kernel
theorem dX2_leftOver_28 : decode cX2_leftOver 28 = .ok (.iload 4, 2) := by decide +kernel
theorem dX2_leftOver_30 : decode cX2_leftOver 30 = .ok (.bipush 13, 2) := by decide +kernel
theorem dX2_leftOver_32 : decode cX2_leftOver 32 = .ok (.if_icmp .ge 37, 3) := by decide +kernel
theorem dX2_leftOver_35 : decode cX2_leftOver 35 = .ok (.iload 4, 2) := by decide +kernel
theorem dX2_leftOver_37 : decode cX2_leftOver 37 = .ok (.aload_n 1, 1) := by decide +kernel
theorem dX2_leftOver_38 : decode cX2_leftOver 38 = .ok (.arraylength, 1) := by decide +kernel
theorem dX2_leftOver_39 : decode cX2_leftOver 39 = .ok (.if_icmp .ge 30, 3) := by decide +kernel
theorem dX2_leftOver_42 : decode cX2_leftOver 42 = .ok (.iload_n 3, 1) := by decide +kernel
theorem dX2_leftOver_43 : decode cX2_leftOver 43 = .ok (.aload_n 0, 1) := by decide +kernel
theorem dX2_leftOver_44 : decode cX2_leftOver 44 = .ok (.getfield 11, 3) := by decide +kernel
theorem dX2_leftOver_47 : decode cX2_leftOver 47 = .ok (.iload_n 2, 1) := by decide +kernel
theorem dX2_leftOver_48 : decode cX2_leftOver 48 = .ok (.aaload, 1) := by decide +kernel
theorem dX2_leftOver_49 : decode cX2_leftOver 49 = .ok (.iload 4, 2) := by decide +kernel
theorem dX2_leftOver_51 : decode cX2_leftOver 51 = .ok (.iaload, 1) := by decide +kernel
theorem dX2_leftOver_52 : decode cX2_leftOver 52 = .ok (.aload_n 1, 1) := by decide +kernel
theorem dX2_leftOver_53 : decode cX2_leftOver 53 = .ok (.iload 4, 2) := by decide +kernel
theorem dX2_leftOver_55 : decode cX2_leftOver 55 = .ok (.iaload, 1) := by decide +kernel
theorem dX2_leftOver_56 : decode cX2_leftOver 56 = .ok (.imul, 1) := by decide +kernel
theorem dX2_leftOver_57 : decode cX2_leftOver 57 = .ok (.iadd, 1) := by decide +kernel
theorem dX2_leftOver_58 : decode cX2_leftOver 58 = .ok (.sipush 32003, 3) := by decide +kernel
theorem dX2_leftOver_61 : decode cX2_leftOver 61 = .ok (.irem, 1) := by decide +kernel
theorem dX2_leftOver_62 : decode cX2_leftOver 62 = .ok (.istore_n 3, 1) := by decide +kernel
theorem dX2_leftOver_63 : decode cX2_leftOver 63 = .ok (.iinc 4 1, 3) := by decide +kernel
theorem dX2_leftOver_66 : decode cX2_leftOver 66 = .ok (.goto (-38), 3) := by decide +kernel
theorem dX2_leftOver_69 : decode cX2_leftOver 69 = .ok (.iload_n 3, 1) := by decide +kernel
theorem dX2_leftOver_70 : decode cX2_leftOver 70 = .ok (.ireturn, 1) := by decide +kernel
theorem dX2_eliminate_0 : decode cX2_eliminate 0 = .ok (.iconst 0, 1) := by decide +kernel
theorem dX2_eliminate_1 : decode cX2_eliminate 1 = .ok (.istore_n 1, 1) := by decide +kernel
theorem dX2_eliminate_2 : decode cX2_eliminate 2 = .ok (.iload_n 1, 1) := by decide +kernel
theorem dX2_eliminate_3 : decode cX2_eliminate 3 = .ok (.bipush 19, 2) := by decide +kernel
theorem dX2_eliminate_5 : decode cX2_eliminate 5 = .ok (.if_icmp .ge 16, 3) := by decide +kernel
theorem dX2_eliminate_8 : decode cX2_eliminate 8 = .ok (.aload_n 0, 1) := by decide +kernel
theorem dX2_eliminate_9 : decode cX2_eliminate 9 = .ok (.getfield 16, 3) := by decide +kernel
theorem dX2_eliminate_12 : decode cX2_eliminate 12 = .ok (.iload_n 1, 1) := by decide +kernel
theorem dX2_eliminate_13 : decode cX2_eliminate 13 = .ok (.iconst 0, 1) := by decide +kernel
theorem dX2_eliminate_14 : decode cX2_eliminate 14 = .ok (.bastore, 1) := by decide +kernel
theorem dX2_eliminate_15 : decode cX2_eliminate 15 = .ok (.iinc 1 1, 3) := by decide +kernel
theorem dX2_eliminate_18 : decode cX2_eliminate 18 = .ok (.goto (-16), 3) := by decide +kernel
theorem dX2_eliminate_21 : decode cX2_eliminate 21 = .ok (.iconst 0, 1) := by decide +kernel
theorem dX2_eliminate_22 : decode cX2_eliminate 22 = .ok (.istore_n 1, 1) := by decide +kernel
theorem dX2_eliminate_23 : decode cX2_eliminate 23 = .ok (.iload_n 1, 1) := by decide +kernel
theorem dX2_eliminate_24 : decode cX2_eliminate 24 = .ok (.bipush 13, 2) := by decide +kernel
theorem dX2_eliminate_26 : decode cX2_eliminate 26 = .ok (.if_icmp .ge 55, 3) := by decide +kernel
theorem dX2_eliminate_29 : decode cX2_eliminate 29 = .ok (.aload_n 0, 1) := by decide +kernel
theorem dX2_eliminate_30 : decode cX2_eliminate 30 = .ok (.iload_n 1, 1) := by decide +kernel
theorem dX2_eliminate_31 : decode cX2_eliminate 31 = .ok (.invokevirtual 55, 3) := by decide +kernel
theorem dX2_eliminate_34 : decode cX2_eliminate 34 = .ok (.istore_n 2, 1) := by decide +kernel
theorem dX2_eliminate_35 : decode cX2_eliminate 35 = .ok (.aload_n 0, 1) := by decide +kernel
theorem dX2_eliminate_36 : decode cX2_eliminate 36 = .ok (.getfield 20, 3) := by decide +kernel
theorem dX2_eliminate_39 : decode cX2_eliminate 39 = .ok (.iload_n 1, 1) := by decide +kernel
theorem dX2_eliminate_40 : decode cX2_eliminate 40 = .ok (.iload_n 2, 1) := by decide +kernel
theorem dX2_eliminate_41 : decode cX2_eliminate 41 = .ok (.iastore, 1) := by decide +kernel
theorem dX2_eliminate_42 : decode cX2_eliminate 42 = .ok (.iload_n 2, 1) := by decide +kernel
theorem dX2_eliminate_43 : decode cX2_eliminate 43 = .ok (.ifCond .lt 32, 3) := by decide +kernel
theorem dX2_eliminate_46 : decode cX2_eliminate 46 = .ok (.aload_n 0, 1) := by decide +kernel
theorem dX2_eliminate_47 : decode cX2_eliminate 47 = .ok (.getfield 16, 3) := by decide +kernel
theorem dX2_eliminate_50 : decode cX2_eliminate 50 = .ok (.iload_n 2, 1) := by decide +kernel
theorem dX2_eliminate_51 : decode cX2_eliminate 51 = .ok (.iconst 1, 1) := by decide +kernel
theorem dX2_eliminate_52 : decode cX2_eliminate 52 = .ok (.bastore, 1) := by decide +kernel
theorem dX2_eliminate_53 : decode cX2_eliminate 53 = .ok (.aload_n 0, 1) := by decide +kernel
theorem dX2_eliminate_54 : decode cX2_eliminate 54 = .ok (.iload_n 2, 1) := by decide +kernel
theorem dX2_eliminate_55 : decode cX2_eliminate 55 = .ok (.aload_n 0, 1) := by decide +kernel
theorem dX2_eliminate_56 : decode cX2_eliminate 56 = .ok (.getfield 11, 3) := by decide +kernel
theorem dX2_eliminate_59 : decode cX2_eliminate 59 = .ok (.iload_n 2, 1) := by decide +kernel
theorem dX2_eliminate_60 : decode cX2_eliminate 60 = .ok (.aaload, 1) := by decide +kernel
theorem dX2_eliminate_61 : decode cX2_eliminate 61 = .ok (.iload_n 1, 1) := by decide +kernel
theorem dX2_eliminate_62 : decode cX2_eliminate 62 = .ok (.iaload, 1) := by decide +kernel
theorem dX2_eliminate_63 : decode cX2_eliminate 63 = .ok (.invokestatic 58, 3) := by decide +kernel
theorem dX2_eliminate_66 : decode cX2_eliminate 66 = .ok (.invokevirtual 61, 3) := by decide +kernel
theorem dX2_eliminate_69 : decode cX2_eliminate 69 = .ok (.aload_n 0, 1) := by decide +kernel
theorem dX2_eliminate_70 : decode cX2_eliminate 70 = .ok (.iload_n 1, 1) := by decide +kernel
theorem dX2_eliminate_71 : decode cX2_eliminate 71 = .ok (.iload_n 2, 1) := by decide +kernel
theorem dX2_eliminate_72 : decode cX2_eliminate 72 = .ok (.invokevirtual 65, 3) := by decide +kernel
theorem dX2_eliminate_75 : decode cX2_eliminate 75 = .ok (.iinc 1 1, 3) := by decide +kernel
theorem dX2_eliminate_78 : decode cX2_eliminate 78 = .ok (.goto (-55), 3) := by decide +kernel
theorem dX2_eliminate_81 : decode cX2_eliminate 81 = .ok (.return_, 1) := by decide +kernel
theorem dX2_freeLine_0 : decode cX2_freeLine 0 = .ok (.iconst 0, 1) := by decide +kernel
theorem dX2_freeLine_1 : decode cX2_freeLine 1 = .ok (.istore_n 2, 1) := by decide +kernel
theorem dX2_freeLine_2 : decode cX2_freeLine 2 = .ok (.iload_n 2, 1) := by decide +kernel
theorem dX2_freeLine_3 : decode cX2_freeLine 3 = .ok (.bipush 19, 2) := by decide +kernel
theorem dX2_freeLine_5 : decode cX2_freeLine 5 = .ok (.if_icmp .ge 31, 3) := by decide +kernel
theorem dX2_freeLine_8 : decode cX2_freeLine 8 = .ok (.aload_n 0, 1) := by decide +kernel
theorem dX2_freeLine_9 : decode cX2_freeLine 9 = .ok (.getfield 16, 3) := by decide +kernel
theorem dX2_freeLine_12 : decode cX2_freeLine 12 = .ok (.iload_n 2, 1) := by decide +kernel
theorem dX2_freeLine_13 : decode cX2_freeLine 13 = .ok (.baload, 1) := by decide +kernel
theorem dX2_freeLine_14 : decode cX2_freeLine 14 = .ok (.ifCond .ne 16, 3) := by decide +kernel
theorem dX2_freeLine_17 : decode cX2_freeLine 17 = .ok (.aload_n 0, 1) := by decide +kernel
theorem dX2_freeLine_18 : decode cX2_freeLine 18 = .ok (.getfield 11, 3) := by decide +kernel
theorem dX2_freeLine_21 : decode cX2_freeLine 21 = .ok (.iload_n 2, 1) := by decide +kernel
theorem dX2_freeLine_22 : decode cX2_freeLine 22 = .ok (.aaload, 1) := by decide +kernel
theorem dX2_freeLine_23 : decode cX2_freeLine 23 = .ok (.iload_n 1, 1) := by decide +kernel
theorem dX2_freeLine_24 : decode cX2_freeLine 24 = .ok (.iaload, 1) := by decide +kernel
theorem dX2_freeLine_25 : decode cX2_freeLine 25 = .ok (.ifCond .eq 5, 3) := by decide +kernel
theorem dX2_freeLine_28 : decode cX2_freeLine 28 = .ok (.iload_n 2, 1) := by decide +kernel
theorem dX2_freeLine_29 : decode cX2_freeLine 29 = .ok (.ireturn, 1) := by decide +kernel
theorem dX2_freeLine_30 : decode cX2_freeLine 30 = .ok (.iinc 2 1, 3) := by decide +kernel
theorem dX2_freeLine_33 : decode cX2_freeLine 33 = .ok (.goto (-31), 3) := by decide +kernel
theorem dX2_freeLine_36 : decode cX2_freeLine 36 = .ok (.iconst (-1), 1) := by decide +kernel
theorem dX2_freeLine_37 : decode cX2_freeLine 37 = .ok (.ireturn, 1) := by decide +kernel
theorem dX2_scaleLine_0 : decode cX2_scaleLine 0 = .ok (.iconst 0, 1) := by decide +kernel
theorem dX2_scaleLine_1 : decode cX2_scaleLine 1 = .ok (.istore_n 3, 1) := by decide +kernel
theorem dX2_scaleLine_2 : decode cX2_scaleLine 2 = .ok (.iload_n 3, 1) := by decide +kernel
theorem dX2_scaleLine_3 : decode cX2_scaleLine 3 = .ok (.bipush 13, 2) := by decide +kernel
theorem dX2_scaleLine_5 : decode cX2_scaleLine 5 = .ok (.if_icmp .gt 31, 3) := by decide +kernel
theorem dX2_scaleLine_8 : decode cX2_scaleLine 8 = .ok (.aload_n 0, 1) := by decide +kernel
theorem dX2_scaleLine_9 : decode cX2_scaleLine 9 = .ok (.getfield 11, 3) := by decide +kernel
theorem dX2_scaleLine_12 : decode cX2_scaleLine 12 = .ok (.iload_n 1, 1) := by decide +kernel
theorem dX2_scaleLine_13 : decode cX2_scaleLine 13 = .ok (.aaload, 1) := by decide +kernel
theorem dX2_scaleLine_14 : decode cX2_scaleLine 14 = .ok (.iload_n 3, 1) := by decide +kernel
theorem dX2_scaleLine_15 : decode cX2_scaleLine 15 = .ok (.aload_n 0, 1) := by decide +kernel
theorem dX2_scaleLine_16 : decode cX2_scaleLine 16 = .ok (.getfield 11, 3) := by decide +kernel
theorem dX2_scaleLine_19 : decode cX2_scaleLine 19 = .ok (.iload_n 1, 1) := by decide +kernel
theorem dX2_scaleLine_20 : decode cX2_scaleLine 20 = .ok (.aaload, 1) := by decide +kernel
theorem dX2_scaleLine_21 : decode cX2_scaleLine 21 = .ok (.iload_n 3, 1) := by decide +kernel
theorem dX2_scaleLine_22 : decode cX2_scaleLine 22 = .ok (.iaload, 1) := by decide +kernel
theorem dX2_scaleLine_23 : decode cX2_scaleLine 23 = .ok (.iload_n 2, 1) := by decide +kernel
theorem dX2_scaleLine_24 : decode cX2_scaleLine 24 = .ok (.imul, 1) := by decide +kernel
theorem dX2_scaleLine_25 : decode cX2_scaleLine 25 = .ok (.sipush 32003, 3) := by decide +kernel
theorem dX2_scaleLine_28 : decode cX2_scaleLine 28 = .ok (.irem, 1) := by decide +kernel
theorem dX2_scaleLine_29 : decode cX2_scaleLine 29 = .ok (.iastore, 1) := by decide +kernel
theorem dX2_scaleLine_30 : decode cX2_scaleLine 30 = .ok (.iinc 3 1, 3) := by decide +kernel
theorem dX2_scaleLine_33 : decode cX2_scaleLine 33 = .ok (.goto (-31), 3) := by decide +kernel
theorem dX2_scaleLine_36 : decode cX2_scaleLine 36 = .ok (.return_, 1) := by decide +kernel
theorem dX2_clearColumn_0 : decode cX2_clearColumn 0 = .ok (.iconst 0, 1) := by decide +kernel
theorem dX2_clearColumn_1 : decode cX2_clearColumn 1 = .ok (.istore_n 3, 1) := by decide +kernel
theorem dX2_clearColumn_2 : decode cX2_clearColumn 2 = .ok (.iload_n 3, 1) := by decide +kernel
theorem dX2_clearColumn_3 : decode cX2_clearColumn 3 = .ok (.bipush 19, 2) := by decide +kernel
theorem dX2_clearColumn_5 : decode cX2_clearColumn 5 = .ok (.if_icmp .ge 80, 3) := by decide +kernel
theorem dX2_clearColumn_8 : decode cX2_clearColumn 8 = .ok (.aload_n 0, 1) := by decide +kernel
theorem dX2_clearColumn_9 : decode cX2_clearColumn 9 = .ok (.getfield 11, 3) := by decide +kernel
theorem dX2_clearColumn_12 : decode cX2_clearColumn 12 = .ok (.iload_n 3, 1) := by decide +kernel
theorem dX2_clearColumn_13 : decode cX2_clearColumn 13 = .ok (.aaload, 1) := by decide +kernel
theorem dX2_clearColumn_14 : decode cX2_clearColumn 14 = .ok (.iload_n 1, 1) := by decide +kernel
theorem dX2_clearColumn_15 : decode cX2_clearColumn 15 = .ok (.iaload, 1) := by decide +kernel
theorem dX2_clearColumn_16 : decode cX2_clearColumn 16 = .ok (.istore 4, 2) := by decide +kernel
theorem dX2_clearColumn_18 : decode cX2_clearColumn 18 = .ok (.iload_n 3, 1) := by decide +kernel
theorem dX2_clearColumn_19 : decode cX2_clearColumn 19 = .ok (.iload_n 2, 1) := by decide +kernel
theorem dX2_clearColumn_20 : decode cX2_clearColumn 20 = .ok (.if_icmp .eq 59, 3) := by decide +kernel
theorem dX2_clearColumn_23 : decode cX2_clearColumn 23 = .ok (.iload 4, 2) := by decide +kernel
theorem dX2_clearColumn_25 : decode cX2_clearColumn 25 = .ok (.ifCond .ne 6, 3) := by decide +kernel
theorem dX2_clearColumn_28 : decode cX2_clearColumn 28 = .ok (.goto 51, 3) := by decide +kernel
theorem dX2_clearColumn_31 : decode cX2_clearColumn 31 = .ok (.iload_n 1, 1) := by decide +kernel
theorem dX2_clearColumn_32 : decode cX2_clearColumn 32 = .ok (.istore 5, 2) := by decide +kernel
theorem dX2_clearColumn_34 : decode cX2_clearColumn 34 = .ok (.iload 5, 2) := by decide +kernel
theorem dX2_clearColumn_36 : decode cX2_clearColumn 36 = .ok (.bipush 13, 2) := by decide +kernel
theorem dX2_clearColumn_38 : decode cX2_clearColumn 38 = .ok (.if_icmp .gt 41, 3) := by decide +kernel
theorem dX2_clearColumn_41 : decode cX2_clearColumn 41 = .ok (.aload_n 0, 1) := by decide +kernel
theorem dX2_clearColumn_42 : decode cX2_clearColumn 42 = .ok (.getfield 11, 3) := by decide +kernel
theorem dX2_clearColumn_45 : decode cX2_clearColumn 45 = .ok (.iload_n 3, 1) := by decide +kernel
theorem dX2_clearColumn_46 : decode cX2_clearColumn 46 = .ok (.aaload, 1) := by decide +kernel
theorem dX2_clearColumn_47 : decode cX2_clearColumn 47 = .ok (.iload 5, 2) := by decide +kernel
theorem dX2_clearColumn_49 : decode cX2_clearColumn 49 = .ok (.aload_n 0, 1) := by decide +kernel
theorem dX2_clearColumn_50 : decode cX2_clearColumn 50 = .ok (.getfield 11, 3) := by decide +kernel
theorem dX2_clearColumn_53 : decode cX2_clearColumn 53 = .ok (.iload_n 3, 1) := by decide +kernel
theorem dX2_clearColumn_54 : decode cX2_clearColumn 54 = .ok (.aaload, 1) := by decide +kernel
theorem dX2_clearColumn_55 : decode cX2_clearColumn 55 = .ok (.iload 5, 2) := by decide +kernel
theorem dX2_clearColumn_57 : decode cX2_clearColumn 57 = .ok (.iaload, 1) := by decide +kernel
theorem dX2_clearColumn_58 : decode cX2_clearColumn 58 = .ok (.iload 4, 2) := by decide +kernel
theorem dX2_clearColumn_60 : decode cX2_clearColumn 60 = .ok (.aload_n 0, 1) := by decide +kernel
theorem dX2_clearColumn_61 : decode cX2_clearColumn 61 = .ok (.getfield 11, 3) := by decide +kernel
theorem dX2_clearColumn_64 : decode cX2_clearColumn 64 = .ok (.iload_n 2, 1) := by decide +kernel
theorem dX2_clearColumn_65 : decode cX2_clearColumn 65 = .ok (.aaload, 1) := by decide +kernel
theorem dX2_clearColumn_66 : decode cX2_clearColumn 66 = .ok (.iload 5, 2) := by decide +kernel
theorem dX2_clearColumn_68 : decode cX2_clearColumn 68 = .ok (.iaload, 1) := by decide +kernel
theorem dX2_clearColumn_69 : decode cX2_clearColumn 69 = .ok (.invokestatic 68, 3) := by decide +kernel
theorem dX2_clearColumn_72 : decode cX2_clearColumn 72 = .ok (.iastore, 1) := by decide +kernel
theorem dX2_clearColumn_73 : decode cX2_clearColumn 73 = .ok (.iinc 5 1, 3) := by decide +kernel
theorem dX2_clearColumn_76 : decode cX2_clearColumn 76 = .ok (.goto (-42), 3) := by decide +kernel
theorem dX2_clearColumn_79 : decode cX2_clearColumn 79 = .ok (.iinc 3 1, 3) := by decide +kernel
theorem dX2_clearColumn_82 : decode cX2_clearColumn 82 = .ok (.goto (-80), 3) := by decide +kernel
theorem dX2_clearColumn_85 : decode cX2_clearColumn 85 = .ok (.return_, 1) := by decide +kernel
theorem dX2_copyRowTo_0 : decode cX2_copyRowTo 0 = .ok (.aload_n 1, 1) := by decide +kernel
theorem dX2_copyRowTo_1 : decode cX2_copyRowTo 1 = .ok (.iconst 0, 1) := by decide +kernel
theorem dX2_copyRowTo_2 : decode cX2_copyRowTo 2 = .ok (.putfield 72, 3) := by decide +kernel
theorem dX2_copyRowTo_5 : decode cX2_copyRowTo 5 = .ok (.iconst 0, 1) := by decide +kernel
theorem dX2_copyRowTo_6 : decode cX2_copyRowTo 6 = .ok (.istore_n 2, 1) := by decide +kernel
theorem dX2_copyRowTo_7 : decode cX2_copyRowTo 7 = .ok (.iload_n 2, 1) := by decide +kernel
theorem dX2_copyRowTo_8 : decode cX2_copyRowTo 8 = .ok (.bipush 13, 2) := by decide +kernel
theorem dX2_copyRowTo_10 : decode cX2_copyRowTo 10 = .ok (.if_icmp .ge 96, 3) := by decide +kernel
theorem dX2_copyRowTo_13 : decode cX2_copyRowTo 13 = .ok (.aload_n 0, 1) := by decide +kernel
theorem dX2_copyRowTo_14 : decode cX2_copyRowTo 14 = .ok (.getfield 20, 3) := by decide +kernel
theorem dX2_copyRowTo_17 : decode cX2_copyRowTo 17 = .ok (.iload_n 2, 1) := by decide +kernel
theorem dX2_copyRowTo_18 : decode cX2_copyRowTo 18 = .ok (.iaload, 1) := by decide +kernel
theorem dX2_copyRowTo_19 : decode cX2_copyRowTo 19 = .ok (.ifCond .lt 6, 3) := by decide +kernel
theorem dX2_copyRowTo_22 : decode cX2_copyRowTo 22 = .ok (.goto 78, 3) := by decide +kernel
theorem dX2_copyRowTo_25 : decode cX2_copyRowTo 25 = .ok (.iconst 0, 1) := by decide +kernel
theorem dX2_copyRowTo_26 : decode cX2_copyRowTo 26 = .ok (.istore_n 3, 1) := by decide +kernel
theorem dX2_copyRowTo_27 : decode cX2_copyRowTo 27 = .ok (.iload_n 3, 1) := by decide +kernel
theorem dX2_copyRowTo_28 : decode cX2_copyRowTo 28 = .ok (.bipush 13, 2) := by decide +kernel
theorem dX2_copyRowTo_30 : decode cX2_copyRowTo 30 = .ok (.if_icmp .ge 60, 3) := by decide +kernel
theorem dX2_copyRowTo_33 : decode cX2_copyRowTo 33 = .ok (.aload_n 0, 1) := by decide +kernel
theorem dX2_copyRowTo_34 : decode cX2_copyRowTo 34 = .ok (.getfield 20, 3) := by decide +kernel
theorem dX2_copyRowTo_37 : decode cX2_copyRowTo 37 = .ok (.iload_n 3, 1) := by decide +kernel
theorem dX2_copyRowTo_38 : decode cX2_copyRowTo 38 = .ok (.iaload, 1) := by decide +kernel
theorem dX2_copyRowTo_39 : decode cX2_copyRowTo 39 = .ok (.istore 4, 2) := by decide +kernel
theorem dX2_copyRowTo_41 : decode cX2_copyRowTo 41 = .ok (.iload 4, 2) := by decide +kernel
theorem dX2_copyRowTo_43 : decode cX2_copyRowTo 43 = .ok (.ifCond .lt 18, 3) := by decide +kernel
theorem dX2_copyRowTo_46 : decode cX2_copyRowTo 46 = .ok (.aload_n 0, 1) := by decide +kernel
theorem dX2_copyRowTo_47 : decode cX2_copyRowTo 47 = .ok (.getfield 11, 3) := by decide +kernel
theorem dX2_copyRowTo_50 : decode cX2_copyRowTo 50 = .ok (.iload 4, 2) := by decide +kernel
theorem dX2_copyRowTo_52 : decode cX2_copyRowTo 52 = .ok (.aaload, 1) := by decide +kernel
theorem dX2_copyRowTo_53 : decode cX2_copyRowTo 53 = .ok (.iload_n 2, 1) := by decide +kernel
theorem dX2_copyRowTo_54 : decode cX2_copyRowTo 54 = .ok (.iaload, 1) := by decide +kernel
theorem dX2_copyRowTo_55 : decode cX2_copyRowTo 55 = .ok (.invokestatic 49, 3) := by decide +kernel
theorem dX2_copyRowTo_58 : decode cX2_copyRowTo 58 = .ok (.goto 4, 3) := by decide +kernel
theorem dX2_copyRowTo_61 : decode cX2_copyRowTo 61 = .ok (.iconst 0, 1) := by decide +kernel
theorem dX2_copyRowTo_62 : decode cX2_copyRowTo 62 = .ok (.istore 5, 2) := by decide +kernel
theorem dX2_copyRowTo_64 : decode cX2_copyRowTo 64 = .ok (.aload_n 1, 1) := by decide +kernel
theorem dX2_copyRowTo_65 : decode cX2_copyRowTo 65 = .ok (.aload_n 1, 1) := by decide +kernel
theorem dX2_copyRowTo_66 : decode cX2_copyRowTo 66 = .ok (.getfield 72, 3) := by decide +kernel
theorem dX2_copyRowTo_69 : decode cX2_copyRowTo 69 = .ok (.iload_n 3, 1) := by decide +kernel
theorem dX2_copyRowTo_70 : decode cX2_copyRowTo 70 = .ok (.iload_n 3, 1) := by decide +kernel
theorem dX2_copyRowTo_71 : decode cX2_copyRowTo 71 = .ok (.iload_n 2, 1) := by decide +kernel
theorem dX2_copyRowTo_72 : decode cX2_copyRowTo 72 = .ok (.if_icmp .ne 7, 3) := by decide +kernel
theorem dX2_copyRowTo_75 : decode cX2_copyRowTo 75 = .ok (.iconst 1, 1) := by decide +kernel
theorem dX2_copyRowTo_76 : decode cX2_copyRowTo 76 = .ok (.goto 5, 3) := by decide +kernel
theorem dX2_copyRowTo_79 : decode cX2_copyRowTo 79 = .ok (.iload 5, 2) := by decide +kernel
theorem dX2_copyRowTo_81 : decode cX2_copyRowTo 81 = .ok (.invokevirtual 78, 3) := by decide +kernel
theorem dX2_copyRowTo_84 : decode cX2_copyRowTo 84 = .ok (.iinc 3 1, 3) := by decide +kernel
theorem dX2_copyRowTo_87 : decode cX2_copyRowTo 87 = .ok (.goto (-60), 3) := by decide +kernel
theorem dX2_copyRowTo_90 : decode cX2_copyRowTo 90 = .ok (.aload_n 1, 1) := by decide +kernel
theorem dX2_copyRowTo_91 : decode cX2_copyRowTo 91 = .ok (.dup, 1) := by decide +kernel
theorem dX2_copyRowTo_92 : decode cX2_copyRowTo 92 = .ok (.getfield 72, 3) := by decide +kernel
theorem dX2_copyRowTo_95 : decode cX2_copyRowTo 95 = .ok (.iconst 1, 1) := by decide +kernel
theorem dX2_copyRowTo_96 : decode cX2_copyRowTo 96 = .ok (.iadd, 1) := by decide +kernel
theorem dX2_copyRowTo_97 : decode cX2_copyRowTo 97 = .ok (.putfield 72, 3) := by decide +kernel
theorem dX2_copyRowTo_100 : decode cX2_copyRowTo 100 = .ok (.iinc 2 1, 3) := by decide +kernel
theorem dX2_copyRowTo_103 : decode cX2_copyRowTo 103 = .ok (.goto (-96), 3) := by decide +kernel
theorem dX2_copyRowTo_106 : decode cX2_copyRowTo 106 = .ok (.return_, 1) := by decide +kernel
theorem dX2_copyParticularTo_0 : decode cX2_copyParticularTo 0 = .ok (.iconst 0, 1) := by decide +kernel
theorem dX2_copyParticularTo_1 : decode cX2_copyParticularTo 1 = .ok (.istore_n 2, 1) := by decide +kernel
theorem dX2_copyParticularTo_2 : decode cX2_copyParticularTo 2 = .ok (.iload_n 2, 1) := by decide +kernel
theorem dX2_copyParticularTo_3 : decode cX2_copyParticularTo 3 = .ok (.bipush 19, 2) := by decide +kernel
theorem dX2_copyParticularTo_5 : decode cX2_copyParticularTo 5 = .ok (.if_icmp .ge 32, 3) := by decide +kernel
theorem dX2_copyParticularTo_8 : decode cX2_copyParticularTo 8 = .ok (.aload_n 0, 1) := by decide +kernel
theorem dX2_copyParticularTo_9 : decode cX2_copyParticularTo 9 = .ok (.getfield 16, 3) := by decide +kernel
theorem dX2_copyParticularTo_12 : decode cX2_copyParticularTo 12 = .ok (.iload_n 2, 1) := by decide +kernel
theorem dX2_copyParticularTo_13 : decode cX2_copyParticularTo 13 = .ok (.baload, 1) := by decide +kernel
theorem dX2_copyParticularTo_14 : decode cX2_copyParticularTo 14 = .ok (.ifCond .ne 17, 3) := by decide +kernel
theorem dX2_copyParticularTo_17 : decode cX2_copyParticularTo 17 = .ok (.aload_n 0, 1) := by decide +kernel
theorem dX2_copyParticularTo_18 : decode cX2_copyParticularTo 18 = .ok (.getfield 11, 3) := by decide +kernel
theorem dX2_copyParticularTo_21 : decode cX2_copyParticularTo 21 = .ok (.iload_n 2, 1) := by decide +kernel
theorem dX2_copyParticularTo_22 : decode cX2_copyParticularTo 22 = .ok (.aaload, 1) := by decide +kernel
theorem dX2_copyParticularTo_23 : decode cX2_copyParticularTo 23 = .ok (.bipush 13, 2) := by decide +kernel
theorem dX2_copyParticularTo_25 : decode cX2_copyParticularTo 25 = .ok (.iaload, 1) := by decide +kernel
theorem dX2_copyParticularTo_26 : decode cX2_copyParticularTo 26 = .ok (.ifCond .eq 5, 3) := by decide +kernel
theorem dX2_copyParticularTo_29 : decode cX2_copyParticularTo 29 = .ok (.iconst 0, 1) := by decide +kernel
theorem dX2_copyParticularTo_30 : decode cX2_copyParticularTo 30 = .ok (.ireturn, 1) := by decide +kernel
theorem dX2_copyParticularTo_31 : decode cX2_copyParticularTo 31 = .ok (.iinc 2 1, 3) := by decide +kernel
theorem dX2_copyParticularTo_34 : decode cX2_copyParticularTo 34 = .ok (.goto (-32), 3) := by decide +kernel
theorem dX2_copyParticularTo_37 : decode cX2_copyParticularTo 37 = .ok (.iconst 0, 1) := by decide +kernel
theorem dX2_copyParticularTo_38 : decode cX2_copyParticularTo 38 = .ok (.istore_n 2, 1) := by decide +kernel
theorem dX2_copyParticularTo_39 : decode cX2_copyParticularTo 39 = .ok (.iload_n 2, 1) := by decide +kernel
theorem dX2_copyParticularTo_40 : decode cX2_copyParticularTo 40 = .ok (.bipush 13, 2) := by decide +kernel
theorem dX2_copyParticularTo_42 : decode cX2_copyParticularTo 42 = .ok (.if_icmp .ge 42, 3) := by decide +kernel
theorem dX2_copyParticularTo_45 : decode cX2_copyParticularTo 45 = .ok (.iload_n 2, 1) := by decide +kernel
theorem dX2_copyParticularTo_46 : decode cX2_copyParticularTo 46 = .ok (.aload_n 1, 1) := by decide +kernel
theorem dX2_copyParticularTo_47 : decode cX2_copyParticularTo 47 = .ok (.arraylength, 1) := by decide +kernel
theorem dX2_copyParticularTo_48 : decode cX2_copyParticularTo 48 = .ok (.if_icmp .ge 36, 3) := by decide +kernel
theorem dX2_copyParticularTo_51 : decode cX2_copyParticularTo 51 = .ok (.aload_n 0, 1) := by decide +kernel
theorem dX2_copyParticularTo_52 : decode cX2_copyParticularTo 52 = .ok (.getfield 20, 3) := by decide +kernel
theorem dX2_copyParticularTo_55 : decode cX2_copyParticularTo 55 = .ok (.iload_n 2, 1) := by decide +kernel
theorem dX2_copyParticularTo_56 : decode cX2_copyParticularTo 56 = .ok (.iaload, 1) := by decide +kernel
theorem dX2_copyParticularTo_57 : decode cX2_copyParticularTo 57 = .ok (.istore_n 3, 1) := by decide +kernel
theorem dX2_copyParticularTo_58 : decode cX2_copyParticularTo 58 = .ok (.aload_n 1, 1) := by decide +kernel
theorem dX2_copyParticularTo_59 : decode cX2_copyParticularTo 59 = .ok (.iload_n 2, 1) := by decide +kernel
theorem dX2_copyParticularTo_60 : decode cX2_copyParticularTo 60 = .ok (.iload_n 3, 1) := by decide +kernel
theorem dX2_copyParticularTo_61 : decode cX2_copyParticularTo 61 = .ok (.ifCond .lt 15, 3) := by decide +kernel
theorem dX2_copyParticularTo_64 : decode cX2_copyParticularTo 64 = .ok (.aload_n 0, 1) := by decide +kernel
theorem dX2_copyParticularTo_65 : decode cX2_copyParticularTo 65 = .ok (.getfield 11, 3) := by decide +kernel
theorem dX2_copyParticularTo_68 : decode cX2_copyParticularTo 68 = .ok (.iload_n 3, 1) := by decide +kernel
theorem dX2_copyParticularTo_69 : decode cX2_copyParticularTo 69 = .ok (.aaload, 1) := by decide +kernel
theorem dX2_copyParticularTo_70 : decode cX2_copyParticularTo 70 = .ok (.bipush 13, 2) := by decide +kernel
theorem dX2_copyParticularTo_72 : decode cX2_copyParticularTo 72 = .ok (.iaload, 1) := by decide +kernel
theorem dX2_copyParticularTo_73 : decode cX2_copyParticularTo 73 = .ok (.goto 4, 3) := by decide +kernel
theorem dX2_copyParticularTo_76 : decode cX2_copyParticularTo 76 = .ok (.iconst 0, 1) := by decide +kernel
theorem dX2_copyParticularTo_77 : decode cX2_copyParticularTo 77 = .ok (.iastore, 1) := by decide +kernel
theorem dX2_copyParticularTo_78 : decode cX2_copyParticularTo 78 = .ok (.iinc 2 1, 3) := by decide +kernel
theorem dX2_copyParticularTo_81 : decode cX2_copyParticularTo 81 = .ok (.goto (-42), 3) := by decide +kernel
theorem dX2_copyParticularTo_84 : decode cX2_copyParticularTo 84 = .ok (.iconst 1, 1) := by decide +kernel
theorem dX2_copyParticularTo_85 : decode cX2_copyParticularTo 85 = .ok (.ireturn, 1) := by decide +kernel
theorem dX3_of_0 : decode cX3_of 0 = .ok (.lload_n 0, 1) := by decide +kernel
theorem dX3_of_1 : decode cX3_of 1 = .ok (.ldc2_w 9, 3) := by decide +kernel
theorem dX3_of_4 : decode cX3_of 4 = .ok (.invokestatic 11, 3) := by decide +kernel
theorem dX3_of_7 : decode cX3_of 7 = .ok (.l2i, 1) := by decide +kernel
theorem dX3_of_8 : decode cX3_of 8 = .ok (.ireturn, 1) := by decide +kernel
theorem dX3_inverse_0 : decode cX3_inverse 0 = .ok (.iconst 1, 1) := by decide +kernel
theorem dX3_inverse_1 : decode cX3_inverse 1 = .ok (.istore_n 1, 1) := by decide +kernel
theorem dX3_inverse_2 : decode cX3_inverse 2 = .ok (.iload_n 0, 1) := by decide +kernel
theorem dX3_inverse_3 : decode cX3_inverse 3 = .ok (.istore_n 2, 1) := by decide +kernel
theorem dX3_inverse_4 : decode cX3_inverse 4 = .ok (.sipush 32001, 3) := by decide +kernel
theorem dX3_inverse_7 : decode cX3_inverse 7 = .ok (.istore_n 3, 1) := by decide +kernel
theorem dX3_inverse_8 : decode cX3_inverse 8 = .ok (.iload_n 3, 1) := by decide +kernel
theorem dX3_inverse_9 : decode cX3_inverse 9 = .ok (.ifCond .le 33, 3) := by decide +kernel
theorem dX3_inverse_12 : decode cX3_inverse 12 = .ok (.iload_n 3, 1) := by decide +kernel
theorem dX3_inverse_13 : decode cX3_inverse 13 = .ok (.iconst 1, 1) := by decide +kernel
theorem dX3_inverse_14 : decode cX3_inverse 14 = .ok (.iand, 1) := by decide +kernel
theorem dX3_inverse_15 : decode cX3_inverse 15 = .ok (.iconst 1, 1) := by decide +kernel
theorem dX3_inverse_16 : decode cX3_inverse 16 = .ok (.if_icmp .ne 11, 3) := by decide +kernel
theorem dX3_inverse_19 : decode cX3_inverse 19 = .ok (.iload_n 1, 1) := by decide +kernel
theorem dX3_inverse_20 : decode cX3_inverse 20 = .ok (.iload_n 2, 1) := by decide +kernel
theorem dX3_inverse_21 : decode cX3_inverse 21 = .ok (.imul, 1) := by decide +kernel
theorem dX3_inverse_22 : decode cX3_inverse 22 = .ok (.sipush 32003, 3) := by decide +kernel
theorem dX3_inverse_25 : decode cX3_inverse 25 = .ok (.irem, 1) := by decide +kernel
theorem dX3_inverse_26 : decode cX3_inverse 26 = .ok (.istore_n 1, 1) := by decide +kernel
theorem dX3_inverse_27 : decode cX3_inverse 27 = .ok (.iload_n 2, 1) := by decide +kernel
theorem dX3_inverse_28 : decode cX3_inverse 28 = .ok (.iload_n 2, 1) := by decide +kernel
theorem dX3_inverse_29 : decode cX3_inverse 29 = .ok (.imul, 1) := by decide +kernel
theorem dX3_inverse_30 : decode cX3_inverse 30 = .ok (.sipush 32003, 3) := by decide +kernel
theorem dX3_inverse_33 : decode cX3_inverse 33 = .ok (.irem, 1) := by decide +kernel
theorem dX3_inverse_34 : decode cX3_inverse 34 = .ok (.istore_n 2, 1) := by decide +kernel
theorem dX3_inverse_35 : decode cX3_inverse 35 = .ok (.iload_n 3, 1) := by decide +kernel
theorem dX3_inverse_36 : decode cX3_inverse 36 = .ok (.iconst 1, 1) := by decide +kernel
theorem dX3_inverse_37 : decode cX3_inverse 37 = .ok (.ishr, 1) := by decide +kernel
theorem dX3_inverse_38 : decode cX3_inverse 38 = .ok (.istore_n 3, 1) := by decide +kernel
theorem dX3_inverse_39 : decode cX3_inverse 39 = .ok (.goto (-31), 3) := by decide +kernel
theorem dX3_inverse_42 : decode cX3_inverse 42 = .ok (.iload_n 1, 1) := by decide +kernel
theorem dX3_inverse_43 : decode cX3_inverse 43 = .ok (.ireturn, 1) := by decide +kernel
theorem dX3_quotient_0 : decode cX3_quotient 0 = .ok (.lload_n 0, 1) := by decide +kernel
theorem dX3_quotient_1 : decode cX3_quotient 1 = .ok (.invokestatic 17, 3) := by decide +kernel
theorem dX3_quotient_4 : decode cX3_quotient 4 = .ok (.lload_n 2, 1) := by decide +kernel
theorem dX3_quotient_5 : decode cX3_quotient 5 = .ok (.invokestatic 17, 3) := by decide +kernel
theorem dX3_quotient_8 : decode cX3_quotient 8 = .ok (.invokestatic 23, 3) := by decide +kernel
theorem dX3_quotient_11 : decode cX3_quotient 11 = .ok (.imul, 1) := by decide +kernel
theorem dX3_quotient_12 : decode cX3_quotient 12 = .ok (.sipush 32003, 3) := by decide +kernel
theorem dX3_quotient_15 : decode cX3_quotient 15 = .ok (.irem, 1) := by decide +kernel
theorem dX3_quotient_16 : decode cX3_quotient 16 = .ok (.ireturn, 1) := by decide +kernel
theorem dX3_negative_0 : decode cX3_negative 0 = .ok (.iload_n 0, 1) := by decide +kernel
theorem dX3_negative_1 : decode cX3_negative 1 = .ok (.ifCond .ne 7, 3) := by decide +kernel
theorem dX3_negative_4 : decode cX3_negative 4 = .ok (.iconst 0, 1) := by decide +kernel
theorem dX3_negative_5 : decode cX3_negative 5 = .ok (.goto 8, 3) := by decide +kernel
theorem dX3_negative_8 : decode cX3_negative 8 = .ok (.sipush 32003, 3) := by decide +kernel
theorem dX3_negative_11 : decode cX3_negative 11 = .ok (.iload_n 0, 1) := by decide +kernel
theorem dX3_negative_12 : decode cX3_negative 12 = .ok (.isub, 1) := by decide +kernel
theorem dX3_negative_13 : decode cX3_negative 13 = .ok (.ireturn, 1) := by decide +kernel
theorem dX3_less_0 : decode cX3_less 0 = .ok (.iload_n 0, 1) := by decide +kernel
theorem dX3_less_1 : decode cX3_less 1 = .ok (.iload_n 1, 1) := by decide +kernel
theorem dX3_less_2 : decode cX3_less 2 = .ok (.iload_n 2, 1) := by decide +kernel
theorem dX3_less_3 : decode cX3_less 3 = .ok (.imul, 1) := by decide +kernel
theorem dX3_less_4 : decode cX3_less 4 = .ok (.sipush 32003, 3) := by decide +kernel
theorem dX3_less_7 : decode cX3_less 7 = .ok (.irem, 1) := by decide +kernel
theorem dX3_less_8 : decode cX3_less 8 = .ok (.isub, 1) := by decide +kernel
theorem dX3_less_9 : decode cX3_less 9 = .ok (.istore_n 3, 1) := by decide +kernel
theorem dX3_less_10 : decode cX3_less 10 = .ok (.iload_n 3, 1) := by decide +kernel
theorem dX3_less_11 : decode cX3_less 11 = .ok (.ifCond .ge 11, 3) := by decide +kernel
theorem dX3_less_14 : decode cX3_less 14 = .ok (.iload_n 3, 1) := by decide +kernel
theorem dX3_less_15 : decode cX3_less 15 = .ok (.sipush 32003, 3) := by decide +kernel
theorem dX3_less_18 : decode cX3_less 18 = .ok (.iadd, 1) := by decide +kernel
theorem dX3_less_19 : decode cX3_less 19 = .ok (.goto 4, 3) := by decide +kernel
theorem dX3_less_22 : decode cX3_less 22 = .ok (.iload_n 3, 1) := by decide +kernel
theorem dX3_less_23 : decode cX3_less 23 = .ok (.ireturn, 1) := by decide +kernel
theorem dX4_degree_0 : decode cX4_degree 0 = .ok (.aload_n 0, 1) := by decide +kernel
theorem dX4_degree_1 : decode cX4_degree 1 = .ok (.arraylength, 1) := by decide +kernel
theorem dX4_degree_2 : decode cX4_degree 2 = .ok (.iconst 1, 1) := by decide +kernel
theorem dX4_degree_3 : decode cX4_degree 3 = .ok (.isub, 1) := by decide +kernel
theorem dX4_degree_4 : decode cX4_degree 4 = .ok (.istore_n 1, 1) := by decide +kernel
theorem dX4_degree_5 : decode cX4_degree 5 = .ok (.iload_n 1, 1) := by decide +kernel
theorem dX4_degree_6 : decode cX4_degree 6 = .ok (.ifCond .lt 17, 3) := by decide +kernel
theorem dX4_degree_9 : decode cX4_degree 9 = .ok (.aload_n 0, 1) := by decide +kernel
theorem dX4_degree_10 : decode cX4_degree 10 = .ok (.iload_n 1, 1) := by decide +kernel
theorem dX4_degree_11 : decode cX4_degree 11 = .ok (.iaload, 1) := by decide +kernel
theorem dX4_degree_12 : decode cX4_degree 12 = .ok (.ifCond .eq 5, 3) := by decide +kernel
theorem dX4_degree_15 : decode cX4_degree 15 = .ok (.iload_n 1, 1) := by decide +kernel
theorem dX4_degree_16 : decode cX4_degree 16 = .ok (.ireturn, 1) := by decide +kernel
theorem dX4_degree_17 : decode cX4_degree 17 = .ok (.iinc 1 (-1), 3) := by decide +kernel
theorem dX4_degree_20 : decode cX4_degree 20 = .ok (.goto (-15), 3) := by decide +kernel
theorem dX4_degree_23 : decode cX4_degree 23 = .ok (.iconst (-1), 1) := by decide +kernel
theorem dX4_degree_24 : decode cX4_degree 24 = .ok (.ireturn, 1) := by decide +kernel
theorem dX4_valueAt_0 : decode cX4_valueAt 0 = .ok (.iconst 0, 1) := by decide +kernel
theorem dX4_valueAt_1 : decode cX4_valueAt 1 = .ok (.istore_n 2, 1) := by decide +kernel
theorem dX4_valueAt_2 : decode cX4_valueAt 2 = .ok (.aload_n 0, 1) := by decide +kernel
theorem dX4_valueAt_3 : decode cX4_valueAt 3 = .ok (.arraylength, 1) := by decide +kernel
theorem dX4_valueAt_4 : decode cX4_valueAt 4 = .ok (.iconst 1, 1) := by decide +kernel
theorem dX4_valueAt_5 : decode cX4_valueAt 5 = .ok (.isub, 1) := by decide +kernel
theorem dX4_valueAt_6 : decode cX4_valueAt 6 = .ok (.istore_n 3, 1) := by decide +kernel
theorem dX4_valueAt_7 : decode cX4_valueAt 7 = .ok (.iload_n 3, 1) := by decide +kernel
theorem dX4_valueAt_8 : decode cX4_valueAt 8 = .ok (.ifCond .lt 21, 3) := by decide +kernel
theorem dX4_valueAt_11 : decode cX4_valueAt 11 = .ok (.iload_n 2, 1) := by decide +kernel
theorem dX4_valueAt_12 : decode cX4_valueAt 12 = .ok (.iload_n 1, 1) := by decide +kernel
theorem dX4_valueAt_13 : decode cX4_valueAt 13 = .ok (.imul, 1) := by decide +kernel
theorem dX4_valueAt_14 : decode cX4_valueAt 14 = .ok (.aload_n 0, 1) := by decide +kernel
theorem dX4_valueAt_15 : decode cX4_valueAt 15 = .ok (.iload_n 3, 1) := by decide +kernel
theorem dX4_valueAt_16 : decode cX4_valueAt 16 = .ok (.iaload, 1) := by decide +kernel
theorem dX4_valueAt_17 : decode cX4_valueAt 17 = .ok (.iadd, 1) := by decide +kernel
theorem dX4_valueAt_18 : decode cX4_valueAt 18 = .ok (.sipush 32003, 3) := by decide +kernel
theorem dX4_valueAt_21 : decode cX4_valueAt 21 = .ok (.irem, 1) := by decide +kernel
theorem dX4_valueAt_22 : decode cX4_valueAt 22 = .ok (.istore_n 2, 1) := by decide +kernel
theorem dX4_valueAt_23 : decode cX4_valueAt 23 = .ok (.iinc 3 (-1), 3) := by decide +kernel
theorem dX4_valueAt_26 : decode cX4_valueAt 26 = .ok (.goto (-19), 3) := by decide +kernel
theorem dX4_valueAt_29 : decode cX4_valueAt 29 = .ok (.iload_n 2, 1) := by decide +kernel
theorem dX4_valueAt_30 : decode cX4_valueAt 30 = .ok (.ireturn, 1) := by decide +kernel
theorem dX4_makeMonic_0 : decode cX4_makeMonic 0 = .ok (.aload_n 0, 1) := by decide +kernel
theorem dX4_makeMonic_1 : decode cX4_makeMonic 1 = .ok (.invokestatic 9, 3) := by decide +kernel
theorem dX4_makeMonic_4 : decode cX4_makeMonic 4 = .ok (.istore_n 1, 1) := by decide +kernel
theorem dX4_makeMonic_5 : decode cX4_makeMonic 5 = .ok (.iload_n 1, 1) := by decide +kernel
theorem dX4_makeMonic_6 : decode cX4_makeMonic 6 = .ok (.ifCond .lt 10, 3) := by decide +kernel
theorem dX4_makeMonic_9 : decode cX4_makeMonic 9 = .ok (.aload_n 0, 1) := by decide +kernel
theorem dX4_makeMonic_10 : decode cX4_makeMonic 10 = .ok (.iload_n 1, 1) := by decide +kernel
theorem dX4_makeMonic_11 : decode cX4_makeMonic 11 = .ok (.iaload, 1) := by decide +kernel
theorem dX4_makeMonic_12 : decode cX4_makeMonic 12 = .ok (.iconst 1, 1) := by decide +kernel
theorem dX4_makeMonic_13 : decode cX4_makeMonic 13 = .ok (.if_icmp .ne 4, 3) := by decide +kernel
theorem dX4_makeMonic_16 : decode cX4_makeMonic 16 = .ok (.return_, 1) := by decide +kernel
theorem dX4_makeMonic_17 : decode cX4_makeMonic 17 = .ok (.aload_n 0, 1) := by decide +kernel
theorem dX4_makeMonic_18 : decode cX4_makeMonic 18 = .ok (.iload_n 1, 1) := by decide +kernel
theorem dX4_makeMonic_19 : decode cX4_makeMonic 19 = .ok (.iaload, 1) := by decide +kernel
theorem dX4_makeMonic_20 : decode cX4_makeMonic 20 = .ok (.invokestatic 15, 3) := by decide +kernel
theorem dX4_makeMonic_23 : decode cX4_makeMonic 23 = .ok (.istore_n 2, 1) := by decide +kernel
theorem dX4_makeMonic_24 : decode cX4_makeMonic 24 = .ok (.iconst 0, 1) := by decide +kernel
theorem dX4_makeMonic_25 : decode cX4_makeMonic 25 = .ok (.istore_n 3, 1) := by decide +kernel
theorem dX4_makeMonic_26 : decode cX4_makeMonic 26 = .ok (.iload_n 3, 1) := by decide +kernel
theorem dX4_makeMonic_27 : decode cX4_makeMonic 27 = .ok (.iload_n 1, 1) := by decide +kernel
theorem dX4_makeMonic_28 : decode cX4_makeMonic 28 = .ok (.if_icmp .gt 21, 3) := by decide +kernel
theorem dX4_makeMonic_31 : decode cX4_makeMonic 31 = .ok (.aload_n 0, 1) := by decide +kernel
theorem dX4_makeMonic_32 : decode cX4_makeMonic 32 = .ok (.iload_n 3, 1) := by decide +kernel
theorem dX4_makeMonic_33 : decode cX4_makeMonic 33 = .ok (.aload_n 0, 1) := by decide +kernel
theorem dX4_makeMonic_34 : decode cX4_makeMonic 34 = .ok (.iload_n 3, 1) := by decide +kernel
theorem dX4_makeMonic_35 : decode cX4_makeMonic 35 = .ok (.iaload, 1) := by decide +kernel
theorem dX4_makeMonic_36 : decode cX4_makeMonic 36 = .ok (.iload_n 2, 1) := by decide +kernel
theorem dX4_makeMonic_37 : decode cX4_makeMonic 37 = .ok (.imul, 1) := by decide +kernel
theorem dX4_makeMonic_38 : decode cX4_makeMonic 38 = .ok (.sipush 32003, 3) := by decide +kernel
theorem dX4_makeMonic_41 : decode cX4_makeMonic 41 = .ok (.irem, 1) := by decide +kernel
theorem dX4_makeMonic_42 : decode cX4_makeMonic 42 = .ok (.iastore, 1) := by decide +kernel
theorem dX4_makeMonic_43 : decode cX4_makeMonic 43 = .ok (.iinc 3 1, 3) := by decide +kernel
theorem dX4_makeMonic_46 : decode cX4_makeMonic 46 = .ok (.goto (-20), 3) := by decide +kernel
theorem dX4_makeMonic_49 : decode cX4_makeMonic 49 = .ok (.return_, 1) := by decide +kernel
theorem dX4_multiplyByLinear_0 : decode cX4_multiplyByLinear 0 = .ok (.aload_n 0, 1) := by decide +kernel
theorem dX4_multiplyByLinear_1 : decode cX4_multiplyByLinear 1 = .ok (.arraylength, 1) := by decide +kernel
theorem dX4_multiplyByLinear_2 : decode cX4_multiplyByLinear 2 = .ok (.iconst 1, 1) := by decide +kernel
theorem dX4_multiplyByLinear_3 : decode cX4_multiplyByLinear 3 = .ok (.isub, 1) := by decide +kernel
theorem dX4_multiplyByLinear_4 : decode cX4_multiplyByLinear 4 = .ok (.istore_n 2, 1) := by decide +kernel
theorem dX4_multiplyByLinear_5 : decode cX4_multiplyByLinear 5 = .ok (.iload_n 2, 1) := by decide +kernel
theorem dX4_multiplyByLinear_6 : decode cX4_multiplyByLinear 6 = .ok (.iconst 1, 1) := by decide +kernel
theorem dX4_multiplyByLinear_7 : decode cX4_multiplyByLinear 7 = .ok (.if_icmp .lt 27, 3) := by decide +kernel
theorem dX4_multiplyByLinear_10 : decode cX4_multiplyByLinear 10 = .ok (.aload_n 0, 1) := by decide +kernel
theorem dX4_multiplyByLinear_11 : decode cX4_multiplyByLinear 11 = .ok (.iload_n 2, 1) := by decide +kernel
theorem dX4_multiplyByLinear_12 : decode cX4_multiplyByLinear 12 = .ok (.aload_n 0, 1) := by decide +kernel
theorem dX4_multiplyByLinear_13 : decode cX4_multiplyByLinear 13 = .ok (.iload_n 2, 1) := by decide +kernel
theorem dX4_multiplyByLinear_14 : decode cX4_multiplyByLinear 14 = .ok (.iaload, 1) := by decide +kernel
theorem dX4_multiplyByLinear_15 : decode cX4_multiplyByLinear 15 = .ok (.iload_n 1, 1) := by decide +kernel
theorem dX4_multiplyByLinear_16 : decode cX4_multiplyByLinear 16 = .ok (.imul, 1) := by decide +kernel
theorem dX4_multiplyByLinear_17 : decode cX4_multiplyByLinear 17 = .ok (.aload_n 0, 1) := by decide +kernel
theorem dX4_multiplyByLinear_18 : decode cX4_multiplyByLinear 18 = .ok (.iload_n 2, 1) := by decide +kernel
theorem dX4_multiplyByLinear_19 : decode cX4_multiplyByLinear 19 = .ok (.iconst 1, 1) := by decide +kernel
theorem dX4_multiplyByLinear_20 : decode cX4_multiplyByLinear 20 = .ok (.isub, 1) := by decide +kernel
theorem dX4_multiplyByLinear_21 : decode cX4_multiplyByLinear 21 = .ok (.iaload, 1) := by decide +kernel
theorem dX4_multiplyByLinear_22 : decode cX4_multiplyByLinear 22 = .ok (.iadd, 1) := by decide +kernel
theorem dX4_multiplyByLinear_23 : decode cX4_multiplyByLinear 23 = .ok (.sipush 32003, 3) := by decide +kernel
theorem dX4_multiplyByLinear_26 : decode cX4_multiplyByLinear 26 = .ok (.irem, 1) := by decide +kernel
theorem dX4_multiplyByLinear_27 : decode cX4_multiplyByLinear 27 = .ok (.iastore, 1) := by decide +kernel
theorem dX4_multiplyByLinear_28 : decode cX4_multiplyByLinear 28 = .ok (.iinc 2 (-1), 3) := by decide +kernel
theorem dX4_multiplyByLinear_31 : decode cX4_multiplyByLinear 31 = .ok (.goto (-26), 3) := by decide +kernel
theorem dX4_multiplyByLinear_34 : decode cX4_multiplyByLinear 34 = .ok (.aload_n 0, 1) := by decide +kernel
theorem dX4_multiplyByLinear_35 : decode cX4_multiplyByLinear 35 = .ok (.arraylength, 1) := by decide +kernel
theorem dX4_multiplyByLinear_36 : decode cX4_multiplyByLinear 36 = .ok (.ifCond .le 15, 3) := by decide +kernel
theorem dX4_multiplyByLinear_39 : decode cX4_multiplyByLinear 39 = .ok (.aload_n 0, 1) := by decide +kernel
theorem dX4_multiplyByLinear_40 : decode cX4_multiplyByLinear 40 = .ok (.iconst 0, 1) := by decide +kernel
theorem dX4_multiplyByLinear_41 : decode cX4_multiplyByLinear 41 = .ok (.aload_n 0, 1) := by decide +kernel
theorem dX4_multiplyByLinear_42 : decode cX4_multiplyByLinear 42 = .ok (.iconst 0, 1) := by decide +kernel
theorem dX4_multiplyByLinear_43 : decode cX4_multiplyByLinear 43 = .ok (.iaload, 1) := by decide +kernel
theorem dX4_multiplyByLinear_44 : decode cX4_multiplyByLinear 44 = .ok (.iload_n 1, 1) := by decide +kernel
theorem dX4_multiplyByLinear_45 : decode cX4_multiplyByLinear 45 = .ok (.imul, 1) := by decide +kernel
theorem dX4_multiplyByLinear_46 : decode cX4_multiplyByLinear 46 = .ok (.sipush 32003, 3) := by decide +kernel
theorem dX4_multiplyByLinear_49 : decode cX4_multiplyByLinear 49 = .ok (.irem, 1) := by decide +kernel
theorem dX4_multiplyByLinear_50 : decode cX4_multiplyByLinear 50 = .ok (.iastore, 1) := by decide +kernel
theorem dX4_multiplyByLinear_51 : decode cX4_multiplyByLinear 51 = .ok (.return_, 1) := by decide +kernel
theorem dX4_reduceBy_0 : decode cX4_reduceBy 0 = .ok (.aload_n 1, 1) := by decide +kernel
theorem dX4_reduceBy_1 : decode cX4_reduceBy 1 = .ok (.invokestatic 9, 3) := by decide +kernel
theorem dX4_reduceBy_4 : decode cX4_reduceBy 4 = .ok (.istore_n 2, 1) := by decide +kernel
theorem dX4_reduceBy_5 : decode cX4_reduceBy 5 = .ok (.iload_n 2, 1) := by decide +kernel
theorem dX4_reduceBy_6 : decode cX4_reduceBy 6 = .ok (.ifCond .ge 4, 3) := by decide +kernel
theorem dX4_reduceBy_9 : decode cX4_reduceBy 9 = .ok (.return_, 1) := by decide +kernel
theorem dX4_reduceBy_10 : decode cX4_reduceBy 10 = .ok (.aload_n 0, 1) := by decide +kernel
theorem dX4_reduceBy_11 : decode cX4_reduceBy 11 = .ok (.arraylength, 1) := by decide +kernel
theorem dX4_reduceBy_12 : decode cX4_reduceBy 12 = .ok (.iconst 1, 1) := by decide +kernel
theorem dX4_reduceBy_13 : decode cX4_reduceBy 13 = .ok (.isub, 1) := by decide +kernel
theorem dX4_reduceBy_14 : decode cX4_reduceBy 14 = .ok (.istore_n 3, 1) := by decide +kernel
theorem dX4_reduceBy_15 : decode cX4_reduceBy 15 = .ok (.iload_n 3, 1) := by decide +kernel
theorem dX4_reduceBy_16 : decode cX4_reduceBy 16 = .ok (.iload_n 2, 1) := by decide +kernel
theorem dX4_reduceBy_17 : decode cX4_reduceBy 17 = .ok (.if_icmp .lt 62, 3) := by decide +kernel
theorem dX4_reduceBy_20 : decode cX4_reduceBy 20 = .ok (.aload_n 0, 1) := by decide +kernel
theorem dX4_reduceBy_21 : decode cX4_reduceBy 21 = .ok (.iload_n 3, 1) := by decide +kernel
theorem dX4_reduceBy_22 : decode cX4_reduceBy 22 = .ok (.iaload, 1) := by decide +kernel
theorem dX4_reduceBy_23 : decode cX4_reduceBy 23 = .ok (.istore 4, 2) := by decide +kernel
theorem dX4_reduceBy_25 : decode cX4_reduceBy 25 = .ok (.iload 4, 2) := by decide +kernel
theorem dX4_reduceBy_27 : decode cX4_reduceBy 27 = .ok (.ifCond .ne 6, 3) := by decide +kernel
theorem dX4_reduceBy_30 : decode cX4_reduceBy 30 = .ok (.goto 43, 3) := by decide +kernel
theorem dX4_reduceBy_33 : decode cX4_reduceBy 33 = .ok (.iconst 0, 1) := by decide +kernel
theorem dX4_reduceBy_34 : decode cX4_reduceBy 34 = .ok (.istore 5, 2) := by decide +kernel
theorem dX4_reduceBy_36 : decode cX4_reduceBy 36 = .ok (.iload 5, 2) := by decide +kernel
theorem dX4_reduceBy_38 : decode cX4_reduceBy 38 = .ok (.iload_n 2, 1) := by decide +kernel
theorem dX4_reduceBy_39 : decode cX4_reduceBy 39 = .ok (.if_icmp .gt 34, 3) := by decide +kernel
theorem dX4_reduceBy_42 : decode cX4_reduceBy 42 = .ok (.iload_n 3, 1) := by decide +kernel
theorem dX4_reduceBy_43 : decode cX4_reduceBy 43 = .ok (.iload_n 2, 1) := by decide +kernel
theorem dX4_reduceBy_44 : decode cX4_reduceBy 44 = .ok (.isub, 1) := by decide +kernel
theorem dX4_reduceBy_45 : decode cX4_reduceBy 45 = .ok (.iload 5, 2) := by decide +kernel
theorem dX4_reduceBy_47 : decode cX4_reduceBy 47 = .ok (.iadd, 1) := by decide +kernel
theorem dX4_reduceBy_48 : decode cX4_reduceBy 48 = .ok (.istore 6, 2) := by decide +kernel
theorem dX4_reduceBy_50 : decode cX4_reduceBy 50 = .ok (.aload_n 0, 1) := by decide +kernel
theorem dX4_reduceBy_51 : decode cX4_reduceBy 51 = .ok (.iload 6, 2) := by decide +kernel
theorem dX4_reduceBy_53 : decode cX4_reduceBy 53 = .ok (.aload_n 0, 1) := by decide +kernel
theorem dX4_reduceBy_54 : decode cX4_reduceBy 54 = .ok (.iload 6, 2) := by decide +kernel
theorem dX4_reduceBy_56 : decode cX4_reduceBy 56 = .ok (.iaload, 1) := by decide +kernel
theorem dX4_reduceBy_57 : decode cX4_reduceBy 57 = .ok (.iload 4, 2) := by decide +kernel
theorem dX4_reduceBy_59 : decode cX4_reduceBy 59 = .ok (.aload_n 1, 1) := by decide +kernel
theorem dX4_reduceBy_60 : decode cX4_reduceBy 60 = .ok (.iload 5, 2) := by decide +kernel
theorem dX4_reduceBy_62 : decode cX4_reduceBy 62 = .ok (.iaload, 1) := by decide +kernel
theorem dX4_reduceBy_63 : decode cX4_reduceBy 63 = .ok (.invokestatic 21, 3) := by decide +kernel
theorem dX4_reduceBy_66 : decode cX4_reduceBy 66 = .ok (.iastore, 1) := by decide +kernel
theorem dX4_reduceBy_67 : decode cX4_reduceBy 67 = .ok (.iinc 5 1, 3) := by decide +kernel
theorem dX4_reduceBy_70 : decode cX4_reduceBy 70 = .ok (.goto (-34), 3) := by decide +kernel
theorem dX4_reduceBy_73 : decode cX4_reduceBy 73 = .ok (.iinc 3 (-1), 3) := by decide +kernel
theorem dX4_reduceBy_76 : decode cX4_reduceBy 76 = .ok (.goto (-61), 3) := by decide +kernel
theorem dX4_reduceBy_79 : decode cX4_reduceBy 79 = .ok (.return_, 1) := by decide +kernel
theorem dX5_init_0 : decode cX5_init 0 = .ok (.aload_n 0, 1) := by decide +kernel
theorem dX5_init_1 : decode cX5_init 1 = .ok (.invokespecial 3, 3) := by decide +kernel
theorem dX5_init_4 : decode cX5_init 4 = .ok (.aload_n 0, 1) := by decide +kernel
theorem dX5_init_5 : decode cX5_init 5 = .ok (.bipush 6, 2) := by decide +kernel
theorem dX5_init_7 : decode cX5_init 7 = .ok (.newarray .int, 2) := by decide +kernel
theorem dX5_init_9 : decode cX5_init 9 = .ok (.putfield 9, 3) := by decide +kernel
theorem dX5_init_12 : decode cX5_init 12 = .ok (.aload_n 0, 1) := by decide +kernel
theorem dX5_init_13 : decode cX5_init 13 = .ok (.bipush 7, 2) := by decide +kernel
theorem dX5_init_15 : decode cX5_init 15 = .ok (.newarray .int, 2) := by decide +kernel
theorem dX5_init_17 : decode cX5_init 17 = .ok (.putfield 15, 3) := by decide +kernel
theorem dX5_init_20 : decode cX5_init 20 = .ok (.aload_n 0, 1) := by decide +kernel
theorem dX5_init_21 : decode cX5_init 21 = .ok (.bipush 7, 2) := by decide +kernel
theorem dX5_init_23 : decode cX5_init 23 = .ok (.newarray .int, 2) := by decide +kernel
theorem dX5_init_25 : decode cX5_init 25 = .ok (.putfield 18, 3) := by decide +kernel
theorem dX5_init_28 : decode cX5_init 28 = .ok (.aload_n 0, 1) := by decide +kernel
theorem dX5_init_29 : decode cX5_init 29 = .ok (.bipush 7, 2) := by decide +kernel
theorem dX5_init_31 : decode cX5_init 31 = .ok (.newarray .int, 2) := by decide +kernel
theorem dX5_init_33 : decode cX5_init 33 = .ok (.putfield 21, 3) := by decide +kernel
theorem dX5_init_36 : decode cX5_init 36 = .ok (.aload_n 0, 1) := by decide +kernel
theorem dX5_init_37 : decode cX5_init 37 = .ok (.bipush 7, 2) := by decide +kernel
theorem dX5_init_39 : decode cX5_init 39 = .ok (.newarray .int, 2) := by decide +kernel
theorem dX5_init_41 : decode cX5_init 41 = .ok (.putfield 24, 3) := by decide +kernel
theorem dX5_init_44 : decode cX5_init 44 = .ok (.aload_n 0, 1) := by decide +kernel
theorem dX5_init_45 : decode cX5_init 45 = .ok (.bipush 13, 2) := by decide +kernel
theorem dX5_init_47 : decode cX5_init 47 = .ok (.newarray .int, 2) := by decide +kernel
theorem dX5_init_49 : decode cX5_init 49 = .ok (.putfield 27, 3) := by decide +kernel
theorem dX5_init_52 : decode cX5_init 52 = .ok (.return_, 1) := by decide +kernel
theorem dX5_at_0 : decode cX5_at 0 = .ok (.iload_n 1, 1) := by decide +kernel
theorem dX5_at_1 : decode cX5_at 1 = .ok (.ifCond .lt 29, 3) := by decide +kernel
theorem dX5_at_4 : decode cX5_at 4 = .ok (.iload_n 1, 1) := by decide +kernel
theorem dX5_at_5 : decode cX5_at 5 = .ok (.aload_n 0, 1) := by decide +kernel
theorem dX5_at_6 : decode cX5_at 6 = .ok (.getfield 30, 3) := by decide +kernel
theorem dX5_at_9 : decode cX5_at 9 = .ok (.if_icmp .ge 21, 3) := by decide +kernel
theorem dX5_at_12 : decode cX5_at 12 = .ok (.iload_n 1, 1) := by decide +kernel
theorem dX5_at_13 : decode cX5_at 13 = .ok (.aload_n 0, 1) := by decide +kernel
theorem dX5_at_14 : decode cX5_at 14 = .ok (.getfield 9, 3) := by decide +kernel
theorem dX5_at_17 : decode cX5_at 17 = .ok (.arraylength, 1) := by decide +kernel
theorem dX5_at_18 : decode cX5_at 18 = .ok (.if_icmp .ge 12, 3) := by decide +kernel
theorem dX5_at_21 : decode cX5_at 21 = .ok (.aload_n 0, 1) := by decide +kernel
theorem dX5_at_22 : decode cX5_at 22 = .ok (.getfield 9, 3) := by decide +kernel
theorem dX5_at_25 : decode cX5_at 25 = .ok (.iload_n 1, 1) := by decide +kernel
theorem dX5_at_26 : decode cX5_at 26 = .ok (.iaload, 1) := by decide +kernel
theorem dX5_at_27 : decode cX5_at 27 = .ok (.goto 4, 3) := by decide +kernel
theorem dX5_at_30 : decode cX5_at 30 = .ok (.iconst (-1), 1) := by decide +kernel
theorem dX5_at_31 : decode cX5_at 31 = .ok (.ireturn, 1) := by decide +kernel
theorem dX5_find_0 : decode cX5_find 0 = .ok (.aload_n 0, 1) := by decide +kernel
theorem dX5_find_1 : decode cX5_find 1 = .ok (.iconst 0, 1) := by decide +kernel
theorem dX5_find_2 : decode cX5_find 2 = .ok (.putfield 30, 3) := by decide +kernel
theorem dX5_find_5 : decode cX5_find 5 = .ok (.iconst 0, 1) := by decide +kernel
theorem dX5_find_6 : decode cX5_find 6 = .ok (.istore_n 2, 1) := by decide +kernel
theorem dX5_find_7 : decode cX5_find 7 = .ok (.iload_n 2, 1) := by decide +kernel
theorem dX5_find_8 : decode cX5_find 8 = .ok (.bipush 7, 2) := by decide +kernel
theorem dX5_find_10 : decode cX5_find 10 = .ok (.if_icmp .ge 28, 3) := by decide +kernel
theorem dX5_find_13 : decode cX5_find 13 = .ok (.aload_n 0, 1) := by decide +kernel
theorem dX5_find_14 : decode cX5_find 14 = .ok (.getfield 15, 3) := by decide +kernel
theorem dX5_find_17 : decode cX5_find 17 = .ok (.iload_n 2, 1) := by decide +kernel
theorem dX5_find_18 : decode cX5_find 18 = .ok (.iload_n 2, 1) := by decide +kernel
theorem dX5_find_19 : decode cX5_find 19 = .ok (.aload_n 1, 1) := by decide +kernel
theorem dX5_find_20 : decode cX5_find 20 = .ok (.arraylength, 1) := by decide +kernel
theorem dX5_find_21 : decode cX5_find 21 = .ok (.if_icmp .ge 9, 3) := by decide +kernel
theorem dX5_find_24 : decode cX5_find 24 = .ok (.aload_n 1, 1) := by decide +kernel
theorem dX5_find_25 : decode cX5_find 25 = .ok (.iload_n 2, 1) := by decide +kernel
theorem dX5_find_26 : decode cX5_find 26 = .ok (.iaload, 1) := by decide +kernel
theorem dX5_find_27 : decode cX5_find 27 = .ok (.goto 4, 3) := by decide +kernel
theorem dX5_find_30 : decode cX5_find 30 = .ok (.iconst 0, 1) := by decide +kernel
theorem dX5_find_31 : decode cX5_find 31 = .ok (.iastore, 1) := by decide +kernel
theorem dX5_find_32 : decode cX5_find 32 = .ok (.iinc 2 1, 3) := by decide +kernel
theorem dX5_find_35 : decode cX5_find 35 = .ok (.goto (-28), 3) := by decide +kernel
theorem dX5_find_38 : decode cX5_find 38 = .ok (.aload_n 0, 1) := by decide +kernel
theorem dX5_find_39 : decode cX5_find 39 = .ok (.getfield 15, 3) := by decide +kernel
theorem dX5_find_42 : decode cX5_find 42 = .ok (.invokestatic 34, 3) := by decide +kernel
theorem dX5_find_45 : decode cX5_find 45 = .ok (.aload_n 0, 1) := by decide +kernel
theorem dX5_find_46 : decode cX5_find 46 = .ok (.invokevirtual 40, 3) := by decide +kernel
theorem dX5_find_49 : decode cX5_find 49 = .ok (.aload_n 0, 1) := by decide +kernel
theorem dX5_find_50 : decode cX5_find 50 = .ok (.getfield 15, 3) := by decide +kernel
theorem dX5_find_53 : decode cX5_find 53 = .ok (.invokestatic 43, 3) := by decide +kernel
theorem dX5_find_56 : decode cX5_find 56 = .ok (.istore_n 2, 1) := by decide +kernel
theorem dX5_find_57 : decode cX5_find 57 = .ok (.iload_n 2, 1) := by decide +kernel
theorem dX5_find_58 : decode cX5_find 58 = .ok (.ifCond .le 24, 3) := by decide +kernel
theorem dX5_find_61 : decode cX5_find 61 = .ok (.aload_n 0, 1) := by decide +kernel
theorem dX5_find_62 : decode cX5_find 62 = .ok (.invokevirtual 47, 3) := by decide +kernel
theorem dX5_find_65 : decode cX5_find 65 = .ok (.istore_n 3, 1) := by decide +kernel
theorem dX5_find_66 : decode cX5_find 66 = .ok (.aload_n 0, 1) := by decide +kernel
theorem dX5_find_67 : decode cX5_find 67 = .ok (.iload_n 3, 1) := by decide +kernel
theorem dX5_find_68 : decode cX5_find 68 = .ok (.invokevirtual 51, 3) := by decide +kernel
theorem dX5_find_71 : decode cX5_find 71 = .ok (.aload_n 0, 1) := by decide +kernel
theorem dX5_find_72 : decode cX5_find 72 = .ok (.iload_n 3, 1) := by decide +kernel
theorem dX5_find_73 : decode cX5_find 73 = .ok (.invokevirtual 55, 3) := by decide +kernel
theorem dX5_find_76 : decode cX5_find 76 = .ok (.iinc 2 (-1), 3) := by decide +kernel
theorem dX5_find_79 : decode cX5_find 79 = .ok (.goto (-22), 3) := by decide +kernel
theorem dX5_find_82 : decode cX5_find 82 = .ok (.return_, 1) := by decide +kernel
theorem dX5_keepSimpleRoots_0 : decode cX5_keepSimpleRoots 0 = .ok (.aload_n 0, 1) := by decide +kernel
theorem dX5_keepSimpleRoots_1 : decode cX5_keepSimpleRoots 1 = .ok (.getfield 15, 3) := by decide +kernel
theorem dX5_keepSimpleRoots_4 : decode cX5_keepSimpleRoots 4 = .ok (.invokestatic 43, 3) := by decide +kernel
theorem dX5_keepSimpleRoots_7 : decode cX5_keepSimpleRoots 7 = .ok (.ifCond .gt 4, 3) := by decide +kernel
theorem dX5_keepSimpleRoots_10 : decode cX5_keepSimpleRoots 10 = .ok (.return_, 1) := by decide +kernel
theorem dX5_keepSimpleRoots_11 : decode cX5_keepSimpleRoots 11 = .ok (.aload_n 0, 1) := by decide +kernel
theorem dX5_keepSimpleRoots_12 : decode cX5_keepSimpleRoots 12 = .ok (.iconst 0, 1) := by decide +kernel
theorem dX5_keepSimpleRoots_13 : decode cX5_keepSimpleRoots 13 = .ok (.sipush 32003, 3) := by decide +kernel
theorem dX5_keepSimpleRoots_16 : decode cX5_keepSimpleRoots 16 = .ok (.aload_n 0, 1) := by decide +kernel
theorem dX5_keepSimpleRoots_17 : decode cX5_keepSimpleRoots 17 = .ok (.getfield 15, 3) := by decide +kernel
theorem dX5_keepSimpleRoots_20 : decode cX5_keepSimpleRoots 20 = .ok (.invokevirtual 58, 3) := by decide +kernel
theorem dX5_keepSimpleRoots_23 : decode cX5_keepSimpleRoots 23 = .ok (.aload_n 0, 1) := by decide +kernel
theorem dX5_keepSimpleRoots_24 : decode cX5_keepSimpleRoots 24 = .ok (.getfield 24, 3) := by decide +kernel
theorem dX5_keepSimpleRoots_27 : decode cX5_keepSimpleRoots 27 = .ok (.iconst 1, 1) := by decide +kernel
theorem dX5_keepSimpleRoots_28 : decode cX5_keepSimpleRoots 28 = .ok (.aload_n 0, 1) := by decide +kernel
theorem dX5_keepSimpleRoots_29 : decode cX5_keepSimpleRoots 29 = .ok (.getfield 24, 3) := by decide +kernel
theorem dX5_keepSimpleRoots_32 : decode cX5_keepSimpleRoots 32 = .ok (.iconst 1, 1) := by decide +kernel
theorem dX5_keepSimpleRoots_33 : decode cX5_keepSimpleRoots 33 = .ok (.iaload, 1) := by decide +kernel
theorem dX5_keepSimpleRoots_34 : decode cX5_keepSimpleRoots 34 = .ok (.iconst 1, 1) := by decide +kernel
theorem dX5_keepSimpleRoots_35 : decode cX5_keepSimpleRoots 35 = .ok (.iconst 1, 1) := by decide +kernel
theorem dX5_keepSimpleRoots_36 : decode cX5_keepSimpleRoots 36 = .ok (.invokestatic 62, 3) := by decide +kernel
theorem dX5_keepSimpleRoots_39 : decode cX5_keepSimpleRoots 39 = .ok (.iastore, 1) := by decide +kernel
theorem dX5_keepSimpleRoots_40 : decode cX5_keepSimpleRoots 40 = .ok (.aload_n 0, 1) := by decide +kernel
theorem dX5_keepSimpleRoots_41 : decode cX5_keepSimpleRoots 41 = .ok (.getfield 15, 3) := by decide +kernel
theorem dX5_keepSimpleRoots_44 : decode cX5_keepSimpleRoots 44 = .ok (.aload_n 0, 1) := by decide +kernel
theorem dX5_keepSimpleRoots_45 : decode cX5_keepSimpleRoots 45 = .ok (.getfield 24, 3) := by decide +kernel
theorem dX5_keepSimpleRoots_48 : decode cX5_keepSimpleRoots 48 = .ok (.invokestatic 68, 3) := by decide +kernel
theorem dX5_keepSimpleRoots_51 : decode cX5_keepSimpleRoots 51 = .ok (.return_, 1) := by decide +kernel
theorem dX5_splitOffRoot_0 : decode cX5_splitOffRoot 0 = .ok (.aload_n 0, 1) := by decide +kernel
theorem dX5_splitOffRoot_1 : decode cX5_splitOffRoot 1 = .ok (.getfield 15, 3) := by decide +kernel
theorem dX5_splitOffRoot_4 : decode cX5_splitOffRoot 4 = .ok (.iconst 0, 1) := by decide +kernel
theorem dX5_splitOffRoot_5 : decode cX5_splitOffRoot 5 = .ok (.aload_n 0, 1) := by decide +kernel
theorem dX5_splitOffRoot_6 : decode cX5_splitOffRoot 6 = .ok (.getfield 18, 3) := by decide +kernel
theorem dX5_splitOffRoot_9 : decode cX5_splitOffRoot 9 = .ok (.iconst 0, 1) := by decide +kernel
theorem dX5_splitOffRoot_10 : decode cX5_splitOffRoot 10 = .ok (.bipush 7, 2) := by decide +kernel
theorem dX5_splitOffRoot_12 : decode cX5_splitOffRoot 12 = .ok (.invokestatic 72, 3) := by decide +kernel
theorem dX5_splitOffRoot_15 : decode cX5_splitOffRoot 15 = .ok (.iconst 0, 1) := by decide +kernel
theorem dX5_splitOffRoot_16 : decode cX5_splitOffRoot 16 = .ok (.istore_n 1, 1) := by decide +kernel
theorem dX5_splitOffRoot_17 : decode cX5_splitOffRoot 17 = .ok (.iload_n 1, 1) := by decide +kernel
theorem dX5_splitOffRoot_18 : decode cX5_splitOffRoot 18 = .ok (.sipush 32003, 3) := by decide +kernel
theorem dX5_splitOffRoot_21 : decode cX5_splitOffRoot 21 = .ok (.if_icmp .ge 113, 3) := by decide +kernel
theorem dX5_splitOffRoot_24 : decode cX5_splitOffRoot 24 = .ok (.aload_n 0, 1) := by decide +kernel
theorem dX5_splitOffRoot_25 : decode cX5_splitOffRoot 25 = .ok (.getfield 18, 3) := by decide +kernel
theorem dX5_splitOffRoot_28 : decode cX5_splitOffRoot 28 = .ok (.invokestatic 43, 3) := by decide +kernel
theorem dX5_splitOffRoot_31 : decode cX5_splitOffRoot 31 = .ok (.iconst 1, 1) := by decide +kernel
theorem dX5_splitOffRoot_32 : decode cX5_splitOffRoot 32 = .ok (.if_icmp .le 102, 3) := by decide +kernel
theorem dX5_splitOffRoot_35 : decode cX5_splitOffRoot 35 = .ok (.aload_n 0, 1) := by decide +kernel
theorem dX5_splitOffRoot_36 : decode cX5_splitOffRoot 36 = .ok (.iload_n 1, 1) := by decide +kernel
theorem dX5_splitOffRoot_37 : decode cX5_splitOffRoot 37 = .ok (.sipush 16001, 3) := by decide +kernel
theorem dX5_splitOffRoot_40 : decode cX5_splitOffRoot 40 = .ok (.aload_n 0, 1) := by decide +kernel
theorem dX5_splitOffRoot_41 : decode cX5_splitOffRoot 41 = .ok (.getfield 18, 3) := by decide +kernel
theorem dX5_splitOffRoot_44 : decode cX5_splitOffRoot 44 = .ok (.invokevirtual 58, 3) := by decide +kernel
theorem dX5_splitOffRoot_47 : decode cX5_splitOffRoot 47 = .ok (.aload_n 0, 1) := by decide +kernel
theorem dX5_splitOffRoot_48 : decode cX5_splitOffRoot 48 = .ok (.getfield 24, 3) := by decide +kernel
theorem dX5_splitOffRoot_51 : decode cX5_splitOffRoot 51 = .ok (.iconst 0, 1) := by decide +kernel
theorem dX5_splitOffRoot_52 : decode cX5_splitOffRoot 52 = .ok (.aload_n 0, 1) := by decide +kernel
theorem dX5_splitOffRoot_53 : decode cX5_splitOffRoot 53 = .ok (.getfield 24, 3) := by decide +kernel
theorem dX5_splitOffRoot_56 : decode cX5_splitOffRoot 56 = .ok (.iconst 0, 1) := by decide +kernel
theorem dX5_splitOffRoot_57 : decode cX5_splitOffRoot 57 = .ok (.iaload, 1) := by decide +kernel
theorem dX5_splitOffRoot_58 : decode cX5_splitOffRoot 58 = .ok (.iconst 1, 1) := by decide +kernel
theorem dX5_splitOffRoot_59 : decode cX5_splitOffRoot 59 = .ok (.iconst 1, 1) := by decide +kernel
theorem dX5_splitOffRoot_60 : decode cX5_splitOffRoot 60 = .ok (.invokestatic 62, 3) := by decide +kernel
theorem dX5_splitOffRoot_63 : decode cX5_splitOffRoot 63 = .ok (.iastore, 1) := by decide +kernel
theorem dX5_splitOffRoot_64 : decode cX5_splitOffRoot 64 = .ok (.aload_n 0, 1) := by decide +kernel
theorem dX5_splitOffRoot_65 : decode cX5_splitOffRoot 65 = .ok (.getfield 18, 3) := by decide +kernel
theorem dX5_splitOffRoot_68 : decode cX5_splitOffRoot 68 = .ok (.iconst 0, 1) := by decide +kernel
theorem dX5_splitOffRoot_69 : decode cX5_splitOffRoot 69 = .ok (.aload_n 0, 1) := by decide +kernel
theorem dX5_splitOffRoot_70 : decode cX5_splitOffRoot 70 = .ok (.getfield 21, 3) := by decide +kernel
theorem dX5_splitOffRoot_73 : decode cX5_splitOffRoot 73 = .ok (.iconst 0, 1) := by decide +kernel
theorem dX5_splitOffRoot_74 : decode cX5_splitOffRoot 74 = .ok (.bipush 7, 2) := by decide +kernel
theorem dX5_splitOffRoot_76 : decode cX5_splitOffRoot 76 = .ok (.invokestatic 72, 3) := by decide +kernel
theorem dX5_splitOffRoot_79 : decode cX5_splitOffRoot 79 = .ok (.aload_n 0, 1) := by decide +kernel
theorem dX5_splitOffRoot_80 : decode cX5_splitOffRoot 80 = .ok (.getfield 21, 3) := by decide +kernel
theorem dX5_splitOffRoot_83 : decode cX5_splitOffRoot 83 = .ok (.aload_n 0, 1) := by decide +kernel
theorem dX5_splitOffRoot_84 : decode cX5_splitOffRoot 84 = .ok (.getfield 24, 3) := by decide +kernel
theorem dX5_splitOffRoot_87 : decode cX5_splitOffRoot 87 = .ok (.invokestatic 68, 3) := by decide +kernel
theorem dX5_splitOffRoot_90 : decode cX5_splitOffRoot 90 = .ok (.aload_n 0, 1) := by decide +kernel
theorem dX5_splitOffRoot_91 : decode cX5_splitOffRoot 91 = .ok (.getfield 21, 3) := by decide +kernel
theorem dX5_splitOffRoot_94 : decode cX5_splitOffRoot 94 = .ok (.invokestatic 43, 3) := by decide +kernel
theorem dX5_splitOffRoot_97 : decode cX5_splitOffRoot 97 = .ok (.istore_n 2, 1) := by decide +kernel
theorem dX5_splitOffRoot_98 : decode cX5_splitOffRoot 98 = .ok (.iload_n 2, 1) := by decide +kernel
theorem dX5_splitOffRoot_99 : decode cX5_splitOffRoot 99 = .ok (.ifCond .le 29, 3) := by decide +kernel
