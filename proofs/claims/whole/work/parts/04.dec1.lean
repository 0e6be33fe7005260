theorem dX5_splitOffRoot_102 : decode cX5_splitOffRoot 102 = .ok (.iload_n 2, 1) := by decide +kernel
theorem dX5_splitOffRoot_103 : decode cX5_splitOffRoot 103 = .ok (.aload_n 0, 1) := by decide +kernel
theorem dX5_splitOffRoot_104 : decode cX5_splitOffRoot 104 = .ok (.getfield 18, 3) := by decide +kernel
theorem dX5_splitOffRoot_107 : decode cX5_splitOffRoot 107 = .ok (.invokestatic 43, 3) := by decide +kernel
theorem dX5_splitOffRoot_110 : decode cX5_splitOffRoot 110 = .ok (.if_icmp .ge 18, 3) := by decide +kernel
theorem dX5_splitOffRoot_113 : decode cX5_splitOffRoot 113 = .ok (.aload_n 0, 1) := by decide +kernel
theorem dX5_splitOffRoot_114 : decode cX5_splitOffRoot 114 = .ok (.getfield 21, 3) := by decide +kernel
theorem dX5_splitOffRoot_117 : decode cX5_splitOffRoot 117 = .ok (.iconst 0, 1) := by decide +kernel
theorem dX5_splitOffRoot_118 : decode cX5_splitOffRoot 118 = .ok (.aload_n 0, 1) := by decide +kernel
theorem dX5_splitOffRoot_119 : decode cX5_splitOffRoot 119 = .ok (.getfield 18, 3) := by decide +kernel
theorem dX5_splitOffRoot_122 : decode cX5_splitOffRoot 122 = .ok (.iconst 0, 1) := by decide +kernel
theorem dX5_splitOffRoot_123 : decode cX5_splitOffRoot 123 = .ok (.bipush 7, 2) := by decide +kernel
theorem dX5_splitOffRoot_125 : decode cX5_splitOffRoot 125 = .ok (.invokestatic 72, 3) := by decide +kernel
theorem dX5_splitOffRoot_128 : decode cX5_splitOffRoot 128 = .ok (.iinc 1 1, 3) := by decide +kernel
theorem dX5_splitOffRoot_131 : decode cX5_splitOffRoot 131 = .ok (.goto (-114), 3) := by decide +kernel
theorem dX5_splitOffRoot_134 : decode cX5_splitOffRoot 134 = .ok (.aload_n 0, 1) := by decide +kernel
theorem dX5_splitOffRoot_135 : decode cX5_splitOffRoot 135 = .ok (.getfield 18, 3) := by decide +kernel
theorem dX5_splitOffRoot_138 : decode cX5_splitOffRoot 138 = .ok (.iconst 0, 1) := by decide +kernel
theorem dX5_splitOffRoot_139 : decode cX5_splitOffRoot 139 = .ok (.iaload, 1) := by decide +kernel
theorem dX5_splitOffRoot_140 : decode cX5_splitOffRoot 140 = .ok (.invokestatic 78, 3) := by decide +kernel
theorem dX5_splitOffRoot_143 : decode cX5_splitOffRoot 143 = .ok (.ireturn, 1) := by decide +kernel
theorem dX5_raiseLinear_0 : decode cX5_raiseLinear 0 = .ok (.iconst 0, 1) := by decide +kernel
theorem dX5_raiseLinear_1 : decode cX5_raiseLinear 1 = .ok (.istore 4, 2) := by decide +kernel
theorem dX5_raiseLinear_3 : decode cX5_raiseLinear 3 = .ok (.iload 4, 2) := by decide +kernel
theorem dX5_raiseLinear_5 : decode cX5_raiseLinear 5 = .ok (.bipush 7, 2) := by decide +kernel
theorem dX5_raiseLinear_7 : decode cX5_raiseLinear 7 = .ok (.if_icmp .ge 26, 3) := by decide +kernel
theorem dX5_raiseLinear_10 : decode cX5_raiseLinear 10 = .ok (.aload_n 0, 1) := by decide +kernel
theorem dX5_raiseLinear_11 : decode cX5_raiseLinear 11 = .ok (.getfield 24, 3) := by decide +kernel
theorem dX5_raiseLinear_14 : decode cX5_raiseLinear 14 = .ok (.iload 4, 2) := by decide +kernel
theorem dX5_raiseLinear_16 : decode cX5_raiseLinear 16 = .ok (.iload 4, 2) := by decide +kernel
theorem dX5_raiseLinear_18 : decode cX5_raiseLinear 18 = .ok (.ifCond .ne 7, 3) := by decide +kernel
theorem dX5_raiseLinear_21 : decode cX5_raiseLinear 21 = .ok (.iconst 1, 1) := by decide +kernel
theorem dX5_raiseLinear_22 : decode cX5_raiseLinear 22 = .ok (.goto 4, 3) := by decide +kernel
theorem dX5_raiseLinear_25 : decode cX5_raiseLinear 25 = .ok (.iconst 0, 1) := by decide +kernel
theorem dX5_raiseLinear_26 : decode cX5_raiseLinear 26 = .ok (.iastore, 1) := by decide +kernel
theorem dX5_raiseLinear_27 : decode cX5_raiseLinear 27 = .ok (.iinc 4 1, 3) := by decide +kernel
theorem dX5_raiseLinear_30 : decode cX5_raiseLinear 30 = .ok (.goto (-27), 3) := by decide +kernel
theorem dX5_raiseLinear_33 : decode cX5_raiseLinear 33 = .ok (.bipush 14, 2) := by decide +kernel
theorem dX5_raiseLinear_35 : decode cX5_raiseLinear 35 = .ok (.istore 4, 2) := by decide +kernel
theorem dX5_raiseLinear_37 : decode cX5_raiseLinear 37 = .ok (.iload 4, 2) := by decide +kernel
theorem dX5_raiseLinear_39 : decode cX5_raiseLinear 39 = .ok (.ifCond .lt 62, 3) := by decide +kernel
theorem dX5_raiseLinear_42 : decode cX5_raiseLinear 42 = .ok (.aload_n 0, 1) := by decide +kernel
theorem dX5_raiseLinear_43 : decode cX5_raiseLinear 43 = .ok (.invokevirtual 82, 3) := by decide +kernel
theorem dX5_raiseLinear_46 : decode cX5_raiseLinear 46 = .ok (.aload_n 0, 1) := by decide +kernel
theorem dX5_raiseLinear_47 : decode cX5_raiseLinear 47 = .ok (.getfield 27, 3) := by decide +kernel
theorem dX5_raiseLinear_50 : decode cX5_raiseLinear 50 = .ok (.aload_n 3, 1) := by decide +kernel
theorem dX5_raiseLinear_51 : decode cX5_raiseLinear 51 = .ok (.invokestatic 85, 3) := by decide +kernel
theorem dX5_raiseLinear_54 : decode cX5_raiseLinear 54 = .ok (.aload_n 0, 1) := by decide +kernel
theorem dX5_raiseLinear_55 : decode cX5_raiseLinear 55 = .ok (.getfield 27, 3) := by decide +kernel
theorem dX5_raiseLinear_58 : decode cX5_raiseLinear 58 = .ok (.iconst 0, 1) := by decide +kernel
theorem dX5_raiseLinear_59 : decode cX5_raiseLinear 59 = .ok (.aload_n 0, 1) := by decide +kernel
theorem dX5_raiseLinear_60 : decode cX5_raiseLinear 60 = .ok (.getfield 24, 3) := by decide +kernel
theorem dX5_raiseLinear_63 : decode cX5_raiseLinear 63 = .ok (.iconst 0, 1) := by decide +kernel
theorem dX5_raiseLinear_64 : decode cX5_raiseLinear 64 = .ok (.bipush 7, 2) := by decide +kernel
theorem dX5_raiseLinear_66 : decode cX5_raiseLinear 66 = .ok (.invokestatic 72, 3) := by decide +kernel
theorem dX5_raiseLinear_69 : decode cX5_raiseLinear 69 = .ok (.iload_n 2, 1) := by decide +kernel
theorem dX5_raiseLinear_70 : decode cX5_raiseLinear 70 = .ok (.iload 4, 2) := by decide +kernel
theorem dX5_raiseLinear_72 : decode cX5_raiseLinear 72 = .ok (.ishr, 1) := by decide +kernel
theorem dX5_raiseLinear_73 : decode cX5_raiseLinear 73 = .ok (.iconst 1, 1) := by decide +kernel
theorem dX5_raiseLinear_74 : decode cX5_raiseLinear 74 = .ok (.iand, 1) := by decide +kernel
theorem dX5_raiseLinear_75 : decode cX5_raiseLinear 75 = .ok (.iconst 1, 1) := by decide +kernel
theorem dX5_raiseLinear_76 : decode cX5_raiseLinear 76 = .ok (.if_icmp .ne 19, 3) := by decide +kernel
theorem dX5_raiseLinear_79 : decode cX5_raiseLinear 79 = .ok (.aload_n 0, 1) := by decide +kernel
theorem dX5_raiseLinear_80 : decode cX5_raiseLinear 80 = .ok (.getfield 24, 3) := by decide +kernel
theorem dX5_raiseLinear_83 : decode cX5_raiseLinear 83 = .ok (.iload_n 1, 1) := by decide +kernel
theorem dX5_raiseLinear_84 : decode cX5_raiseLinear 84 = .ok (.invokestatic 88, 3) := by decide +kernel
theorem dX5_raiseLinear_87 : decode cX5_raiseLinear 87 = .ok (.aload_n 0, 1) := by decide +kernel
theorem dX5_raiseLinear_88 : decode cX5_raiseLinear 88 = .ok (.getfield 24, 3) := by decide +kernel
theorem dX5_raiseLinear_91 : decode cX5_raiseLinear 91 = .ok (.aload_n 3, 1) := by decide +kernel
theorem dX5_raiseLinear_92 : decode cX5_raiseLinear 92 = .ok (.invokestatic 85, 3) := by decide +kernel
theorem dX5_raiseLinear_95 : decode cX5_raiseLinear 95 = .ok (.iinc 4 (-1), 3) := by decide +kernel
theorem dX5_raiseLinear_98 : decode cX5_raiseLinear 98 = .ok (.goto (-61), 3) := by decide +kernel
theorem dX5_raiseLinear_101 : decode cX5_raiseLinear 101 = .ok (.return_, 1) := by decide +kernel
theorem dX5_squarePower_0 : decode cX5_squarePower 0 = .ok (.iconst 0, 1) := by decide +kernel
theorem dX5_squarePower_1 : decode cX5_squarePower 1 = .ok (.istore_n 1, 1) := by decide +kernel
theorem dX5_squarePower_2 : decode cX5_squarePower 2 = .ok (.iload_n 1, 1) := by decide +kernel
theorem dX5_squarePower_3 : decode cX5_squarePower 3 = .ok (.aload_n 0, 1) := by decide +kernel
theorem dX5_squarePower_4 : decode cX5_squarePower 4 = .ok (.getfield 27, 3) := by decide +kernel
theorem dX5_squarePower_7 : decode cX5_squarePower 7 = .ok (.arraylength, 1) := by decide +kernel
theorem dX5_squarePower_8 : decode cX5_squarePower 8 = .ok (.if_icmp .ge 16, 3) := by decide +kernel
theorem dX5_squarePower_11 : decode cX5_squarePower 11 = .ok (.aload_n 0, 1) := by decide +kernel
theorem dX5_squarePower_12 : decode cX5_squarePower 12 = .ok (.getfield 27, 3) := by decide +kernel
theorem dX5_squarePower_15 : decode cX5_squarePower 15 = .ok (.iload_n 1, 1) := by decide +kernel
theorem dX5_squarePower_16 : decode cX5_squarePower 16 = .ok (.iconst 0, 1) := by decide +kernel
theorem dX5_squarePower_17 : decode cX5_squarePower 17 = .ok (.iastore, 1) := by decide +kernel
theorem dX5_squarePower_18 : decode cX5_squarePower 18 = .ok (.iinc 1 1, 3) := by decide +kernel
theorem dX5_squarePower_21 : decode cX5_squarePower 21 = .ok (.goto (-19), 3) := by decide +kernel
theorem dX5_squarePower_24 : decode cX5_squarePower 24 = .ok (.aload_n 0, 1) := by decide +kernel
theorem dX5_squarePower_25 : decode cX5_squarePower 25 = .ok (.getfield 24, 3) := by decide +kernel
theorem dX5_squarePower_28 : decode cX5_squarePower 28 = .ok (.invokestatic 43, 3) := by decide +kernel
theorem dX5_squarePower_31 : decode cX5_squarePower 31 = .ok (.istore_n 1, 1) := by decide +kernel
theorem dX5_squarePower_32 : decode cX5_squarePower 32 = .ok (.iconst 0, 1) := by decide +kernel
theorem dX5_squarePower_33 : decode cX5_squarePower 33 = .ok (.istore_n 2, 1) := by decide +kernel
theorem dX5_squarePower_34 : decode cX5_squarePower 34 = .ok (.iload_n 2, 1) := by decide +kernel
theorem dX5_squarePower_35 : decode cX5_squarePower 35 = .ok (.iload_n 1, 1) := by decide +kernel
theorem dX5_squarePower_36 : decode cX5_squarePower 36 = .ok (.if_icmp .gt 56, 3) := by decide +kernel
theorem dX5_squarePower_39 : decode cX5_squarePower 39 = .ok (.iconst 0, 1) := by decide +kernel
theorem dX5_squarePower_40 : decode cX5_squarePower 40 = .ok (.istore_n 3, 1) := by decide +kernel
theorem dX5_squarePower_41 : decode cX5_squarePower 41 = .ok (.iload_n 3, 1) := by decide +kernel
theorem dX5_squarePower_42 : decode cX5_squarePower 42 = .ok (.iload_n 1, 1) := by decide +kernel
theorem dX5_squarePower_43 : decode cX5_squarePower 43 = .ok (.if_icmp .gt 43, 3) := by decide +kernel
theorem dX5_squarePower_46 : decode cX5_squarePower 46 = .ok (.aload_n 0, 1) := by decide +kernel
theorem dX5_squarePower_47 : decode cX5_squarePower 47 = .ok (.getfield 27, 3) := by decide +kernel
theorem dX5_squarePower_50 : decode cX5_squarePower 50 = .ok (.iload_n 2, 1) := by decide +kernel
theorem dX5_squarePower_51 : decode cX5_squarePower 51 = .ok (.iload_n 3, 1) := by decide +kernel
theorem dX5_squarePower_52 : decode cX5_squarePower 52 = .ok (.iadd, 1) := by decide +kernel
theorem dX5_squarePower_53 : decode cX5_squarePower 53 = .ok (.aload_n 0, 1) := by decide +kernel
theorem dX5_squarePower_54 : decode cX5_squarePower 54 = .ok (.getfield 27, 3) := by decide +kernel
theorem dX5_squarePower_57 : decode cX5_squarePower 57 = .ok (.iload_n 2, 1) := by decide +kernel
theorem dX5_squarePower_58 : decode cX5_squarePower 58 = .ok (.iload_n 3, 1) := by decide +kernel
theorem dX5_squarePower_59 : decode cX5_squarePower 59 = .ok (.iadd, 1) := by decide +kernel
theorem dX5_squarePower_60 : decode cX5_squarePower 60 = .ok (.iaload, 1) := by decide +kernel
theorem dX5_squarePower_61 : decode cX5_squarePower 61 = .ok (.aload_n 0, 1) := by decide +kernel
theorem dX5_squarePower_62 : decode cX5_squarePower 62 = .ok (.getfield 24, 3) := by decide +kernel
theorem dX5_squarePower_65 : decode cX5_squarePower 65 = .ok (.iload_n 2, 1) := by decide +kernel
theorem dX5_squarePower_66 : decode cX5_squarePower 66 = .ok (.iaload, 1) := by decide +kernel
theorem dX5_squarePower_67 : decode cX5_squarePower 67 = .ok (.aload_n 0, 1) := by decide +kernel
theorem dX5_squarePower_68 : decode cX5_squarePower 68 = .ok (.getfield 24, 3) := by decide +kernel
theorem dX5_squarePower_71 : decode cX5_squarePower 71 = .ok (.iload_n 3, 1) := by decide +kernel
theorem dX5_squarePower_72 : decode cX5_squarePower 72 = .ok (.iaload, 1) := by decide +kernel
theorem dX5_squarePower_73 : decode cX5_squarePower 73 = .ok (.imul, 1) := by decide +kernel
theorem dX5_squarePower_74 : decode cX5_squarePower 74 = .ok (.iadd, 1) := by decide +kernel
theorem dX5_squarePower_75 : decode cX5_squarePower 75 = .ok (.sipush 32003, 3) := by decide +kernel
theorem dX5_squarePower_78 : decode cX5_squarePower 78 = .ok (.irem, 1) := by decide +kernel
theorem dX5_squarePower_79 : decode cX5_squarePower 79 = .ok (.iastore, 1) := by decide +kernel
theorem dX5_squarePower_80 : decode cX5_squarePower 80 = .ok (.iinc 3 1, 3) := by decide +kernel
theorem dX5_squarePower_83 : decode cX5_squarePower 83 = .ok (.goto (-42), 3) := by decide +kernel
theorem dX5_squarePower_86 : decode cX5_squarePower 86 = .ok (.iinc 2 1, 3) := by decide +kernel
theorem dX5_squarePower_89 : decode cX5_squarePower 89 = .ok (.goto (-55), 3) := by decide +kernel
theorem dX5_squarePower_92 : decode cX5_squarePower 92 = .ok (.return_, 1) := by decide +kernel
theorem dX5_keepCommonDivisor_0 : decode cX5_keepCommonDivisor 0 = .ok (.aload_n 0, 1) := by decide +kernel
theorem dX5_keepCommonDivisor_1 : decode cX5_keepCommonDivisor 1 = .ok (.astore_n 2, 1) := by decide +kernel
theorem dX5_keepCommonDivisor_2 : decode cX5_keepCommonDivisor 2 = .ok (.aload_n 1, 1) := by decide +kernel
theorem dX5_keepCommonDivisor_3 : decode cX5_keepCommonDivisor 3 = .ok (.astore_n 3, 1) := by decide +kernel
theorem dX5_keepCommonDivisor_4 : decode cX5_keepCommonDivisor 4 = .ok (.iconst 0, 1) := by decide +kernel
theorem dX5_keepCommonDivisor_5 : decode cX5_keepCommonDivisor 5 = .ok (.istore 4, 2) := by decide +kernel
theorem dX5_keepCommonDivisor_7 : decode cX5_keepCommonDivisor 7 = .ok (.iload 4, 2) := by decide +kernel
theorem dX5_keepCommonDivisor_9 : decode cX5_keepCommonDivisor 9 = .ok (.bipush 7, 2) := by decide +kernel
theorem dX5_keepCommonDivisor_11 : decode cX5_keepCommonDivisor 11 = .ok (.if_icmp .gt 33, 3) := by decide +kernel
theorem dX5_keepCommonDivisor_14 : decode cX5_keepCommonDivisor 14 = .ok (.aload_n 3, 1) := by decide +kernel
theorem dX5_keepCommonDivisor_15 : decode cX5_keepCommonDivisor 15 = .ok (.invokestatic 43, 3) := by decide +kernel
theorem dX5_keepCommonDivisor_18 : decode cX5_keepCommonDivisor 18 = .ok (.ifCond .lt 26, 3) := by decide +kernel
theorem dX5_keepCommonDivisor_21 : decode cX5_keepCommonDivisor 21 = .ok (.aload_n 3, 1) := by decide +kernel
theorem dX5_keepCommonDivisor_22 : decode cX5_keepCommonDivisor 22 = .ok (.invokestatic 34, 3) := by decide +kernel
theorem dX5_keepCommonDivisor_25 : decode cX5_keepCommonDivisor 25 = .ok (.aload_n 2, 1) := by decide +kernel
theorem dX5_keepCommonDivisor_26 : decode cX5_keepCommonDivisor 26 = .ok (.aload_n 3, 1) := by decide +kernel
theorem dX5_keepCommonDivisor_27 : decode cX5_keepCommonDivisor 27 = .ok (.invokestatic 85, 3) := by decide +kernel
theorem dX5_keepCommonDivisor_30 : decode cX5_keepCommonDivisor 30 = .ok (.aload_n 2, 1) := by decide +kernel
theorem dX5_keepCommonDivisor_31 : decode cX5_keepCommonDivisor 31 = .ok (.astore 5, 2) := by decide +kernel
theorem dX5_keepCommonDivisor_33 : decode cX5_keepCommonDivisor 33 = .ok (.aload_n 3, 1) := by decide +kernel
theorem dX5_keepCommonDivisor_34 : decode cX5_keepCommonDivisor 34 = .ok (.astore_n 2, 1) := by decide +kernel
theorem dX5_keepCommonDivisor_35 : decode cX5_keepCommonDivisor 35 = .ok (.aload 5, 2) := by decide +kernel
theorem dX5_keepCommonDivisor_37 : decode cX5_keepCommonDivisor 37 = .ok (.astore_n 3, 1) := by decide +kernel
theorem dX5_keepCommonDivisor_38 : decode cX5_keepCommonDivisor 38 = .ok (.iinc 4 1, 3) := by decide +kernel
theorem dX5_keepCommonDivisor_41 : decode cX5_keepCommonDivisor 41 = .ok (.goto (-34), 3) := by decide +kernel
theorem dX5_keepCommonDivisor_44 : decode cX5_keepCommonDivisor 44 = .ok (.aload_n 2, 1) := by decide +kernel
theorem dX5_keepCommonDivisor_45 : decode cX5_keepCommonDivisor 45 = .ok (.iconst 0, 1) := by decide +kernel
theorem dX5_keepCommonDivisor_46 : decode cX5_keepCommonDivisor 46 = .ok (.aload_n 0, 1) := by decide +kernel
theorem dX5_keepCommonDivisor_47 : decode cX5_keepCommonDivisor 47 = .ok (.iconst 0, 1) := by decide +kernel
theorem dX5_keepCommonDivisor_48 : decode cX5_keepCommonDivisor 48 = .ok (.bipush 7, 2) := by decide +kernel
theorem dX5_keepCommonDivisor_50 : decode cX5_keepCommonDivisor 50 = .ok (.invokestatic 72, 3) := by decide +kernel
theorem dX5_keepCommonDivisor_53 : decode cX5_keepCommonDivisor 53 = .ok (.return_, 1) := by decide +kernel
theorem dX5_insert_0 : decode cX5_insert 0 = .ok (.aload_n 0, 1) := by decide +kernel
theorem dX5_insert_1 : decode cX5_insert 1 = .ok (.getfield 30, 3) := by decide +kernel
theorem dX5_insert_4 : decode cX5_insert 4 = .ok (.aload_n 0, 1) := by decide +kernel
theorem dX5_insert_5 : decode cX5_insert 5 = .ok (.getfield 9, 3) := by decide +kernel
theorem dX5_insert_8 : decode cX5_insert 8 = .ok (.arraylength, 1) := by decide +kernel
theorem dX5_insert_9 : decode cX5_insert 9 = .ok (.if_icmp .lt 4, 3) := by decide +kernel
theorem dX5_insert_12 : decode cX5_insert 12 = .ok (.return_, 1) := by decide +kernel
theorem dX5_insert_13 : decode cX5_insert 13 = .ok (.aload_n 0, 1) := by decide +kernel
theorem dX5_insert_14 : decode cX5_insert 14 = .ok (.getfield 30, 3) := by decide +kernel
theorem dX5_insert_17 : decode cX5_insert 17 = .ok (.istore_n 2, 1) := by decide +kernel
theorem dX5_insert_18 : decode cX5_insert 18 = .ok (.iload_n 2, 1) := by decide +kernel
theorem dX5_insert_19 : decode cX5_insert 19 = .ok (.ifCond .le 35, 3) := by decide +kernel
theorem dX5_insert_22 : decode cX5_insert 22 = .ok (.aload_n 0, 1) := by decide +kernel
theorem dX5_insert_23 : decode cX5_insert 23 = .ok (.getfield 9, 3) := by decide +kernel
theorem dX5_insert_26 : decode cX5_insert 26 = .ok (.iload_n 2, 1) := by decide +kernel
theorem dX5_insert_27 : decode cX5_insert 27 = .ok (.iconst 1, 1) := by decide +kernel
theorem dX5_insert_28 : decode cX5_insert 28 = .ok (.isub, 1) := by decide +kernel
theorem dX5_insert_29 : decode cX5_insert 29 = .ok (.iaload, 1) := by decide +kernel
theorem dX5_insert_30 : decode cX5_insert 30 = .ok (.iload_n 1, 1) := by decide +kernel
theorem dX5_insert_31 : decode cX5_insert 31 = .ok (.if_icmp .le 23, 3) := by decide +kernel
theorem dX5_insert_34 : decode cX5_insert 34 = .ok (.aload_n 0, 1) := by decide +kernel
theorem dX5_insert_35 : decode cX5_insert 35 = .ok (.getfield 9, 3) := by decide +kernel
theorem dX5_insert_38 : decode cX5_insert 38 = .ok (.iload_n 2, 1) := by decide +kernel
theorem dX5_insert_39 : decode cX5_insert 39 = .ok (.aload_n 0, 1) := by decide +kernel
theorem dX5_insert_40 : decode cX5_insert 40 = .ok (.getfield 9, 3) := by decide +kernel
theorem dX5_insert_43 : decode cX5_insert 43 = .ok (.iload_n 2, 1) := by decide +kernel
theorem dX5_insert_44 : decode cX5_insert 44 = .ok (.iconst 1, 1) := by decide +kernel
theorem dX5_insert_45 : decode cX5_insert 45 = .ok (.isub, 1) := by decide +kernel
theorem dX5_insert_46 : decode cX5_insert 46 = .ok (.iaload, 1) := by decide +kernel
theorem dX5_insert_47 : decode cX5_insert 47 = .ok (.iastore, 1) := by decide +kernel
theorem dX5_insert_48 : decode cX5_insert 48 = .ok (.iinc 2 (-1), 3) := by decide +kernel
theorem dX5_insert_51 : decode cX5_insert 51 = .ok (.goto (-33), 3) := by decide +kernel
theorem dX5_insert_54 : decode cX5_insert 54 = .ok (.aload_n 0, 1) := by decide +kernel
theorem dX5_insert_55 : decode cX5_insert 55 = .ok (.getfield 9, 3) := by decide +kernel
theorem dX5_insert_58 : decode cX5_insert 58 = .ok (.iload_n 2, 1) := by decide +kernel
theorem dX5_insert_59 : decode cX5_insert 59 = .ok (.iload_n 1, 1) := by decide +kernel
theorem dX5_insert_60 : decode cX5_insert 60 = .ok (.iastore, 1) := by decide +kernel
theorem dX5_insert_61 : decode cX5_insert 61 = .ok (.aload_n 0, 1) := by decide +kernel
theorem dX5_insert_62 : decode cX5_insert 62 = .ok (.dup, 1) := by decide +kernel
theorem dX5_insert_63 : decode cX5_insert 63 = .ok (.getfield 30, 3) := by decide +kernel
theorem dX5_insert_66 : decode cX5_insert 66 = .ok (.iconst 1, 1) := by decide +kernel
theorem dX5_insert_67 : decode cX5_insert 67 = .ok (.iadd, 1) := by decide +kernel
theorem dX5_insert_68 : decode cX5_insert 68 = .ok (.putfield 30, 3) := by decide +kernel
theorem dX5_insert_71 : decode cX5_insert 71 = .ok (.return_, 1) := by decide +kernel
theorem dX5_divideOut_0 : decode cX5_divideOut 0 = .ok (.iconst 0, 1) := by decide +kernel
theorem dX5_divideOut_1 : decode cX5_divideOut 1 = .ok (.istore_n 2, 1) := by decide +kernel
theorem dX5_divideOut_2 : decode cX5_divideOut 2 = .ok (.bipush 6, 2) := by decide +kernel
theorem dX5_divideOut_4 : decode cX5_divideOut 4 = .ok (.istore_n 3, 1) := by decide +kernel
theorem dX5_divideOut_5 : decode cX5_divideOut 5 = .ok (.iload_n 3, 1) := by decide +kernel
theorem dX5_divideOut_6 : decode cX5_divideOut 6 = .ok (.ifCond .lt 35, 3) := by decide +kernel
theorem dX5_divideOut_9 : decode cX5_divideOut 9 = .ok (.aload_n 0, 1) := by decide +kernel
theorem dX5_divideOut_10 : decode cX5_divideOut 10 = .ok (.getfield 15, 3) := by decide +kernel
theorem dX5_divideOut_13 : decode cX5_divideOut 13 = .ok (.iload_n 3, 1) := by decide +kernel
theorem dX5_divideOut_14 : decode cX5_divideOut 14 = .ok (.iaload, 1) := by decide +kernel
theorem dX5_divideOut_15 : decode cX5_divideOut 15 = .ok (.iload_n 2, 1) := by decide +kernel
theorem dX5_divideOut_16 : decode cX5_divideOut 16 = .ok (.iload_n 1, 1) := by decide +kernel
theorem dX5_divideOut_17 : decode cX5_divideOut 17 = .ok (.imul, 1) := by decide +kernel
theorem dX5_divideOut_18 : decode cX5_divideOut 18 = .ok (.iadd, 1) := by decide +kernel
theorem dX5_divideOut_19 : decode cX5_divideOut 19 = .ok (.sipush 32003, 3) := by decide +kernel
theorem dX5_divideOut_22 : decode cX5_divideOut 22 = .ok (.irem, 1) := by decide +kernel
theorem dX5_divideOut_23 : decode cX5_divideOut 23 = .ok (.istore 4, 2) := by decide +kernel
theorem dX5_divideOut_25 : decode cX5_divideOut 25 = .ok (.aload_n 0, 1) := by decide +kernel
theorem dX5_divideOut_26 : decode cX5_divideOut 26 = .ok (.getfield 15, 3) := by decide +kernel
theorem dX5_divideOut_29 : decode cX5_divideOut 29 = .ok (.iload_n 3, 1) := by decide +kernel
theorem dX5_divideOut_30 : decode cX5_divideOut 30 = .ok (.iload_n 2, 1) := by decide +kernel
theorem dX5_divideOut_31 : decode cX5_divideOut 31 = .ok (.iastore, 1) := by decide +kernel
theorem dX5_divideOut_32 : decode cX5_divideOut 32 = .ok (.iload 4, 2) := by decide +kernel
theorem dX5_divideOut_34 : decode cX5_divideOut 34 = .ok (.istore_n 2, 1) := by decide +kernel
theorem dX5_divideOut_35 : decode cX5_divideOut 35 = .ok (.iinc 3 (-1), 3) := by decide +kernel
theorem dX5_divideOut_38 : decode cX5_divideOut 38 = .ok (.goto (-33), 3) := by decide +kernel
theorem dX5_divideOut_41 : decode cX5_divideOut 41 = .ok (.return_, 1) := by decide +kernel
theorem dX6_init_0 : decode cX6_init 0 = .ok (.aload_n 0, 1) := by decide +kernel
theorem dX6_init_1 : decode cX6_init 1 = .ok (.invokespecial 3, 3) := by decide +kernel
theorem dX6_init_4 : decode cX6_init 4 = .ok (.aload_n 0, 1) := by decide +kernel
theorem dX6_init_5 : decode cX6_init 5 = .ok (.sipush 169, 3) := by decide +kernel
theorem dX6_init_8 : decode cX6_init 8 = .ok (.newarray .int, 2) := by decide +kernel
theorem dX6_init_10 : decode cX6_init 10 = .ok (.putfield 9, 3) := by decide +kernel
theorem dX6_init_13 : decode cX6_init 13 = .ok (.return_, 1) := by decide +kernel
theorem dX6_numberAt_0 : decode cX6_numberAt 0 = .ok (.iload_n 1, 1) := by decide +kernel
theorem dX6_numberAt_1 : decode cX6_numberAt 1 = .ok (.bipush 13, 2) := by decide +kernel
theorem dX6_numberAt_3 : decode cX6_numberAt 3 = .ok (.imul, 1) := by decide +kernel
theorem dX6_numberAt_4 : decode cX6_numberAt 4 = .ok (.iload_n 2, 1) := by decide +kernel
theorem dX6_numberAt_5 : decode cX6_numberAt 5 = .ok (.iadd, 1) := by decide +kernel
theorem dX6_numberAt_6 : decode cX6_numberAt 6 = .ok (.istore_n 3, 1) := by decide +kernel
theorem dX6_numberAt_7 : decode cX6_numberAt 7 = .ok (.iload_n 3, 1) := by decide +kernel
theorem dX6_numberAt_8 : decode cX6_numberAt 8 = .ok (.ifCond .lt 12, 3) := by decide +kernel
theorem dX6_numberAt_11 : decode cX6_numberAt 11 = .ok (.iload_n 3, 1) := by decide +kernel
theorem dX6_numberAt_12 : decode cX6_numberAt 12 = .ok (.aload_n 0, 1) := by decide +kernel
theorem dX6_numberAt_13 : decode cX6_numberAt 13 = .ok (.getfield 9, 3) := by decide +kernel
theorem dX6_numberAt_16 : decode cX6_numberAt 16 = .ok (.arraylength, 1) := by decide +kernel
theorem dX6_numberAt_17 : decode cX6_numberAt 17 = .ok (.if_icmp .lt 7, 3) := by decide +kernel
theorem dX6_numberAt_20 : decode cX6_numberAt 20 = .ok (.iconst 0, 1) := by decide +kernel
theorem dX6_numberAt_21 : decode cX6_numberAt 21 = .ok (.goto 9, 3) := by decide +kernel
theorem dX6_numberAt_24 : decode cX6_numberAt 24 = .ok (.aload_n 0, 1) := by decide +kernel
theorem dX6_numberAt_25 : decode cX6_numberAt 25 = .ok (.getfield 9, 3) := by decide +kernel
theorem dX6_numberAt_28 : decode cX6_numberAt 28 = .ok (.iload_n 3, 1) := by decide +kernel
theorem dX6_numberAt_29 : decode cX6_numberAt 29 = .ok (.iaload, 1) := by decide +kernel
theorem dX6_numberAt_30 : decode cX6_numberAt 30 = .ok (.ireturn, 1) := by decide +kernel
theorem dX6_setNumberAt_0 : decode cX6_setNumberAt 0 = .ok (.iload_n 1, 1) := by decide +kernel
theorem dX6_setNumberAt_1 : decode cX6_setNumberAt 1 = .ok (.bipush 13, 2) := by decide +kernel
theorem dX6_setNumberAt_3 : decode cX6_setNumberAt 3 = .ok (.imul, 1) := by decide +kernel
theorem dX6_setNumberAt_4 : decode cX6_setNumberAt 4 = .ok (.iload_n 2, 1) := by decide +kernel
theorem dX6_setNumberAt_5 : decode cX6_setNumberAt 5 = .ok (.iadd, 1) := by decide +kernel
theorem dX6_setNumberAt_6 : decode cX6_setNumberAt 6 = .ok (.istore 4, 2) := by decide +kernel
theorem dX6_setNumberAt_8 : decode cX6_setNumberAt 8 = .ok (.iload 4, 2) := by decide +kernel
theorem dX6_setNumberAt_10 : decode cX6_setNumberAt 10 = .ok (.ifCond .lt 21, 3) := by decide +kernel
theorem dX6_setNumberAt_13 : decode cX6_setNumberAt 13 = .ok (.iload 4, 2) := by decide +kernel
theorem dX6_setNumberAt_15 : decode cX6_setNumberAt 15 = .ok (.aload_n 0, 1) := by decide +kernel
theorem dX6_setNumberAt_16 : decode cX6_setNumberAt 16 = .ok (.getfield 9, 3) := by decide +kernel
theorem dX6_setNumberAt_19 : decode cX6_setNumberAt 19 = .ok (.arraylength, 1) := by decide +kernel
theorem dX6_setNumberAt_20 : decode cX6_setNumberAt 20 = .ok (.if_icmp .ge 11, 3) := by decide +kernel
theorem dX6_setNumberAt_23 : decode cX6_setNumberAt 23 = .ok (.aload_n 0, 1) := by decide +kernel
theorem dX6_setNumberAt_24 : decode cX6_setNumberAt 24 = .ok (.getfield 9, 3) := by decide +kernel
theorem dX6_setNumberAt_27 : decode cX6_setNumberAt 27 = .ok (.iload 4, 2) := by decide +kernel
theorem dX6_setNumberAt_29 : decode cX6_setNumberAt 29 = .ok (.iload_n 3, 1) := by decide +kernel
theorem dX6_setNumberAt_30 : decode cX6_setNumberAt 30 = .ok (.iastore, 1) := by decide +kernel
theorem dX6_setNumberAt_31 : decode cX6_setNumberAt 31 = .ok (.return_, 1) := by decide +kernel
theorem dX7_init_0 : decode cX7_init 0 = .ok (.aload_n 0, 1) := by decide +kernel
theorem dX7_init_1 : decode cX7_init 1 = .ok (.invokespecial 3, 3) := by decide +kernel
theorem dX7_init_4 : decode cX7_init 4 = .ok (.aload_n 0, 1) := by decide +kernel
theorem dX7_init_5 : decode cX7_init 5 = .ok (.sipush 301, 3) := by decide +kernel
theorem dX7_init_8 : decode cX7_init 8 = .ok (.newarray .int, 2) := by decide +kernel
theorem dX7_init_10 : decode cX7_init 10 = .ok (.putfield 9, 3) := by decide +kernel
theorem dX7_init_13 : decode cX7_init 13 = .ok (.return_, 1) := by decide +kernel
theorem dX7_addStart_0 : decode cX7_addStart 0 = .ok (.aload_n 0, 1) := by decide +kernel
theorem dX7_addStart_1 : decode cX7_addStart 1 = .ok (.getfield 15, 3) := by decide +kernel
theorem dX7_addStart_4 : decode cX7_addStart 4 = .ok (.bipush 12, 2) := by decide +kernel
theorem dX7_addStart_6 : decode cX7_addStart 6 = .ok (.if_icmp .lt 5, 3) := by decide +kernel
theorem dX7_addStart_9 : decode cX7_addStart 9 = .ok (.iconst 0, 1) := by decide +kernel
theorem dX7_addStart_10 : decode cX7_addStart 10 = .ok (.ireturn, 1) := by decide +kernel
theorem dX7_addStart_11 : decode cX7_addStart 11 = .ok (.aload_n 0, 1) := by decide +kernel
theorem dX7_addStart_12 : decode cX7_addStart 12 = .ok (.getfield 9, 3) := by decide +kernel
theorem dX7_addStart_15 : decode cX7_addStart 15 = .ok (.aload_n 0, 1) := by decide +kernel
theorem dX7_addStart_16 : decode cX7_addStart 16 = .ok (.getfield 15, 3) := by decide +kernel
theorem dX7_addStart_19 : decode cX7_addStart 19 = .ok (.iload_n 1, 1) := by decide +kernel
theorem dX7_addStart_20 : decode cX7_addStart 20 = .ok (.iastore, 1) := by decide +kernel
theorem dX7_addStart_21 : decode cX7_addStart 21 = .ok (.aload_n 0, 1) := by decide +kernel
theorem dX7_addStart_22 : decode cX7_addStart 22 = .ok (.dup, 1) := by decide +kernel
theorem dX7_addStart_23 : decode cX7_addStart 23 = .ok (.getfield 15, 3) := by decide +kernel
theorem dX7_addStart_26 : decode cX7_addStart 26 = .ok (.iconst 1, 1) := by decide +kernel
theorem dX7_addStart_27 : decode cX7_addStart 27 = .ok (.iadd, 1) := by decide +kernel
theorem dX7_addStart_28 : decode cX7_addStart 28 = .ok (.putfield 15, 3) := by decide +kernel
theorem dX7_addStart_31 : decode cX7_addStart 31 = .ok (.aload_n 0, 1) := by decide +kernel
theorem dX7_addStart_32 : decode cX7_addStart 32 = .ok (.aload_n 0, 1) := by decide +kernel
theorem dX7_addStart_33 : decode cX7_addStart 33 = .ok (.getfield 15, 3) := by decide +kernel
theorem dX7_addStart_36 : decode cX7_addStart 36 = .ok (.putfield 19, 3) := by decide +kernel
theorem dX7_addStart_39 : decode cX7_addStart 39 = .ok (.iconst 1, 1) := by decide +kernel
theorem dX7_addStart_40 : decode cX7_addStart 40 = .ok (.ireturn, 1) := by decide +kernel
theorem dX7_forgetConclusions_0 : decode cX7_forgetConclusions 0 = .ok (.aload_n 0, 1) := by decide +kernel
theorem dX7_forgetConclusions_1 : decode cX7_forgetConclusions 1 = .ok (.aload_n 0, 1) := by decide +kernel
theorem dX7_forgetConclusions_2 : decode cX7_forgetConclusions 2 = .ok (.getfield 15, 3) := by decide +kernel
theorem dX7_forgetConclusions_5 : decode cX7_forgetConclusions 5 = .ok (.putfield 19, 3) := by decide +kernel
theorem dX7_forgetConclusions_8 : decode cX7_forgetConclusions 8 = .ok (.return_, 1) := by decide +kernel
theorem dX7_empty_0 : decode cX7_empty 0 = .ok (.aload_n 0, 1) := by decide +kernel
theorem dX7_empty_1 : decode cX7_empty 1 = .ok (.iconst 0, 1) := by decide +kernel
theorem dX7_empty_2 : decode cX7_empty 2 = .ok (.putfield 15, 3) := by decide +kernel
theorem dX7_empty_5 : decode cX7_empty 5 = .ok (.aload_n 0, 1) := by decide +kernel
theorem dX7_empty_6 : decode cX7_empty 6 = .ok (.iconst 0, 1) := by decide +kernel
theorem dX7_empty_7 : decode cX7_empty 7 = .ok (.putfield 19, 3) := by decide +kernel
theorem dX7_empty_10 : decode cX7_empty 10 = .ok (.return_, 1) := by decide +kernel
theorem dX7_at_0 : decode cX7_at 0 = .ok (.aload_n 1, 1) := by decide +kernel
theorem dX7_at_1 : decode cX7_at 1 = .ok (.invokevirtual 22, 3) := by decide +kernel
theorem dX7_at_4 : decode cX7_at 4 = .ok (.istore_n 3, 1) := by decide +kernel
theorem dX7_at_5 : decode cX7_at 5 = .ok (.iload_n 2, 1) := by decide +kernel
theorem dX7_at_6 : decode cX7_at 6 = .ok (.ifCond .lt 22, 3) := by decide +kernel
theorem dX7_at_9 : decode cX7_at 9 = .ok (.iload_n 2, 1) := by decide +kernel
theorem dX7_at_10 : decode cX7_at 10 = .ok (.sipush 301, 3) := by decide +kernel
theorem dX7_at_13 : decode cX7_at 13 = .ok (.if_icmp .ge 15, 3) := by decide +kernel
theorem dX7_at_16 : decode cX7_at 16 = .ok (.iload_n 3, 1) := by decide +kernel
theorem dX7_at_17 : decode cX7_at 17 = .ok (.ifCond .lt 11, 3) := by decide +kernel
theorem dX7_at_20 : decode cX7_at 20 = .ok (.aload_n 0, 1) := by decide +kernel
theorem dX7_at_21 : decode cX7_at 21 = .ok (.getfield 15, 3) := by decide +kernel
theorem dX7_at_24 : decode cX7_at 24 = .ok (.iload_n 3, 1) := by decide +kernel
theorem dX7_at_25 : decode cX7_at 25 = .ok (.if_icmp .ge 5, 3) := by decide +kernel
theorem dX7_at_28 : decode cX7_at 28 = .ok (.iconst (-1), 1) := by decide +kernel
theorem dX7_at_29 : decode cX7_at 29 = .ok (.ireturn, 1) := by decide +kernel
theorem dX7_at_30 : decode cX7_at 30 = .ok (.aload_n 0, 1) := by decide +kernel
theorem dX7_at_31 : decode cX7_at 31 = .ok (.getfield 19, 3) := by decide +kernel
theorem dX7_at_34 : decode cX7_at 34 = .ok (.istore 4, 2) := by decide +kernel
theorem dX7_at_36 : decode cX7_at 36 = .ok (.iload 4, 2) := by decide +kernel
theorem dX7_at_38 : decode cX7_at 38 = .ok (.iload_n 2, 1) := by decide +kernel
theorem dX7_at_39 : decode cX7_at 39 = .ok (.if_icmp .gt 68, 3) := by decide +kernel
theorem dX7_at_42 : decode cX7_at 42 = .ok (.iload 4, 2) := by decide +kernel
theorem dX7_at_44 : decode cX7_at 44 = .ok (.iload_n 3, 1) := by decide +kernel
theorem dX7_at_45 : decode cX7_at 45 = .ok (.isub, 1) := by decide +kernel
theorem dX7_at_46 : decode cX7_at 46 = .ok (.istore 5, 2) := by decide +kernel
theorem dX7_at_48 : decode cX7_at 48 = .ok (.aload_n 1, 1) := by decide +kernel
theorem dX7_at_49 : decode cX7_at 49 = .ok (.getfield 28, 3) := by decide +kernel
theorem dX7_at_52 : decode cX7_at 52 = .ok (.iload_n 3, 1) := by decide +kernel
theorem dX7_at_53 : decode cX7_at 53 = .ok (.aaload, 1) := by decide +kernel
theorem dX7_at_54 : decode cX7_at 54 = .ok (.iload 5, 2) := by decide +kernel
theorem dX7_at_56 : decode cX7_at 56 = .ok (.invokestatic 32, 3) := by decide +kernel
theorem dX7_at_59 : decode cX7_at 59 = .ok (.istore 6, 2) := by decide +kernel
theorem dX7_at_61 : decode cX7_at 61 = .ok (.iload 6, 2) := by decide +kernel
theorem dX7_at_63 : decode cX7_at 63 = .ok (.ifCond .ne 5, 3) := by decide +kernel
theorem dX7_at_66 : decode cX7_at 66 = .ok (.iconst (-1), 1) := by decide +kernel
theorem dX7_at_67 : decode cX7_at 67 = .ok (.ireturn, 1) := by decide +kernel
theorem dX7_at_68 : decode cX7_at 68 = .ok (.aload_n 0, 1) := by decide +kernel
theorem dX7_at_69 : decode cX7_at 69 = .ok (.getfield 9, 3) := by decide +kernel
theorem dX7_at_72 : decode cX7_at 72 = .ok (.iload 4, 2) := by decide +kernel
theorem dX7_at_74 : decode cX7_at 74 = .ok (.aload_n 0, 1) := by decide +kernel
theorem dX7_at_75 : decode cX7_at 75 = .ok (.aload_n 1, 1) := by decide +kernel
theorem dX7_at_76 : decode cX7_at 76 = .ok (.iload_n 3, 1) := by decide +kernel
theorem dX7_at_77 : decode cX7_at 77 = .ok (.iload 5, 2) := by decide +kernel
theorem dX7_at_79 : decode cX7_at 79 = .ok (.invokevirtual 38, 3) := by decide +kernel
theorem dX7_at_82 : decode cX7_at 82 = .ok (.iload 6, 2) := by decide +kernel
theorem dX7_at_84 : decode cX7_at 84 = .ok (.invokestatic 42, 3) := by decide +kernel
theorem dX7_at_87 : decode cX7_at 87 = .ok (.imul, 1) := by decide +kernel
theorem dX7_at_88 : decode cX7_at 88 = .ok (.sipush 32003, 3) := by decide +kernel
theorem dX7_at_91 : decode cX7_at 91 = .ok (.irem, 1) := by decide +kernel
theorem dX7_at_92 : decode cX7_at 92 = .ok (.iastore, 1) := by decide +kernel
theorem dX7_at_93 : decode cX7_at 93 = .ok (.aload_n 0, 1) := by decide +kernel
theorem dX7_at_94 : decode cX7_at 94 = .ok (.iload 4, 2) := by decide +kernel
theorem dX7_at_96 : decode cX7_at 96 = .ok (.iconst 1, 1) := by decide +kernel
theorem dX7_at_97 : decode cX7_at 97 = .ok (.iadd, 1) := by decide +kernel
theorem dX7_at_98 : decode cX7_at 98 = .ok (.putfield 19, 3) := by decide +kernel
theorem dX7_at_101 : decode cX7_at 101 = .ok (.iinc 4 1, 3) := by decide +kernel
theorem dX7_at_104 : decode cX7_at 104 = .ok (.goto (-68), 3) := by decide +kernel
theorem dX7_at_107 : decode cX7_at 107 = .ok (.aload_n 0, 1) := by decide +kernel
theorem dX7_at_108 : decode cX7_at 108 = .ok (.getfield 9, 3) := by decide +kernel
theorem dX7_at_111 : decode cX7_at 111 = .ok (.iload_n 2, 1) := by decide +kernel
theorem dX7_at_112 : decode cX7_at 112 = .ok (.iaload, 1) := by decide +kernel
theorem dX7_at_113 : decode cX7_at 113 = .ok (.ireturn, 1) := by decide +kernel
theorem dX7_demand_0 : decode cX7_demand 0 = .ok (.aload_n 1, 1) := by decide +kernel
theorem dX7_demand_1 : decode cX7_demand 1 = .ok (.getfield 48, 3) := by decide +kernel
theorem dX7_demand_4 : decode cX7_demand 4 = .ok (.iload_n 3, 1) := by decide +kernel
theorem dX7_demand_5 : decode cX7_demand 5 = .ok (.invokestatic 32, 3) := by decide +kernel
theorem dX7_demand_8 : decode cX7_demand 8 = .ok (.istore 4, 2) := by decide +kernel
theorem dX7_demand_10 : decode cX7_demand 10 = .ok (.iconst 0, 1) := by decide +kernel
theorem dX7_demand_11 : decode cX7_demand 11 = .ok (.istore 5, 2) := by decide +kernel
theorem dX7_demand_13 : decode cX7_demand 13 = .ok (.iload 5, 2) := by decide +kernel
theorem dX7_demand_15 : decode cX7_demand 15 = .ok (.iload_n 2, 1) := by decide +kernel
theorem dX7_demand_16 : decode cX7_demand 16 = .ok (.if_icmp .ge 40, 3) := by decide +kernel
theorem dX7_demand_19 : decode cX7_demand 19 = .ok (.aload_n 1, 1) := by decide +kernel
theorem dX7_demand_20 : decode cX7_demand 20 = .ok (.getfield 28, 3) := by decide +kernel
theorem dX7_demand_23 : decode cX7_demand 23 = .ok (.iload 5, 2) := by decide +kernel
theorem dX7_demand_25 : decode cX7_demand 25 = .ok (.aaload, 1) := by decide +kernel
theorem dX7_demand_26 : decode cX7_demand 26 = .ok (.iload_n 3, 1) := by decide +kernel
theorem dX7_demand_27 : decode cX7_demand 27 = .ok (.invokestatic 32, 3) := by decide +kernel
theorem dX7_demand_30 : decode cX7_demand 30 = .ok (.istore 6, 2) := by decide +kernel
theorem dX7_demand_32 : decode cX7_demand 32 = .ok (.iload 4, 2) := by decide +kernel
theorem dX7_demand_34 : decode cX7_demand 34 = .ok (.iload 6, 2) := by decide +kernel
theorem dX7_demand_36 : decode cX7_demand 36 = .ok (.aload_n 0, 1) := by decide +kernel
theorem dX7_demand_37 : decode cX7_demand 37 = .ok (.getfield 9, 3) := by decide +kernel
theorem dX7_demand_40 : decode cX7_demand 40 = .ok (.iload_n 3, 1) := by decide +kernel
theorem dX7_demand_41 : decode cX7_demand 41 = .ok (.iload 5, 2) := by decide +kernel
theorem dX7_demand_43 : decode cX7_demand 43 = .ok (.iadd, 1) := by decide +kernel
theorem dX7_demand_44 : decode cX7_demand 44 = .ok (.iaload, 1) := by decide +kernel
theorem dX7_demand_45 : decode cX7_demand 45 = .ok (.invokestatic 51, 3) := by decide +kernel
theorem dX7_demand_48 : decode cX7_demand 48 = .ok (.istore 4, 2) := by decide +kernel
theorem dX7_demand_50 : decode cX7_demand 50 = .ok (.iinc 5 1, 3) := by decide +kernel
theorem dX7_demand_53 : decode cX7_demand 53 = .ok (.goto (-40), 3) := by decide +kernel
theorem dX7_demand_56 : decode cX7_demand 56 = .ok (.iload 4, 2) := by decide +kernel
theorem dX7_demand_58 : decode cX7_demand 58 = .ok (.ireturn, 1) := by decide +kernel
theorem dX8_init_0 : decode cX8_init 0 = .ok (.aload_n 0, 1) := by decide +kernel
theorem dX8_init_1 : decode cX8_init 1 = .ok (.invokespecial 1, 3) := by decide +kernel
theorem dX8_init_4 : decode cX8_init 4 = .ok (.aload_n 0, 1) := by decide +kernel
theorem dX8_init_5 : decode cX8_init 5 = .ok (.new 7, 3) := by decide +kernel
theorem dX8_init_8 : decode cX8_init 8 = .ok (.dup, 1) := by decide +kernel
theorem dX8_init_9 : decode cX8_init 9 = .ok (.iconst 1, 1) := by decide +kernel
theorem dX8_init_10 : decode cX8_init 10 = .ok (.iconst 4, 1) := by decide +kernel
theorem dX8_init_11 : decode cX8_init 11 = .ok (.iload_n 1, 1) := by decide +kernel
theorem dX8_init_12 : decode cX8_init 12 = .ok (.invokestatic 11, 3) := by decide +kernel
theorem dX8_init_15 : decode cX8_init 15 = .ok (.invokestatic 17, 3) := by decide +kernel
theorem dX8_init_18 : decode cX8_init 18 = .ok (.invokespecial 20, 3) := by decide +kernel
theorem dX8_init_21 : decode cX8_init 21 = .ok (.putfield 23, 3) := by decide +kernel
theorem dX8_init_24 : decode cX8_init 24 = .ok (.aload_n 0, 1) := by decide +kernel
theorem dX8_init_25 : decode cX8_init 25 = .ok (.new 27, 3) := by decide +kernel
theorem dX8_init_28 : decode cX8_init 28 = .ok (.dup, 1) := by decide +kernel
theorem dX8_init_29 : decode cX8_init 29 = .ok (.invokespecial 29, 3) := by decide +kernel
theorem dX8_init_32 : decode cX8_init 32 = .ok (.putfield 30, 3) := by decide +kernel
theorem dX8_init_35 : decode cX8_init 35 = .ok (.aload_n 0, 1) := by decide +kernel
theorem dX8_init_36 : decode cX8_init 36 = .ok (.new 34, 3) := by decide +kernel
theorem dX8_init_39 : decode cX8_init 39 = .ok (.dup, 1) := by decide +kernel
theorem dX8_init_40 : decode cX8_init 40 = .ok (.invokespecial 36, 3) := by decide +kernel
theorem dX8_init_43 : decode cX8_init 43 = .ok (.putfield 37, 3) := by decide +kernel
theorem dX8_init_46 : decode cX8_init 46 = .ok (.aload_n 0, 1) := by decide +kernel
theorem dX8_init_47 : decode cX8_init 47 = .ok (.new 41, 3) := by decide +kernel
theorem dX8_init_50 : decode cX8_init 50 = .ok (.dup, 1) := by decide +kernel
theorem dX8_init_51 : decode cX8_init 51 = .ok (.invokespecial 43, 3) := by decide +kernel
theorem dX8_init_54 : decode cX8_init 54 = .ok (.putfield 44, 3) := by decide +kernel
theorem dX8_init_57 : decode cX8_init 57 = .ok (.aload_n 0, 1) := by decide +kernel
theorem dX8_init_58 : decode cX8_init 58 = .ok (.new 48, 3) := by decide +kernel
theorem dX8_init_61 : decode cX8_init 61 = .ok (.dup, 1) := by decide +kernel
theorem dX8_init_62 : decode cX8_init 62 = .ok (.invokespecial 50, 3) := by decide +kernel
theorem dX8_init_65 : decode cX8_init 65 = .ok (.putfield 51, 3) := by decide +kernel
theorem dX8_init_68 : decode cX8_init 68 = .ok (.aload_n 0, 1) := by decide +kernel
theorem dX8_init_69 : decode cX8_init 69 = .ok (.bipush 13, 2) := by decide +kernel
theorem dX8_init_71 : decode cX8_init 71 = .ok (.newarray .int, 2) := by decide +kernel
theorem dX8_init_73 : decode cX8_init 73 = .ok (.putfield 55, 3) := by decide +kernel
theorem dX8_init_76 : decode cX8_init 76 = .ok (.return_, 1) := by decide +kernel
theorem dX8_factor_0 : decode cX8_factor 0 = .ok (.iload_n 1, 1) := by decide +kernel
theorem dX8_factor_1 : decode cX8_factor 1 = .ok (.ifCond .lt 14, 3) := by decide +kernel
theorem dX8_factor_4 : decode cX8_factor 4 = .ok (.iload_n 1, 1) := by decide +kernel
theorem dX8_factor_5 : decode cX8_factor 5 = .ok (.aload_n 0, 1) := by decide +kernel
theorem dX8_factor_6 : decode cX8_factor 6 = .ok (.getfield 23, 3) := by decide +kernel
theorem dX8_factor_9 : decode cX8_factor 9 = .ok (.getfield 59, 3) := by decide +kernel
theorem dX8_factor_12 : decode cX8_factor 12 = .ok (.if_icmp .le 13, 3) := by decide +kernel
theorem dX8_factor_15 : decode cX8_factor 15 = .ok (.new 63, 3) := by decide +kernel
theorem dX8_factor_18 : decode cX8_factor 18 = .ok (.dup, 1) := by decide +kernel
theorem dX8_factor_19 : decode cX8_factor 19 = .ok (.ldc 65, 2) := by decide +kernel
theorem dX8_factor_21 : decode cX8_factor 21 = .ok (.invokespecial 67, 3) := by decide +kernel
theorem dX8_factor_24 : decode cX8_factor 24 = .ok (.athrow, 1) := by decide +kernel
theorem dX8_factor_25 : decode cX8_factor 25 = .ok (.iload_n 2, 1) := by decide +kernel
theorem dX8_factor_26 : decode cX8_factor 26 = .ok (.ifCond .lt 9, 3) := by decide +kernel
theorem dX8_factor_29 : decode cX8_factor 29 = .ok (.iload_n 2, 1) := by decide +kernel
theorem dX8_factor_30 : decode cX8_factor 30 = .ok (.bipush 7, 2) := by decide +kernel
theorem dX8_factor_32 : decode cX8_factor 32 = .ok (.if_icmp .lt 13, 3) := by decide +kernel
theorem dX8_factor_35 : decode cX8_factor 35 = .ok (.new 70, 3) := by decide +kernel
theorem dX8_factor_38 : decode cX8_factor 38 = .ok (.dup, 1) := by decide +kernel
theorem dX8_factor_39 : decode cX8_factor 39 = .ok (.ldc 72, 2) := by decide +kernel
theorem dX8_factor_41 : decode cX8_factor 41 = .ok (.invokespecial 74, 3) := by decide +kernel
theorem dX8_factor_44 : decode cX8_factor 44 = .ok (.athrow, 1) := by decide +kernel
theorem dX8_factor_45 : decode cX8_factor 45 = .ok (.lload 5, 2) := by decide +kernel
theorem dX8_factor_47 : decode cX8_factor 47 = .ok (.invokestatic 75, 3) := by decide +kernel
theorem dX8_factor_50 : decode cX8_factor 50 = .ok (.ifCond .ne 13, 3) := by decide +kernel
theorem dX8_factor_53 : decode cX8_factor 53 = .ok (.new 81, 3) := by decide +kernel
theorem dX8_factor_56 : decode cX8_factor 56 = .ok (.dup, 1) := by decide +kernel
theorem dX8_factor_57 : decode cX8_factor 57 = .ok (.ldc 83, 2) := by decide +kernel
theorem dX8_factor_59 : decode cX8_factor 59 = .ok (.invokespecial 85, 3) := by decide +kernel
theorem dX8_factor_62 : decode cX8_factor 62 = .ok (.athrow, 1) := by decide +kernel
theorem dX8_factor_63 : decode cX8_factor 63 = .ok (.aload_n 0, 1) := by decide +kernel
theorem dX8_factor_64 : decode cX8_factor 64 = .ok (.aload_n 0, 1) := by decide +kernel
theorem dX8_factor_65 : decode cX8_factor 65 = .ok (.getfield 23, 3) := by decide +kernel
theorem dX8_factor_68 : decode cX8_factor 68 = .ok (.getfield 86, 3) := by decide +kernel
theorem dX8_factor_71 : decode cX8_factor 71 = .ok (.iload_n 1, 1) := by decide +kernel
theorem dX8_factor_72 : decode cX8_factor 72 = .ok (.aaload, 1) := by decide +kernel
theorem dX8_factor_73 : decode cX8_factor 73 = .ok (.iload_n 2, 1) := by decide +kernel
theorem dX8_factor_74 : decode cX8_factor 74 = .ok (.lload_n 3, 1) := by decide +kernel
theorem dX8_factor_75 : decode cX8_factor 75 = .ok (.lload 5, 2) := by decide +kernel
theorem dX8_factor_77 : decode cX8_factor 77 = .ok (.invokestatic 90, 3) := by decide +kernel
theorem dX8_factor_80 : decode cX8_factor 80 = .ok (.invokevirtual 94, 3) := by decide +kernel
theorem dX8_factor_83 : decode cX8_factor 83 = .ok (.ireturn, 1) := by decide +kernel
theorem dX8_right_0 : decode cX8_right 0 = .ok (.iload_n 1, 1) := by decide +kernel
theorem dX8_right_1 : decode cX8_right 1 = .ok (.ifCond .lt 9, 3) := by decide +kernel
theorem dX8_right_4 : decode cX8_right 4 = .ok (.iload_n 1, 1) := by decide +kernel
theorem dX8_right_5 : decode cX8_right 5 = .ok (.bipush 11, 2) := by decide +kernel
theorem dX8_right_7 : decode cX8_right 7 = .ok (.if_icmp .lt 13, 3) := by decide +kernel
theorem dX8_right_10 : decode cX8_right 10 = .ok (.new 70, 3) := by decide +kernel
theorem dX8_right_13 : decode cX8_right 13 = .ok (.dup, 1) := by decide +kernel
theorem dX8_right_14 : decode cX8_right 14 = .ok (.ldc 98, 2) := by decide +kernel
theorem dX8_right_16 : decode cX8_right 16 = .ok (.invokespecial 74, 3) := by decide +kernel
theorem dX8_right_19 : decode cX8_right 19 = .ok (.athrow, 1) := by decide +kernel
theorem dX8_right_20 : decode cX8_right 20 = .ok (.lload 4, 2) := by decide +kernel
theorem dX8_right_22 : decode cX8_right 22 = .ok (.invokestatic 75, 3) := by decide +kernel
theorem dX8_right_25 : decode cX8_right 25 = .ok (.ifCond .ne 13, 3) := by decide +kernel
theorem dX8_right_28 : decode cX8_right 28 = .ok (.new 81, 3) := by decide +kernel
theorem dX8_right_31 : decode cX8_right 31 = .ok (.dup, 1) := by decide +kernel
theorem dX8_right_32 : decode cX8_right 32 = .ok (.ldc 83, 2) := by decide +kernel
theorem dX8_right_34 : decode cX8_right 34 = .ok (.invokespecial 85, 3) := by decide +kernel
theorem dX8_right_37 : decode cX8_right 37 = .ok (.athrow, 1) := by decide +kernel
theorem dX8_right_38 : decode cX8_right 38 = .ok (.aload_n 0, 1) := by decide +kernel
theorem dX8_right_39 : decode cX8_right 39 = .ok (.aload_n 0, 1) := by decide +kernel
theorem dX8_right_40 : decode cX8_right 40 = .ok (.getfield 23, 3) := by decide +kernel
theorem dX8_right_43 : decode cX8_right 43 = .ok (.getfield 100, 3) := by decide +kernel
theorem dX8_right_46 : decode cX8_right 46 = .ok (.iload_n 1, 1) := by decide +kernel
theorem dX8_right_47 : decode cX8_right 47 = .ok (.lload_n 2, 1) := by decide +kernel
theorem dX8_right_48 : decode cX8_right 48 = .ok (.lload 4, 2) := by decide +kernel
theorem dX8_right_50 : decode cX8_right 50 = .ok (.invokestatic 90, 3) := by decide +kernel
theorem dX8_right_53 : decode cX8_right 53 = .ok (.invokevirtual 94, 3) := by decide +kernel
theorem dX8_right_56 : decode cX8_right 56 = .ok (.ireturn, 1) := by decide +kernel
theorem dX8_run_0 : decode cX8_run 0 = .ok (.aload_n 0, 1) := by decide +kernel
theorem dX8_run_1 : decode cX8_run 1 = .ok (.getfield 23, 3) := by decide +kernel
theorem dX8_run_4 : decode cX8_run 4 = .ok (.invokevirtual 103, 3) := by decide +kernel
theorem dX8_run_7 : decode cX8_run 7 = .ok (.ifCond .ge 5, 3) := by decide +kernel
theorem dX8_run_10 : decode cX8_run 10 = .ok (.iconst 1, 1) := by decide +kernel
theorem dX8_run_11 : decode cX8_run 11 = .ok (.ireturn, 1) := by decide +kernel
theorem dX8_run_12 : decode cX8_run 12 = .ok (.aload_n 0, 1) := by decide +kernel
theorem dX8_run_13 : decode cX8_run 13 = .ok (.getfield 37, 3) := by decide +kernel
theorem dX8_run_16 : decode cX8_run 16 = .ok (.getfield 107, 3) := by decide +kernel
theorem dX8_run_19 : decode cX8_run 19 = .ok (.ifCond .ne 18, 3) := by decide +kernel
theorem dX8_run_22 : decode cX8_run 22 = .ok (.aload_n 0, 1) := by decide +kernel
theorem dX8_run_23 : decode cX8_run 23 = .ok (.getfield 37, 3) := by decide +kernel
theorem dX8_run_26 : decode cX8_run 26 = .ok (.aload_n 0, 1) := by decide +kernel
theorem dX8_run_27 : decode cX8_run 27 = .ok (.getfield 23, 3) := by decide +kernel
theorem dX8_run_30 : decode cX8_run 30 = .ok (.aload_n 0, 1) := by decide +kernel
theorem dX8_run_31 : decode cX8_run 31 = .ok (.getfield 30, 3) := by decide +kernel
theorem dX8_run_34 : decode cX8_run 34 = .ok (.invokevirtual 111, 3) := by decide +kernel
theorem dX8_run_37 : decode cX8_run 37 = .ok (.iconst 0, 1) := by decide +kernel
theorem dX8_run_38 : decode cX8_run 38 = .ok (.ireturn, 1) := by decide +kernel
theorem dX8_polynomials_0 : decode cX8_polynomials 0 = .ok (.aload_n 0, 1) := by decide +kernel
theorem dX8_polynomials_1 : decode cX8_polynomials 1 = .ok (.invokevirtual 115, 3) := by decide +kernel
theorem dX8_polynomials_4 : decode cX8_polynomials 4 = .ok (.aload_n 0, 1) := by decide +kernel
theorem dX8_polynomials_5 : decode cX8_polynomials 5 = .ok (.getfield 37, 3) := by decide +kernel
theorem dX8_polynomials_8 : decode cX8_polynomials 8 = .ok (.getfield 118, 3) := by decide +kernel
theorem dX8_polynomials_11 : decode cX8_polynomials 11 = .ok (.getfield 122, 3) := by decide +kernel
theorem dX8_polynomials_14 : decode cX8_polynomials 14 = .ok (.ireturn, 1) := by decide +kernel
theorem dX8_answer_0 : decode cX8_answer 0 = .ok (.aload_n 0, 1) := by decide +kernel
theorem dX8_answer_1 : decode cX8_answer 1 = .ok (.invokevirtual 115, 3) := by decide +kernel
theorem dX8_answer_4 : decode cX8_answer 4 = .ok (.iload_n 2, 1) := by decide +kernel
theorem dX8_answer_5 : decode cX8_answer 5 = .ok (.invokestatic 127, 3) := by decide +kernel
theorem dX8_answer_8 : decode cX8_answer 8 = .ok (.iload_n 1, 1) := by decide +kernel
theorem dX8_answer_9 : decode cX8_answer 9 = .ok (.iconst (-1), 1) := by decide +kernel
theorem dX8_answer_10 : decode cX8_answer 10 = .ok (.if_icmp .ne 23, 3) := by decide +kernel
theorem dX8_answer_13 : decode cX8_answer 13 = .ok (.aload_n 0, 1) := by decide +kernel
theorem dX8_answer_14 : decode cX8_answer 14 = .ok (.getfield 37, 3) := by decide +kernel
theorem dX8_answer_17 : decode cX8_answer 17 = .ok (.getfield 130, 3) := by decide +kernel
theorem dX8_answer_20 : decode cX8_answer 20 = .ok (.ifCond .eq 13, 3) := by decide +kernel
theorem dX8_answer_23 : decode cX8_answer 23 = .ok (.aload_n 0, 1) := by decide +kernel
theorem dX8_answer_24 : decode cX8_answer 24 = .ok (.getfield 37, 3) := by decide +kernel
theorem dX8_answer_27 : decode cX8_answer 27 = .ok (.getfield 133, 3) := by decide +kernel
theorem dX8_answer_30 : decode cX8_answer 30 = .ok (.iload_n 2, 1) := by decide +kernel
theorem dX8_answer_31 : decode cX8_answer 31 = .ok (.iaload, 1) := by decide +kernel
theorem dX8_answer_32 : decode cX8_answer 32 = .ok (.ireturn, 1) := by decide +kernel
theorem dX8_answer_33 : decode cX8_answer 33 = .ok (.iload_n 1, 1) := by decide +kernel
theorem dX8_answer_34 : decode cX8_answer 34 = .ok (.ifCond .lt 17, 3) := by decide +kernel
theorem dX8_answer_37 : decode cX8_answer 37 = .ok (.iload_n 1, 1) := by decide +kernel
theorem dX8_answer_38 : decode cX8_answer 38 = .ok (.aload_n 0, 1) := by decide +kernel
theorem dX8_answer_39 : decode cX8_answer 39 = .ok (.getfield 37, 3) := by decide +kernel
theorem dX8_answer_42 : decode cX8_answer 42 = .ok (.getfield 118, 3) := by decide +kernel
theorem dX8_answer_45 : decode cX8_answer 45 = .ok (.getfield 122, 3) := by decide +kernel
theorem dX8_answer_48 : decode cX8_answer 48 = .ok (.if_icmp .lt 13, 3) := by decide +kernel
theorem dX8_answer_51 : decode cX8_answer 51 = .ok (.new 70, 3) := by decide +kernel
theorem dX8_answer_54 : decode cX8_answer 54 = .ok (.dup, 1) := by decide +kernel
theorem dX8_answer_55 : decode cX8_answer 55 = .ok (.ldc 136, 2) := by decide +kernel
theorem dX8_answer_57 : decode cX8_answer 57 = .ok (.invokespecial 74, 3) := by decide +kernel
theorem dX8_answer_60 : decode cX8_answer 60 = .ok (.athrow, 1) := by decide +kernel
theorem dX8_answer_61 : decode cX8_answer 61 = .ok (.aload_n 0, 1) := by decide +kernel
theorem dX8_answer_62 : decode cX8_answer 62 = .ok (.getfield 37, 3) := by decide +kernel
theorem dX8_answer_65 : decode cX8_answer 65 = .ok (.getfield 118, 3) := by decide +kernel
theorem dX8_answer_68 : decode cX8_answer 68 = .ok (.iload_n 1, 1) := by decide +kernel
theorem dX8_answer_69 : decode cX8_answer 69 = .ok (.iload_n 2, 1) := by decide +kernel
theorem dX8_answer_70 : decode cX8_answer 70 = .ok (.invokevirtual 138, 3) := by decide +kernel
theorem dX8_answer_73 : decode cX8_answer 73 = .ok (.ireturn, 1) := by decide +kernel
theorem dX8_meets_0 : decode cX8_meets 0 = .ok (.aload_n 0, 1) := by decide +kernel
theorem dX8_meets_1 : decode cX8_meets 1 = .ok (.invokevirtual 115, 3) := by decide +kernel
theorem dX8_meets_4 : decode cX8_meets 4 = .ok (.aload_n 0, 1) := by decide +kernel
theorem dX8_meets_5 : decode cX8_meets 5 = .ok (.getfield 37, 3) := by decide +kernel
theorem dX8_meets_8 : decode cX8_meets 8 = .ok (.getfield 130, 3) := by decide +kernel
theorem dX8_meets_11 : decode cX8_meets 11 = .ok (.ireturn, 1) := by decide +kernel
theorem dX8_powers_0 : decode cX8_powers 0 = .ok (.aload_n 0, 1) := by decide +kernel
theorem dX8_powers_1 : decode cX8_powers 1 = .ok (.invokevirtual 115, 3) := by decide +kernel
theorem dX8_powers_4 : decode cX8_powers 4 = .ok (.aload_n 0, 1) := by decide +kernel
theorem dX8_powers_5 : decode cX8_powers 5 = .ok (.getfield 37, 3) := by decide +kernel
theorem dX8_powers_8 : decode cX8_powers 8 = .ok (.getfield 141, 3) := by decide +kernel
theorem dX8_powers_11 : decode cX8_powers 11 = .ok (.ireturn, 1) := by decide +kernel
theorem dX8_base_0 : decode cX8_base 0 = .ok (.aload_n 0, 1) := by decide +kernel
theorem dX8_base_1 : decode cX8_base 1 = .ok (.invokevirtual 115, 3) := by decide +kernel
theorem dX8_base_4 : decode cX8_base 4 = .ok (.aload_n 0, 1) := by decide +kernel
theorem dX8_base_5 : decode cX8_base 5 = .ok (.getfield 37, 3) := by decide +kernel
theorem dX8_base_8 : decode cX8_base 8 = .ok (.iload_n 1, 1) := by decide +kernel
theorem dX8_base_9 : decode cX8_base 9 = .ok (.invokevirtual 144, 3) := by decide +kernel
theorem dX8_base_12 : decode cX8_base 12 = .ok (.ifCond .eq 15, 3) := by decide +kernel
theorem dX8_base_15 : decode cX8_base 15 = .ok (.aload_n 0, 1) := by decide +kernel
theorem dX8_base_16 : decode cX8_base 16 = .ok (.getfield 37, 3) := by decide +kernel
theorem dX8_base_19 : decode cX8_base 19 = .ok (.getfield 148, 3) := by decide +kernel
theorem dX8_base_22 : decode cX8_base 22 = .ok (.iload_n 1, 1) := by decide +kernel
theorem dX8_base_23 : decode cX8_base 23 = .ok (.iaload, 1) := by decide +kernel
theorem dX8_base_24 : decode cX8_base 24 = .ok (.goto 4, 3) := by decide +kernel
theorem dX8_base_27 : decode cX8_base 27 = .ok (.iconst (-1), 1) := by decide +kernel
theorem dX8_base_28 : decode cX8_base 28 = .ok (.ireturn, 1) := by decide +kernel
theorem dX8_many_0 : decode cX8_many 0 = .ok (.aload_n 0, 1) := by decide +kernel
theorem dX8_many_1 : decode cX8_many 1 = .ok (.invokevirtual 115, 3) := by decide +kernel
theorem dX8_many_4 : decode cX8_many 4 = .ok (.aload_n 0, 1) := by decide +kernel
theorem dX8_many_5 : decode cX8_many 5 = .ok (.getfield 37, 3) := by decide +kernel
theorem dX8_many_8 : decode cX8_many 8 = .ok (.iload_n 1, 1) := by decide +kernel
theorem dX8_many_9 : decode cX8_many 9 = .ok (.invokevirtual 144, 3) := by decide +kernel
theorem dX8_many_12 : decode cX8_many 12 = .ok (.ifCond .eq 18, 3) := by decide +kernel
theorem dX8_many_15 : decode cX8_many 15 = .ok (.aload_n 0, 1) := by decide +kernel
theorem dX8_many_16 : decode cX8_many 16 = .ok (.getfield 37, 3) := by decide +kernel
theorem dX8_many_19 : decode cX8_many 19 = .ok (.getfield 151, 3) := by decide +kernel
theorem dX8_many_22 : decode cX8_many 22 = .ok (.iload_n 1, 1) := by decide +kernel
theorem dX8_many_23 : decode cX8_many 23 = .ok (.aaload, 1) := by decide +kernel
theorem dX8_many_24 : decode cX8_many 24 = .ok (.getfield 122, 3) := by decide +kernel
theorem dX8_many_27 : decode cX8_many 27 = .ok (.goto 4, 3) := by decide +kernel
theorem dX8_many_30 : decode cX8_many 30 = .ok (.iconst (-1), 1) := by decide +kernel
theorem dX8_many_31 : decode cX8_many 31 = .ok (.ireturn, 1) := by decide +kernel
theorem dX8_times_0 : decode cX8_times 0 = .ok (.aload_n 0, 1) := by decide +kernel
theorem dX8_times_1 : decode cX8_times 1 = .ok (.invokevirtual 115, 3) := by decide +kernel
theorem dX8_times_4 : decode cX8_times 4 = .ok (.iload_n 3, 1) := by decide +kernel
theorem dX8_times_5 : decode cX8_times 5 = .ok (.invokestatic 127, 3) := by decide +kernel
theorem dX8_times_8 : decode cX8_times 8 = .ok (.aload_n 0, 1) := by decide +kernel
theorem dX8_times_9 : decode cX8_times 9 = .ok (.getfield 37, 3) := by decide +kernel
theorem dX8_times_12 : decode cX8_times 12 = .ok (.iload_n 1, 1) := by decide +kernel
theorem dX8_times_13 : decode cX8_times 13 = .ok (.invokevirtual 144, 3) := by decide +kernel
theorem dX8_times_16 : decode cX8_times 16 = .ok (.ifCond .eq 23, 3) := by decide +kernel
theorem dX8_times_19 : decode cX8_times 19 = .ok (.iload_n 2, 1) := by decide +kernel
theorem dX8_times_20 : decode cX8_times 20 = .ok (.ifCond .lt 19, 3) := by decide +kernel
theorem dX8_times_23 : decode cX8_times 23 = .ok (.iload_n 2, 1) := by decide +kernel
theorem dX8_times_24 : decode cX8_times 24 = .ok (.aload_n 0, 1) := by decide +kernel
theorem dX8_times_25 : decode cX8_times 25 = .ok (.getfield 37, 3) := by decide +kernel
theorem dX8_times_28 : decode cX8_times 28 = .ok (.getfield 151, 3) := by decide +kernel
theorem dX8_times_31 : decode cX8_times 31 = .ok (.iload_n 1, 1) := by decide +kernel
theorem dX8_times_32 : decode cX8_times 32 = .ok (.aaload, 1) := by decide +kernel
theorem dX8_times_33 : decode cX8_times 33 = .ok (.getfield 122, 3) := by decide +kernel
theorem dX8_times_36 : decode cX8_times 36 = .ok (.if_icmp .lt 13, 3) := by decide +kernel
theorem dX8_times_39 : decode cX8_times 39 = .ok (.new 70, 3) := by decide +kernel
theorem dX8_times_42 : decode cX8_times 42 = .ok (.dup, 1) := by decide +kernel
theorem dX8_times_43 : decode cX8_times 43 = .ok (.ldc 136, 2) := by decide +kernel
theorem dX8_times_45 : decode cX8_times 45 = .ok (.invokespecial 74, 3) := by decide +kernel
theorem dX8_times_48 : decode cX8_times 48 = .ok (.athrow, 1) := by decide +kernel
theorem dX8_times_49 : decode cX8_times 49 = .ok (.aload_n 0, 1) := by decide +kernel
theorem dX8_times_50 : decode cX8_times 50 = .ok (.getfield 37, 3) := by decide +kernel
theorem dX8_times_53 : decode cX8_times 53 = .ok (.getfield 151, 3) := by decide +kernel
theorem dX8_times_56 : decode cX8_times 56 = .ok (.iload_n 1, 1) := by decide +kernel
theorem dX8_times_57 : decode cX8_times 57 = .ok (.aaload, 1) := by decide +kernel
theorem dX8_times_58 : decode cX8_times 58 = .ok (.iload_n 2, 1) := by decide +kernel
theorem dX8_times_59 : decode cX8_times 59 = .ok (.iload_n 3, 1) := by decide +kernel
theorem dX8_times_60 : decode cX8_times 60 = .ok (.invokevirtual 138, 3) := by decide +kernel
theorem dX8_times_63 : decode cX8_times 63 = .ok (.ireturn, 1) := by decide +kernel
theorem dX8_start_0 : decode cX8_start 0 = .ok (.aload_n 0, 1) := by decide +kernel
theorem dX8_start_1 : decode cX8_start 1 = .ok (.getfield 44, 3) := by decide +kernel
theorem dX8_start_4 : decode cX8_start 4 = .ok (.lload_n 1, 1) := by decide +kernel
theorem dX8_start_5 : decode cX8_start 5 = .ok (.invokestatic 75, 3) := by decide +kernel
theorem dX8_start_8 : decode cX8_start 8 = .ok (.invokevirtual 155, 3) := by decide +kernel
theorem dX8_start_11 : decode cX8_start 11 = .ok (.ireturn, 1) := by decide +kernel
theorem dX8_value_0 : decode cX8_value 0 = .ok (.iload_n 1, 1) := by decide +kernel
theorem dX8_value_1 : decode cX8_value 1 = .ok (.ifCond .lt 10, 3) := by decide +kernel
theorem dX8_value_4 : decode cX8_value 4 = .ok (.iload_n 1, 1) := by decide +kernel
theorem dX8_value_5 : decode cX8_value 5 = .ok (.sipush 301, 3) := by decide +kernel
theorem dX8_value_8 : decode cX8_value 8 = .ok (.if_icmp .lt 13, 3) := by decide +kernel
theorem dX8_value_11 : decode cX8_value 11 = .ok (.new 70, 3) := by decide +kernel
theorem dX8_value_14 : decode cX8_value 14 = .ok (.dup, 1) := by decide +kernel
theorem dX8_value_15 : decode cX8_value 15 = .ok (.ldc 158, 2) := by decide +kernel
theorem dX8_value_17 : decode cX8_value 17 = .ok (.invokespecial 74, 3) := by decide +kernel
theorem dX8_value_20 : decode cX8_value 20 = .ok (.athrow, 1) := by decide +kernel
theorem dX8_value_21 : decode cX8_value 21 = .ok (.aload_n 0, 1) := by decide +kernel
theorem dX8_value_22 : decode cX8_value 22 = .ok (.getfield 44, 3) := by decide +kernel
theorem dX8_value_25 : decode cX8_value 25 = .ok (.aload_n 0, 1) := by decide +kernel
theorem dX8_value_26 : decode cX8_value 26 = .ok (.getfield 23, 3) := by decide +kernel
theorem dX8_value_29 : decode cX8_value 29 = .ok (.iload_n 1, 1) := by decide +kernel
theorem dX8_value_30 : decode cX8_value 30 = .ok (.invokevirtual 160, 3) := by decide +kernel
theorem dX8_value_33 : decode cX8_value 33 = .ok (.ireturn, 1) := by decide +kernel
theorem dX8_singular_0 : decode cX8_singular 0 = .ok (.aload_n 0, 1) := by decide +kernel
theorem dX8_singular_1 : decode cX8_singular 1 = .ok (.getfield 23, 3) := by decide +kernel
theorem dX8_singular_4 : decode cX8_singular 4 = .ok (.invokevirtual 103, 3) := by decide +kernel
theorem dX8_singular_7 : decode cX8_singular 7 = .ok (.istore_n 2, 1) := by decide +kernel
theorem dX8_singular_8 : decode cX8_singular 8 = .ok (.iload_n 2, 1) := by decide +kernel
theorem dX8_singular_9 : decode cX8_singular 9 = .ok (.ifCond .ge 5, 3) := by decide +kernel
theorem dX8_singular_12 : decode cX8_singular 12 = .ok (.iconst (-1), 1) := by decide +kernel
theorem dX8_singular_13 : decode cX8_singular 13 = .ok (.ireturn, 1) := by decide +kernel
theorem dX8_singular_14 : decode cX8_singular 14 = .ok (.aload_n 0, 1) := by decide +kernel
theorem dX8_singular_15 : decode cX8_singular 15 = .ok (.getfield 164, 3) := by decide +kernel
theorem dX8_singular_18 : decode cX8_singular 18 = .ok (.ifCond .ne 24, 3) := by decide +kernel
theorem dX8_singular_21 : decode cX8_singular 21 = .ok (.aload_n 0, 1) := by decide +kernel
theorem dX8_singular_22 : decode cX8_singular 22 = .ok (.getfield 51, 3) := by decide +kernel
theorem dX8_singular_25 : decode cX8_singular 25 = .ok (.aload_n 0, 1) := by decide +kernel
theorem dX8_singular_26 : decode cX8_singular 26 = .ok (.getfield 23, 3) := by decide +kernel
theorem dX8_singular_29 : decode cX8_singular 29 = .ok (.getfield 86, 3) := by decide +kernel
theorem dX8_singular_32 : decode cX8_singular 32 = .ok (.iload_n 2, 1) := by decide +kernel
theorem dX8_singular_33 : decode cX8_singular 33 = .ok (.aaload, 1) := by decide +kernel
theorem dX8_singular_34 : decode cX8_singular 34 = .ok (.invokevirtual 167, 3) := by decide +kernel
theorem dX8_singular_37 : decode cX8_singular 37 = .ok (.aload_n 0, 1) := by decide +kernel
theorem dX8_singular_38 : decode cX8_singular 38 = .ok (.iconst 1, 1) := by decide +kernel
theorem dX8_singular_39 : decode cX8_singular 39 = .ok (.putfield 164, 3) := by decide +kernel
theorem dX8_singular_42 : decode cX8_singular 42 = .ok (.aload_n 0, 1) := by decide +kernel
theorem dX8_singular_43 : decode cX8_singular 43 = .ok (.getfield 51, 3) := by decide +kernel
theorem dX8_singular_46 : decode cX8_singular 46 = .ok (.iload_n 1, 1) := by decide +kernel
theorem dX8_singular_47 : decode cX8_singular 47 = .ok (.invokevirtual 170, 3) := by decide +kernel
theorem dX8_singular_50 : decode cX8_singular 50 = .ok (.ireturn, 1) := by decide +kernel
theorem dX8_end_0 : decode cX8_end 0 = .ok (.iload_n 1, 1) := by decide +kernel
theorem dX8_end_1 : decode cX8_end 1 = .ok (.ifCond .eq 18, 3) := by decide +kernel
theorem dX8_end_4 : decode cX8_end 4 = .ok (.iload_n 1, 1) := by decide +kernel
theorem dX8_end_5 : decode cX8_end 5 = .ok (.iconst 1, 1) := by decide +kernel
theorem dX8_end_6 : decode cX8_end 6 = .ok (.if_icmp .eq 13, 3) := by decide +kernel
theorem dX8_end_9 : decode cX8_end 9 = .ok (.new 70, 3) := by decide +kernel
theorem dX8_end_12 : decode cX8_end 12 = .ok (.dup, 1) := by decide +kernel
theorem dX8_end_13 : decode cX8_end 13 = .ok (.ldc 173, 2) := by decide +kernel
theorem dX8_end_15 : decode cX8_end 15 = .ok (.invokespecial 74, 3) := by decide +kernel
theorem dX8_end_18 : decode cX8_end 18 = .ok (.athrow, 1) := by decide +kernel
theorem dX8_end_19 : decode cX8_end 19 = .ok (.iload_n 1, 1) := by decide +kernel
theorem dX8_end_20 : decode cX8_end 20 = .ok (.ifCond .ne 13, 3) := by decide +kernel
theorem dX8_end_23 : decode cX8_end 23 = .ok (.aload_n 0, 1) := by decide +kernel
theorem dX8_end_24 : decode cX8_end 24 = .ok (.getfield 23, 3) := by decide +kernel
theorem dX8_end_27 : decode cX8_end 27 = .ok (.invokevirtual 175, 3) := by decide +kernel
theorem dX8_end_30 : decode cX8_end 30 = .ok (.goto 10, 3) := by decide +kernel
theorem dX8_end_33 : decode cX8_end 33 = .ok (.aload_n 0, 1) := by decide +kernel
theorem dX8_end_34 : decode cX8_end 34 = .ok (.getfield 23, 3) := by decide +kernel
theorem dX8_end_37 : decode cX8_end 37 = .ok (.invokevirtual 103, 3) := by decide +kernel
theorem dX8_end_40 : decode cX8_end 40 = .ok (.ireturn, 1) := by decide +kernel
theorem dX8_rest_0 : decode cX8_rest 0 = .ok (.iload_n 1, 1) := by decide +kernel
theorem dX8_rest_1 : decode cX8_rest 1 = .ok (.ifCond .lt 9, 3) := by decide +kernel
theorem dX8_rest_4 : decode cX8_rest 4 = .ok (.iload_n 1, 1) := by decide +kernel
theorem dX8_rest_5 : decode cX8_rest 5 = .ok (.bipush 19, 2) := by decide +kernel
theorem dX8_rest_7 : decode cX8_rest 7 = .ok (.if_icmp .lt 13, 3) := by decide +kernel
theorem dX8_rest_10 : decode cX8_rest 10 = .ok (.new 70, 3) := by decide +kernel
theorem dX8_rest_13 : decode cX8_rest 13 = .ok (.dup, 1) := by decide +kernel
theorem dX8_rest_14 : decode cX8_rest 14 = .ok (.ldc 178, 2) := by decide +kernel
theorem dX8_rest_16 : decode cX8_rest 16 = .ok (.invokespecial 74, 3) := by decide +kernel
theorem dX8_rest_19 : decode cX8_rest 19 = .ok (.athrow, 1) := by decide +kernel
theorem dX8_rest_20 : decode cX8_rest 20 = .ok (.aload_n 0, 1) := by decide +kernel
theorem dX8_rest_21 : decode cX8_rest 21 = .ok (.getfield 30, 3) := by decide +kernel
theorem dX8_rest_24 : decode cX8_rest 24 = .ok (.aload_n 0, 1) := by decide +kernel
theorem dX8_rest_25 : decode cX8_rest 25 = .ok (.getfield 23, 3) := by decide +kernel
theorem dX8_rest_28 : decode cX8_rest 28 = .ok (.iconst 1, 1) := by decide +kernel
theorem dX8_rest_29 : decode cX8_rest 29 = .ok (.invokevirtual 180, 3) := by decide +kernel
theorem dX8_rest_32 : decode cX8_rest 32 = .ok (.aload_n 0, 1) := by decide +kernel
theorem dX8_rest_33 : decode cX8_rest 33 = .ok (.getfield 30, 3) := by decide +kernel
theorem dX8_rest_36 : decode cX8_rest 36 = .ok (.aload_n 0, 1) := by decide +kernel
theorem dX8_rest_37 : decode cX8_rest 37 = .ok (.getfield 55, 3) := by decide +kernel
theorem dX8_rest_40 : decode cX8_rest 40 = .ok (.iload_n 1, 1) := by decide +kernel
theorem dX8_rest_41 : decode cX8_rest 41 = .ok (.invokevirtual 184, 3) := by decide +kernel
theorem dX8_rest_44 : decode cX8_rest 44 = .ok (.ireturn, 1) := by decide +kernel
theorem dX8_put_0 : decode cX8_put 0 = .ok (.iload_n 1, 1) := by decide +kernel
theorem dX8_put_1 : decode cX8_put 1 = .ok (.invokestatic 127, 3) := by decide +kernel
theorem dX8_put_4 : decode cX8_put 4 = .ok (.iload_n 2, 1) := by decide +kernel
theorem dX8_put_5 : decode cX8_put 5 = .ok (.i2l, 1) := by decide +kernel
theorem dX8_put_6 : decode cX8_put 6 = .ok (.invokestatic 75, 3) := by decide +kernel
theorem dX8_put_9 : decode cX8_put 9 = .ok (.istore_n 3, 1) := by decide +kernel
theorem dX8_put_10 : decode cX8_put 10 = .ok (.aload_n 0, 1) := by decide +kernel
theorem dX8_put_11 : decode cX8_put 11 = .ok (.getfield 55, 3) := by decide +kernel
theorem dX8_put_14 : decode cX8_put 14 = .ok (.iload_n 1, 1) := by decide +kernel
theorem dX8_put_15 : decode cX8_put 15 = .ok (.iaload, 1) := by decide +kernel
theorem dX8_put_16 : decode cX8_put 16 = .ok (.iload_n 3, 1) := by decide +kernel
theorem dX8_put_17 : decode cX8_put 17 = .ok (.if_icmp .eq 7, 3) := by decide +kernel
theorem dX8_put_20 : decode cX8_put 20 = .ok (.iconst 1, 1) := by decide +kernel
theorem dX8_put_21 : decode cX8_put 21 = .ok (.goto 4, 3) := by decide +kernel
theorem dX8_put_24 : decode cX8_put 24 = .ok (.iconst 0, 1) := by decide +kernel
theorem dX8_put_25 : decode cX8_put 25 = .ok (.istore 4, 2) := by decide +kernel
theorem dX8_put_27 : decode cX8_put 27 = .ok (.aload_n 0, 1) := by decide +kernel
theorem dX8_put_28 : decode cX8_put 28 = .ok (.getfield 55, 3) := by decide +kernel
theorem dX8_put_31 : decode cX8_put 31 = .ok (.iload_n 1, 1) := by decide +kernel
theorem dX8_put_32 : decode cX8_put 32 = .ok (.iload_n 3, 1) := by decide +kernel
theorem dX8_put_33 : decode cX8_put 33 = .ok (.iastore, 1) := by decide +kernel
theorem dX8_put_34 : decode cX8_put 34 = .ok (.iload 4, 2) := by decide +kernel
theorem dX8_put_36 : decode cX8_put 36 = .ok (.ireturn, 1) := by decide +kernel
theorem dX8_clear_0 : decode cX8_clear 0 = .ok (.aload_n 0, 1) := by decide +kernel
theorem dX8_clear_1 : decode cX8_clear 1 = .ok (.getfield 23, 3) := by decide +kernel
theorem dX8_clear_4 : decode cX8_clear 4 = .ok (.invokevirtual 188, 3) := by decide +kernel
theorem dX8_clear_7 : decode cX8_clear 7 = .ok (.aload_n 0, 1) := by decide +kernel
theorem dX8_clear_8 : decode cX8_clear 8 = .ok (.getfield 44, 3) := by decide +kernel
theorem dX8_clear_11 : decode cX8_clear 11 = .ok (.invokevirtual 191, 3) := by decide +kernel
theorem dX8_clear_14 : decode cX8_clear 14 = .ok (.iconst 0, 1) := by decide +kernel
theorem dX8_clear_15 : decode cX8_clear 15 = .ok (.istore_n 1, 1) := by decide +kernel
theorem dX8_clear_16 : decode cX8_clear 16 = .ok (.iload_n 1, 1) := by decide +kernel
theorem dX8_clear_17 : decode cX8_clear 17 = .ok (.bipush 13, 2) := by decide +kernel
theorem dX8_clear_19 : decode cX8_clear 19 = .ok (.if_icmp .ge 16, 3) := by decide +kernel
theorem dX8_clear_22 : decode cX8_clear 22 = .ok (.aload_n 0, 1) := by decide +kernel
theorem dX8_clear_23 : decode cX8_clear 23 = .ok (.getfield 55, 3) := by decide +kernel
theorem dX8_clear_26 : decode cX8_clear 26 = .ok (.iload_n 1, 1) := by decide +kernel
theorem dX8_clear_27 : decode cX8_clear 27 = .ok (.iconst 0, 1) := by decide +kernel
theorem dX8_clear_28 : decode cX8_clear 28 = .ok (.iastore, 1) := by decide +kernel
theorem dX8_clear_29 : decode cX8_clear 29 = .ok (.iinc 1 1, 3) := by decide +kernel
theorem dX8_clear_32 : decode cX8_clear 32 = .ok (.goto (-16), 3) := by decide +kernel
theorem dX8_clear_35 : decode cX8_clear 35 = .ok (.aload_n 0, 1) := by decide +kernel
theorem dX8_clear_36 : decode cX8_clear 36 = .ok (.invokevirtual 192, 3) := by decide +kernel
theorem dX8_clear_39 : decode cX8_clear 39 = .ok (.return_, 1) := by decide +kernel
theorem dX8_change_0 : decode cX8_change 0 = .ok (.iload_n 2, 1) := by decide +kernel
theorem dX8_change_1 : decode cX8_change 1 = .ok (.ifCond .lt 16, 3) := by decide +kernel
theorem dX8_change_4 : decode cX8_change 4 = .ok (.iload_n 2, 1) := by decide +kernel
theorem dX8_change_5 : decode cX8_change 5 = .ok (.aload_n 1, 1) := by decide +kernel
theorem dX8_change_6 : decode cX8_change 6 = .ok (.arraylength, 1) := by decide +kernel
theorem dX8_change_7 : decode cX8_change 7 = .ok (.if_icmp .ge 10, 3) := by decide +kernel
theorem dX8_change_10 : decode cX8_change 10 = .ok (.aload_n 1, 1) := by decide +kernel
theorem dX8_change_11 : decode cX8_change 11 = .ok (.iload_n 2, 1) := by decide +kernel
theorem dX8_change_12 : decode cX8_change 12 = .ok (.iaload, 1) := by decide +kernel
theorem dX8_change_13 : decode cX8_change 13 = .ok (.iload_n 3, 1) := by decide +kernel
theorem dX8_change_14 : decode cX8_change 14 = .ok (.if_icmp .ne 5, 3) := by decide +kernel
theorem dX8_change_17 : decode cX8_change 17 = .ok (.iconst 0, 1) := by decide +kernel
theorem dX8_change_18 : decode cX8_change 18 = .ok (.ireturn, 1) := by decide +kernel
theorem dX8_change_19 : decode cX8_change 19 = .ok (.aload_n 1, 1) := by decide +kernel
theorem dX8_change_20 : decode cX8_change 20 = .ok (.iload_n 2, 1) := by decide +kernel
theorem dX8_change_21 : decode cX8_change 21 = .ok (.iload_n 3, 1) := by decide +kernel
theorem dX8_change_22 : decode cX8_change 22 = .ok (.iastore, 1) := by decide +kernel
theorem dX8_change_23 : decode cX8_change 23 = .ok (.aload_n 0, 1) := by decide +kernel
theorem dX8_change_24 : decode cX8_change 24 = .ok (.invokevirtual 192, 3) := by decide +kernel
theorem dX8_change_27 : decode cX8_change 27 = .ok (.iconst 1, 1) := by decide +kernel
theorem dX8_change_28 : decode cX8_change 28 = .ok (.ireturn, 1) := by decide +kernel
theorem dX8_forgetConclusions_0 : decode cX8_forgetConclusions 0 = .ok (.aload_n 0, 1) := by decide +kernel
theorem dX8_forgetConclusions_1 : decode cX8_forgetConclusions 1 = .ok (.getfield 37, 3) := by decide +kernel
theorem dX8_forgetConclusions_4 : decode cX8_forgetConclusions 4 = .ok (.iconst 0, 1) := by decide +kernel
theorem dX8_forgetConclusions_5 : decode cX8_forgetConclusions 5 = .ok (.putfield 107, 3) := by decide +kernel
theorem dX8_forgetConclusions_8 : decode cX8_forgetConclusions 8 = .ok (.aload_n 0, 1) := by decide +kernel
theorem dX8_forgetConclusions_9 : decode cX8_forgetConclusions 9 = .ok (.getfield 44, 3) := by decide +kernel
theorem dX8_forgetConclusions_12 : decode cX8_forgetConclusions 12 = .ok (.invokevirtual 195, 3) := by decide +kernel
theorem dX8_forgetConclusions_15 : decode cX8_forgetConclusions 15 = .ok (.aload_n 0, 1) := by decide +kernel
theorem dX8_forgetConclusions_16 : decode cX8_forgetConclusions 16 = .ok (.iconst 0, 1) := by decide +kernel
theorem dX8_forgetConclusions_17 : decode cX8_forgetConclusions 17 = .ok (.putfield 164, 3) := by decide +kernel
theorem dX8_forgetConclusions_20 : decode cX8_forgetConclusions 20 = .ok (.return_, 1) := by decide +kernel
theorem dX8_requireAnswers_0 : decode cX8_requireAnswers 0 = .ok (.aload_n 0, 1) := by decide +kernel
theorem dX8_requireAnswers_1 : decode cX8_requireAnswers 1 = .ok (.getfield 37, 3) := by decide +kernel
theorem dX8_requireAnswers_4 : decode cX8_requireAnswers 4 = .ok (.getfield 107, 3) := by decide +kernel
theorem dX8_requireAnswers_7 : decode cX8_requireAnswers 7 = .ok (.ifCond .ne 13, 3) := by decide +kernel
theorem dX8_requireAnswers_10 : decode cX8_requireAnswers 10 = .ok (.new 196, 3) := by decide +kernel
theorem dX8_requireAnswers_13 : decode cX8_requireAnswers 13 = .ok (.dup, 1) := by decide +kernel
theorem dX8_requireAnswers_14 : decode cX8_requireAnswers 14 = .ok (.ldc 198, 2) := by decide +kernel
theorem dX8_requireAnswers_16 : decode cX8_requireAnswers 16 = .ok (.invokespecial 200, 3) := by decide +kernel
theorem dX8_requireAnswers_19 : decode cX8_requireAnswers 19 = .ok (.athrow, 1) := by decide +kernel
theorem dX8_requireAnswers_20 : decode cX8_requireAnswers 20 = .ok (.return_, 1) := by decide +kernel
theorem dX8_requireAnswerPower_0 : decode cX8_requireAnswerPower 0 = .ok (.iload_n 0, 1) := by decide +kernel
theorem dX8_requireAnswerPower_1 : decode cX8_requireAnswerPower 1 = .ok (.ifCond .lt 9, 3) := by decide +kernel
theorem dX8_requireAnswerPower_4 : decode cX8_requireAnswerPower 4 = .ok (.iload_n 0, 1) := by decide +kernel
theorem dX8_requireAnswerPower_5 : decode cX8_requireAnswerPower 5 = .ok (.bipush 13, 2) := by decide +kernel
theorem dX8_requireAnswerPower_7 : decode cX8_requireAnswerPower 7 = .ok (.if_icmp .lt 13, 3) := by decide +kernel
theorem dX8_requireAnswerPower_10 : decode cX8_requireAnswerPower 10 = .ok (.new 70, 3) := by decide +kernel
theorem dX8_requireAnswerPower_13 : decode cX8_requireAnswerPower 13 = .ok (.dup, 1) := by decide +kernel
theorem dX8_requireAnswerPower_14 : decode cX8_requireAnswerPower 14 = .ok (.ldc 201, 2) := by decide +kernel
theorem dX8_requireAnswerPower_16 : decode cX8_requireAnswerPower 16 = .ok (.invokespecial 74, 3) := by decide +kernel
theorem dX8_requireAnswerPower_19 : decode cX8_requireAnswerPower 19 = .ok (.athrow, 1) := by decide +kernel
theorem dX8_requireAnswerPower_20 : decode cX8_requireAnswerPower 20 = .ok (.return_, 1) := by decide +kernel
theorem dX9_init_0 : decode cX9_init 0 = .ok (.aload_n 0, 1) := by decide +kernel
theorem dX9_init_1 : decode cX9_init 1 = .ok (.invokespecial 1, 3) := by decide +kernel
theorem dX9_init_4 : decode cX9_init 4 = .ok (.aload_n 0, 1) := by decide +kernel
theorem dX9_init_5 : decode cX9_init 5 = .ok (.iconst 0, 1) := by decide +kernel
theorem dX9_init_6 : decode cX9_init 6 = .ok (.putfield 7, 3) := by decide +kernel
theorem dX9_init_9 : decode cX9_init 9 = .ok (.aload_n 0, 1) := by decide +kernel
theorem dX9_init_10 : decode cX9_init 10 = .ok (.bipush 35, 2) := by decide +kernel
theorem dX9_init_12 : decode cX9_init 12 = .ok (.newarray .int, 2) := by decide +kernel
theorem dX9_init_14 : decode cX9_init 14 = .ok (.putfield 13, 3) := by decide +kernel
theorem dX9_init_17 : decode cX9_init 17 = .ok (.aload_n 0, 1) := by decide +kernel
theorem dX9_init_18 : decode cX9_init 18 = .ok (.bipush 11, 2) := by decide +kernel
theorem dX9_init_20 : decode cX9_init 20 = .ok (.newarray .int, 2) := by decide +kernel
theorem dX9_init_22 : decode cX9_init 22 = .ok (.putfield 17, 3) := by decide +kernel
theorem dX9_init_25 : decode cX9_init 25 = .ok (.aload_n 0, 1) := by decide +kernel
theorem dX9_init_26 : decode cX9_init 26 = .ok (.bipush 12, 2) := by decide +kernel
theorem dX9_init_28 : decode cX9_init 28 = .ok (.newarray .int, 2) := by decide +kernel
theorem dX9_init_30 : decode cX9_init 30 = .ok (.putfield 20, 3) := by decide +kernel
theorem dX9_init_33 : decode cX9_init 33 = .ok (.aload_n 0, 1) := by decide +kernel
theorem dX9_init_34 : decode cX9_init 34 = .ok (.iconst 0, 1) := by decide +kernel
theorem dX9_init_35 : decode cX9_init 35 = .ok (.putfield 23, 3) := by decide +kernel
theorem dX9_init_38 : decode cX9_init 38 = .ok (.aload_n 0, 1) := by decide +kernel
theorem dX9_init_39 : decode cX9_init 39 = .ok (.bipush 13, 2) := by decide +kernel
theorem dX9_init_41 : decode cX9_init 41 = .ok (.newarray .int, 2) := by decide +kernel
theorem dX9_init_43 : decode cX9_init 43 = .ok (.putfield 26, 3) := by decide +kernel
theorem dX9_init_46 : decode cX9_init 46 = .ok (.aload_n 0, 1) := by decide +kernel
theorem dX9_init_47 : decode cX9_init 47 = .ok (.sipush 320, 3) := by decide +kernel
theorem dX9_init_50 : decode cX9_init 50 = .ok (.newarray .int, 2) := by decide +kernel
theorem dX9_init_52 : decode cX9_init 52 = .ok (.putfield 29, 3) := by decide +kernel
theorem dX9_init_55 : decode cX9_init 55 = .ok (.aload_n 0, 1) := by decide +kernel
theorem dX9_init_56 : decode cX9_init 56 = .ok (.iconst 0, 1) := by decide +kernel
theorem dX9_init_57 : decode cX9_init 57 = .ok (.putfield 32, 3) := by decide +kernel
theorem dX9_init_60 : decode cX9_init 60 = .ok (.aload_n 0, 1) := by decide +kernel
theorem dX9_init_61 : decode cX9_init 61 = .ok (.iconst 0, 1) := by decide +kernel
theorem dX9_init_62 : decode cX9_init 62 = .ok (.putfield 36, 3) := by decide +kernel
theorem dX9_init_65 : decode cX9_init 65 = .ok (.aload_n 0, 1) := by decide +kernel
theorem dX9_init_66 : decode cX9_init 66 = .ok (.sipush 169, 3) := by decide +kernel
theorem dX9_init_69 : decode cX9_init 69 = .ok (.newarray .int, 2) := by decide +kernel
theorem dX9_init_71 : decode cX9_init 71 = .ok (.putfield 39, 3) := by decide +kernel
theorem dX9_init_74 : decode cX9_init 74 = .ok (.aload_n 0, 1) := by decide +kernel
theorem dX9_init_75 : decode cX9_init 75 = .ok (.iconst 0, 1) := by decide +kernel
theorem dX9_init_76 : decode cX9_init 76 = .ok (.putfield 42, 3) := by decide +kernel
theorem dX9_init_79 : decode cX9_init 79 = .ok (.aload_n 0, 1) := by decide +kernel
theorem dX9_init_80 : decode cX9_init 80 = .ok (.bipush 13, 2) := by decide +kernel
theorem dX9_init_82 : decode cX9_init 82 = .ok (.newarray .int, 2) := by decide +kernel
theorem dX9_init_84 : decode cX9_init 84 = .ok (.putfield 45, 3) := by decide +kernel
theorem dX9_init_87 : decode cX9_init 87 = .ok (.aload_n 0, 1) := by decide +kernel
theorem dX9_init_88 : decode cX9_init 88 = .ok (.iconst 0, 1) := by decide +kernel
theorem dX9_init_89 : decode cX9_init 89 = .ok (.putfield 48, 3) := by decide +kernel
theorem dX9_init_92 : decode cX9_init 92 = .ok (.aload_n 0, 1) := by decide +kernel
theorem dX9_init_93 : decode cX9_init 93 = .ok (.bipush 8, 2) := by decide +kernel
theorem dX9_init_95 : decode cX9_init 95 = .ok (.newarray .int, 2) := by decide +kernel
theorem dX9_init_97 : decode cX9_init 97 = .ok (.putfield 51, 3) := by decide +kernel
theorem dX9_init_100 : decode cX9_init 100 = .ok (.aload_n 0, 1) := by decide +kernel
theorem dX9_init_101 : decode cX9_init 101 = .ok (.bipush 8, 2) := by decide +kernel
theorem dX9_init_103 : decode cX9_init 103 = .ok (.newarray .int, 2) := by decide +kernel
theorem dX9_init_105 : decode cX9_init 105 = .ok (.putfield 54, 3) := by decide +kernel
theorem dX9_init_108 : decode cX9_init 108 = .ok (.aload_n 0, 1) := by decide +kernel
theorem dX9_init_109 : decode cX9_init 109 = .ok (.sipush 1352, 3) := by decide +kernel
theorem dX9_init_112 : decode cX9_init 112 = .ok (.newarray .int, 2) := by decide +kernel
theorem dX9_init_114 : decode cX9_init 114 = .ok (.putfield 57, 3) := by decide +kernel
theorem dX9_init_117 : decode cX9_init 117 = .ok (.aload_n 0, 1) := by decide +kernel
theorem dX9_init_118 : decode cX9_init 118 = .ok (.sipush 266, 3) := by decide +kernel
theorem dX9_init_121 : decode cX9_init 121 = .ok (.newarray .int, 2) := by decide +kernel
theorem dX9_init_123 : decode cX9_init 123 = .ok (.putfield 60, 3) := by decide +kernel
theorem dX9_init_126 : decode cX9_init 126 = .ok (.aload_n 0, 1) := by decide +kernel
theorem dX9_init_127 : decode cX9_init 127 = .ok (.bipush 19, 2) := by decide +kernel
theorem dX9_init_129 : decode cX9_init 129 = .ok (.newarray .int, 2) := by decide +kernel
theorem dX9_init_131 : decode cX9_init 131 = .ok (.putfield 63, 3) := by decide +kernel
theorem dX9_init_134 : decode cX9_init 134 = .ok (.aload_n 0, 1) := by decide +kernel
theorem dX9_init_135 : decode cX9_init 135 = .ok (.bipush 13, 2) := by decide +kernel
theorem dX9_init_137 : decode cX9_init 137 = .ok (.newarray .int, 2) := by decide +kernel
theorem dX9_init_139 : decode cX9_init 139 = .ok (.putfield 66, 3) := by decide +kernel
theorem dX9_init_142 : decode cX9_init 142 = .ok (.aload_n 0, 1) := by decide +kernel
theorem dX9_init_143 : decode cX9_init 143 = .ok (.bipush 13, 2) := by decide +kernel
theorem dX9_init_145 : decode cX9_init 145 = .ok (.newarray .int, 2) := by decide +kernel
theorem dX9_init_147 : decode cX9_init 147 = .ok (.putfield 69, 3) := by decide +kernel
theorem dX9_init_150 : decode cX9_init 150 = .ok (.aload_n 0, 1) := by decide +kernel
theorem dX9_init_151 : decode cX9_init 151 = .ok (.bipush 13, 2) := by decide +kernel
theorem dX9_init_153 : decode cX9_init 153 = .ok (.newarray .int, 2) := by decide +kernel
theorem dX9_init_155 : decode cX9_init 155 = .ok (.putfield 72, 3) := by decide +kernel
theorem dX9_init_158 : decode cX9_init 158 = .ok (.aload_n 0, 1) := by decide +kernel
theorem dX9_init_159 : decode cX9_init 159 = .ok (.iload_n 1, 1) := by decide +kernel
theorem dX9_init_160 : decode cX9_init 160 = .ok (.iconst 1, 1) := by decide +kernel
theorem dX9_init_161 : decode cX9_init 161 = .ok (.if_icmp .ge 7, 3) := by decide +kernel
theorem dX9_init_164 : decode cX9_init 164 = .ok (.iconst 1, 1) := by decide +kernel
theorem dX9_init_165 : decode cX9_init 165 = .ok (.goto 13, 3) := by decide +kernel
theorem dX9_init_168 : decode cX9_init 168 = .ok (.iload_n 1, 1) := by decide +kernel
theorem dX9_init_169 : decode cX9_init 169 = .ok (.iconst 4, 1) := by decide +kernel
theorem dX9_init_170 : decode cX9_init 170 = .ok (.if_icmp .le 7, 3) := by decide +kernel
theorem dX9_init_173 : decode cX9_init 173 = .ok (.iconst 4, 1) := by decide +kernel
theorem dX9_init_174 : decode cX9_init 174 = .ok (.goto 4, 3) := by decide +kernel
theorem dX9_init_177 : decode cX9_init 177 = .ok (.iload_n 1, 1) := by decide +kernel
theorem dX9_init_178 : decode cX9_init 178 = .ok (.putfield 75, 3) := by decide +kernel
theorem dX9_init_181 : decode cX9_init 181 = .ok (.return_, 1) := by decide +kernel
theorem dX9_power_0 : decode cX9_power 0 = .ok (.lconst 1, 1) := by decide +kernel
theorem dX9_power_1 : decode cX9_power 1 = .ok (.lstore_n 2, 1) := by decide +kernel
theorem dX9_power_2 : decode cX9_power 2 = .ok (.iconst 0, 1) := by decide +kernel
theorem dX9_power_3 : decode cX9_power 3 = .ok (.istore 4, 2) := by decide +kernel
theorem dX9_power_5 : decode cX9_power 5 = .ok (.iload 4, 2) := by decide +kernel
theorem dX9_power_7 : decode cX9_power 7 = .ok (.iload_n 1, 1) := by decide +kernel
theorem dX9_power_8 : decode cX9_power 8 = .ok (.if_icmp .ge 18, 3) := by decide +kernel
theorem dX9_power_11 : decode cX9_power 11 = .ok (.lload_n 2, 1) := by decide +kernel
theorem dX9_power_12 : decode cX9_power 12 = .ok (.iload_n 0, 1) := by decide +kernel
theorem dX9_power_13 : decode cX9_power 13 = .ok (.i2l, 1) := by decide +kernel
theorem dX9_power_14 : decode cX9_power 14 = .ok (.lmul, 1) := by decide +kernel
theorem dX9_power_15 : decode cX9_power 15 = .ok (.ldc2_w 78, 3) := by decide +kernel
theorem dX9_power_18 : decode cX9_power 18 = .ok (.lrem, 1) := by decide +kernel
theorem dX9_power_19 : decode cX9_power 19 = .ok (.lstore_n 2, 1) := by decide +kernel
theorem dX9_power_20 : decode cX9_power 20 = .ok (.iinc 4 1, 3) := by decide +kernel
theorem dX9_power_23 : decode cX9_power 23 = .ok (.goto (-18), 3) := by decide +kernel
theorem dX9_power_26 : decode cX9_power 26 = .ok (.lload_n 2, 1) := by decide +kernel
theorem dX9_power_27 : decode cX9_power 27 = .ok (.l2i, 1) := by decide +kernel
theorem dX9_power_28 : decode cX9_power 28 = .ok (.ireturn, 1) := by decide +kernel
theorem dX9_inverse_0 : decode cX9_inverse 0 = .ok (.lconst 1, 1) := by decide +kernel
theorem dX9_inverse_1 : decode cX9_inverse 1 = .ok (.lstore_n 1, 1) := by decide +kernel
theorem dX9_inverse_2 : decode cX9_inverse 2 = .ok (.iload_n 0, 1) := by decide +kernel
theorem dX9_inverse_3 : decode cX9_inverse 3 = .ok (.i2l, 1) := by decide +kernel
theorem dX9_inverse_4 : decode cX9_inverse 4 = .ok (.lstore_n 3, 1) := by decide +kernel
theorem dX9_inverse_5 : decode cX9_inverse 5 = .ok (.sipush 32001, 3) := by decide +kernel
theorem dX9_inverse_8 : decode cX9_inverse 8 = .ok (.istore 5, 2) := by decide +kernel
theorem dX9_inverse_10 : decode cX9_inverse 10 = .ok (.iload 5, 2) := by decide +kernel
theorem dX9_inverse_12 : decode cX9_inverse 12 = .ok (.ifCond .le 36, 3) := by decide +kernel
theorem dX9_inverse_15 : decode cX9_inverse 15 = .ok (.iload 5, 2) := by decide +kernel
theorem dX9_inverse_17 : decode cX9_inverse 17 = .ok (.iconst 2, 1) := by decide +kernel
theorem dX9_inverse_18 : decode cX9_inverse 18 = .ok (.irem, 1) := by decide +kernel
theorem dX9_inverse_19 : decode cX9_inverse 19 = .ok (.iconst 1, 1) := by decide +kernel
theorem dX9_inverse_20 : decode cX9_inverse 20 = .ok (.if_icmp .ne 11, 3) := by decide +kernel
theorem dX9_inverse_23 : decode cX9_inverse 23 = .ok (.lload_n 1, 1) := by decide +kernel
theorem dX9_inverse_24 : decode cX9_inverse 24 = .ok (.lload_n 3, 1) := by decide +kernel
theorem dX9_inverse_25 : decode cX9_inverse 25 = .ok (.lmul, 1) := by decide +kernel
theorem dX9_inverse_26 : decode cX9_inverse 26 = .ok (.ldc2_w 78, 3) := by decide +kernel
theorem dX9_inverse_29 : decode cX9_inverse 29 = .ok (.lrem, 1) := by decide +kernel
theorem dX9_inverse_30 : decode cX9_inverse 30 = .ok (.lstore_n 1, 1) := by decide +kernel
theorem dX9_inverse_31 : decode cX9_inverse 31 = .ok (.lload_n 3, 1) := by decide +kernel
theorem dX9_inverse_32 : decode cX9_inverse 32 = .ok (.lload_n 3, 1) := by decide +kernel
theorem dX9_inverse_33 : decode cX9_inverse 33 = .ok (.lmul, 1) := by decide +kernel
theorem dX9_inverse_34 : decode cX9_inverse 34 = .ok (.ldc2_w 78, 3) := by decide +kernel
theorem dX9_inverse_37 : decode cX9_inverse 37 = .ok (.lrem, 1) := by decide +kernel
theorem dX9_inverse_38 : decode cX9_inverse 38 = .ok (.lstore_n 3, 1) := by decide +kernel
theorem dX9_inverse_39 : decode cX9_inverse 39 = .ok (.iload 5, 2) := by decide +kernel
theorem dX9_inverse_41 : decode cX9_inverse 41 = .ok (.iconst 2, 1) := by decide +kernel
theorem dX9_inverse_42 : decode cX9_inverse 42 = .ok (.idiv, 1) := by decide +kernel
theorem dX9_inverse_43 : decode cX9_inverse 43 = .ok (.istore 5, 2) := by decide +kernel
theorem dX9_inverse_45 : decode cX9_inverse 45 = .ok (.goto (-35), 3) := by decide +kernel
theorem dX9_inverse_48 : decode cX9_inverse 48 = .ok (.lload_n 1, 1) := by decide +kernel
theorem dX9_inverse_49 : decode cX9_inverse 49 = .ok (.l2i, 1) := by decide +kernel
theorem dX9_inverse_50 : decode cX9_inverse 50 = .ok (.ireturn, 1) := by decide +kernel
theorem dX9_modulo_0 : decode cX9_modulo 0 = .ok (.lload_n 0, 1) := by decide +kernel
theorem dX9_modulo_1 : decode cX9_modulo 1 = .ok (.ldc2_w 78, 3) := by decide +kernel
theorem dX9_modulo_4 : decode cX9_modulo 4 = .ok (.lrem, 1) := by decide +kernel
theorem dX9_modulo_5 : decode cX9_modulo 5 = .ok (.lstore_n 2, 1) := by decide +kernel
theorem dX9_modulo_6 : decode cX9_modulo 6 = .ok (.lload_n 2, 1) := by decide +kernel
theorem dX9_modulo_7 : decode cX9_modulo 7 = .ok (.lconst 0, 1) := by decide +kernel
theorem dX9_modulo_8 : decode cX9_modulo 8 = .ok (.lcmp, 1) := by decide +kernel
theorem dX9_modulo_9 : decode cX9_modulo 9 = .ok (.ifCond .ge 11, 3) := by decide +kernel
theorem dX9_modulo_12 : decode cX9_modulo 12 = .ok (.lload_n 2, 1) := by decide +kernel
theorem dX9_modulo_13 : decode cX9_modulo 13 = .ok (.ldc2_w 78, 3) := by decide +kernel
theorem dX9_modulo_16 : decode cX9_modulo 16 = .ok (.ladd, 1) := by decide +kernel
theorem dX9_modulo_17 : decode cX9_modulo 17 = .ok (.goto 4, 3) := by decide +kernel
theorem dX9_modulo_20 : decode cX9_modulo 20 = .ok (.lload_n 2, 1) := by decide +kernel
theorem dX9_modulo_21 : decode cX9_modulo 21 = .ok (.l2i, 1) := by decide +kernel
theorem dX9_modulo_22 : decode cX9_modulo 22 = .ok (.ireturn, 1) := by decide +kernel
theorem dX9_at_0 : decode cX9_at 0 = .ok (.lconst 0, 1) := by decide +kernel
theorem dX9_at_1 : decode cX9_at 1 = .ok (.lstore 5, 2) := by decide +kernel
theorem dX9_at_3 : decode cX9_at 3 = .ok (.iload_n 3, 1) := by decide +kernel
theorem dX9_at_4 : decode cX9_at 4 = .ok (.iconst 1, 1) := by decide +kernel
theorem dX9_at_5 : decode cX9_at 5 = .ok (.isub, 1) := by decide +kernel
theorem dX9_at_6 : decode cX9_at 6 = .ok (.istore 7, 2) := by decide +kernel
theorem dX9_at_8 : decode cX9_at 8 = .ok (.iload 7, 2) := by decide +kernel
theorem dX9_at_10 : decode cX9_at 10 = .ok (.ifCond .lt 29, 3) := by decide +kernel
theorem dX9_at_13 : decode cX9_at 13 = .ok (.lload 5, 2) := by decide +kernel
theorem dX9_at_15 : decode cX9_at 15 = .ok (.iload 4, 2) := by decide +kernel
theorem dX9_at_17 : decode cX9_at 17 = .ok (.i2l, 1) := by decide +kernel
theorem dX9_at_18 : decode cX9_at 18 = .ok (.lmul, 1) := by decide +kernel
theorem dX9_at_19 : decode cX9_at 19 = .ok (.aload_n 1, 1) := by decide +kernel
theorem dX9_at_20 : decode cX9_at 20 = .ok (.iload_n 2, 1) := by decide +kernel
theorem dX9_at_21 : decode cX9_at 21 = .ok (.iload 7, 2) := by decide +kernel
theorem dX9_at_23 : decode cX9_at 23 = .ok (.iadd, 1) := by decide +kernel
theorem dX9_at_24 : decode cX9_at 24 = .ok (.iaload, 1) := by decide +kernel
theorem dX9_at_25 : decode cX9_at 25 = .ok (.i2l, 1) := by decide +kernel
theorem dX9_at_26 : decode cX9_at 26 = .ok (.ladd, 1) := by decide +kernel
theorem dX9_at_27 : decode cX9_at 27 = .ok (.ldc2_w 78, 3) := by decide +kernel
theorem dX9_at_30 : decode cX9_at 30 = .ok (.lrem, 1) := by decide +kernel
theorem dX9_at_31 : decode cX9_at 31 = .ok (.lstore 5, 2) := by decide +kernel
theorem dX9_at_33 : decode cX9_at 33 = .ok (.iinc 7 (-1), 3) := by decide +kernel
theorem dX9_at_36 : decode cX9_at 36 = .ok (.goto (-28), 3) := by decide +kernel
theorem dX9_at_39 : decode cX9_at 39 = .ok (.lload 5, 2) := by decide +kernel
theorem dX9_at_41 : decode cX9_at 41 = .ok (.l2i, 1) := by decide +kernel
theorem dX9_at_42 : decode cX9_at 42 = .ok (.ireturn, 1) := by decide +kernel
theorem dX9_apply_0 : decode cX9_apply 0 = .ok (.iconst 0, 1) := by decide +kernel
theorem dX9_apply_1 : decode cX9_apply 1 = .ok (.istore_n 3, 1) := by decide +kernel
theorem dX9_apply_2 : decode cX9_apply 2 = .ok (.iload_n 3, 1) := by decide +kernel
theorem dX9_apply_3 : decode cX9_apply 3 = .ok (.bipush 19, 2) := by decide +kernel
theorem dX9_apply_5 : decode cX9_apply 5 = .ok (.if_icmp .ge 16, 3) := by decide +kernel
theorem dX9_apply_8 : decode cX9_apply 8 = .ok (.aload_n 0, 1) := by decide +kernel
theorem dX9_apply_9 : decode cX9_apply 9 = .ok (.getfield 63, 3) := by decide +kernel
theorem dX9_apply_12 : decode cX9_apply 12 = .ok (.iload_n 3, 1) := by decide +kernel
theorem dX9_apply_13 : decode cX9_apply 13 = .ok (.iconst 0, 1) := by decide +kernel
theorem dX9_apply_14 : decode cX9_apply 14 = .ok (.iastore, 1) := by decide +kernel
theorem dX9_apply_15 : decode cX9_apply 15 = .ok (.iinc 3 1, 3) := by decide +kernel
theorem dX9_apply_18 : decode cX9_apply 18 = .ok (.goto (-16), 3) := by decide +kernel
theorem dX9_apply_21 : decode cX9_apply 21 = .ok (.iconst 0, 1) := by decide +kernel
theorem dX9_apply_22 : decode cX9_apply 22 = .ok (.istore_n 3, 1) := by decide +kernel
theorem dX9_apply_23 : decode cX9_apply 23 = .ok (.iload_n 3, 1) := by decide +kernel
theorem dX9_apply_24 : decode cX9_apply 24 = .ok (.aload_n 0, 1) := by decide +kernel
theorem dX9_apply_25 : decode cX9_apply 25 = .ok (.getfield 75, 3) := by decide +kernel
theorem dX9_apply_28 : decode cX9_apply 28 = .ok (.if_icmp .gt 115, 3) := by decide +kernel
theorem dX9_apply_31 : decode cX9_apply 31 = .ok (.aload_n 0, 1) := by decide +kernel
theorem dX9_apply_32 : decode cX9_apply 32 = .ok (.aload_n 1, 1) := by decide +kernel
theorem dX9_apply_33 : decode cX9_apply 33 = .ok (.iload_n 3, 1) := by decide +kernel
theorem dX9_apply_34 : decode cX9_apply 34 = .ok (.invokevirtual 80, 3) := by decide +kernel
theorem dX9_apply_37 : decode cX9_apply 37 = .ok (.iload_n 2, 1) := by decide +kernel
theorem dX9_apply_38 : decode cX9_apply 38 = .ok (.iload_n 3, 1) := by decide +kernel
theorem dX9_apply_39 : decode cX9_apply 39 = .ok (.invokestatic 84, 3) := by decide +kernel
theorem dX9_apply_42 : decode cX9_apply 42 = .ok (.i2l, 1) := by decide +kernel
theorem dX9_apply_43 : decode cX9_apply 43 = .ok (.lstore 4, 2) := by decide +kernel
theorem dX9_apply_45 : decode cX9_apply 45 = .ok (.iconst 0, 1) := by decide +kernel
theorem dX9_apply_46 : decode cX9_apply 46 = .ok (.istore 6, 2) := by decide +kernel
theorem dX9_apply_48 : decode cX9_apply 48 = .ok (.iload 6, 2) := by decide +kernel
theorem dX9_apply_50 : decode cX9_apply 50 = .ok (.bipush 7, 2) := by decide +kernel
theorem dX9_apply_52 : decode cX9_apply 52 = .ok (.if_icmp .ge 85, 3) := by decide +kernel
theorem dX9_apply_55 : decode cX9_apply 55 = .ok (.aload_n 0, 1) := by decide +kernel
theorem dX9_apply_56 : decode cX9_apply 56 = .ok (.getfield 13, 3) := by decide +kernel
theorem dX9_apply_59 : decode cX9_apply 59 = .ok (.bipush 7, 2) := by decide +kernel
theorem dX9_apply_61 : decode cX9_apply 61 = .ok (.iload_n 3, 1) := by decide +kernel
theorem dX9_apply_62 : decode cX9_apply 62 = .ok (.imul, 1) := by decide +kernel
theorem dX9_apply_63 : decode cX9_apply 63 = .ok (.iload 6, 2) := by decide +kernel
theorem dX9_apply_65 : decode cX9_apply 65 = .ok (.iadd, 1) := by decide +kernel
theorem dX9_apply_66 : decode cX9_apply 66 = .ok (.iaload, 1) := by decide +kernel
theorem dX9_apply_67 : decode cX9_apply 67 = .ok (.i2l, 1) := by decide +kernel
theorem dX9_apply_68 : decode cX9_apply 68 = .ok (.lload 4, 2) := by decide +kernel
theorem dX9_apply_70 : decode cX9_apply 70 = .ok (.lmul, 1) := by decide +kernel
theorem dX9_apply_71 : decode cX9_apply 71 = .ok (.ldc2_w 78, 3) := by decide +kernel
theorem dX9_apply_74 : decode cX9_apply 74 = .ok (.lrem, 1) := by decide +kernel
theorem dX9_apply_75 : decode cX9_apply 75 = .ok (.lstore 7, 2) := by decide +kernel
theorem dX9_apply_77 : decode cX9_apply 77 = .ok (.iconst 0, 1) := by decide +kernel
theorem dX9_apply_78 : decode cX9_apply 78 = .ok (.istore 9, 2) := by decide +kernel
theorem dX9_apply_80 : decode cX9_apply 80 = .ok (.iload 9, 2) := by decide +kernel
theorem dX9_apply_82 : decode cX9_apply 82 = .ok (.bipush 13, 2) := by decide +kernel
theorem dX9_apply_84 : decode cX9_apply 84 = .ok (.if_icmp .ge 47, 3) := by decide +kernel
theorem dX9_apply_87 : decode cX9_apply 87 = .ok (.aload_n 0, 1) := by decide +kernel
theorem dX9_apply_88 : decode cX9_apply 88 = .ok (.getfield 63, 3) := by decide +kernel
theorem dX9_apply_91 : decode cX9_apply 91 = .ok (.iload 6, 2) := by decide +kernel
theorem dX9_apply_93 : decode cX9_apply 93 = .ok (.iload 9, 2) := by decide +kernel
theorem dX9_apply_95 : decode cX9_apply 95 = .ok (.iadd, 1) := by decide +kernel
theorem dX9_apply_96 : decode cX9_apply 96 = .ok (.aload_n 0, 1) := by decide +kernel
theorem dX9_apply_97 : decode cX9_apply 97 = .ok (.getfield 63, 3) := by decide +kernel
theorem dX9_apply_100 : decode cX9_apply 100 = .ok (.iload 6, 2) := by decide +kernel
theorem dX9_apply_102 : decode cX9_apply 102 = .ok (.iload 9, 2) := by decide +kernel
theorem dX9_apply_104 : decode cX9_apply 104 = .ok (.iadd, 1) := by decide +kernel
theorem dX9_apply_105 : decode cX9_apply 105 = .ok (.iaload, 1) := by decide +kernel
theorem dX9_apply_106 : decode cX9_apply 106 = .ok (.i2l, 1) := by decide +kernel
theorem dX9_apply_107 : decode cX9_apply 107 = .ok (.lload 7, 2) := by decide +kernel
theorem dX9_apply_109 : decode cX9_apply 109 = .ok (.aload_n 0, 1) := by decide +kernel
theorem dX9_apply_110 : decode cX9_apply 110 = .ok (.getfield 66, 3) := by decide +kernel
theorem dX9_apply_113 : decode cX9_apply 113 = .ok (.iload 9, 2) := by decide +kernel
theorem dX9_apply_115 : decode cX9_apply 115 = .ok (.iaload, 1) := by decide +kernel
theorem dX9_apply_116 : decode cX9_apply 116 = .ok (.i2l, 1) := by decide +kernel
theorem dX9_apply_117 : decode cX9_apply 117 = .ok (.lmul, 1) := by decide +kernel
theorem dX9_apply_118 : decode cX9_apply 118 = .ok (.ladd, 1) := by decide +kernel
theorem dX9_apply_119 : decode cX9_apply 119 = .ok (.ldc2_w 78, 3) := by decide +kernel
theorem dX9_apply_122 : decode cX9_apply 122 = .ok (.lrem, 1) := by decide +kernel
theorem dX9_apply_123 : decode cX9_apply 123 = .ok (.l2i, 1) := by decide +kernel
theorem dX9_apply_124 : decode cX9_apply 124 = .ok (.iastore, 1) := by decide +kernel
theorem dX9_apply_125 : decode cX9_apply 125 = .ok (.iinc 9 1, 3) := by decide +kernel
theorem dX9_apply_128 : decode cX9_apply 128 = .ok (.goto (-48), 3) := by decide +kernel
theorem dX9_apply_131 : decode cX9_apply 131 = .ok (.iinc 6 1, 3) := by decide +kernel
theorem dX9_apply_134 : decode cX9_apply 134 = .ok (.goto (-86), 3) := by decide +kernel
theorem dX9_apply_137 : decode cX9_apply 137 = .ok (.iinc 3 1, 3) := by decide +kernel
theorem dX9_apply_140 : decode cX9_apply 140 = .ok (.goto (-117), 3) := by decide +kernel
theorem dX9_apply_143 : decode cX9_apply 143 = .ok (.return_, 1) := by decide +kernel
theorem dX9_shift_0 : decode cX9_shift 0 = .ok (.iconst 0, 1) := by decide +kernel
theorem dX9_shift_1 : decode cX9_shift 1 = .ok (.istore_n 3, 1) := by decide +kernel
theorem dX9_shift_2 : decode cX9_shift 2 = .ok (.iload_n 3, 1) := by decide +kernel
theorem dX9_shift_3 : decode cX9_shift 3 = .ok (.bipush 13, 2) := by decide +kernel
