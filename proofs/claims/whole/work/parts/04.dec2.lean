theorem dX9_shift_5 : decode cX9_shift 5 = .ok (.if_icmp .ge 16, 3) := by decide +kernel
theorem dX9_shift_8 : decode cX9_shift 8 = .ok (.aload_n 0, 1) := by decide +kernel
theorem dX9_shift_9 : decode cX9_shift 9 = .ok (.getfield 66, 3) := by decide +kernel
theorem dX9_shift_12 : decode cX9_shift 12 = .ok (.iload_n 3, 1) := by decide +kernel
theorem dX9_shift_13 : decode cX9_shift 13 = .ok (.iconst 0, 1) := by decide +kernel
theorem dX9_shift_14 : decode cX9_shift 14 = .ok (.iastore, 1) := by decide +kernel
theorem dX9_shift_15 : decode cX9_shift 15 = .ok (.iinc 3 1, 3) := by decide +kernel
theorem dX9_shift_18 : decode cX9_shift 18 = .ok (.goto (-16), 3) := by decide +kernel
theorem dX9_shift_21 : decode cX9_shift 21 = .ok (.bipush 12, 2) := by decide +kernel
theorem dX9_shift_23 : decode cX9_shift 23 = .ok (.istore_n 3, 1) := by decide +kernel
theorem dX9_shift_24 : decode cX9_shift 24 = .ok (.iload_n 3, 1) := by decide +kernel
theorem dX9_shift_25 : decode cX9_shift 25 = .ok (.ifCond .lt 84, 3) := by decide +kernel
theorem dX9_shift_28 : decode cX9_shift 28 = .ok (.bipush 12, 2) := by decide +kernel
theorem dX9_shift_30 : decode cX9_shift 30 = .ok (.istore 4, 2) := by decide +kernel
theorem dX9_shift_32 : decode cX9_shift 32 = .ok (.iload 4, 2) := by decide +kernel
theorem dX9_shift_34 : decode cX9_shift 34 = .ok (.ifCond .le 43, 3) := by decide +kernel
theorem dX9_shift_37 : decode cX9_shift 37 = .ok (.aload_n 0, 1) := by decide +kernel
theorem dX9_shift_38 : decode cX9_shift 38 = .ok (.getfield 66, 3) := by decide +kernel
theorem dX9_shift_41 : decode cX9_shift 41 = .ok (.iload 4, 2) := by decide +kernel
theorem dX9_shift_43 : decode cX9_shift 43 = .ok (.aload_n 0, 1) := by decide +kernel
theorem dX9_shift_44 : decode cX9_shift 44 = .ok (.getfield 66, 3) := by decide +kernel
theorem dX9_shift_47 : decode cX9_shift 47 = .ok (.iload 4, 2) := by decide +kernel
theorem dX9_shift_49 : decode cX9_shift 49 = .ok (.iconst 1, 1) := by decide +kernel
theorem dX9_shift_50 : decode cX9_shift 50 = .ok (.isub, 1) := by decide +kernel
theorem dX9_shift_51 : decode cX9_shift 51 = .ok (.iaload, 1) := by decide +kernel
theorem dX9_shift_52 : decode cX9_shift 52 = .ok (.i2l, 1) := by decide +kernel
theorem dX9_shift_53 : decode cX9_shift 53 = .ok (.iload_n 2, 1) := by decide +kernel
theorem dX9_shift_54 : decode cX9_shift 54 = .ok (.i2l, 1) := by decide +kernel
theorem dX9_shift_55 : decode cX9_shift 55 = .ok (.aload_n 0, 1) := by decide +kernel
theorem dX9_shift_56 : decode cX9_shift 56 = .ok (.getfield 66, 3) := by decide +kernel
theorem dX9_shift_59 : decode cX9_shift 59 = .ok (.iload 4, 2) := by decide +kernel
theorem dX9_shift_61 : decode cX9_shift 61 = .ok (.iaload, 1) := by decide +kernel
theorem dX9_shift_62 : decode cX9_shift 62 = .ok (.i2l, 1) := by decide +kernel
theorem dX9_shift_63 : decode cX9_shift 63 = .ok (.lmul, 1) := by decide +kernel
theorem dX9_shift_64 : decode cX9_shift 64 = .ok (.ladd, 1) := by decide +kernel
theorem dX9_shift_65 : decode cX9_shift 65 = .ok (.ldc2_w 78, 3) := by decide +kernel
theorem dX9_shift_68 : decode cX9_shift 68 = .ok (.lrem, 1) := by decide +kernel
theorem dX9_shift_69 : decode cX9_shift 69 = .ok (.l2i, 1) := by decide +kernel
theorem dX9_shift_70 : decode cX9_shift 70 = .ok (.iastore, 1) := by decide +kernel
theorem dX9_shift_71 : decode cX9_shift 71 = .ok (.iinc 4 (-1), 3) := by decide +kernel
theorem dX9_shift_74 : decode cX9_shift 74 = .ok (.goto (-42), 3) := by decide +kernel
theorem dX9_shift_77 : decode cX9_shift 77 = .ok (.aload_n 0, 1) := by decide +kernel
theorem dX9_shift_78 : decode cX9_shift 78 = .ok (.getfield 66, 3) := by decide +kernel
theorem dX9_shift_81 : decode cX9_shift 81 = .ok (.iconst 0, 1) := by decide +kernel
theorem dX9_shift_82 : decode cX9_shift 82 = .ok (.iload_n 2, 1) := by decide +kernel
theorem dX9_shift_83 : decode cX9_shift 83 = .ok (.i2l, 1) := by decide +kernel
theorem dX9_shift_84 : decode cX9_shift 84 = .ok (.aload_n 0, 1) := by decide +kernel
theorem dX9_shift_85 : decode cX9_shift 85 = .ok (.getfield 66, 3) := by decide +kernel
theorem dX9_shift_88 : decode cX9_shift 88 = .ok (.iconst 0, 1) := by decide +kernel
theorem dX9_shift_89 : decode cX9_shift 89 = .ok (.iaload, 1) := by decide +kernel
theorem dX9_shift_90 : decode cX9_shift 90 = .ok (.i2l, 1) := by decide +kernel
theorem dX9_shift_91 : decode cX9_shift 91 = .ok (.lmul, 1) := by decide +kernel
theorem dX9_shift_92 : decode cX9_shift 92 = .ok (.aload_n 1, 1) := by decide +kernel
theorem dX9_shift_93 : decode cX9_shift 93 = .ok (.iload_n 3, 1) := by decide +kernel
theorem dX9_shift_94 : decode cX9_shift 94 = .ok (.iaload, 1) := by decide +kernel
theorem dX9_shift_95 : decode cX9_shift 95 = .ok (.i2l, 1) := by decide +kernel
theorem dX9_shift_96 : decode cX9_shift 96 = .ok (.ladd, 1) := by decide +kernel
theorem dX9_shift_97 : decode cX9_shift 97 = .ok (.ldc2_w 78, 3) := by decide +kernel
theorem dX9_shift_100 : decode cX9_shift 100 = .ok (.lrem, 1) := by decide +kernel
theorem dX9_shift_101 : decode cX9_shift 101 = .ok (.l2i, 1) := by decide +kernel
theorem dX9_shift_102 : decode cX9_shift 102 = .ok (.iastore, 1) := by decide +kernel
theorem dX9_shift_103 : decode cX9_shift 103 = .ok (.iinc 3 (-1), 3) := by decide +kernel
theorem dX9_shift_106 : decode cX9_shift 106 = .ok (.goto (-82), 3) := by decide +kernel
theorem dX9_shift_109 : decode cX9_shift 109 = .ok (.return_, 1) := by decide +kernel
theorem dX9_fill_0 : decode cX9_fill 0 = .ok (.aload_n 0, 1) := by decide +kernel
theorem dX9_fill_1 : decode cX9_fill 1 = .ok (.getfield 72, 3) := by decide +kernel
theorem dX9_fill_4 : decode cX9_fill 4 = .ok (.astore_n 2, 1) := by decide +kernel
theorem dX9_fill_5 : decode cX9_fill 5 = .ok (.iconst 0, 1) := by decide +kernel
theorem dX9_fill_6 : decode cX9_fill 6 = .ok (.istore_n 3, 1) := by decide +kernel
theorem dX9_fill_7 : decode cX9_fill 7 = .ok (.iload_n 3, 1) := by decide +kernel
theorem dX9_fill_8 : decode cX9_fill 8 = .ok (.bipush 13, 2) := by decide +kernel
theorem dX9_fill_10 : decode cX9_fill 10 = .ok (.if_icmp .ge 84, 3) := by decide +kernel
theorem dX9_fill_13 : decode cX9_fill 13 = .ok (.iconst 0, 1) := by decide +kernel
theorem dX9_fill_14 : decode cX9_fill 14 = .ok (.istore 4, 2) := by decide +kernel
theorem dX9_fill_16 : decode cX9_fill 16 = .ok (.iload 4, 2) := by decide +kernel
theorem dX9_fill_18 : decode cX9_fill 18 = .ok (.bipush 13, 2) := by decide +kernel
theorem dX9_fill_20 : decode cX9_fill 20 = .ok (.if_icmp .ge 27, 3) := by decide +kernel
theorem dX9_fill_23 : decode cX9_fill 23 = .ok (.aload_n 2, 1) := by decide +kernel
theorem dX9_fill_24 : decode cX9_fill 24 = .ok (.iload 4, 2) := by decide +kernel
theorem dX9_fill_26 : decode cX9_fill 26 = .ok (.iload 4, 2) := by decide +kernel
theorem dX9_fill_28 : decode cX9_fill 28 = .ok (.bipush 12, 2) := by decide +kernel
theorem dX9_fill_30 : decode cX9_fill 30 = .ok (.iload_n 3, 1) := by decide +kernel
theorem dX9_fill_31 : decode cX9_fill 31 = .ok (.isub, 1) := by decide +kernel
theorem dX9_fill_32 : decode cX9_fill 32 = .ok (.if_icmp .ne 7, 3) := by decide +kernel
theorem dX9_fill_35 : decode cX9_fill 35 = .ok (.iconst 1, 1) := by decide +kernel
theorem dX9_fill_36 : decode cX9_fill 36 = .ok (.goto 4, 3) := by decide +kernel
theorem dX9_fill_39 : decode cX9_fill 39 = .ok (.iconst 0, 1) := by decide +kernel
theorem dX9_fill_40 : decode cX9_fill 40 = .ok (.iastore, 1) := by decide +kernel
theorem dX9_fill_41 : decode cX9_fill 41 = .ok (.iinc 4 1, 3) := by decide +kernel
theorem dX9_fill_44 : decode cX9_fill 44 = .ok (.goto (-28), 3) := by decide +kernel
theorem dX9_fill_47 : decode cX9_fill 47 = .ok (.aload_n 0, 1) := by decide +kernel
theorem dX9_fill_48 : decode cX9_fill 48 = .ok (.aload_n 2, 1) := by decide +kernel
theorem dX9_fill_49 : decode cX9_fill 49 = .ok (.iload_n 1, 1) := by decide +kernel
theorem dX9_fill_50 : decode cX9_fill 50 = .ok (.invokevirtual 88, 3) := by decide +kernel
theorem dX9_fill_53 : decode cX9_fill 53 = .ok (.iconst 0, 1) := by decide +kernel
theorem dX9_fill_54 : decode cX9_fill 54 = .ok (.istore 4, 2) := by decide +kernel
theorem dX9_fill_56 : decode cX9_fill 56 = .ok (.iload 4, 2) := by decide +kernel
theorem dX9_fill_58 : decode cX9_fill 58 = .ok (.bipush 19, 2) := by decide +kernel
theorem dX9_fill_60 : decode cX9_fill 60 = .ok (.if_icmp .ge 28, 3) := by decide +kernel
theorem dX9_fill_63 : decode cX9_fill 63 = .ok (.aload_n 0, 1) := by decide +kernel
theorem dX9_fill_64 : decode cX9_fill 64 = .ok (.getfield 60, 3) := by decide +kernel
theorem dX9_fill_67 : decode cX9_fill 67 = .ok (.bipush 14, 2) := by decide +kernel
theorem dX9_fill_69 : decode cX9_fill 69 = .ok (.iload 4, 2) := by decide +kernel
theorem dX9_fill_71 : decode cX9_fill 71 = .ok (.imul, 1) := by decide +kernel
theorem dX9_fill_72 : decode cX9_fill 72 = .ok (.iload_n 3, 1) := by decide +kernel
theorem dX9_fill_73 : decode cX9_fill 73 = .ok (.iadd, 1) := by decide +kernel
theorem dX9_fill_74 : decode cX9_fill 74 = .ok (.aload_n 0, 1) := by decide +kernel
theorem dX9_fill_75 : decode cX9_fill 75 = .ok (.getfield 63, 3) := by decide +kernel
theorem dX9_fill_78 : decode cX9_fill 78 = .ok (.iload 4, 2) := by decide +kernel
theorem dX9_fill_80 : decode cX9_fill 80 = .ok (.iaload, 1) := by decide +kernel
theorem dX9_fill_81 : decode cX9_fill 81 = .ok (.iastore, 1) := by decide +kernel
theorem dX9_fill_82 : decode cX9_fill 82 = .ok (.iinc 4 1, 3) := by decide +kernel
theorem dX9_fill_85 : decode cX9_fill 85 = .ok (.goto (-29), 3) := by decide +kernel
theorem dX9_fill_88 : decode cX9_fill 88 = .ok (.iinc 3 1, 3) := by decide +kernel
theorem dX9_fill_91 : decode cX9_fill 91 = .ok (.goto (-84), 3) := by decide +kernel
theorem dX9_fill_94 : decode cX9_fill 94 = .ok (.iconst 0, 1) := by decide +kernel
theorem dX9_fill_95 : decode cX9_fill 95 = .ok (.istore_n 3, 1) := by decide +kernel
theorem dX9_fill_96 : decode cX9_fill 96 = .ok (.iload_n 3, 1) := by decide +kernel
theorem dX9_fill_97 : decode cX9_fill 97 = .ok (.bipush 19, 2) := by decide +kernel
theorem dX9_fill_99 : decode cX9_fill 99 = .ok (.if_icmp .ge 37, 3) := by decide +kernel
theorem dX9_fill_102 : decode cX9_fill 102 = .ok (.aload_n 0, 1) := by decide +kernel
theorem dX9_fill_103 : decode cX9_fill 103 = .ok (.getfield 60, 3) := by decide +kernel
theorem dX9_fill_106 : decode cX9_fill 106 = .ok (.bipush 14, 2) := by decide +kernel
theorem dX9_fill_108 : decode cX9_fill 108 = .ok (.iload_n 3, 1) := by decide +kernel
theorem dX9_fill_109 : decode cX9_fill 109 = .ok (.imul, 1) := by decide +kernel
theorem dX9_fill_110 : decode cX9_fill 110 = .ok (.bipush 13, 2) := by decide +kernel
theorem dX9_fill_112 : decode cX9_fill 112 = .ok (.iadd, 1) := by decide +kernel
theorem dX9_fill_113 : decode cX9_fill 113 = .ok (.iload_n 3, 1) := by decide +kernel
theorem dX9_fill_114 : decode cX9_fill 114 = .ok (.bipush 11, 2) := by decide +kernel
theorem dX9_fill_116 : decode cX9_fill 116 = .ok (.if_icmp .ge 12, 3) := by decide +kernel
theorem dX9_fill_119 : decode cX9_fill 119 = .ok (.aload_n 0, 1) := by decide +kernel
theorem dX9_fill_120 : decode cX9_fill 120 = .ok (.getfield 17, 3) := by decide +kernel
theorem dX9_fill_123 : decode cX9_fill 123 = .ok (.iload_n 3, 1) := by decide +kernel
theorem dX9_fill_124 : decode cX9_fill 124 = .ok (.iaload, 1) := by decide +kernel
theorem dX9_fill_125 : decode cX9_fill 125 = .ok (.goto 4, 3) := by decide +kernel
theorem dX9_fill_128 : decode cX9_fill 128 = .ok (.iconst 0, 1) := by decide +kernel
theorem dX9_fill_129 : decode cX9_fill 129 = .ok (.iastore, 1) := by decide +kernel
theorem dX9_fill_130 : decode cX9_fill 130 = .ok (.iinc 3 1, 3) := by decide +kernel
theorem dX9_fill_133 : decode cX9_fill 133 = .ok (.goto (-37), 3) := by decide +kernel
theorem dX9_fill_136 : decode cX9_fill 136 = .ok (.return_, 1) := by decide +kernel
theorem dX9_clears_0 : decode cX9_clears 0 = .ok (.iconst 0, 1) := by decide +kernel
theorem dX9_clears_1 : decode cX9_clears 1 = .ok (.istore_n 1, 1) := by decide +kernel
theorem dX9_clears_2 : decode cX9_clears 2 = .ok (.bipush 12, 2) := by decide +kernel
theorem dX9_clears_4 : decode cX9_clears 4 = .ok (.istore_n 2, 1) := by decide +kernel
theorem dX9_clears_5 : decode cX9_clears 5 = .ok (.iload_n 2, 1) := by decide +kernel
theorem dX9_clears_6 : decode cX9_clears 6 = .ok (.ifCond .lt 320, 3) := by decide +kernel
theorem dX9_clears_9 : decode cX9_clears 9 = .ok (.iload_n 1, 1) := by decide +kernel
theorem dX9_clears_10 : decode cX9_clears 10 = .ok (.istore_n 3, 1) := by decide +kernel
theorem dX9_clears_11 : decode cX9_clears 11 = .ok (.iload_n 3, 1) := by decide +kernel
theorem dX9_clears_12 : decode cX9_clears 12 = .ok (.bipush 19, 2) := by decide +kernel
theorem dX9_clears_14 : decode cX9_clears 14 = .ok (.if_icmp .ge 23, 3) := by decide +kernel
theorem dX9_clears_17 : decode cX9_clears 17 = .ok (.aload_n 0, 1) := by decide +kernel
theorem dX9_clears_18 : decode cX9_clears 18 = .ok (.getfield 60, 3) := by decide +kernel
theorem dX9_clears_21 : decode cX9_clears 21 = .ok (.bipush 14, 2) := by decide +kernel
theorem dX9_clears_23 : decode cX9_clears 23 = .ok (.iload_n 3, 1) := by decide +kernel
theorem dX9_clears_24 : decode cX9_clears 24 = .ok (.imul, 1) := by decide +kernel
theorem dX9_clears_25 : decode cX9_clears 25 = .ok (.iload_n 2, 1) := by decide +kernel
theorem dX9_clears_26 : decode cX9_clears 26 = .ok (.iadd, 1) := by decide +kernel
theorem dX9_clears_27 : decode cX9_clears 27 = .ok (.iaload, 1) := by decide +kernel
theorem dX9_clears_28 : decode cX9_clears 28 = .ok (.ifCond .ne 9, 3) := by decide +kernel
theorem dX9_clears_31 : decode cX9_clears 31 = .ok (.iinc 3 1, 3) := by decide +kernel
theorem dX9_clears_34 : decode cX9_clears 34 = .ok (.goto (-23), 3) := by decide +kernel
theorem dX9_clears_37 : decode cX9_clears 37 = .ok (.aload_n 0, 1) := by decide +kernel
theorem dX9_clears_38 : decode cX9_clears 38 = .ok (.getfield 69, 3) := by decide +kernel
theorem dX9_clears_41 : decode cX9_clears 41 = .ok (.iload_n 2, 1) := by decide +kernel
theorem dX9_clears_42 : decode cX9_clears 42 = .ok (.iconst (-1), 1) := by decide +kernel
theorem dX9_clears_43 : decode cX9_clears 43 = .ok (.iastore, 1) := by decide +kernel
theorem dX9_clears_44 : decode cX9_clears 44 = .ok (.iload_n 3, 1) := by decide +kernel
theorem dX9_clears_45 : decode cX9_clears 45 = .ok (.bipush 19, 2) := by decide +kernel
theorem dX9_clears_47 : decode cX9_clears 47 = .ok (.if_icmp .ge 273, 3) := by decide +kernel
theorem dX9_clears_50 : decode cX9_clears 50 = .ok (.iconst 0, 1) := by decide +kernel
theorem dX9_clears_51 : decode cX9_clears 51 = .ok (.istore 4, 2) := by decide +kernel
theorem dX9_clears_53 : decode cX9_clears 53 = .ok (.iload 4, 2) := by decide +kernel
theorem dX9_clears_55 : decode cX9_clears 55 = .ok (.bipush 14, 2) := by decide +kernel
theorem dX9_clears_57 : decode cX9_clears 57 = .ok (.if_icmp .ge 61, 3) := by decide +kernel
theorem dX9_clears_60 : decode cX9_clears 60 = .ok (.aload_n 0, 1) := by decide +kernel
theorem dX9_clears_61 : decode cX9_clears 61 = .ok (.getfield 60, 3) := by decide +kernel
theorem dX9_clears_64 : decode cX9_clears 64 = .ok (.bipush 14, 2) := by decide +kernel
theorem dX9_clears_66 : decode cX9_clears 66 = .ok (.iload_n 3, 1) := by decide +kernel
theorem dX9_clears_67 : decode cX9_clears 67 = .ok (.imul, 1) := by decide +kernel
theorem dX9_clears_68 : decode cX9_clears 68 = .ok (.iload 4, 2) := by decide +kernel
theorem dX9_clears_70 : decode cX9_clears 70 = .ok (.iadd, 1) := by decide +kernel
theorem dX9_clears_71 : decode cX9_clears 71 = .ok (.iaload, 1) := by decide +kernel
theorem dX9_clears_72 : decode cX9_clears 72 = .ok (.istore 5, 2) := by decide +kernel
theorem dX9_clears_74 : decode cX9_clears 74 = .ok (.aload_n 0, 1) := by decide +kernel
theorem dX9_clears_75 : decode cX9_clears 75 = .ok (.getfield 60, 3) := by decide +kernel
theorem dX9_clears_78 : decode cX9_clears 78 = .ok (.bipush 14, 2) := by decide +kernel
theorem dX9_clears_80 : decode cX9_clears 80 = .ok (.iload_n 3, 1) := by decide +kernel
theorem dX9_clears_81 : decode cX9_clears 81 = .ok (.imul, 1) := by decide +kernel
theorem dX9_clears_82 : decode cX9_clears 82 = .ok (.iload 4, 2) := by decide +kernel
theorem dX9_clears_84 : decode cX9_clears 84 = .ok (.iadd, 1) := by decide +kernel
theorem dX9_clears_85 : decode cX9_clears 85 = .ok (.aload_n 0, 1) := by decide +kernel
theorem dX9_clears_86 : decode cX9_clears 86 = .ok (.getfield 60, 3) := by decide +kernel
theorem dX9_clears_89 : decode cX9_clears 89 = .ok (.bipush 14, 2) := by decide +kernel
theorem dX9_clears_91 : decode cX9_clears 91 = .ok (.iload_n 1, 1) := by decide +kernel
theorem dX9_clears_92 : decode cX9_clears 92 = .ok (.imul, 1) := by decide +kernel
theorem dX9_clears_93 : decode cX9_clears 93 = .ok (.iload 4, 2) := by decide +kernel
theorem dX9_clears_95 : decode cX9_clears 95 = .ok (.iadd, 1) := by decide +kernel
theorem dX9_clears_96 : decode cX9_clears 96 = .ok (.iaload, 1) := by decide +kernel
theorem dX9_clears_97 : decode cX9_clears 97 = .ok (.iastore, 1) := by decide +kernel
theorem dX9_clears_98 : decode cX9_clears 98 = .ok (.aload_n 0, 1) := by decide +kernel
theorem dX9_clears_99 : decode cX9_clears 99 = .ok (.getfield 60, 3) := by decide +kernel
theorem dX9_clears_102 : decode cX9_clears 102 = .ok (.bipush 14, 2) := by decide +kernel
theorem dX9_clears_104 : decode cX9_clears 104 = .ok (.iload_n 1, 1) := by decide +kernel
theorem dX9_clears_105 : decode cX9_clears 105 = .ok (.imul, 1) := by decide +kernel
theorem dX9_clears_106 : decode cX9_clears 106 = .ok (.iload 4, 2) := by decide +kernel
theorem dX9_clears_108 : decode cX9_clears 108 = .ok (.iadd, 1) := by decide +kernel
theorem dX9_clears_109 : decode cX9_clears 109 = .ok (.iload 5, 2) := by decide +kernel
theorem dX9_clears_111 : decode cX9_clears 111 = .ok (.iastore, 1) := by decide +kernel
theorem dX9_clears_112 : decode cX9_clears 112 = .ok (.iinc 4 1, 3) := by decide +kernel
theorem dX9_clears_115 : decode cX9_clears 115 = .ok (.goto (-62), 3) := by decide +kernel
theorem dX9_clears_118 : decode cX9_clears 118 = .ok (.aload_n 0, 1) := by decide +kernel
theorem dX9_clears_119 : decode cX9_clears 119 = .ok (.getfield 60, 3) := by decide +kernel
theorem dX9_clears_122 : decode cX9_clears 122 = .ok (.bipush 14, 2) := by decide +kernel
theorem dX9_clears_124 : decode cX9_clears 124 = .ok (.iload_n 1, 1) := by decide +kernel
theorem dX9_clears_125 : decode cX9_clears 125 = .ok (.imul, 1) := by decide +kernel
theorem dX9_clears_126 : decode cX9_clears 126 = .ok (.iload_n 2, 1) := by decide +kernel
theorem dX9_clears_127 : decode cX9_clears 127 = .ok (.iadd, 1) := by decide +kernel
theorem dX9_clears_128 : decode cX9_clears 128 = .ok (.iaload, 1) := by decide +kernel
theorem dX9_clears_129 : decode cX9_clears 129 = .ok (.invokestatic 91, 3) := by decide +kernel
theorem dX9_clears_132 : decode cX9_clears 132 = .ok (.i2l, 1) := by decide +kernel
theorem dX9_clears_133 : decode cX9_clears 133 = .ok (.lstore 4, 2) := by decide +kernel
theorem dX9_clears_135 : decode cX9_clears 135 = .ok (.iconst 0, 1) := by decide +kernel
theorem dX9_clears_136 : decode cX9_clears 136 = .ok (.istore 6, 2) := by decide +kernel
theorem dX9_clears_138 : decode cX9_clears 138 = .ok (.iload 6, 2) := by decide +kernel
theorem dX9_clears_140 : decode cX9_clears 140 = .ok (.bipush 14, 2) := by decide +kernel
theorem dX9_clears_142 : decode cX9_clears 142 = .ok (.if_icmp .ge 42, 3) := by decide +kernel
theorem dX9_clears_145 : decode cX9_clears 145 = .ok (.aload_n 0, 1) := by decide +kernel
theorem dX9_clears_146 : decode cX9_clears 146 = .ok (.getfield 60, 3) := by decide +kernel
theorem dX9_clears_149 : decode cX9_clears 149 = .ok (.bipush 14, 2) := by decide +kernel
theorem dX9_clears_151 : decode cX9_clears 151 = .ok (.iload_n 1, 1) := by decide +kernel
theorem dX9_clears_152 : decode cX9_clears 152 = .ok (.imul, 1) := by decide +kernel
theorem dX9_clears_153 : decode cX9_clears 153 = .ok (.iload 6, 2) := by decide +kernel
theorem dX9_clears_155 : decode cX9_clears 155 = .ok (.iadd, 1) := by decide +kernel
theorem dX9_clears_156 : decode cX9_clears 156 = .ok (.aload_n 0, 1) := by decide +kernel
theorem dX9_clears_157 : decode cX9_clears 157 = .ok (.getfield 60, 3) := by decide +kernel
theorem dX9_clears_160 : decode cX9_clears 160 = .ok (.bipush 14, 2) := by decide +kernel
theorem dX9_clears_162 : decode cX9_clears 162 = .ok (.iload_n 1, 1) := by decide +kernel
theorem dX9_clears_163 : decode cX9_clears 163 = .ok (.imul, 1) := by decide +kernel
theorem dX9_clears_164 : decode cX9_clears 164 = .ok (.iload 6, 2) := by decide +kernel
theorem dX9_clears_166 : decode cX9_clears 166 = .ok (.iadd, 1) := by decide +kernel
theorem dX9_clears_167 : decode cX9_clears 167 = .ok (.iaload, 1) := by decide +kernel
theorem dX9_clears_168 : decode cX9_clears 168 = .ok (.i2l, 1) := by decide +kernel
theorem dX9_clears_169 : decode cX9_clears 169 = .ok (.lload 4, 2) := by decide +kernel
theorem dX9_clears_171 : decode cX9_clears 171 = .ok (.lmul, 1) := by decide +kernel
theorem dX9_clears_172 : decode cX9_clears 172 = .ok (.ldc2_w 78, 3) := by decide +kernel
theorem dX9_clears_175 : decode cX9_clears 175 = .ok (.lrem, 1) := by decide +kernel
theorem dX9_clears_176 : decode cX9_clears 176 = .ok (.l2i, 1) := by decide +kernel
theorem dX9_clears_177 : decode cX9_clears 177 = .ok (.iastore, 1) := by decide +kernel
theorem dX9_clears_178 : decode cX9_clears 178 = .ok (.iinc 6 1, 3) := by decide +kernel
theorem dX9_clears_181 : decode cX9_clears 181 = .ok (.goto (-43), 3) := by decide +kernel
theorem dX9_clears_184 : decode cX9_clears 184 = .ok (.iconst 0, 1) := by decide +kernel
theorem dX9_clears_185 : decode cX9_clears 185 = .ok (.istore 6, 2) := by decide +kernel
theorem dX9_clears_187 : decode cX9_clears 187 = .ok (.iload 6, 2) := by decide +kernel
theorem dX9_clears_189 : decode cX9_clears 189 = .ok (.bipush 19, 2) := by decide +kernel
theorem dX9_clears_191 : decode cX9_clears 191 = .ok (.if_icmp .ge 119, 3) := by decide +kernel
theorem dX9_clears_194 : decode cX9_clears 194 = .ok (.iload 6, 2) := by decide +kernel
theorem dX9_clears_196 : decode cX9_clears 196 = .ok (.iload_n 1, 1) := by decide +kernel
theorem dX9_clears_197 : decode cX9_clears 197 = .ok (.if_icmp .ne 7, 3) := by decide +kernel
theorem dX9_clears_200 : decode cX9_clears 200 = .ok (.lconst 0, 1) := by decide +kernel
theorem dX9_clears_201 : decode cX9_clears 201 = .ok (.goto 20, 3) := by decide +kernel
theorem dX9_clears_204 : decode cX9_clears 204 = .ok (.sipush 32003, 3) := by decide +kernel
theorem dX9_clears_207 : decode cX9_clears 207 = .ok (.aload_n 0, 1) := by decide +kernel
theorem dX9_clears_208 : decode cX9_clears 208 = .ok (.getfield 60, 3) := by decide +kernel
theorem dX9_clears_211 : decode cX9_clears 211 = .ok (.bipush 14, 2) := by decide +kernel
theorem dX9_clears_213 : decode cX9_clears 213 = .ok (.iload 6, 2) := by decide +kernel
theorem dX9_clears_215 : decode cX9_clears 215 = .ok (.imul, 1) := by decide +kernel
theorem dX9_clears_216 : decode cX9_clears 216 = .ok (.iload_n 2, 1) := by decide +kernel
theorem dX9_clears_217 : decode cX9_clears 217 = .ok (.iadd, 1) := by decide +kernel
theorem dX9_clears_218 : decode cX9_clears 218 = .ok (.iaload, 1) := by decide +kernel
theorem dX9_clears_219 : decode cX9_clears 219 = .ok (.isub, 1) := by decide +kernel
theorem dX9_clears_220 : decode cX9_clears 220 = .ok (.i2l, 1) := by decide +kernel
theorem dX9_clears_221 : decode cX9_clears 221 = .ok (.lstore 7, 2) := by decide +kernel
theorem dX9_clears_223 : decode cX9_clears 223 = .ok (.iconst 0, 1) := by decide +kernel
theorem dX9_clears_224 : decode cX9_clears 224 = .ok (.istore 9, 2) := by decide +kernel
theorem dX9_clears_226 : decode cX9_clears 226 = .ok (.iload 9, 2) := by decide +kernel
theorem dX9_clears_228 : decode cX9_clears 228 = .ok (.bipush 14, 2) := by decide +kernel
theorem dX9_clears_230 : decode cX9_clears 230 = .ok (.if_icmp .ge 74, 3) := by decide +kernel
theorem dX9_clears_233 : decode cX9_clears 233 = .ok (.lload 7, 2) := by decide +kernel
theorem dX9_clears_235 : decode cX9_clears 235 = .ok (.ldc2_w 78, 3) := by decide +kernel
theorem dX9_clears_238 : decode cX9_clears 238 = .ok (.lcmp, 1) := by decide +kernel
theorem dX9_clears_239 : decode cX9_clears 239 = .ok (.ifCond .ge 65, 3) := by decide +kernel
theorem dX9_clears_242 : decode cX9_clears 242 = .ok (.lload 7, 2) := by decide +kernel
theorem dX9_clears_244 : decode cX9_clears 244 = .ok (.lconst 0, 1) := by decide +kernel
theorem dX9_clears_245 : decode cX9_clears 245 = .ok (.lcmp, 1) := by decide +kernel
theorem dX9_clears_246 : decode cX9_clears 246 = .ok (.ifCond .le 58, 3) := by decide +kernel
theorem dX9_clears_249 : decode cX9_clears 249 = .ok (.aload_n 0, 1) := by decide +kernel
theorem dX9_clears_250 : decode cX9_clears 250 = .ok (.getfield 60, 3) := by decide +kernel
theorem dX9_clears_253 : decode cX9_clears 253 = .ok (.bipush 14, 2) := by decide +kernel
theorem dX9_clears_255 : decode cX9_clears 255 = .ok (.iload 6, 2) := by decide +kernel
theorem dX9_clears_257 : decode cX9_clears 257 = .ok (.imul, 1) := by decide +kernel
theorem dX9_clears_258 : decode cX9_clears 258 = .ok (.iload 9, 2) := by decide +kernel
theorem dX9_clears_260 : decode cX9_clears 260 = .ok (.iadd, 1) := by decide +kernel
theorem dX9_clears_261 : decode cX9_clears 261 = .ok (.aload_n 0, 1) := by decide +kernel
theorem dX9_clears_262 : decode cX9_clears 262 = .ok (.getfield 60, 3) := by decide +kernel
theorem dX9_clears_265 : decode cX9_clears 265 = .ok (.bipush 14, 2) := by decide +kernel
theorem dX9_clears_267 : decode cX9_clears 267 = .ok (.iload 6, 2) := by decide +kernel
theorem dX9_clears_269 : decode cX9_clears 269 = .ok (.imul, 1) := by decide +kernel
theorem dX9_clears_270 : decode cX9_clears 270 = .ok (.iload 9, 2) := by decide +kernel
theorem dX9_clears_272 : decode cX9_clears 272 = .ok (.iadd, 1) := by decide +kernel
theorem dX9_clears_273 : decode cX9_clears 273 = .ok (.iaload, 1) := by decide +kernel
theorem dX9_clears_274 : decode cX9_clears 274 = .ok (.i2l, 1) := by decide +kernel
theorem dX9_clears_275 : decode cX9_clears 275 = .ok (.lload 7, 2) := by decide +kernel
theorem dX9_clears_277 : decode cX9_clears 277 = .ok (.aload_n 0, 1) := by decide +kernel
theorem dX9_clears_278 : decode cX9_clears 278 = .ok (.getfield 60, 3) := by decide +kernel
theorem dX9_clears_281 : decode cX9_clears 281 = .ok (.bipush 14, 2) := by decide +kernel
theorem dX9_clears_283 : decode cX9_clears 283 = .ok (.iload_n 1, 1) := by decide +kernel
theorem dX9_clears_284 : decode cX9_clears 284 = .ok (.imul, 1) := by decide +kernel
theorem dX9_clears_285 : decode cX9_clears 285 = .ok (.iload 9, 2) := by decide +kernel
theorem dX9_clears_287 : decode cX9_clears 287 = .ok (.iadd, 1) := by decide +kernel
theorem dX9_clears_288 : decode cX9_clears 288 = .ok (.iaload, 1) := by decide +kernel
theorem dX9_clears_289 : decode cX9_clears 289 = .ok (.i2l, 1) := by decide +kernel
theorem dX9_clears_290 : decode cX9_clears 290 = .ok (.lmul, 1) := by decide +kernel
theorem dX9_clears_291 : decode cX9_clears 291 = .ok (.ladd, 1) := by decide +kernel
theorem dX9_clears_292 : decode cX9_clears 292 = .ok (.ldc2_w 78, 3) := by decide +kernel
theorem dX9_clears_295 : decode cX9_clears 295 = .ok (.lrem, 1) := by decide +kernel
theorem dX9_clears_296 : decode cX9_clears 296 = .ok (.l2i, 1) := by decide +kernel
theorem dX9_clears_297 : decode cX9_clears 297 = .ok (.iastore, 1) := by decide +kernel
theorem dX9_clears_298 : decode cX9_clears 298 = .ok (.iinc 9 1, 3) := by decide +kernel
theorem dX9_clears_301 : decode cX9_clears 301 = .ok (.goto (-75), 3) := by decide +kernel
theorem dX9_clears_304 : decode cX9_clears 304 = .ok (.iinc 6 1, 3) := by decide +kernel
theorem dX9_clears_307 : decode cX9_clears 307 = .ok (.goto (-120), 3) := by decide +kernel
theorem dX9_clears_310 : decode cX9_clears 310 = .ok (.aload_n 0, 1) := by decide +kernel
theorem dX9_clears_311 : decode cX9_clears 311 = .ok (.getfield 69, 3) := by decide +kernel
theorem dX9_clears_314 : decode cX9_clears 314 = .ok (.iload_n 2, 1) := by decide +kernel
theorem dX9_clears_315 : decode cX9_clears 315 = .ok (.iload_n 1, 1) := by decide +kernel
theorem dX9_clears_316 : decode cX9_clears 316 = .ok (.iastore, 1) := by decide +kernel
theorem dX9_clears_317 : decode cX9_clears 317 = .ok (.iinc 1 1, 3) := by decide +kernel
theorem dX9_clears_320 : decode cX9_clears 320 = .ok (.iinc 2 (-1), 3) := by decide +kernel
theorem dX9_clears_323 : decode cX9_clears 323 = .ok (.goto (-318), 3) := by decide +kernel
theorem dX9_clears_326 : decode cX9_clears 326 = .ok (.iload_n 1, 1) := by decide +kernel
theorem dX9_clears_327 : decode cX9_clears 327 = .ok (.ireturn, 1) := by decide +kernel
theorem dX9_answers_0 : decode cX9_answers 0 = .ok (.iconst 0, 1) := by decide +kernel
theorem dX9_answers_1 : decode cX9_answers 1 = .ok (.istore_n 3, 1) := by decide +kernel
theorem dX9_answers_2 : decode cX9_answers 2 = .ok (.bipush 12, 2) := by decide +kernel
theorem dX9_answers_4 : decode cX9_answers 4 = .ok (.istore 4, 2) := by decide +kernel
theorem dX9_answers_6 : decode cX9_answers 6 = .ok (.iload 4, 2) := by decide +kernel
theorem dX9_answers_8 : decode cX9_answers 8 = .ok (.ifCond .lt 107, 3) := by decide +kernel
theorem dX9_answers_11 : decode cX9_answers 11 = .ok (.aload_n 0, 1) := by decide +kernel
theorem dX9_answers_12 : decode cX9_answers 12 = .ok (.getfield 69, 3) := by decide +kernel
theorem dX9_answers_15 : decode cX9_answers 15 = .ok (.iload 4, 2) := by decide +kernel
theorem dX9_answers_17 : decode cX9_answers 17 = .ok (.iaload, 1) := by decide +kernel
theorem dX9_answers_18 : decode cX9_answers 18 = .ok (.ifCond .ge 91, 3) := by decide +kernel
theorem dX9_answers_21 : decode cX9_answers 21 = .ok (.iconst 0, 1) := by decide +kernel
theorem dX9_answers_22 : decode cX9_answers 22 = .ok (.istore 5, 2) := by decide +kernel
theorem dX9_answers_24 : decode cX9_answers 24 = .ok (.iload 5, 2) := by decide +kernel
theorem dX9_answers_26 : decode cX9_answers 26 = .ok (.bipush 13, 2) := by decide +kernel
theorem dX9_answers_28 : decode cX9_answers 28 = .ok (.if_icmp .ge 78, 3) := by decide +kernel
theorem dX9_answers_31 : decode cX9_answers 31 = .ok (.bipush 12, 2) := by decide +kernel
theorem dX9_answers_33 : decode cX9_answers 33 = .ok (.iload 5, 2) := by decide +kernel
theorem dX9_answers_35 : decode cX9_answers 35 = .ok (.isub, 1) := by decide +kernel
theorem dX9_answers_36 : decode cX9_answers 36 = .ok (.istore 6, 2) := by decide +kernel
theorem dX9_answers_38 : decode cX9_answers 38 = .ok (.aload_n 1, 1) := by decide +kernel
theorem dX9_answers_39 : decode cX9_answers 39 = .ok (.iload_n 2, 1) := by decide +kernel
theorem dX9_answers_40 : decode cX9_answers 40 = .ok (.bipush 13, 2) := by decide +kernel
theorem dX9_answers_42 : decode cX9_answers 42 = .ok (.iload_n 3, 1) := by decide +kernel
theorem dX9_answers_43 : decode cX9_answers 43 = .ok (.imul, 1) := by decide +kernel
theorem dX9_answers_44 : decode cX9_answers 44 = .ok (.iadd, 1) := by decide +kernel
theorem dX9_answers_45 : decode cX9_answers 45 = .ok (.iload 5, 2) := by decide +kernel
theorem dX9_answers_47 : decode cX9_answers 47 = .ok (.iadd, 1) := by decide +kernel
theorem dX9_answers_48 : decode cX9_answers 48 = .ok (.iload 6, 2) := by decide +kernel
theorem dX9_answers_50 : decode cX9_answers 50 = .ok (.iload 4, 2) := by decide +kernel
theorem dX9_answers_52 : decode cX9_answers 52 = .ok (.if_icmp .ne 7, 3) := by decide +kernel
theorem dX9_answers_55 : decode cX9_answers 55 = .ok (.iconst 1, 1) := by decide +kernel
theorem dX9_answers_56 : decode cX9_answers 56 = .ok (.goto 43, 3) := by decide +kernel
theorem dX9_answers_59 : decode cX9_answers 59 = .ok (.aload_n 0, 1) := by decide +kernel
theorem dX9_answers_60 : decode cX9_answers 60 = .ok (.getfield 69, 3) := by decide +kernel
theorem dX9_answers_63 : decode cX9_answers 63 = .ok (.iload 6, 2) := by decide +kernel
theorem dX9_answers_65 : decode cX9_answers 65 = .ok (.iaload, 1) := by decide +kernel
theorem dX9_answers_66 : decode cX9_answers 66 = .ok (.ifCond .ge 7, 3) := by decide +kernel
theorem dX9_answers_69 : decode cX9_answers 69 = .ok (.iconst 0, 1) := by decide +kernel
theorem dX9_answers_70 : decode cX9_answers 70 = .ok (.goto 29, 3) := by decide +kernel
theorem dX9_answers_73 : decode cX9_answers 73 = .ok (.sipush 32003, 3) := by decide +kernel
theorem dX9_answers_76 : decode cX9_answers 76 = .ok (.aload_n 0, 1) := by decide +kernel
theorem dX9_answers_77 : decode cX9_answers 77 = .ok (.getfield 60, 3) := by decide +kernel
theorem dX9_answers_80 : decode cX9_answers 80 = .ok (.bipush 14, 2) := by decide +kernel
theorem dX9_answers_82 : decode cX9_answers 82 = .ok (.aload_n 0, 1) := by decide +kernel
theorem dX9_answers_83 : decode cX9_answers 83 = .ok (.getfield 69, 3) := by decide +kernel
theorem dX9_answers_86 : decode cX9_answers 86 = .ok (.iload 6, 2) := by decide +kernel
theorem dX9_answers_88 : decode cX9_answers 88 = .ok (.iaload, 1) := by decide +kernel
theorem dX9_answers_89 : decode cX9_answers 89 = .ok (.imul, 1) := by decide +kernel
theorem dX9_answers_90 : decode cX9_answers 90 = .ok (.iload 4, 2) := by decide +kernel
theorem dX9_answers_92 : decode cX9_answers 92 = .ok (.iadd, 1) := by decide +kernel
theorem dX9_answers_93 : decode cX9_answers 93 = .ok (.iaload, 1) := by decide +kernel
theorem dX9_answers_94 : decode cX9_answers 94 = .ok (.isub, 1) := by decide +kernel
theorem dX9_answers_95 : decode cX9_answers 95 = .ok (.sipush 32003, 3) := by decide +kernel
theorem dX9_answers_98 : decode cX9_answers 98 = .ok (.irem, 1) := by decide +kernel
theorem dX9_answers_99 : decode cX9_answers 99 = .ok (.iastore, 1) := by decide +kernel
theorem dX9_answers_100 : decode cX9_answers 100 = .ok (.iinc 5 1, 3) := by decide +kernel
theorem dX9_answers_103 : decode cX9_answers 103 = .ok (.goto (-79), 3) := by decide +kernel
theorem dX9_answers_106 : decode cX9_answers 106 = .ok (.iinc 3 1, 3) := by decide +kernel
theorem dX9_answers_109 : decode cX9_answers 109 = .ok (.iinc 4 (-1), 3) := by decide +kernel
theorem dX9_answers_112 : decode cX9_answers 112 = .ok (.goto (-106), 3) := by decide +kernel
theorem dX9_answers_115 : decode cX9_answers 115 = .ok (.iload_n 3, 1) := by decide +kernel
theorem dX9_answers_116 : decode cX9_answers 116 = .ok (.ireturn, 1) := by decide +kernel
theorem dX9_greatest_0 : decode cX9_greatest 0 = .ok (.aload_n 0, 1) := by decide +kernel
theorem dX9_greatest_1 : decode cX9_greatest 1 = .ok (.getfield 75, 3) := by decide +kernel
theorem dX9_greatest_4 : decode cX9_greatest 4 = .ok (.istore_n 1, 1) := by decide +kernel
theorem dX9_greatest_5 : decode cX9_greatest 5 = .ok (.iload_n 1, 1) := by decide +kernel
theorem dX9_greatest_6 : decode cX9_greatest 6 = .ok (.ifCond .lt 39, 3) := by decide +kernel
theorem dX9_greatest_9 : decode cX9_greatest 9 = .ok (.iconst 0, 1) := by decide +kernel
theorem dX9_greatest_10 : decode cX9_greatest 10 = .ok (.istore_n 2, 1) := by decide +kernel
theorem dX9_greatest_11 : decode cX9_greatest 11 = .ok (.iload_n 2, 1) := by decide +kernel
theorem dX9_greatest_12 : decode cX9_greatest 12 = .ok (.bipush 7, 2) := by decide +kernel
theorem dX9_greatest_14 : decode cX9_greatest 14 = .ok (.if_icmp .ge 25, 3) := by decide +kernel
theorem dX9_greatest_17 : decode cX9_greatest 17 = .ok (.aload_n 0, 1) := by decide +kernel
theorem dX9_greatest_18 : decode cX9_greatest 18 = .ok (.getfield 13, 3) := by decide +kernel
theorem dX9_greatest_21 : decode cX9_greatest 21 = .ok (.bipush 7, 2) := by decide +kernel
theorem dX9_greatest_23 : decode cX9_greatest 23 = .ok (.iload_n 1, 1) := by decide +kernel
theorem dX9_greatest_24 : decode cX9_greatest 24 = .ok (.imul, 1) := by decide +kernel
theorem dX9_greatest_25 : decode cX9_greatest 25 = .ok (.iload_n 2, 1) := by decide +kernel
theorem dX9_greatest_26 : decode cX9_greatest 26 = .ok (.iadd, 1) := by decide +kernel
theorem dX9_greatest_27 : decode cX9_greatest 27 = .ok (.iaload, 1) := by decide +kernel
theorem dX9_greatest_28 : decode cX9_greatest 28 = .ok (.ifCond .eq 5, 3) := by decide +kernel
theorem dX9_greatest_31 : decode cX9_greatest 31 = .ok (.iload_n 1, 1) := by decide +kernel
theorem dX9_greatest_32 : decode cX9_greatest 32 = .ok (.ireturn, 1) := by decide +kernel
theorem dX9_greatest_33 : decode cX9_greatest 33 = .ok (.iinc 2 1, 3) := by decide +kernel
theorem dX9_greatest_36 : decode cX9_greatest 36 = .ok (.goto (-25), 3) := by decide +kernel
theorem dX9_greatest_39 : decode cX9_greatest 39 = .ok (.iinc 1 (-1), 3) := by decide +kernel
theorem dX9_greatest_42 : decode cX9_greatest 42 = .ok (.goto (-37), 3) := by decide +kernel
theorem dX9_greatest_45 : decode cX9_greatest 45 = .ok (.iconst (-1), 1) := by decide +kernel
theorem dX9_greatest_46 : decode cX9_greatest 46 = .ok (.ireturn, 1) := by decide +kernel
theorem dX9_highest_0 : decode cX9_highest 0 = .ok (.bipush 6, 2) := by decide +kernel
theorem dX9_highest_2 : decode cX9_highest 2 = .ok (.istore_n 1, 1) := by decide +kernel
theorem dX9_highest_3 : decode cX9_highest 3 = .ok (.iload_n 1, 1) := by decide +kernel
theorem dX9_highest_4 : decode cX9_highest 4 = .ok (.ifCond .le 41, 3) := by decide +kernel
theorem dX9_highest_7 : decode cX9_highest 7 = .ok (.iconst 0, 1) := by decide +kernel
theorem dX9_highest_8 : decode cX9_highest 8 = .ok (.istore_n 2, 1) := by decide +kernel
theorem dX9_highest_9 : decode cX9_highest 9 = .ok (.iload_n 2, 1) := by decide +kernel
theorem dX9_highest_10 : decode cX9_highest 10 = .ok (.aload_n 0, 1) := by decide +kernel
theorem dX9_highest_11 : decode cX9_highest 11 = .ok (.getfield 75, 3) := by decide +kernel
theorem dX9_highest_14 : decode cX9_highest 14 = .ok (.if_icmp .gt 25, 3) := by decide +kernel
theorem dX9_highest_17 : decode cX9_highest 17 = .ok (.aload_n 0, 1) := by decide +kernel
theorem dX9_highest_18 : decode cX9_highest 18 = .ok (.getfield 13, 3) := by decide +kernel
theorem dX9_highest_21 : decode cX9_highest 21 = .ok (.bipush 7, 2) := by decide +kernel
theorem dX9_highest_23 : decode cX9_highest 23 = .ok (.iload_n 2, 1) := by decide +kernel
theorem dX9_highest_24 : decode cX9_highest 24 = .ok (.imul, 1) := by decide +kernel
theorem dX9_highest_25 : decode cX9_highest 25 = .ok (.iload_n 1, 1) := by decide +kernel
theorem dX9_highest_26 : decode cX9_highest 26 = .ok (.iadd, 1) := by decide +kernel
theorem dX9_highest_27 : decode cX9_highest 27 = .ok (.iaload, 1) := by decide +kernel
theorem dX9_highest_28 : decode cX9_highest 28 = .ok (.ifCond .eq 5, 3) := by decide +kernel
theorem dX9_highest_31 : decode cX9_highest 31 = .ok (.iload_n 1, 1) := by decide +kernel
theorem dX9_highest_32 : decode cX9_highest 32 = .ok (.ireturn, 1) := by decide +kernel
theorem dX9_highest_33 : decode cX9_highest 33 = .ok (.iinc 2 1, 3) := by decide +kernel
theorem dX9_highest_36 : decode cX9_highest 36 = .ok (.goto (-27), 3) := by decide +kernel
theorem dX9_highest_39 : decode cX9_highest 39 = .ok (.iinc 1 (-1), 3) := by decide +kernel
theorem dX9_highest_42 : decode cX9_highest 42 = .ok (.goto (-39), 3) := by decide +kernel
theorem dX9_highest_45 : decode cX9_highest 45 = .ok (.iconst 0, 1) := by decide +kernel
theorem dX9_highest_46 : decode cX9_highest 46 = .ok (.ireturn, 1) := by decide +kernel
theorem dX9_thrown_0 : decode cX9_thrown 0 = .ok (.aload_n 0, 1) := by decide +kernel
theorem dX9_thrown_1 : decode cX9_thrown 1 = .ok (.getfield 7, 3) := by decide +kernel
theorem dX9_thrown_4 : decode cX9_thrown 4 = .ok (.ireturn, 1) := by decide +kernel
theorem dX9_factor_0 : decode cX9_factor 0 = .ok (.aload_n 0, 1) := by decide +kernel
theorem dX9_factor_1 : decode cX9_factor 1 = .ok (.iload_n 1, 1) := by decide +kernel
theorem dX9_factor_2 : decode cX9_factor 2 = .ok (.ifCond .lt 11, 3) := by decide +kernel
theorem dX9_factor_5 : decode cX9_factor 5 = .ok (.iload_n 1, 1) := by decide +kernel
theorem dX9_factor_6 : decode cX9_factor 6 = .ok (.aload_n 0, 1) := by decide +kernel
theorem dX9_factor_7 : decode cX9_factor 7 = .ok (.getfield 75, 3) := by decide +kernel
theorem dX9_factor_10 : decode cX9_factor 10 = .ok (.if_icmp .le 7, 3) := by decide +kernel
theorem dX9_factor_13 : decode cX9_factor 13 = .ok (.iconst 1, 1) := by decide +kernel
theorem dX9_factor_14 : decode cX9_factor 14 = .ok (.goto 33, 3) := by decide +kernel
theorem dX9_factor_17 : decode cX9_factor 17 = .ok (.iload_n 2, 1) := by decide +kernel
theorem dX9_factor_18 : decode cX9_factor 18 = .ok (.ifCond .lt 9, 3) := by decide +kernel
theorem dX9_factor_21 : decode cX9_factor 21 = .ok (.iload_n 2, 1) := by decide +kernel
theorem dX9_factor_22 : decode cX9_factor 22 = .ok (.bipush 6, 2) := by decide +kernel
theorem dX9_factor_24 : decode cX9_factor 24 = .ok (.if_icmp .le 7, 3) := by decide +kernel
theorem dX9_factor_27 : decode cX9_factor 27 = .ok (.iconst 2, 1) := by decide +kernel
theorem dX9_factor_28 : decode cX9_factor 28 = .ok (.goto 19, 3) := by decide +kernel
theorem dX9_factor_31 : decode cX9_factor 31 = .ok (.lload 5, 2) := by decide +kernel
theorem dX9_factor_33 : decode cX9_factor 33 = .ok (.ldc2_w 78, 3) := by decide +kernel
theorem dX9_factor_36 : decode cX9_factor 36 = .ok (.lrem, 1) := by decide +kernel
theorem dX9_factor_37 : decode cX9_factor 37 = .ok (.lconst 0, 1) := by decide +kernel
theorem dX9_factor_38 : decode cX9_factor 38 = .ok (.lcmp, 1) := by decide +kernel
theorem dX9_factor_39 : decode cX9_factor 39 = .ok (.ifCond .ne 7, 3) := by decide +kernel
theorem dX9_factor_42 : decode cX9_factor 42 = .ok (.iconst 3, 1) := by decide +kernel
theorem dX9_factor_43 : decode cX9_factor 43 = .ok (.goto 4, 3) := by decide +kernel
theorem dX9_factor_46 : decode cX9_factor 46 = .ok (.iconst 0, 1) := by decide +kernel
theorem dX9_factor_47 : decode cX9_factor 47 = .ok (.putfield 7, 3) := by decide +kernel
theorem dX9_factor_50 : decode cX9_factor 50 = .ok (.aload_n 0, 1) := by decide +kernel
theorem dX9_factor_51 : decode cX9_factor 51 = .ok (.getfield 7, 3) := by decide +kernel
theorem dX9_factor_54 : decode cX9_factor 54 = .ok (.ifCond .eq 5, 3) := by decide +kernel
theorem dX9_factor_57 : decode cX9_factor 57 = .ok (.iconst 0, 1) := by decide +kernel
theorem dX9_factor_58 : decode cX9_factor 58 = .ok (.ireturn, 1) := by decide +kernel
theorem dX9_factor_59 : decode cX9_factor 59 = .ok (.lload_n 3, 1) := by decide +kernel
theorem dX9_factor_60 : decode cX9_factor 60 = .ok (.invokestatic 95, 3) := by decide +kernel
theorem dX9_factor_63 : decode cX9_factor 63 = .ok (.i2l, 1) := by decide +kernel
theorem dX9_factor_64 : decode cX9_factor 64 = .ok (.lload 5, 2) := by decide +kernel
theorem dX9_factor_66 : decode cX9_factor 66 = .ok (.invokestatic 95, 3) := by decide +kernel
theorem dX9_factor_69 : decode cX9_factor 69 = .ok (.invokestatic 91, 3) := by decide +kernel
theorem dX9_factor_72 : decode cX9_factor 72 = .ok (.i2l, 1) := by decide +kernel
theorem dX9_factor_73 : decode cX9_factor 73 = .ok (.lmul, 1) := by decide +kernel
theorem dX9_factor_74 : decode cX9_factor 74 = .ok (.ldc2_w 78, 3) := by decide +kernel
theorem dX9_factor_77 : decode cX9_factor 77 = .ok (.lrem, 1) := by decide +kernel
theorem dX9_factor_78 : decode cX9_factor 78 = .ok (.l2i, 1) := by decide +kernel
theorem dX9_factor_79 : decode cX9_factor 79 = .ok (.istore 7, 2) := by decide +kernel
theorem dX9_factor_81 : decode cX9_factor 81 = .ok (.aload_n 0, 1) := by decide +kernel
theorem dX9_factor_82 : decode cX9_factor 82 = .ok (.getfield 13, 3) := by decide +kernel
theorem dX9_factor_85 : decode cX9_factor 85 = .ok (.bipush 7, 2) := by decide +kernel
theorem dX9_factor_87 : decode cX9_factor 87 = .ok (.iload_n 1, 1) := by decide +kernel
theorem dX9_factor_88 : decode cX9_factor 88 = .ok (.imul, 1) := by decide +kernel
theorem dX9_factor_89 : decode cX9_factor 89 = .ok (.iload_n 2, 1) := by decide +kernel
theorem dX9_factor_90 : decode cX9_factor 90 = .ok (.iadd, 1) := by decide +kernel
theorem dX9_factor_91 : decode cX9_factor 91 = .ok (.iaload, 1) := by decide +kernel
theorem dX9_factor_92 : decode cX9_factor 92 = .ok (.iload 7, 2) := by decide +kernel
theorem dX9_factor_94 : decode cX9_factor 94 = .ok (.if_icmp .eq 7, 3) := by decide +kernel
theorem dX9_factor_97 : decode cX9_factor 97 = .ok (.iconst 1, 1) := by decide +kernel
theorem dX9_factor_98 : decode cX9_factor 98 = .ok (.goto 4, 3) := by decide +kernel
theorem dX9_factor_101 : decode cX9_factor 101 = .ok (.iconst 0, 1) := by decide +kernel
theorem dX9_factor_102 : decode cX9_factor 102 = .ok (.istore 8, 2) := by decide +kernel
theorem dX9_factor_104 : decode cX9_factor 104 = .ok (.aload_n 0, 1) := by decide +kernel
theorem dX9_factor_105 : decode cX9_factor 105 = .ok (.getfield 13, 3) := by decide +kernel
theorem dX9_factor_108 : decode cX9_factor 108 = .ok (.bipush 7, 2) := by decide +kernel
theorem dX9_factor_110 : decode cX9_factor 110 = .ok (.iload_n 1, 1) := by decide +kernel
theorem dX9_factor_111 : decode cX9_factor 111 = .ok (.imul, 1) := by decide +kernel
theorem dX9_factor_112 : decode cX9_factor 112 = .ok (.iload_n 2, 1) := by decide +kernel
theorem dX9_factor_113 : decode cX9_factor 113 = .ok (.iadd, 1) := by decide +kernel
theorem dX9_factor_114 : decode cX9_factor 114 = .ok (.iload 7, 2) := by decide +kernel
theorem dX9_factor_116 : decode cX9_factor 116 = .ok (.iastore, 1) := by decide +kernel
theorem dX9_factor_117 : decode cX9_factor 117 = .ok (.iload 8, 2) := by decide +kernel
theorem dX9_factor_119 : decode cX9_factor 119 = .ok (.ifCond .eq 8, 3) := by decide +kernel
theorem dX9_factor_122 : decode cX9_factor 122 = .ok (.aload_n 0, 1) := by decide +kernel
theorem dX9_factor_123 : decode cX9_factor 123 = .ok (.iconst 0, 1) := by decide +kernel
theorem dX9_factor_124 : decode cX9_factor 124 = .ok (.putfield 32, 3) := by decide +kernel
theorem dX9_factor_127 : decode cX9_factor 127 = .ok (.iload 8, 2) := by decide +kernel
theorem dX9_factor_129 : decode cX9_factor 129 = .ok (.ireturn, 1) := by decide +kernel
theorem dX9_right_0 : decode cX9_right 0 = .ok (.aload_n 0, 1) := by decide +kernel
theorem dX9_right_1 : decode cX9_right 1 = .ok (.iload_n 1, 1) := by decide +kernel
theorem dX9_right_2 : decode cX9_right 2 = .ok (.ifCond .lt 9, 3) := by decide +kernel
theorem dX9_right_5 : decode cX9_right 5 = .ok (.iload_n 1, 1) := by decide +kernel
theorem dX9_right_6 : decode cX9_right 6 = .ok (.bipush 10, 2) := by decide +kernel
theorem dX9_right_8 : decode cX9_right 8 = .ok (.if_icmp .le 7, 3) := by decide +kernel
theorem dX9_right_11 : decode cX9_right 11 = .ok (.iconst 1, 1) := by decide +kernel
theorem dX9_right_12 : decode cX9_right 12 = .ok (.goto 19, 3) := by decide +kernel
theorem dX9_right_15 : decode cX9_right 15 = .ok (.lload 4, 2) := by decide +kernel
theorem dX9_right_17 : decode cX9_right 17 = .ok (.ldc2_w 78, 3) := by decide +kernel
theorem dX9_right_20 : decode cX9_right 20 = .ok (.lrem, 1) := by decide +kernel
theorem dX9_right_21 : decode cX9_right 21 = .ok (.lconst 0, 1) := by decide +kernel
theorem dX9_right_22 : decode cX9_right 22 = .ok (.lcmp, 1) := by decide +kernel
theorem dX9_right_23 : decode cX9_right 23 = .ok (.ifCond .ne 7, 3) := by decide +kernel
theorem dX9_right_26 : decode cX9_right 26 = .ok (.iconst 2, 1) := by decide +kernel
theorem dX9_right_27 : decode cX9_right 27 = .ok (.goto 4, 3) := by decide +kernel
theorem dX9_right_30 : decode cX9_right 30 = .ok (.iconst 0, 1) := by decide +kernel
theorem dX9_right_31 : decode cX9_right 31 = .ok (.putfield 7, 3) := by decide +kernel
theorem dX9_right_34 : decode cX9_right 34 = .ok (.aload_n 0, 1) := by decide +kernel
theorem dX9_right_35 : decode cX9_right 35 = .ok (.getfield 7, 3) := by decide +kernel
theorem dX9_right_38 : decode cX9_right 38 = .ok (.ifCond .eq 5, 3) := by decide +kernel
theorem dX9_right_41 : decode cX9_right 41 = .ok (.iconst 0, 1) := by decide +kernel
theorem dX9_right_42 : decode cX9_right 42 = .ok (.ireturn, 1) := by decide +kernel
theorem dX9_right_43 : decode cX9_right 43 = .ok (.lload_n 2, 1) := by decide +kernel
theorem dX9_right_44 : decode cX9_right 44 = .ok (.invokestatic 95, 3) := by decide +kernel
theorem dX9_right_47 : decode cX9_right 47 = .ok (.i2l, 1) := by decide +kernel
theorem dX9_right_48 : decode cX9_right 48 = .ok (.lload 4, 2) := by decide +kernel
theorem dX9_right_50 : decode cX9_right 50 = .ok (.invokestatic 95, 3) := by decide +kernel
theorem dX9_right_53 : decode cX9_right 53 = .ok (.invokestatic 91, 3) := by decide +kernel
theorem dX9_right_56 : decode cX9_right 56 = .ok (.i2l, 1) := by decide +kernel
theorem dX9_right_57 : decode cX9_right 57 = .ok (.lmul, 1) := by decide +kernel
theorem dX9_right_58 : decode cX9_right 58 = .ok (.ldc2_w 78, 3) := by decide +kernel
theorem dX9_right_61 : decode cX9_right 61 = .ok (.lrem, 1) := by decide +kernel
theorem dX9_right_62 : decode cX9_right 62 = .ok (.l2i, 1) := by decide +kernel
theorem dX9_right_63 : decode cX9_right 63 = .ok (.istore 6, 2) := by decide +kernel
theorem dX9_right_65 : decode cX9_right 65 = .ok (.aload_n 0, 1) := by decide +kernel
theorem dX9_right_66 : decode cX9_right 66 = .ok (.getfield 17, 3) := by decide +kernel
theorem dX9_right_69 : decode cX9_right 69 = .ok (.iload_n 1, 1) := by decide +kernel
theorem dX9_right_70 : decode cX9_right 70 = .ok (.iaload, 1) := by decide +kernel
theorem dX9_right_71 : decode cX9_right 71 = .ok (.iload 6, 2) := by decide +kernel
theorem dX9_right_73 : decode cX9_right 73 = .ok (.if_icmp .eq 7, 3) := by decide +kernel
theorem dX9_right_76 : decode cX9_right 76 = .ok (.iconst 1, 1) := by decide +kernel
theorem dX9_right_77 : decode cX9_right 77 = .ok (.goto 4, 3) := by decide +kernel
theorem dX9_right_80 : decode cX9_right 80 = .ok (.iconst 0, 1) := by decide +kernel
theorem dX9_right_81 : decode cX9_right 81 = .ok (.istore 7, 2) := by decide +kernel
theorem dX9_right_83 : decode cX9_right 83 = .ok (.aload_n 0, 1) := by decide +kernel
theorem dX9_right_84 : decode cX9_right 84 = .ok (.getfield 17, 3) := by decide +kernel
theorem dX9_right_87 : decode cX9_right 87 = .ok (.iload_n 1, 1) := by decide +kernel
theorem dX9_right_88 : decode cX9_right 88 = .ok (.iload 6, 2) := by decide +kernel
theorem dX9_right_90 : decode cX9_right 90 = .ok (.iastore, 1) := by decide +kernel
theorem dX9_right_91 : decode cX9_right 91 = .ok (.iload 7, 2) := by decide +kernel
theorem dX9_right_93 : decode cX9_right 93 = .ok (.ifCond .eq 8, 3) := by decide +kernel
theorem dX9_right_96 : decode cX9_right 96 = .ok (.aload_n 0, 1) := by decide +kernel
theorem dX9_right_97 : decode cX9_right 97 = .ok (.iconst 0, 1) := by decide +kernel
theorem dX9_right_98 : decode cX9_right 98 = .ok (.putfield 32, 3) := by decide +kernel
theorem dX9_right_101 : decode cX9_right 101 = .ok (.iload 7, 2) := by decide +kernel
theorem dX9_right_103 : decode cX9_right 103 = .ok (.ireturn, 1) := by decide +kernel
theorem dX9_run_0 : decode cX9_run 0 = .ok (.aload_n 0, 1) := by decide +kernel
theorem dX9_run_1 : decode cX9_run 1 = .ok (.iconst 0, 1) := by decide +kernel
theorem dX9_run_2 : decode cX9_run 2 = .ok (.putfield 7, 3) := by decide +kernel
theorem dX9_run_5 : decode cX9_run 5 = .ok (.aload_n 0, 1) := by decide +kernel
theorem dX9_run_6 : decode cX9_run 6 = .ok (.iconst 0, 1) := by decide +kernel
theorem dX9_run_7 : decode cX9_run 7 = .ok (.putfield 32, 3) := by decide +kernel
theorem dX9_run_10 : decode cX9_run 10 = .ok (.aload_n 0, 1) := by decide +kernel
theorem dX9_run_11 : decode cX9_run 11 = .ok (.invokevirtual 99, 3) := by decide +kernel
theorem dX9_run_14 : decode cX9_run 14 = .ok (.ifCond .ge 5, 3) := by decide +kernel
theorem dX9_run_17 : decode cX9_run 17 = .ok (.iconst 1, 1) := by decide +kernel
theorem dX9_run_18 : decode cX9_run 18 = .ok (.ireturn, 1) := by decide +kernel
theorem dX9_run_19 : decode cX9_run 19 = .ok (.aload_n 0, 1) := by decide +kernel
theorem dX9_run_20 : decode cX9_run 20 = .ok (.iconst 1, 1) := by decide +kernel
theorem dX9_run_21 : decode cX9_run 21 = .ok (.invokevirtual 103, 3) := by decide +kernel
theorem dX9_run_24 : decode cX9_run 24 = .ok (.aload_n 0, 1) := by decide +kernel
theorem dX9_run_25 : decode cX9_run 25 = .ok (.invokevirtual 107, 3) := by decide +kernel
theorem dX9_run_28 : decode cX9_run 28 = .ok (.istore_n 1, 1) := by decide +kernel
theorem dX9_run_29 : decode cX9_run 29 = .ok (.aload_n 0, 1) := by decide +kernel
theorem dX9_run_30 : decode cX9_run 30 = .ok (.aload_n 0, 1) := by decide +kernel
theorem dX9_run_31 : decode cX9_run 31 = .ok (.aload_n 0, 1) := by decide +kernel
theorem dX9_run_32 : decode cX9_run 32 = .ok (.getfield 39, 3) := by decide +kernel
theorem dX9_run_35 : decode cX9_run 35 = .ok (.iconst 0, 1) := by decide +kernel
theorem dX9_run_36 : decode cX9_run 36 = .ok (.invokevirtual 110, 3) := by decide +kernel
theorem dX9_run_39 : decode cX9_run 39 = .ok (.putfield 36, 3) := by decide +kernel
theorem dX9_run_42 : decode cX9_run 42 = .ok (.aload_n 0, 1) := by decide +kernel
theorem dX9_run_43 : decode cX9_run 43 = .ok (.iconst 1, 1) := by decide +kernel
theorem dX9_run_44 : decode cX9_run 44 = .ok (.putfield 42, 3) := by decide +kernel
theorem dX9_run_47 : decode cX9_run 47 = .ok (.iload_n 1, 1) := by decide +kernel
theorem dX9_run_48 : decode cX9_run 48 = .ok (.istore_n 2, 1) := by decide +kernel
theorem dX9_run_49 : decode cX9_run 49 = .ok (.iload_n 2, 1) := by decide +kernel
theorem dX9_run_50 : decode cX9_run 50 = .ok (.bipush 19, 2) := by decide +kernel
theorem dX9_run_52 : decode cX9_run 52 = .ok (.if_icmp .ge 29, 3) := by decide +kernel
theorem dX9_run_55 : decode cX9_run 55 = .ok (.aload_n 0, 1) := by decide +kernel
theorem dX9_run_56 : decode cX9_run 56 = .ok (.getfield 60, 3) := by decide +kernel
theorem dX9_run_59 : decode cX9_run 59 = .ok (.bipush 14, 2) := by decide +kernel
theorem dX9_run_61 : decode cX9_run 61 = .ok (.iload_n 2, 1) := by decide +kernel
theorem dX9_run_62 : decode cX9_run 62 = .ok (.imul, 1) := by decide +kernel
theorem dX9_run_63 : decode cX9_run 63 = .ok (.bipush 13, 2) := by decide +kernel
theorem dX9_run_65 : decode cX9_run 65 = .ok (.iadd, 1) := by decide +kernel
theorem dX9_run_66 : decode cX9_run 66 = .ok (.iaload, 1) := by decide +kernel
theorem dX9_run_67 : decode cX9_run 67 = .ok (.ifCond .eq 8, 3) := by decide +kernel
theorem dX9_run_70 : decode cX9_run 70 = .ok (.aload_n 0, 1) := by decide +kernel
theorem dX9_run_71 : decode cX9_run 71 = .ok (.iconst 0, 1) := by decide +kernel
theorem dX9_run_72 : decode cX9_run 72 = .ok (.putfield 42, 3) := by decide +kernel
theorem dX9_run_75 : decode cX9_run 75 = .ok (.iinc 2 1, 3) := by decide +kernel
theorem dX9_run_78 : decode cX9_run 78 = .ok (.goto (-29), 3) := by decide +kernel
theorem dX9_run_81 : decode cX9_run 81 = .ok (.iconst 0, 1) := by decide +kernel
theorem dX9_run_82 : decode cX9_run 82 = .ok (.istore_n 2, 1) := by decide +kernel
theorem dX9_run_83 : decode cX9_run 83 = .ok (.iload_n 2, 1) := by decide +kernel
theorem dX9_run_84 : decode cX9_run 84 = .ok (.bipush 13, 2) := by decide +kernel
theorem dX9_run_86 : decode cX9_run 86 = .ok (.if_icmp .ge 51, 3) := by decide +kernel
theorem dX9_run_89 : decode cX9_run 89 = .ok (.aload_n 0, 1) := by decide +kernel
theorem dX9_run_90 : decode cX9_run 90 = .ok (.getfield 45, 3) := by decide +kernel
theorem dX9_run_93 : decode cX9_run 93 = .ok (.iload_n 2, 1) := by decide +kernel
theorem dX9_run_94 : decode cX9_run 94 = .ok (.aload_n 0, 1) := by decide +kernel
theorem dX9_run_95 : decode cX9_run 95 = .ok (.getfield 69, 3) := by decide +kernel
theorem dX9_run_98 : decode cX9_run 98 = .ok (.bipush 12, 2) := by decide +kernel
theorem dX9_run_100 : decode cX9_run 100 = .ok (.iload_n 2, 1) := by decide +kernel
theorem dX9_run_101 : decode cX9_run 101 = .ok (.isub, 1) := by decide +kernel
theorem dX9_run_102 : decode cX9_run 102 = .ok (.iaload, 1) := by decide +kernel
theorem dX9_run_103 : decode cX9_run 103 = .ok (.ifCond .ge 7, 3) := by decide +kernel
theorem dX9_run_106 : decode cX9_run 106 = .ok (.iconst 0, 1) := by decide +kernel
theorem dX9_run_107 : decode cX9_run 107 = .ok (.goto 23, 3) := by decide +kernel
theorem dX9_run_110 : decode cX9_run 110 = .ok (.aload_n 0, 1) := by decide +kernel
theorem dX9_run_111 : decode cX9_run 111 = .ok (.getfield 60, 3) := by decide +kernel
theorem dX9_run_114 : decode cX9_run 114 = .ok (.bipush 14, 2) := by decide +kernel
theorem dX9_run_116 : decode cX9_run 116 = .ok (.aload_n 0, 1) := by decide +kernel
theorem dX9_run_117 : decode cX9_run 117 = .ok (.getfield 69, 3) := by decide +kernel
theorem dX9_run_120 : decode cX9_run 120 = .ok (.bipush 12, 2) := by decide +kernel
theorem dX9_run_122 : decode cX9_run 122 = .ok (.iload_n 2, 1) := by decide +kernel
theorem dX9_run_123 : decode cX9_run 123 = .ok (.isub, 1) := by decide +kernel
theorem dX9_run_124 : decode cX9_run 124 = .ok (.iaload, 1) := by decide +kernel
theorem dX9_run_125 : decode cX9_run 125 = .ok (.imul, 1) := by decide +kernel
theorem dX9_run_126 : decode cX9_run 126 = .ok (.bipush 13, 2) := by decide +kernel
theorem dX9_run_128 : decode cX9_run 128 = .ok (.iadd, 1) := by decide +kernel
theorem dX9_run_129 : decode cX9_run 129 = .ok (.iaload, 1) := by decide +kernel
theorem dX9_run_130 : decode cX9_run 130 = .ok (.iastore, 1) := by decide +kernel
theorem dX9_run_131 : decode cX9_run 131 = .ok (.iinc 2 1, 3) := by decide +kernel
theorem dX9_run_134 : decode cX9_run 134 = .ok (.goto (-51), 3) := by decide +kernel
theorem dX9_run_137 : decode cX9_run 137 = .ok (.aload_n 0, 1) := by decide +kernel
theorem dX9_run_138 : decode cX9_run 138 = .ok (.iconst 0, 1) := by decide +kernel
theorem dX9_run_139 : decode cX9_run 139 = .ok (.putfield 48, 3) := by decide +kernel
theorem dX9_run_142 : decode cX9_run 142 = .ok (.aload_n 0, 1) := by decide +kernel
theorem dX9_run_143 : decode cX9_run 143 = .ok (.invokevirtual 114, 3) := by decide +kernel
theorem dX9_run_146 : decode cX9_run 146 = .ok (.istore_n 2, 1) := by decide +kernel
theorem dX9_run_147 : decode cX9_run 147 = .ok (.iconst 1, 1) := by decide +kernel
theorem dX9_run_148 : decode cX9_run 148 = .ok (.istore_n 3, 1) := by decide +kernel
theorem dX9_run_149 : decode cX9_run 149 = .ok (.iload_n 3, 1) := by decide +kernel
theorem dX9_run_150 : decode cX9_run 150 = .ok (.sipush 32003, 3) := by decide +kernel
theorem dX9_run_153 : decode cX9_run 153 = .ok (.if_icmp .ge 125, 3) := by decide +kernel
theorem dX9_run_156 : decode cX9_run 156 = .ok (.lconst 0, 1) := by decide +kernel
theorem dX9_run_157 : decode cX9_run 157 = .ok (.lstore 4, 2) := by decide +kernel
theorem dX9_run_159 : decode cX9_run 159 = .ok (.aload_n 0, 1) := by decide +kernel
theorem dX9_run_160 : decode cX9_run 160 = .ok (.getfield 75, 3) := by decide +kernel
theorem dX9_run_163 : decode cX9_run 163 = .ok (.istore 6, 2) := by decide +kernel
theorem dX9_run_165 : decode cX9_run 165 = .ok (.iload 6, 2) := by decide +kernel
theorem dX9_run_167 : decode cX9_run 167 = .ok (.ifCond .lt 34, 3) := by decide +kernel
theorem dX9_run_170 : decode cX9_run 170 = .ok (.lload 4, 2) := by decide +kernel
theorem dX9_run_172 : decode cX9_run 172 = .ok (.iload_n 3, 1) := by decide +kernel
theorem dX9_run_173 : decode cX9_run 173 = .ok (.i2l, 1) := by decide +kernel
theorem dX9_run_174 : decode cX9_run 174 = .ok (.lmul, 1) := by decide +kernel
theorem dX9_run_175 : decode cX9_run 175 = .ok (.aload_n 0, 1) := by decide +kernel
theorem dX9_run_176 : decode cX9_run 176 = .ok (.getfield 13, 3) := by decide +kernel
theorem dX9_run_179 : decode cX9_run 179 = .ok (.bipush 7, 2) := by decide +kernel
theorem dX9_run_181 : decode cX9_run 181 = .ok (.iload 6, 2) := by decide +kernel
theorem dX9_run_183 : decode cX9_run 183 = .ok (.imul, 1) := by decide +kernel
theorem dX9_run_184 : decode cX9_run 184 = .ok (.iload_n 2, 1) := by decide +kernel
theorem dX9_run_185 : decode cX9_run 185 = .ok (.iadd, 1) := by decide +kernel
theorem dX9_run_186 : decode cX9_run 186 = .ok (.iaload, 1) := by decide +kernel
theorem dX9_run_187 : decode cX9_run 187 = .ok (.i2l, 1) := by decide +kernel
theorem dX9_run_188 : decode cX9_run 188 = .ok (.ladd, 1) := by decide +kernel
theorem dX9_run_189 : decode cX9_run 189 = .ok (.ldc2_w 78, 3) := by decide +kernel
theorem dX9_run_192 : decode cX9_run 192 = .ok (.lrem, 1) := by decide +kernel
theorem dX9_run_193 : decode cX9_run 193 = .ok (.lstore 4, 2) := by decide +kernel
theorem dX9_run_195 : decode cX9_run 195 = .ok (.iinc 6 (-1), 3) := by decide +kernel
theorem dX9_run_198 : decode cX9_run 198 = .ok (.goto (-33), 3) := by decide +kernel
theorem dX9_run_201 : decode cX9_run 201 = .ok (.lload 4, 2) := by decide +kernel
theorem dX9_run_203 : decode cX9_run 203 = .ok (.lconst 0, 1) := by decide +kernel
theorem dX9_run_204 : decode cX9_run 204 = .ok (.lcmp, 1) := by decide +kernel
theorem dX9_run_205 : decode cX9_run 205 = .ok (.ifCond .ne 67, 3) := by decide +kernel
theorem dX9_run_208 : decode cX9_run 208 = .ok (.aload_n 0, 1) := by decide +kernel
theorem dX9_run_209 : decode cX9_run 209 = .ok (.iload_n 3, 1) := by decide +kernel
theorem dX9_run_210 : decode cX9_run 210 = .ok (.invokevirtual 103, 3) := by decide +kernel
theorem dX9_run_213 : decode cX9_run 213 = .ok (.aload_n 0, 1) := by decide +kernel
theorem dX9_run_214 : decode cX9_run 214 = .ok (.invokevirtual 107, 3) := by decide +kernel
theorem dX9_run_217 : decode cX9_run 217 = .ok (.pop, 1) := by decide +kernel
theorem dX9_run_218 : decode cX9_run 218 = .ok (.aload_n 0, 1) := by decide +kernel
theorem dX9_run_219 : decode cX9_run 219 = .ok (.aload_n 0, 1) := by decide +kernel
theorem dX9_run_220 : decode cX9_run 220 = .ok (.getfield 57, 3) := by decide +kernel
theorem dX9_run_223 : decode cX9_run 223 = .ok (.sipush 169, 3) := by decide +kernel
theorem dX9_run_226 : decode cX9_run 226 = .ok (.aload_n 0, 1) := by decide +kernel
theorem dX9_run_227 : decode cX9_run 227 = .ok (.getfield 48, 3) := by decide +kernel
theorem dX9_run_230 : decode cX9_run 230 = .ok (.imul, 1) := by decide +kernel
theorem dX9_run_231 : decode cX9_run 231 = .ok (.invokevirtual 110, 3) := by decide +kernel
theorem dX9_run_234 : decode cX9_run 234 = .ok (.istore 6, 2) := by decide +kernel
theorem dX9_run_236 : decode cX9_run 236 = .ok (.iload 6, 2) := by decide +kernel
theorem dX9_run_238 : decode cX9_run 238 = .ok (.ifCond .le 34, 3) := by decide +kernel
theorem dX9_run_241 : decode cX9_run 241 = .ok (.aload_n 0, 1) := by decide +kernel
theorem dX9_run_242 : decode cX9_run 242 = .ok (.getfield 51, 3) := by decide +kernel
theorem dX9_run_245 : decode cX9_run 245 = .ok (.aload_n 0, 1) := by decide +kernel
theorem dX9_run_246 : decode cX9_run 246 = .ok (.getfield 48, 3) := by decide +kernel
theorem dX9_run_249 : decode cX9_run 249 = .ok (.iload_n 3, 1) := by decide +kernel
theorem dX9_run_250 : decode cX9_run 250 = .ok (.iastore, 1) := by decide +kernel
theorem dX9_run_251 : decode cX9_run 251 = .ok (.aload_n 0, 1) := by decide +kernel
theorem dX9_run_252 : decode cX9_run 252 = .ok (.getfield 54, 3) := by decide +kernel
theorem dX9_run_255 : decode cX9_run 255 = .ok (.aload_n 0, 1) := by decide +kernel
theorem dX9_run_256 : decode cX9_run 256 = .ok (.getfield 48, 3) := by decide +kernel
theorem dX9_run_259 : decode cX9_run 259 = .ok (.iload 6, 2) := by decide +kernel
theorem dX9_run_261 : decode cX9_run 261 = .ok (.iastore, 1) := by decide +kernel
theorem dX9_run_262 : decode cX9_run 262 = .ok (.aload_n 0, 1) := by decide +kernel
theorem dX9_run_263 : decode cX9_run 263 = .ok (.dup, 1) := by decide +kernel
theorem dX9_run_264 : decode cX9_run 264 = .ok (.getfield 48, 3) := by decide +kernel
theorem dX9_run_267 : decode cX9_run 267 = .ok (.iconst 1, 1) := by decide +kernel
theorem dX9_run_268 : decode cX9_run 268 = .ok (.iadd, 1) := by decide +kernel
theorem dX9_run_269 : decode cX9_run 269 = .ok (.putfield 48, 3) := by decide +kernel
theorem dX9_run_272 : decode cX9_run 272 = .ok (.iinc 3 1, 3) := by decide +kernel
theorem dX9_run_275 : decode cX9_run 275 = .ok (.goto (-126), 3) := by decide +kernel
theorem dX9_run_278 : decode cX9_run 278 = .ok (.aload_n 0, 1) := by decide +kernel
theorem dX9_run_279 : decode cX9_run 279 = .ok (.iconst 1, 1) := by decide +kernel
theorem dX9_run_280 : decode cX9_run 280 = .ok (.putfield 32, 3) := by decide +kernel
theorem dX9_run_283 : decode cX9_run 283 = .ok (.iconst 0, 1) := by decide +kernel
theorem dX9_run_284 : decode cX9_run 284 = .ok (.ireturn, 1) := by decide +kernel
theorem dX9_unknown_0 : decode cX9_unknown 0 = .ok (.aload_n 0, 1) := by decide +kernel
theorem dX9_unknown_1 : decode cX9_unknown 1 = .ok (.aload_n 0, 1) := by decide +kernel
theorem dX9_unknown_2 : decode cX9_unknown 2 = .ok (.getfield 32, 3) := by decide +kernel
theorem dX9_unknown_5 : decode cX9_unknown 5 = .ok (.ifCond .eq 7, 3) := by decide +kernel
theorem dX9_unknown_8 : decode cX9_unknown 8 = .ok (.iconst 0, 1) := by decide +kernel
theorem dX9_unknown_9 : decode cX9_unknown 9 = .ok (.goto 4, 3) := by decide +kernel
theorem dX9_unknown_12 : decode cX9_unknown 12 = .ok (.iconst 1, 1) := by decide +kernel
theorem dX9_unknown_13 : decode cX9_unknown 13 = .ok (.putfield 7, 3) := by decide +kernel
theorem dX9_unknown_16 : decode cX9_unknown 16 = .ok (.aload_n 0, 1) := by decide +kernel
theorem dX9_unknown_17 : decode cX9_unknown 17 = .ok (.getfield 32, 3) := by decide +kernel
theorem dX9_unknown_20 : decode cX9_unknown 20 = .ok (.ifCond .ne 7, 3) := by decide +kernel
theorem dX9_unknown_23 : decode cX9_unknown 23 = .ok (.iconst 1, 1) := by decide +kernel
theorem dX9_unknown_24 : decode cX9_unknown 24 = .ok (.goto 4, 3) := by decide +kernel
theorem dX9_unknown_27 : decode cX9_unknown 27 = .ok (.iconst 0, 1) := by decide +kernel
theorem dX9_unknown_28 : decode cX9_unknown 28 = .ok (.ireturn, 1) := by decide +kernel
theorem dX9_polynomials_0 : decode cX9_polynomials 0 = .ok (.aload_n 0, 1) := by decide +kernel
theorem dX9_polynomials_1 : decode cX9_polynomials 1 = .ok (.invokevirtual 117, 3) := by decide +kernel
theorem dX9_polynomials_4 : decode cX9_polynomials 4 = .ok (.ifCond .eq 7, 3) := by decide +kernel
theorem dX9_polynomials_7 : decode cX9_polynomials 7 = .ok (.iconst 0, 1) := by decide +kernel
theorem dX9_polynomials_8 : decode cX9_polynomials 8 = .ok (.goto 7, 3) := by decide +kernel
theorem dX9_polynomials_11 : decode cX9_polynomials 11 = .ok (.aload_n 0, 1) := by decide +kernel
theorem dX9_polynomials_12 : decode cX9_polynomials 12 = .ok (.getfield 36, 3) := by decide +kernel
theorem dX9_polynomials_15 : decode cX9_polynomials 15 = .ok (.ireturn, 1) := by decide +kernel
theorem dX9_answer_0 : decode cX9_answer 0 = .ok (.aload_n 0, 1) := by decide +kernel
theorem dX9_answer_1 : decode cX9_answer 1 = .ok (.invokevirtual 117, 3) := by decide +kernel
theorem dX9_answer_4 : decode cX9_answer 4 = .ok (.ifCond .eq 5, 3) := by decide +kernel
theorem dX9_answer_7 : decode cX9_answer 7 = .ok (.iconst 0, 1) := by decide +kernel
theorem dX9_answer_8 : decode cX9_answer 8 = .ok (.ireturn, 1) := by decide +kernel
theorem dX9_answer_9 : decode cX9_answer 9 = .ok (.aload_n 0, 1) := by decide +kernel
theorem dX9_answer_10 : decode cX9_answer 10 = .ok (.iload_n 1, 1) := by decide +kernel
theorem dX9_answer_11 : decode cX9_answer 11 = .ok (.iconst (-1), 1) := by decide +kernel
theorem dX9_answer_12 : decode cX9_answer 12 = .ok (.if_icmp .lt 33, 3) := by decide +kernel
theorem dX9_answer_15 : decode cX9_answer 15 = .ok (.iload_n 1, 1) := by decide +kernel
theorem dX9_answer_16 : decode cX9_answer 16 = .ok (.aload_n 0, 1) := by decide +kernel
theorem dX9_answer_17 : decode cX9_answer 17 = .ok (.getfield 36, 3) := by decide +kernel
theorem dX9_answer_20 : decode cX9_answer 20 = .ok (.if_icmp .ge 25, 3) := by decide +kernel
theorem dX9_answer_23 : decode cX9_answer 23 = .ok (.iload_n 1, 1) := by decide +kernel
theorem dX9_answer_24 : decode cX9_answer 24 = .ok (.iconst (-1), 1) := by decide +kernel
theorem dX9_answer_25 : decode cX9_answer 25 = .ok (.if_icmp .ne 10, 3) := by decide +kernel
theorem dX9_answer_28 : decode cX9_answer 28 = .ok (.aload_n 0, 1) := by decide +kernel
theorem dX9_answer_29 : decode cX9_answer 29 = .ok (.getfield 42, 3) := by decide +kernel
theorem dX9_answer_32 : decode cX9_answer 32 = .ok (.ifCond .eq 13, 3) := by decide +kernel
theorem dX9_answer_35 : decode cX9_answer 35 = .ok (.iload_n 2, 1) := by decide +kernel
theorem dX9_answer_36 : decode cX9_answer 36 = .ok (.ifCond .lt 9, 3) := by decide +kernel
theorem dX9_answer_39 : decode cX9_answer 39 = .ok (.iload_n 2, 1) := by decide +kernel
theorem dX9_answer_40 : decode cX9_answer 40 = .ok (.bipush 12, 2) := by decide +kernel
theorem dX9_answer_42 : decode cX9_answer 42 = .ok (.if_icmp .le 7, 3) := by decide +kernel
theorem dX9_answer_45 : decode cX9_answer 45 = .ok (.iconst 2, 1) := by decide +kernel
theorem dX9_answer_46 : decode cX9_answer 46 = .ok (.goto 4, 3) := by decide +kernel
theorem dX9_answer_49 : decode cX9_answer 49 = .ok (.iconst 0, 1) := by decide +kernel
theorem dX9_answer_50 : decode cX9_answer 50 = .ok (.putfield 7, 3) := by decide +kernel
theorem dX9_answer_53 : decode cX9_answer 53 = .ok (.aload_n 0, 1) := by decide +kernel
theorem dX9_answer_54 : decode cX9_answer 54 = .ok (.getfield 7, 3) := by decide +kernel
theorem dX9_answer_57 : decode cX9_answer 57 = .ok (.ifCond .eq 5, 3) := by decide +kernel
theorem dX9_answer_60 : decode cX9_answer 60 = .ok (.iconst 0, 1) := by decide +kernel
theorem dX9_answer_61 : decode cX9_answer 61 = .ok (.ireturn, 1) := by decide +kernel
theorem dX9_answer_62 : decode cX9_answer 62 = .ok (.iload_n 1, 1) := by decide +kernel
theorem dX9_answer_63 : decode cX9_answer 63 = .ok (.ifCond .ge 12, 3) := by decide +kernel
theorem dX9_answer_66 : decode cX9_answer 66 = .ok (.aload_n 0, 1) := by decide +kernel
theorem dX9_answer_67 : decode cX9_answer 67 = .ok (.getfield 45, 3) := by decide +kernel
theorem dX9_answer_70 : decode cX9_answer 70 = .ok (.iload_n 2, 1) := by decide +kernel
theorem dX9_answer_71 : decode cX9_answer 71 = .ok (.iaload, 1) := by decide +kernel
theorem dX9_answer_72 : decode cX9_answer 72 = .ok (.goto 14, 3) := by decide +kernel
theorem dX9_answer_75 : decode cX9_answer 75 = .ok (.aload_n 0, 1) := by decide +kernel
theorem dX9_answer_76 : decode cX9_answer 76 = .ok (.getfield 39, 3) := by decide +kernel
theorem dX9_answer_79 : decode cX9_answer 79 = .ok (.bipush 13, 2) := by decide +kernel
theorem dX9_answer_81 : decode cX9_answer 81 = .ok (.iload_n 1, 1) := by decide +kernel
theorem dX9_answer_82 : decode cX9_answer 82 = .ok (.imul, 1) := by decide +kernel
theorem dX9_answer_83 : decode cX9_answer 83 = .ok (.iload_n 2, 1) := by decide +kernel
theorem dX9_answer_84 : decode cX9_answer 84 = .ok (.iadd, 1) := by decide +kernel
theorem dX9_answer_85 : decode cX9_answer 85 = .ok (.iaload, 1) := by decide +kernel
theorem dX9_answer_86 : decode cX9_answer 86 = .ok (.ireturn, 1) := by decide +kernel
theorem dX9_meets_0 : decode cX9_meets 0 = .ok (.aload_n 0, 1) := by decide +kernel
theorem dX9_meets_1 : decode cX9_meets 1 = .ok (.invokevirtual 117, 3) := by decide +kernel
theorem dX9_meets_4 : decode cX9_meets 4 = .ok (.ifCond .ne 14, 3) := by decide +kernel
theorem dX9_meets_7 : decode cX9_meets 7 = .ok (.aload_n 0, 1) := by decide +kernel
theorem dX9_meets_8 : decode cX9_meets 8 = .ok (.getfield 42, 3) := by decide +kernel
theorem dX9_meets_11 : decode cX9_meets 11 = .ok (.ifCond .eq 7, 3) := by decide +kernel
theorem dX9_meets_14 : decode cX9_meets 14 = .ok (.iconst 1, 1) := by decide +kernel
theorem dX9_meets_15 : decode cX9_meets 15 = .ok (.goto 4, 3) := by decide +kernel
theorem dX9_meets_18 : decode cX9_meets 18 = .ok (.iconst 0, 1) := by decide +kernel
theorem dX9_meets_19 : decode cX9_meets 19 = .ok (.ireturn, 1) := by decide +kernel
theorem dX9_powers_0 : decode cX9_powers 0 = .ok (.aload_n 0, 1) := by decide +kernel
theorem dX9_powers_1 : decode cX9_powers 1 = .ok (.invokevirtual 117, 3) := by decide +kernel
theorem dX9_powers_4 : decode cX9_powers 4 = .ok (.ifCond .eq 7, 3) := by decide +kernel
theorem dX9_powers_7 : decode cX9_powers 7 = .ok (.iconst 0, 1) := by decide +kernel
theorem dX9_powers_8 : decode cX9_powers 8 = .ok (.goto 7, 3) := by decide +kernel
theorem dX9_powers_11 : decode cX9_powers 11 = .ok (.aload_n 0, 1) := by decide +kernel
theorem dX9_powers_12 : decode cX9_powers 12 = .ok (.getfield 48, 3) := by decide +kernel
theorem dX9_powers_15 : decode cX9_powers 15 = .ok (.ireturn, 1) := by decide +kernel
theorem dX9_base_0 : decode cX9_base 0 = .ok (.aload_n 0, 1) := by decide +kernel
theorem dX9_base_1 : decode cX9_base 1 = .ok (.invokevirtual 117, 3) := by decide +kernel
theorem dX9_base_4 : decode cX9_base 4 = .ok (.ifCond .eq 7, 3) := by decide +kernel
theorem dX9_base_7 : decode cX9_base 7 = .ok (.iconst 0, 1) := by decide +kernel
theorem dX9_base_8 : decode cX9_base 8 = .ok (.goto 25, 3) := by decide +kernel
theorem dX9_base_11 : decode cX9_base 11 = .ok (.iload_n 1, 1) := by decide +kernel
theorem dX9_base_12 : decode cX9_base 12 = .ok (.ifCond .lt 11, 3) := by decide +kernel
theorem dX9_base_15 : decode cX9_base 15 = .ok (.iload_n 1, 1) := by decide +kernel
theorem dX9_base_16 : decode cX9_base 16 = .ok (.aload_n 0, 1) := by decide +kernel
theorem dX9_base_17 : decode cX9_base 17 = .ok (.getfield 48, 3) := by decide +kernel
theorem dX9_base_20 : decode cX9_base 20 = .ok (.if_icmp .lt 7, 3) := by decide +kernel
theorem dX9_base_23 : decode cX9_base 23 = .ok (.iconst (-1), 1) := by decide +kernel
theorem dX9_base_24 : decode cX9_base 24 = .ok (.goto 9, 3) := by decide +kernel
theorem dX9_base_27 : decode cX9_base 27 = .ok (.aload_n 0, 1) := by decide +kernel
theorem dX9_base_28 : decode cX9_base 28 = .ok (.getfield 51, 3) := by decide +kernel
theorem dX9_base_31 : decode cX9_base 31 = .ok (.iload_n 1, 1) := by decide +kernel
theorem dX9_base_32 : decode cX9_base 32 = .ok (.iaload, 1) := by decide +kernel
theorem dX9_base_33 : decode cX9_base 33 = .ok (.ireturn, 1) := by decide +kernel
theorem dX9_many_0 : decode cX9_many 0 = .ok (.aload_n 0, 1) := by decide +kernel
theorem dX9_many_1 : decode cX9_many 1 = .ok (.invokevirtual 117, 3) := by decide +kernel
theorem dX9_many_4 : decode cX9_many 4 = .ok (.ifCond .eq 7, 3) := by decide +kernel
theorem dX9_many_7 : decode cX9_many 7 = .ok (.iconst 0, 1) := by decide +kernel
theorem dX9_many_8 : decode cX9_many 8 = .ok (.goto 25, 3) := by decide +kernel
theorem dX9_many_11 : decode cX9_many 11 = .ok (.iload_n 1, 1) := by decide +kernel
theorem dX9_many_12 : decode cX9_many 12 = .ok (.ifCond .lt 11, 3) := by decide +kernel
theorem dX9_many_15 : decode cX9_many 15 = .ok (.iload_n 1, 1) := by decide +kernel
theorem dX9_many_16 : decode cX9_many 16 = .ok (.aload_n 0, 1) := by decide +kernel
theorem dX9_many_17 : decode cX9_many 17 = .ok (.getfield 48, 3) := by decide +kernel
theorem dX9_many_20 : decode cX9_many 20 = .ok (.if_icmp .lt 7, 3) := by decide +kernel
theorem dX9_many_23 : decode cX9_many 23 = .ok (.iconst (-1), 1) := by decide +kernel
theorem dX9_many_24 : decode cX9_many 24 = .ok (.goto 9, 3) := by decide +kernel
theorem dX9_many_27 : decode cX9_many 27 = .ok (.aload_n 0, 1) := by decide +kernel
theorem dX9_many_28 : decode cX9_many 28 = .ok (.getfield 54, 3) := by decide +kernel
theorem dX9_many_31 : decode cX9_many 31 = .ok (.iload_n 1, 1) := by decide +kernel
theorem dX9_many_32 : decode cX9_many 32 = .ok (.iaload, 1) := by decide +kernel
theorem dX9_many_33 : decode cX9_many 33 = .ok (.ireturn, 1) := by decide +kernel
theorem dX9_times_0 : decode cX9_times 0 = .ok (.aload_n 0, 1) := by decide +kernel
theorem dX9_times_1 : decode cX9_times 1 = .ok (.invokevirtual 117, 3) := by decide +kernel
theorem dX9_times_4 : decode cX9_times 4 = .ok (.ifCond .eq 5, 3) := by decide +kernel
theorem dX9_times_7 : decode cX9_times 7 = .ok (.iconst 0, 1) := by decide +kernel
theorem dX9_times_8 : decode cX9_times 8 = .ok (.ireturn, 1) := by decide +kernel
theorem dX9_times_9 : decode cX9_times 9 = .ok (.iload_n 1, 1) := by decide +kernel
theorem dX9_times_10 : decode cX9_times 10 = .ok (.ifCond .lt 25, 3) := by decide +kernel
theorem dX9_times_13 : decode cX9_times 13 = .ok (.iload_n 1, 1) := by decide +kernel
theorem dX9_times_14 : decode cX9_times 14 = .ok (.aload_n 0, 1) := by decide +kernel
theorem dX9_times_15 : decode cX9_times 15 = .ok (.getfield 48, 3) := by decide +kernel
theorem dX9_times_18 : decode cX9_times 18 = .ok (.if_icmp .ge 17, 3) := by decide +kernel
theorem dX9_times_21 : decode cX9_times 21 = .ok (.iload_n 3, 1) := by decide +kernel
theorem dX9_times_22 : decode cX9_times 22 = .ok (.ifCond .lt 13, 3) := by decide +kernel
theorem dX9_times_25 : decode cX9_times 25 = .ok (.iload_n 3, 1) := by decide +kernel
theorem dX9_times_26 : decode cX9_times 26 = .ok (.bipush 12, 2) := by decide +kernel
theorem dX9_times_28 : decode cX9_times 28 = .ok (.if_icmp .gt 7, 3) := by decide +kernel
theorem dX9_times_31 : decode cX9_times 31 = .ok (.iload_n 2, 1) := by decide +kernel
theorem dX9_times_32 : decode cX9_times 32 = .ok (.ifCond .ge 7, 3) := by decide +kernel
theorem dX9_times_35 : decode cX9_times 35 = .ok (.iconst 1, 1) := by decide +kernel
theorem dX9_times_36 : decode cX9_times 36 = .ok (.goto 4, 3) := by decide +kernel
theorem dX9_times_39 : decode cX9_times 39 = .ok (.iconst 0, 1) := by decide +kernel
theorem dX9_times_40 : decode cX9_times 40 = .ok (.istore 4, 2) := by decide +kernel
theorem dX9_times_42 : decode cX9_times 42 = .ok (.iload 4, 2) := by decide +kernel
theorem dX9_times_44 : decode cX9_times 44 = .ok (.ifCond .ne 20, 3) := by decide +kernel
theorem dX9_times_47 : decode cX9_times 47 = .ok (.iload_n 2, 1) := by decide +kernel
theorem dX9_times_48 : decode cX9_times 48 = .ok (.aload_n 0, 1) := by decide +kernel
theorem dX9_times_49 : decode cX9_times 49 = .ok (.getfield 54, 3) := by decide +kernel
theorem dX9_times_52 : decode cX9_times 52 = .ok (.iload_n 1, 1) := by decide +kernel
theorem dX9_times_53 : decode cX9_times 53 = .ok (.iaload, 1) := by decide +kernel
theorem dX9_times_54 : decode cX9_times 54 = .ok (.if_icmp .lt 7, 3) := by decide +kernel
theorem dX9_times_57 : decode cX9_times 57 = .ok (.iconst 1, 1) := by decide +kernel
theorem dX9_times_58 : decode cX9_times 58 = .ok (.goto 4, 3) := by decide +kernel
theorem dX9_times_61 : decode cX9_times 61 = .ok (.iconst 0, 1) := by decide +kernel
theorem dX9_times_62 : decode cX9_times 62 = .ok (.istore 4, 2) := by decide +kernel
theorem dX9_times_64 : decode cX9_times 64 = .ok (.aload_n 0, 1) := by decide +kernel
theorem dX9_times_65 : decode cX9_times 65 = .ok (.iload 4, 2) := by decide +kernel
theorem dX9_times_67 : decode cX9_times 67 = .ok (.ifCond .eq 7, 3) := by decide +kernel
theorem dX9_times_70 : decode cX9_times 70 = .ok (.iconst 2, 1) := by decide +kernel
theorem dX9_times_71 : decode cX9_times 71 = .ok (.goto 4, 3) := by decide +kernel
theorem dX9_times_74 : decode cX9_times 74 = .ok (.iconst 0, 1) := by decide +kernel
theorem dX9_times_75 : decode cX9_times 75 = .ok (.putfield 7, 3) := by decide +kernel
theorem dX9_times_78 : decode cX9_times 78 = .ok (.iload 4, 2) := by decide +kernel
theorem dX9_times_80 : decode cX9_times 80 = .ok (.ifCond .eq 7, 3) := by decide +kernel
theorem dX9_times_83 : decode cX9_times 83 = .ok (.iconst 0, 1) := by decide +kernel
theorem dX9_times_84 : decode cX9_times 84 = .ok (.goto 20, 3) := by decide +kernel
theorem dX9_times_87 : decode cX9_times 87 = .ok (.aload_n 0, 1) := by decide +kernel
theorem dX9_times_88 : decode cX9_times 88 = .ok (.getfield 57, 3) := by decide +kernel
theorem dX9_times_91 : decode cX9_times 91 = .ok (.sipush 169, 3) := by decide +kernel
theorem dX9_times_94 : decode cX9_times 94 = .ok (.iload_n 1, 1) := by decide +kernel
theorem dX9_times_95 : decode cX9_times 95 = .ok (.imul, 1) := by decide +kernel
theorem dX9_times_96 : decode cX9_times 96 = .ok (.bipush 13, 2) := by decide +kernel
theorem dX9_times_98 : decode cX9_times 98 = .ok (.iload_n 2, 1) := by decide +kernel
theorem dX9_times_99 : decode cX9_times 99 = .ok (.imul, 1) := by decide +kernel
theorem dX9_times_100 : decode cX9_times 100 = .ok (.iadd, 1) := by decide +kernel
theorem dX9_times_101 : decode cX9_times 101 = .ok (.iload_n 3, 1) := by decide +kernel
theorem dX9_times_102 : decode cX9_times 102 = .ok (.iadd, 1) := by decide +kernel
theorem dX9_times_103 : decode cX9_times 103 = .ok (.iaload, 1) := by decide +kernel
theorem dX9_times_104 : decode cX9_times 104 = .ok (.ireturn, 1) := by decide +kernel
theorem dX9_start_0 : decode cX9_start 0 = .ok (.aload_n 0, 1) := by decide +kernel
theorem dX9_start_1 : decode cX9_start 1 = .ok (.iconst 0, 1) := by decide +kernel
theorem dX9_start_2 : decode cX9_start 2 = .ok (.putfield 7, 3) := by decide +kernel
theorem dX9_start_5 : decode cX9_start 5 = .ok (.aload_n 0, 1) := by decide +kernel
theorem dX9_start_6 : decode cX9_start 6 = .ok (.getfield 23, 3) := by decide +kernel
theorem dX9_start_9 : decode cX9_start 9 = .ok (.bipush 12, 2) := by decide +kernel
theorem dX9_start_11 : decode cX9_start 11 = .ok (.if_icmp .ne 5, 3) := by decide +kernel
theorem dX9_start_14 : decode cX9_start 14 = .ok (.iconst 0, 1) := by decide +kernel
theorem dX9_start_15 : decode cX9_start 15 = .ok (.ireturn, 1) := by decide +kernel
theorem dX9_start_16 : decode cX9_start 16 = .ok (.aload_n 0, 1) := by decide +kernel
theorem dX9_start_17 : decode cX9_start 17 = .ok (.getfield 20, 3) := by decide +kernel
theorem dX9_start_20 : decode cX9_start 20 = .ok (.aload_n 0, 1) := by decide +kernel
theorem dX9_start_21 : decode cX9_start 21 = .ok (.getfield 23, 3) := by decide +kernel
theorem dX9_start_24 : decode cX9_start 24 = .ok (.lload_n 1, 1) := by decide +kernel
theorem dX9_start_25 : decode cX9_start 25 = .ok (.invokestatic 95, 3) := by decide +kernel
theorem dX9_start_28 : decode cX9_start 28 = .ok (.iastore, 1) := by decide +kernel
theorem dX9_start_29 : decode cX9_start 29 = .ok (.aload_n 0, 1) := by decide +kernel
theorem dX9_start_30 : decode cX9_start 30 = .ok (.dup, 1) := by decide +kernel
theorem dX9_start_31 : decode cX9_start 31 = .ok (.getfield 23, 3) := by decide +kernel
theorem dX9_start_34 : decode cX9_start 34 = .ok (.iconst 1, 1) := by decide +kernel
theorem dX9_start_35 : decode cX9_start 35 = .ok (.iadd, 1) := by decide +kernel
theorem dX9_start_36 : decode cX9_start 36 = .ok (.putfield 23, 3) := by decide +kernel
theorem dX9_start_39 : decode cX9_start 39 = .ok (.iconst 1, 1) := by decide +kernel
theorem dX9_start_40 : decode cX9_start 40 = .ok (.ireturn, 1) := by decide +kernel
theorem dX9_value_0 : decode cX9_value 0 = .ok (.aload_n 0, 1) := by decide +kernel
theorem dX9_value_1 : decode cX9_value 1 = .ok (.iload_n 1, 1) := by decide +kernel
theorem dX9_value_2 : decode cX9_value 2 = .ok (.ifCond .lt 10, 3) := by decide +kernel
theorem dX9_value_5 : decode cX9_value 5 = .ok (.iload_n 1, 1) := by decide +kernel
theorem dX9_value_6 : decode cX9_value 6 = .ok (.sipush 300, 3) := by decide +kernel
theorem dX9_value_9 : decode cX9_value 9 = .ok (.if_icmp .le 7, 3) := by decide +kernel
theorem dX9_value_12 : decode cX9_value 12 = .ok (.iconst 1, 1) := by decide +kernel
theorem dX9_value_13 : decode cX9_value 13 = .ok (.goto 4, 3) := by decide +kernel
theorem dX9_value_16 : decode cX9_value 16 = .ok (.iconst 0, 1) := by decide +kernel
theorem dX9_value_17 : decode cX9_value 17 = .ok (.putfield 7, 3) := by decide +kernel
theorem dX9_value_20 : decode cX9_value 20 = .ok (.aload_n 0, 1) := by decide +kernel
theorem dX9_value_21 : decode cX9_value 21 = .ok (.getfield 7, 3) := by decide +kernel
theorem dX9_value_24 : decode cX9_value 24 = .ok (.ifCond .eq 5, 3) := by decide +kernel
theorem dX9_value_27 : decode cX9_value 27 = .ok (.iconst 0, 1) := by decide +kernel
theorem dX9_value_28 : decode cX9_value 28 = .ok (.ireturn, 1) := by decide +kernel
theorem dX9_value_29 : decode cX9_value 29 = .ok (.aload_n 0, 1) := by decide +kernel
theorem dX9_value_30 : decode cX9_value 30 = .ok (.invokevirtual 99, 3) := by decide +kernel
theorem dX9_value_33 : decode cX9_value 33 = .ok (.istore_n 2, 1) := by decide +kernel
theorem dX9_value_34 : decode cX9_value 34 = .ok (.iload_n 2, 1) := by decide +kernel
theorem dX9_value_35 : decode cX9_value 35 = .ok (.ifCond .lt 11, 3) := by decide +kernel
theorem dX9_value_38 : decode cX9_value 38 = .ok (.aload_n 0, 1) := by decide +kernel
theorem dX9_value_39 : decode cX9_value 39 = .ok (.getfield 23, 3) := by decide +kernel
theorem dX9_value_42 : decode cX9_value 42 = .ok (.iload_n 2, 1) := by decide +kernel
theorem dX9_value_43 : decode cX9_value 43 = .ok (.if_icmp .ge 5, 3) := by decide +kernel
theorem dX9_value_46 : decode cX9_value 46 = .ok (.iconst (-1), 1) := by decide +kernel
theorem dX9_value_47 : decode cX9_value 47 = .ok (.ireturn, 1) := by decide +kernel
theorem dX9_value_48 : decode cX9_value 48 = .ok (.iconst 0, 1) := by decide +kernel
theorem dX9_value_49 : decode cX9_value 49 = .ok (.istore_n 3, 1) := by decide +kernel
theorem dX9_value_50 : decode cX9_value 50 = .ok (.iload_n 3, 1) := by decide +kernel
theorem dX9_value_51 : decode cX9_value 51 = .ok (.iload_n 1, 1) := by decide +kernel
theorem dX9_value_52 : decode cX9_value 52 = .ok (.if_icmp .gt 156, 3) := by decide +kernel
theorem dX9_value_55 : decode cX9_value 55 = .ok (.iload_n 3, 1) := by decide +kernel
theorem dX9_value_56 : decode cX9_value 56 = .ok (.aload_n 0, 1) := by decide +kernel
theorem dX9_value_57 : decode cX9_value 57 = .ok (.getfield 23, 3) := by decide +kernel
theorem dX9_value_60 : decode cX9_value 60 = .ok (.if_icmp .ge 18, 3) := by decide +kernel
theorem dX9_value_63 : decode cX9_value 63 = .ok (.aload_n 0, 1) := by decide +kernel
theorem dX9_value_64 : decode cX9_value 64 = .ok (.getfield 29, 3) := by decide +kernel
theorem dX9_value_67 : decode cX9_value 67 = .ok (.iload_n 3, 1) := by decide +kernel
theorem dX9_value_68 : decode cX9_value 68 = .ok (.aload_n 0, 1) := by decide +kernel
theorem dX9_value_69 : decode cX9_value 69 = .ok (.getfield 20, 3) := by decide +kernel
theorem dX9_value_72 : decode cX9_value 72 = .ok (.iload_n 3, 1) := by decide +kernel
theorem dX9_value_73 : decode cX9_value 73 = .ok (.iaload, 1) := by decide +kernel
theorem dX9_value_74 : decode cX9_value 74 = .ok (.iastore, 1) := by decide +kernel
theorem dX9_value_75 : decode cX9_value 75 = .ok (.goto 127, 3) := by decide +kernel
theorem dX9_value_78 : decode cX9_value 78 = .ok (.iload_n 3, 1) := by decide +kernel
theorem dX9_value_79 : decode cX9_value 79 = .ok (.iload_n 2, 1) := by decide +kernel
theorem dX9_value_80 : decode cX9_value 80 = .ok (.isub, 1) := by decide +kernel
theorem dX9_value_81 : decode cX9_value 81 = .ok (.istore 4, 2) := by decide +kernel
theorem dX9_value_83 : decode cX9_value 83 = .ok (.aload_n 0, 1) := by decide +kernel
theorem dX9_value_84 : decode cX9_value 84 = .ok (.aload_n 0, 1) := by decide +kernel
theorem dX9_value_85 : decode cX9_value 85 = .ok (.getfield 13, 3) := by decide +kernel
theorem dX9_value_88 : decode cX9_value 88 = .ok (.bipush 7, 2) := by decide +kernel
theorem dX9_value_90 : decode cX9_value 90 = .ok (.iload_n 2, 1) := by decide +kernel
theorem dX9_value_91 : decode cX9_value 91 = .ok (.imul, 1) := by decide +kernel
theorem dX9_value_92 : decode cX9_value 92 = .ok (.bipush 7, 2) := by decide +kernel
theorem dX9_value_94 : decode cX9_value 94 = .ok (.iload 4, 2) := by decide +kernel
theorem dX9_value_96 : decode cX9_value 96 = .ok (.invokevirtual 121, 3) := by decide +kernel
theorem dX9_value_99 : decode cX9_value 99 = .ok (.istore 5, 2) := by decide +kernel
theorem dX9_value_101 : decode cX9_value 101 = .ok (.iload 5, 2) := by decide +kernel
theorem dX9_value_103 : decode cX9_value 103 = .ok (.ifCond .ne 5, 3) := by decide +kernel
theorem dX9_value_106 : decode cX9_value 106 = .ok (.iconst (-1), 1) := by decide +kernel
theorem dX9_value_107 : decode cX9_value 107 = .ok (.ireturn, 1) := by decide +kernel
theorem dX9_value_108 : decode cX9_value 108 = .ok (.aload_n 0, 1) := by decide +kernel
theorem dX9_value_109 : decode cX9_value 109 = .ok (.aload_n 0, 1) := by decide +kernel
theorem dX9_value_110 : decode cX9_value 110 = .ok (.getfield 17, 3) := by decide +kernel
theorem dX9_value_113 : decode cX9_value 113 = .ok (.iconst 0, 1) := by decide +kernel
theorem dX9_value_114 : decode cX9_value 114 = .ok (.bipush 11, 2) := by decide +kernel
theorem dX9_value_116 : decode cX9_value 116 = .ok (.iload 4, 2) := by decide +kernel
theorem dX9_value_118 : decode cX9_value 118 = .ok (.invokevirtual 121, 3) := by decide +kernel
theorem dX9_value_121 : decode cX9_value 121 = .ok (.i2l, 1) := by decide +kernel
theorem dX9_value_122 : decode cX9_value 122 = .ok (.lstore 6, 2) := by decide +kernel
theorem dX9_value_124 : decode cX9_value 124 = .ok (.iconst 0, 1) := by decide +kernel
theorem dX9_value_125 : decode cX9_value 125 = .ok (.istore 8, 2) := by decide +kernel
theorem dX9_value_127 : decode cX9_value 127 = .ok (.iload 8, 2) := by decide +kernel
theorem dX9_value_129 : decode cX9_value 129 = .ok (.iload_n 2, 1) := by decide +kernel
theorem dX9_value_130 : decode cX9_value 130 = .ok (.if_icmp .ge 52, 3) := by decide +kernel
theorem dX9_value_133 : decode cX9_value 133 = .ok (.lload 6, 2) := by decide +kernel
theorem dX9_value_135 : decode cX9_value 135 = .ok (.sipush 32003, 3) := by decide +kernel
theorem dX9_value_138 : decode cX9_value 138 = .ok (.aload_n 0, 1) := by decide +kernel
theorem dX9_value_139 : decode cX9_value 139 = .ok (.aload_n 0, 1) := by decide +kernel
theorem dX9_value_140 : decode cX9_value 140 = .ok (.getfield 13, 3) := by decide +kernel
theorem dX9_value_143 : decode cX9_value 143 = .ok (.bipush 7, 2) := by decide +kernel
theorem dX9_value_145 : decode cX9_value 145 = .ok (.iload 8, 2) := by decide +kernel
theorem dX9_value_147 : decode cX9_value 147 = .ok (.imul, 1) := by decide +kernel
theorem dX9_value_148 : decode cX9_value 148 = .ok (.bipush 7, 2) := by decide +kernel
theorem dX9_value_150 : decode cX9_value 150 = .ok (.iload 4, 2) := by decide +kernel
theorem dX9_value_152 : decode cX9_value 152 = .ok (.invokevirtual 121, 3) := by decide +kernel
theorem dX9_value_155 : decode cX9_value 155 = .ok (.isub, 1) := by decide +kernel
theorem dX9_value_156 : decode cX9_value 156 = .ok (.i2l, 1) := by decide +kernel
theorem dX9_value_157 : decode cX9_value 157 = .ok (.aload_n 0, 1) := by decide +kernel
theorem dX9_value_158 : decode cX9_value 158 = .ok (.getfield 29, 3) := by decide +kernel
theorem dX9_value_161 : decode cX9_value 161 = .ok (.iload 4, 2) := by decide +kernel
theorem dX9_value_163 : decode cX9_value 163 = .ok (.iload 8, 2) := by decide +kernel
theorem dX9_value_165 : decode cX9_value 165 = .ok (.iadd, 1) := by decide +kernel
theorem dX9_value_166 : decode cX9_value 166 = .ok (.iaload, 1) := by decide +kernel
theorem dX9_value_167 : decode cX9_value 167 = .ok (.i2l, 1) := by decide +kernel
theorem dX9_value_168 : decode cX9_value 168 = .ok (.lmul, 1) := by decide +kernel
theorem dX9_value_169 : decode cX9_value 169 = .ok (.ladd, 1) := by decide +kernel
theorem dX9_value_170 : decode cX9_value 170 = .ok (.ldc2_w 78, 3) := by decide +kernel
theorem dX9_value_173 : decode cX9_value 173 = .ok (.lrem, 1) := by decide +kernel
theorem dX9_value_174 : decode cX9_value 174 = .ok (.lstore 6, 2) := by decide +kernel
theorem dX9_value_176 : decode cX9_value 176 = .ok (.iinc 8 1, 3) := by decide +kernel
theorem dX9_value_179 : decode cX9_value 179 = .ok (.goto (-52), 3) := by decide +kernel
theorem dX9_value_182 : decode cX9_value 182 = .ok (.aload_n 0, 1) := by decide +kernel
theorem dX9_value_183 : decode cX9_value 183 = .ok (.getfield 29, 3) := by decide +kernel
theorem dX9_value_186 : decode cX9_value 186 = .ok (.iload_n 3, 1) := by decide +kernel
theorem dX9_value_187 : decode cX9_value 187 = .ok (.lload 6, 2) := by decide +kernel
theorem dX9_value_189 : decode cX9_value 189 = .ok (.iload 5, 2) := by decide +kernel
theorem dX9_value_191 : decode cX9_value 191 = .ok (.invokestatic 91, 3) := by decide +kernel
theorem dX9_value_194 : decode cX9_value 194 = .ok (.i2l, 1) := by decide +kernel
theorem dX9_value_195 : decode cX9_value 195 = .ok (.lmul, 1) := by decide +kernel
theorem dX9_value_196 : decode cX9_value 196 = .ok (.ldc2_w 78, 3) := by decide +kernel
theorem dX9_value_199 : decode cX9_value 199 = .ok (.lrem, 1) := by decide +kernel
theorem dX9_value_200 : decode cX9_value 200 = .ok (.l2i, 1) := by decide +kernel
theorem dX9_value_201 : decode cX9_value 201 = .ok (.iastore, 1) := by decide +kernel
theorem dX9_value_202 : decode cX9_value 202 = .ok (.iinc 3 1, 3) := by decide +kernel
theorem dX9_value_205 : decode cX9_value 205 = .ok (.goto (-155), 3) := by decide +kernel
theorem dX9_value_208 : decode cX9_value 208 = .ok (.aload_n 0, 1) := by decide +kernel
theorem dX9_value_209 : decode cX9_value 209 = .ok (.getfield 29, 3) := by decide +kernel
theorem dX9_value_212 : decode cX9_value 212 = .ok (.iload_n 1, 1) := by decide +kernel
theorem dX9_value_213 : decode cX9_value 213 = .ok (.iaload, 1) := by decide +kernel
theorem dX9_value_214 : decode cX9_value 214 = .ok (.ireturn, 1) := by decide +kernel
theorem dX9_singular_0 : decode cX9_singular 0 = .ok (.aload_n 0, 1) := by decide +kernel
theorem dX9_singular_1 : decode cX9_singular 1 = .ok (.iconst 0, 1) := by decide +kernel
theorem dX9_singular_2 : decode cX9_singular 2 = .ok (.putfield 7, 3) := by decide +kernel
theorem dX9_singular_5 : decode cX9_singular 5 = .ok (.aload_n 0, 1) := by decide +kernel
theorem dX9_singular_6 : decode cX9_singular 6 = .ok (.invokevirtual 99, 3) := by decide +kernel
theorem dX9_singular_9 : decode cX9_singular 9 = .ok (.istore_n 2, 1) := by decide +kernel
theorem dX9_singular_10 : decode cX9_singular 10 = .ok (.iconst 0, 1) := by decide +kernel
theorem dX9_singular_11 : decode cX9_singular 11 = .ok (.istore_n 3, 1) := by decide +kernel
theorem dX9_singular_12 : decode cX9_singular 12 = .ok (.iconst 0, 1) := by decide +kernel
theorem dX9_singular_13 : decode cX9_singular 13 = .ok (.istore 4, 2) := by decide +kernel
theorem dX9_singular_15 : decode cX9_singular 15 = .ok (.iload 4, 2) := by decide +kernel
theorem dX9_singular_17 : decode cX9_singular 17 = .ok (.sipush 32003, 3) := by decide +kernel
theorem dX9_singular_20 : decode cX9_singular 20 = .ok (.if_icmp .ge 47, 3) := by decide +kernel
theorem dX9_singular_23 : decode cX9_singular 23 = .ok (.iload_n 2, 1) := by decide +kernel
theorem dX9_singular_24 : decode cX9_singular 24 = .ok (.ifCond .lt 43, 3) := by decide +kernel
theorem dX9_singular_27 : decode cX9_singular 27 = .ok (.iload_n 1, 1) := by decide +kernel
theorem dX9_singular_28 : decode cX9_singular 28 = .ok (.ifCond .lt 39, 3) := by decide +kernel
theorem dX9_singular_31 : decode cX9_singular 31 = .ok (.aload_n 0, 1) := by decide +kernel
theorem dX9_singular_32 : decode cX9_singular 32 = .ok (.aload_n 0, 1) := by decide +kernel
theorem dX9_singular_33 : decode cX9_singular 33 = .ok (.getfield 13, 3) := by decide +kernel
theorem dX9_singular_36 : decode cX9_singular 36 = .ok (.bipush 7, 2) := by decide +kernel
theorem dX9_singular_38 : decode cX9_singular 38 = .ok (.iload_n 2, 1) := by decide +kernel
theorem dX9_singular_39 : decode cX9_singular 39 = .ok (.imul, 1) := by decide +kernel
theorem dX9_singular_40 : decode cX9_singular 40 = .ok (.bipush 7, 2) := by decide +kernel
theorem dX9_singular_42 : decode cX9_singular 42 = .ok (.iload 4, 2) := by decide +kernel
theorem dX9_singular_44 : decode cX9_singular 44 = .ok (.invokevirtual 121, 3) := by decide +kernel
theorem dX9_singular_47 : decode cX9_singular 47 = .ok (.ifCond .ne 14, 3) := by decide +kernel
theorem dX9_singular_50 : decode cX9_singular 50 = .ok (.iload_n 3, 1) := by decide +kernel
theorem dX9_singular_51 : decode cX9_singular 51 = .ok (.iload_n 1, 1) := by decide +kernel
theorem dX9_singular_52 : decode cX9_singular 52 = .ok (.if_icmp .ne 6, 3) := by decide +kernel
theorem dX9_singular_55 : decode cX9_singular 55 = .ok (.iload 4, 2) := by decide +kernel
theorem dX9_singular_57 : decode cX9_singular 57 = .ok (.ireturn, 1) := by decide +kernel
theorem dX9_singular_58 : decode cX9_singular 58 = .ok (.iinc 3 1, 3) := by decide +kernel
theorem dX9_singular_61 : decode cX9_singular 61 = .ok (.iinc 4 1, 3) := by decide +kernel
theorem dX9_singular_64 : decode cX9_singular 64 = .ok (.goto (-49), 3) := by decide +kernel
theorem dX9_singular_67 : decode cX9_singular 67 = .ok (.iconst (-1), 1) := by decide +kernel
theorem dX9_singular_68 : decode cX9_singular 68 = .ok (.ireturn, 1) := by decide +kernel
theorem dX9_end_0 : decode cX9_end 0 = .ok (.aload_n 0, 1) := by decide +kernel
theorem dX9_end_1 : decode cX9_end 1 = .ok (.iload_n 1, 1) := by decide +kernel
theorem dX9_end_2 : decode cX9_end 2 = .ok (.ifCond .lt 8, 3) := by decide +kernel
theorem dX9_end_5 : decode cX9_end 5 = .ok (.iload_n 1, 1) := by decide +kernel
theorem dX9_end_6 : decode cX9_end 6 = .ok (.iconst 1, 1) := by decide +kernel
theorem dX9_end_7 : decode cX9_end 7 = .ok (.if_icmp .le 7, 3) := by decide +kernel
theorem dX9_end_10 : decode cX9_end 10 = .ok (.iconst 1, 1) := by decide +kernel
theorem dX9_end_11 : decode cX9_end 11 = .ok (.goto 4, 3) := by decide +kernel
theorem dX9_end_14 : decode cX9_end 14 = .ok (.iconst 0, 1) := by decide +kernel
theorem dX9_end_15 : decode cX9_end 15 = .ok (.putfield 7, 3) := by decide +kernel
theorem dX9_end_18 : decode cX9_end 18 = .ok (.aload_n 0, 1) := by decide +kernel
theorem dX9_end_19 : decode cX9_end 19 = .ok (.getfield 7, 3) := by decide +kernel
theorem dX9_end_22 : decode cX9_end 22 = .ok (.ifCond .eq 5, 3) := by decide +kernel
theorem dX9_end_25 : decode cX9_end 25 = .ok (.iconst 0, 1) := by decide +kernel
theorem dX9_end_26 : decode cX9_end 26 = .ok (.ireturn, 1) := by decide +kernel
theorem dX9_end_27 : decode cX9_end 27 = .ok (.iload_n 1, 1) := by decide +kernel
