theorem dX9_end_28 : decode cX9_end 28 = .ok (.iconst 1, 1) := by decide +kernel
theorem dX9_end_29 : decode cX9_end 29 = .ok (.if_icmp .ne 8, 3) := by decide +kernel
theorem dX9_end_32 : decode cX9_end 32 = .ok (.aload_n 0, 1) := by decide +kernel
theorem dX9_end_33 : decode cX9_end 33 = .ok (.invokevirtual 99, 3) := by decide +kernel
theorem dX9_end_36 : decode cX9_end 36 = .ok (.ireturn, 1) := by decide +kernel
theorem dX9_end_37 : decode cX9_end 37 = .ok (.iconst 0, 1) := by decide +kernel
theorem dX9_end_38 : decode cX9_end 38 = .ok (.istore_n 2, 1) := by decide +kernel
theorem dX9_end_39 : decode cX9_end 39 = .ok (.iload_n 2, 1) := by decide +kernel
theorem dX9_end_40 : decode cX9_end 40 = .ok (.bipush 7, 2) := by decide +kernel
theorem dX9_end_42 : decode cX9_end 42 = .ok (.aload_n 0, 1) := by decide +kernel
theorem dX9_end_43 : decode cX9_end 43 = .ok (.getfield 75, 3) := by decide +kernel
theorem dX9_end_46 : decode cX9_end 46 = .ok (.imul, 1) := by decide +kernel
theorem dX9_end_47 : decode cX9_end 47 = .ok (.bipush 7, 2) := by decide +kernel
theorem dX9_end_49 : decode cX9_end 49 = .ok (.iadd, 1) := by decide +kernel
theorem dX9_end_50 : decode cX9_end 50 = .ok (.if_icmp .ge 23, 3) := by decide +kernel
theorem dX9_end_53 : decode cX9_end 53 = .ok (.aload_n 0, 1) := by decide +kernel
theorem dX9_end_54 : decode cX9_end 54 = .ok (.getfield 13, 3) := by decide +kernel
theorem dX9_end_57 : decode cX9_end 57 = .ok (.iload_n 2, 1) := by decide +kernel
theorem dX9_end_58 : decode cX9_end 58 = .ok (.iaload, 1) := by decide +kernel
theorem dX9_end_59 : decode cX9_end 59 = .ok (.ifCond .eq 8, 3) := by decide +kernel
theorem dX9_end_62 : decode cX9_end 62 = .ok (.iload_n 2, 1) := by decide +kernel
theorem dX9_end_63 : decode cX9_end 63 = .ok (.bipush 7, 2) := by decide +kernel
theorem dX9_end_65 : decode cX9_end 65 = .ok (.idiv, 1) := by decide +kernel
theorem dX9_end_66 : decode cX9_end 66 = .ok (.ireturn, 1) := by decide +kernel
theorem dX9_end_67 : decode cX9_end 67 = .ok (.iinc 2 1, 3) := by decide +kernel
theorem dX9_end_70 : decode cX9_end 70 = .ok (.goto (-31), 3) := by decide +kernel
theorem dX9_end_73 : decode cX9_end 73 = .ok (.iconst (-1), 1) := by decide +kernel
theorem dX9_end_74 : decode cX9_end 74 = .ok (.ireturn, 1) := by decide +kernel
theorem dX9_rest_0 : decode cX9_rest 0 = .ok (.aload_n 0, 1) := by decide +kernel
theorem dX9_rest_1 : decode cX9_rest 1 = .ok (.iload_n 1, 1) := by decide +kernel
theorem dX9_rest_2 : decode cX9_rest 2 = .ok (.ifCond .lt 9, 3) := by decide +kernel
theorem dX9_rest_5 : decode cX9_rest 5 = .ok (.iload_n 1, 1) := by decide +kernel
theorem dX9_rest_6 : decode cX9_rest 6 = .ok (.bipush 18, 2) := by decide +kernel
theorem dX9_rest_8 : decode cX9_rest 8 = .ok (.if_icmp .le 7, 3) := by decide +kernel
theorem dX9_rest_11 : decode cX9_rest 11 = .ok (.iconst 1, 1) := by decide +kernel
theorem dX9_rest_12 : decode cX9_rest 12 = .ok (.goto 4, 3) := by decide +kernel
theorem dX9_rest_15 : decode cX9_rest 15 = .ok (.iconst 0, 1) := by decide +kernel
theorem dX9_rest_16 : decode cX9_rest 16 = .ok (.putfield 7, 3) := by decide +kernel
theorem dX9_rest_19 : decode cX9_rest 19 = .ok (.aload_n 0, 1) := by decide +kernel
theorem dX9_rest_20 : decode cX9_rest 20 = .ok (.getfield 7, 3) := by decide +kernel
theorem dX9_rest_23 : decode cX9_rest 23 = .ok (.ifCond .eq 5, 3) := by decide +kernel
theorem dX9_rest_26 : decode cX9_rest 26 = .ok (.iconst 0, 1) := by decide +kernel
theorem dX9_rest_27 : decode cX9_rest 27 = .ok (.ireturn, 1) := by decide +kernel
theorem dX9_rest_28 : decode cX9_rest 28 = .ok (.aload_n 0, 1) := by decide +kernel
theorem dX9_rest_29 : decode cX9_rest 29 = .ok (.aload_n 0, 1) := by decide +kernel
theorem dX9_rest_30 : decode cX9_rest 30 = .ok (.getfield 26, 3) := by decide +kernel
theorem dX9_rest_33 : decode cX9_rest 33 = .ok (.iconst 1, 1) := by decide +kernel
theorem dX9_rest_34 : decode cX9_rest 34 = .ok (.invokevirtual 88, 3) := by decide +kernel
theorem dX9_rest_37 : decode cX9_rest 37 = .ok (.aload_n 0, 1) := by decide +kernel
theorem dX9_rest_38 : decode cX9_rest 38 = .ok (.getfield 63, 3) := by decide +kernel
theorem dX9_rest_41 : decode cX9_rest 41 = .ok (.iload_n 1, 1) := by decide +kernel
theorem dX9_rest_42 : decode cX9_rest 42 = .ok (.iaload, 1) := by decide +kernel
theorem dX9_rest_43 : decode cX9_rest 43 = .ok (.sipush 32003, 3) := by decide +kernel
theorem dX9_rest_46 : decode cX9_rest 46 = .ok (.iadd, 1) := by decide +kernel
theorem dX9_rest_47 : decode cX9_rest 47 = .ok (.iload_n 1, 1) := by decide +kernel
theorem dX9_rest_48 : decode cX9_rest 48 = .ok (.bipush 11, 2) := by decide +kernel
theorem dX9_rest_50 : decode cX9_rest 50 = .ok (.if_icmp .ge 12, 3) := by decide +kernel
theorem dX9_rest_53 : decode cX9_rest 53 = .ok (.aload_n 0, 1) := by decide +kernel
theorem dX9_rest_54 : decode cX9_rest 54 = .ok (.getfield 17, 3) := by decide +kernel
theorem dX9_rest_57 : decode cX9_rest 57 = .ok (.iload_n 1, 1) := by decide +kernel
theorem dX9_rest_58 : decode cX9_rest 58 = .ok (.iaload, 1) := by decide +kernel
theorem dX9_rest_59 : decode cX9_rest 59 = .ok (.goto 4, 3) := by decide +kernel
theorem dX9_rest_62 : decode cX9_rest 62 = .ok (.iconst 0, 1) := by decide +kernel
theorem dX9_rest_63 : decode cX9_rest 63 = .ok (.isub, 1) := by decide +kernel
theorem dX9_rest_64 : decode cX9_rest 64 = .ok (.sipush 32003, 3) := by decide +kernel
theorem dX9_rest_67 : decode cX9_rest 67 = .ok (.irem, 1) := by decide +kernel
theorem dX9_rest_68 : decode cX9_rest 68 = .ok (.ireturn, 1) := by decide +kernel
theorem dX9_put_0 : decode cX9_put 0 = .ok (.aload_n 0, 1) := by decide +kernel
theorem dX9_put_1 : decode cX9_put 1 = .ok (.iload_n 1, 1) := by decide +kernel
theorem dX9_put_2 : decode cX9_put 2 = .ok (.ifCond .lt 9, 3) := by decide +kernel
theorem dX9_put_5 : decode cX9_put 5 = .ok (.iload_n 1, 1) := by decide +kernel
theorem dX9_put_6 : decode cX9_put 6 = .ok (.bipush 12, 2) := by decide +kernel
theorem dX9_put_8 : decode cX9_put 8 = .ok (.if_icmp .le 7, 3) := by decide +kernel
theorem dX9_put_11 : decode cX9_put 11 = .ok (.iconst 1, 1) := by decide +kernel
theorem dX9_put_12 : decode cX9_put 12 = .ok (.goto 4, 3) := by decide +kernel
theorem dX9_put_15 : decode cX9_put 15 = .ok (.iconst 0, 1) := by decide +kernel
theorem dX9_put_16 : decode cX9_put 16 = .ok (.putfield 7, 3) := by decide +kernel
theorem dX9_put_19 : decode cX9_put 19 = .ok (.aload_n 0, 1) := by decide +kernel
theorem dX9_put_20 : decode cX9_put 20 = .ok (.getfield 7, 3) := by decide +kernel
theorem dX9_put_23 : decode cX9_put 23 = .ok (.ifCond .eq 5, 3) := by decide +kernel
theorem dX9_put_26 : decode cX9_put 26 = .ok (.iconst 0, 1) := by decide +kernel
theorem dX9_put_27 : decode cX9_put 27 = .ok (.ireturn, 1) := by decide +kernel
theorem dX9_put_28 : decode cX9_put 28 = .ok (.iload_n 2, 1) := by decide +kernel
theorem dX9_put_29 : decode cX9_put 29 = .ok (.i2l, 1) := by decide +kernel
theorem dX9_put_30 : decode cX9_put 30 = .ok (.invokestatic 95, 3) := by decide +kernel
theorem dX9_put_33 : decode cX9_put 33 = .ok (.istore_n 3, 1) := by decide +kernel
theorem dX9_put_34 : decode cX9_put 34 = .ok (.aload_n 0, 1) := by decide +kernel
theorem dX9_put_35 : decode cX9_put 35 = .ok (.getfield 26, 3) := by decide +kernel
theorem dX9_put_38 : decode cX9_put 38 = .ok (.iload_n 1, 1) := by decide +kernel
theorem dX9_put_39 : decode cX9_put 39 = .ok (.iaload, 1) := by decide +kernel
theorem dX9_put_40 : decode cX9_put 40 = .ok (.iload_n 3, 1) := by decide +kernel
theorem dX9_put_41 : decode cX9_put 41 = .ok (.if_icmp .eq 7, 3) := by decide +kernel
theorem dX9_put_44 : decode cX9_put 44 = .ok (.iconst 1, 1) := by decide +kernel
theorem dX9_put_45 : decode cX9_put 45 = .ok (.goto 4, 3) := by decide +kernel
theorem dX9_put_48 : decode cX9_put 48 = .ok (.iconst 0, 1) := by decide +kernel
theorem dX9_put_49 : decode cX9_put 49 = .ok (.istore 4, 2) := by decide +kernel
theorem dX9_put_51 : decode cX9_put 51 = .ok (.aload_n 0, 1) := by decide +kernel
theorem dX9_put_52 : decode cX9_put 52 = .ok (.getfield 26, 3) := by decide +kernel
theorem dX9_put_55 : decode cX9_put 55 = .ok (.iload_n 1, 1) := by decide +kernel
theorem dX9_put_56 : decode cX9_put 56 = .ok (.iload_n 3, 1) := by decide +kernel
theorem dX9_put_57 : decode cX9_put 57 = .ok (.iastore, 1) := by decide +kernel
theorem dX9_put_58 : decode cX9_put 58 = .ok (.iload 4, 2) := by decide +kernel
theorem dX9_put_60 : decode cX9_put 60 = .ok (.ireturn, 1) := by decide +kernel
theorem dX9_clear_0 : decode cX9_clear 0 = .ok (.aload_n 0, 1) := by decide +kernel
theorem dX9_clear_1 : decode cX9_clear 1 = .ok (.iconst 0, 1) := by decide +kernel
theorem dX9_clear_2 : decode cX9_clear 2 = .ok (.putfield 7, 3) := by decide +kernel
theorem dX9_clear_5 : decode cX9_clear 5 = .ok (.aload_n 0, 1) := by decide +kernel
theorem dX9_clear_6 : decode cX9_clear 6 = .ok (.iconst 0, 1) := by decide +kernel
theorem dX9_clear_7 : decode cX9_clear 7 = .ok (.putfield 32, 3) := by decide +kernel
theorem dX9_clear_10 : decode cX9_clear 10 = .ok (.aload_n 0, 1) := by decide +kernel
theorem dX9_clear_11 : decode cX9_clear 11 = .ok (.iconst 0, 1) := by decide +kernel
theorem dX9_clear_12 : decode cX9_clear 12 = .ok (.putfield 23, 3) := by decide +kernel
theorem dX9_clear_15 : decode cX9_clear 15 = .ok (.iconst 0, 1) := by decide +kernel
theorem dX9_clear_16 : decode cX9_clear 16 = .ok (.istore_n 1, 1) := by decide +kernel
theorem dX9_clear_17 : decode cX9_clear 17 = .ok (.iload_n 1, 1) := by decide +kernel
theorem dX9_clear_18 : decode cX9_clear 18 = .ok (.bipush 35, 2) := by decide +kernel
theorem dX9_clear_20 : decode cX9_clear 20 = .ok (.if_icmp .ge 16, 3) := by decide +kernel
theorem dX9_clear_23 : decode cX9_clear 23 = .ok (.aload_n 0, 1) := by decide +kernel
theorem dX9_clear_24 : decode cX9_clear 24 = .ok (.getfield 13, 3) := by decide +kernel
theorem dX9_clear_27 : decode cX9_clear 27 = .ok (.iload_n 1, 1) := by decide +kernel
theorem dX9_clear_28 : decode cX9_clear 28 = .ok (.iconst 0, 1) := by decide +kernel
theorem dX9_clear_29 : decode cX9_clear 29 = .ok (.iastore, 1) := by decide +kernel
theorem dX9_clear_30 : decode cX9_clear 30 = .ok (.iinc 1 1, 3) := by decide +kernel
theorem dX9_clear_33 : decode cX9_clear 33 = .ok (.goto (-16), 3) := by decide +kernel
theorem dX9_clear_36 : decode cX9_clear 36 = .ok (.iconst 0, 1) := by decide +kernel
theorem dX9_clear_37 : decode cX9_clear 37 = .ok (.istore_n 1, 1) := by decide +kernel
theorem dX9_clear_38 : decode cX9_clear 38 = .ok (.iload_n 1, 1) := by decide +kernel
theorem dX9_clear_39 : decode cX9_clear 39 = .ok (.bipush 11, 2) := by decide +kernel
theorem dX9_clear_41 : decode cX9_clear 41 = .ok (.if_icmp .ge 16, 3) := by decide +kernel
theorem dX9_clear_44 : decode cX9_clear 44 = .ok (.aload_n 0, 1) := by decide +kernel
theorem dX9_clear_45 : decode cX9_clear 45 = .ok (.getfield 17, 3) := by decide +kernel
theorem dX9_clear_48 : decode cX9_clear 48 = .ok (.iload_n 1, 1) := by decide +kernel
theorem dX9_clear_49 : decode cX9_clear 49 = .ok (.iconst 0, 1) := by decide +kernel
theorem dX9_clear_50 : decode cX9_clear 50 = .ok (.iastore, 1) := by decide +kernel
theorem dX9_clear_51 : decode cX9_clear 51 = .ok (.iinc 1 1, 3) := by decide +kernel
theorem dX9_clear_54 : decode cX9_clear 54 = .ok (.goto (-16), 3) := by decide +kernel
theorem dX9_clear_57 : decode cX9_clear 57 = .ok (.iconst 0, 1) := by decide +kernel
theorem dX9_clear_58 : decode cX9_clear 58 = .ok (.istore_n 1, 1) := by decide +kernel
theorem dX9_clear_59 : decode cX9_clear 59 = .ok (.iload_n 1, 1) := by decide +kernel
theorem dX9_clear_60 : decode cX9_clear 60 = .ok (.bipush 13, 2) := by decide +kernel
theorem dX9_clear_62 : decode cX9_clear 62 = .ok (.if_icmp .ge 16, 3) := by decide +kernel
theorem dX9_clear_65 : decode cX9_clear 65 = .ok (.aload_n 0, 1) := by decide +kernel
theorem dX9_clear_66 : decode cX9_clear 66 = .ok (.getfield 26, 3) := by decide +kernel
theorem dX9_clear_69 : decode cX9_clear 69 = .ok (.iload_n 1, 1) := by decide +kernel
theorem dX9_clear_70 : decode cX9_clear 70 = .ok (.iconst 0, 1) := by decide +kernel
theorem dX9_clear_71 : decode cX9_clear 71 = .ok (.iastore, 1) := by decide +kernel
theorem dX9_clear_72 : decode cX9_clear 72 = .ok (.iinc 1 1, 3) := by decide +kernel
theorem dX9_clear_75 : decode cX9_clear 75 = .ok (.goto (-16), 3) := by decide +kernel
theorem dX9_clear_78 : decode cX9_clear 78 = .ok (.return_, 1) := by decide +kernel
theorem dJx00060_init_a7421_0 : decode cJx00060_init_a7421 0 = .ok (.aload_n 0, 1) := by decide +kernel
theorem dJx00060_init_a7421_1 : decode cJx00060_init_a7421 1 = .ok (.aload_n 1, 1) := by decide +kernel
theorem dJx00060_init_a7421_2 : decode cJx00060_init_a7421 2 = .ok (.invokespecial 7, 3) := by decide +kernel
theorem dJx00060_init_a7421_5 : decode cJx00060_init_a7421 5 = .ok (.return_, 1) := by decide +kernel
theorem dJ9_floorMod_f86c9_0 : decode cJ9_floorMod_f86c9 0 = .ok (.lload_n 0, 1) := by decide +kernel
theorem dJ9_floorMod_f86c9_1 : decode cJ9_floorMod_f86c9 1 = .ok (.lload_n 2, 1) := by decide +kernel
theorem dJ9_floorMod_f86c9_2 : decode cJ9_floorMod_f86c9 2 = .ok (.lrem, 1) := by decide +kernel
theorem dJ9_floorMod_f86c9_3 : decode cJ9_floorMod_f86c9 3 = .ok (.lstore 4, 2) := by decide +kernel
theorem dJ9_floorMod_f86c9_5 : decode cJ9_floorMod_f86c9 5 = .ok (.lload_n 0, 1) := by decide +kernel
theorem dJ9_floorMod_f86c9_6 : decode cJ9_floorMod_f86c9 6 = .ok (.lload_n 2, 1) := by decide +kernel
theorem dJ9_floorMod_f86c9_7 : decode cJ9_floorMod_f86c9 7 = .ok (.lxor, 1) := by decide +kernel
theorem dJ9_floorMod_f86c9_8 : decode cJ9_floorMod_f86c9 8 = .ok (.lconst 0, 1) := by decide +kernel
theorem dJ9_floorMod_f86c9_9 : decode cJ9_floorMod_f86c9 9 = .ok (.lcmp, 1) := by decide +kernel
theorem dJ9_floorMod_f86c9_10 : decode cJ9_floorMod_f86c9 10 = .ok (.ifCond .ge 15, 3) := by decide +kernel
theorem dJ9_floorMod_f86c9_13 : decode cJ9_floorMod_f86c9 13 = .ok (.lload 4, 2) := by decide +kernel
theorem dJ9_floorMod_f86c9_15 : decode cJ9_floorMod_f86c9 15 = .ok (.lconst 0, 1) := by decide +kernel
theorem dJ9_floorMod_f86c9_16 : decode cJ9_floorMod_f86c9 16 = .ok (.lcmp, 1) := by decide +kernel
theorem dJ9_floorMod_f86c9_17 : decode cJ9_floorMod_f86c9 17 = .ok (.ifCond .eq 8, 3) := by decide +kernel
theorem dJ9_floorMod_f86c9_20 : decode cJ9_floorMod_f86c9 20 = .ok (.lload 4, 2) := by decide +kernel
theorem dJ9_floorMod_f86c9_22 : decode cJ9_floorMod_f86c9 22 = .ok (.lload_n 2, 1) := by decide +kernel
theorem dJ9_floorMod_f86c9_23 : decode cJ9_floorMod_f86c9 23 = .ok (.ladd, 1) := by decide +kernel
theorem dJ9_floorMod_f86c9_24 : decode cJ9_floorMod_f86c9 24 = .ok (.lreturn, 1) := by decide +kernel
theorem dJ9_floorMod_f86c9_25 : decode cJ9_floorMod_f86c9 25 = .ok (.lload 4, 2) := by decide +kernel
theorem dJ9_floorMod_f86c9_27 : decode cJ9_floorMod_f86c9 27 = .ok (.lreturn, 1) := by decide +kernel
theorem dJ9_max_7cf53_0 : decode cJ9_max_7cf53 0 = .ok (.iload_n 0, 1) := by decide +kernel
theorem dJ9_max_7cf53_1 : decode cJ9_max_7cf53 1 = .ok (.iload_n 1, 1) := by decide +kernel
theorem dJ9_max_7cf53_2 : decode cJ9_max_7cf53 2 = .ok (.if_icmp .lt 7, 3) := by decide +kernel
theorem dJ9_max_7cf53_5 : decode cJ9_max_7cf53 5 = .ok (.iload_n 0, 1) := by decide +kernel
theorem dJ9_max_7cf53_6 : decode cJ9_max_7cf53 6 = .ok (.goto 4, 3) := by decide +kernel
theorem dJ9_max_7cf53_9 : decode cJ9_max_7cf53 9 = .ok (.iload_n 1, 1) := by decide +kernel
theorem dJ9_max_7cf53_10 : decode cJ9_max_7cf53 10 = .ok (.ireturn, 1) := by decide +kernel
theorem dJ9_min_7cf53_0 : decode cJ9_min_7cf53 0 = .ok (.iload_n 0, 1) := by decide +kernel
theorem dJ9_min_7cf53_1 : decode cJ9_min_7cf53 1 = .ok (.iload_n 1, 1) := by decide +kernel
theorem dJ9_min_7cf53_2 : decode cJ9_min_7cf53 2 = .ok (.if_icmp .gt 7, 3) := by decide +kernel
theorem dJ9_min_7cf53_5 : decode cJ9_min_7cf53 5 = .ok (.iload_n 0, 1) := by decide +kernel
theorem dJ9_min_7cf53_6 : decode cJ9_min_7cf53 6 = .ok (.goto 4, 3) := by decide +kernel
theorem dJ9_min_7cf53_9 : decode cJ9_min_7cf53 9 = .ok (.iload_n 1, 1) := by decide +kernel
theorem dJ9_min_7cf53_10 : decode cJ9_min_7cf53 10 = .ok (.ireturn, 1) := by decide +kernel
theorem dL_cell_0 : decode cL_cell 0 = .ok (.iload_n 1, 1) := by decide +kernel
theorem dL_cell_1 : decode cL_cell 1 = .ok (.aload_n 0, 1) := by decide +kernel
theorem dL_cell_2 : decode cL_cell 2 = .ok (.arraylength, 1) := by decide +kernel
theorem dL_cell_3 : decode cL_cell 3 = .ok (.if_icmp .ge 9, 3) := by decide +kernel
theorem dL_cell_6 : decode cL_cell 6 = .ok (.aload_n 0, 1) := by decide +kernel
theorem dL_cell_7 : decode cL_cell 7 = .ok (.iload_n 1, 1) := by decide +kernel
theorem dL_cell_8 : decode cL_cell 8 = .ok (.iaload, 1) := by decide +kernel
theorem dL_cell_9 : decode cL_cell 9 = .ok (.goto 4, 3) := by decide +kernel
theorem dL_cell_12 : decode cL_cell 12 = .ok (.iconst 0, 1) := by decide +kernel
theorem dL_cell_13 : decode cL_cell 13 = .ok (.ireturn, 1) := by decide +kernel
theorem dL_factor_0 : decode cL_factor 0 = .ok (.aload 7, 2) := by decide +kernel
theorem dL_factor_2 : decode cL_factor 2 = .ok (.iconst 0, 1) := by decide +kernel
theorem dL_factor_3 : decode cL_factor 3 = .ok (.aload_n 0, 1) := by decide +kernel
theorem dL_factor_4 : decode cL_factor 4 = .ok (.iload_n 1, 1) := by decide +kernel
theorem dL_factor_5 : decode cL_factor 5 = .ok (.iload_n 2, 1) := by decide +kernel
theorem dL_factor_6 : decode cL_factor 6 = .ok (.lload_n 3, 1) := by decide +kernel
theorem dL_factor_7 : decode cL_factor 7 = .ok (.lload 5, 2) := by decide +kernel
theorem dL_factor_9 : decode cL_factor 9 = .ok (.invokevirtual 7, 3) := by decide +kernel
theorem dL_factor_12 : decode cL_factor 12 = .ok (.ifCond .eq 7, 3) := by decide +kernel
theorem dL_factor_15 : decode cL_factor 15 = .ok (.lconst 1, 1) := by decide +kernel
theorem dL_factor_16 : decode cL_factor 16 = .ok (.goto 4, 3) := by decide +kernel
theorem dL_factor_19 : decode cL_factor 19 = .ok (.lconst 0, 1) := by decide +kernel
theorem dL_factor_20 : decode cL_factor 20 = .ok (.lastore, 1) := by decide +kernel
theorem dL_factor_21 : decode cL_factor 21 = .ok (.goto 15, 3) := by decide +kernel
theorem dL_factor_24 : decode cL_factor 24 = .ok (.astore 8, 2) := by decide +kernel
theorem dL_factor_26 : decode cL_factor 26 = .ok (.iconst 1, 1) := by decide +kernel
theorem dL_factor_27 : decode cL_factor 27 = .ok (.ireturn, 1) := by decide +kernel
theorem dL_factor_28 : decode cL_factor 28 = .ok (.astore 8, 2) := by decide +kernel
theorem dL_factor_30 : decode cL_factor 30 = .ok (.iconst 2, 1) := by decide +kernel
theorem dL_factor_31 : decode cL_factor 31 = .ok (.ireturn, 1) := by decide +kernel
theorem dL_factor_32 : decode cL_factor 32 = .ok (.astore 8, 2) := by decide +kernel
theorem dL_factor_34 : decode cL_factor 34 = .ok (.iconst 3, 1) := by decide +kernel
theorem dL_factor_35 : decode cL_factor 35 = .ok (.ireturn, 1) := by decide +kernel
theorem dL_factor_36 : decode cL_factor 36 = .ok (.iconst 0, 1) := by decide +kernel
theorem dL_factor_37 : decode cL_factor 37 = .ok (.ireturn, 1) := by decide +kernel
theorem dL_right_0 : decode cL_right 0 = .ok (.aload 6, 2) := by decide +kernel
theorem dL_right_2 : decode cL_right 2 = .ok (.iconst 0, 1) := by decide +kernel
theorem dL_right_3 : decode cL_right 3 = .ok (.aload_n 0, 1) := by decide +kernel
theorem dL_right_4 : decode cL_right 4 = .ok (.iload_n 1, 1) := by decide +kernel
theorem dL_right_5 : decode cL_right 5 = .ok (.lload_n 2, 1) := by decide +kernel
theorem dL_right_6 : decode cL_right 6 = .ok (.lload 4, 2) := by decide +kernel
theorem dL_right_8 : decode cL_right 8 = .ok (.invokevirtual 19, 3) := by decide +kernel
theorem dL_right_11 : decode cL_right 11 = .ok (.ifCond .eq 7, 3) := by decide +kernel
theorem dL_right_14 : decode cL_right 14 = .ok (.lconst 1, 1) := by decide +kernel
theorem dL_right_15 : decode cL_right 15 = .ok (.goto 4, 3) := by decide +kernel
theorem dL_right_18 : decode cL_right 18 = .ok (.lconst 0, 1) := by decide +kernel
theorem dL_right_19 : decode cL_right 19 = .ok (.lastore, 1) := by decide +kernel
theorem dL_right_20 : decode cL_right 20 = .ok (.goto 11, 3) := by decide +kernel
theorem dL_right_23 : decode cL_right 23 = .ok (.astore 7, 2) := by decide +kernel
theorem dL_right_25 : decode cL_right 25 = .ok (.iconst 1, 1) := by decide +kernel
theorem dL_right_26 : decode cL_right 26 = .ok (.ireturn, 1) := by decide +kernel
theorem dL_right_27 : decode cL_right 27 = .ok (.astore 7, 2) := by decide +kernel
theorem dL_right_29 : decode cL_right 29 = .ok (.iconst 2, 1) := by decide +kernel
theorem dL_right_30 : decode cL_right 30 = .ok (.ireturn, 1) := by decide +kernel
theorem dL_right_31 : decode cL_right 31 = .ok (.iconst 0, 1) := by decide +kernel
theorem dL_right_32 : decode cL_right 32 = .ok (.ireturn, 1) := by decide +kernel
theorem dL_polynomials_0 : decode cL_polynomials 0 = .ok (.aload_n 1, 1) := by decide +kernel
theorem dL_polynomials_1 : decode cL_polynomials 1 = .ok (.iconst 0, 1) := by decide +kernel
theorem dL_polynomials_2 : decode cL_polynomials 2 = .ok (.aload_n 0, 1) := by decide +kernel
theorem dL_polynomials_3 : decode cL_polynomials 3 = .ok (.invokevirtual 23, 3) := by decide +kernel
theorem dL_polynomials_6 : decode cL_polynomials 6 = .ok (.i2l, 1) := by decide +kernel
theorem dL_polynomials_7 : decode cL_polynomials 7 = .ok (.lastore, 1) := by decide +kernel
theorem dL_polynomials_8 : decode cL_polynomials 8 = .ok (.goto 6, 3) := by decide +kernel
theorem dL_polynomials_11 : decode cL_polynomials 11 = .ok (.astore_n 2, 1) := by decide +kernel
theorem dL_polynomials_12 : decode cL_polynomials 12 = .ok (.iconst 1, 1) := by decide +kernel
theorem dL_polynomials_13 : decode cL_polynomials 13 = .ok (.ireturn, 1) := by decide +kernel
theorem dL_polynomials_14 : decode cL_polynomials 14 = .ok (.iconst 0, 1) := by decide +kernel
theorem dL_polynomials_15 : decode cL_polynomials 15 = .ok (.ireturn, 1) := by decide +kernel
theorem dL_answer_0 : decode cL_answer 0 = .ok (.aload_n 3, 1) := by decide +kernel
theorem dL_answer_1 : decode cL_answer 1 = .ok (.iconst 0, 1) := by decide +kernel
theorem dL_answer_2 : decode cL_answer 2 = .ok (.aload_n 0, 1) := by decide +kernel
theorem dL_answer_3 : decode cL_answer 3 = .ok (.iload_n 1, 1) := by decide +kernel
theorem dL_answer_4 : decode cL_answer 4 = .ok (.iload_n 2, 1) := by decide +kernel
theorem dL_answer_5 : decode cL_answer 5 = .ok (.invokevirtual 29, 3) := by decide +kernel
theorem dL_answer_8 : decode cL_answer 8 = .ok (.i2l, 1) := by decide +kernel
theorem dL_answer_9 : decode cL_answer 9 = .ok (.lastore, 1) := by decide +kernel
theorem dL_answer_10 : decode cL_answer 10 = .ok (.goto 11, 3) := by decide +kernel
theorem dL_answer_13 : decode cL_answer 13 = .ok (.astore 4, 2) := by decide +kernel
theorem dL_answer_15 : decode cL_answer 15 = .ok (.iconst 1, 1) := by decide +kernel
theorem dL_answer_16 : decode cL_answer 16 = .ok (.ireturn, 1) := by decide +kernel
theorem dL_answer_17 : decode cL_answer 17 = .ok (.astore 4, 2) := by decide +kernel
theorem dL_answer_19 : decode cL_answer 19 = .ok (.iconst 2, 1) := by decide +kernel
theorem dL_answer_20 : decode cL_answer 20 = .ok (.ireturn, 1) := by decide +kernel
theorem dL_answer_21 : decode cL_answer 21 = .ok (.iconst 0, 1) := by decide +kernel
theorem dL_answer_22 : decode cL_answer 22 = .ok (.ireturn, 1) := by decide +kernel
theorem dL_meets_0 : decode cL_meets 0 = .ok (.aload_n 1, 1) := by decide +kernel
theorem dL_meets_1 : decode cL_meets 1 = .ok (.iconst 0, 1) := by decide +kernel
theorem dL_meets_2 : decode cL_meets 2 = .ok (.aload_n 0, 1) := by decide +kernel
theorem dL_meets_3 : decode cL_meets 3 = .ok (.invokevirtual 33, 3) := by decide +kernel
theorem dL_meets_6 : decode cL_meets 6 = .ok (.ifCond .eq 7, 3) := by decide +kernel
theorem dL_meets_9 : decode cL_meets 9 = .ok (.lconst 1, 1) := by decide +kernel
theorem dL_meets_10 : decode cL_meets 10 = .ok (.goto 4, 3) := by decide +kernel
theorem dL_meets_13 : decode cL_meets 13 = .ok (.lconst 0, 1) := by decide +kernel
theorem dL_meets_14 : decode cL_meets 14 = .ok (.lastore, 1) := by decide +kernel
theorem dL_meets_15 : decode cL_meets 15 = .ok (.goto 6, 3) := by decide +kernel
theorem dL_meets_18 : decode cL_meets 18 = .ok (.astore_n 2, 1) := by decide +kernel
theorem dL_meets_19 : decode cL_meets 19 = .ok (.iconst 1, 1) := by decide +kernel
theorem dL_meets_20 : decode cL_meets 20 = .ok (.ireturn, 1) := by decide +kernel
theorem dL_meets_21 : decode cL_meets 21 = .ok (.iconst 0, 1) := by decide +kernel
theorem dL_meets_22 : decode cL_meets 22 = .ok (.ireturn, 1) := by decide +kernel
theorem dL_powers_0 : decode cL_powers 0 = .ok (.aload_n 1, 1) := by decide +kernel
theorem dL_powers_1 : decode cL_powers 1 = .ok (.iconst 0, 1) := by decide +kernel
theorem dL_powers_2 : decode cL_powers 2 = .ok (.aload_n 0, 1) := by decide +kernel
theorem dL_powers_3 : decode cL_powers 3 = .ok (.invokevirtual 37, 3) := by decide +kernel
theorem dL_powers_6 : decode cL_powers 6 = .ok (.i2l, 1) := by decide +kernel
theorem dL_powers_7 : decode cL_powers 7 = .ok (.lastore, 1) := by decide +kernel
theorem dL_powers_8 : decode cL_powers 8 = .ok (.goto 6, 3) := by decide +kernel
theorem dL_powers_11 : decode cL_powers 11 = .ok (.astore_n 2, 1) := by decide +kernel
theorem dL_powers_12 : decode cL_powers 12 = .ok (.iconst 1, 1) := by decide +kernel
theorem dL_powers_13 : decode cL_powers 13 = .ok (.ireturn, 1) := by decide +kernel
theorem dL_powers_14 : decode cL_powers 14 = .ok (.iconst 0, 1) := by decide +kernel
theorem dL_powers_15 : decode cL_powers 15 = .ok (.ireturn, 1) := by decide +kernel
theorem dL_base_0 : decode cL_base 0 = .ok (.aload_n 2, 1) := by decide +kernel
theorem dL_base_1 : decode cL_base 1 = .ok (.iconst 0, 1) := by decide +kernel
theorem dL_base_2 : decode cL_base 2 = .ok (.aload_n 0, 1) := by decide +kernel
theorem dL_base_3 : decode cL_base 3 = .ok (.iload_n 1, 1) := by decide +kernel
theorem dL_base_4 : decode cL_base 4 = .ok (.invokevirtual 40, 3) := by decide +kernel
theorem dL_base_7 : decode cL_base 7 = .ok (.i2l, 1) := by decide +kernel
theorem dL_base_8 : decode cL_base 8 = .ok (.lastore, 1) := by decide +kernel
theorem dL_base_9 : decode cL_base 9 = .ok (.goto 6, 3) := by decide +kernel
theorem dL_base_12 : decode cL_base 12 = .ok (.astore_n 3, 1) := by decide +kernel
theorem dL_base_13 : decode cL_base 13 = .ok (.iconst 1, 1) := by decide +kernel
theorem dL_base_14 : decode cL_base 14 = .ok (.ireturn, 1) := by decide +kernel
theorem dL_base_15 : decode cL_base 15 = .ok (.iconst 0, 1) := by decide +kernel
theorem dL_base_16 : decode cL_base 16 = .ok (.ireturn, 1) := by decide +kernel
theorem dL_many_0 : decode cL_many 0 = .ok (.aload_n 2, 1) := by decide +kernel
theorem dL_many_1 : decode cL_many 1 = .ok (.iconst 0, 1) := by decide +kernel
theorem dL_many_2 : decode cL_many 2 = .ok (.aload_n 0, 1) := by decide +kernel
theorem dL_many_3 : decode cL_many 3 = .ok (.iload_n 1, 1) := by decide +kernel
theorem dL_many_4 : decode cL_many 4 = .ok (.invokevirtual 44, 3) := by decide +kernel
theorem dL_many_7 : decode cL_many 7 = .ok (.i2l, 1) := by decide +kernel
theorem dL_many_8 : decode cL_many 8 = .ok (.lastore, 1) := by decide +kernel
theorem dL_many_9 : decode cL_many 9 = .ok (.goto 6, 3) := by decide +kernel
theorem dL_many_12 : decode cL_many 12 = .ok (.astore_n 3, 1) := by decide +kernel
theorem dL_many_13 : decode cL_many 13 = .ok (.iconst 1, 1) := by decide +kernel
theorem dL_many_14 : decode cL_many 14 = .ok (.ireturn, 1) := by decide +kernel
theorem dL_many_15 : decode cL_many 15 = .ok (.iconst 0, 1) := by decide +kernel
theorem dL_many_16 : decode cL_many 16 = .ok (.ireturn, 1) := by decide +kernel
theorem dL_times_0 : decode cL_times 0 = .ok (.aload 4, 2) := by decide +kernel
theorem dL_times_2 : decode cL_times 2 = .ok (.iconst 0, 1) := by decide +kernel
theorem dL_times_3 : decode cL_times 3 = .ok (.aload_n 0, 1) := by decide +kernel
theorem dL_times_4 : decode cL_times 4 = .ok (.iload_n 1, 1) := by decide +kernel
theorem dL_times_5 : decode cL_times 5 = .ok (.iload_n 2, 1) := by decide +kernel
theorem dL_times_6 : decode cL_times 6 = .ok (.iload_n 3, 1) := by decide +kernel
theorem dL_times_7 : decode cL_times 7 = .ok (.invokevirtual 47, 3) := by decide +kernel
theorem dL_times_10 : decode cL_times 10 = .ok (.i2l, 1) := by decide +kernel
theorem dL_times_11 : decode cL_times 11 = .ok (.lastore, 1) := by decide +kernel
theorem dL_times_12 : decode cL_times 12 = .ok (.goto 11, 3) := by decide +kernel
theorem dL_times_15 : decode cL_times 15 = .ok (.astore 5, 2) := by decide +kernel
theorem dL_times_17 : decode cL_times 17 = .ok (.iconst 1, 1) := by decide +kernel
theorem dL_times_18 : decode cL_times 18 = .ok (.ireturn, 1) := by decide +kernel
theorem dL_times_19 : decode cL_times 19 = .ok (.astore 5, 2) := by decide +kernel
theorem dL_times_21 : decode cL_times 21 = .ok (.iconst 2, 1) := by decide +kernel
theorem dL_times_22 : decode cL_times 22 = .ok (.ireturn, 1) := by decide +kernel
theorem dL_times_23 : decode cL_times 23 = .ok (.iconst 0, 1) := by decide +kernel
theorem dL_times_24 : decode cL_times 24 = .ok (.ireturn, 1) := by decide +kernel
theorem dL_value_0 : decode cL_value 0 = .ok (.aload_n 2, 1) := by decide +kernel
theorem dL_value_1 : decode cL_value 1 = .ok (.iconst 0, 1) := by decide +kernel
theorem dL_value_2 : decode cL_value 2 = .ok (.aload_n 0, 1) := by decide +kernel
theorem dL_value_3 : decode cL_value 3 = .ok (.iload_n 1, 1) := by decide +kernel
theorem dL_value_4 : decode cL_value 4 = .ok (.invokevirtual 51, 3) := by decide +kernel
theorem dL_value_7 : decode cL_value 7 = .ok (.i2l, 1) := by decide +kernel
theorem dL_value_8 : decode cL_value 8 = .ok (.lastore, 1) := by decide +kernel
theorem dL_value_9 : decode cL_value 9 = .ok (.goto 6, 3) := by decide +kernel
theorem dL_value_12 : decode cL_value 12 = .ok (.astore_n 3, 1) := by decide +kernel
theorem dL_value_13 : decode cL_value 13 = .ok (.iconst 1, 1) := by decide +kernel
theorem dL_value_14 : decode cL_value 14 = .ok (.ireturn, 1) := by decide +kernel
theorem dL_value_15 : decode cL_value 15 = .ok (.iconst 0, 1) := by decide +kernel
theorem dL_value_16 : decode cL_value 16 = .ok (.ireturn, 1) := by decide +kernel
theorem dL_end_0 : decode cL_end 0 = .ok (.aload_n 2, 1) := by decide +kernel
theorem dL_end_1 : decode cL_end 1 = .ok (.iconst 0, 1) := by decide +kernel
theorem dL_end_2 : decode cL_end 2 = .ok (.aload_n 0, 1) := by decide +kernel
theorem dL_end_3 : decode cL_end 3 = .ok (.iload_n 1, 1) := by decide +kernel
theorem dL_end_4 : decode cL_end 4 = .ok (.invokevirtual 54, 3) := by decide +kernel
theorem dL_end_7 : decode cL_end 7 = .ok (.i2l, 1) := by decide +kernel
theorem dL_end_8 : decode cL_end 8 = .ok (.lastore, 1) := by decide +kernel
theorem dL_end_9 : decode cL_end 9 = .ok (.goto 6, 3) := by decide +kernel
theorem dL_end_12 : decode cL_end 12 = .ok (.astore_n 3, 1) := by decide +kernel
theorem dL_end_13 : decode cL_end 13 = .ok (.iconst 1, 1) := by decide +kernel
theorem dL_end_14 : decode cL_end 14 = .ok (.ireturn, 1) := by decide +kernel
theorem dL_end_15 : decode cL_end 15 = .ok (.iconst 0, 1) := by decide +kernel
theorem dL_end_16 : decode cL_end 16 = .ok (.ireturn, 1) := by decide +kernel
theorem dL_rest_0 : decode cL_rest 0 = .ok (.aload_n 2, 1) := by decide +kernel
theorem dL_rest_1 : decode cL_rest 1 = .ok (.iconst 0, 1) := by decide +kernel
theorem dL_rest_2 : decode cL_rest 2 = .ok (.aload_n 0, 1) := by decide +kernel
theorem dL_rest_3 : decode cL_rest 3 = .ok (.iload_n 1, 1) := by decide +kernel
theorem dL_rest_4 : decode cL_rest 4 = .ok (.invokevirtual 57, 3) := by decide +kernel
theorem dL_rest_7 : decode cL_rest 7 = .ok (.i2l, 1) := by decide +kernel
theorem dL_rest_8 : decode cL_rest 8 = .ok (.lastore, 1) := by decide +kernel
theorem dL_rest_9 : decode cL_rest 9 = .ok (.goto 6, 3) := by decide +kernel
theorem dL_rest_12 : decode cL_rest 12 = .ok (.astore_n 3, 1) := by decide +kernel
theorem dL_rest_13 : decode cL_rest 13 = .ok (.iconst 1, 1) := by decide +kernel
theorem dL_rest_14 : decode cL_rest 14 = .ok (.ireturn, 1) := by decide +kernel
theorem dL_rest_15 : decode cL_rest 15 = .ok (.iconst 0, 1) := by decide +kernel
theorem dL_rest_16 : decode cL_rest 16 = .ok (.ireturn, 1) := by decide +kernel
theorem dL_put_0 : decode cL_put 0 = .ok (.aload_n 3, 1) := by decide +kernel
theorem dL_put_1 : decode cL_put 1 = .ok (.iconst 0, 1) := by decide +kernel
theorem dL_put_2 : decode cL_put 2 = .ok (.aload_n 0, 1) := by decide +kernel
theorem dL_put_3 : decode cL_put 3 = .ok (.iload_n 1, 1) := by decide +kernel
theorem dL_put_4 : decode cL_put 4 = .ok (.iload_n 2, 1) := by decide +kernel
theorem dL_put_5 : decode cL_put 5 = .ok (.invokevirtual 60, 3) := by decide +kernel
theorem dL_put_8 : decode cL_put 8 = .ok (.ifCond .eq 7, 3) := by decide +kernel
theorem dL_put_11 : decode cL_put 11 = .ok (.lconst 1, 1) := by decide +kernel
theorem dL_put_12 : decode cL_put 12 = .ok (.goto 4, 3) := by decide +kernel
theorem dL_put_15 : decode cL_put 15 = .ok (.lconst 0, 1) := by decide +kernel
theorem dL_put_16 : decode cL_put 16 = .ok (.lastore, 1) := by decide +kernel
theorem dL_put_17 : decode cL_put 17 = .ok (.goto 7, 3) := by decide +kernel
theorem dL_put_20 : decode cL_put 20 = .ok (.astore 4, 2) := by decide +kernel
theorem dL_put_22 : decode cL_put 22 = .ok (.iconst 1, 1) := by decide +kernel
theorem dL_put_23 : decode cL_put 23 = .ok (.ireturn, 1) := by decide +kernel
theorem dL_put_24 : decode cL_put 24 = .ok (.iconst 0, 1) := by decide +kernel
theorem dL_put_25 : decode cL_put 25 = .ok (.ireturn, 1) := by decide +kernel
theorem dL_law_0 : decode cL_law 0 = .ok (.new 8, 3) := by decide +kernel
theorem dL_law_3 : decode cL_law 3 = .ok (.dup, 1) := by decide +kernel
theorem dL_law_4 : decode cL_law 4 = .ok (.aload_n 0, 1) := by decide +kernel
theorem dL_law_5 : decode cL_law 5 = .ok (.iconst 0, 1) := by decide +kernel
theorem dL_law_6 : decode cL_law 6 = .ok (.invokestatic 64, 3) := by decide +kernel
theorem dL_law_9 : decode cL_law 9 = .ok (.invokespecial 70, 3) := by decide +kernel
theorem dL_law_12 : decode cL_law 12 = .ok (.astore_n 1, 1) := by decide +kernel
theorem dL_law_13 : decode cL_law 13 = .ok (.new 73, 3) := by decide +kernel
theorem dL_law_16 : decode cL_law 16 = .ok (.dup, 1) := by decide +kernel
theorem dL_law_17 : decode cL_law 17 = .ok (.aload_n 0, 1) := by decide +kernel
theorem dL_law_18 : decode cL_law 18 = .ok (.iconst 0, 1) := by decide +kernel
theorem dL_law_19 : decode cL_law 19 = .ok (.invokestatic 64, 3) := by decide +kernel
theorem dL_law_22 : decode cL_law 22 = .ok (.invokespecial 75, 3) := by decide +kernel
theorem dL_law_25 : decode cL_law 25 = .ok (.astore_n 2, 1) := by decide +kernel
theorem dL_law_26 : decode cL_law 26 = .ok (.iconst 1, 1) := by decide +kernel
theorem dL_law_27 : decode cL_law 27 = .ok (.newarray .long, 2) := by decide +kernel
theorem dL_law_29 : decode cL_law 29 = .ok (.astore_n 3, 1) := by decide +kernel
theorem dL_law_30 : decode cL_law 30 = .ok (.iconst 1, 1) := by decide +kernel
theorem dL_law_31 : decode cL_law 31 = .ok (.istore 4, 2) := by decide +kernel
theorem dL_law_33 : decode cL_law 33 = .ok (.iload 4, 2) := by decide +kernel
theorem dL_law_35 : decode cL_law 35 = .ok (.aload_n 0, 1) := by decide +kernel
theorem dL_law_36 : decode cL_law 36 = .ok (.arraylength, 1) := by decide +kernel
theorem dL_law_37 : decode cL_law 37 = .ok (.bipush 7, 2) := by decide +kernel
theorem dL_law_39 : decode cL_law 39 = .ok (.isub, 1) := by decide +kernel
theorem dL_law_40 : decode cL_law 40 = .ok (.if_icmp .gt 1162, 3) := by decide +kernel
theorem dL_law_43 : decode cL_law 43 = .ok (.aload_n 0, 1) := by decide +kernel
theorem dL_law_44 : decode cL_law 44 = .ok (.iload 4, 2) := by decide +kernel
theorem dL_law_46 : decode cL_law 46 = .ok (.iaload, 1) := by decide +kernel
theorem dL_law_47 : decode cL_law 47 = .ok (.bipush 31, 2) := by decide +kernel
theorem dL_law_49 : decode cL_law 49 = .ok (.iand, 1) := by decide +kernel
theorem dL_law_50 : decode cL_law 50 = .ok (.tableswitch 1146 0 16 #[82, 247, 398, 411, 455, 523, 574, 618, 674, 730, 810, 867, 923, 948, 1004, 1060, 1135], 82) := by decide +kernel
theorem dL_law_132 : decode cL_law 132 = .ok (.aload_n 1, 1) := by decide +kernel
theorem dL_law_133 : decode cL_law 133 = .ok (.aload_n 0, 1) := by decide +kernel
theorem dL_law_134 : decode cL_law 134 = .ok (.iload 4, 2) := by decide +kernel
theorem dL_law_136 : decode cL_law 136 = .ok (.iconst 1, 1) := by decide +kernel
theorem dL_law_137 : decode cL_law 137 = .ok (.iadd, 1) := by decide +kernel
theorem dL_law_138 : decode cL_law 138 = .ok (.iaload, 1) := by decide +kernel
theorem dL_law_139 : decode cL_law 139 = .ok (.aload_n 0, 1) := by decide +kernel
theorem dL_law_140 : decode cL_law 140 = .ok (.iload 4, 2) := by decide +kernel
theorem dL_law_142 : decode cL_law 142 = .ok (.iconst 2, 1) := by decide +kernel
theorem dL_law_143 : decode cL_law 143 = .ok (.iadd, 1) := by decide +kernel
theorem dL_law_144 : decode cL_law 144 = .ok (.iaload, 1) := by decide +kernel
theorem dL_law_145 : decode cL_law 145 = .ok (.aload_n 0, 1) := by decide +kernel
theorem dL_law_146 : decode cL_law 146 = .ok (.iload 4, 2) := by decide +kernel
theorem dL_law_148 : decode cL_law 148 = .ok (.iconst 3, 1) := by decide +kernel
theorem dL_law_149 : decode cL_law 149 = .ok (.iadd, 1) := by decide +kernel
theorem dL_law_150 : decode cL_law 150 = .ok (.iaload, 1) := by decide +kernel
theorem dL_law_151 : decode cL_law 151 = .ok (.i2l, 1) := by decide +kernel
theorem dL_law_152 : decode cL_law 152 = .ok (.bipush 32, 2) := by decide +kernel
theorem dL_law_154 : decode cL_law 154 = .ok (.lshl, 1) := by decide +kernel
theorem dL_law_155 : decode cL_law 155 = .ok (.aload_n 0, 1) := by decide +kernel
theorem dL_law_156 : decode cL_law 156 = .ok (.iload 4, 2) := by decide +kernel
theorem dL_law_158 : decode cL_law 158 = .ok (.iconst 4, 1) := by decide +kernel
theorem dL_law_159 : decode cL_law 159 = .ok (.iadd, 1) := by decide +kernel
theorem dL_law_160 : decode cL_law 160 = .ok (.iaload, 1) := by decide +kernel
theorem dL_law_161 : decode cL_law 161 = .ok (.i2l, 1) := by decide +kernel
theorem dL_law_162 : decode cL_law 162 = .ok (.ldc2_w 76, 3) := by decide +kernel
theorem dL_law_165 : decode cL_law 165 = .ok (.land, 1) := by decide +kernel
theorem dL_law_166 : decode cL_law 166 = .ok (.lor, 1) := by decide +kernel
theorem dL_law_167 : decode cL_law 167 = .ok (.aload_n 0, 1) := by decide +kernel
theorem dL_law_168 : decode cL_law 168 = .ok (.iload 4, 2) := by decide +kernel
theorem dL_law_170 : decode cL_law 170 = .ok (.iconst 5, 1) := by decide +kernel
theorem dL_law_171 : decode cL_law 171 = .ok (.iadd, 1) := by decide +kernel
theorem dL_law_172 : decode cL_law 172 = .ok (.iaload, 1) := by decide +kernel
theorem dL_law_173 : decode cL_law 173 = .ok (.i2l, 1) := by decide +kernel
theorem dL_law_174 : decode cL_law 174 = .ok (.bipush 32, 2) := by decide +kernel
theorem dL_law_176 : decode cL_law 176 = .ok (.lshl, 1) := by decide +kernel
theorem dL_law_177 : decode cL_law 177 = .ok (.aload_n 0, 1) := by decide +kernel
theorem dL_law_178 : decode cL_law 178 = .ok (.iload 4, 2) := by decide +kernel
theorem dL_law_180 : decode cL_law 180 = .ok (.bipush 6, 2) := by decide +kernel
theorem dL_law_182 : decode cL_law 182 = .ok (.iadd, 1) := by decide +kernel
theorem dL_law_183 : decode cL_law 183 = .ok (.iaload, 1) := by decide +kernel
theorem dL_law_184 : decode cL_law 184 = .ok (.i2l, 1) := by decide +kernel
theorem dL_law_185 : decode cL_law 185 = .ok (.ldc2_w 76, 3) := by decide +kernel
theorem dL_law_188 : decode cL_law 188 = .ok (.land, 1) := by decide +kernel
theorem dL_law_189 : decode cL_law 189 = .ok (.lor, 1) := by decide +kernel
theorem dL_law_190 : decode cL_law 190 = .ok (.aload_n 3, 1) := by decide +kernel
theorem dL_law_191 : decode cL_law 191 = .ok (.invokestatic 78, 3) := by decide +kernel
theorem dL_law_194 : decode cL_law 194 = .ok (.istore 5, 2) := by decide +kernel
theorem dL_law_196 : decode cL_law 196 = .ok (.aload_n 2, 1) := by decide +kernel
theorem dL_law_197 : decode cL_law 197 = .ok (.aload_n 0, 1) := by decide +kernel
theorem dL_law_198 : decode cL_law 198 = .ok (.iload 4, 2) := by decide +kernel
theorem dL_law_200 : decode cL_law 200 = .ok (.iconst 1, 1) := by decide +kernel
theorem dL_law_201 : decode cL_law 201 = .ok (.iadd, 1) := by decide +kernel
theorem dL_law_202 : decode cL_law 202 = .ok (.iaload, 1) := by decide +kernel
theorem dL_law_203 : decode cL_law 203 = .ok (.aload_n 0, 1) := by decide +kernel
theorem dL_law_204 : decode cL_law 204 = .ok (.iload 4, 2) := by decide +kernel
theorem dL_law_206 : decode cL_law 206 = .ok (.iconst 2, 1) := by decide +kernel
theorem dL_law_207 : decode cL_law 207 = .ok (.iadd, 1) := by decide +kernel
theorem dL_law_208 : decode cL_law 208 = .ok (.iaload, 1) := by decide +kernel
theorem dL_law_209 : decode cL_law 209 = .ok (.aload_n 0, 1) := by decide +kernel
theorem dL_law_210 : decode cL_law 210 = .ok (.iload 4, 2) := by decide +kernel
theorem dL_law_212 : decode cL_law 212 = .ok (.iconst 3, 1) := by decide +kernel
theorem dL_law_213 : decode cL_law 213 = .ok (.iadd, 1) := by decide +kernel
theorem dL_law_214 : decode cL_law 214 = .ok (.iaload, 1) := by decide +kernel
theorem dL_law_215 : decode cL_law 215 = .ok (.i2l, 1) := by decide +kernel
theorem dL_law_216 : decode cL_law 216 = .ok (.bipush 32, 2) := by decide +kernel
theorem dL_law_218 : decode cL_law 218 = .ok (.lshl, 1) := by decide +kernel
theorem dL_law_219 : decode cL_law 219 = .ok (.aload_n 0, 1) := by decide +kernel
theorem dL_law_220 : decode cL_law 220 = .ok (.iload 4, 2) := by decide +kernel
theorem dL_law_222 : decode cL_law 222 = .ok (.iconst 4, 1) := by decide +kernel
theorem dL_law_223 : decode cL_law 223 = .ok (.iadd, 1) := by decide +kernel
theorem dL_law_224 : decode cL_law 224 = .ok (.iaload, 1) := by decide +kernel
theorem dL_law_225 : decode cL_law 225 = .ok (.i2l, 1) := by decide +kernel
theorem dL_law_226 : decode cL_law 226 = .ok (.ldc2_w 76, 3) := by decide +kernel
theorem dL_law_229 : decode cL_law 229 = .ok (.land, 1) := by decide +kernel
theorem dL_law_230 : decode cL_law 230 = .ok (.lor, 1) := by decide +kernel
theorem dL_law_231 : decode cL_law 231 = .ok (.aload_n 0, 1) := by decide +kernel
theorem dL_law_232 : decode cL_law 232 = .ok (.iload 4, 2) := by decide +kernel
theorem dL_law_234 : decode cL_law 234 = .ok (.iconst 5, 1) := by decide +kernel
theorem dL_law_235 : decode cL_law 235 = .ok (.iadd, 1) := by decide +kernel
theorem dL_law_236 : decode cL_law 236 = .ok (.iaload, 1) := by decide +kernel
theorem dL_law_237 : decode cL_law 237 = .ok (.i2l, 1) := by decide +kernel
theorem dL_law_238 : decode cL_law 238 = .ok (.bipush 32, 2) := by decide +kernel
theorem dL_law_240 : decode cL_law 240 = .ok (.lshl, 1) := by decide +kernel
theorem dL_law_241 : decode cL_law 241 = .ok (.aload_n 0, 1) := by decide +kernel
theorem dL_law_242 : decode cL_law 242 = .ok (.iload 4, 2) := by decide +kernel
theorem dL_law_244 : decode cL_law 244 = .ok (.bipush 6, 2) := by decide +kernel
theorem dL_law_246 : decode cL_law 246 = .ok (.iadd, 1) := by decide +kernel
theorem dL_law_247 : decode cL_law 247 = .ok (.iaload, 1) := by decide +kernel
theorem dL_law_248 : decode cL_law 248 = .ok (.i2l, 1) := by decide +kernel
theorem dL_law_249 : decode cL_law 249 = .ok (.ldc2_w 76, 3) := by decide +kernel
theorem dL_law_252 : decode cL_law 252 = .ok (.land, 1) := by decide +kernel
theorem dL_law_253 : decode cL_law 253 = .ok (.lor, 1) := by decide +kernel
theorem dL_law_254 : decode cL_law 254 = .ok (.invokevirtual 81, 3) := by decide +kernel
theorem dL_law_257 : decode cL_law 257 = .ok (.istore 6, 2) := by decide +kernel
theorem dL_law_259 : decode cL_law 259 = .ok (.aload_n 2, 1) := by decide +kernel
theorem dL_law_260 : decode cL_law 260 = .ok (.invokevirtual 82, 3) := by decide +kernel
theorem dL_law_263 : decode cL_law 263 = .ok (.iload 5, 2) := by decide +kernel
theorem dL_law_265 : decode cL_law 265 = .ok (.if_icmp .eq 5, 3) := by decide +kernel
theorem dL_law_268 : decode cL_law 268 = .ok (.iconst 0, 1) := by decide +kernel
theorem dL_law_269 : decode cL_law 269 = .ok (.ireturn, 1) := by decide +kernel
theorem dL_law_270 : decode cL_law 270 = .ok (.iload 5, 2) := by decide +kernel
theorem dL_law_272 : decode cL_law 272 = .ok (.ifCond .ne 22, 3) := by decide +kernel
theorem dL_law_275 : decode cL_law 275 = .ok (.aload_n 3, 1) := by decide +kernel
theorem dL_law_276 : decode cL_law 276 = .ok (.iconst 0, 1) := by decide +kernel
theorem dL_law_277 : decode cL_law 277 = .ok (.laload, 1) := by decide +kernel
theorem dL_law_278 : decode cL_law 278 = .ok (.iload 6, 2) := by decide +kernel
theorem dL_law_280 : decode cL_law 280 = .ok (.ifCond .eq 7, 3) := by decide +kernel
theorem dL_law_283 : decode cL_law 283 = .ok (.lconst 1, 1) := by decide +kernel
theorem dL_law_284 : decode cL_law 284 = .ok (.goto 4, 3) := by decide +kernel
theorem dL_law_287 : decode cL_law 287 = .ok (.lconst 0, 1) := by decide +kernel
theorem dL_law_288 : decode cL_law 288 = .ok (.lcmp, 1) := by decide +kernel
theorem dL_law_289 : decode cL_law 289 = .ok (.ifCond .eq 5, 3) := by decide +kernel
theorem dL_law_292 : decode cL_law 292 = .ok (.iconst 0, 1) := by decide +kernel
theorem dL_law_293 : decode cL_law 293 = .ok (.ireturn, 1) := by decide +kernel
theorem dL_law_294 : decode cL_law 294 = .ok (.goto 902, 3) := by decide +kernel
theorem dL_law_297 : decode cL_law 297 = .ok (.aload_n 1, 1) := by decide +kernel
theorem dL_law_298 : decode cL_law 298 = .ok (.aload_n 0, 1) := by decide +kernel
theorem dL_law_299 : decode cL_law 299 = .ok (.iload 4, 2) := by decide +kernel
theorem dL_law_301 : decode cL_law 301 = .ok (.iconst 1, 1) := by decide +kernel
theorem dL_law_302 : decode cL_law 302 = .ok (.iadd, 1) := by decide +kernel
theorem dL_law_303 : decode cL_law 303 = .ok (.iaload, 1) := by decide +kernel
theorem dL_law_304 : decode cL_law 304 = .ok (.aload_n 0, 1) := by decide +kernel
theorem dL_law_305 : decode cL_law 305 = .ok (.iload 4, 2) := by decide +kernel
theorem dL_law_307 : decode cL_law 307 = .ok (.iconst 2, 1) := by decide +kernel
theorem dL_law_308 : decode cL_law 308 = .ok (.iadd, 1) := by decide +kernel
theorem dL_law_309 : decode cL_law 309 = .ok (.iaload, 1) := by decide +kernel
theorem dL_law_310 : decode cL_law 310 = .ok (.i2l, 1) := by decide +kernel
theorem dL_law_311 : decode cL_law 311 = .ok (.bipush 32, 2) := by decide +kernel
theorem dL_law_313 : decode cL_law 313 = .ok (.lshl, 1) := by decide +kernel
theorem dL_law_314 : decode cL_law 314 = .ok (.aload_n 0, 1) := by decide +kernel
theorem dL_law_315 : decode cL_law 315 = .ok (.iload 4, 2) := by decide +kernel
theorem dL_law_317 : decode cL_law 317 = .ok (.iconst 3, 1) := by decide +kernel
theorem dL_law_318 : decode cL_law 318 = .ok (.iadd, 1) := by decide +kernel
theorem dL_law_319 : decode cL_law 319 = .ok (.iaload, 1) := by decide +kernel
theorem dL_law_320 : decode cL_law 320 = .ok (.i2l, 1) := by decide +kernel
theorem dL_law_321 : decode cL_law 321 = .ok (.ldc2_w 76, 3) := by decide +kernel
theorem dL_law_324 : decode cL_law 324 = .ok (.land, 1) := by decide +kernel
theorem dL_law_325 : decode cL_law 325 = .ok (.lor, 1) := by decide +kernel
theorem dL_law_326 : decode cL_law 326 = .ok (.aload_n 0, 1) := by decide +kernel
theorem dL_law_327 : decode cL_law 327 = .ok (.iload 4, 2) := by decide +kernel
theorem dL_law_329 : decode cL_law 329 = .ok (.iconst 4, 1) := by decide +kernel
theorem dL_law_330 : decode cL_law 330 = .ok (.iadd, 1) := by decide +kernel
theorem dL_law_331 : decode cL_law 331 = .ok (.iaload, 1) := by decide +kernel
theorem dL_law_332 : decode cL_law 332 = .ok (.i2l, 1) := by decide +kernel
theorem dL_law_333 : decode cL_law 333 = .ok (.bipush 32, 2) := by decide +kernel
theorem dL_law_335 : decode cL_law 335 = .ok (.lshl, 1) := by decide +kernel
theorem dL_law_336 : decode cL_law 336 = .ok (.aload_n 0, 1) := by decide +kernel
theorem dL_law_337 : decode cL_law 337 = .ok (.iload 4, 2) := by decide +kernel
theorem dL_law_339 : decode cL_law 339 = .ok (.iconst 5, 1) := by decide +kernel
theorem dL_law_340 : decode cL_law 340 = .ok (.iadd, 1) := by decide +kernel
theorem dL_law_341 : decode cL_law 341 = .ok (.iaload, 1) := by decide +kernel
theorem dL_law_342 : decode cL_law 342 = .ok (.i2l, 1) := by decide +kernel
theorem dL_law_343 : decode cL_law 343 = .ok (.ldc2_w 76, 3) := by decide +kernel
theorem dL_law_346 : decode cL_law 346 = .ok (.land, 1) := by decide +kernel
theorem dL_law_347 : decode cL_law 347 = .ok (.lor, 1) := by decide +kernel
theorem dL_law_348 : decode cL_law 348 = .ok (.aload_n 3, 1) := by decide +kernel
theorem dL_law_349 : decode cL_law 349 = .ok (.invokestatic 85, 3) := by decide +kernel
theorem dL_law_352 : decode cL_law 352 = .ok (.istore 5, 2) := by decide +kernel
theorem dL_law_354 : decode cL_law 354 = .ok (.aload_n 2, 1) := by decide +kernel
theorem dL_law_355 : decode cL_law 355 = .ok (.aload_n 0, 1) := by decide +kernel
theorem dL_law_356 : decode cL_law 356 = .ok (.iload 4, 2) := by decide +kernel
theorem dL_law_358 : decode cL_law 358 = .ok (.iconst 1, 1) := by decide +kernel
theorem dL_law_359 : decode cL_law 359 = .ok (.iadd, 1) := by decide +kernel
theorem dL_law_360 : decode cL_law 360 = .ok (.iaload, 1) := by decide +kernel
theorem dL_law_361 : decode cL_law 361 = .ok (.aload_n 0, 1) := by decide +kernel
theorem dL_law_362 : decode cL_law 362 = .ok (.iload 4, 2) := by decide +kernel
theorem dL_law_364 : decode cL_law 364 = .ok (.iconst 2, 1) := by decide +kernel
theorem dL_law_365 : decode cL_law 365 = .ok (.iadd, 1) := by decide +kernel
theorem dL_law_366 : decode cL_law 366 = .ok (.iaload, 1) := by decide +kernel
theorem dL_law_367 : decode cL_law 367 = .ok (.i2l, 1) := by decide +kernel
theorem dL_law_368 : decode cL_law 368 = .ok (.bipush 32, 2) := by decide +kernel
theorem dL_law_370 : decode cL_law 370 = .ok (.lshl, 1) := by decide +kernel
theorem dL_law_371 : decode cL_law 371 = .ok (.aload_n 0, 1) := by decide +kernel
theorem dL_law_372 : decode cL_law 372 = .ok (.iload 4, 2) := by decide +kernel
theorem dL_law_374 : decode cL_law 374 = .ok (.iconst 3, 1) := by decide +kernel
theorem dL_law_375 : decode cL_law 375 = .ok (.iadd, 1) := by decide +kernel
theorem dL_law_376 : decode cL_law 376 = .ok (.iaload, 1) := by decide +kernel
theorem dL_law_377 : decode cL_law 377 = .ok (.i2l, 1) := by decide +kernel
theorem dL_law_378 : decode cL_law 378 = .ok (.ldc2_w 76, 3) := by decide +kernel
theorem dL_law_381 : decode cL_law 381 = .ok (.land, 1) := by decide +kernel
theorem dL_law_382 : decode cL_law 382 = .ok (.lor, 1) := by decide +kernel
theorem dL_law_383 : decode cL_law 383 = .ok (.aload_n 0, 1) := by decide +kernel
theorem dL_law_384 : decode cL_law 384 = .ok (.iload 4, 2) := by decide +kernel
theorem dL_law_386 : decode cL_law 386 = .ok (.iconst 4, 1) := by decide +kernel
theorem dL_law_387 : decode cL_law 387 = .ok (.iadd, 1) := by decide +kernel
theorem dL_law_388 : decode cL_law 388 = .ok (.iaload, 1) := by decide +kernel
theorem dL_law_389 : decode cL_law 389 = .ok (.i2l, 1) := by decide +kernel
theorem dL_law_390 : decode cL_law 390 = .ok (.bipush 32, 2) := by decide +kernel
theorem dL_law_392 : decode cL_law 392 = .ok (.lshl, 1) := by decide +kernel
theorem dL_law_393 : decode cL_law 393 = .ok (.aload_n 0, 1) := by decide +kernel
theorem dL_law_394 : decode cL_law 394 = .ok (.iload 4, 2) := by decide +kernel
theorem dL_law_396 : decode cL_law 396 = .ok (.iconst 5, 1) := by decide +kernel
theorem dL_law_397 : decode cL_law 397 = .ok (.iadd, 1) := by decide +kernel
theorem dL_law_398 : decode cL_law 398 = .ok (.iaload, 1) := by decide +kernel
theorem dL_law_399 : decode cL_law 399 = .ok (.i2l, 1) := by decide +kernel
theorem dL_law_400 : decode cL_law 400 = .ok (.ldc2_w 76, 3) := by decide +kernel
theorem dL_law_403 : decode cL_law 403 = .ok (.land, 1) := by decide +kernel
theorem dL_law_404 : decode cL_law 404 = .ok (.lor, 1) := by decide +kernel
theorem dL_law_405 : decode cL_law 405 = .ok (.invokevirtual 88, 3) := by decide +kernel
theorem dL_law_408 : decode cL_law 408 = .ok (.istore 6, 2) := by decide +kernel
theorem dL_law_410 : decode cL_law 410 = .ok (.aload_n 2, 1) := by decide +kernel
theorem dL_law_411 : decode cL_law 411 = .ok (.invokevirtual 82, 3) := by decide +kernel
theorem dL_law_414 : decode cL_law 414 = .ok (.iload 5, 2) := by decide +kernel
theorem dL_law_416 : decode cL_law 416 = .ok (.if_icmp .eq 5, 3) := by decide +kernel
theorem dL_law_419 : decode cL_law 419 = .ok (.iconst 0, 1) := by decide +kernel
theorem dL_law_420 : decode cL_law 420 = .ok (.ireturn, 1) := by decide +kernel
theorem dL_law_421 : decode cL_law 421 = .ok (.iload 5, 2) := by decide +kernel
theorem dL_law_423 : decode cL_law 423 = .ok (.ifCond .ne 22, 3) := by decide +kernel
theorem dL_law_426 : decode cL_law 426 = .ok (.aload_n 3, 1) := by decide +kernel
theorem dL_law_427 : decode cL_law 427 = .ok (.iconst 0, 1) := by decide +kernel
theorem dL_law_428 : decode cL_law 428 = .ok (.laload, 1) := by decide +kernel
theorem dL_law_429 : decode cL_law 429 = .ok (.iload 6, 2) := by decide +kernel
theorem dL_law_431 : decode cL_law 431 = .ok (.ifCond .eq 7, 3) := by decide +kernel
theorem dL_law_434 : decode cL_law 434 = .ok (.lconst 1, 1) := by decide +kernel
theorem dL_law_435 : decode cL_law 435 = .ok (.goto 4, 3) := by decide +kernel
theorem dL_law_438 : decode cL_law 438 = .ok (.lconst 0, 1) := by decide +kernel
theorem dL_law_439 : decode cL_law 439 = .ok (.lcmp, 1) := by decide +kernel
theorem dL_law_440 : decode cL_law 440 = .ok (.ifCond .eq 5, 3) := by decide +kernel
theorem dL_law_443 : decode cL_law 443 = .ok (.iconst 0, 1) := by decide +kernel
theorem dL_law_444 : decode cL_law 444 = .ok (.ireturn, 1) := by decide +kernel
theorem dL_law_445 : decode cL_law 445 = .ok (.goto 751, 3) := by decide +kernel
theorem dL_law_448 : decode cL_law 448 = .ok (.aload_n 1, 1) := by decide +kernel
theorem dL_law_449 : decode cL_law 449 = .ok (.invokevirtual 89, 3) := by decide +kernel
theorem dL_law_452 : decode cL_law 452 = .ok (.aload_n 2, 1) := by decide +kernel
theorem dL_law_453 : decode cL_law 453 = .ok (.invokevirtual 92, 3) := by decide +kernel
theorem dL_law_456 : decode cL_law 456 = .ok (.if_icmp .eq 740, 3) := by decide +kernel
theorem dL_law_459 : decode cL_law 459 = .ok (.iconst 0, 1) := by decide +kernel
theorem dL_law_460 : decode cL_law 460 = .ok (.ireturn, 1) := by decide +kernel
theorem dL_law_461 : decode cL_law 461 = .ok (.aload_n 1, 1) := by decide +kernel
theorem dL_law_462 : decode cL_law 462 = .ok (.aload_n 3, 1) := by decide +kernel
theorem dL_law_463 : decode cL_law 463 = .ok (.invokestatic 93, 3) := by decide +kernel
theorem dL_law_466 : decode cL_law 466 = .ok (.istore 5, 2) := by decide +kernel
theorem dL_law_468 : decode cL_law 468 = .ok (.aload_n 2, 1) := by decide +kernel
theorem dL_law_469 : decode cL_law 469 = .ok (.invokevirtual 96, 3) := by decide +kernel
theorem dL_law_472 : decode cL_law 472 = .ok (.istore 6, 2) := by decide +kernel
theorem dL_law_474 : decode cL_law 474 = .ok (.aload_n 2, 1) := by decide +kernel
theorem dL_law_475 : decode cL_law 475 = .ok (.invokevirtual 82, 3) := by decide +kernel
theorem dL_law_478 : decode cL_law 478 = .ok (.iload 5, 2) := by decide +kernel
theorem dL_law_480 : decode cL_law 480 = .ok (.if_icmp .eq 5, 3) := by decide +kernel
theorem dL_law_483 : decode cL_law 483 = .ok (.iconst 0, 1) := by decide +kernel
theorem dL_law_484 : decode cL_law 484 = .ok (.ireturn, 1) := by decide +kernel
theorem dL_law_485 : decode cL_law 485 = .ok (.iload 5, 2) := by decide +kernel
theorem dL_law_487 : decode cL_law 487 = .ok (.ifCond .ne 15, 3) := by decide +kernel
theorem dL_law_490 : decode cL_law 490 = .ok (.aload_n 3, 1) := by decide +kernel
theorem dL_law_491 : decode cL_law 491 = .ok (.iconst 0, 1) := by decide +kernel
theorem dL_law_492 : decode cL_law 492 = .ok (.laload, 1) := by decide +kernel
theorem dL_law_493 : decode cL_law 493 = .ok (.iload 6, 2) := by decide +kernel
theorem dL_law_495 : decode cL_law 495 = .ok (.i2l, 1) := by decide +kernel
theorem dL_law_496 : decode cL_law 496 = .ok (.lcmp, 1) := by decide +kernel
theorem dL_law_497 : decode cL_law 497 = .ok (.ifCond .eq 5, 3) := by decide +kernel
theorem dL_law_500 : decode cL_law 500 = .ok (.iconst 0, 1) := by decide +kernel
theorem dL_law_501 : decode cL_law 501 = .ok (.ireturn, 1) := by decide +kernel
theorem dL_law_502 : decode cL_law 502 = .ok (.goto 694, 3) := by decide +kernel
theorem dL_law_505 : decode cL_law 505 = .ok (.aload_n 1, 1) := by decide +kernel
theorem dL_law_506 : decode cL_law 506 = .ok (.aload_n 0, 1) := by decide +kernel
theorem dL_law_507 : decode cL_law 507 = .ok (.iload 4, 2) := by decide +kernel
theorem dL_law_509 : decode cL_law 509 = .ok (.iconst 1, 1) := by decide +kernel
theorem dL_law_510 : decode cL_law 510 = .ok (.iadd, 1) := by decide +kernel
theorem dL_law_511 : decode cL_law 511 = .ok (.iaload, 1) := by decide +kernel
theorem dL_law_512 : decode cL_law 512 = .ok (.aload_n 0, 1) := by decide +kernel
theorem dL_law_513 : decode cL_law 513 = .ok (.iload 4, 2) := by decide +kernel
theorem dL_law_515 : decode cL_law 515 = .ok (.iconst 2, 1) := by decide +kernel
theorem dL_law_516 : decode cL_law 516 = .ok (.iadd, 1) := by decide +kernel
theorem dL_law_517 : decode cL_law 517 = .ok (.iaload, 1) := by decide +kernel
theorem dL_law_518 : decode cL_law 518 = .ok (.aload_n 3, 1) := by decide +kernel
theorem dL_law_519 : decode cL_law 519 = .ok (.invokestatic 97, 3) := by decide +kernel
theorem dL_law_522 : decode cL_law 522 = .ok (.istore 5, 2) := by decide +kernel
theorem dL_law_524 : decode cL_law 524 = .ok (.aload_n 2, 1) := by decide +kernel
theorem dL_law_525 : decode cL_law 525 = .ok (.aload_n 0, 1) := by decide +kernel
theorem dL_law_526 : decode cL_law 526 = .ok (.iload 4, 2) := by decide +kernel
theorem dL_law_528 : decode cL_law 528 = .ok (.iconst 1, 1) := by decide +kernel
theorem dL_law_529 : decode cL_law 529 = .ok (.iadd, 1) := by decide +kernel
theorem dL_law_530 : decode cL_law 530 = .ok (.iaload, 1) := by decide +kernel
theorem dL_law_531 : decode cL_law 531 = .ok (.aload_n 0, 1) := by decide +kernel
theorem dL_law_532 : decode cL_law 532 = .ok (.iload 4, 2) := by decide +kernel
theorem dL_law_534 : decode cL_law 534 = .ok (.iconst 2, 1) := by decide +kernel
theorem dL_law_535 : decode cL_law 535 = .ok (.iadd, 1) := by decide +kernel
theorem dL_law_536 : decode cL_law 536 = .ok (.iaload, 1) := by decide +kernel
theorem dL_law_537 : decode cL_law 537 = .ok (.invokevirtual 100, 3) := by decide +kernel
theorem dL_law_540 : decode cL_law 540 = .ok (.istore 6, 2) := by decide +kernel
theorem dL_law_542 : decode cL_law 542 = .ok (.aload_n 2, 1) := by decide +kernel
theorem dL_law_543 : decode cL_law 543 = .ok (.invokevirtual 82, 3) := by decide +kernel
theorem dL_law_546 : decode cL_law 546 = .ok (.iload 5, 2) := by decide +kernel
theorem dL_law_548 : decode cL_law 548 = .ok (.if_icmp .eq 5, 3) := by decide +kernel
theorem dL_law_551 : decode cL_law 551 = .ok (.iconst 0, 1) := by decide +kernel
theorem dL_law_552 : decode cL_law 552 = .ok (.ireturn, 1) := by decide +kernel
theorem dL_law_553 : decode cL_law 553 = .ok (.iload 5, 2) := by decide +kernel
theorem dL_law_555 : decode cL_law 555 = .ok (.ifCond .ne 15, 3) := by decide +kernel
theorem dL_law_558 : decode cL_law 558 = .ok (.aload_n 3, 1) := by decide +kernel
theorem dL_law_559 : decode cL_law 559 = .ok (.iconst 0, 1) := by decide +kernel
theorem dL_law_560 : decode cL_law 560 = .ok (.laload, 1) := by decide +kernel
theorem dL_law_561 : decode cL_law 561 = .ok (.iload 6, 2) := by decide +kernel
theorem dL_law_563 : decode cL_law 563 = .ok (.i2l, 1) := by decide +kernel
theorem dL_law_564 : decode cL_law 564 = .ok (.lcmp, 1) := by decide +kernel
theorem dL_law_565 : decode cL_law 565 = .ok (.ifCond .eq 5, 3) := by decide +kernel
theorem dL_law_568 : decode cL_law 568 = .ok (.iconst 0, 1) := by decide +kernel
theorem dL_law_569 : decode cL_law 569 = .ok (.ireturn, 1) := by decide +kernel
theorem dL_law_570 : decode cL_law 570 = .ok (.goto 626, 3) := by decide +kernel
theorem dL_law_573 : decode cL_law 573 = .ok (.aload_n 1, 1) := by decide +kernel
theorem dL_law_574 : decode cL_law 574 = .ok (.aload_n 3, 1) := by decide +kernel
theorem dL_law_575 : decode cL_law 575 = .ok (.invokestatic 101, 3) := by decide +kernel
theorem dL_law_578 : decode cL_law 578 = .ok (.istore 5, 2) := by decide +kernel
theorem dL_law_580 : decode cL_law 580 = .ok (.aload_n 2, 1) := by decide +kernel
theorem dL_law_581 : decode cL_law 581 = .ok (.invokevirtual 103, 3) := by decide +kernel
theorem dL_law_584 : decode cL_law 584 = .ok (.istore 6, 2) := by decide +kernel
theorem dL_law_586 : decode cL_law 586 = .ok (.aload_n 2, 1) := by decide +kernel
theorem dL_law_587 : decode cL_law 587 = .ok (.invokevirtual 82, 3) := by decide +kernel
theorem dL_law_590 : decode cL_law 590 = .ok (.iload 5, 2) := by decide +kernel
theorem dL_law_592 : decode cL_law 592 = .ok (.if_icmp .eq 5, 3) := by decide +kernel
theorem dL_law_595 : decode cL_law 595 = .ok (.iconst 0, 1) := by decide +kernel
theorem dL_law_596 : decode cL_law 596 = .ok (.ireturn, 1) := by decide +kernel
theorem dL_law_597 : decode cL_law 597 = .ok (.iload 5, 2) := by decide +kernel
theorem dL_law_599 : decode cL_law 599 = .ok (.ifCond .ne 22, 3) := by decide +kernel
theorem dL_law_602 : decode cL_law 602 = .ok (.aload_n 3, 1) := by decide +kernel
theorem dL_law_603 : decode cL_law 603 = .ok (.iconst 0, 1) := by decide +kernel
theorem dL_law_604 : decode cL_law 604 = .ok (.laload, 1) := by decide +kernel
theorem dL_law_605 : decode cL_law 605 = .ok (.iload 6, 2) := by decide +kernel
theorem dL_law_607 : decode cL_law 607 = .ok (.ifCond .eq 7, 3) := by decide +kernel
theorem dL_law_610 : decode cL_law 610 = .ok (.lconst 1, 1) := by decide +kernel
theorem dL_law_611 : decode cL_law 611 = .ok (.goto 4, 3) := by decide +kernel
theorem dL_law_614 : decode cL_law 614 = .ok (.lconst 0, 1) := by decide +kernel
theorem dL_law_615 : decode cL_law 615 = .ok (.lcmp, 1) := by decide +kernel
theorem dL_law_616 : decode cL_law 616 = .ok (.ifCond .eq 5, 3) := by decide +kernel
theorem dL_law_619 : decode cL_law 619 = .ok (.iconst 0, 1) := by decide +kernel
theorem dL_law_620 : decode cL_law 620 = .ok (.ireturn, 1) := by decide +kernel
theorem dL_law_621 : decode cL_law 621 = .ok (.goto 575, 3) := by decide +kernel
theorem dL_law_624 : decode cL_law 624 = .ok (.aload_n 1, 1) := by decide +kernel
theorem dL_law_625 : decode cL_law 625 = .ok (.aload_n 3, 1) := by decide +kernel
theorem dL_law_626 : decode cL_law 626 = .ok (.invokestatic 104, 3) := by decide +kernel
theorem dL_law_629 : decode cL_law 629 = .ok (.istore 5, 2) := by decide +kernel
theorem dL_law_631 : decode cL_law 631 = .ok (.aload_n 2, 1) := by decide +kernel
theorem dL_law_632 : decode cL_law 632 = .ok (.invokevirtual 106, 3) := by decide +kernel
theorem dL_law_635 : decode cL_law 635 = .ok (.istore 6, 2) := by decide +kernel
theorem dL_law_637 : decode cL_law 637 = .ok (.aload_n 2, 1) := by decide +kernel
theorem dL_law_638 : decode cL_law 638 = .ok (.invokevirtual 82, 3) := by decide +kernel
theorem dL_law_641 : decode cL_law 641 = .ok (.iload 5, 2) := by decide +kernel
theorem dL_law_643 : decode cL_law 643 = .ok (.if_icmp .eq 5, 3) := by decide +kernel
theorem dL_law_646 : decode cL_law 646 = .ok (.iconst 0, 1) := by decide +kernel
theorem dL_law_647 : decode cL_law 647 = .ok (.ireturn, 1) := by decide +kernel
theorem dL_law_648 : decode cL_law 648 = .ok (.iload 5, 2) := by decide +kernel
theorem dL_law_650 : decode cL_law 650 = .ok (.ifCond .ne 15, 3) := by decide +kernel
theorem dL_law_653 : decode cL_law 653 = .ok (.aload_n 3, 1) := by decide +kernel
theorem dL_law_654 : decode cL_law 654 = .ok (.iconst 0, 1) := by decide +kernel
theorem dL_law_655 : decode cL_law 655 = .ok (.laload, 1) := by decide +kernel
theorem dL_law_656 : decode cL_law 656 = .ok (.iload 6, 2) := by decide +kernel
theorem dL_law_658 : decode cL_law 658 = .ok (.i2l, 1) := by decide +kernel
theorem dL_law_659 : decode cL_law 659 = .ok (.lcmp, 1) := by decide +kernel
theorem dL_law_660 : decode cL_law 660 = .ok (.ifCond .eq 5, 3) := by decide +kernel
theorem dL_law_663 : decode cL_law 663 = .ok (.iconst 0, 1) := by decide +kernel
theorem dL_law_664 : decode cL_law 664 = .ok (.ireturn, 1) := by decide +kernel
theorem dL_law_665 : decode cL_law 665 = .ok (.goto 531, 3) := by decide +kernel
theorem dL_law_668 : decode cL_law 668 = .ok (.aload_n 1, 1) := by decide +kernel
theorem dL_law_669 : decode cL_law 669 = .ok (.aload_n 0, 1) := by decide +kernel
theorem dL_law_670 : decode cL_law 670 = .ok (.iload 4, 2) := by decide +kernel
theorem dL_law_672 : decode cL_law 672 = .ok (.iconst 1, 1) := by decide +kernel
theorem dL_law_673 : decode cL_law 673 = .ok (.iadd, 1) := by decide +kernel
theorem dL_law_674 : decode cL_law 674 = .ok (.iaload, 1) := by decide +kernel
theorem dL_law_675 : decode cL_law 675 = .ok (.aload_n 3, 1) := by decide +kernel
theorem dL_law_676 : decode cL_law 676 = .ok (.invokestatic 107, 3) := by decide +kernel
theorem dL_law_679 : decode cL_law 679 = .ok (.istore 5, 2) := by decide +kernel
theorem dL_law_681 : decode cL_law 681 = .ok (.aload_n 2, 1) := by decide +kernel
theorem dL_law_682 : decode cL_law 682 = .ok (.aload_n 0, 1) := by decide +kernel
theorem dL_law_683 : decode cL_law 683 = .ok (.iload 4, 2) := by decide +kernel
theorem dL_law_685 : decode cL_law 685 = .ok (.iconst 1, 1) := by decide +kernel
theorem dL_law_686 : decode cL_law 686 = .ok (.iadd, 1) := by decide +kernel
theorem dL_law_687 : decode cL_law 687 = .ok (.iaload, 1) := by decide +kernel
theorem dL_law_688 : decode cL_law 688 = .ok (.invokevirtual 110, 3) := by decide +kernel
theorem dL_law_691 : decode cL_law 691 = .ok (.istore 6, 2) := by decide +kernel
theorem dL_law_693 : decode cL_law 693 = .ok (.aload_n 2, 1) := by decide +kernel
theorem dL_law_694 : decode cL_law 694 = .ok (.invokevirtual 82, 3) := by decide +kernel
theorem dL_law_697 : decode cL_law 697 = .ok (.iload 5, 2) := by decide +kernel
theorem dL_law_699 : decode cL_law 699 = .ok (.if_icmp .eq 5, 3) := by decide +kernel
theorem dL_law_702 : decode cL_law 702 = .ok (.iconst 0, 1) := by decide +kernel
theorem dL_law_703 : decode cL_law 703 = .ok (.ireturn, 1) := by decide +kernel
theorem dL_law_704 : decode cL_law 704 = .ok (.iload 5, 2) := by decide +kernel
theorem dL_law_706 : decode cL_law 706 = .ok (.ifCond .ne 15, 3) := by decide +kernel
theorem dL_law_709 : decode cL_law 709 = .ok (.aload_n 3, 1) := by decide +kernel
theorem dL_law_710 : decode cL_law 710 = .ok (.iconst 0, 1) := by decide +kernel
theorem dL_law_711 : decode cL_law 711 = .ok (.laload, 1) := by decide +kernel
theorem dL_law_712 : decode cL_law 712 = .ok (.iload 6, 2) := by decide +kernel
theorem dL_law_714 : decode cL_law 714 = .ok (.i2l, 1) := by decide +kernel
theorem dL_law_715 : decode cL_law 715 = .ok (.lcmp, 1) := by decide +kernel
theorem dL_law_716 : decode cL_law 716 = .ok (.ifCond .eq 5, 3) := by decide +kernel
theorem dL_law_719 : decode cL_law 719 = .ok (.iconst 0, 1) := by decide +kernel
theorem dL_law_720 : decode cL_law 720 = .ok (.ireturn, 1) := by decide +kernel
theorem dL_law_721 : decode cL_law 721 = .ok (.goto 475, 3) := by decide +kernel
theorem dL_law_724 : decode cL_law 724 = .ok (.aload_n 1, 1) := by decide +kernel
theorem dL_law_725 : decode cL_law 725 = .ok (.aload_n 0, 1) := by decide +kernel
theorem dL_law_726 : decode cL_law 726 = .ok (.iload 4, 2) := by decide +kernel
theorem dL_law_728 : decode cL_law 728 = .ok (.iconst 1, 1) := by decide +kernel
theorem dL_law_729 : decode cL_law 729 = .ok (.iadd, 1) := by decide +kernel
theorem dL_law_730 : decode cL_law 730 = .ok (.iaload, 1) := by decide +kernel
theorem dL_law_731 : decode cL_law 731 = .ok (.aload_n 3, 1) := by decide +kernel
theorem dL_law_732 : decode cL_law 732 = .ok (.invokestatic 111, 3) := by decide +kernel
theorem dL_law_735 : decode cL_law 735 = .ok (.istore 5, 2) := by decide +kernel
theorem dL_law_737 : decode cL_law 737 = .ok (.aload_n 2, 1) := by decide +kernel
theorem dL_law_738 : decode cL_law 738 = .ok (.aload_n 0, 1) := by decide +kernel
theorem dL_law_739 : decode cL_law 739 = .ok (.iload 4, 2) := by decide +kernel
theorem dL_law_741 : decode cL_law 741 = .ok (.iconst 1, 1) := by decide +kernel
theorem dL_law_742 : decode cL_law 742 = .ok (.iadd, 1) := by decide +kernel
theorem dL_law_743 : decode cL_law 743 = .ok (.iaload, 1) := by decide +kernel
theorem dL_law_744 : decode cL_law 744 = .ok (.invokevirtual 113, 3) := by decide +kernel
theorem dL_law_747 : decode cL_law 747 = .ok (.istore 6, 2) := by decide +kernel
theorem dL_law_749 : decode cL_law 749 = .ok (.aload_n 2, 1) := by decide +kernel
theorem dL_law_750 : decode cL_law 750 = .ok (.invokevirtual 82, 3) := by decide +kernel
theorem dL_law_753 : decode cL_law 753 = .ok (.iload 5, 2) := by decide +kernel
theorem dL_law_755 : decode cL_law 755 = .ok (.if_icmp .eq 5, 3) := by decide +kernel
theorem dL_law_758 : decode cL_law 758 = .ok (.iconst 0, 1) := by decide +kernel
theorem dL_law_759 : decode cL_law 759 = .ok (.ireturn, 1) := by decide +kernel
theorem dL_law_760 : decode cL_law 760 = .ok (.iload 5, 2) := by decide +kernel
theorem dL_law_762 : decode cL_law 762 = .ok (.ifCond .ne 15, 3) := by decide +kernel
theorem dL_law_765 : decode cL_law 765 = .ok (.aload_n 3, 1) := by decide +kernel
theorem dL_law_766 : decode cL_law 766 = .ok (.iconst 0, 1) := by decide +kernel
theorem dL_law_767 : decode cL_law 767 = .ok (.laload, 1) := by decide +kernel
theorem dL_law_768 : decode cL_law 768 = .ok (.iload 6, 2) := by decide +kernel
theorem dL_law_770 : decode cL_law 770 = .ok (.i2l, 1) := by decide +kernel
theorem dL_law_771 : decode cL_law 771 = .ok (.lcmp, 1) := by decide +kernel
theorem dL_law_772 : decode cL_law 772 = .ok (.ifCond .eq 5, 3) := by decide +kernel
theorem dL_law_775 : decode cL_law 775 = .ok (.iconst 0, 1) := by decide +kernel
theorem dL_law_776 : decode cL_law 776 = .ok (.ireturn, 1) := by decide +kernel
theorem dL_law_777 : decode cL_law 777 = .ok (.goto 419, 3) := by decide +kernel
theorem dL_law_780 : decode cL_law 780 = .ok (.aload_n 1, 1) := by decide +kernel
theorem dL_law_781 : decode cL_law 781 = .ok (.aload_n 0, 1) := by decide +kernel
theorem dL_law_782 : decode cL_law 782 = .ok (.iload 4, 2) := by decide +kernel
theorem dL_law_784 : decode cL_law 784 = .ok (.iconst 1, 1) := by decide +kernel
theorem dL_law_785 : decode cL_law 785 = .ok (.iadd, 1) := by decide +kernel
theorem dL_law_786 : decode cL_law 786 = .ok (.iaload, 1) := by decide +kernel
theorem dL_law_787 : decode cL_law 787 = .ok (.aload_n 0, 1) := by decide +kernel
theorem dL_law_788 : decode cL_law 788 = .ok (.iload 4, 2) := by decide +kernel
theorem dL_law_790 : decode cL_law 790 = .ok (.iconst 2, 1) := by decide +kernel
theorem dL_law_791 : decode cL_law 791 = .ok (.iadd, 1) := by decide +kernel
theorem dL_law_792 : decode cL_law 792 = .ok (.iaload, 1) := by decide +kernel
theorem dL_law_793 : decode cL_law 793 = .ok (.aload_n 0, 1) := by decide +kernel
theorem dL_law_794 : decode cL_law 794 = .ok (.iload 4, 2) := by decide +kernel
theorem dL_law_796 : decode cL_law 796 = .ok (.iconst 3, 1) := by decide +kernel
theorem dL_law_797 : decode cL_law 797 = .ok (.iadd, 1) := by decide +kernel
theorem dL_law_798 : decode cL_law 798 = .ok (.iaload, 1) := by decide +kernel
theorem dL_law_799 : decode cL_law 799 = .ok (.aload_n 3, 1) := by decide +kernel
theorem dL_law_800 : decode cL_law 800 = .ok (.invokestatic 114, 3) := by decide +kernel
theorem dL_law_803 : decode cL_law 803 = .ok (.istore 5, 2) := by decide +kernel
theorem dL_law_805 : decode cL_law 805 = .ok (.aload_n 2, 1) := by decide +kernel
theorem dL_law_806 : decode cL_law 806 = .ok (.aload_n 0, 1) := by decide +kernel
theorem dL_law_807 : decode cL_law 807 = .ok (.iload 4, 2) := by decide +kernel
theorem dL_law_809 : decode cL_law 809 = .ok (.iconst 1, 1) := by decide +kernel
theorem dL_law_810 : decode cL_law 810 = .ok (.iadd, 1) := by decide +kernel
theorem dL_law_811 : decode cL_law 811 = .ok (.iaload, 1) := by decide +kernel
theorem dL_law_812 : decode cL_law 812 = .ok (.aload_n 0, 1) := by decide +kernel
theorem dL_law_813 : decode cL_law 813 = .ok (.iload 4, 2) := by decide +kernel
theorem dL_law_815 : decode cL_law 815 = .ok (.iconst 2, 1) := by decide +kernel
theorem dL_law_816 : decode cL_law 816 = .ok (.iadd, 1) := by decide +kernel
theorem dL_law_817 : decode cL_law 817 = .ok (.iaload, 1) := by decide +kernel
theorem dL_law_818 : decode cL_law 818 = .ok (.aload_n 0, 1) := by decide +kernel
theorem dL_law_819 : decode cL_law 819 = .ok (.iload 4, 2) := by decide +kernel
theorem dL_law_821 : decode cL_law 821 = .ok (.iconst 3, 1) := by decide +kernel
theorem dL_law_822 : decode cL_law 822 = .ok (.iadd, 1) := by decide +kernel
theorem dL_law_823 : decode cL_law 823 = .ok (.iaload, 1) := by decide +kernel
theorem dL_law_824 : decode cL_law 824 = .ok (.invokevirtual 117, 3) := by decide +kernel
theorem dL_law_827 : decode cL_law 827 = .ok (.istore 6, 2) := by decide +kernel
theorem dL_law_829 : decode cL_law 829 = .ok (.aload_n 2, 1) := by decide +kernel
theorem dL_law_830 : decode cL_law 830 = .ok (.invokevirtual 82, 3) := by decide +kernel
theorem dL_law_833 : decode cL_law 833 = .ok (.iload 5, 2) := by decide +kernel
theorem dL_law_835 : decode cL_law 835 = .ok (.if_icmp .eq 5, 3) := by decide +kernel
theorem dL_law_838 : decode cL_law 838 = .ok (.iconst 0, 1) := by decide +kernel
theorem dL_law_839 : decode cL_law 839 = .ok (.ireturn, 1) := by decide +kernel
theorem dL_law_840 : decode cL_law 840 = .ok (.iload 5, 2) := by decide +kernel
theorem dL_law_842 : decode cL_law 842 = .ok (.ifCond .ne 15, 3) := by decide +kernel
theorem dL_law_845 : decode cL_law 845 = .ok (.aload_n 3, 1) := by decide +kernel
theorem dL_law_846 : decode cL_law 846 = .ok (.iconst 0, 1) := by decide +kernel
theorem dL_law_847 : decode cL_law 847 = .ok (.laload, 1) := by decide +kernel
theorem dL_law_848 : decode cL_law 848 = .ok (.iload 6, 2) := by decide +kernel
theorem dL_law_850 : decode cL_law 850 = .ok (.i2l, 1) := by decide +kernel
theorem dL_law_851 : decode cL_law 851 = .ok (.lcmp, 1) := by decide +kernel
theorem dL_law_852 : decode cL_law 852 = .ok (.ifCond .eq 5, 3) := by decide +kernel
theorem dL_law_855 : decode cL_law 855 = .ok (.iconst 0, 1) := by decide +kernel
theorem dL_law_856 : decode cL_law 856 = .ok (.ireturn, 1) := by decide +kernel
theorem dL_law_857 : decode cL_law 857 = .ok (.goto 339, 3) := by decide +kernel
theorem dL_law_860 : decode cL_law 860 = .ok (.aload_n 1, 1) := by decide +kernel
theorem dL_law_861 : decode cL_law 861 = .ok (.aload_n 0, 1) := by decide +kernel
theorem dL_law_862 : decode cL_law 862 = .ok (.iload 4, 2) := by decide +kernel
theorem dL_law_864 : decode cL_law 864 = .ok (.iconst 1, 1) := by decide +kernel
theorem dL_law_865 : decode cL_law 865 = .ok (.iadd, 1) := by decide +kernel
theorem dL_law_866 : decode cL_law 866 = .ok (.iaload, 1) := by decide +kernel
theorem dL_law_867 : decode cL_law 867 = .ok (.i2l, 1) := by decide +kernel
theorem dL_law_868 : decode cL_law 868 = .ok (.bipush 32, 2) := by decide +kernel
theorem dL_law_870 : decode cL_law 870 = .ok (.lshl, 1) := by decide +kernel
theorem dL_law_871 : decode cL_law 871 = .ok (.aload_n 0, 1) := by decide +kernel
theorem dL_law_872 : decode cL_law 872 = .ok (.iload 4, 2) := by decide +kernel
theorem dL_law_874 : decode cL_law 874 = .ok (.iconst 2, 1) := by decide +kernel
theorem dL_law_875 : decode cL_law 875 = .ok (.iadd, 1) := by decide +kernel
theorem dL_law_876 : decode cL_law 876 = .ok (.iaload, 1) := by decide +kernel
theorem dL_law_877 : decode cL_law 877 = .ok (.i2l, 1) := by decide +kernel
theorem dL_law_878 : decode cL_law 878 = .ok (.ldc2_w 76, 3) := by decide +kernel
theorem dL_law_881 : decode cL_law 881 = .ok (.land, 1) := by decide +kernel
theorem dL_law_882 : decode cL_law 882 = .ok (.lor, 1) := by decide +kernel
theorem dL_law_883 : decode cL_law 883 = .ok (.invokevirtual 118, 3) := by decide +kernel
theorem dL_law_886 : decode cL_law 886 = .ok (.aload_n 2, 1) := by decide +kernel
theorem dL_law_887 : decode cL_law 887 = .ok (.aload_n 0, 1) := by decide +kernel
theorem dL_law_888 : decode cL_law 888 = .ok (.iload 4, 2) := by decide +kernel
theorem dL_law_890 : decode cL_law 890 = .ok (.iconst 1, 1) := by decide +kernel
theorem dL_law_891 : decode cL_law 891 = .ok (.iadd, 1) := by decide +kernel
theorem dL_law_892 : decode cL_law 892 = .ok (.iaload, 1) := by decide +kernel
theorem dL_law_893 : decode cL_law 893 = .ok (.i2l, 1) := by decide +kernel
theorem dL_law_894 : decode cL_law 894 = .ok (.bipush 32, 2) := by decide +kernel
theorem dL_law_896 : decode cL_law 896 = .ok (.lshl, 1) := by decide +kernel
theorem dL_law_897 : decode cL_law 897 = .ok (.aload_n 0, 1) := by decide +kernel
theorem dL_law_898 : decode cL_law 898 = .ok (.iload 4, 2) := by decide +kernel
theorem dL_law_900 : decode cL_law 900 = .ok (.iconst 2, 1) := by decide +kernel
theorem dL_law_901 : decode cL_law 901 = .ok (.iadd, 1) := by decide +kernel
theorem dL_law_902 : decode cL_law 902 = .ok (.iaload, 1) := by decide +kernel
theorem dL_law_903 : decode cL_law 903 = .ok (.i2l, 1) := by decide +kernel
theorem dL_law_904 : decode cL_law 904 = .ok (.ldc2_w 76, 3) := by decide +kernel
theorem dL_law_907 : decode cL_law 907 = .ok (.land, 1) := by decide +kernel
theorem dL_law_908 : decode cL_law 908 = .ok (.lor, 1) := by decide +kernel
theorem dL_law_909 : decode cL_law 909 = .ok (.invokevirtual 122, 3) := by decide +kernel
theorem dL_law_912 : decode cL_law 912 = .ok (.if_icmp .eq 284, 3) := by decide +kernel
theorem dL_law_915 : decode cL_law 915 = .ok (.iconst 0, 1) := by decide +kernel
theorem dL_law_916 : decode cL_law 916 = .ok (.ireturn, 1) := by decide +kernel
theorem dL_law_917 : decode cL_law 917 = .ok (.aload_n 1, 1) := by decide +kernel
theorem dL_law_918 : decode cL_law 918 = .ok (.aload_n 0, 1) := by decide +kernel
theorem dL_law_919 : decode cL_law 919 = .ok (.iload 4, 2) := by decide +kernel
theorem dL_law_921 : decode cL_law 921 = .ok (.iconst 1, 1) := by decide +kernel
theorem dL_law_922 : decode cL_law 922 = .ok (.iadd, 1) := by decide +kernel
theorem dL_law_923 : decode cL_law 923 = .ok (.iaload, 1) := by decide +kernel
theorem dL_law_924 : decode cL_law 924 = .ok (.aload_n 3, 1) := by decide +kernel
theorem dL_law_925 : decode cL_law 925 = .ok (.invokestatic 123, 3) := by decide +kernel
theorem dL_law_928 : decode cL_law 928 = .ok (.istore 5, 2) := by decide +kernel
theorem dL_law_930 : decode cL_law 930 = .ok (.aload_n 2, 1) := by decide +kernel
theorem dL_law_931 : decode cL_law 931 = .ok (.aload_n 0, 1) := by decide +kernel
theorem dL_law_932 : decode cL_law 932 = .ok (.iload 4, 2) := by decide +kernel
theorem dL_law_934 : decode cL_law 934 = .ok (.iconst 1, 1) := by decide +kernel
theorem dL_law_935 : decode cL_law 935 = .ok (.iadd, 1) := by decide +kernel
theorem dL_law_936 : decode cL_law 936 = .ok (.iaload, 1) := by decide +kernel
theorem dL_law_937 : decode cL_law 937 = .ok (.invokevirtual 125, 3) := by decide +kernel
theorem dL_law_940 : decode cL_law 940 = .ok (.istore 6, 2) := by decide +kernel
theorem dL_law_942 : decode cL_law 942 = .ok (.aload_n 2, 1) := by decide +kernel
theorem dL_law_943 : decode cL_law 943 = .ok (.invokevirtual 82, 3) := by decide +kernel
theorem dL_law_946 : decode cL_law 946 = .ok (.iload 5, 2) := by decide +kernel
theorem dL_law_948 : decode cL_law 948 = .ok (.if_icmp .eq 5, 3) := by decide +kernel
theorem dL_law_951 : decode cL_law 951 = .ok (.iconst 0, 1) := by decide +kernel
theorem dL_law_952 : decode cL_law 952 = .ok (.ireturn, 1) := by decide +kernel
theorem dL_law_953 : decode cL_law 953 = .ok (.iload 5, 2) := by decide +kernel
theorem dL_law_955 : decode cL_law 955 = .ok (.ifCond .ne 15, 3) := by decide +kernel
theorem dL_law_958 : decode cL_law 958 = .ok (.aload_n 3, 1) := by decide +kernel
theorem dL_law_959 : decode cL_law 959 = .ok (.iconst 0, 1) := by decide +kernel
theorem dL_law_960 : decode cL_law 960 = .ok (.laload, 1) := by decide +kernel
theorem dL_law_961 : decode cL_law 961 = .ok (.iload 6, 2) := by decide +kernel
theorem dL_law_963 : decode cL_law 963 = .ok (.i2l, 1) := by decide +kernel
theorem dL_law_964 : decode cL_law 964 = .ok (.lcmp, 1) := by decide +kernel
theorem dL_law_965 : decode cL_law 965 = .ok (.ifCond .eq 5, 3) := by decide +kernel
theorem dL_law_968 : decode cL_law 968 = .ok (.iconst 0, 1) := by decide +kernel
theorem dL_law_969 : decode cL_law 969 = .ok (.ireturn, 1) := by decide +kernel
theorem dL_law_970 : decode cL_law 970 = .ok (.goto 226, 3) := by decide +kernel
theorem dL_law_973 : decode cL_law 973 = .ok (.aload_n 1, 1) := by decide +kernel
theorem dL_law_974 : decode cL_law 974 = .ok (.aload_n 0, 1) := by decide +kernel
theorem dL_law_975 : decode cL_law 975 = .ok (.iload 4, 2) := by decide +kernel
theorem dL_law_977 : decode cL_law 977 = .ok (.iconst 1, 1) := by decide +kernel
theorem dL_law_978 : decode cL_law 978 = .ok (.iadd, 1) := by decide +kernel
theorem dL_law_979 : decode cL_law 979 = .ok (.iaload, 1) := by decide +kernel
theorem dL_law_980 : decode cL_law 980 = .ok (.invokevirtual 126, 3) := by decide +kernel
theorem dL_law_983 : decode cL_law 983 = .ok (.aload_n 2, 1) := by decide +kernel
theorem dL_law_984 : decode cL_law 984 = .ok (.aload_n 0, 1) := by decide +kernel
theorem dL_law_985 : decode cL_law 985 = .ok (.iload 4, 2) := by decide +kernel
theorem dL_law_987 : decode cL_law 987 = .ok (.iconst 1, 1) := by decide +kernel
theorem dL_law_988 : decode cL_law 988 = .ok (.iadd, 1) := by decide +kernel
theorem dL_law_989 : decode cL_law 989 = .ok (.iaload, 1) := by decide +kernel
theorem dL_law_990 : decode cL_law 990 = .ok (.invokevirtual 129, 3) := by decide +kernel
theorem dL_law_993 : decode cL_law 993 = .ok (.if_icmp .eq 203, 3) := by decide +kernel
theorem dL_law_996 : decode cL_law 996 = .ok (.iconst 0, 1) := by decide +kernel
theorem dL_law_997 : decode cL_law 997 = .ok (.ireturn, 1) := by decide +kernel
theorem dL_law_998 : decode cL_law 998 = .ok (.aload_n 1, 1) := by decide +kernel
theorem dL_law_999 : decode cL_law 999 = .ok (.aload_n 0, 1) := by decide +kernel
theorem dL_law_1000 : decode cL_law 1000 = .ok (.iload 4, 2) := by decide +kernel
theorem dL_law_1002 : decode cL_law 1002 = .ok (.iconst 1, 1) := by decide +kernel
theorem dL_law_1003 : decode cL_law 1003 = .ok (.iadd, 1) := by decide +kernel
theorem dL_law_1004 : decode cL_law 1004 = .ok (.iaload, 1) := by decide +kernel
theorem dL_law_1005 : decode cL_law 1005 = .ok (.aload_n 3, 1) := by decide +kernel
theorem dL_law_1006 : decode cL_law 1006 = .ok (.invokestatic 130, 3) := by decide +kernel
theorem dL_law_1009 : decode cL_law 1009 = .ok (.istore 5, 2) := by decide +kernel
theorem dL_law_1011 : decode cL_law 1011 = .ok (.aload_n 2, 1) := by decide +kernel
theorem dL_law_1012 : decode cL_law 1012 = .ok (.aload_n 0, 1) := by decide +kernel
theorem dL_law_1013 : decode cL_law 1013 = .ok (.iload 4, 2) := by decide +kernel
theorem dL_law_1015 : decode cL_law 1015 = .ok (.iconst 1, 1) := by decide +kernel
theorem dL_law_1016 : decode cL_law 1016 = .ok (.iadd, 1) := by decide +kernel
theorem dL_law_1017 : decode cL_law 1017 = .ok (.iaload, 1) := by decide +kernel
theorem dL_law_1018 : decode cL_law 1018 = .ok (.invokevirtual 132, 3) := by decide +kernel
theorem dL_law_1021 : decode cL_law 1021 = .ok (.istore 6, 2) := by decide +kernel
theorem dL_law_1023 : decode cL_law 1023 = .ok (.aload_n 2, 1) := by decide +kernel
theorem dL_law_1024 : decode cL_law 1024 = .ok (.invokevirtual 82, 3) := by decide +kernel
theorem dL_law_1027 : decode cL_law 1027 = .ok (.iload 5, 2) := by decide +kernel
theorem dL_law_1029 : decode cL_law 1029 = .ok (.if_icmp .eq 5, 3) := by decide +kernel
theorem dL_law_1032 : decode cL_law 1032 = .ok (.iconst 0, 1) := by decide +kernel
theorem dL_law_1033 : decode cL_law 1033 = .ok (.ireturn, 1) := by decide +kernel
theorem dL_law_1034 : decode cL_law 1034 = .ok (.iload 5, 2) := by decide +kernel
theorem dL_law_1036 : decode cL_law 1036 = .ok (.ifCond .ne 15, 3) := by decide +kernel
theorem dL_law_1039 : decode cL_law 1039 = .ok (.aload_n 3, 1) := by decide +kernel
theorem dL_law_1040 : decode cL_law 1040 = .ok (.iconst 0, 1) := by decide +kernel
theorem dL_law_1041 : decode cL_law 1041 = .ok (.laload, 1) := by decide +kernel
theorem dL_law_1042 : decode cL_law 1042 = .ok (.iload 6, 2) := by decide +kernel
theorem dL_law_1044 : decode cL_law 1044 = .ok (.i2l, 1) := by decide +kernel
theorem dL_law_1045 : decode cL_law 1045 = .ok (.lcmp, 1) := by decide +kernel
theorem dL_law_1046 : decode cL_law 1046 = .ok (.ifCond .eq 5, 3) := by decide +kernel
theorem dL_law_1049 : decode cL_law 1049 = .ok (.iconst 0, 1) := by decide +kernel
theorem dL_law_1050 : decode cL_law 1050 = .ok (.ireturn, 1) := by decide +kernel
theorem dL_law_1051 : decode cL_law 1051 = .ok (.goto 145, 3) := by decide +kernel
theorem dL_law_1054 : decode cL_law 1054 = .ok (.aload_n 1, 1) := by decide +kernel
theorem dL_law_1055 : decode cL_law 1055 = .ok (.aload_n 0, 1) := by decide +kernel
theorem dL_law_1056 : decode cL_law 1056 = .ok (.iload 4, 2) := by decide +kernel
theorem dL_law_1058 : decode cL_law 1058 = .ok (.iconst 1, 1) := by decide +kernel
theorem dL_law_1059 : decode cL_law 1059 = .ok (.iadd, 1) := by decide +kernel
theorem dL_law_1060 : decode cL_law 1060 = .ok (.iaload, 1) := by decide +kernel
theorem dL_law_1061 : decode cL_law 1061 = .ok (.aload_n 3, 1) := by decide +kernel
theorem dL_law_1062 : decode cL_law 1062 = .ok (.invokestatic 133, 3) := by decide +kernel
theorem dL_law_1065 : decode cL_law 1065 = .ok (.istore 5, 2) := by decide +kernel
theorem dL_law_1067 : decode cL_law 1067 = .ok (.aload_n 2, 1) := by decide +kernel
theorem dL_law_1068 : decode cL_law 1068 = .ok (.aload_n 0, 1) := by decide +kernel
theorem dL_law_1069 : decode cL_law 1069 = .ok (.iload 4, 2) := by decide +kernel
theorem dL_law_1071 : decode cL_law 1071 = .ok (.iconst 1, 1) := by decide +kernel
theorem dL_law_1072 : decode cL_law 1072 = .ok (.iadd, 1) := by decide +kernel
theorem dL_law_1073 : decode cL_law 1073 = .ok (.iaload, 1) := by decide +kernel
theorem dL_law_1074 : decode cL_law 1074 = .ok (.invokevirtual 135, 3) := by decide +kernel
theorem dL_law_1077 : decode cL_law 1077 = .ok (.istore 6, 2) := by decide +kernel
theorem dL_law_1079 : decode cL_law 1079 = .ok (.aload_n 2, 1) := by decide +kernel
theorem dL_law_1080 : decode cL_law 1080 = .ok (.invokevirtual 82, 3) := by decide +kernel
theorem dL_law_1083 : decode cL_law 1083 = .ok (.iload 5, 2) := by decide +kernel
theorem dL_law_1085 : decode cL_law 1085 = .ok (.if_icmp .eq 5, 3) := by decide +kernel
theorem dL_law_1088 : decode cL_law 1088 = .ok (.iconst 0, 1) := by decide +kernel
theorem dL_law_1089 : decode cL_law 1089 = .ok (.ireturn, 1) := by decide +kernel
theorem dL_law_1090 : decode cL_law 1090 = .ok (.iload 5, 2) := by decide +kernel
theorem dL_law_1092 : decode cL_law 1092 = .ok (.ifCond .ne 15, 3) := by decide +kernel
theorem dL_law_1095 : decode cL_law 1095 = .ok (.aload_n 3, 1) := by decide +kernel
theorem dL_law_1096 : decode cL_law 1096 = .ok (.iconst 0, 1) := by decide +kernel
theorem dL_law_1097 : decode cL_law 1097 = .ok (.laload, 1) := by decide +kernel
theorem dL_law_1098 : decode cL_law 1098 = .ok (.iload 6, 2) := by decide +kernel
theorem dL_law_1100 : decode cL_law 1100 = .ok (.i2l, 1) := by decide +kernel
theorem dL_law_1101 : decode cL_law 1101 = .ok (.lcmp, 1) := by decide +kernel
theorem dL_law_1102 : decode cL_law 1102 = .ok (.ifCond .eq 5, 3) := by decide +kernel
theorem dL_law_1105 : decode cL_law 1105 = .ok (.iconst 0, 1) := by decide +kernel
theorem dL_law_1106 : decode cL_law 1106 = .ok (.ireturn, 1) := by decide +kernel
theorem dL_law_1107 : decode cL_law 1107 = .ok (.goto 89, 3) := by decide +kernel
theorem dL_law_1110 : decode cL_law 1110 = .ok (.aload_n 1, 1) := by decide +kernel
theorem dL_law_1111 : decode cL_law 1111 = .ok (.aload_n 0, 1) := by decide +kernel
theorem dL_law_1112 : decode cL_law 1112 = .ok (.iload 4, 2) := by decide +kernel
theorem dL_law_1114 : decode cL_law 1114 = .ok (.iconst 1, 1) := by decide +kernel
theorem dL_law_1115 : decode cL_law 1115 = .ok (.iadd, 1) := by decide +kernel
theorem dL_law_1116 : decode cL_law 1116 = .ok (.iaload, 1) := by decide +kernel
theorem dL_law_1117 : decode cL_law 1117 = .ok (.aload_n 0, 1) := by decide +kernel
theorem dL_law_1118 : decode cL_law 1118 = .ok (.iload 4, 2) := by decide +kernel
theorem dL_law_1120 : decode cL_law 1120 = .ok (.iconst 2, 1) := by decide +kernel
theorem dL_law_1121 : decode cL_law 1121 = .ok (.iadd, 1) := by decide +kernel
theorem dL_law_1122 : decode cL_law 1122 = .ok (.iaload, 1) := by decide +kernel
theorem dL_law_1123 : decode cL_law 1123 = .ok (.aload_n 3, 1) := by decide +kernel
theorem dL_law_1124 : decode cL_law 1124 = .ok (.invokestatic 136, 3) := by decide +kernel
theorem dL_law_1127 : decode cL_law 1127 = .ok (.istore 5, 2) := by decide +kernel
theorem dL_law_1129 : decode cL_law 1129 = .ok (.aload_n 2, 1) := by decide +kernel
theorem dL_law_1130 : decode cL_law 1130 = .ok (.aload_n 0, 1) := by decide +kernel
theorem dL_law_1131 : decode cL_law 1131 = .ok (.iload 4, 2) := by decide +kernel
theorem dL_law_1133 : decode cL_law 1133 = .ok (.iconst 1, 1) := by decide +kernel
theorem dL_law_1134 : decode cL_law 1134 = .ok (.iadd, 1) := by decide +kernel
theorem dL_law_1135 : decode cL_law 1135 = .ok (.iaload, 1) := by decide +kernel
theorem dL_law_1136 : decode cL_law 1136 = .ok (.aload_n 0, 1) := by decide +kernel
theorem dL_law_1137 : decode cL_law 1137 = .ok (.iload 4, 2) := by decide +kernel
theorem dL_law_1139 : decode cL_law 1139 = .ok (.iconst 2, 1) := by decide +kernel
theorem dL_law_1140 : decode cL_law 1140 = .ok (.iadd, 1) := by decide +kernel
theorem dL_law_1141 : decode cL_law 1141 = .ok (.iaload, 1) := by decide +kernel
theorem dL_law_1142 : decode cL_law 1142 = .ok (.invokevirtual 138, 3) := by decide +kernel
theorem dL_law_1145 : decode cL_law 1145 = .ok (.istore 6, 2) := by decide +kernel
theorem dL_law_1147 : decode cL_law 1147 = .ok (.aload_n 2, 1) := by decide +kernel
theorem dL_law_1148 : decode cL_law 1148 = .ok (.invokevirtual 82, 3) := by decide +kernel
theorem dL_law_1151 : decode cL_law 1151 = .ok (.iload 5, 2) := by decide +kernel
theorem dL_law_1153 : decode cL_law 1153 = .ok (.if_icmp .eq 5, 3) := by decide +kernel
theorem dL_law_1156 : decode cL_law 1156 = .ok (.iconst 0, 1) := by decide +kernel
theorem dL_law_1157 : decode cL_law 1157 = .ok (.ireturn, 1) := by decide +kernel
theorem dL_law_1158 : decode cL_law 1158 = .ok (.iload 5, 2) := by decide +kernel
theorem dL_law_1160 : decode cL_law 1160 = .ok (.ifCond .ne 22, 3) := by decide +kernel
theorem dL_law_1163 : decode cL_law 1163 = .ok (.aload_n 3, 1) := by decide +kernel
theorem dL_law_1164 : decode cL_law 1164 = .ok (.iconst 0, 1) := by decide +kernel
theorem dL_law_1165 : decode cL_law 1165 = .ok (.laload, 1) := by decide +kernel
theorem dL_law_1166 : decode cL_law 1166 = .ok (.iload 6, 2) := by decide +kernel
theorem dL_law_1168 : decode cL_law 1168 = .ok (.ifCond .eq 7, 3) := by decide +kernel
theorem dL_law_1171 : decode cL_law 1171 = .ok (.lconst 1, 1) := by decide +kernel
theorem dL_law_1172 : decode cL_law 1172 = .ok (.goto 4, 3) := by decide +kernel
theorem dL_law_1175 : decode cL_law 1175 = .ok (.lconst 0, 1) := by decide +kernel
theorem dL_law_1176 : decode cL_law 1176 = .ok (.lcmp, 1) := by decide +kernel
theorem dL_law_1177 : decode cL_law 1177 = .ok (.ifCond .eq 5, 3) := by decide +kernel
theorem dL_law_1180 : decode cL_law 1180 = .ok (.iconst 0, 1) := by decide +kernel
theorem dL_law_1181 : decode cL_law 1181 = .ok (.ireturn, 1) := by decide +kernel
theorem dL_law_1182 : decode cL_law 1182 = .ok (.goto 14, 3) := by decide +kernel
theorem dL_law_1185 : decode cL_law 1185 = .ok (.aload_n 1, 1) := by decide +kernel
theorem dL_law_1186 : decode cL_law 1186 = .ok (.invokevirtual 139, 3) := by decide +kernel
theorem dL_law_1189 : decode cL_law 1189 = .ok (.aload_n 2, 1) := by decide +kernel
theorem dL_law_1190 : decode cL_law 1190 = .ok (.invokevirtual 142, 3) := by decide +kernel
theorem dL_law_1193 : decode cL_law 1193 = .ok (.goto 3, 3) := by decide +kernel
theorem dL_law_1196 : decode cL_law 1196 = .ok (.iinc 4 7, 3) := by decide +kernel
theorem dL_law_1199 : decode cL_law 1199 = .ok (.goto (-1166), 3) := by decide +kernel
theorem dL_law_1202 : decode cL_law 1202 = .ok (.iconst 1, 1) := by decide +kernel
theorem dL_law_1203 : decode cL_law 1203 = .ok (.ireturn, 1) := by decide +kernel
