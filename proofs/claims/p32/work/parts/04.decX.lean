theorem dX0_tileAt_0 : decode cX0_tileAt 0 = .ok (.lload_n 0, 1) := by decide +kernel
theorem dX0_tileAt_1 : decode cX0_tileAt 1 = .ok (.iload_n 2, 1) := by decide +kernel
theorem dX0_tileAt_2 : decode cX0_tileAt 2 = .ok (.iconst 5, 1) := by decide +kernel
theorem dX0_tileAt_3 : decode cX0_tileAt 3 = .ok (.imul, 1) := by decide +kernel
theorem dX0_tileAt_4 : decode cX0_tileAt 4 = .ok (.lushr, 1) := by decide +kernel
theorem dX0_tileAt_5 : decode cX0_tileAt 5 = .ok (.l2i, 1) := by decide +kernel
theorem dX0_tileAt_6 : decode cX0_tileAt 6 = .ok (.bipush 31, 2) := by decide +kernel
theorem dX0_tileAt_8 : decode cX0_tileAt 8 = .ok (.iand, 1) := by decide +kernel
theorem dX0_tileAt_9 : decode cX0_tileAt 9 = .ok (.ireturn, 1) := by decide +kernel
theorem dX0_canGo_0 : decode cX0_canGo 0 = .ok (.lload_n 0, 1) := by decide +kernel
theorem dX0_canGo_1 : decode cX0_canGo 1 = .ok (.iload_n 2, 1) := by decide +kernel
theorem dX0_canGo_2 : decode cX0_canGo 2 = .ok (.invokestatic 9, 3) := by decide +kernel
theorem dX0_canGo_5 : decode cX0_canGo 5 = .ok (.lload_n 0, 1) := by decide +kernel
theorem dX0_canGo_6 : decode cX0_canGo 6 = .ok (.lcmp, 1) := by decide +kernel
theorem dX0_canGo_7 : decode cX0_canGo 7 = .ok (.ifCond .eq 7, 3) := by decide +kernel
theorem dX0_canGo_10 : decode cX0_canGo 10 = .ok (.iconst 1, 1) := by decide +kernel
theorem dX0_canGo_11 : decode cX0_canGo 11 = .ok (.goto 4, 3) := by decide +kernel
theorem dX0_canGo_14 : decode cX0_canGo 14 = .ok (.iconst 0, 1) := by decide +kernel
theorem dX0_canGo_15 : decode cX0_canGo 15 = .ok (.ireturn, 1) := by decide +kernel
theorem dX0_isStuck_0 : decode cX0_isStuck 0 = .ok (.iconst 0, 1) := by decide +kernel
theorem dX0_isStuck_1 : decode cX0_isStuck 1 = .ok (.istore_n 2, 1) := by decide +kernel
theorem dX0_isStuck_2 : decode cX0_isStuck 2 = .ok (.iload_n 2, 1) := by decide +kernel
theorem dX0_isStuck_3 : decode cX0_isStuck 3 = .ok (.iconst 4, 1) := by decide +kernel
theorem dX0_isStuck_4 : decode cX0_isStuck 4 = .ok (.if_icmp .ge 19, 3) := by decide +kernel
theorem dX0_isStuck_7 : decode cX0_isStuck 7 = .ok (.lload_n 0, 1) := by decide +kernel
theorem dX0_isStuck_8 : decode cX0_isStuck 8 = .ok (.iload_n 2, 1) := by decide +kernel
theorem dX0_isStuck_9 : decode cX0_isStuck 9 = .ok (.invokestatic 13, 3) := by decide +kernel
theorem dX0_isStuck_12 : decode cX0_isStuck 12 = .ok (.ifCond .eq 5, 3) := by decide +kernel
theorem dX0_isStuck_15 : decode cX0_isStuck 15 = .ok (.iconst 0, 1) := by decide +kernel
theorem dX0_isStuck_16 : decode cX0_isStuck 16 = .ok (.ireturn, 1) := by decide +kernel
theorem dX0_isStuck_17 : decode cX0_isStuck 17 = .ok (.iinc 2 1, 3) := by decide +kernel
theorem dX0_isStuck_20 : decode cX0_isStuck 20 = .ok (.goto (-18), 3) := by decide +kernel
theorem dX0_isStuck_23 : decode cX0_isStuck 23 = .ok (.iconst 1, 1) := by decide +kernel
theorem dX0_isStuck_24 : decode cX0_isStuck 24 = .ok (.ireturn, 1) := by decide +kernel
theorem dX0_pushed_0 : decode cX0_pushed 0 = .ok (.lconst 0, 1) := by decide +kernel
theorem dX0_pushed_1 : decode cX0_pushed 1 = .ok (.lstore_n 3, 1) := by decide +kernel
theorem dX0_pushed_2 : decode cX0_pushed 2 = .ok (.iconst 0, 1) := by decide +kernel
theorem dX0_pushed_3 : decode cX0_pushed 3 = .ok (.istore 5, 2) := by decide +kernel
theorem dX0_pushed_5 : decode cX0_pushed 5 = .ok (.iload 5, 2) := by decide +kernel
theorem dX0_pushed_7 : decode cX0_pushed 7 = .ok (.iconst 3, 1) := by decide +kernel
theorem dX0_pushed_8 : decode cX0_pushed 8 = .ok (.if_icmp .ge 62, 3) := by decide +kernel
theorem dX0_pushed_11 : decode cX0_pushed 11 = .ok (.lload_n 0, 1) := by decide +kernel
theorem dX0_pushed_12 : decode cX0_pushed 12 = .ok (.iload_n 2, 1) := by decide +kernel
theorem dX0_pushed_13 : decode cX0_pushed 13 = .ok (.iload 5, 2) := by decide +kernel
theorem dX0_pushed_15 : decode cX0_pushed 15 = .ok (.invokestatic 17, 3) := by decide +kernel
theorem dX0_pushed_18 : decode cX0_pushed 18 = .ok (.invokestatic 21, 3) := by decide +kernel
theorem dX0_pushed_21 : decode cX0_pushed 21 = .ok (.istore 6, 2) := by decide +kernel
theorem dX0_pushed_23 : decode cX0_pushed 23 = .ok (.iconst 0, 1) := by decide +kernel
theorem dX0_pushed_24 : decode cX0_pushed 24 = .ok (.istore 7, 2) := by decide +kernel
theorem dX0_pushed_26 : decode cX0_pushed 26 = .ok (.iload 7, 2) := by decide +kernel
theorem dX0_pushed_28 : decode cX0_pushed 28 = .ok (.iconst 3, 1) := by decide +kernel
theorem dX0_pushed_29 : decode cX0_pushed 29 = .ok (.if_icmp .ge 35, 3) := by decide +kernel
theorem dX0_pushed_32 : decode cX0_pushed 32 = .ok (.iload 6, 2) := by decide +kernel
theorem dX0_pushed_34 : decode cX0_pushed 34 = .ok (.iload 7, 2) := by decide +kernel
theorem dX0_pushed_36 : decode cX0_pushed 36 = .ok (.invokestatic 25, 3) := by decide +kernel
theorem dX0_pushed_39 : decode cX0_pushed 39 = .ok (.i2l, 1) := by decide +kernel
theorem dX0_pushed_40 : decode cX0_pushed 40 = .ok (.lstore 8, 2) := by decide +kernel
theorem dX0_pushed_42 : decode cX0_pushed 42 = .ok (.lload_n 3, 1) := by decide +kernel
theorem dX0_pushed_43 : decode cX0_pushed 43 = .ok (.lload 8, 2) := by decide +kernel
theorem dX0_pushed_45 : decode cX0_pushed 45 = .ok (.iload_n 2, 1) := by decide +kernel
theorem dX0_pushed_46 : decode cX0_pushed 46 = .ok (.iload 5, 2) := by decide +kernel
theorem dX0_pushed_48 : decode cX0_pushed 48 = .ok (.iload 7, 2) := by decide +kernel
theorem dX0_pushed_50 : decode cX0_pushed 50 = .ok (.invokestatic 29, 3) := by decide +kernel
theorem dX0_pushed_53 : decode cX0_pushed 53 = .ok (.iconst 5, 1) := by decide +kernel
theorem dX0_pushed_54 : decode cX0_pushed 54 = .ok (.imul, 1) := by decide +kernel
theorem dX0_pushed_55 : decode cX0_pushed 55 = .ok (.lshl, 1) := by decide +kernel
theorem dX0_pushed_56 : decode cX0_pushed 56 = .ok (.lor, 1) := by decide +kernel
theorem dX0_pushed_57 : decode cX0_pushed 57 = .ok (.lstore_n 3, 1) := by decide +kernel
theorem dX0_pushed_58 : decode cX0_pushed 58 = .ok (.iinc 7 1, 3) := by decide +kernel
theorem dX0_pushed_61 : decode cX0_pushed 61 = .ok (.goto (-35), 3) := by decide +kernel
theorem dX0_pushed_64 : decode cX0_pushed 64 = .ok (.iinc 5 1, 3) := by decide +kernel
theorem dX0_pushed_67 : decode cX0_pushed 67 = .ok (.goto (-62), 3) := by decide +kernel
theorem dX0_pushed_70 : decode cX0_pushed 70 = .ok (.lload_n 3, 1) := by decide +kernel
theorem dX0_pushed_71 : decode cX0_pushed 71 = .ok (.lreturn, 1) := by decide +kernel
theorem dX0_gainOf_0 : decode cX0_gainOf 0 = .ok (.iconst 0, 1) := by decide +kernel
theorem dX0_gainOf_1 : decode cX0_gainOf 1 = .ok (.istore_n 3, 1) := by decide +kernel
theorem dX0_gainOf_2 : decode cX0_gainOf 2 = .ok (.iconst 0, 1) := by decide +kernel
theorem dX0_gainOf_3 : decode cX0_gainOf 3 = .ok (.istore 4, 2) := by decide +kernel
theorem dX0_gainOf_5 : decode cX0_gainOf 5 = .ok (.iload 4, 2) := by decide +kernel
theorem dX0_gainOf_7 : decode cX0_gainOf 7 = .ok (.iconst 3, 1) := by decide +kernel
theorem dX0_gainOf_8 : decode cX0_gainOf 8 = .ok (.if_icmp .ge 45, 3) := by decide +kernel
theorem dX0_gainOf_11 : decode cX0_gainOf 11 = .ok (.lload_n 0, 1) := by decide +kernel
theorem dX0_gainOf_12 : decode cX0_gainOf 12 = .ok (.iload_n 2, 1) := by decide +kernel
theorem dX0_gainOf_13 : decode cX0_gainOf 13 = .ok (.iload 4, 2) := by decide +kernel
theorem dX0_gainOf_15 : decode cX0_gainOf 15 = .ok (.invokestatic 17, 3) := by decide +kernel
theorem dX0_gainOf_18 : decode cX0_gainOf 18 = .ok (.istore 5, 2) := by decide +kernel
theorem dX0_gainOf_20 : decode cX0_gainOf 20 = .ok (.iload 5, 2) := by decide +kernel
theorem dX0_gainOf_22 : decode cX0_gainOf 22 = .ok (.invokestatic 33, 3) := by decide +kernel
theorem dX0_gainOf_25 : decode cX0_gainOf 25 = .ok (.istore 6, 2) := by decide +kernel
theorem dX0_gainOf_27 : decode cX0_gainOf 27 = .ok (.iload 6, 2) := by decide +kernel
theorem dX0_gainOf_29 : decode cX0_gainOf 29 = .ok (.iconst (-1), 1) := by decide +kernel
theorem dX0_gainOf_30 : decode cX0_gainOf 30 = .ok (.if_icmp .eq 17, 3) := by decide +kernel
theorem dX0_gainOf_33 : decode cX0_gainOf 33 = .ok (.iload_n 3, 1) := by decide +kernel
theorem dX0_gainOf_34 : decode cX0_gainOf 34 = .ok (.iconst 1, 1) := by decide +kernel
theorem dX0_gainOf_35 : decode cX0_gainOf 35 = .ok (.iload 5, 2) := by decide +kernel
theorem dX0_gainOf_37 : decode cX0_gainOf 37 = .ok (.iload 6, 2) := by decide +kernel
theorem dX0_gainOf_39 : decode cX0_gainOf 39 = .ok (.invokestatic 25, 3) := by decide +kernel
theorem dX0_gainOf_42 : decode cX0_gainOf 42 = .ok (.iconst 1, 1) := by decide +kernel
theorem dX0_gainOf_43 : decode cX0_gainOf 43 = .ok (.iadd, 1) := by decide +kernel
theorem dX0_gainOf_44 : decode cX0_gainOf 44 = .ok (.ishl, 1) := by decide +kernel
theorem dX0_gainOf_45 : decode cX0_gainOf 45 = .ok (.iadd, 1) := by decide +kernel
theorem dX0_gainOf_46 : decode cX0_gainOf 46 = .ok (.istore_n 3, 1) := by decide +kernel
theorem dX0_gainOf_47 : decode cX0_gainOf 47 = .ok (.iinc 4 1, 3) := by decide +kernel
theorem dX0_gainOf_50 : decode cX0_gainOf 50 = .ok (.goto (-45), 3) := by decide +kernel
theorem dX0_gainOf_53 : decode cX0_gainOf 53 = .ok (.iload_n 3, 1) := by decide +kernel
theorem dX0_gainOf_54 : decode cX0_gainOf 54 = .ok (.ireturn, 1) := by decide +kernel
theorem dX0_drawn_0 : decode cX0_drawn 0 = .ok (.lload_n 0, 1) := by decide +kernel
theorem dX0_drawn_1 : decode cX0_drawn 1 = .ok (.invokestatic 36, 3) := by decide +kernel
theorem dX0_drawn_4 : decode cX0_drawn 4 = .ok (.istore_n 3, 1) := by decide +kernel
theorem dX0_drawn_5 : decode cX0_drawn 5 = .ok (.iload_n 3, 1) := by decide +kernel
theorem dX0_drawn_6 : decode cX0_drawn 6 = .ok (.ifCond .ne 5, 3) := by decide +kernel
theorem dX0_drawn_9 : decode cX0_drawn 9 = .ok (.lload_n 0, 1) := by decide +kernel
theorem dX0_drawn_10 : decode cX0_drawn 10 = .ok (.lreturn, 1) := by decide +kernel
theorem dX0_drawn_11 : decode cX0_drawn 11 = .ok (.iload_n 2, 1) := by decide +kernel
theorem dX0_drawn_12 : decode cX0_drawn 12 = .ok (.invokestatic 40, 3) := by decide +kernel
theorem dX0_drawn_15 : decode cX0_drawn 15 = .ok (.istore 4, 2) := by decide +kernel
theorem dX0_drawn_17 : decode cX0_drawn 17 = .ok (.iload 4, 2) := by decide +kernel
theorem dX0_drawn_19 : decode cX0_drawn 19 = .ok (.bipush 16, 2) := by decide +kernel
theorem dX0_drawn_21 : decode cX0_drawn 21 = .ok (.ishr, 1) := by decide +kernel
theorem dX0_drawn_22 : decode cX0_drawn 22 = .ok (.iload_n 3, 1) := by decide +kernel
theorem dX0_drawn_23 : decode cX0_drawn 23 = .ok (.irem, 1) := by decide +kernel
theorem dX0_drawn_24 : decode cX0_drawn 24 = .ok (.istore 5, 2) := by decide +kernel
theorem dX0_drawn_26 : decode cX0_drawn 26 = .ok (.iload 4, 2) := by decide +kernel
theorem dX0_drawn_28 : decode cX0_drawn 28 = .ok (.invokestatic 40, 3) := by decide +kernel
theorem dX0_drawn_31 : decode cX0_drawn 31 = .ok (.bipush 16, 2) := by decide +kernel
theorem dX0_drawn_33 : decode cX0_drawn 33 = .ok (.ishr, 1) := by decide +kernel
theorem dX0_drawn_34 : decode cX0_drawn 34 = .ok (.bipush 10, 2) := by decide +kernel
theorem dX0_drawn_36 : decode cX0_drawn 36 = .ok (.irem, 1) := by decide +kernel
theorem dX0_drawn_37 : decode cX0_drawn 37 = .ok (.ifCond .ne 9, 3) := by decide +kernel
theorem dX0_drawn_40 : decode cX0_drawn 40 = .ok (.ldc2_w 43, 3) := by decide +kernel
theorem dX0_drawn_43 : decode cX0_drawn 43 = .ok (.goto 4, 3) := by decide +kernel
theorem dX0_drawn_46 : decode cX0_drawn 46 = .ok (.lconst 1, 1) := by decide +kernel
theorem dX0_drawn_47 : decode cX0_drawn 47 = .ok (.lstore 6, 2) := by decide +kernel
theorem dX0_drawn_49 : decode cX0_drawn 49 = .ok (.iconst 0, 1) := by decide +kernel
theorem dX0_drawn_50 : decode cX0_drawn 50 = .ok (.istore 8, 2) := by decide +kernel
theorem dX0_drawn_52 : decode cX0_drawn 52 = .ok (.iload 8, 2) := by decide +kernel
theorem dX0_drawn_54 : decode cX0_drawn 54 = .ok (.bipush 9, 2) := by decide +kernel
theorem dX0_drawn_56 : decode cX0_drawn 56 = .ok (.if_icmp .ge 36, 3) := by decide +kernel
theorem dX0_drawn_59 : decode cX0_drawn 59 = .ok (.lload_n 0, 1) := by decide +kernel
theorem dX0_drawn_60 : decode cX0_drawn 60 = .ok (.iload 8, 2) := by decide +kernel
theorem dX0_drawn_62 : decode cX0_drawn 62 = .ok (.invokestatic 45, 3) := by decide +kernel
theorem dX0_drawn_65 : decode cX0_drawn 65 = .ok (.ifCond .ne 21, 3) := by decide +kernel
theorem dX0_drawn_68 : decode cX0_drawn 68 = .ok (.iload 5, 2) := by decide +kernel
theorem dX0_drawn_70 : decode cX0_drawn 70 = .ok (.ifCond .ne 13, 3) := by decide +kernel
theorem dX0_drawn_73 : decode cX0_drawn 73 = .ok (.lload_n 0, 1) := by decide +kernel
theorem dX0_drawn_74 : decode cX0_drawn 74 = .ok (.lload 6, 2) := by decide +kernel
theorem dX0_drawn_76 : decode cX0_drawn 76 = .ok (.iload 8, 2) := by decide +kernel
theorem dX0_drawn_78 : decode cX0_drawn 78 = .ok (.iconst 5, 1) := by decide +kernel
theorem dX0_drawn_79 : decode cX0_drawn 79 = .ok (.imul, 1) := by decide +kernel
theorem dX0_drawn_80 : decode cX0_drawn 80 = .ok (.lshl, 1) := by decide +kernel
theorem dX0_drawn_81 : decode cX0_drawn 81 = .ok (.lor, 1) := by decide +kernel
theorem dX0_drawn_82 : decode cX0_drawn 82 = .ok (.lreturn, 1) := by decide +kernel
theorem dX0_drawn_83 : decode cX0_drawn 83 = .ok (.iinc 5 (-1), 3) := by decide +kernel
theorem dX0_drawn_86 : decode cX0_drawn 86 = .ok (.iinc 8 1, 3) := by decide +kernel
theorem dX0_drawn_89 : decode cX0_drawn 89 = .ok (.goto (-37), 3) := by decide +kernel
theorem dX0_drawn_92 : decode cX0_drawn 92 = .ok (.lload_n 0, 1) := by decide +kernel
theorem dX0_drawn_93 : decode cX0_drawn 93 = .ok (.lreturn, 1) := by decide +kernel
theorem dX0_drawnZ_0 : decode cX0_drawnZ 0 = .ok (.iload_n 0, 1) := by decide +kernel
theorem dX0_drawnZ_1 : decode cX0_drawnZ 1 = .ok (.invokestatic 40, 3) := by decide +kernel
theorem dX0_drawnZ_4 : decode cX0_drawnZ 4 = .ok (.invokestatic 40, 3) := by decide +kernel
theorem dX0_drawnZ_7 : decode cX0_drawnZ 7 = .ok (.ireturn, 1) := by decide +kernel
theorem dX0_nextZ_0 : decode cX0_nextZ 0 = .ok (.iload_n 0, 1) := by decide +kernel
theorem dX0_nextZ_1 : decode cX0_nextZ 1 = .ok (.ldc 49, 2) := by decide +kernel
theorem dX0_nextZ_3 : decode cX0_nextZ 3 = .ok (.imul, 1) := by decide +kernel
theorem dX0_nextZ_4 : decode cX0_nextZ 4 = .ok (.sipush 12345, 3) := by decide +kernel
theorem dX0_nextZ_7 : decode cX0_nextZ 7 = .ok (.iadd, 1) := by decide +kernel
theorem dX0_nextZ_8 : decode cX0_nextZ 8 = .ok (.ldc 50, 2) := by decide +kernel
theorem dX0_nextZ_10 : decode cX0_nextZ 10 = .ok (.iand, 1) := by decide +kernel
theorem dX0_nextZ_11 : decode cX0_nextZ 11 = .ok (.ireturn, 1) := by decide +kernel
theorem dX0_countEmpty_0 : decode cX0_countEmpty 0 = .ok (.iconst 0, 1) := by decide +kernel
theorem dX0_countEmpty_1 : decode cX0_countEmpty 1 = .ok (.istore_n 2, 1) := by decide +kernel
theorem dX0_countEmpty_2 : decode cX0_countEmpty 2 = .ok (.iconst 0, 1) := by decide +kernel
theorem dX0_countEmpty_3 : decode cX0_countEmpty 3 = .ok (.istore_n 3, 1) := by decide +kernel
theorem dX0_countEmpty_4 : decode cX0_countEmpty 4 = .ok (.iload_n 3, 1) := by decide +kernel
theorem dX0_countEmpty_5 : decode cX0_countEmpty 5 = .ok (.bipush 9, 2) := by decide +kernel
theorem dX0_countEmpty_7 : decode cX0_countEmpty 7 = .ok (.if_icmp .ge 20, 3) := by decide +kernel
theorem dX0_countEmpty_10 : decode cX0_countEmpty 10 = .ok (.lload_n 0, 1) := by decide +kernel
theorem dX0_countEmpty_11 : decode cX0_countEmpty 11 = .ok (.iload_n 3, 1) := by decide +kernel
theorem dX0_countEmpty_12 : decode cX0_countEmpty 12 = .ok (.invokestatic 45, 3) := by decide +kernel
theorem dX0_countEmpty_15 : decode cX0_countEmpty 15 = .ok (.ifCond .ne 6, 3) := by decide +kernel
theorem dX0_countEmpty_18 : decode cX0_countEmpty 18 = .ok (.iinc 2 1, 3) := by decide +kernel
theorem dX0_countEmpty_21 : decode cX0_countEmpty 21 = .ok (.iinc 3 1, 3) := by decide +kernel
theorem dX0_countEmpty_24 : decode cX0_countEmpty 24 = .ok (.goto (-20), 3) := by decide +kernel
theorem dX0_countEmpty_27 : decode cX0_countEmpty 27 = .ok (.iload_n 2, 1) := by decide +kernel
theorem dX0_countEmpty_28 : decode cX0_countEmpty 28 = .ok (.ireturn, 1) := by decide +kernel
theorem dX0_cellOf_0 : decode cX0_cellOf 0 = .ok (.iload_n 0, 1) := by decide +kernel
theorem dX0_cellOf_1 : decode cX0_cellOf 1 = .ok (.tableswitch 51 0 2 #[27, 33, 43], 27) := by decide +kernel
theorem dX0_cellOf_28 : decode cX0_cellOf 28 = .ok (.iload_n 2, 1) := by decide +kernel
theorem dX0_cellOf_29 : decode cX0_cellOf 29 = .ok (.iconst 3, 1) := by decide +kernel
theorem dX0_cellOf_30 : decode cX0_cellOf 30 = .ok (.imul, 1) := by decide +kernel
theorem dX0_cellOf_31 : decode cX0_cellOf 31 = .ok (.iload_n 1, 1) := by decide +kernel
theorem dX0_cellOf_32 : decode cX0_cellOf 32 = .ok (.iadd, 1) := by decide +kernel
theorem dX0_cellOf_33 : decode cX0_cellOf 33 = .ok (.ireturn, 1) := by decide +kernel
theorem dX0_cellOf_34 : decode cX0_cellOf 34 = .ok (.iload_n 1, 1) := by decide +kernel
theorem dX0_cellOf_35 : decode cX0_cellOf 35 = .ok (.iconst 3, 1) := by decide +kernel
theorem dX0_cellOf_36 : decode cX0_cellOf 36 = .ok (.imul, 1) := by decide +kernel
theorem dX0_cellOf_37 : decode cX0_cellOf 37 = .ok (.iconst 3, 1) := by decide +kernel
theorem dX0_cellOf_38 : decode cX0_cellOf 38 = .ok (.iadd, 1) := by decide +kernel
theorem dX0_cellOf_39 : decode cX0_cellOf 39 = .ok (.iconst 1, 1) := by decide +kernel
theorem dX0_cellOf_40 : decode cX0_cellOf 40 = .ok (.isub, 1) := by decide +kernel
theorem dX0_cellOf_41 : decode cX0_cellOf 41 = .ok (.iload_n 2, 1) := by decide +kernel
theorem dX0_cellOf_42 : decode cX0_cellOf 42 = .ok (.isub, 1) := by decide +kernel
theorem dX0_cellOf_43 : decode cX0_cellOf 43 = .ok (.ireturn, 1) := by decide +kernel
theorem dX0_cellOf_44 : decode cX0_cellOf 44 = .ok (.iconst 2, 1) := by decide +kernel
theorem dX0_cellOf_45 : decode cX0_cellOf 45 = .ok (.iload_n 2, 1) := by decide +kernel
theorem dX0_cellOf_46 : decode cX0_cellOf 46 = .ok (.isub, 1) := by decide +kernel
theorem dX0_cellOf_47 : decode cX0_cellOf 47 = .ok (.iconst 3, 1) := by decide +kernel
theorem dX0_cellOf_48 : decode cX0_cellOf 48 = .ok (.imul, 1) := by decide +kernel
theorem dX0_cellOf_49 : decode cX0_cellOf 49 = .ok (.iload_n 1, 1) := by decide +kernel
theorem dX0_cellOf_50 : decode cX0_cellOf 50 = .ok (.iadd, 1) := by decide +kernel
theorem dX0_cellOf_51 : decode cX0_cellOf 51 = .ok (.ireturn, 1) := by decide +kernel
theorem dX0_cellOf_52 : decode cX0_cellOf 52 = .ok (.iload_n 1, 1) := by decide +kernel
theorem dX0_cellOf_53 : decode cX0_cellOf 53 = .ok (.iconst 3, 1) := by decide +kernel
theorem dX0_cellOf_54 : decode cX0_cellOf 54 = .ok (.imul, 1) := by decide +kernel
theorem dX0_cellOf_55 : decode cX0_cellOf 55 = .ok (.iload_n 2, 1) := by decide +kernel
theorem dX0_cellOf_56 : decode cX0_cellOf 56 = .ok (.iadd, 1) := by decide +kernel
theorem dX0_cellOf_57 : decode cX0_cellOf 57 = .ok (.ireturn, 1) := by decide +kernel
theorem dX0_tileIn_0 : decode cX0_tileIn 0 = .ok (.iload_n 0, 1) := by decide +kernel
theorem dX0_tileIn_1 : decode cX0_tileIn 1 = .ok (.iload_n 1, 1) := by decide +kernel
theorem dX0_tileIn_2 : decode cX0_tileIn 2 = .ok (.iconst 5, 1) := by decide +kernel
theorem dX0_tileIn_3 : decode cX0_tileIn 3 = .ok (.imul, 1) := by decide +kernel
theorem dX0_tileIn_4 : decode cX0_tileIn 4 = .ok (.ishr, 1) := by decide +kernel
theorem dX0_tileIn_5 : decode cX0_tileIn 5 = .ok (.bipush 31, 2) := by decide +kernel
theorem dX0_tileIn_7 : decode cX0_tileIn 7 = .ok (.iand, 1) := by decide +kernel
theorem dX0_tileIn_8 : decode cX0_tileIn 8 = .ok (.ireturn, 1) := by decide +kernel
theorem dX0_gathered_0 : decode cX0_gathered 0 = .ok (.iconst 0, 1) := by decide +kernel
theorem dX0_gathered_1 : decode cX0_gathered 1 = .ok (.istore 4, 2) := by decide +kernel
theorem dX0_gathered_3 : decode cX0_gathered 3 = .ok (.iconst 0, 1) := by decide +kernel
theorem dX0_gathered_4 : decode cX0_gathered 4 = .ok (.istore 5, 2) := by decide +kernel
theorem dX0_gathered_6 : decode cX0_gathered 6 = .ok (.iconst 0, 1) := by decide +kernel
theorem dX0_gathered_7 : decode cX0_gathered 7 = .ok (.istore 6, 2) := by decide +kernel
theorem dX0_gathered_9 : decode cX0_gathered 9 = .ok (.iload 6, 2) := by decide +kernel
theorem dX0_gathered_11 : decode cX0_gathered 11 = .ok (.iconst 3, 1) := by decide +kernel
theorem dX0_gathered_12 : decode cX0_gathered 12 = .ok (.if_icmp .ge 42, 3) := by decide +kernel
theorem dX0_gathered_15 : decode cX0_gathered 15 = .ok (.lload_n 0, 1) := by decide +kernel
theorem dX0_gathered_16 : decode cX0_gathered 16 = .ok (.iload_n 2, 1) := by decide +kernel
theorem dX0_gathered_17 : decode cX0_gathered 17 = .ok (.iload_n 3, 1) := by decide +kernel
theorem dX0_gathered_18 : decode cX0_gathered 18 = .ok (.iload 6, 2) := by decide +kernel
theorem dX0_gathered_20 : decode cX0_gathered 20 = .ok (.invokestatic 29, 3) := by decide +kernel
theorem dX0_gathered_23 : decode cX0_gathered 23 = .ok (.invokestatic 45, 3) := by decide +kernel
theorem dX0_gathered_26 : decode cX0_gathered 26 = .ok (.istore 7, 2) := by decide +kernel
theorem dX0_gathered_28 : decode cX0_gathered 28 = .ok (.iload 7, 2) := by decide +kernel
theorem dX0_gathered_30 : decode cX0_gathered 30 = .ok (.ifCond .eq 18, 3) := by decide +kernel
theorem dX0_gathered_33 : decode cX0_gathered 33 = .ok (.iload 4, 2) := by decide +kernel
theorem dX0_gathered_35 : decode cX0_gathered 35 = .ok (.iload 7, 2) := by decide +kernel
theorem dX0_gathered_37 : decode cX0_gathered 37 = .ok (.iload 5, 2) := by decide +kernel
theorem dX0_gathered_39 : decode cX0_gathered 39 = .ok (.iconst 5, 1) := by decide +kernel
theorem dX0_gathered_40 : decode cX0_gathered 40 = .ok (.imul, 1) := by decide +kernel
theorem dX0_gathered_41 : decode cX0_gathered 41 = .ok (.ishl, 1) := by decide +kernel
theorem dX0_gathered_42 : decode cX0_gathered 42 = .ok (.ior, 1) := by decide +kernel
theorem dX0_gathered_43 : decode cX0_gathered 43 = .ok (.istore 4, 2) := by decide +kernel
theorem dX0_gathered_45 : decode cX0_gathered 45 = .ok (.iinc 5 1, 3) := by decide +kernel
theorem dX0_gathered_48 : decode cX0_gathered 48 = .ok (.iinc 6 1, 3) := by decide +kernel
theorem dX0_gathered_51 : decode cX0_gathered 51 = .ok (.goto (-42), 3) := by decide +kernel
theorem dX0_gathered_54 : decode cX0_gathered 54 = .ok (.iload 4, 2) := by decide +kernel
theorem dX0_gathered_56 : decode cX0_gathered 56 = .ok (.ireturn, 1) := by decide +kernel
theorem dX0_mergingPlace_0 : decode cX0_mergingPlace 0 = .ok (.iload_n 0, 1) := by decide +kernel
theorem dX0_mergingPlace_1 : decode cX0_mergingPlace 1 = .ok (.bipush 31, 2) := by decide +kernel
theorem dX0_mergingPlace_3 : decode cX0_mergingPlace 3 = .ok (.iand, 1) := by decide +kernel
theorem dX0_mergingPlace_4 : decode cX0_mergingPlace 4 = .ok (.istore_n 1, 1) := by decide +kernel
theorem dX0_mergingPlace_5 : decode cX0_mergingPlace 5 = .ok (.iload_n 0, 1) := by decide +kernel
theorem dX0_mergingPlace_6 : decode cX0_mergingPlace 6 = .ok (.iconst 5, 1) := by decide +kernel
theorem dX0_mergingPlace_7 : decode cX0_mergingPlace 7 = .ok (.ishr, 1) := by decide +kernel
theorem dX0_mergingPlace_8 : decode cX0_mergingPlace 8 = .ok (.bipush 31, 2) := by decide +kernel
theorem dX0_mergingPlace_10 : decode cX0_mergingPlace 10 = .ok (.iand, 1) := by decide +kernel
theorem dX0_mergingPlace_11 : decode cX0_mergingPlace 11 = .ok (.istore_n 2, 1) := by decide +kernel
theorem dX0_mergingPlace_12 : decode cX0_mergingPlace 12 = .ok (.iload_n 0, 1) := by decide +kernel
theorem dX0_mergingPlace_13 : decode cX0_mergingPlace 13 = .ok (.bipush 10, 2) := by decide +kernel
theorem dX0_mergingPlace_15 : decode cX0_mergingPlace 15 = .ok (.ishr, 1) := by decide +kernel
theorem dX0_mergingPlace_16 : decode cX0_mergingPlace 16 = .ok (.bipush 31, 2) := by decide +kernel
theorem dX0_mergingPlace_18 : decode cX0_mergingPlace 18 = .ok (.iand, 1) := by decide +kernel
theorem dX0_mergingPlace_19 : decode cX0_mergingPlace 19 = .ok (.istore_n 3, 1) := by decide +kernel
theorem dX0_mergingPlace_20 : decode cX0_mergingPlace 20 = .ok (.iload_n 1, 1) := by decide +kernel
theorem dX0_mergingPlace_21 : decode cX0_mergingPlace 21 = .ok (.ifCond .eq 10, 3) := by decide +kernel
theorem dX0_mergingPlace_24 : decode cX0_mergingPlace 24 = .ok (.iload_n 1, 1) := by decide +kernel
theorem dX0_mergingPlace_25 : decode cX0_mergingPlace 25 = .ok (.iload_n 2, 1) := by decide +kernel
theorem dX0_mergingPlace_26 : decode cX0_mergingPlace 26 = .ok (.if_icmp .ne 5, 3) := by decide +kernel
theorem dX0_mergingPlace_29 : decode cX0_mergingPlace 29 = .ok (.iconst 0, 1) := by decide +kernel
theorem dX0_mergingPlace_30 : decode cX0_mergingPlace 30 = .ok (.ireturn, 1) := by decide +kernel
theorem dX0_mergingPlace_31 : decode cX0_mergingPlace 31 = .ok (.iload_n 2, 1) := by decide +kernel
theorem dX0_mergingPlace_32 : decode cX0_mergingPlace 32 = .ok (.ifCond .eq 12, 3) := by decide +kernel
theorem dX0_mergingPlace_35 : decode cX0_mergingPlace 35 = .ok (.iload_n 2, 1) := by decide +kernel
theorem dX0_mergingPlace_36 : decode cX0_mergingPlace 36 = .ok (.iload_n 3, 1) := by decide +kernel
theorem dX0_mergingPlace_37 : decode cX0_mergingPlace 37 = .ok (.if_icmp .ne 7, 3) := by decide +kernel
theorem dX0_mergingPlace_40 : decode cX0_mergingPlace 40 = .ok (.iconst 1, 1) := by decide +kernel
theorem dX0_mergingPlace_41 : decode cX0_mergingPlace 41 = .ok (.goto 4, 3) := by decide +kernel
theorem dX0_mergingPlace_44 : decode cX0_mergingPlace 44 = .ok (.iconst (-1), 1) := by decide +kernel
theorem dX0_mergingPlace_45 : decode cX0_mergingPlace 45 = .ok (.ireturn, 1) := by decide +kernel
theorem dX0_merged_0 : decode cX0_merged 0 = .ok (.iload_n 0, 1) := by decide +kernel
theorem dX0_merged_1 : decode cX0_merged 1 = .ok (.invokestatic 33, 3) := by decide +kernel
theorem dX0_merged_4 : decode cX0_merged 4 = .ok (.istore_n 1, 1) := by decide +kernel
theorem dX0_merged_5 : decode cX0_merged 5 = .ok (.iload_n 1, 1) := by decide +kernel
theorem dX0_merged_6 : decode cX0_merged 6 = .ok (.iconst (-1), 1) := by decide +kernel
theorem dX0_merged_7 : decode cX0_merged 7 = .ok (.if_icmp .ne 5, 3) := by decide +kernel
theorem dX0_merged_10 : decode cX0_merged 10 = .ok (.iload_n 0, 1) := by decide +kernel
theorem dX0_merged_11 : decode cX0_merged 11 = .ok (.ireturn, 1) := by decide +kernel
theorem dX0_merged_12 : decode cX0_merged 12 = .ok (.iload_n 1, 1) := by decide +kernel
theorem dX0_merged_13 : decode cX0_merged 13 = .ok (.iconst 5, 1) := by decide +kernel
theorem dX0_merged_14 : decode cX0_merged 14 = .ok (.imul, 1) := by decide +kernel
theorem dX0_merged_15 : decode cX0_merged 15 = .ok (.istore_n 2, 1) := by decide +kernel
theorem dX0_merged_16 : decode cX0_merged 16 = .ok (.iload_n 0, 1) := by decide +kernel
theorem dX0_merged_17 : decode cX0_merged 17 = .ok (.iconst 1, 1) := by decide +kernel
theorem dX0_merged_18 : decode cX0_merged 18 = .ok (.iload_n 2, 1) := by decide +kernel
theorem dX0_merged_19 : decode cX0_merged 19 = .ok (.ishl, 1) := by decide +kernel
theorem dX0_merged_20 : decode cX0_merged 20 = .ok (.iconst 1, 1) := by decide +kernel
theorem dX0_merged_21 : decode cX0_merged 21 = .ok (.isub, 1) := by decide +kernel
theorem dX0_merged_22 : decode cX0_merged 22 = .ok (.iand, 1) := by decide +kernel
theorem dX0_merged_23 : decode cX0_merged 23 = .ok (.istore_n 3, 1) := by decide +kernel
theorem dX0_merged_24 : decode cX0_merged 24 = .ok (.iload_n 0, 1) := by decide +kernel
theorem dX0_merged_25 : decode cX0_merged 25 = .ok (.iload_n 2, 1) := by decide +kernel
theorem dX0_merged_26 : decode cX0_merged 26 = .ok (.iconst 5, 1) := by decide +kernel
theorem dX0_merged_27 : decode cX0_merged 27 = .ok (.iadd, 1) := by decide +kernel
theorem dX0_merged_28 : decode cX0_merged 28 = .ok (.iconst 5, 1) := by decide +kernel
theorem dX0_merged_29 : decode cX0_merged 29 = .ok (.iadd, 1) := by decide +kernel
theorem dX0_merged_30 : decode cX0_merged 30 = .ok (.ishr, 1) := by decide +kernel
theorem dX0_merged_31 : decode cX0_merged 31 = .ok (.istore 4, 2) := by decide +kernel
theorem dX0_merged_33 : decode cX0_merged 33 = .ok (.iload_n 3, 1) := by decide +kernel
theorem dX0_merged_34 : decode cX0_merged 34 = .ok (.iload_n 0, 1) := by decide +kernel
theorem dX0_merged_35 : decode cX0_merged 35 = .ok (.iload_n 1, 1) := by decide +kernel
theorem dX0_merged_36 : decode cX0_merged 36 = .ok (.invokestatic 25, 3) := by decide +kernel
theorem dX0_merged_39 : decode cX0_merged 39 = .ok (.iconst 1, 1) := by decide +kernel
theorem dX0_merged_40 : decode cX0_merged 40 = .ok (.iadd, 1) := by decide +kernel
theorem dX0_merged_41 : decode cX0_merged 41 = .ok (.iload_n 2, 1) := by decide +kernel
theorem dX0_merged_42 : decode cX0_merged 42 = .ok (.ishl, 1) := by decide +kernel
theorem dX0_merged_43 : decode cX0_merged 43 = .ok (.ior, 1) := by decide +kernel
theorem dX0_merged_44 : decode cX0_merged 44 = .ok (.iload 4, 2) := by decide +kernel
theorem dX0_merged_46 : decode cX0_merged 46 = .ok (.iload_n 2, 1) := by decide +kernel
theorem dX0_merged_47 : decode cX0_merged 47 = .ok (.iconst 5, 1) := by decide +kernel
theorem dX0_merged_48 : decode cX0_merged 48 = .ok (.iadd, 1) := by decide +kernel
theorem dX0_merged_49 : decode cX0_merged 49 = .ok (.ishl, 1) := by decide +kernel
theorem dX0_merged_50 : decode cX0_merged 50 = .ok (.ior, 1) := by decide +kernel
theorem dX0_merged_51 : decode cX0_merged 51 = .ok (.ireturn, 1) := by decide +kernel
theorem dX1_init_0 : decode cX1_init 0 = .ok (.aload_n 0, 1) := by decide +kernel
theorem dX1_init_1 : decode cX1_init 1 = .ok (.invokespecial 3, 3) := by decide +kernel
theorem dX1_init_4 : decode cX1_init 4 = .ok (.aload_n 0, 1) := by decide +kernel
theorem dX1_init_5 : decode cX1_init 5 = .ok (.iconst 0, 1) := by decide +kernel
theorem dX1_init_6 : decode cX1_init 6 = .ok (.putfield 9, 3) := by decide +kernel
theorem dX1_init_9 : decode cX1_init 9 = .ok (.aload_n 0, 1) := by decide +kernel
theorem dX1_init_10 : decode cX1_init 10 = .ok (.bipush 24, 2) := by decide +kernel
theorem dX1_init_12 : decode cX1_init 12 = .ok (.putfield 15, 3) := by decide +kernel
theorem dX1_init_15 : decode cX1_init 15 = .ok (.aload_n 0, 1) := by decide +kernel
theorem dX1_init_16 : decode cX1_init 16 = .ok (.iconst 0, 1) := by decide +kernel
theorem dX1_init_17 : decode cX1_init 17 = .ok (.putfield 18, 3) := by decide +kernel
theorem dX1_init_20 : decode cX1_init 20 = .ok (.aload_n 0, 1) := by decide +kernel
theorem dX1_init_21 : decode cX1_init 21 = .ok (.iload_n 1, 1) := by decide +kernel
theorem dX1_init_22 : decode cX1_init 22 = .ok (.iconst 0, 1) := by decide +kernel
theorem dX1_init_23 : decode cX1_init 23 = .ok (.invokestatic 21, 3) := by decide +kernel
theorem dX1_init_26 : decode cX1_init 26 = .ok (.anewarray 27, 3) := by decide +kernel
theorem dX1_init_29 : decode cX1_init 29 = .ok (.putfield 29, 3) := by decide +kernel
theorem dX1_init_32 : decode cX1_init 32 = .ok (.iconst 0, 1) := by decide +kernel
theorem dX1_init_33 : decode cX1_init 33 = .ok (.istore_n 2, 1) := by decide +kernel
theorem dX1_init_34 : decode cX1_init 34 = .ok (.iload_n 2, 1) := by decide +kernel
theorem dX1_init_35 : decode cX1_init 35 = .ok (.aload_n 0, 1) := by decide +kernel
theorem dX1_init_36 : decode cX1_init 36 = .ok (.getfield 29, 3) := by decide +kernel
theorem dX1_init_39 : decode cX1_init 39 = .ok (.arraylength, 1) := by decide +kernel
theorem dX1_init_40 : decode cX1_init 40 = .ok (.if_icmp .ge 22, 3) := by decide +kernel
theorem dX1_init_43 : decode cX1_init 43 = .ok (.aload_n 0, 1) := by decide +kernel
theorem dX1_init_44 : decode cX1_init 44 = .ok (.getfield 29, 3) := by decide +kernel
theorem dX1_init_47 : decode cX1_init 47 = .ok (.iload_n 2, 1) := by decide +kernel
theorem dX1_init_48 : decode cX1_init 48 = .ok (.new 27, 3) := by decide +kernel
theorem dX1_init_51 : decode cX1_init 51 = .ok (.dup, 1) := by decide +kernel
theorem dX1_init_52 : decode cX1_init 52 = .ok (.invokespecial 33, 3) := by decide +kernel
theorem dX1_init_55 : decode cX1_init 55 = .ok (.aastore, 1) := by decide +kernel
theorem dX1_init_56 : decode cX1_init 56 = .ok (.iinc 2 1, 3) := by decide +kernel
theorem dX1_init_59 : decode cX1_init 59 = .ok (.goto (-25), 3) := by decide +kernel
theorem dX1_init_62 : decode cX1_init 62 = .ok (.return_, 1) := by decide +kernel
theorem dX1_become_0 : decode cX1_become 0 = .ok (.aload_n 0, 1) := by decide +kernel
theorem dX1_become_1 : decode cX1_become 1 = .ok (.aload_n 1, 1) := by decide +kernel
theorem dX1_become_2 : decode cX1_become 2 = .ok (.getfield 9, 3) := by decide +kernel
theorem dX1_become_5 : decode cX1_become 5 = .ok (.putfield 9, 3) := by decide +kernel
theorem dX1_become_8 : decode cX1_become 8 = .ok (.aload_n 0, 1) := by decide +kernel
theorem dX1_become_9 : decode cX1_become 9 = .ok (.aload_n 1, 1) := by decide +kernel
theorem dX1_become_10 : decode cX1_become 10 = .ok (.getfield 15, 3) := by decide +kernel
theorem dX1_become_13 : decode cX1_become 13 = .ok (.putfield 15, 3) := by decide +kernel
theorem dX1_become_16 : decode cX1_become 16 = .ok (.aload_n 0, 1) := by decide +kernel
theorem dX1_become_17 : decode cX1_become 17 = .ok (.aload_n 1, 1) := by decide +kernel
theorem dX1_become_18 : decode cX1_become 18 = .ok (.getfield 18, 3) := by decide +kernel
theorem dX1_become_21 : decode cX1_become 21 = .ok (.putfield 18, 3) := by decide +kernel
theorem dX1_become_24 : decode cX1_become 24 = .ok (.iconst 0, 1) := by decide +kernel
theorem dX1_become_25 : decode cX1_become 25 = .ok (.istore_n 2, 1) := by decide +kernel
theorem dX1_become_26 : decode cX1_become 26 = .ok (.iload_n 2, 1) := by decide +kernel
theorem dX1_become_27 : decode cX1_become 27 = .ok (.aload_n 0, 1) := by decide +kernel
theorem dX1_become_28 : decode cX1_become 28 = .ok (.getfield 29, 3) := by decide +kernel
theorem dX1_become_31 : decode cX1_become 31 = .ok (.arraylength, 1) := by decide +kernel
theorem dX1_become_32 : decode cX1_become 32 = .ok (.if_icmp .ge 33, 3) := by decide +kernel
theorem dX1_become_35 : decode cX1_become 35 = .ok (.iload_n 2, 1) := by decide +kernel
theorem dX1_become_36 : decode cX1_become 36 = .ok (.aload_n 1, 1) := by decide +kernel
theorem dX1_become_37 : decode cX1_become 37 = .ok (.getfield 29, 3) := by decide +kernel
theorem dX1_become_40 : decode cX1_become 40 = .ok (.arraylength, 1) := by decide +kernel
theorem dX1_become_41 : decode cX1_become 41 = .ok (.if_icmp .ge 24, 3) := by decide +kernel
theorem dX1_become_44 : decode cX1_become 44 = .ok (.aload_n 0, 1) := by decide +kernel
theorem dX1_become_45 : decode cX1_become 45 = .ok (.getfield 29, 3) := by decide +kernel
theorem dX1_become_48 : decode cX1_become 48 = .ok (.iload_n 2, 1) := by decide +kernel
theorem dX1_become_49 : decode cX1_become 49 = .ok (.aaload, 1) := by decide +kernel
theorem dX1_become_50 : decode cX1_become 50 = .ok (.aload_n 1, 1) := by decide +kernel
theorem dX1_become_51 : decode cX1_become 51 = .ok (.getfield 29, 3) := by decide +kernel
theorem dX1_become_54 : decode cX1_become 54 = .ok (.iload_n 2, 1) := by decide +kernel
theorem dX1_become_55 : decode cX1_become 55 = .ok (.aaload, 1) := by decide +kernel
theorem dX1_become_56 : decode cX1_become 56 = .ok (.invokevirtual 34, 3) := by decide +kernel
theorem dX1_become_59 : decode cX1_become 59 = .ok (.iinc 2 1, 3) := by decide +kernel
theorem dX1_become_62 : decode cX1_become 62 = .ok (.goto (-36), 3) := by decide +kernel
theorem dX1_become_65 : decode cX1_become 65 = .ok (.return_, 1) := by decide +kernel
theorem dX1_find_0 : decode cX1_find 0 = .ok (.aload_n 0, 1) := by decide +kernel
theorem dX1_find_1 : decode cX1_find 1 = .ok (.getfield 29, 3) := by decide +kernel
theorem dX1_find_4 : decode cX1_find 4 = .ok (.astore 5, 2) := by decide +kernel
theorem dX1_find_6 : decode cX1_find 6 = .ok (.aload 5, 2) := by decide +kernel
theorem dX1_find_8 : decode cX1_find 8 = .ok (.arraylength, 1) := by decide +kernel
theorem dX1_find_9 : decode cX1_find 9 = .ok (.istore 6, 2) := by decide +kernel
theorem dX1_find_11 : decode cX1_find 11 = .ok (.iconst 0, 1) := by decide +kernel
theorem dX1_find_12 : decode cX1_find 12 = .ok (.istore 7, 2) := by decide +kernel
theorem dX1_find_14 : decode cX1_find 14 = .ok (.iload 7, 2) := by decide +kernel
theorem dX1_find_16 : decode cX1_find 16 = .ok (.iload 6, 2) := by decide +kernel
theorem dX1_find_18 : decode cX1_find 18 = .ok (.if_icmp .ge 31, 3) := by decide +kernel
theorem dX1_find_21 : decode cX1_find 21 = .ok (.aload 5, 2) := by decide +kernel
theorem dX1_find_23 : decode cX1_find 23 = .ok (.iload 7, 2) := by decide +kernel
theorem dX1_find_25 : decode cX1_find 25 = .ok (.aaload, 1) := by decide +kernel
theorem dX1_find_26 : decode cX1_find 26 = .ok (.astore 8, 2) := by decide +kernel
theorem dX1_find_28 : decode cX1_find 28 = .ok (.aload 8, 2) := by decide +kernel
theorem dX1_find_30 : decode cX1_find 30 = .ok (.lload_n 1, 1) := by decide +kernel
theorem dX1_find_31 : decode cX1_find 31 = .ok (.iload_n 3, 1) := by decide +kernel
theorem dX1_find_32 : decode cX1_find 32 = .ok (.iload 4, 2) := by decide +kernel
theorem dX1_find_34 : decode cX1_find 34 = .ok (.invokevirtual 38, 3) := by decide +kernel
theorem dX1_find_37 : decode cX1_find 37 = .ok (.ifCond .eq 6, 3) := by decide +kernel
theorem dX1_find_40 : decode cX1_find 40 = .ok (.aload 8, 2) := by decide +kernel
theorem dX1_find_42 : decode cX1_find 42 = .ok (.areturn, 1) := by decide +kernel
theorem dX1_find_43 : decode cX1_find 43 = .ok (.iinc 7 1, 3) := by decide +kernel
theorem dX1_find_46 : decode cX1_find 46 = .ok (.goto (-32), 3) := by decide +kernel
theorem dX1_find_49 : decode cX1_find 49 = .ok (.aconst_null, 1) := by decide +kernel
theorem dX1_find_50 : decode cX1_find 50 = .ok (.areturn, 1) := by decide +kernel
theorem dX1_use_0 : decode cX1_use 0 = .ok (.aload_n 0, 1) := by decide +kernel
theorem dX1_use_1 : decode cX1_use 1 = .ok (.dup, 1) := by decide +kernel
theorem dX1_use_2 : decode cX1_use 2 = .ok (.getfield 18, 3) := by decide +kernel
theorem dX1_use_5 : decode cX1_use 5 = .ok (.iconst 1, 1) := by decide +kernel
theorem dX1_use_6 : decode cX1_use 6 = .ok (.iadd, 1) := by decide +kernel
theorem dX1_use_7 : decode cX1_use 7 = .ok (.putfield 18, 3) := by decide +kernel
theorem dX1_use_10 : decode cX1_use 10 = .ok (.aload_n 1, 1) := by decide +kernel
theorem dX1_use_11 : decode cX1_use 11 = .ok (.aload_n 0, 1) := by decide +kernel
theorem dX1_use_12 : decode cX1_use 12 = .ok (.getfield 18, 3) := by decide +kernel
theorem dX1_use_15 : decode cX1_use 15 = .ok (.putfield 42, 3) := by decide +kernel
theorem dX1_use_18 : decode cX1_use 18 = .ok (.return_, 1) := by decide +kernel
theorem dX1_put_0 : decode cX1_put 0 = .ok (.aload_n 0, 1) := by decide +kernel
theorem dX1_put_1 : decode cX1_put 1 = .ok (.getfield 9, 3) := by decide +kernel
theorem dX1_put_4 : decode cX1_put 4 = .ok (.aload_n 0, 1) := by decide +kernel
theorem dX1_put_5 : decode cX1_put 5 = .ok (.getfield 15, 3) := by decide +kernel
theorem dX1_put_8 : decode cX1_put 8 = .ok (.if_icmp .lt 7, 3) := by decide +kernel
theorem dX1_put_11 : decode cX1_put 11 = .ok (.aload_n 0, 1) := by decide +kernel
theorem dX1_put_12 : decode cX1_put 12 = .ok (.invokevirtual 45, 3) := by decide +kernel
theorem dX1_put_15 : decode cX1_put 15 = .ok (.aload_n 0, 1) := by decide +kernel
theorem dX1_put_16 : decode cX1_put 16 = .ok (.invokevirtual 48, 3) := by decide +kernel
theorem dX1_put_19 : decode cX1_put 19 = .ok (.astore 7, 2) := by decide +kernel
theorem dX1_put_21 : decode cX1_put 21 = .ok (.aload_n 0, 1) := by decide +kernel
theorem dX1_put_22 : decode cX1_put 22 = .ok (.getfield 9, 3) := by decide +kernel
theorem dX1_put_25 : decode cX1_put 25 = .ok (.aload_n 0, 1) := by decide +kernel
theorem dX1_put_26 : decode cX1_put 26 = .ok (.getfield 15, 3) := by decide +kernel
theorem dX1_put_29 : decode cX1_put 29 = .ok (.if_icmp .ge 8, 3) := by decide +kernel
theorem dX1_put_32 : decode cX1_put 32 = .ok (.aload 7, 2) := by decide +kernel
theorem dX1_put_34 : decode cX1_put 34 = .ok (.ifnonnull 4, 3) := by decide +kernel
theorem dX1_put_37 : decode cX1_put 37 = .ok (.return_, 1) := by decide +kernel
theorem dX1_put_38 : decode cX1_put 38 = .ok (.aload 7, 2) := by decide +kernel
theorem dX1_put_40 : decode cX1_put 40 = .ok (.lload_n 1, 1) := by decide +kernel
theorem dX1_put_41 : decode cX1_put 41 = .ok (.putfield 52, 3) := by decide +kernel
theorem dX1_put_44 : decode cX1_put 44 = .ok (.aload 7, 2) := by decide +kernel
theorem dX1_put_46 : decode cX1_put 46 = .ok (.iload_n 3, 1) := by decide +kernel
theorem dX1_put_47 : decode cX1_put 47 = .ok (.putfield 56, 3) := by decide +kernel
theorem dX1_put_50 : decode cX1_put 50 = .ok (.aload 7, 2) := by decide +kernel
theorem dX1_put_52 : decode cX1_put 52 = .ok (.iload 4, 2) := by decide +kernel
theorem dX1_put_54 : decode cX1_put 54 = .ok (.putfield 59, 3) := by decide +kernel
theorem dX1_put_57 : decode cX1_put 57 = .ok (.aload 7, 2) := by decide +kernel
theorem dX1_put_59 : decode cX1_put 59 = .ok (.iload 5, 2) := by decide +kernel
theorem dX1_put_61 : decode cX1_put 61 = .ok (.putfield 62, 3) := by decide +kernel
theorem dX1_put_64 : decode cX1_put 64 = .ok (.aload 7, 2) := by decide +kernel
theorem dX1_put_66 : decode cX1_put 66 = .ok (.iload 6, 2) := by decide +kernel
theorem dX1_put_68 : decode cX1_put 68 = .ok (.putfield 65, 3) := by decide +kernel
theorem dX1_put_71 : decode cX1_put 71 = .ok (.aload_n 0, 1) := by decide +kernel
theorem dX1_put_72 : decode cX1_put 72 = .ok (.aload 7, 2) := by decide +kernel
theorem dX1_put_74 : decode cX1_put 74 = .ok (.invokevirtual 68, 3) := by decide +kernel
theorem dX1_put_77 : decode cX1_put 77 = .ok (.aload_n 0, 1) := by decide +kernel
theorem dX1_put_78 : decode cX1_put 78 = .ok (.dup, 1) := by decide +kernel
theorem dX1_put_79 : decode cX1_put 79 = .ok (.getfield 9, 3) := by decide +kernel
theorem dX1_put_82 : decode cX1_put 82 = .ok (.iconst 1, 1) := by decide +kernel
theorem dX1_put_83 : decode cX1_put 83 = .ok (.iadd, 1) := by decide +kernel
theorem dX1_put_84 : decode cX1_put 84 = .ok (.putfield 9, 3) := by decide +kernel
theorem dX1_put_87 : decode cX1_put 87 = .ok (.return_, 1) := by decide +kernel
theorem dX1_fitInto_0 : decode cX1_fitInto 0 = .ok (.aload_n 0, 1) := by decide +kernel
theorem dX1_fitInto_1 : decode cX1_fitInto 1 = .ok (.iload_n 1, 1) := by decide +kernel
theorem dX1_fitInto_2 : decode cX1_fitInto 2 = .ok (.putfield 15, 3) := by decide +kernel
theorem dX1_fitInto_5 : decode cX1_fitInto 5 = .ok (.aload_n 0, 1) := by decide +kernel
theorem dX1_fitInto_6 : decode cX1_fitInto 6 = .ok (.getfield 9, 3) := by decide +kernel
theorem dX1_fitInto_9 : decode cX1_fitInto 9 = .ok (.aload_n 0, 1) := by decide +kernel
theorem dX1_fitInto_10 : decode cX1_fitInto 10 = .ok (.getfield 15, 3) := by decide +kernel
theorem dX1_fitInto_13 : decode cX1_fitInto 13 = .ok (.isub, 1) := by decide +kernel
theorem dX1_fitInto_14 : decode cX1_fitInto 14 = .ok (.istore_n 2, 1) := by decide +kernel
theorem dX1_fitInto_15 : decode cX1_fitInto 15 = .ok (.iload_n 2, 1) := by decide +kernel
theorem dX1_fitInto_16 : decode cX1_fitInto 16 = .ok (.ifCond .le 13, 3) := by decide +kernel
theorem dX1_fitInto_19 : decode cX1_fitInto 19 = .ok (.aload_n 0, 1) := by decide +kernel
theorem dX1_fitInto_20 : decode cX1_fitInto 20 = .ok (.invokevirtual 45, 3) := by decide +kernel
theorem dX1_fitInto_23 : decode cX1_fitInto 23 = .ok (.iinc 2 (-1), 3) := by decide +kernel
theorem dX1_fitInto_26 : decode cX1_fitInto 26 = .ok (.goto (-11), 3) := by decide +kernel
theorem dX1_fitInto_29 : decode cX1_fitInto 29 = .ok (.return_, 1) := by decide +kernel
theorem dX1_countPinned_0 : decode cX1_countPinned 0 = .ok (.iconst 0, 1) := by decide +kernel
theorem dX1_countPinned_1 : decode cX1_countPinned 1 = .ok (.istore_n 1, 1) := by decide +kernel
theorem dX1_countPinned_2 : decode cX1_countPinned 2 = .ok (.aload_n 0, 1) := by decide +kernel
theorem dX1_countPinned_3 : decode cX1_countPinned 3 = .ok (.getfield 29, 3) := by decide +kernel
theorem dX1_countPinned_6 : decode cX1_countPinned 6 = .ok (.astore_n 2, 1) := by decide +kernel
theorem dX1_countPinned_7 : decode cX1_countPinned 7 = .ok (.aload_n 2, 1) := by decide +kernel
theorem dX1_countPinned_8 : decode cX1_countPinned 8 = .ok (.arraylength, 1) := by decide +kernel
theorem dX1_countPinned_9 : decode cX1_countPinned 9 = .ok (.istore_n 3, 1) := by decide +kernel
theorem dX1_countPinned_10 : decode cX1_countPinned 10 = .ok (.iconst 0, 1) := by decide +kernel
theorem dX1_countPinned_11 : decode cX1_countPinned 11 = .ok (.istore 4, 2) := by decide +kernel
theorem dX1_countPinned_13 : decode cX1_countPinned 13 = .ok (.iload 4, 2) := by decide +kernel
theorem dX1_countPinned_15 : decode cX1_countPinned 15 = .ok (.iload_n 3, 1) := by decide +kernel
theorem dX1_countPinned_16 : decode cX1_countPinned 16 = .ok (.if_icmp .ge 31, 3) := by decide +kernel
theorem dX1_countPinned_19 : decode cX1_countPinned 19 = .ok (.aload_n 2, 1) := by decide +kernel
theorem dX1_countPinned_20 : decode cX1_countPinned 20 = .ok (.iload 4, 2) := by decide +kernel
theorem dX1_countPinned_22 : decode cX1_countPinned 22 = .ok (.aaload, 1) := by decide +kernel
theorem dX1_countPinned_23 : decode cX1_countPinned 23 = .ok (.astore 5, 2) := by decide +kernel
theorem dX1_countPinned_25 : decode cX1_countPinned 25 = .ok (.iload_n 1, 1) := by decide +kernel
theorem dX1_countPinned_26 : decode cX1_countPinned 26 = .ok (.aload 5, 2) := by decide +kernel
theorem dX1_countPinned_28 : decode cX1_countPinned 28 = .ok (.getfield 71, 3) := by decide +kernel
theorem dX1_countPinned_31 : decode cX1_countPinned 31 = .ok (.ifCond .eq 7, 3) := by decide +kernel
theorem dX1_countPinned_34 : decode cX1_countPinned 34 = .ok (.iconst 1, 1) := by decide +kernel
theorem dX1_countPinned_35 : decode cX1_countPinned 35 = .ok (.goto 4, 3) := by decide +kernel
theorem dX1_countPinned_38 : decode cX1_countPinned 38 = .ok (.iconst 0, 1) := by decide +kernel
theorem dX1_countPinned_39 : decode cX1_countPinned 39 = .ok (.iadd, 1) := by decide +kernel
theorem dX1_countPinned_40 : decode cX1_countPinned 40 = .ok (.istore_n 1, 1) := by decide +kernel
theorem dX1_countPinned_41 : decode cX1_countPinned 41 = .ok (.iinc 4 1, 3) := by decide +kernel
theorem dX1_countPinned_44 : decode cX1_countPinned 44 = .ok (.goto (-31), 3) := by decide +kernel
theorem dX1_countPinned_47 : decode cX1_countPinned 47 = .ok (.iload_n 1, 1) := by decide +kernel
theorem dX1_countPinned_48 : decode cX1_countPinned 48 = .ok (.ireturn, 1) := by decide +kernel
theorem dX1_countPins_0 : decode cX1_countPins 0 = .ok (.iconst 0, 1) := by decide +kernel
theorem dX1_countPins_1 : decode cX1_countPins 1 = .ok (.istore_n 2, 1) := by decide +kernel
theorem dX1_countPins_2 : decode cX1_countPins 2 = .ok (.aload_n 0, 1) := by decide +kernel
theorem dX1_countPins_3 : decode cX1_countPins 3 = .ok (.getfield 29, 3) := by decide +kernel
theorem dX1_countPins_6 : decode cX1_countPins 6 = .ok (.astore_n 3, 1) := by decide +kernel
theorem dX1_countPins_7 : decode cX1_countPins 7 = .ok (.aload_n 3, 1) := by decide +kernel
theorem dX1_countPins_8 : decode cX1_countPins 8 = .ok (.arraylength, 1) := by decide +kernel
theorem dX1_countPins_9 : decode cX1_countPins 9 = .ok (.istore 4, 2) := by decide +kernel
theorem dX1_countPins_11 : decode cX1_countPins 11 = .ok (.iconst 0, 1) := by decide +kernel
theorem dX1_countPins_12 : decode cX1_countPins 12 = .ok (.istore 5, 2) := by decide +kernel
theorem dX1_countPins_14 : decode cX1_countPins 14 = .ok (.iload 5, 2) := by decide +kernel
theorem dX1_countPins_16 : decode cX1_countPins 16 = .ok (.iload 4, 2) := by decide +kernel
theorem dX1_countPins_18 : decode cX1_countPins 18 = .ok (.if_icmp .ge 33, 3) := by decide +kernel
theorem dX1_countPins_21 : decode cX1_countPins 21 = .ok (.aload_n 3, 1) := by decide +kernel
theorem dX1_countPins_22 : decode cX1_countPins 22 = .ok (.iload 5, 2) := by decide +kernel
theorem dX1_countPins_24 : decode cX1_countPins 24 = .ok (.aaload, 1) := by decide +kernel
theorem dX1_countPins_25 : decode cX1_countPins 25 = .ok (.astore 6, 2) := by decide +kernel
theorem dX1_countPins_27 : decode cX1_countPins 27 = .ok (.iload_n 2, 1) := by decide +kernel
theorem dX1_countPins_28 : decode cX1_countPins 28 = .ok (.aload 6, 2) := by decide +kernel
theorem dX1_countPins_30 : decode cX1_countPins 30 = .ok (.getfield 71, 3) := by decide +kernel
theorem dX1_countPins_33 : decode cX1_countPins 33 = .ok (.iload_n 1, 1) := by decide +kernel
theorem dX1_countPins_34 : decode cX1_countPins 34 = .ok (.iand, 1) := by decide +kernel
theorem dX1_countPins_35 : decode cX1_countPins 35 = .ok (.ifCond .eq 7, 3) := by decide +kernel
theorem dX1_countPins_38 : decode cX1_countPins 38 = .ok (.iconst 1, 1) := by decide +kernel
theorem dX1_countPins_39 : decode cX1_countPins 39 = .ok (.goto 4, 3) := by decide +kernel
theorem dX1_countPins_42 : decode cX1_countPins 42 = .ok (.iconst 0, 1) := by decide +kernel
theorem dX1_countPins_43 : decode cX1_countPins 43 = .ok (.iadd, 1) := by decide +kernel
theorem dX1_countPins_44 : decode cX1_countPins 44 = .ok (.istore_n 2, 1) := by decide +kernel
theorem dX1_countPins_45 : decode cX1_countPins 45 = .ok (.iinc 5 1, 3) := by decide +kernel
theorem dX1_countPins_48 : decode cX1_countPins 48 = .ok (.goto (-34), 3) := by decide +kernel
theorem dX1_countPins_51 : decode cX1_countPins 51 = .ok (.iload_n 2, 1) := by decide +kernel
theorem dX1_countPins_52 : decode cX1_countPins 52 = .ok (.ireturn, 1) := by decide +kernel
theorem dX1_takePins_0 : decode cX1_takePins 0 = .ok (.aload_n 0, 1) := by decide +kernel
theorem dX1_takePins_1 : decode cX1_takePins 1 = .ok (.getfield 29, 3) := by decide +kernel
theorem dX1_takePins_4 : decode cX1_takePins 4 = .ok (.astore_n 2, 1) := by decide +kernel
theorem dX1_takePins_5 : decode cX1_takePins 5 = .ok (.aload_n 2, 1) := by decide +kernel
theorem dX1_takePins_6 : decode cX1_takePins 6 = .ok (.arraylength, 1) := by decide +kernel
theorem dX1_takePins_7 : decode cX1_takePins 7 = .ok (.istore_n 3, 1) := by decide +kernel
theorem dX1_takePins_8 : decode cX1_takePins 8 = .ok (.iconst 0, 1) := by decide +kernel
theorem dX1_takePins_9 : decode cX1_takePins 9 = .ok (.istore 4, 2) := by decide +kernel
theorem dX1_takePins_11 : decode cX1_takePins 11 = .ok (.iload 4, 2) := by decide +kernel
theorem dX1_takePins_13 : decode cX1_takePins 13 = .ok (.iload_n 3, 1) := by decide +kernel
theorem dX1_takePins_14 : decode cX1_takePins 14 = .ok (.if_icmp .ge 28, 3) := by decide +kernel
theorem dX1_takePins_17 : decode cX1_takePins 17 = .ok (.aload_n 2, 1) := by decide +kernel
theorem dX1_takePins_18 : decode cX1_takePins 18 = .ok (.iload 4, 2) := by decide +kernel
theorem dX1_takePins_20 : decode cX1_takePins 20 = .ok (.aaload, 1) := by decide +kernel
theorem dX1_takePins_21 : decode cX1_takePins 21 = .ok (.astore 5, 2) := by decide +kernel
theorem dX1_takePins_23 : decode cX1_takePins 23 = .ok (.aload 5, 2) := by decide +kernel
theorem dX1_takePins_25 : decode cX1_takePins 25 = .ok (.dup, 1) := by decide +kernel
theorem dX1_takePins_26 : decode cX1_takePins 26 = .ok (.getfield 71, 3) := by decide +kernel
theorem dX1_takePins_29 : decode cX1_takePins 29 = .ok (.iload_n 1, 1) := by decide +kernel
theorem dX1_takePins_30 : decode cX1_takePins 30 = .ok (.iconst (-1), 1) := by decide +kernel
theorem dX1_takePins_31 : decode cX1_takePins 31 = .ok (.ixor, 1) := by decide +kernel
theorem dX1_takePins_32 : decode cX1_takePins 32 = .ok (.iand, 1) := by decide +kernel
theorem dX1_takePins_33 : decode cX1_takePins 33 = .ok (.putfield 71, 3) := by decide +kernel
theorem dX1_takePins_36 : decode cX1_takePins 36 = .ok (.iinc 4 1, 3) := by decide +kernel
theorem dX1_takePins_39 : decode cX1_takePins 39 = .ok (.goto (-28), 3) := by decide +kernel
theorem dX1_takePins_42 : decode cX1_takePins 42 = .ok (.return_, 1) := by decide +kernel
theorem dX1_findFree_0 : decode cX1_findFree 0 = .ok (.aload_n 0, 1) := by decide +kernel
theorem dX1_findFree_1 : decode cX1_findFree 1 = .ok (.getfield 29, 3) := by decide +kernel
theorem dX1_findFree_4 : decode cX1_findFree 4 = .ok (.astore_n 1, 1) := by decide +kernel
theorem dX1_findFree_5 : decode cX1_findFree 5 = .ok (.aload_n 1, 1) := by decide +kernel
theorem dX1_findFree_6 : decode cX1_findFree 6 = .ok (.arraylength, 1) := by decide +kernel
theorem dX1_findFree_7 : decode cX1_findFree 7 = .ok (.istore_n 2, 1) := by decide +kernel
theorem dX1_findFree_8 : decode cX1_findFree 8 = .ok (.iconst 0, 1) := by decide +kernel
theorem dX1_findFree_9 : decode cX1_findFree 9 = .ok (.istore_n 3, 1) := by decide +kernel
theorem dX1_findFree_10 : decode cX1_findFree 10 = .ok (.iload_n 3, 1) := by decide +kernel
theorem dX1_findFree_11 : decode cX1_findFree 11 = .ok (.iload_n 2, 1) := by decide +kernel
theorem dX1_findFree_12 : decode cX1_findFree 12 = .ok (.if_icmp .ge 25, 3) := by decide +kernel
theorem dX1_findFree_15 : decode cX1_findFree 15 = .ok (.aload_n 1, 1) := by decide +kernel
theorem dX1_findFree_16 : decode cX1_findFree 16 = .ok (.iload_n 3, 1) := by decide +kernel
theorem dX1_findFree_17 : decode cX1_findFree 17 = .ok (.aaload, 1) := by decide +kernel
theorem dX1_findFree_18 : decode cX1_findFree 18 = .ok (.astore 4, 2) := by decide +kernel
theorem dX1_findFree_20 : decode cX1_findFree 20 = .ok (.aload 4, 2) := by decide +kernel
theorem dX1_findFree_22 : decode cX1_findFree 22 = .ok (.invokevirtual 74, 3) := by decide +kernel
theorem dX1_findFree_25 : decode cX1_findFree 25 = .ok (.ifCond .eq 6, 3) := by decide +kernel
theorem dX1_findFree_28 : decode cX1_findFree 28 = .ok (.aload 4, 2) := by decide +kernel
theorem dX1_findFree_30 : decode cX1_findFree 30 = .ok (.areturn, 1) := by decide +kernel
theorem dX1_findFree_31 : decode cX1_findFree 31 = .ok (.iinc 3 1, 3) := by decide +kernel
theorem dX1_findFree_34 : decode cX1_findFree 34 = .ok (.goto (-24), 3) := by decide +kernel
theorem dX1_findFree_37 : decode cX1_findFree 37 = .ok (.aconst_null, 1) := by decide +kernel
theorem dX1_findFree_38 : decode cX1_findFree 38 = .ok (.areturn, 1) := by decide +kernel
theorem dX1_dropOldest_0 : decode cX1_dropOldest 0 = .ok (.aconst_null, 1) := by decide +kernel
theorem dX1_dropOldest_1 : decode cX1_dropOldest 1 = .ok (.astore_n 1, 1) := by decide +kernel
theorem dX1_dropOldest_2 : decode cX1_dropOldest 2 = .ok (.aload_n 0, 1) := by decide +kernel
theorem dX1_dropOldest_3 : decode cX1_dropOldest 3 = .ok (.getfield 29, 3) := by decide +kernel
theorem dX1_dropOldest_6 : decode cX1_dropOldest 6 = .ok (.astore_n 2, 1) := by decide +kernel
theorem dX1_dropOldest_7 : decode cX1_dropOldest 7 = .ok (.aload_n 2, 1) := by decide +kernel
theorem dX1_dropOldest_8 : decode cX1_dropOldest 8 = .ok (.arraylength, 1) := by decide +kernel
theorem dX1_dropOldest_9 : decode cX1_dropOldest 9 = .ok (.istore_n 3, 1) := by decide +kernel
theorem dX1_dropOldest_10 : decode cX1_dropOldest 10 = .ok (.iconst 0, 1) := by decide +kernel
theorem dX1_dropOldest_11 : decode cX1_dropOldest 11 = .ok (.istore 4, 2) := by decide +kernel
theorem dX1_dropOldest_13 : decode cX1_dropOldest 13 = .ok (.iload 4, 2) := by decide +kernel
theorem dX1_dropOldest_15 : decode cX1_dropOldest 15 = .ok (.iload_n 3, 1) := by decide +kernel
theorem dX1_dropOldest_16 : decode cX1_dropOldest 16 = .ok (.if_icmp .ge 50, 3) := by decide +kernel
theorem dX1_dropOldest_19 : decode cX1_dropOldest 19 = .ok (.aload_n 2, 1) := by decide +kernel
theorem dX1_dropOldest_20 : decode cX1_dropOldest 20 = .ok (.iload 4, 2) := by decide +kernel
theorem dX1_dropOldest_22 : decode cX1_dropOldest 22 = .ok (.aaload, 1) := by decide +kernel
theorem dX1_dropOldest_23 : decode cX1_dropOldest 23 = .ok (.astore 5, 2) := by decide +kernel
theorem dX1_dropOldest_25 : decode cX1_dropOldest 25 = .ok (.aload 5, 2) := by decide +kernel
theorem dX1_dropOldest_27 : decode cX1_dropOldest 27 = .ok (.invokevirtual 74, 3) := by decide +kernel
theorem dX1_dropOldest_30 : decode cX1_dropOldest 30 = .ok (.ifCond .ne 30, 3) := by decide +kernel
theorem dX1_dropOldest_33 : decode cX1_dropOldest 33 = .ok (.aload 5, 2) := by decide +kernel
theorem dX1_dropOldest_35 : decode cX1_dropOldest 35 = .ok (.getfield 71, 3) := by decide +kernel
theorem dX1_dropOldest_38 : decode cX1_dropOldest 38 = .ok (.ifCond .ne 22, 3) := by decide +kernel
theorem dX1_dropOldest_41 : decode cX1_dropOldest 41 = .ok (.aload_n 1, 1) := by decide +kernel
theorem dX1_dropOldest_42 : decode cX1_dropOldest 42 = .ok (.ifnull 15, 3) := by decide +kernel
theorem dX1_dropOldest_45 : decode cX1_dropOldest 45 = .ok (.aload 5, 2) := by decide +kernel
theorem dX1_dropOldest_47 : decode cX1_dropOldest 47 = .ok (.getfield 42, 3) := by decide +kernel
theorem dX1_dropOldest_50 : decode cX1_dropOldest 50 = .ok (.aload_n 1, 1) := by decide +kernel
theorem dX1_dropOldest_51 : decode cX1_dropOldest 51 = .ok (.getfield 42, 3) := by decide +kernel
theorem dX1_dropOldest_54 : decode cX1_dropOldest 54 = .ok (.if_icmp .ge 6, 3) := by decide +kernel
theorem dX1_dropOldest_57 : decode cX1_dropOldest 57 = .ok (.aload 5, 2) := by decide +kernel
theorem dX1_dropOldest_59 : decode cX1_dropOldest 59 = .ok (.astore_n 1, 1) := by decide +kernel
theorem dX1_dropOldest_60 : decode cX1_dropOldest 60 = .ok (.iinc 4 1, 3) := by decide +kernel
theorem dX1_dropOldest_63 : decode cX1_dropOldest 63 = .ok (.goto (-50), 3) := by decide +kernel
theorem dX1_dropOldest_66 : decode cX1_dropOldest 66 = .ok (.aload_n 1, 1) := by decide +kernel
theorem dX1_dropOldest_67 : decode cX1_dropOldest 67 = .ok (.ifnull 18, 3) := by decide +kernel
theorem dX1_dropOldest_70 : decode cX1_dropOldest 70 = .ok (.aload_n 1, 1) := by decide +kernel
theorem dX1_dropOldest_71 : decode cX1_dropOldest 71 = .ok (.iconst 0, 1) := by decide +kernel
theorem dX1_dropOldest_72 : decode cX1_dropOldest 72 = .ok (.putfield 59, 3) := by decide +kernel
theorem dX1_dropOldest_75 : decode cX1_dropOldest 75 = .ok (.aload_n 0, 1) := by decide +kernel
theorem dX1_dropOldest_76 : decode cX1_dropOldest 76 = .ok (.dup, 1) := by decide +kernel
theorem dX1_dropOldest_77 : decode cX1_dropOldest 77 = .ok (.getfield 9, 3) := by decide +kernel
theorem dX1_dropOldest_80 : decode cX1_dropOldest 80 = .ok (.iconst 1, 1) := by decide +kernel
theorem dX1_dropOldest_81 : decode cX1_dropOldest 81 = .ok (.isub, 1) := by decide +kernel
theorem dX1_dropOldest_82 : decode cX1_dropOldest 82 = .ok (.putfield 9, 3) := by decide +kernel
theorem dX1_dropOldest_85 : decode cX1_dropOldest 85 = .ok (.return_, 1) := by decide +kernel
theorem dX2_init_0 : decode cX2_init 0 = .ok (.aload_n 0, 1) := by decide +kernel
theorem dX2_init_1 : decode cX2_init 1 = .ok (.invokespecial 3, 3) := by decide +kernel
theorem dX2_init_4 : decode cX2_init 4 = .ok (.aload_n 0, 1) := by decide +kernel
theorem dX2_init_5 : decode cX2_init 5 = .ok (.lconst 0, 1) := by decide +kernel
theorem dX2_init_6 : decode cX2_init 6 = .ok (.putfield 11, 3) := by decide +kernel
theorem dX2_init_9 : decode cX2_init 9 = .ok (.aload_n 0, 1) := by decide +kernel
theorem dX2_init_10 : decode cX2_init 10 = .ok (.iconst 0, 1) := by decide +kernel
theorem dX2_init_11 : decode cX2_init 11 = .ok (.putfield 17, 3) := by decide +kernel
theorem dX2_init_14 : decode cX2_init 14 = .ok (.aload_n 0, 1) := by decide +kernel
theorem dX2_init_15 : decode cX2_init 15 = .ok (.iconst 0, 1) := by decide +kernel
theorem dX2_init_16 : decode cX2_init 16 = .ok (.putfield 21, 3) := by decide +kernel
theorem dX2_init_19 : decode cX2_init 19 = .ok (.aload_n 0, 1) := by decide +kernel
theorem dX2_init_20 : decode cX2_init 20 = .ok (.iconst 0, 1) := by decide +kernel
theorem dX2_init_21 : decode cX2_init 21 = .ok (.putfield 24, 3) := by decide +kernel
theorem dX2_init_24 : decode cX2_init 24 = .ok (.aload_n 0, 1) := by decide +kernel
theorem dX2_init_25 : decode cX2_init 25 = .ok (.iconst (-1), 1) := by decide +kernel
theorem dX2_init_26 : decode cX2_init 26 = .ok (.putfield 27, 3) := by decide +kernel
theorem dX2_init_29 : decode cX2_init 29 = .ok (.aload_n 0, 1) := by decide +kernel
theorem dX2_init_30 : decode cX2_init 30 = .ok (.iconst 0, 1) := by decide +kernel
theorem dX2_init_31 : decode cX2_init 31 = .ok (.putfield 30, 3) := by decide +kernel
theorem dX2_init_34 : decode cX2_init 34 = .ok (.aload_n 0, 1) := by decide +kernel
theorem dX2_init_35 : decode cX2_init 35 = .ok (.iconst 0, 1) := by decide +kernel
theorem dX2_init_36 : decode cX2_init 36 = .ok (.putfield 33, 3) := by decide +kernel
theorem dX2_init_39 : decode cX2_init 39 = .ok (.return_, 1) := by decide +kernel
theorem dX2_isFree_0 : decode cX2_isFree 0 = .ok (.aload_n 0, 1) := by decide +kernel
theorem dX2_isFree_1 : decode cX2_isFree 1 = .ok (.getfield 21, 3) := by decide +kernel
theorem dX2_isFree_4 : decode cX2_isFree 4 = .ok (.ifCond .ne 7, 3) := by decide +kernel
theorem dX2_isFree_7 : decode cX2_isFree 7 = .ok (.iconst 1, 1) := by decide +kernel
theorem dX2_isFree_8 : decode cX2_isFree 8 = .ok (.goto 4, 3) := by decide +kernel
theorem dX2_isFree_11 : decode cX2_isFree 11 = .ok (.iconst 0, 1) := by decide +kernel
theorem dX2_isFree_12 : decode cX2_isFree 12 = .ok (.ireturn, 1) := by decide +kernel
theorem dX2_isFor_0 : decode cX2_isFor 0 = .ok (.aload_n 0, 1) := by decide +kernel
theorem dX2_isFor_1 : decode cX2_isFor 1 = .ok (.getfield 11, 3) := by decide +kernel
theorem dX2_isFor_4 : decode cX2_isFor 4 = .ok (.lload_n 1, 1) := by decide +kernel
theorem dX2_isFor_5 : decode cX2_isFor 5 = .ok (.lcmp, 1) := by decide +kernel
theorem dX2_isFor_6 : decode cX2_isFor 6 = .ok (.ifCond .ne 24, 3) := by decide +kernel
theorem dX2_isFor_9 : decode cX2_isFor 9 = .ok (.aload_n 0, 1) := by decide +kernel
theorem dX2_isFor_10 : decode cX2_isFor 10 = .ok (.getfield 17, 3) := by decide +kernel
theorem dX2_isFor_13 : decode cX2_isFor 13 = .ok (.iload_n 3, 1) := by decide +kernel
theorem dX2_isFor_14 : decode cX2_isFor 14 = .ok (.if_icmp .ne 16, 3) := by decide +kernel
theorem dX2_isFor_17 : decode cX2_isFor 17 = .ok (.aload_n 0, 1) := by decide +kernel
theorem dX2_isFor_18 : decode cX2_isFor 18 = .ok (.getfield 21, 3) := by decide +kernel
theorem dX2_isFor_21 : decode cX2_isFor 21 = .ok (.iload 4, 2) := by decide +kernel
theorem dX2_isFor_23 : decode cX2_isFor 23 = .ok (.if_icmp .ne 7, 3) := by decide +kernel
theorem dX2_isFor_26 : decode cX2_isFor 26 = .ok (.iconst 1, 1) := by decide +kernel
theorem dX2_isFor_27 : decode cX2_isFor 27 = .ok (.goto 4, 3) := by decide +kernel
theorem dX2_isFor_30 : decode cX2_isFor 30 = .ok (.iconst 0, 1) := by decide +kernel
theorem dX2_isFor_31 : decode cX2_isFor 31 = .ok (.ireturn, 1) := by decide +kernel
theorem dX2_become_0 : decode cX2_become 0 = .ok (.aload_n 0, 1) := by decide +kernel
theorem dX2_become_1 : decode cX2_become 1 = .ok (.aload_n 1, 1) := by decide +kernel
theorem dX2_become_2 : decode cX2_become 2 = .ok (.getfield 11, 3) := by decide +kernel
theorem dX2_become_5 : decode cX2_become 5 = .ok (.putfield 11, 3) := by decide +kernel
theorem dX2_become_8 : decode cX2_become 8 = .ok (.aload_n 0, 1) := by decide +kernel
theorem dX2_become_9 : decode cX2_become 9 = .ok (.aload_n 1, 1) := by decide +kernel
theorem dX2_become_10 : decode cX2_become 10 = .ok (.getfield 17, 3) := by decide +kernel
theorem dX2_become_13 : decode cX2_become 13 = .ok (.putfield 17, 3) := by decide +kernel
theorem dX2_become_16 : decode cX2_become 16 = .ok (.aload_n 0, 1) := by decide +kernel
theorem dX2_become_17 : decode cX2_become 17 = .ok (.aload_n 1, 1) := by decide +kernel
theorem dX2_become_18 : decode cX2_become 18 = .ok (.getfield 21, 3) := by decide +kernel
theorem dX2_become_21 : decode cX2_become 21 = .ok (.putfield 21, 3) := by decide +kernel
theorem dX2_become_24 : decode cX2_become 24 = .ok (.aload_n 0, 1) := by decide +kernel
theorem dX2_become_25 : decode cX2_become 25 = .ok (.aload_n 1, 1) := by decide +kernel
theorem dX2_become_26 : decode cX2_become 26 = .ok (.getfield 24, 3) := by decide +kernel
theorem dX2_become_29 : decode cX2_become 29 = .ok (.putfield 24, 3) := by decide +kernel
theorem dX2_become_32 : decode cX2_become 32 = .ok (.aload_n 0, 1) := by decide +kernel
theorem dX2_become_33 : decode cX2_become 33 = .ok (.aload_n 1, 1) := by decide +kernel
theorem dX2_become_34 : decode cX2_become 34 = .ok (.getfield 27, 3) := by decide +kernel
theorem dX2_become_37 : decode cX2_become 37 = .ok (.putfield 27, 3) := by decide +kernel
theorem dX2_become_40 : decode cX2_become 40 = .ok (.aload_n 0, 1) := by decide +kernel
theorem dX2_become_41 : decode cX2_become 41 = .ok (.aload_n 1, 1) := by decide +kernel
theorem dX2_become_42 : decode cX2_become 42 = .ok (.getfield 30, 3) := by decide +kernel
theorem dX2_become_45 : decode cX2_become 45 = .ok (.putfield 30, 3) := by decide +kernel
theorem dX2_become_48 : decode cX2_become 48 = .ok (.aload_n 0, 1) := by decide +kernel
theorem dX2_become_49 : decode cX2_become 49 = .ok (.aload_n 1, 1) := by decide +kernel
theorem dX2_become_50 : decode cX2_become 50 = .ok (.getfield 33, 3) := by decide +kernel
theorem dX2_become_53 : decode cX2_become 53 = .ok (.putfield 33, 3) := by decide +kernel
theorem dX2_become_56 : decode cX2_become 56 = .ok (.return_, 1) := by decide +kernel
theorem dX3_init_0 : decode cX3_init 0 = .ok (.aload_n 0, 1) := by decide +kernel
theorem dX3_init_1 : decode cX3_init 1 = .ok (.invokespecial 1, 3) := by decide +kernel
theorem dX3_init_4 : decode cX3_init 4 = .ok (.aload_n 0, 1) := by decide +kernel
theorem dX3_init_5 : decode cX3_init 5 = .ok (.iconst 0, 1) := by decide +kernel
theorem dX3_init_6 : decode cX3_init 6 = .ok (.putfield 7, 3) := by decide +kernel
theorem dX3_init_9 : decode cX3_init 9 = .ok (.aload_n 0, 1) := by decide +kernel
theorem dX3_init_10 : decode cX3_init 10 = .ok (.iconst 0, 1) := by decide +kernel
theorem dX3_init_11 : decode cX3_init 11 = .ok (.putfield 13, 3) := by decide +kernel
theorem dX3_init_14 : decode cX3_init 14 = .ok (.aload_n 0, 1) := by decide +kernel
theorem dX3_init_15 : decode cX3_init 15 = .ok (.iconst 0, 1) := by decide +kernel
theorem dX3_init_16 : decode cX3_init 16 = .ok (.putfield 16, 3) := by decide +kernel
theorem dX3_init_19 : decode cX3_init 19 = .ok (.aload_n 0, 1) := by decide +kernel
theorem dX3_init_20 : decode cX3_init 20 = .ok (.iconst 0, 1) := by decide +kernel
theorem dX3_init_21 : decode cX3_init 21 = .ok (.putfield 19, 3) := by decide +kernel
theorem dX3_init_24 : decode cX3_init 24 = .ok (.aload_n 0, 1) := by decide +kernel
theorem dX3_init_25 : decode cX3_init 25 = .ok (.iconst 0, 1) := by decide +kernel
theorem dX3_init_26 : decode cX3_init 26 = .ok (.putfield 22, 3) := by decide +kernel
theorem dX3_init_29 : decode cX3_init 29 = .ok (.aload_n 0, 1) := by decide +kernel
theorem dX3_init_30 : decode cX3_init 30 = .ok (.iconst 0, 1) := by decide +kernel
theorem dX3_init_31 : decode cX3_init 31 = .ok (.putfield 25, 3) := by decide +kernel
theorem dX3_init_34 : decode cX3_init 34 = .ok (.aload_n 0, 1) := by decide +kernel
theorem dX3_init_35 : decode cX3_init 35 = .ok (.aload_n 1, 1) := by decide +kernel
theorem dX3_init_36 : decode cX3_init 36 = .ok (.putfield 29, 3) := by decide +kernel
theorem dX3_init_39 : decode cX3_init 39 = .ok (.aload_n 0, 1) := by decide +kernel
theorem dX3_init_40 : decode cX3_init 40 = .ok (.iconst 1, 1) := by decide +kernel
theorem dX3_init_41 : decode cX3_init 41 = .ok (.iload_n 2, 1) := by decide +kernel
theorem dX3_init_42 : decode cX3_init 42 = .ok (.ishl, 1) := by decide +kernel
theorem dX3_init_43 : decode cX3_init 43 = .ok (.putfield 33, 3) := by decide +kernel
theorem dX3_init_46 : decode cX3_init 46 = .ok (.iload_n 3, 1) := by decide +kernel
theorem dX3_init_47 : decode cX3_init 47 = .ok (.invokestatic 36, 3) := by decide +kernel
theorem dX3_init_50 : decode cX3_init 50 = .ok (.istore 4, 2) := by decide +kernel
theorem dX3_init_52 : decode cX3_init 52 = .ok (.aload_n 0, 1) := by decide +kernel
theorem dX3_init_53 : decode cX3_init 53 = .ok (.lconst 0, 1) := by decide +kernel
theorem dX3_init_54 : decode cX3_init 54 = .ok (.iload_n 3, 1) := by decide +kernel
theorem dX3_init_55 : decode cX3_init 55 = .ok (.invokestatic 42, 3) := by decide +kernel
theorem dX3_init_58 : decode cX3_init 58 = .ok (.iload 4, 2) := by decide +kernel
theorem dX3_init_60 : decode cX3_init 60 = .ok (.invokestatic 42, 3) := by decide +kernel
theorem dX3_init_63 : decode cX3_init 63 = .ok (.putfield 46, 3) := by decide +kernel
theorem dX3_init_66 : decode cX3_init 66 = .ok (.aload_n 0, 1) := by decide +kernel
theorem dX3_init_67 : decode cX3_init 67 = .ok (.iload 4, 2) := by decide +kernel
theorem dX3_init_69 : decode cX3_init 69 = .ok (.invokestatic 36, 3) := by decide +kernel
theorem dX3_init_72 : decode cX3_init 72 = .ok (.putfield 50, 3) := by decide +kernel
theorem dX3_init_75 : decode cX3_init 75 = .ok (.return_, 1) := by decide +kernel
theorem dX3_go_0 : decode cX3_go 0 = .ok (.aload_n 0, 1) := by decide +kernel
theorem dX3_go_1 : decode cX3_go 1 = .ok (.getfield 46, 3) := by decide +kernel
theorem dX3_go_4 : decode cX3_go 4 = .ok (.iload_n 1, 1) := by decide +kernel
theorem dX3_go_5 : decode cX3_go 5 = .ok (.invokestatic 53, 3) := by decide +kernel
theorem dX3_go_8 : decode cX3_go 8 = .ok (.istore_n 2, 1) := by decide +kernel
theorem dX3_go_9 : decode cX3_go 9 = .ok (.aload_n 0, 1) := by decide +kernel
theorem dX3_go_10 : decode cX3_go 10 = .ok (.aload_n 0, 1) := by decide +kernel
theorem dX3_go_11 : decode cX3_go 11 = .ok (.getfield 46, 3) := by decide +kernel
theorem dX3_go_14 : decode cX3_go 14 = .ok (.iload_n 1, 1) := by decide +kernel
theorem dX3_go_15 : decode cX3_go 15 = .ok (.invokestatic 57, 3) := by decide +kernel
theorem dX3_go_18 : decode cX3_go 18 = .ok (.aload_n 0, 1) := by decide +kernel
theorem dX3_go_19 : decode cX3_go 19 = .ok (.getfield 50, 3) := by decide +kernel
theorem dX3_go_22 : decode cX3_go 22 = .ok (.invokestatic 42, 3) := by decide +kernel
theorem dX3_go_25 : decode cX3_go 25 = .ok (.putfield 46, 3) := by decide +kernel
theorem dX3_go_28 : decode cX3_go 28 = .ok (.aload_n 0, 1) := by decide +kernel
theorem dX3_go_29 : decode cX3_go 29 = .ok (.aload_n 0, 1) := by decide +kernel
theorem dX3_go_30 : decode cX3_go 30 = .ok (.getfield 50, 3) := by decide +kernel
theorem dX3_go_33 : decode cX3_go 33 = .ok (.invokestatic 36, 3) := by decide +kernel
theorem dX3_go_36 : decode cX3_go 36 = .ok (.putfield 50, 3) := by decide +kernel
theorem dX3_go_39 : decode cX3_go 39 = .ok (.aload_n 0, 1) := by decide +kernel
theorem dX3_go_40 : decode cX3_go 40 = .ok (.dup, 1) := by decide +kernel
theorem dX3_go_41 : decode cX3_go 41 = .ok (.getfield 7, 3) := by decide +kernel
theorem dX3_go_44 : decode cX3_go 44 = .ok (.iload_n 2, 1) := by decide +kernel
theorem dX3_go_45 : decode cX3_go 45 = .ok (.iadd, 1) := by decide +kernel
theorem dX3_go_46 : decode cX3_go 46 = .ok (.putfield 7, 3) := by decide +kernel
theorem dX3_go_49 : decode cX3_go 49 = .ok (.aload_n 0, 1) := by decide +kernel
theorem dX3_go_50 : decode cX3_go 50 = .ok (.dup, 1) := by decide +kernel
theorem dX3_go_51 : decode cX3_go 51 = .ok (.getfield 13, 3) := by decide +kernel
theorem dX3_go_54 : decode cX3_go 54 = .ok (.iconst 1, 1) := by decide +kernel
theorem dX3_go_55 : decode cX3_go 55 = .ok (.iadd, 1) := by decide +kernel
theorem dX3_go_56 : decode cX3_go 56 = .ok (.putfield 13, 3) := by decide +kernel
theorem dX3_go_59 : decode cX3_go 59 = .ok (.iload_n 2, 1) := by decide +kernel
theorem dX3_go_60 : decode cX3_go 60 = .ok (.ireturn, 1) := by decide +kernel
theorem dX3_noteFollowing_0 : decode cX3_noteFollowing 0 = .ok (.aload_n 0, 1) := by decide +kernel
theorem dX3_noteFollowing_1 : decode cX3_noteFollowing 1 = .ok (.iload_n 1, 1) := by decide +kernel
theorem dX3_noteFollowing_2 : decode cX3_noteFollowing 2 = .ok (.ifCond .eq 12, 3) := by decide +kernel
theorem dX3_noteFollowing_5 : decode cX3_noteFollowing 5 = .ok (.aload_n 0, 1) := by decide +kernel
theorem dX3_noteFollowing_6 : decode cX3_noteFollowing 6 = .ok (.getfield 16, 3) := by decide +kernel
theorem dX3_noteFollowing_9 : decode cX3_noteFollowing 9 = .ok (.iconst 1, 1) := by decide +kernel
theorem dX3_noteFollowing_10 : decode cX3_noteFollowing 10 = .ok (.iadd, 1) := by decide +kernel
theorem dX3_noteFollowing_11 : decode cX3_noteFollowing 11 = .ok (.goto 4, 3) := by decide +kernel
theorem dX3_noteFollowing_14 : decode cX3_noteFollowing 14 = .ok (.iconst 0, 1) := by decide +kernel
theorem dX3_noteFollowing_15 : decode cX3_noteFollowing 15 = .ok (.putfield 16, 3) := by decide +kernel
theorem dX3_noteFollowing_18 : decode cX3_noteFollowing 18 = .ok (.aload_n 0, 1) := by decide +kernel
theorem dX3_noteFollowing_19 : decode cX3_noteFollowing 19 = .ok (.aload_n 0, 1) := by decide +kernel
theorem dX3_noteFollowing_20 : decode cX3_noteFollowing 20 = .ok (.getfield 19, 3) := by decide +kernel
theorem dX3_noteFollowing_23 : decode cX3_noteFollowing 23 = .ok (.aload_n 0, 1) := by decide +kernel
theorem dX3_noteFollowing_24 : decode cX3_noteFollowing 24 = .ok (.getfield 16, 3) := by decide +kernel
theorem dX3_noteFollowing_27 : decode cX3_noteFollowing 27 = .ok (.invokestatic 60, 3) := by decide +kernel
theorem dX3_noteFollowing_30 : decode cX3_noteFollowing 30 = .ok (.putfield 19, 3) := by decide +kernel
theorem dX3_noteFollowing_33 : decode cX3_noteFollowing 33 = .ok (.return_, 1) := by decide +kernel
theorem dX4_init_0 : decode cX4_init 0 = .ok (.aload_n 0, 1) := by decide +kernel
theorem dX4_init_1 : decode cX4_init 1 = .ok (.invokespecial 1, 3) := by decide +kernel
theorem dX4_init_4 : decode cX4_init 4 = .ok (.aload_n 0, 1) := by decide +kernel
theorem dX4_init_5 : decode cX4_init 5 = .ok (.iload_n 1, 1) := by decide +kernel
theorem dX4_init_6 : decode cX4_init 6 = .ok (.putfield 7, 3) := by decide +kernel
theorem dX4_init_9 : decode cX4_init 9 = .ok (.aload_n 0, 1) := by decide +kernel
theorem dX4_init_10 : decode cX4_init 10 = .ok (.iload_n 2, 1) := by decide +kernel
theorem dX4_init_11 : decode cX4_init 11 = .ok (.putfield 13, 3) := by decide +kernel
theorem dX4_init_14 : decode cX4_init 14 = .ok (.aload_n 0, 1) := by decide +kernel
theorem dX4_init_15 : decode cX4_init 15 = .ok (.iload_n 2, 1) := by decide +kernel
theorem dX4_init_16 : decode cX4_init 16 = .ok (.putfield 16, 3) := by decide +kernel
theorem dX4_init_19 : decode cX4_init 19 = .ok (.return_, 1) := by decide +kernel
theorem dX5_init_0 : decode cX5_init 0 = .ok (.aload_n 0, 1) := by decide +kernel
theorem dX5_init_1 : decode cX5_init 1 = .ok (.invokespecial 3, 3) := by decide +kernel
theorem dX5_init_4 : decode cX5_init 4 = .ok (.aload_n 0, 1) := by decide +kernel
theorem dX5_init_5 : decode cX5_init 5 = .ok (.iconst 0, 1) := by decide +kernel
theorem dX5_init_6 : decode cX5_init 6 = .ok (.putfield 9, 3) := by decide +kernel
theorem dX5_init_9 : decode cX5_init 9 = .ok (.aload_n 0, 1) := by decide +kernel
theorem dX5_init_10 : decode cX5_init 10 = .ok (.iconst 0, 1) := by decide +kernel
theorem dX5_init_11 : decode cX5_init 11 = .ok (.putfield 15, 3) := by decide +kernel
theorem dX5_init_14 : decode cX5_init 14 = .ok (.aload_n 0, 1) := by decide +kernel
theorem dX5_init_15 : decode cX5_init 15 = .ok (.iconst (-1), 1) := by decide +kernel
theorem dX5_init_16 : decode cX5_init 16 = .ok (.putfield 18, 3) := by decide +kernel
theorem dX5_init_19 : decode cX5_init 19 = .ok (.aload_n 0, 1) := by decide +kernel
theorem dX5_init_20 : decode cX5_init 20 = .ok (.aload_n 1, 1) := by decide +kernel
theorem dX5_init_21 : decode cX5_init 21 = .ok (.putfield 21, 3) := by decide +kernel
theorem dX5_init_24 : decode cX5_init 24 = .ok (.return_, 1) := by decide +kernel
theorem dX5_start_0 : decode cX5_start 0 = .ok (.aload_n 0, 1) := by decide +kernel
theorem dX5_start_1 : decode cX5_start 1 = .ok (.iconst 0, 1) := by decide +kernel
theorem dX5_start_2 : decode cX5_start 2 = .ok (.putfield 9, 3) := by decide +kernel
theorem dX5_start_5 : decode cX5_start 5 = .ok (.aload_n 0, 1) := by decide +kernel
theorem dX5_start_6 : decode cX5_start 6 = .ok (.iconst 0, 1) := by decide +kernel
theorem dX5_start_7 : decode cX5_start 7 = .ok (.putfield 15, 3) := by decide +kernel
theorem dX5_start_10 : decode cX5_start 10 = .ok (.aload_n 0, 1) := by decide +kernel
theorem dX5_start_11 : decode cX5_start 11 = .ok (.iconst (-1), 1) := by decide +kernel
theorem dX5_start_12 : decode cX5_start 12 = .ok (.putfield 18, 3) := by decide +kernel
theorem dX5_start_15 : decode cX5_start 15 = .ok (.return_, 1) := by decide +kernel
theorem dX5_cost_0 : decode cX5_cost 0 = .ok (.aload_n 0, 1) := by decide +kernel
theorem dX5_cost_1 : decode cX5_cost 1 = .ok (.getfield 15, 3) := by decide +kernel
theorem dX5_cost_4 : decode cX5_cost 4 = .ok (.iconst 1, 1) := by decide +kernel
theorem dX5_cost_5 : decode cX5_cost 5 = .ok (.invokestatic 25, 3) := by decide +kernel
theorem dX5_cost_8 : decode cX5_cost 8 = .ok (.ireturn, 1) := by decide +kernel
theorem dX6_init_0 : decode cX6_init 0 = .ok (.aload_n 0, 1) := by decide +kernel
theorem dX6_init_1 : decode cX6_init 1 = .ok (.invokespecial 1, 3) := by decide +kernel
theorem dX6_init_4 : decode cX6_init 4 = .ok (.aload_n 0, 1) := by decide +kernel
theorem dX6_init_5 : decode cX6_init 5 = .ok (.aload_n 1, 1) := by decide +kernel
theorem dX6_init_6 : decode cX6_init 6 = .ok (.getfield 7, 3) := by decide +kernel
theorem dX6_init_9 : decode cX6_init 9 = .ok (.getfield 13, 3) := by decide +kernel
theorem dX6_init_12 : decode cX6_init 12 = .ok (.putfield 19, 3) := by decide +kernel
theorem dX6_init_15 : decode cX6_init 15 = .ok (.aload_n 0, 1) := by decide +kernel
theorem dX6_init_16 : decode cX6_init 16 = .ok (.aload_n 1, 1) := by decide +kernel
theorem dX6_init_17 : decode cX6_init 17 = .ok (.getfield 24, 3) := by decide +kernel
theorem dX6_init_20 : decode cX6_init 20 = .ok (.putfield 28, 3) := by decide +kernel
theorem dX6_init_23 : decode cX6_init 23 = .ok (.aload_n 0, 1) := by decide +kernel
theorem dX6_init_24 : decode cX6_init 24 = .ok (.aload_n 1, 1) := by decide +kernel
theorem dX6_init_25 : decode cX6_init 25 = .ok (.getfield 29, 3) := by decide +kernel
theorem dX6_init_28 : decode cX6_init 28 = .ok (.putfield 32, 3) := by decide +kernel
theorem dX6_init_31 : decode cX6_init 31 = .ok (.aload_n 0, 1) := by decide +kernel
theorem dX6_init_32 : decode cX6_init 32 = .ok (.iload_n 2, 1) := by decide +kernel
theorem dX6_init_33 : decode cX6_init 33 = .ok (.putfield 33, 3) := by decide +kernel
theorem dX6_init_36 : decode cX6_init 36 = .ok (.return_, 1) := by decide +kernel
theorem dX7_init_0 : decode cX7_init 0 = .ok (.aload_n 0, 1) := by decide +kernel
theorem dX7_init_1 : decode cX7_init 1 = .ok (.invokespecial 1, 3) := by decide +kernel
theorem dX7_init_4 : decode cX7_init 4 = .ok (.aload_n 0, 1) := by decide +kernel
theorem dX7_init_5 : decode cX7_init 5 = .ok (.new 7, 3) := by decide +kernel
theorem dX7_init_8 : decode cX7_init 8 = .ok (.dup, 1) := by decide +kernel
theorem dX7_init_9 : decode cX7_init 9 = .ok (.invokespecial 9, 3) := by decide +kernel
theorem dX7_init_12 : decode cX7_init 12 = .ok (.putfield 10, 3) := by decide +kernel
theorem dX7_init_15 : decode cX7_init 15 = .ok (.aload_n 0, 1) := by decide +kernel
theorem dX7_init_16 : decode cX7_init 16 = .ok (.new 7, 3) := by decide +kernel
theorem dX7_init_19 : decode cX7_init 19 = .ok (.dup, 1) := by decide +kernel
theorem dX7_init_20 : decode cX7_init 20 = .ok (.invokespecial 9, 3) := by decide +kernel
theorem dX7_init_23 : decode cX7_init 23 = .ok (.putfield 16, 3) := by decide +kernel
theorem dX7_init_26 : decode cX7_init 26 = .ok (.aload_n 0, 1) := by decide +kernel
theorem dX7_init_27 : decode cX7_init 27 = .ok (.new 7, 3) := by decide +kernel
theorem dX7_init_30 : decode cX7_init 30 = .ok (.dup, 1) := by decide +kernel
theorem dX7_init_31 : decode cX7_init 31 = .ok (.invokespecial 9, 3) := by decide +kernel
theorem dX7_init_34 : decode cX7_init 34 = .ok (.putfield 19, 3) := by decide +kernel
theorem dX7_init_37 : decode cX7_init 37 = .ok (.aload_n 0, 1) := by decide +kernel
theorem dX7_init_38 : decode cX7_init 38 = .ok (.new 22, 3) := by decide +kernel
theorem dX7_init_41 : decode cX7_init 41 = .ok (.dup, 1) := by decide +kernel
theorem dX7_init_42 : decode cX7_init 42 = .ok (.bipush 64, 2) := by decide +kernel
theorem dX7_init_44 : decode cX7_init 44 = .ok (.invokespecial 24, 3) := by decide +kernel
theorem dX7_init_47 : decode cX7_init 47 = .ok (.putfield 27, 3) := by decide +kernel
theorem dX7_init_50 : decode cX7_init 50 = .ok (.aload_n 0, 1) := by decide +kernel
theorem dX7_init_51 : decode cX7_init 51 = .ok (.new 31, 3) := by decide +kernel
theorem dX7_init_54 : decode cX7_init 54 = .ok (.dup, 1) := by decide +kernel
theorem dX7_init_55 : decode cX7_init 55 = .ok (.new 22, 3) := by decide +kernel
theorem dX7_init_58 : decode cX7_init 58 = .ok (.dup, 1) := by decide +kernel
theorem dX7_init_59 : decode cX7_init 59 = .ok (.bipush 64, 2) := by decide +kernel
theorem dX7_init_61 : decode cX7_init 61 = .ok (.invokespecial 24, 3) := by decide +kernel
theorem dX7_init_64 : decode cX7_init 64 = .ok (.invokespecial 33, 3) := by decide +kernel
theorem dX7_init_67 : decode cX7_init 67 = .ok (.putfield 36, 3) := by decide +kernel
theorem dX7_init_70 : decode cX7_init 70 = .ok (.aload_n 0, 1) := by decide +kernel
theorem dX7_init_71 : decode cX7_init 71 = .ok (.new 31, 3) := by decide +kernel
theorem dX7_init_74 : decode cX7_init 74 = .ok (.dup, 1) := by decide +kernel
theorem dX7_init_75 : decode cX7_init 75 = .ok (.new 22, 3) := by decide +kernel
theorem dX7_init_78 : decode cX7_init 78 = .ok (.dup, 1) := by decide +kernel
theorem dX7_init_79 : decode cX7_init 79 = .ok (.iconst 0, 1) := by decide +kernel
theorem dX7_init_80 : decode cX7_init 80 = .ok (.invokespecial 24, 3) := by decide +kernel
theorem dX7_init_83 : decode cX7_init 83 = .ok (.invokespecial 33, 3) := by decide +kernel
theorem dX7_init_86 : decode cX7_init 86 = .ok (.putfield 40, 3) := by decide +kernel
theorem dX7_init_89 : decode cX7_init 89 = .ok (.aload_n 0, 1) := by decide +kernel
theorem dX7_init_90 : decode cX7_init 90 = .ok (.iconst 3, 1) := by decide +kernel
theorem dX7_init_91 : decode cX7_init 91 = .ok (.putfield 43, 3) := by decide +kernel
theorem dX7_init_94 : decode cX7_init 94 = .ok (.aload_n 0, 1) := by decide +kernel
theorem dX7_init_95 : decode cX7_init 95 = .ok (.lconst 0, 1) := by decide +kernel
theorem dX7_init_96 : decode cX7_init 96 = .ok (.putfield 47, 3) := by decide +kernel
theorem dX7_init_99 : decode cX7_init 99 = .ok (.aload_n 0, 1) := by decide +kernel
theorem dX7_init_100 : decode cX7_init 100 = .ok (.lconst 0, 1) := by decide +kernel
theorem dX7_init_101 : decode cX7_init 101 = .ok (.putfield 51, 3) := by decide +kernel
theorem dX7_init_104 : decode cX7_init 104 = .ok (.aload_n 0, 1) := by decide +kernel
theorem dX7_init_105 : decode cX7_init 105 = .ok (.lconst 0, 1) := by decide +kernel
theorem dX7_init_106 : decode cX7_init 106 = .ok (.putfield 54, 3) := by decide +kernel
theorem dX7_init_109 : decode cX7_init 109 = .ok (.aload_n 0, 1) := by decide +kernel
theorem dX7_init_110 : decode cX7_init 110 = .ok (.lconst 0, 1) := by decide +kernel
theorem dX7_init_111 : decode cX7_init 111 = .ok (.putfield 57, 3) := by decide +kernel
theorem dX7_init_114 : decode cX7_init 114 = .ok (.aload_n 0, 1) := by decide +kernel
theorem dX7_init_115 : decode cX7_init 115 = .ok (.lconst 0, 1) := by decide +kernel
theorem dX7_init_116 : decode cX7_init 116 = .ok (.putfield 60, 3) := by decide +kernel
theorem dX7_init_119 : decode cX7_init 119 = .ok (.return_, 1) := by decide +kernel
theorem dX7_addPlayer_0 : decode cX7_addPlayer 0 = .ok (.iload_n 1, 1) := by decide +kernel
theorem dX7_addPlayer_1 : decode cX7_addPlayer 1 = .ok (.ifCond .lt 10, 3) := by decide +kernel
theorem dX7_addPlayer_4 : decode cX7_addPlayer 4 = .ok (.iload_n 1, 1) := by decide +kernel
theorem dX7_addPlayer_5 : decode cX7_addPlayer 5 = .ok (.sipush 9999, 3) := by decide +kernel
theorem dX7_addPlayer_8 : decode cX7_addPlayer 8 = .ok (.if_icmp .le 13, 3) := by decide +kernel
theorem dX7_addPlayer_11 : decode cX7_addPlayer 11 = .ok (.new 63, 3) := by decide +kernel
theorem dX7_addPlayer_14 : decode cX7_addPlayer 14 = .ok (.dup, 1) := by decide +kernel
theorem dX7_addPlayer_15 : decode cX7_addPlayer 15 = .ok (.ldc 65, 2) := by decide +kernel
theorem dX7_addPlayer_17 : decode cX7_addPlayer 17 = .ok (.invokespecial 67, 3) := by decide +kernel
theorem dX7_addPlayer_20 : decode cX7_addPlayer 20 = .ok (.athrow, 1) := by decide +kernel
theorem dX7_addPlayer_21 : decode cX7_addPlayer 21 = .ok (.aload_n 0, 1) := by decide +kernel
theorem dX7_addPlayer_22 : decode cX7_addPlayer 22 = .ok (.getfield 10, 3) := by decide +kernel
theorem dX7_addPlayer_25 : decode cX7_addPlayer 25 = .ok (.invokevirtual 70, 3) := by decide +kernel
theorem dX7_addPlayer_28 : decode cX7_addPlayer 28 = .ok (.iconst 4, 1) := by decide +kernel
theorem dX7_addPlayer_29 : decode cX7_addPlayer 29 = .ok (.if_icmp .lt 13, 3) := by decide +kernel
theorem dX7_addPlayer_32 : decode cX7_addPlayer 32 = .ok (.new 74, 3) := by decide +kernel
theorem dX7_addPlayer_35 : decode cX7_addPlayer 35 = .ok (.dup, 1) := by decide +kernel
theorem dX7_addPlayer_36 : decode cX7_addPlayer 36 = .ok (.ldc 76, 2) := by decide +kernel
theorem dX7_addPlayer_38 : decode cX7_addPlayer 38 = .ok (.invokespecial 78, 3) := by decide +kernel
theorem dX7_addPlayer_41 : decode cX7_addPlayer 41 = .ok (.athrow, 1) := by decide +kernel
theorem dX7_addPlayer_42 : decode cX7_addPlayer 42 = .ok (.aload_n 0, 1) := by decide +kernel
theorem dX7_addPlayer_43 : decode cX7_addPlayer 43 = .ok (.getfield 10, 3) := by decide +kernel
theorem dX7_addPlayer_46 : decode cX7_addPlayer 46 = .ok (.new 79, 3) := by decide +kernel
theorem dX7_addPlayer_49 : decode cX7_addPlayer 49 = .ok (.dup, 1) := by decide +kernel
theorem dX7_addPlayer_50 : decode cX7_addPlayer 50 = .ok (.aload_n 0, 1) := by decide +kernel
theorem dX7_addPlayer_51 : decode cX7_addPlayer 51 = .ok (.getfield 10, 3) := by decide +kernel
theorem dX7_addPlayer_54 : decode cX7_addPlayer 54 = .ok (.invokevirtual 70, 3) := by decide +kernel
theorem dX7_addPlayer_57 : decode cX7_addPlayer 57 = .ok (.iload_n 1, 1) := by decide +kernel
theorem dX7_addPlayer_58 : decode cX7_addPlayer 58 = .ok (.invokespecial 81, 3) := by decide +kernel
theorem dX7_addPlayer_61 : decode cX7_addPlayer 61 = .ok (.invokevirtual 84, 3) := by decide +kernel
theorem dX7_addPlayer_64 : decode cX7_addPlayer 64 = .ok (.pop, 1) := by decide +kernel
theorem dX7_addPlayer_65 : decode cX7_addPlayer 65 = .ok (.aload_n 0, 1) := by decide +kernel
theorem dX7_addPlayer_66 : decode cX7_addPlayer 66 = .ok (.getfield 10, 3) := by decide +kernel
theorem dX7_addPlayer_69 : decode cX7_addPlayer 69 = .ok (.invokevirtual 70, 3) := by decide +kernel
theorem dX7_addPlayer_72 : decode cX7_addPlayer 72 = .ok (.iconst 1, 1) := by decide +kernel
theorem dX7_addPlayer_73 : decode cX7_addPlayer 73 = .ok (.isub, 1) := by decide +kernel
theorem dX7_addPlayer_74 : decode cX7_addPlayer 74 = .ok (.ireturn, 1) := by decide +kernel
theorem dX7_open_0 : decode cX7_open 0 = .ok (.aload_n 0, 1) := by decide +kernel
theorem dX7_open_1 : decode cX7_open 1 = .ok (.iload_n 1, 1) := by decide +kernel
theorem dX7_open_2 : decode cX7_open 2 = .ok (.invokevirtual 88, 3) := by decide +kernel
theorem dX7_open_5 : decode cX7_open 5 = .ok (.astore_n 3, 1) := by decide +kernel
theorem dX7_open_6 : decode cX7_open 6 = .ok (.iload_n 2, 1) := by decide +kernel
theorem dX7_open_7 : decode cX7_open 7 = .ok (.ifCond .ge 13, 3) := by decide +kernel
theorem dX7_open_10 : decode cX7_open 10 = .ok (.new 63, 3) := by decide +kernel
theorem dX7_open_13 : decode cX7_open 13 = .ok (.dup, 1) := by decide +kernel
theorem dX7_open_14 : decode cX7_open 14 = .ok (.ldc 92, 2) := by decide +kernel
theorem dX7_open_16 : decode cX7_open 16 = .ok (.invokespecial 67, 3) := by decide +kernel
theorem dX7_open_19 : decode cX7_open 19 = .ok (.athrow, 1) := by decide +kernel
theorem dX7_open_20 : decode cX7_open 20 = .ok (.aload_n 0, 1) := by decide +kernel
theorem dX7_open_21 : decode cX7_open 21 = .ok (.getfield 16, 3) := by decide +kernel
theorem dX7_open_24 : decode cX7_open 24 = .ok (.invokevirtual 70, 3) := by decide +kernel
theorem dX7_open_27 : decode cX7_open 27 = .ok (.bipush 8, 2) := by decide +kernel
theorem dX7_open_29 : decode cX7_open 29 = .ok (.if_icmp .lt 13, 3) := by decide +kernel
theorem dX7_open_32 : decode cX7_open 32 = .ok (.new 74, 3) := by decide +kernel
theorem dX7_open_35 : decode cX7_open 35 = .ok (.dup, 1) := by decide +kernel
theorem dX7_open_36 : decode cX7_open 36 = .ok (.ldc 94, 2) := by decide +kernel
theorem dX7_open_38 : decode cX7_open 38 = .ok (.invokespecial 78, 3) := by decide +kernel
theorem dX7_open_41 : decode cX7_open 41 = .ok (.athrow, 1) := by decide +kernel
theorem dX7_open_42 : decode cX7_open 42 = .ok (.aload_n 0, 1) := by decide +kernel
theorem dX7_open_43 : decode cX7_open 43 = .ok (.getfield 16, 3) := by decide +kernel
theorem dX7_open_46 : decode cX7_open 46 = .ok (.new 96, 3) := by decide +kernel
theorem dX7_open_49 : decode cX7_open 49 = .ok (.dup, 1) := by decide +kernel
theorem dX7_open_50 : decode cX7_open 50 = .ok (.aload_n 3, 1) := by decide +kernel
theorem dX7_open_51 : decode cX7_open 51 = .ok (.aload_n 0, 1) := by decide +kernel
theorem dX7_open_52 : decode cX7_open 52 = .ok (.getfield 16, 3) := by decide +kernel
theorem dX7_open_55 : decode cX7_open 55 = .ok (.invokevirtual 70, 3) := by decide +kernel
theorem dX7_open_58 : decode cX7_open 58 = .ok (.iload_n 2, 1) := by decide +kernel
theorem dX7_open_59 : decode cX7_open 59 = .ok (.invokespecial 98, 3) := by decide +kernel
theorem dX7_open_62 : decode cX7_open 62 = .ok (.invokevirtual 84, 3) := by decide +kernel
theorem dX7_open_65 : decode cX7_open 65 = .ok (.pop, 1) := by decide +kernel
theorem dX7_open_66 : decode cX7_open 66 = .ok (.aload_n 0, 1) := by decide +kernel
theorem dX7_open_67 : decode cX7_open 67 = .ok (.getfield 16, 3) := by decide +kernel
theorem dX7_open_70 : decode cX7_open 70 = .ok (.invokevirtual 70, 3) := by decide +kernel
theorem dX7_open_73 : decode cX7_open 73 = .ok (.iconst 1, 1) := by decide +kernel
theorem dX7_open_74 : decode cX7_open 74 = .ok (.isub, 1) := by decide +kernel
theorem dX7_open_75 : decode cX7_open 75 = .ok (.ireturn, 1) := by decide +kernel
theorem dX7_push_0 : decode cX7_push 0 = .ok (.aload_n 0, 1) := by decide +kernel
theorem dX7_push_1 : decode cX7_push 1 = .ok (.iload_n 1, 1) := by decide +kernel
theorem dX7_push_2 : decode cX7_push 2 = .ok (.invokevirtual 101, 3) := by decide +kernel
theorem dX7_push_5 : decode cX7_push 5 = .ok (.astore_n 3, 1) := by decide +kernel
theorem dX7_push_6 : decode cX7_push 6 = .ok (.iload_n 2, 1) := by decide +kernel
theorem dX7_push_7 : decode cX7_push 7 = .ok (.invokestatic 105, 3) := by decide +kernel
theorem dX7_push_10 : decode cX7_push 10 = .ok (.aload_n 3, 1) := by decide +kernel
theorem dX7_push_11 : decode cX7_push 11 = .ok (.getfield 108, 3) := by decide +kernel
theorem dX7_push_14 : decode cX7_push 14 = .ok (.ifCond .ne 14, 3) := by decide +kernel
theorem dX7_push_17 : decode cX7_push 17 = .ok (.aload_n 3, 1) := by decide +kernel
theorem dX7_push_18 : decode cX7_push 18 = .ok (.getfield 112, 3) := by decide +kernel
theorem dX7_push_21 : decode cX7_push 21 = .ok (.iload_n 2, 1) := by decide +kernel
theorem dX7_push_22 : decode cX7_push 22 = .ok (.invokestatic 115, 3) := by decide +kernel
theorem dX7_push_25 : decode cX7_push 25 = .ok (.ifCond .ne 13, 3) := by decide +kernel
theorem dX7_push_28 : decode cX7_push 28 = .ok (.new 121, 3) := by decide +kernel
theorem dX7_push_31 : decode cX7_push 31 = .ok (.dup, 1) := by decide +kernel
theorem dX7_push_32 : decode cX7_push 32 = .ok (.ldc 123, 2) := by decide +kernel
theorem dX7_push_34 : decode cX7_push 34 = .ok (.invokespecial 125, 3) := by decide +kernel
theorem dX7_push_37 : decode cX7_push 37 = .ok (.athrow, 1) := by decide +kernel
theorem dX7_push_38 : decode cX7_push 38 = .ok (.aload_n 3, 1) := by decide +kernel
theorem dX7_push_39 : decode cX7_push 39 = .ok (.aload_n 0, 1) := by decide +kernel
theorem dX7_push_40 : decode cX7_push 40 = .ok (.aload_n 3, 1) := by decide +kernel
theorem dX7_push_41 : decode cX7_push 41 = .ok (.iload_n 2, 1) := by decide +kernel
theorem dX7_push_42 : decode cX7_push 42 = .ok (.invokevirtual 126, 3) := by decide +kernel
theorem dX7_push_45 : decode cX7_push 45 = .ok (.invokevirtual 130, 3) := by decide +kernel
theorem dX7_push_48 : decode cX7_push 48 = .ok (.aload_n 3, 1) := by decide +kernel
theorem dX7_push_49 : decode cX7_push 49 = .ok (.iload_n 2, 1) := by decide +kernel
theorem dX7_push_50 : decode cX7_push 50 = .ok (.invokevirtual 134, 3) := by decide +kernel
theorem dX7_push_53 : decode cX7_push 53 = .ok (.ireturn, 1) := by decide +kernel
theorem dX7_at_0 : decode cX7_at 0 = .ok (.aload_n 0, 1) := by decide +kernel
theorem dX7_at_1 : decode cX7_at 1 = .ok (.iload_n 1, 1) := by decide +kernel
theorem dX7_at_2 : decode cX7_at 2 = .ok (.invokevirtual 101, 3) := by decide +kernel
theorem dX7_at_5 : decode cX7_at 5 = .ok (.astore 4, 2) := by decide +kernel
theorem dX7_at_7 : decode cX7_at 7 = .ok (.iload_n 2, 1) := by decide +kernel
theorem dX7_at_8 : decode cX7_at 8 = .ok (.ifCond .lt 17, 3) := by decide +kernel
theorem dX7_at_11 : decode cX7_at 11 = .ok (.iload_n 2, 1) := by decide +kernel
theorem dX7_at_12 : decode cX7_at 12 = .ok (.iconst 3, 1) := by decide +kernel
theorem dX7_at_13 : decode cX7_at 13 = .ok (.if_icmp .ge 12, 3) := by decide +kernel
theorem dX7_at_16 : decode cX7_at 16 = .ok (.iload_n 3, 1) := by decide +kernel
theorem dX7_at_17 : decode cX7_at 17 = .ok (.ifCond .lt 8, 3) := by decide +kernel
theorem dX7_at_20 : decode cX7_at 20 = .ok (.iload_n 3, 1) := by decide +kernel
theorem dX7_at_21 : decode cX7_at 21 = .ok (.iconst 3, 1) := by decide +kernel
theorem dX7_at_22 : decode cX7_at 22 = .ok (.if_icmp .lt 13, 3) := by decide +kernel
theorem dX7_at_25 : decode cX7_at 25 = .ok (.new 63, 3) := by decide +kernel
theorem dX7_at_28 : decode cX7_at 28 = .ok (.dup, 1) := by decide +kernel
theorem dX7_at_29 : decode cX7_at 29 = .ok (.ldc 138, 2) := by decide +kernel
theorem dX7_at_31 : decode cX7_at 31 = .ok (.invokespecial 67, 3) := by decide +kernel
theorem dX7_at_34 : decode cX7_at 34 = .ok (.athrow, 1) := by decide +kernel
theorem dX7_at_35 : decode cX7_at 35 = .ok (.aload 4, 2) := by decide +kernel
theorem dX7_at_37 : decode cX7_at 37 = .ok (.getfield 112, 3) := by decide +kernel
theorem dX7_at_40 : decode cX7_at 40 = .ok (.iload_n 2, 1) := by decide +kernel
theorem dX7_at_41 : decode cX7_at 41 = .ok (.iconst 3, 1) := by decide +kernel
theorem dX7_at_42 : decode cX7_at 42 = .ok (.imul, 1) := by decide +kernel
theorem dX7_at_43 : decode cX7_at 43 = .ok (.iload_n 3, 1) := by decide +kernel
theorem dX7_at_44 : decode cX7_at 44 = .ok (.iadd, 1) := by decide +kernel
theorem dX7_at_45 : decode cX7_at 45 = .ok (.invokestatic 140, 3) := by decide +kernel
theorem dX7_at_48 : decode cX7_at 48 = .ok (.ireturn, 1) := by decide +kernel
theorem dX7_score_0 : decode cX7_score 0 = .ok (.aload_n 0, 1) := by decide +kernel
theorem dX7_score_1 : decode cX7_score 1 = .ok (.iload_n 1, 1) := by decide +kernel
theorem dX7_score_2 : decode cX7_score 2 = .ok (.invokevirtual 101, 3) := by decide +kernel
theorem dX7_score_5 : decode cX7_score 5 = .ok (.getfield 144, 3) := by decide +kernel
theorem dX7_score_8 : decode cX7_score 8 = .ok (.ireturn, 1) := by decide +kernel
theorem dX7_pushes_0 : decode cX7_pushes 0 = .ok (.aload_n 0, 1) := by decide +kernel
theorem dX7_pushes_1 : decode cX7_pushes 1 = .ok (.iload_n 1, 1) := by decide +kernel
theorem dX7_pushes_2 : decode cX7_pushes 2 = .ok (.invokevirtual 101, 3) := by decide +kernel
theorem dX7_pushes_5 : decode cX7_pushes 5 = .ok (.getfield 147, 3) := by decide +kernel
theorem dX7_pushes_8 : decode cX7_pushes 8 = .ok (.ireturn, 1) := by decide +kernel
theorem dX7_canPush_0 : decode cX7_canPush 0 = .ok (.aload_n 0, 1) := by decide +kernel
theorem dX7_canPush_1 : decode cX7_canPush 1 = .ok (.iload_n 1, 1) := by decide +kernel
theorem dX7_canPush_2 : decode cX7_canPush 2 = .ok (.invokevirtual 101, 3) := by decide +kernel
theorem dX7_canPush_5 : decode cX7_canPush 5 = .ok (.astore_n 3, 1) := by decide +kernel
theorem dX7_canPush_6 : decode cX7_canPush 6 = .ok (.iload_n 2, 1) := by decide +kernel
theorem dX7_canPush_7 : decode cX7_canPush 7 = .ok (.invokestatic 105, 3) := by decide +kernel
theorem dX7_canPush_10 : decode cX7_canPush 10 = .ok (.aload_n 3, 1) := by decide +kernel
theorem dX7_canPush_11 : decode cX7_canPush 11 = .ok (.getfield 112, 3) := by decide +kernel
theorem dX7_canPush_14 : decode cX7_canPush 14 = .ok (.iload_n 2, 1) := by decide +kernel
theorem dX7_canPush_15 : decode cX7_canPush 15 = .ok (.invokestatic 115, 3) := by decide +kernel
theorem dX7_canPush_18 : decode cX7_canPush 18 = .ok (.ireturn, 1) := by decide +kernel
theorem dX7_isOver_0 : decode cX7_isOver 0 = .ok (.aload_n 0, 1) := by decide +kernel
theorem dX7_isOver_1 : decode cX7_isOver 1 = .ok (.iload_n 1, 1) := by decide +kernel
theorem dX7_isOver_2 : decode cX7_isOver 2 = .ok (.invokevirtual 101, 3) := by decide +kernel
theorem dX7_isOver_5 : decode cX7_isOver 5 = .ok (.getfield 112, 3) := by decide +kernel
theorem dX7_isOver_8 : decode cX7_isOver 8 = .ok (.invokestatic 150, 3) := by decide +kernel
theorem dX7_isOver_11 : decode cX7_isOver 11 = .ok (.ireturn, 1) := by decide +kernel
theorem dX7_price_0 : decode cX7_price 0 = .ok (.aload_n 0, 1) := by decide +kernel
theorem dX7_price_1 : decode cX7_price 1 = .ok (.iload_n 1, 1) := by decide +kernel
theorem dX7_price_2 : decode cX7_price 2 = .ok (.invokevirtual 101, 3) := by decide +kernel
theorem dX7_price_5 : decode cX7_price 5 = .ok (.astore_n 3, 1) := by decide +kernel
theorem dX7_price_6 : decode cX7_price 6 = .ok (.iload_n 2, 1) := by decide +kernel
theorem dX7_price_7 : decode cX7_price 7 = .ok (.iconst 1, 1) := by decide +kernel
theorem dX7_price_8 : decode cX7_price 8 = .ok (.invokestatic 154, 3) := by decide +kernel
theorem dX7_price_11 : decode cX7_price 11 = .ok (.aload_n 3, 1) := by decide +kernel
theorem dX7_price_12 : decode cX7_price 12 = .ok (.invokestatic 157, 3) := by decide +kernel
theorem dX7_price_15 : decode cX7_price 15 = .ok (.aload_n 0, 1) := by decide +kernel
theorem dX7_price_16 : decode cX7_price 16 = .ok (.aload_n 3, 1) := by decide +kernel
theorem dX7_price_17 : decode cX7_price 17 = .ok (.iload_n 2, 1) := by decide +kernel
theorem dX7_price_18 : decode cX7_price 18 = .ok (.invokevirtual 161, 3) := by decide +kernel
theorem dX7_price_21 : decode cX7_price 21 = .ok (.aload_n 0, 1) := by decide +kernel
theorem dX7_price_22 : decode cX7_price 22 = .ok (.getfield 36, 3) := by decide +kernel
theorem dX7_price_25 : decode cX7_price 25 = .ok (.invokevirtual 165, 3) := by decide +kernel
theorem dX7_price_28 : decode cX7_price 28 = .ok (.ireturn, 1) := by decide +kernel
theorem dX7_hint_0 : decode cX7_hint 0 = .ok (.aload_n 0, 1) := by decide +kernel
theorem dX7_hint_1 : decode cX7_hint 1 = .ok (.iload_n 1, 1) := by decide +kernel
theorem dX7_hint_2 : decode cX7_hint 2 = .ok (.invokevirtual 101, 3) := by decide +kernel
theorem dX7_hint_5 : decode cX7_hint 5 = .ok (.astore_n 3, 1) := by decide +kernel
theorem dX7_hint_6 : decode cX7_hint 6 = .ok (.iload_n 2, 1) := by decide +kernel
theorem dX7_hint_7 : decode cX7_hint 7 = .ok (.iconst 1, 1) := by decide +kernel
theorem dX7_hint_8 : decode cX7_hint 8 = .ok (.invokestatic 154, 3) := by decide +kernel
theorem dX7_hint_11 : decode cX7_hint 11 = .ok (.aload_n 3, 1) := by decide +kernel
theorem dX7_hint_12 : decode cX7_hint 12 = .ok (.invokestatic 157, 3) := by decide +kernel
theorem dX7_hint_15 : decode cX7_hint 15 = .ok (.aload_n 0, 1) := by decide +kernel
theorem dX7_hint_16 : decode cX7_hint 16 = .ok (.aload_n 3, 1) := by decide +kernel
theorem dX7_hint_17 : decode cX7_hint 17 = .ok (.iload_n 2, 1) := by decide +kernel
theorem dX7_hint_18 : decode cX7_hint 18 = .ok (.invokevirtual 161, 3) := by decide +kernel
theorem dX7_hint_21 : decode cX7_hint 21 = .ok (.aload_n 3, 1) := by decide +kernel
theorem dX7_hint_22 : decode cX7_hint 22 = .ok (.getfield 168, 3) := by decide +kernel
theorem dX7_hint_25 : decode cX7_hint 25 = .ok (.getfield 172, 3) := by decide +kernel
theorem dX7_hint_28 : decode cX7_hint 28 = .ok (.aload_n 0, 1) := by decide +kernel
theorem dX7_hint_29 : decode cX7_hint 29 = .ok (.getfield 36, 3) := by decide +kernel
theorem dX7_hint_32 : decode cX7_hint 32 = .ok (.invokevirtual 165, 3) := by decide +kernel
theorem dX7_hint_35 : decode cX7_hint 35 = .ok (.if_icmp .ge 13, 3) := by decide +kernel
theorem dX7_hint_38 : decode cX7_hint 38 = .ok (.new 175, 3) := by decide +kernel
theorem dX7_hint_41 : decode cX7_hint 41 = .ok (.dup, 1) := by decide +kernel
theorem dX7_hint_42 : decode cX7_hint 42 = .ok (.ldc 177, 2) := by decide +kernel
theorem dX7_hint_44 : decode cX7_hint 44 = .ok (.invokespecial 179, 3) := by decide +kernel
theorem dX7_hint_47 : decode cX7_hint 47 = .ok (.athrow, 1) := by decide +kernel
theorem dX7_hint_48 : decode cX7_hint 48 = .ok (.aload_n 0, 1) := by decide +kernel
theorem dX7_hint_49 : decode cX7_hint 49 = .ok (.getfield 19, 3) := by decide +kernel
theorem dX7_hint_52 : decode cX7_hint 52 = .ok (.invokevirtual 70, 3) := by decide +kernel
theorem dX7_hint_55 : decode cX7_hint 55 = .ok (.bipush 60, 2) := by decide +kernel
theorem dX7_hint_57 : decode cX7_hint 57 = .ok (.if_icmp .lt 13, 3) := by decide +kernel
theorem dX7_hint_60 : decode cX7_hint 60 = .ok (.new 74, 3) := by decide +kernel
theorem dX7_hint_63 : decode cX7_hint 63 = .ok (.dup, 1) := by decide +kernel
theorem dX7_hint_64 : decode cX7_hint 64 = .ok (.ldc 180, 2) := by decide +kernel
theorem dX7_hint_66 : decode cX7_hint 66 = .ok (.invokespecial 78, 3) := by decide +kernel
theorem dX7_hint_69 : decode cX7_hint 69 = .ok (.athrow, 1) := by decide +kernel
theorem dX7_hint_70 : decode cX7_hint 70 = .ok (.aload_n 0, 1) := by decide +kernel
theorem dX7_hint_71 : decode cX7_hint 71 = .ok (.aload_n 3, 1) := by decide +kernel
theorem dX7_hint_72 : decode cX7_hint 72 = .ok (.invokevirtual 182, 3) := by decide +kernel
theorem dX7_hint_75 : decode cX7_hint 75 = .ok (.aload_n 0, 1) := by decide +kernel
theorem dX7_hint_76 : decode cX7_hint 76 = .ok (.getfield 36, 3) := by decide +kernel
theorem dX7_hint_79 : decode cX7_hint 79 = .ok (.getfield 185, 3) := by decide +kernel
theorem dX7_hint_82 : decode cX7_hint 82 = .ok (.ireturn, 1) := by decide +kernel
theorem dX7_worth_0 : decode cX7_worth 0 = .ok (.aload_n 0, 1) := by decide +kernel
theorem dX7_worth_1 : decode cX7_worth 1 = .ok (.iload_n 1, 1) := by decide +kernel
theorem dX7_worth_2 : decode cX7_worth 2 = .ok (.invokevirtual 101, 3) := by decide +kernel
theorem dX7_worth_5 : decode cX7_worth 5 = .ok (.astore_n 3, 1) := by decide +kernel
theorem dX7_worth_6 : decode cX7_worth 6 = .ok (.iload_n 2, 1) := by decide +kernel
theorem dX7_worth_7 : decode cX7_worth 7 = .ok (.iconst 0, 1) := by decide +kernel
theorem dX7_worth_8 : decode cX7_worth 8 = .ok (.invokestatic 154, 3) := by decide +kernel
theorem dX7_worth_11 : decode cX7_worth 11 = .ok (.aload_n 0, 1) := by decide +kernel
theorem dX7_worth_12 : decode cX7_worth 12 = .ok (.getfield 40, 3) := by decide +kernel
theorem dX7_worth_15 : decode cX7_worth 15 = .ok (.aload_n 3, 1) := by decide +kernel
theorem dX7_worth_16 : decode cX7_worth 16 = .ok (.getfield 112, 3) := by decide +kernel
theorem dX7_worth_19 : decode cX7_worth 19 = .ok (.aload_n 3, 1) := by decide +kernel
theorem dX7_worth_20 : decode cX7_worth 20 = .ok (.getfield 188, 3) := by decide +kernel
theorem dX7_worth_23 : decode cX7_worth 23 = .ok (.iload_n 2, 1) := by decide +kernel
theorem dX7_worth_24 : decode cX7_worth 24 = .ok (.invokestatic 191, 3) := by decide +kernel
theorem dX7_worth_27 : decode cX7_worth 27 = .ok (.ireturn, 1) := by decide +kernel
theorem dX7_money_0 : decode cX7_money 0 = .ok (.aload_n 0, 1) := by decide +kernel
theorem dX7_money_1 : decode cX7_money 1 = .ok (.iload_n 1, 1) := by decide +kernel
theorem dX7_money_2 : decode cX7_money 2 = .ok (.invokevirtual 88, 3) := by decide +kernel
theorem dX7_money_5 : decode cX7_money 5 = .ok (.getfield 172, 3) := by decide +kernel
theorem dX7_money_8 : decode cX7_money 8 = .ok (.ireturn, 1) := by decide +kernel
theorem dX7_setRoom_0 : decode cX7_setRoom 0 = .ok (.iload_n 1, 1) := by decide +kernel
theorem dX7_setRoom_1 : decode cX7_setRoom 1 = .ok (.iconst 1, 1) := by decide +kernel
theorem dX7_setRoom_2 : decode cX7_setRoom 2 = .ok (.if_icmp .lt 9, 3) := by decide +kernel
theorem dX7_setRoom_5 : decode cX7_setRoom 5 = .ok (.iload_n 1, 1) := by decide +kernel
theorem dX7_setRoom_6 : decode cX7_setRoom 6 = .ok (.bipush 64, 2) := by decide +kernel
theorem dX7_setRoom_8 : decode cX7_setRoom 8 = .ok (.if_icmp .le 13, 3) := by decide +kernel
theorem dX7_setRoom_11 : decode cX7_setRoom 11 = .ok (.new 63, 3) := by decide +kernel
theorem dX7_setRoom_14 : decode cX7_setRoom 14 = .ok (.dup, 1) := by decide +kernel
theorem dX7_setRoom_15 : decode cX7_setRoom 15 = .ok (.ldc 195, 2) := by decide +kernel
theorem dX7_setRoom_17 : decode cX7_setRoom 17 = .ok (.invokespecial 67, 3) := by decide +kernel
theorem dX7_setRoom_20 : decode cX7_setRoom 20 = .ok (.athrow, 1) := by decide +kernel
theorem dX7_setRoom_21 : decode cX7_setRoom 21 = .ok (.aload_n 0, 1) := by decide +kernel
theorem dX7_setRoom_22 : decode cX7_setRoom 22 = .ok (.getfield 27, 3) := by decide +kernel
theorem dX7_setRoom_25 : decode cX7_setRoom 25 = .ok (.invokevirtual 197, 3) := by decide +kernel
theorem dX7_setRoom_28 : decode cX7_setRoom 28 = .ok (.iload_n 1, 1) := by decide +kernel
theorem dX7_setRoom_29 : decode cX7_setRoom 29 = .ok (.if_icmp .le 13, 3) := by decide +kernel
theorem dX7_setRoom_32 : decode cX7_setRoom 32 = .ok (.new 121, 3) := by decide +kernel
theorem dX7_setRoom_35 : decode cX7_setRoom 35 = .ok (.dup, 1) := by decide +kernel
theorem dX7_setRoom_36 : decode cX7_setRoom 36 = .ok (.ldc 200, 2) := by decide +kernel
theorem dX7_setRoom_38 : decode cX7_setRoom 38 = .ok (.invokespecial 125, 3) := by decide +kernel
theorem dX7_setRoom_41 : decode cX7_setRoom 41 = .ok (.athrow, 1) := by decide +kernel
theorem dX7_setRoom_42 : decode cX7_setRoom 42 = .ok (.aload_n 0, 1) := by decide +kernel
theorem dX7_setRoom_43 : decode cX7_setRoom 43 = .ok (.getfield 27, 3) := by decide +kernel
theorem dX7_setRoom_46 : decode cX7_setRoom 46 = .ok (.iload_n 1, 1) := by decide +kernel
theorem dX7_setRoom_47 : decode cX7_setRoom 47 = .ok (.invokevirtual 202, 3) := by decide +kernel
theorem dX7_setRoom_50 : decode cX7_setRoom 50 = .ok (.aload_n 0, 1) := by decide +kernel
theorem dX7_setRoom_51 : decode cX7_setRoom 51 = .ok (.getfield 27, 3) := by decide +kernel
theorem dX7_setRoom_54 : decode cX7_setRoom 54 = .ok (.getfield 205, 3) := by decide +kernel
theorem dX7_setRoom_57 : decode cX7_setRoom 57 = .ok (.ireturn, 1) := by decide +kernel
theorem dX7_entries_0 : decode cX7_entries 0 = .ok (.aload_n 0, 1) := by decide +kernel
theorem dX7_entries_1 : decode cX7_entries 1 = .ok (.getfield 27, 3) := by decide +kernel
theorem dX7_entries_4 : decode cX7_entries 4 = .ok (.getfield 205, 3) := by decide +kernel
theorem dX7_entries_7 : decode cX7_entries 7 = .ok (.ireturn, 1) := by decide +kernel
theorem dX7_isCached_0 : decode cX7_isCached 0 = .ok (.aload_n 0, 1) := by decide +kernel
theorem dX7_isCached_1 : decode cX7_isCached 1 = .ok (.iload_n 1, 1) := by decide +kernel
theorem dX7_isCached_2 : decode cX7_isCached 2 = .ok (.invokevirtual 101, 3) := by decide +kernel
theorem dX7_isCached_5 : decode cX7_isCached 5 = .ok (.astore_n 3, 1) := by decide +kernel
theorem dX7_isCached_6 : decode cX7_isCached 6 = .ok (.iload_n 2, 1) := by decide +kernel
theorem dX7_isCached_7 : decode cX7_isCached 7 = .ok (.iconst 1, 1) := by decide +kernel
theorem dX7_isCached_8 : decode cX7_isCached 8 = .ok (.invokestatic 154, 3) := by decide +kernel
theorem dX7_isCached_11 : decode cX7_isCached 11 = .ok (.aload_n 0, 1) := by decide +kernel
theorem dX7_isCached_12 : decode cX7_isCached 12 = .ok (.getfield 27, 3) := by decide +kernel
theorem dX7_isCached_15 : decode cX7_isCached 15 = .ok (.aload_n 3, 1) := by decide +kernel
theorem dX7_isCached_16 : decode cX7_isCached 16 = .ok (.getfield 112, 3) := by decide +kernel
theorem dX7_isCached_19 : decode cX7_isCached 19 = .ok (.aload_n 3, 1) := by decide +kernel
theorem dX7_isCached_20 : decode cX7_isCached 20 = .ok (.getfield 188, 3) := by decide +kernel
theorem dX7_isCached_23 : decode cX7_isCached 23 = .ok (.iload_n 2, 1) := by decide +kernel
theorem dX7_isCached_24 : decode cX7_isCached 24 = .ok (.invokevirtual 208, 3) := by decide +kernel
theorem dX7_isCached_27 : decode cX7_isCached 27 = .ok (.ifnull 7, 3) := by decide +kernel
theorem dX7_isCached_30 : decode cX7_isCached 30 = .ok (.iconst 1, 1) := by decide +kernel
theorem dX7_isCached_31 : decode cX7_isCached 31 = .ok (.goto 4, 3) := by decide +kernel
theorem dX7_isCached_34 : decode cX7_isCached 34 = .ok (.iconst 0, 1) := by decide +kernel
theorem dX7_isCached_35 : decode cX7_isCached 35 = .ok (.ireturn, 1) := by decide +kernel
theorem dX7_pin_0 : decode cX7_pin 0 = .ok (.aload_n 0, 1) := by decide +kernel
theorem dX7_pin_1 : decode cX7_pin 1 = .ok (.iload_n 1, 1) := by decide +kernel
theorem dX7_pin_2 : decode cX7_pin 2 = .ok (.invokevirtual 101, 3) := by decide +kernel
theorem dX7_pin_5 : decode cX7_pin 5 = .ok (.astore_n 3, 1) := by decide +kernel
theorem dX7_pin_6 : decode cX7_pin 6 = .ok (.iload_n 2, 1) := by decide +kernel
theorem dX7_pin_7 : decode cX7_pin 7 = .ok (.iconst 1, 1) := by decide +kernel
theorem dX7_pin_8 : decode cX7_pin 8 = .ok (.invokestatic 154, 3) := by decide +kernel
theorem dX7_pin_11 : decode cX7_pin 11 = .ok (.aload_n 3, 1) := by decide +kernel
theorem dX7_pin_12 : decode cX7_pin 12 = .ok (.getfield 108, 3) := by decide +kernel
theorem dX7_pin_15 : decode cX7_pin 15 = .ok (.ifCond .eq 13, 3) := by decide +kernel
theorem dX7_pin_18 : decode cX7_pin 18 = .ok (.new 121, 3) := by decide +kernel
theorem dX7_pin_21 : decode cX7_pin 21 = .ok (.dup, 1) := by decide +kernel
theorem dX7_pin_22 : decode cX7_pin 22 = .ok (.ldc 212, 2) := by decide +kernel
theorem dX7_pin_24 : decode cX7_pin 24 = .ok (.invokespecial 125, 3) := by decide +kernel
theorem dX7_pin_27 : decode cX7_pin 27 = .ok (.athrow, 1) := by decide +kernel
theorem dX7_pin_28 : decode cX7_pin 28 = .ok (.aload_n 0, 1) := by decide +kernel
theorem dX7_pin_29 : decode cX7_pin 29 = .ok (.getfield 27, 3) := by decide +kernel
theorem dX7_pin_32 : decode cX7_pin 32 = .ok (.aload_n 3, 1) := by decide +kernel
theorem dX7_pin_33 : decode cX7_pin 33 = .ok (.getfield 112, 3) := by decide +kernel
theorem dX7_pin_36 : decode cX7_pin 36 = .ok (.aload_n 3, 1) := by decide +kernel
theorem dX7_pin_37 : decode cX7_pin 37 = .ok (.getfield 188, 3) := by decide +kernel
theorem dX7_pin_40 : decode cX7_pin 40 = .ok (.iload_n 2, 1) := by decide +kernel
theorem dX7_pin_41 : decode cX7_pin 41 = .ok (.invokevirtual 208, 3) := by decide +kernel
theorem dX7_pin_44 : decode cX7_pin 44 = .ok (.astore 4, 2) := by decide +kernel
theorem dX7_pin_46 : decode cX7_pin 46 = .ok (.aload 4, 2) := by decide +kernel
theorem dX7_pin_48 : decode cX7_pin 48 = .ok (.ifnonnull 13, 3) := by decide +kernel
theorem dX7_pin_51 : decode cX7_pin 51 = .ok (.new 175, 3) := by decide +kernel
theorem dX7_pin_54 : decode cX7_pin 54 = .ok (.dup, 1) := by decide +kernel
theorem dX7_pin_55 : decode cX7_pin 55 = .ok (.ldc 214, 2) := by decide +kernel
theorem dX7_pin_57 : decode cX7_pin 57 = .ok (.invokespecial 179, 3) := by decide +kernel
theorem dX7_pin_60 : decode cX7_pin 60 = .ok (.athrow, 1) := by decide +kernel
theorem dX7_pin_61 : decode cX7_pin 61 = .ok (.aload 4, 2) := by decide +kernel
theorem dX7_pin_63 : decode cX7_pin 63 = .ok (.dup, 1) := by decide +kernel
theorem dX7_pin_64 : decode cX7_pin 64 = .ok (.getfield 216, 3) := by decide +kernel
theorem dX7_pin_67 : decode cX7_pin 67 = .ok (.aload_n 3, 1) := by decide +kernel
theorem dX7_pin_68 : decode cX7_pin 68 = .ok (.getfield 221, 3) := by decide +kernel
theorem dX7_pin_71 : decode cX7_pin 71 = .ok (.ior, 1) := by decide +kernel
theorem dX7_pin_72 : decode cX7_pin 72 = .ok (.putfield 216, 3) := by decide +kernel
theorem dX7_pin_75 : decode cX7_pin 75 = .ok (.aload_n 0, 1) := by decide +kernel
theorem dX7_pin_76 : decode cX7_pin 76 = .ok (.getfield 27, 3) := by decide +kernel
theorem dX7_pin_79 : decode cX7_pin 79 = .ok (.aload_n 3, 1) := by decide +kernel
theorem dX7_pin_80 : decode cX7_pin 80 = .ok (.getfield 221, 3) := by decide +kernel
theorem dX7_pin_83 : decode cX7_pin 83 = .ok (.invokevirtual 224, 3) := by decide +kernel
theorem dX7_pin_86 : decode cX7_pin 86 = .ok (.ireturn, 1) := by decide +kernel
theorem dX7_unpin_0 : decode cX7_unpin 0 = .ok (.aload_n 0, 1) := by decide +kernel
theorem dX7_unpin_1 : decode cX7_unpin 1 = .ok (.iload_n 1, 1) := by decide +kernel
theorem dX7_unpin_2 : decode cX7_unpin 2 = .ok (.invokevirtual 101, 3) := by decide +kernel
theorem dX7_unpin_5 : decode cX7_unpin 5 = .ok (.astore_n 2, 1) := by decide +kernel
theorem dX7_unpin_6 : decode cX7_unpin 6 = .ok (.aload_n 0, 1) := by decide +kernel
theorem dX7_unpin_7 : decode cX7_unpin 7 = .ok (.getfield 27, 3) := by decide +kernel
theorem dX7_unpin_10 : decode cX7_unpin 10 = .ok (.aload_n 2, 1) := by decide +kernel
theorem dX7_unpin_11 : decode cX7_unpin 11 = .ok (.getfield 221, 3) := by decide +kernel
theorem dX7_unpin_14 : decode cX7_unpin 14 = .ok (.invokevirtual 224, 3) := by decide +kernel
theorem dX7_unpin_17 : decode cX7_unpin 17 = .ok (.istore_n 3, 1) := by decide +kernel
theorem dX7_unpin_18 : decode cX7_unpin 18 = .ok (.aload_n 0, 1) := by decide +kernel
theorem dX7_unpin_19 : decode cX7_unpin 19 = .ok (.getfield 27, 3) := by decide +kernel
theorem dX7_unpin_22 : decode cX7_unpin 22 = .ok (.aload_n 2, 1) := by decide +kernel
theorem dX7_unpin_23 : decode cX7_unpin 23 = .ok (.getfield 221, 3) := by decide +kernel
theorem dX7_unpin_26 : decode cX7_unpin 26 = .ok (.invokevirtual 227, 3) := by decide +kernel
theorem dX7_unpin_29 : decode cX7_unpin 29 = .ok (.iload_n 3, 1) := by decide +kernel
theorem dX7_unpin_30 : decode cX7_unpin 30 = .ok (.ireturn, 1) := by decide +kernel
theorem dX7_pinned_0 : decode cX7_pinned 0 = .ok (.aload_n 0, 1) := by decide +kernel
theorem dX7_pinned_1 : decode cX7_pinned 1 = .ok (.getfield 27, 3) := by decide +kernel
theorem dX7_pinned_4 : decode cX7_pinned 4 = .ok (.invokevirtual 197, 3) := by decide +kernel
theorem dX7_pinned_7 : decode cX7_pinned 7 = .ok (.ireturn, 1) := by decide +kernel
theorem dX7_follows_0 : decode cX7_follows 0 = .ok (.aload_n 0, 1) := by decide +kernel
theorem dX7_follows_1 : decode cX7_follows 1 = .ok (.iload_n 1, 1) := by decide +kernel
theorem dX7_follows_2 : decode cX7_follows 2 = .ok (.invokevirtual 101, 3) := by decide +kernel
theorem dX7_follows_5 : decode cX7_follows 5 = .ok (.getfield 230, 3) := by decide +kernel
theorem dX7_follows_8 : decode cX7_follows 8 = .ok (.ireturn, 1) := by decide +kernel
theorem dX7_setLimit_0 : decode cX7_setLimit 0 = .ok (.iload_n 1, 1) := by decide +kernel
theorem dX7_setLimit_1 : decode cX7_setLimit 1 = .ok (.iconst 1, 1) := by decide +kernel
theorem dX7_setLimit_2 : decode cX7_setLimit 2 = .ok (.if_icmp .lt 9, 3) := by decide +kernel
theorem dX7_setLimit_5 : decode cX7_setLimit 5 = .ok (.iload_n 1, 1) := by decide +kernel
theorem dX7_setLimit_6 : decode cX7_setLimit 6 = .ok (.bipush 9, 2) := by decide +kernel
theorem dX7_setLimit_8 : decode cX7_setLimit 8 = .ok (.if_icmp .le 13, 3) := by decide +kernel
theorem dX7_setLimit_11 : decode cX7_setLimit 11 = .ok (.new 63, 3) := by decide +kernel
theorem dX7_setLimit_14 : decode cX7_setLimit 14 = .ok (.dup, 1) := by decide +kernel
theorem dX7_setLimit_15 : decode cX7_setLimit 15 = .ok (.ldc 233, 2) := by decide +kernel
theorem dX7_setLimit_17 : decode cX7_setLimit 17 = .ok (.invokespecial 67, 3) := by decide +kernel
theorem dX7_setLimit_20 : decode cX7_setLimit 20 = .ok (.athrow, 1) := by decide +kernel
theorem dX7_setLimit_21 : decode cX7_setLimit 21 = .ok (.aload_n 0, 1) := by decide +kernel
theorem dX7_setLimit_22 : decode cX7_setLimit 22 = .ok (.getfield 43, 3) := by decide +kernel
theorem dX7_setLimit_25 : decode cX7_setLimit 25 = .ok (.istore_n 2, 1) := by decide +kernel
theorem dX7_setLimit_26 : decode cX7_setLimit 26 = .ok (.aload_n 0, 1) := by decide +kernel
theorem dX7_setLimit_27 : decode cX7_setLimit 27 = .ok (.iload_n 1, 1) := by decide +kernel
theorem dX7_setLimit_28 : decode cX7_setLimit 28 = .ok (.putfield 43, 3) := by decide +kernel
theorem dX7_setLimit_31 : decode cX7_setLimit 31 = .ok (.iload_n 2, 1) := by decide +kernel
theorem dX7_setLimit_32 : decode cX7_setLimit 32 = .ok (.ireturn, 1) := by decide +kernel
theorem dX7_judge_0 : decode cX7_judge 0 = .ok (.aload_n 0, 1) := by decide +kernel
theorem dX7_judge_1 : decode cX7_judge 1 = .ok (.iload_n 1, 1) := by decide +kernel
theorem dX7_judge_2 : decode cX7_judge 2 = .ok (.invokevirtual 101, 3) := by decide +kernel
theorem dX7_judge_5 : decode cX7_judge 5 = .ok (.astore_n 2, 1) := by decide +kernel
theorem dX7_judge_6 : decode cX7_judge 6 = .ok (.aload_n 2, 1) := by decide +kernel
theorem dX7_judge_7 : decode cX7_judge 7 = .ok (.getfield 108, 3) := by decide +kernel
theorem dX7_judge_10 : decode cX7_judge 10 = .ok (.ifCond .eq 13, 3) := by decide +kernel
theorem dX7_judge_13 : decode cX7_judge 13 = .ok (.new 121, 3) := by decide +kernel
theorem dX7_judge_16 : decode cX7_judge 16 = .ok (.dup, 1) := by decide +kernel
theorem dX7_judge_17 : decode cX7_judge 17 = .ok (.ldc 235, 2) := by decide +kernel
theorem dX7_judge_19 : decode cX7_judge 19 = .ok (.invokespecial 125, 3) := by decide +kernel
theorem dX7_judge_22 : decode cX7_judge 22 = .ok (.athrow, 1) := by decide +kernel
theorem dX7_judge_23 : decode cX7_judge 23 = .ok (.aload_n 2, 1) := by decide +kernel
theorem dX7_judge_24 : decode cX7_judge 24 = .ok (.getfield 230, 3) := by decide +kernel
theorem dX7_judge_27 : decode cX7_judge 27 = .ok (.aload_n 0, 1) := by decide +kernel
theorem dX7_judge_28 : decode cX7_judge 28 = .ok (.getfield 43, 3) := by decide +kernel
theorem dX7_judge_31 : decode cX7_judge 31 = .ok (.if_icmp .ge 5, 3) := by decide +kernel
theorem dX7_judge_34 : decode cX7_judge 34 = .ok (.iconst (-1), 1) := by decide +kernel
theorem dX7_judge_35 : decode cX7_judge 35 = .ok (.ireturn, 1) := by decide +kernel
theorem dX7_judge_36 : decode cX7_judge 36 = .ok (.aload_n 2, 1) := by decide +kernel
theorem dX7_judge_37 : decode cX7_judge 37 = .ok (.iconst 1, 1) := by decide +kernel
theorem dX7_judge_38 : decode cX7_judge 38 = .ok (.putfield 108, 3) := by decide +kernel
theorem dX7_judge_41 : decode cX7_judge 41 = .ok (.aload_n 0, 1) := by decide +kernel
theorem dX7_judge_42 : decode cX7_judge 42 = .ok (.getfield 27, 3) := by decide +kernel
theorem dX7_judge_45 : decode cX7_judge 45 = .ok (.aload_n 2, 1) := by decide +kernel
theorem dX7_judge_46 : decode cX7_judge 46 = .ok (.getfield 221, 3) := by decide +kernel
theorem dX7_judge_49 : decode cX7_judge 49 = .ok (.invokevirtual 227, 3) := by decide +kernel
theorem dX7_judge_52 : decode cX7_judge 52 = .ok (.aload_n 2, 1) := by decide +kernel
theorem dX7_judge_53 : decode cX7_judge 53 = .ok (.getfield 168, 3) := by decide +kernel
theorem dX7_judge_56 : decode cX7_judge 56 = .ok (.dup, 1) := by decide +kernel
theorem dX7_judge_57 : decode cX7_judge 57 = .ok (.getfield 172, 3) := by decide +kernel
theorem dX7_judge_60 : decode cX7_judge 60 = .ok (.aload_n 2, 1) := by decide +kernel
theorem dX7_judge_61 : decode cX7_judge 61 = .ok (.getfield 237, 3) := by decide +kernel
theorem dX7_judge_64 : decode cX7_judge 64 = .ok (.iadd, 1) := by decide +kernel
theorem dX7_judge_65 : decode cX7_judge 65 = .ok (.putfield 172, 3) := by decide +kernel
theorem dX7_judge_68 : decode cX7_judge 68 = .ok (.aload_n 0, 1) := by decide +kernel
theorem dX7_judge_69 : decode cX7_judge 69 = .ok (.dup, 1) := by decide +kernel
theorem dX7_judge_70 : decode cX7_judge 70 = .ok (.getfield 47, 3) := by decide +kernel
theorem dX7_judge_73 : decode cX7_judge 73 = .ok (.aload_n 2, 1) := by decide +kernel
theorem dX7_judge_74 : decode cX7_judge 74 = .ok (.getfield 237, 3) := by decide +kernel
theorem dX7_judge_77 : decode cX7_judge 77 = .ok (.i2l, 1) := by decide +kernel
theorem dX7_judge_78 : decode cX7_judge 78 = .ok (.ladd, 1) := by decide +kernel
theorem dX7_judge_79 : decode cX7_judge 79 = .ok (.putfield 47, 3) := by decide +kernel
theorem dX7_judge_82 : decode cX7_judge 82 = .ok (.aload_n 2, 1) := by decide +kernel
theorem dX7_judge_83 : decode cX7_judge 83 = .ok (.getfield 237, 3) := by decide +kernel
theorem dX7_judge_86 : decode cX7_judge 86 = .ok (.ireturn, 1) := by decide +kernel
theorem dX7_isVoid_0 : decode cX7_isVoid 0 = .ok (.aload_n 0, 1) := by decide +kernel
theorem dX7_isVoid_1 : decode cX7_isVoid 1 = .ok (.iload_n 1, 1) := by decide +kernel
theorem dX7_isVoid_2 : decode cX7_isVoid 2 = .ok (.invokevirtual 101, 3) := by decide +kernel
theorem dX7_isVoid_5 : decode cX7_isVoid 5 = .ok (.getfield 108, 3) := by decide +kernel
theorem dX7_isVoid_8 : decode cX7_isVoid 8 = .ok (.ireturn, 1) := by decide +kernel
theorem dX7_traces_0 : decode cX7_traces 0 = .ok (.aload_n 0, 1) := by decide +kernel
theorem dX7_traces_1 : decode cX7_traces 1 = .ok (.getfield 19, 3) := by decide +kernel
theorem dX7_traces_4 : decode cX7_traces 4 = .ok (.invokevirtual 70, 3) := by decide +kernel
theorem dX7_traces_7 : decode cX7_traces 7 = .ok (.ireturn, 1) := by decide +kernel
theorem dX7_playerOf_0 : decode cX7_playerOf 0 = .ok (.aload_n 0, 1) := by decide +kernel
theorem dX7_playerOf_1 : decode cX7_playerOf 1 = .ok (.iload_n 1, 1) := by decide +kernel
theorem dX7_playerOf_2 : decode cX7_playerOf 2 = .ok (.invokevirtual 240, 3) := by decide +kernel
theorem dX7_playerOf_5 : decode cX7_playerOf 5 = .ok (.getfield 244, 3) := by decide +kernel
theorem dX7_playerOf_8 : decode cX7_playerOf 8 = .ok (.ireturn, 1) := by decide +kernel
theorem dX7_refunds_0 : decode cX7_refunds 0 = .ok (.aload_n 0, 1) := by decide +kernel
theorem dX7_refunds_1 : decode cX7_refunds 1 = .ok (.getfield 47, 3) := by decide +kernel
theorem dX7_refunds_4 : decode cX7_refunds 4 = .ok (.lreturn, 1) := by decide +kernel
theorem dX7_hitShare_0 : decode cX7_hitShare 0 = .ok (.aload_n 0, 1) := by decide +kernel
theorem dX7_hitShare_1 : decode cX7_hitShare 1 = .ok (.getfield 57, 3) := by decide +kernel
theorem dX7_hitShare_4 : decode cX7_hitShare 4 = .ok (.aload_n 0, 1) := by decide +kernel
theorem dX7_hitShare_5 : decode cX7_hitShare 5 = .ok (.getfield 60, 3) := by decide +kernel
theorem dX7_hitShare_8 : decode cX7_hitShare 8 = .ok (.ladd, 1) := by decide +kernel
theorem dX7_hitShare_9 : decode cX7_hitShare 9 = .ok (.lstore_n 1, 1) := by decide +kernel
theorem dX7_hitShare_10 : decode cX7_hitShare 10 = .ok (.lload_n 1, 1) := by decide +kernel
theorem dX7_hitShare_11 : decode cX7_hitShare 11 = .ok (.lconst 0, 1) := by decide +kernel
theorem dX7_hitShare_12 : decode cX7_hitShare 12 = .ok (.lcmp, 1) := by decide +kernel
theorem dX7_hitShare_13 : decode cX7_hitShare 13 = .ok (.ifCond .ne 13, 3) := by decide +kernel
theorem dX7_hitShare_16 : decode cX7_hitShare 16 = .ok (.new 250, 3) := by decide +kernel
theorem dX7_hitShare_19 : decode cX7_hitShare 19 = .ok (.dup, 1) := by decide +kernel
theorem dX7_hitShare_20 : decode cX7_hitShare 20 = .ok (.ldc 252, 2) := by decide +kernel
theorem dX7_hitShare_22 : decode cX7_hitShare 22 = .ok (.invokespecial 254, 3) := by decide +kernel
theorem dX7_hitShare_25 : decode cX7_hitShare 25 = .ok (.athrow, 1) := by decide +kernel
theorem dX7_hitShare_26 : decode cX7_hitShare 26 = .ok (.aload_n 0, 1) := by decide +kernel
theorem dX7_hitShare_27 : decode cX7_hitShare 27 = .ok (.getfield 57, 3) := by decide +kernel
theorem dX7_hitShare_30 : decode cX7_hitShare 30 = .ok (.l2f, 1) := by decide +kernel
theorem dX7_hitShare_31 : decode cX7_hitShare 31 = .ok (.lload_n 1, 1) := by decide +kernel
theorem dX7_hitShare_32 : decode cX7_hitShare 32 = .ok (.l2f, 1) := by decide +kernel
theorem dX7_hitShare_33 : decode cX7_hitShare 33 = .ok (.fdiv, 1) := by decide +kernel
theorem dX7_hitShare_34 : decode cX7_hitShare 34 = .ok (.freturn, 1) := by decide +kernel
theorem dX7_meanPrice_0 : decode cX7_meanPrice 0 = .ok (.aload_n 0, 1) := by decide +kernel
theorem dX7_meanPrice_1 : decode cX7_meanPrice 1 = .ok (.getfield 51, 3) := by decide +kernel
theorem dX7_meanPrice_4 : decode cX7_meanPrice 4 = .ok (.lconst 0, 1) := by decide +kernel
theorem dX7_meanPrice_5 : decode cX7_meanPrice 5 = .ok (.lcmp, 1) := by decide +kernel
theorem dX7_meanPrice_6 : decode cX7_meanPrice 6 = .ok (.ifCond .ne 13, 3) := by decide +kernel
theorem dX7_meanPrice_9 : decode cX7_meanPrice 9 = .ok (.new 250, 3) := by decide +kernel
theorem dX7_meanPrice_12 : decode cX7_meanPrice 12 = .ok (.dup, 1) := by decide +kernel
theorem dX7_meanPrice_13 : decode cX7_meanPrice 13 = .ok (.ldc 255, 2) := by decide +kernel
theorem dX7_meanPrice_15 : decode cX7_meanPrice 15 = .ok (.invokespecial 254, 3) := by decide +kernel
theorem dX7_meanPrice_18 : decode cX7_meanPrice 18 = .ok (.athrow, 1) := by decide +kernel
theorem dX7_meanPrice_19 : decode cX7_meanPrice 19 = .ok (.aload_n 0, 1) := by decide +kernel
theorem dX7_meanPrice_20 : decode cX7_meanPrice 20 = .ok (.getfield 54, 3) := by decide +kernel
theorem dX7_meanPrice_23 : decode cX7_meanPrice 23 = .ok (.l2d, 1) := by decide +kernel
theorem dX7_meanPrice_24 : decode cX7_meanPrice 24 = .ok (.aload_n 0, 1) := by decide +kernel
theorem dX7_meanPrice_25 : decode cX7_meanPrice 25 = .ok (.getfield 51, 3) := by decide +kernel
theorem dX7_meanPrice_28 : decode cX7_meanPrice 28 = .ok (.l2d, 1) := by decide +kernel
theorem dX7_meanPrice_29 : decode cX7_meanPrice 29 = .ok (.ddiv, 1) := by decide +kernel
theorem dX7_meanPrice_30 : decode cX7_meanPrice 30 = .ok (.dreturn, 1) := by decide +kernel
theorem dX7_isSound_0 : decode cX7_isSound 0 = .ok (.aload_n 0, 1) := by decide +kernel
theorem dX7_isSound_1 : decode cX7_isSound 1 = .ok (.invokevirtual 257, 3) := by decide +kernel
theorem dX7_isSound_4 : decode cX7_isSound 4 = .ok (.ifCond .eq 21, 3) := by decide +kernel
theorem dX7_isSound_7 : decode cX7_isSound 7 = .ok (.aload_n 0, 1) := by decide +kernel
theorem dX7_isSound_8 : decode cX7_isSound 8 = .ok (.invokevirtual 261, 3) := by decide +kernel
theorem dX7_isSound_11 : decode cX7_isSound 11 = .ok (.ifCond .eq 14, 3) := by decide +kernel
theorem dX7_isSound_14 : decode cX7_isSound 14 = .ok (.aload_n 0, 1) := by decide +kernel
theorem dX7_isSound_15 : decode cX7_isSound 15 = .ok (.invokevirtual 264, 3) := by decide +kernel
theorem dX7_isSound_18 : decode cX7_isSound 18 = .ok (.ifCond .eq 7, 3) := by decide +kernel
theorem dX7_isSound_21 : decode cX7_isSound 21 = .ok (.iconst 1, 1) := by decide +kernel
theorem dX7_isSound_22 : decode cX7_isSound 22 = .ok (.goto 4, 3) := by decide +kernel
theorem dX7_isSound_25 : decode cX7_isSound 25 = .ok (.iconst 0, 1) := by decide +kernel
theorem dX7_isSound_26 : decode cX7_isSound 26 = .ok (.ireturn, 1) := by decide +kernel
theorem dX7_findPlayer_0 : decode cX7_findPlayer 0 = .ok (.iload_n 1, 1) := by decide +kernel
theorem dX7_findPlayer_1 : decode cX7_findPlayer 1 = .ok (.ifCond .lt 14, 3) := by decide +kernel
theorem dX7_findPlayer_4 : decode cX7_findPlayer 4 = .ok (.iload_n 1, 1) := by decide +kernel
theorem dX7_findPlayer_5 : decode cX7_findPlayer 5 = .ok (.aload_n 0, 1) := by decide +kernel
theorem dX7_findPlayer_6 : decode cX7_findPlayer 6 = .ok (.getfield 10, 3) := by decide +kernel
theorem dX7_findPlayer_9 : decode cX7_findPlayer 9 = .ok (.invokevirtual 70, 3) := by decide +kernel
theorem dX7_findPlayer_12 : decode cX7_findPlayer 12 = .ok (.if_icmp .lt 14, 3) := by decide +kernel
theorem dX7_findPlayer_15 : decode cX7_findPlayer 15 = .ok (.new 267, 3) := by decide +kernel
theorem dX7_findPlayer_18 : decode cX7_findPlayer 18 = .ok (.dup, 1) := by decide +kernel
theorem dX7_findPlayer_19 : decode cX7_findPlayer 19 = .ok (.ldc_w 269, 3) := by decide +kernel
theorem dX7_findPlayer_22 : decode cX7_findPlayer 22 = .ok (.invokespecial 271, 3) := by decide +kernel
theorem dX7_findPlayer_25 : decode cX7_findPlayer 25 = .ok (.athrow, 1) := by decide +kernel
theorem dX7_findPlayer_26 : decode cX7_findPlayer 26 = .ok (.aload_n 0, 1) := by decide +kernel
theorem dX7_findPlayer_27 : decode cX7_findPlayer 27 = .ok (.getfield 10, 3) := by decide +kernel
theorem dX7_findPlayer_30 : decode cX7_findPlayer 30 = .ok (.iload_n 1, 1) := by decide +kernel
theorem dX7_findPlayer_31 : decode cX7_findPlayer 31 = .ok (.invokevirtual 272, 3) := by decide +kernel
theorem dX7_findPlayer_34 : decode cX7_findPlayer 34 = .ok (.checkcast 79, 3) := by decide +kernel
theorem dX7_findPlayer_37 : decode cX7_findPlayer 37 = .ok (.areturn, 1) := by decide +kernel
theorem dX7_findGame_0 : decode cX7_findGame 0 = .ok (.iload_n 1, 1) := by decide +kernel
theorem dX7_findGame_1 : decode cX7_findGame 1 = .ok (.ifCond .lt 14, 3) := by decide +kernel
theorem dX7_findGame_4 : decode cX7_findGame 4 = .ok (.iload_n 1, 1) := by decide +kernel
theorem dX7_findGame_5 : decode cX7_findGame 5 = .ok (.aload_n 0, 1) := by decide +kernel
theorem dX7_findGame_6 : decode cX7_findGame 6 = .ok (.getfield 16, 3) := by decide +kernel
theorem dX7_findGame_9 : decode cX7_findGame 9 = .ok (.invokevirtual 70, 3) := by decide +kernel
theorem dX7_findGame_12 : decode cX7_findGame 12 = .ok (.if_icmp .lt 14, 3) := by decide +kernel
theorem dX7_findGame_15 : decode cX7_findGame 15 = .ok (.new 267, 3) := by decide +kernel
theorem dX7_findGame_18 : decode cX7_findGame 18 = .ok (.dup, 1) := by decide +kernel
theorem dX7_findGame_19 : decode cX7_findGame 19 = .ok (.ldc_w 276, 3) := by decide +kernel
theorem dX7_findGame_22 : decode cX7_findGame 22 = .ok (.invokespecial 271, 3) := by decide +kernel
theorem dX7_findGame_25 : decode cX7_findGame 25 = .ok (.athrow, 1) := by decide +kernel
theorem dX7_findGame_26 : decode cX7_findGame 26 = .ok (.aload_n 0, 1) := by decide +kernel
theorem dX7_findGame_27 : decode cX7_findGame 27 = .ok (.getfield 16, 3) := by decide +kernel
theorem dX7_findGame_30 : decode cX7_findGame 30 = .ok (.iload_n 1, 1) := by decide +kernel
theorem dX7_findGame_31 : decode cX7_findGame 31 = .ok (.invokevirtual 272, 3) := by decide +kernel
theorem dX7_findGame_34 : decode cX7_findGame 34 = .ok (.checkcast 96, 3) := by decide +kernel
theorem dX7_findGame_37 : decode cX7_findGame 37 = .ok (.areturn, 1) := by decide +kernel
theorem dX7_findTrace_0 : decode cX7_findTrace 0 = .ok (.iload_n 1, 1) := by decide +kernel
theorem dX7_findTrace_1 : decode cX7_findTrace 1 = .ok (.ifCond .lt 14, 3) := by decide +kernel
theorem dX7_findTrace_4 : decode cX7_findTrace 4 = .ok (.iload_n 1, 1) := by decide +kernel
theorem dX7_findTrace_5 : decode cX7_findTrace 5 = .ok (.aload_n 0, 1) := by decide +kernel
theorem dX7_findTrace_6 : decode cX7_findTrace 6 = .ok (.getfield 19, 3) := by decide +kernel
theorem dX7_findTrace_9 : decode cX7_findTrace 9 = .ok (.invokevirtual 70, 3) := by decide +kernel
theorem dX7_findTrace_12 : decode cX7_findTrace 12 = .ok (.if_icmp .lt 14, 3) := by decide +kernel
theorem dX7_findTrace_15 : decode cX7_findTrace 15 = .ok (.new 267, 3) := by decide +kernel
theorem dX7_findTrace_18 : decode cX7_findTrace 18 = .ok (.dup, 1) := by decide +kernel
theorem dX7_findTrace_19 : decode cX7_findTrace 19 = .ok (.ldc_w 278, 3) := by decide +kernel
theorem dX7_findTrace_22 : decode cX7_findTrace 22 = .ok (.invokespecial 271, 3) := by decide +kernel
theorem dX7_findTrace_25 : decode cX7_findTrace 25 = .ok (.athrow, 1) := by decide +kernel
theorem dX7_findTrace_26 : decode cX7_findTrace 26 = .ok (.aload_n 0, 1) := by decide +kernel
theorem dX7_findTrace_27 : decode cX7_findTrace 27 = .ok (.getfield 19, 3) := by decide +kernel
theorem dX7_findTrace_30 : decode cX7_findTrace 30 = .ok (.iload_n 1, 1) := by decide +kernel
theorem dX7_findTrace_31 : decode cX7_findTrace 31 = .ok (.invokevirtual 272, 3) := by decide +kernel
theorem dX7_findTrace_34 : decode cX7_findTrace 34 = .ok (.checkcast 245, 3) := by decide +kernel
theorem dX7_findTrace_37 : decode cX7_findTrace 37 = .ok (.areturn, 1) := by decide +kernel
theorem dX7_checkWay_0 : decode cX7_checkWay 0 = .ok (.iload_n 0, 1) := by decide +kernel
theorem dX7_checkWay_1 : decode cX7_checkWay 1 = .ok (.ifCond .lt 8, 3) := by decide +kernel
theorem dX7_checkWay_4 : decode cX7_checkWay 4 = .ok (.iload_n 0, 1) := by decide +kernel
theorem dX7_checkWay_5 : decode cX7_checkWay 5 = .ok (.iconst 4, 1) := by decide +kernel
theorem dX7_checkWay_6 : decode cX7_checkWay 6 = .ok (.if_icmp .lt 14, 3) := by decide +kernel
theorem dX7_checkWay_9 : decode cX7_checkWay 9 = .ok (.new 63, 3) := by decide +kernel
theorem dX7_checkWay_12 : decode cX7_checkWay 12 = .ok (.dup, 1) := by decide +kernel
theorem dX7_checkWay_13 : decode cX7_checkWay 13 = .ok (.ldc_w 280, 3) := by decide +kernel
theorem dX7_checkWay_16 : decode cX7_checkWay 16 = .ok (.invokespecial 67, 3) := by decide +kernel
theorem dX7_checkWay_19 : decode cX7_checkWay 19 = .ok (.athrow, 1) := by decide +kernel
theorem dX7_checkWay_20 : decode cX7_checkWay 20 = .ok (.return_, 1) := by decide +kernel
theorem dX7_checkDepth_0 : decode cX7_checkDepth 0 = .ok (.iload_n 0, 1) := by decide +kernel
theorem dX7_checkDepth_1 : decode cX7_checkDepth 1 = .ok (.iload_n 1, 1) := by decide +kernel
theorem dX7_checkDepth_2 : decode cX7_checkDepth 2 = .ok (.if_icmp .lt 8, 3) := by decide +kernel
theorem dX7_checkDepth_5 : decode cX7_checkDepth 5 = .ok (.iload_n 0, 1) := by decide +kernel
theorem dX7_checkDepth_6 : decode cX7_checkDepth 6 = .ok (.iconst 4, 1) := by decide +kernel
theorem dX7_checkDepth_7 : decode cX7_checkDepth 7 = .ok (.if_icmp .le 14, 3) := by decide +kernel
theorem dX7_checkDepth_10 : decode cX7_checkDepth 10 = .ok (.new 63, 3) := by decide +kernel
theorem dX7_checkDepth_13 : decode cX7_checkDepth 13 = .ok (.dup, 1) := by decide +kernel
theorem dX7_checkDepth_14 : decode cX7_checkDepth 14 = .ok (.ldc_w 282, 3) := by decide +kernel
theorem dX7_checkDepth_17 : decode cX7_checkDepth 17 = .ok (.invokespecial 67, 3) := by decide +kernel
theorem dX7_checkDepth_20 : decode cX7_checkDepth 20 = .ok (.athrow, 1) := by decide +kernel
theorem dX7_checkDepth_21 : decode cX7_checkDepth 21 = .ok (.return_, 1) := by decide +kernel
theorem dX7_checkHintable_0 : decode cX7_checkHintable 0 = .ok (.aload_n 0, 1) := by decide +kernel
theorem dX7_checkHintable_1 : decode cX7_checkHintable 1 = .ok (.getfield 108, 3) := by decide +kernel
theorem dX7_checkHintable_4 : decode cX7_checkHintable 4 = .ok (.ifCond .ne 13, 3) := by decide +kernel
theorem dX7_checkHintable_7 : decode cX7_checkHintable 7 = .ok (.aload_n 0, 1) := by decide +kernel
theorem dX7_checkHintable_8 : decode cX7_checkHintable 8 = .ok (.getfield 112, 3) := by decide +kernel
theorem dX7_checkHintable_11 : decode cX7_checkHintable 11 = .ok (.invokestatic 150, 3) := by decide +kernel
theorem dX7_checkHintable_14 : decode cX7_checkHintable 14 = .ok (.ifCond .eq 14, 3) := by decide +kernel
theorem dX7_checkHintable_17 : decode cX7_checkHintable 17 = .ok (.new 121, 3) := by decide +kernel
theorem dX7_checkHintable_20 : decode cX7_checkHintable 20 = .ok (.dup, 1) := by decide +kernel
theorem dX7_checkHintable_21 : decode cX7_checkHintable 21 = .ok (.ldc_w 284, 3) := by decide +kernel
theorem dX7_checkHintable_24 : decode cX7_checkHintable 24 = .ok (.invokespecial 125, 3) := by decide +kernel
theorem dX7_checkHintable_27 : decode cX7_checkHintable 27 = .ok (.athrow, 1) := by decide +kernel
theorem dX7_checkHintable_28 : decode cX7_checkHintable 28 = .ok (.return_, 1) := by decide +kernel
theorem dX7_tryHint_0 : decode cX7_tryHint 0 = .ok (.aload_n 0, 1) := by decide +kernel
theorem dX7_tryHint_1 : decode cX7_tryHint 1 = .ok (.getfield 36, 3) := by decide +kernel
theorem dX7_tryHint_4 : decode cX7_tryHint 4 = .ok (.getfield 286, 3) := by decide +kernel
theorem dX7_tryHint_7 : decode cX7_tryHint 7 = .ok (.aload_n 0, 1) := by decide +kernel
theorem dX7_tryHint_8 : decode cX7_tryHint 8 = .ok (.getfield 27, 3) := by decide +kernel
theorem dX7_tryHint_11 : decode cX7_tryHint 11 = .ok (.invokevirtual 287, 3) := by decide +kernel
theorem dX7_tryHint_14 : decode cX7_tryHint 14 = .ok (.aload_n 0, 1) := by decide +kernel
theorem dX7_tryHint_15 : decode cX7_tryHint 15 = .ok (.getfield 36, 3) := by decide +kernel
theorem dX7_tryHint_18 : decode cX7_tryHint 18 = .ok (.invokevirtual 290, 3) := by decide +kernel
theorem dX7_tryHint_21 : decode cX7_tryHint 21 = .ok (.aload_n 0, 1) := by decide +kernel
theorem dX7_tryHint_22 : decode cX7_tryHint 22 = .ok (.getfield 36, 3) := by decide +kernel
theorem dX7_tryHint_25 : decode cX7_tryHint 25 = .ok (.aload_n 1, 1) := by decide +kernel
theorem dX7_tryHint_26 : decode cX7_tryHint 26 = .ok (.getfield 112, 3) := by decide +kernel
theorem dX7_tryHint_29 : decode cX7_tryHint 29 = .ok (.aload_n 1, 1) := by decide +kernel
theorem dX7_tryHint_30 : decode cX7_tryHint 30 = .ok (.getfield 188, 3) := by decide +kernel
theorem dX7_tryHint_33 : decode cX7_tryHint 33 = .ok (.iload_n 2, 1) := by decide +kernel
theorem dX7_tryHint_34 : decode cX7_tryHint 34 = .ok (.invokestatic 191, 3) := by decide +kernel
theorem dX7_tryHint_37 : decode cX7_tryHint 37 = .ok (.pop, 1) := by decide +kernel
theorem dX7_tryHint_38 : decode cX7_tryHint 38 = .ok (.return_, 1) := by decide +kernel
theorem dX7_sellTriedHint_0 : decode cX7_sellTriedHint 0 = .ok (.aload_n 0, 1) := by decide +kernel
theorem dX7_sellTriedHint_1 : decode cX7_sellTriedHint 1 = .ok (.getfield 36, 3) := by decide +kernel
theorem dX7_sellTriedHint_4 : decode cX7_sellTriedHint 4 = .ok (.invokevirtual 165, 3) := by decide +kernel
theorem dX7_sellTriedHint_7 : decode cX7_sellTriedHint 7 = .ok (.istore_n 2, 1) := by decide +kernel
theorem dX7_sellTriedHint_8 : decode cX7_sellTriedHint 8 = .ok (.aload_n 0, 1) := by decide +kernel
theorem dX7_sellTriedHint_9 : decode cX7_sellTriedHint 9 = .ok (.getfield 27, 3) := by decide +kernel
theorem dX7_sellTriedHint_12 : decode cX7_sellTriedHint 12 = .ok (.aload_n 0, 1) := by decide +kernel
theorem dX7_sellTriedHint_13 : decode cX7_sellTriedHint 13 = .ok (.getfield 36, 3) := by decide +kernel
theorem dX7_sellTriedHint_16 : decode cX7_sellTriedHint 16 = .ok (.getfield 286, 3) := by decide +kernel
theorem dX7_sellTriedHint_19 : decode cX7_sellTriedHint 19 = .ok (.invokevirtual 287, 3) := by decide +kernel
theorem dX7_sellTriedHint_22 : decode cX7_sellTriedHint 22 = .ok (.aload_n 1, 1) := by decide +kernel
theorem dX7_sellTriedHint_23 : decode cX7_sellTriedHint 23 = .ok (.getfield 168, 3) := by decide +kernel
theorem dX7_sellTriedHint_26 : decode cX7_sellTriedHint 26 = .ok (.dup, 1) := by decide +kernel
theorem dX7_sellTriedHint_27 : decode cX7_sellTriedHint 27 = .ok (.getfield 172, 3) := by decide +kernel
theorem dX7_sellTriedHint_30 : decode cX7_sellTriedHint 30 = .ok (.iload_n 2, 1) := by decide +kernel
theorem dX7_sellTriedHint_31 : decode cX7_sellTriedHint 31 = .ok (.isub, 1) := by decide +kernel
theorem dX7_sellTriedHint_32 : decode cX7_sellTriedHint 32 = .ok (.putfield 172, 3) := by decide +kernel
theorem dX7_sellTriedHint_35 : decode cX7_sellTriedHint 35 = .ok (.aload_n 1, 1) := by decide +kernel
theorem dX7_sellTriedHint_36 : decode cX7_sellTriedHint 36 = .ok (.dup, 1) := by decide +kernel
theorem dX7_sellTriedHint_37 : decode cX7_sellTriedHint 37 = .ok (.getfield 237, 3) := by decide +kernel
theorem dX7_sellTriedHint_40 : decode cX7_sellTriedHint 40 = .ok (.iload_n 2, 1) := by decide +kernel
theorem dX7_sellTriedHint_41 : decode cX7_sellTriedHint 41 = .ok (.iadd, 1) := by decide +kernel
theorem dX7_sellTriedHint_42 : decode cX7_sellTriedHint 42 = .ok (.putfield 237, 3) := by decide +kernel
theorem dX7_sellTriedHint_45 : decode cX7_sellTriedHint 45 = .ok (.aload_n 0, 1) := by decide +kernel
theorem dX7_sellTriedHint_46 : decode cX7_sellTriedHint 46 = .ok (.getfield 19, 3) := by decide +kernel
theorem dX7_sellTriedHint_49 : decode cX7_sellTriedHint 49 = .ok (.new 245, 3) := by decide +kernel
theorem dX7_sellTriedHint_52 : decode cX7_sellTriedHint 52 = .ok (.dup, 1) := by decide +kernel
theorem dX7_sellTriedHint_53 : decode cX7_sellTriedHint 53 = .ok (.aload_n 1, 1) := by decide +kernel
theorem dX7_sellTriedHint_54 : decode cX7_sellTriedHint 54 = .ok (.aload_n 0, 1) := by decide +kernel
theorem dX7_sellTriedHint_55 : decode cX7_sellTriedHint 55 = .ok (.getfield 36, 3) := by decide +kernel
theorem dX7_sellTriedHint_58 : decode cX7_sellTriedHint 58 = .ok (.getfield 185, 3) := by decide +kernel
theorem dX7_sellTriedHint_61 : decode cX7_sellTriedHint 61 = .ok (.invokespecial 293, 3) := by decide +kernel
theorem dX7_sellTriedHint_64 : decode cX7_sellTriedHint 64 = .ok (.invokevirtual 84, 3) := by decide +kernel
theorem dX7_sellTriedHint_67 : decode cX7_sellTriedHint 67 = .ok (.pop, 1) := by decide +kernel
theorem dX7_sellTriedHint_68 : decode cX7_sellTriedHint 68 = .ok (.aload_n 0, 1) := by decide +kernel
theorem dX7_sellTriedHint_69 : decode cX7_sellTriedHint 69 = .ok (.dup, 1) := by decide +kernel
theorem dX7_sellTriedHint_70 : decode cX7_sellTriedHint 70 = .ok (.getfield 51, 3) := by decide +kernel
theorem dX7_sellTriedHint_73 : decode cX7_sellTriedHint 73 = .ok (.lconst 1, 1) := by decide +kernel
theorem dX7_sellTriedHint_74 : decode cX7_sellTriedHint 74 = .ok (.ladd, 1) := by decide +kernel
theorem dX7_sellTriedHint_75 : decode cX7_sellTriedHint 75 = .ok (.putfield 51, 3) := by decide +kernel
theorem dX7_sellTriedHint_78 : decode cX7_sellTriedHint 78 = .ok (.aload_n 0, 1) := by decide +kernel
theorem dX7_sellTriedHint_79 : decode cX7_sellTriedHint 79 = .ok (.dup, 1) := by decide +kernel
theorem dX7_sellTriedHint_80 : decode cX7_sellTriedHint 80 = .ok (.getfield 54, 3) := by decide +kernel
theorem dX7_sellTriedHint_83 : decode cX7_sellTriedHint 83 = .ok (.iload_n 2, 1) := by decide +kernel
theorem dX7_sellTriedHint_84 : decode cX7_sellTriedHint 84 = .ok (.i2l, 1) := by decide +kernel
theorem dX7_sellTriedHint_85 : decode cX7_sellTriedHint 85 = .ok (.ladd, 1) := by decide +kernel
theorem dX7_sellTriedHint_86 : decode cX7_sellTriedHint 86 = .ok (.putfield 54, 3) := by decide +kernel
theorem dX7_sellTriedHint_89 : decode cX7_sellTriedHint 89 = .ok (.aload_n 0, 1) := by decide +kernel
theorem dX7_sellTriedHint_90 : decode cX7_sellTriedHint 90 = .ok (.dup, 1) := by decide +kernel
theorem dX7_sellTriedHint_91 : decode cX7_sellTriedHint 91 = .ok (.getfield 57, 3) := by decide +kernel
theorem dX7_sellTriedHint_94 : decode cX7_sellTriedHint 94 = .ok (.aload_n 0, 1) := by decide +kernel
theorem dX7_sellTriedHint_95 : decode cX7_sellTriedHint 95 = .ok (.getfield 36, 3) := by decide +kernel
theorem dX7_sellTriedHint_98 : decode cX7_sellTriedHint 98 = .ok (.getfield 295, 3) := by decide +kernel
theorem dX7_sellTriedHint_101 : decode cX7_sellTriedHint 101 = .ok (.i2l, 1) := by decide +kernel
theorem dX7_sellTriedHint_102 : decode cX7_sellTriedHint 102 = .ok (.ladd, 1) := by decide +kernel
theorem dX7_sellTriedHint_103 : decode cX7_sellTriedHint 103 = .ok (.putfield 57, 3) := by decide +kernel
theorem dX7_sellTriedHint_106 : decode cX7_sellTriedHint 106 = .ok (.aload_n 0, 1) := by decide +kernel
theorem dX7_sellTriedHint_107 : decode cX7_sellTriedHint 107 = .ok (.dup, 1) := by decide +kernel
theorem dX7_sellTriedHint_108 : decode cX7_sellTriedHint 108 = .ok (.getfield 60, 3) := by decide +kernel
theorem dX7_sellTriedHint_111 : decode cX7_sellTriedHint 111 = .ok (.aload_n 0, 1) := by decide +kernel
theorem dX7_sellTriedHint_112 : decode cX7_sellTriedHint 112 = .ok (.getfield 36, 3) := by decide +kernel
theorem dX7_sellTriedHint_115 : decode cX7_sellTriedHint 115 = .ok (.getfield 298, 3) := by decide +kernel
theorem dX7_sellTriedHint_118 : decode cX7_sellTriedHint 118 = .ok (.i2l, 1) := by decide +kernel
theorem dX7_sellTriedHint_119 : decode cX7_sellTriedHint 119 = .ok (.ladd, 1) := by decide +kernel
theorem dX7_sellTriedHint_120 : decode cX7_sellTriedHint 120 = .ok (.putfield 60, 3) := by decide +kernel
theorem dX7_sellTriedHint_123 : decode cX7_sellTriedHint 123 = .ok (.return_, 1) := by decide +kernel
theorem dX7_look_0 : decode cX7_look 0 = .ok (.iload 4, 2) := by decide +kernel
theorem dX7_look_2 : decode cX7_look 2 = .ok (.ifCond .gt 5, 3) := by decide +kernel
theorem dX7_look_5 : decode cX7_look 5 = .ok (.iconst 0, 1) := by decide +kernel
theorem dX7_look_6 : decode cX7_look 6 = .ok (.ireturn, 1) := by decide +kernel
theorem dX7_look_7 : decode cX7_look 7 = .ok (.aload_n 0, 1) := by decide +kernel
theorem dX7_look_8 : decode cX7_look 8 = .ok (.getfield 286, 3) := by decide +kernel
theorem dX7_look_11 : decode cX7_look 11 = .ok (.lload_n 1, 1) := by decide +kernel
theorem dX7_look_12 : decode cX7_look 12 = .ok (.iload_n 3, 1) := by decide +kernel
theorem dX7_look_13 : decode cX7_look 13 = .ok (.iload 4, 2) := by decide +kernel
theorem dX7_look_15 : decode cX7_look 15 = .ok (.invokevirtual 208, 3) := by decide +kernel
theorem dX7_look_18 : decode cX7_look 18 = .ok (.astore 5, 2) := by decide +kernel
theorem dX7_look_20 : decode cX7_look 20 = .ok (.aload 5, 2) := by decide +kernel
theorem dX7_look_22 : decode cX7_look 22 = .ok (.ifnull 37, 3) := by decide +kernel
theorem dX7_look_25 : decode cX7_look 25 = .ok (.aload_n 0, 1) := by decide +kernel
theorem dX7_look_26 : decode cX7_look 26 = .ok (.getfield 286, 3) := by decide +kernel
theorem dX7_look_29 : decode cX7_look 29 = .ok (.aload 5, 2) := by decide +kernel
theorem dX7_look_31 : decode cX7_look 31 = .ok (.invokevirtual 301, 3) := by decide +kernel
theorem dX7_look_34 : decode cX7_look 34 = .ok (.aload_n 0, 1) := by decide +kernel
theorem dX7_look_35 : decode cX7_look 35 = .ok (.dup, 1) := by decide +kernel
theorem dX7_look_36 : decode cX7_look 36 = .ok (.getfield 295, 3) := by decide +kernel
theorem dX7_look_39 : decode cX7_look 39 = .ok (.iconst 1, 1) := by decide +kernel
theorem dX7_look_40 : decode cX7_look 40 = .ok (.iadd, 1) := by decide +kernel
theorem dX7_look_41 : decode cX7_look 41 = .ok (.putfield 295, 3) := by decide +kernel
theorem dX7_look_44 : decode cX7_look 44 = .ok (.aload_n 0, 1) := by decide +kernel
theorem dX7_look_45 : decode cX7_look 45 = .ok (.aload 5, 2) := by decide +kernel
theorem dX7_look_47 : decode cX7_look 47 = .ok (.getfield 305, 3) := by decide +kernel
theorem dX7_look_50 : decode cX7_look 50 = .ok (.putfield 185, 3) := by decide +kernel
theorem dX7_look_53 : decode cX7_look 53 = .ok (.aload 5, 2) := by decide +kernel
theorem dX7_look_55 : decode cX7_look 55 = .ok (.getfield 306, 3) := by decide +kernel
theorem dX7_look_58 : decode cX7_look 58 = .ok (.ireturn, 1) := by decide +kernel
theorem dX7_look_59 : decode cX7_look 59 = .ok (.aload_n 0, 1) := by decide +kernel
theorem dX7_look_60 : decode cX7_look 60 = .ok (.dup, 1) := by decide +kernel
theorem dX7_look_61 : decode cX7_look 61 = .ok (.getfield 298, 3) := by decide +kernel
theorem dX7_look_64 : decode cX7_look 64 = .ok (.iconst 1, 1) := by decide +kernel
theorem dX7_look_65 : decode cX7_look 65 = .ok (.iadd, 1) := by decide +kernel
theorem dX7_look_66 : decode cX7_look 66 = .ok (.putfield 298, 3) := by decide +kernel
theorem dX7_look_69 : decode cX7_look 69 = .ok (.iconst 0, 1) := by decide +kernel
theorem dX7_look_70 : decode cX7_look 70 = .ok (.istore 6, 2) := by decide +kernel
theorem dX7_look_72 : decode cX7_look 72 = .ok (.iconst (-1), 1) := by decide +kernel
theorem dX7_look_73 : decode cX7_look 73 = .ok (.istore 7, 2) := by decide +kernel
theorem dX7_look_75 : decode cX7_look 75 = .ok (.iconst 0, 1) := by decide +kernel
theorem dX7_look_76 : decode cX7_look 76 = .ok (.istore 8, 2) := by decide +kernel
theorem dX7_look_78 : decode cX7_look 78 = .ok (.iload 8, 2) := by decide +kernel
theorem dX7_look_80 : decode cX7_look 80 = .ok (.iconst 4, 1) := by decide +kernel
theorem dX7_look_81 : decode cX7_look 81 = .ok (.if_icmp .ge 86, 3) := by decide +kernel
theorem dX7_look_84 : decode cX7_look 84 = .ok (.lload_n 1, 1) := by decide +kernel
theorem dX7_look_85 : decode cX7_look 85 = .ok (.iload 8, 2) := by decide +kernel
theorem dX7_look_87 : decode cX7_look 87 = .ok (.invokestatic 309, 3) := by decide +kernel
theorem dX7_look_90 : decode cX7_look 90 = .ok (.lstore 9, 2) := by decide +kernel
theorem dX7_look_92 : decode cX7_look 92 = .ok (.lload 9, 2) := by decide +kernel
theorem dX7_look_94 : decode cX7_look 94 = .ok (.lload_n 1, 1) := by decide +kernel
theorem dX7_look_95 : decode cX7_look 95 = .ok (.lcmp, 1) := by decide +kernel
theorem dX7_look_96 : decode cX7_look 96 = .ok (.ifCond .eq 65, 3) := by decide +kernel
theorem dX7_look_99 : decode cX7_look 99 = .ok (.iload 4, 2) := by decide +kernel
theorem dX7_look_101 : decode cX7_look 101 = .ok (.iconst 1, 1) := by decide +kernel
theorem dX7_look_102 : decode cX7_look 102 = .ok (.if_icmp .ne 7, 3) := by decide +kernel
theorem dX7_look_105 : decode cX7_look 105 = .ok (.iconst 0, 1) := by decide +kernel
theorem dX7_look_106 : decode cX7_look 106 = .ok (.goto 21, 3) := by decide +kernel
theorem dX7_look_109 : decode cX7_look 109 = .ok (.aload_n 0, 1) := by decide +kernel
theorem dX7_look_110 : decode cX7_look 110 = .ok (.lload 9, 2) := by decide +kernel
theorem dX7_look_112 : decode cX7_look 112 = .ok (.iload_n 3, 1) := by decide +kernel
theorem dX7_look_113 : decode cX7_look 113 = .ok (.invokestatic 313, 3) := by decide +kernel
theorem dX7_look_116 : decode cX7_look 116 = .ok (.iload_n 3, 1) := by decide +kernel
theorem dX7_look_117 : decode cX7_look 117 = .ok (.invokestatic 316, 3) := by decide +kernel
theorem dX7_look_120 : decode cX7_look 120 = .ok (.iload 4, 2) := by decide +kernel
theorem dX7_look_122 : decode cX7_look 122 = .ok (.iconst 1, 1) := by decide +kernel
theorem dX7_look_123 : decode cX7_look 123 = .ok (.isub, 1) := by decide +kernel
theorem dX7_look_124 : decode cX7_look 124 = .ok (.invokestatic 191, 3) := by decide +kernel
theorem dX7_look_127 : decode cX7_look 127 = .ok (.istore 11, 2) := by decide +kernel
theorem dX7_look_129 : decode cX7_look 129 = .ok (.lload_n 1, 1) := by decide +kernel
theorem dX7_look_130 : decode cX7_look 130 = .ok (.iload 8, 2) := by decide +kernel
theorem dX7_look_132 : decode cX7_look 132 = .ok (.invokestatic 319, 3) := by decide +kernel
theorem dX7_look_135 : decode cX7_look 135 = .ok (.iload 11, 2) := by decide +kernel
theorem dX7_look_137 : decode cX7_look 137 = .ok (.iadd, 1) := by decide +kernel
theorem dX7_look_138 : decode cX7_look 138 = .ok (.istore 12, 2) := by decide +kernel
theorem dX7_look_140 : decode cX7_look 140 = .ok (.iload 7, 2) := by decide +kernel
theorem dX7_look_142 : decode cX7_look 142 = .ok (.iconst (-1), 1) := by decide +kernel
theorem dX7_look_143 : decode cX7_look 143 = .ok (.if_icmp .eq 10, 3) := by decide +kernel
theorem dX7_look_146 : decode cX7_look 146 = .ok (.iload 12, 2) := by decide +kernel
theorem dX7_look_148 : decode cX7_look 148 = .ok (.iload 6, 2) := by decide +kernel
theorem dX7_look_150 : decode cX7_look 150 = .ok (.if_icmp .le 11, 3) := by decide +kernel
theorem dX7_look_153 : decode cX7_look 153 = .ok (.iload 12, 2) := by decide +kernel
theorem dX7_look_155 : decode cX7_look 155 = .ok (.istore 6, 2) := by decide +kernel
theorem dX7_look_157 : decode cX7_look 157 = .ok (.iload 8, 2) := by decide +kernel
theorem dX7_look_159 : decode cX7_look 159 = .ok (.istore 7, 2) := by decide +kernel
theorem dX7_look_161 : decode cX7_look 161 = .ok (.iinc 8 1, 3) := by decide +kernel
theorem dX7_look_164 : decode cX7_look 164 = .ok (.goto (-86), 3) := by decide +kernel
theorem dX7_look_167 : decode cX7_look 167 = .ok (.aload_n 0, 1) := by decide +kernel
theorem dX7_look_168 : decode cX7_look 168 = .ok (.getfield 286, 3) := by decide +kernel
theorem dX7_look_171 : decode cX7_look 171 = .ok (.lload_n 1, 1) := by decide +kernel
theorem dX7_look_172 : decode cX7_look 172 = .ok (.iload_n 3, 1) := by decide +kernel
theorem dX7_look_173 : decode cX7_look 173 = .ok (.iload 4, 2) := by decide +kernel
theorem dX7_look_175 : decode cX7_look 175 = .ok (.iload 6, 2) := by decide +kernel
theorem dX7_look_177 : decode cX7_look 177 = .ok (.iload 7, 2) := by decide +kernel
theorem dX7_look_179 : decode cX7_look 179 = .ok (.invokevirtual 322, 3) := by decide +kernel
theorem dX7_look_182 : decode cX7_look 182 = .ok (.aload_n 0, 1) := by decide +kernel
theorem dX7_look_183 : decode cX7_look 183 = .ok (.iload 7, 2) := by decide +kernel
theorem dX7_look_185 : decode cX7_look 185 = .ok (.putfield 185, 3) := by decide +kernel
theorem dX7_look_188 : decode cX7_look 188 = .ok (.iload 6, 2) := by decide +kernel
theorem dX7_look_190 : decode cX7_look 190 = .ok (.ireturn, 1) := by decide +kernel
theorem dX7_isFollowing_0 : decode cX7_isFollowing 0 = .ok (.iconst 0, 1) := by decide +kernel
theorem dX7_isFollowing_1 : decode cX7_isFollowing 1 = .ok (.istore_n 3, 1) := by decide +kernel
theorem dX7_isFollowing_2 : decode cX7_isFollowing 2 = .ok (.iconst 0, 1) := by decide +kernel
theorem dX7_isFollowing_3 : decode cX7_isFollowing 3 = .ok (.istore 4, 2) := by decide +kernel
theorem dX7_isFollowing_5 : decode cX7_isFollowing 5 = .ok (.iload 4, 2) := by decide +kernel
theorem dX7_isFollowing_7 : decode cX7_isFollowing 7 = .ok (.aload_n 0, 1) := by decide +kernel
theorem dX7_isFollowing_8 : decode cX7_isFollowing 8 = .ok (.getfield 19, 3) := by decide +kernel
theorem dX7_isFollowing_11 : decode cX7_isFollowing 11 = .ok (.invokevirtual 70, 3) := by decide +kernel
theorem dX7_isFollowing_14 : decode cX7_isFollowing 14 = .ok (.if_icmp .ge 84, 3) := by decide +kernel
theorem dX7_isFollowing_17 : decode cX7_isFollowing 17 = .ok (.aload_n 0, 1) := by decide +kernel
theorem dX7_isFollowing_18 : decode cX7_isFollowing 18 = .ok (.getfield 19, 3) := by decide +kernel
theorem dX7_isFollowing_21 : decode cX7_isFollowing 21 = .ok (.iload 4, 2) := by decide +kernel
theorem dX7_isFollowing_23 : decode cX7_isFollowing 23 = .ok (.invokevirtual 272, 3) := by decide +kernel
theorem dX7_isFollowing_26 : decode cX7_isFollowing 26 = .ok (.checkcast 245, 3) := by decide +kernel
theorem dX7_isFollowing_29 : decode cX7_isFollowing 29 = .ok (.astore 5, 2) := by decide +kernel
theorem dX7_isFollowing_31 : decode cX7_isFollowing 31 = .ok (.aload 5, 2) := by decide +kernel
theorem dX7_isFollowing_33 : decode cX7_isFollowing 33 = .ok (.getfield 326, 3) := by decide +kernel
theorem dX7_isFollowing_36 : decode cX7_isFollowing 36 = .ok (.aload_n 1, 1) := by decide +kernel
theorem dX7_isFollowing_37 : decode cX7_isFollowing 37 = .ok (.getfield 112, 3) := by decide +kernel
theorem dX7_isFollowing_40 : decode cX7_isFollowing 40 = .ok (.lcmp, 1) := by decide +kernel
theorem dX7_isFollowing_41 : decode cX7_isFollowing 41 = .ok (.ifCond .ne 51, 3) := by decide +kernel
theorem dX7_isFollowing_44 : decode cX7_isFollowing 44 = .ok (.aload 5, 2) := by decide +kernel
theorem dX7_isFollowing_46 : decode cX7_isFollowing 46 = .ok (.getfield 327, 3) := by decide +kernel
theorem dX7_isFollowing_49 : decode cX7_isFollowing 49 = .ok (.aload_n 1, 1) := by decide +kernel
theorem dX7_isFollowing_50 : decode cX7_isFollowing 50 = .ok (.getfield 188, 3) := by decide +kernel
theorem dX7_isFollowing_53 : decode cX7_isFollowing 53 = .ok (.if_icmp .ne 39, 3) := by decide +kernel
theorem dX7_isFollowing_56 : decode cX7_isFollowing 56 = .ok (.aload 5, 2) := by decide +kernel
theorem dX7_isFollowing_58 : decode cX7_isFollowing 58 = .ok (.getfield 244, 3) := by decide +kernel
theorem dX7_isFollowing_61 : decode cX7_isFollowing 61 = .ok (.aload_n 1, 1) := by decide +kernel
theorem dX7_isFollowing_62 : decode cX7_isFollowing 62 = .ok (.getfield 168, 3) := by decide +kernel
theorem dX7_isFollowing_65 : decode cX7_isFollowing 65 = .ok (.getfield 328, 3) := by decide +kernel
theorem dX7_isFollowing_68 : decode cX7_isFollowing 68 = .ok (.if_icmp .ne 5, 3) := by decide +kernel
theorem dX7_isFollowing_71 : decode cX7_isFollowing 71 = .ok (.iconst 0, 1) := by decide +kernel
theorem dX7_isFollowing_72 : decode cX7_isFollowing 72 = .ok (.ireturn, 1) := by decide +kernel
theorem dX7_isFollowing_73 : decode cX7_isFollowing 73 = .ok (.iload_n 3, 1) := by decide +kernel
theorem dX7_isFollowing_74 : decode cX7_isFollowing 74 = .ok (.ifCond .ne 12, 3) := by decide +kernel
theorem dX7_isFollowing_77 : decode cX7_isFollowing 77 = .ok (.aload 5, 2) := by decide +kernel
theorem dX7_isFollowing_79 : decode cX7_isFollowing 79 = .ok (.getfield 249, 3) := by decide +kernel
theorem dX7_isFollowing_82 : decode cX7_isFollowing 82 = .ok (.iload_n 2, 1) := by decide +kernel
theorem dX7_isFollowing_83 : decode cX7_isFollowing 83 = .ok (.if_icmp .ne 7, 3) := by decide +kernel
theorem dX7_isFollowing_86 : decode cX7_isFollowing 86 = .ok (.iconst 1, 1) := by decide +kernel
theorem dX7_isFollowing_87 : decode cX7_isFollowing 87 = .ok (.goto 4, 3) := by decide +kernel
theorem dX7_isFollowing_90 : decode cX7_isFollowing 90 = .ok (.iconst 0, 1) := by decide +kernel
theorem dX7_isFollowing_91 : decode cX7_isFollowing 91 = .ok (.istore_n 3, 1) := by decide +kernel
theorem dX7_isFollowing_92 : decode cX7_isFollowing 92 = .ok (.iinc 4 1, 3) := by decide +kernel
theorem dX7_isFollowing_95 : decode cX7_isFollowing 95 = .ok (.goto (-90), 3) := by decide +kernel
theorem dX7_isFollowing_98 : decode cX7_isFollowing 98 = .ok (.iload_n 3, 1) := by decide +kernel
theorem dX7_isFollowing_99 : decode cX7_isFollowing 99 = .ok (.ireturn, 1) := by decide +kernel
theorem dX7_areEntriesRight_0 : decode cX7_areEntriesRight 0 = .ok (.aload_n 0, 1) := by decide +kernel
theorem dX7_areEntriesRight_1 : decode cX7_areEntriesRight 1 = .ok (.getfield 27, 3) := by decide +kernel
theorem dX7_areEntriesRight_4 : decode cX7_areEntriesRight 4 = .ok (.getfield 331, 3) := by decide +kernel
theorem dX7_areEntriesRight_7 : decode cX7_areEntriesRight 7 = .ok (.astore_n 1, 1) := by decide +kernel
theorem dX7_areEntriesRight_8 : decode cX7_areEntriesRight 8 = .ok (.aload_n 1, 1) := by decide +kernel
theorem dX7_areEntriesRight_9 : decode cX7_areEntriesRight 9 = .ok (.arraylength, 1) := by decide +kernel
theorem dX7_areEntriesRight_10 : decode cX7_areEntriesRight 10 = .ok (.istore_n 2, 1) := by decide +kernel
theorem dX7_areEntriesRight_11 : decode cX7_areEntriesRight 11 = .ok (.iconst 0, 1) := by decide +kernel
theorem dX7_areEntriesRight_12 : decode cX7_areEntriesRight 12 = .ok (.istore_n 3, 1) := by decide +kernel
theorem dX7_areEntriesRight_13 : decode cX7_areEntriesRight 13 = .ok (.iload_n 3, 1) := by decide +kernel
theorem dX7_areEntriesRight_14 : decode cX7_areEntriesRight 14 = .ok (.iload_n 2, 1) := by decide +kernel
theorem dX7_areEntriesRight_15 : decode cX7_areEntriesRight 15 = .ok (.if_icmp .ge 53, 3) := by decide +kernel
theorem dX7_areEntriesRight_18 : decode cX7_areEntriesRight 18 = .ok (.aload_n 1, 1) := by decide +kernel
theorem dX7_areEntriesRight_19 : decode cX7_areEntriesRight 19 = .ok (.iload_n 3, 1) := by decide +kernel
theorem dX7_areEntriesRight_20 : decode cX7_areEntriesRight 20 = .ok (.aaload, 1) := by decide +kernel
theorem dX7_areEntriesRight_21 : decode cX7_areEntriesRight 21 = .ok (.astore 4, 2) := by decide +kernel
theorem dX7_areEntriesRight_23 : decode cX7_areEntriesRight 23 = .ok (.aload 4, 2) := by decide +kernel
theorem dX7_areEntriesRight_25 : decode cX7_areEntriesRight 25 = .ok (.invokevirtual 335, 3) := by decide +kernel
theorem dX7_areEntriesRight_28 : decode cX7_areEntriesRight 28 = .ok (.ifCond .eq 19, 3) := by decide +kernel
theorem dX7_areEntriesRight_31 : decode cX7_areEntriesRight 31 = .ok (.aload 4, 2) := by decide +kernel
theorem dX7_areEntriesRight_33 : decode cX7_areEntriesRight 33 = .ok (.getfield 216, 3) := by decide +kernel
theorem dX7_areEntriesRight_36 : decode cX7_areEntriesRight 36 = .ok (.ifCond .ne 7, 3) := by decide +kernel
theorem dX7_areEntriesRight_39 : decode cX7_areEntriesRight 39 = .ok (.iconst 1, 1) := by decide +kernel
theorem dX7_areEntriesRight_40 : decode cX7_areEntriesRight 40 = .ok (.goto 13, 3) := by decide +kernel
theorem dX7_areEntriesRight_43 : decode cX7_areEntriesRight 43 = .ok (.iconst 0, 1) := by decide +kernel
theorem dX7_areEntriesRight_44 : decode cX7_areEntriesRight 44 = .ok (.goto 9, 3) := by decide +kernel
theorem dX7_areEntriesRight_47 : decode cX7_areEntriesRight 47 = .ok (.aload_n 0, 1) := by decide +kernel
theorem dX7_areEntriesRight_48 : decode cX7_areEntriesRight 48 = .ok (.aload 4, 2) := by decide +kernel
theorem dX7_areEntriesRight_50 : decode cX7_areEntriesRight 50 = .ok (.invokevirtual 338, 3) := by decide +kernel
theorem dX7_areEntriesRight_53 : decode cX7_areEntriesRight 53 = .ok (.istore 5, 2) := by decide +kernel
theorem dX7_areEntriesRight_55 : decode cX7_areEntriesRight 55 = .ok (.iload 5, 2) := by decide +kernel
theorem dX7_areEntriesRight_57 : decode cX7_areEntriesRight 57 = .ok (.ifCond .ne 5, 3) := by decide +kernel
theorem dX7_areEntriesRight_60 : decode cX7_areEntriesRight 60 = .ok (.iconst 0, 1) := by decide +kernel
theorem dX7_areEntriesRight_61 : decode cX7_areEntriesRight 61 = .ok (.ireturn, 1) := by decide +kernel
theorem dX7_areEntriesRight_62 : decode cX7_areEntriesRight 62 = .ok (.iinc 3 1, 3) := by decide +kernel
theorem dX7_areEntriesRight_65 : decode cX7_areEntriesRight 65 = .ok (.goto (-52), 3) := by decide +kernel
theorem dX7_areEntriesRight_68 : decode cX7_areEntriesRight 68 = .ok (.iconst 1, 1) := by decide +kernel
theorem dX7_areEntriesRight_69 : decode cX7_areEntriesRight 69 = .ok (.ireturn, 1) := by decide +kernel
theorem dX7_isFoundPlainly_0 : decode cX7_isFoundPlainly 0 = .ok (.aload_n 0, 1) := by decide +kernel
theorem dX7_isFoundPlainly_1 : decode cX7_isFoundPlainly 1 = .ok (.getfield 40, 3) := by decide +kernel
theorem dX7_isFoundPlainly_4 : decode cX7_isFoundPlainly 4 = .ok (.aload_n 1, 1) := by decide +kernel
theorem dX7_isFoundPlainly_5 : decode cX7_isFoundPlainly 5 = .ok (.getfield 342, 3) := by decide +kernel
theorem dX7_isFoundPlainly_8 : decode cX7_isFoundPlainly 8 = .ok (.aload_n 1, 1) := by decide +kernel
theorem dX7_isFoundPlainly_9 : decode cX7_isFoundPlainly 9 = .ok (.getfield 343, 3) := by decide +kernel
theorem dX7_isFoundPlainly_12 : decode cX7_isFoundPlainly 12 = .ok (.aload_n 1, 1) := by decide +kernel
theorem dX7_isFoundPlainly_13 : decode cX7_isFoundPlainly 13 = .ok (.getfield 344, 3) := by decide +kernel
theorem dX7_isFoundPlainly_16 : decode cX7_isFoundPlainly 16 = .ok (.invokestatic 191, 3) := by decide +kernel
theorem dX7_isFoundPlainly_19 : decode cX7_isFoundPlainly 19 = .ok (.istore_n 2, 1) := by decide +kernel
theorem dX7_isFoundPlainly_20 : decode cX7_isFoundPlainly 20 = .ok (.aload_n 1, 1) := by decide +kernel
theorem dX7_isFoundPlainly_21 : decode cX7_isFoundPlainly 21 = .ok (.getfield 306, 3) := by decide +kernel
theorem dX7_isFoundPlainly_24 : decode cX7_isFoundPlainly 24 = .ok (.iload_n 2, 1) := by decide +kernel
theorem dX7_isFoundPlainly_25 : decode cX7_isFoundPlainly 25 = .ok (.if_icmp .ne 21, 3) := by decide +kernel
theorem dX7_isFoundPlainly_28 : decode cX7_isFoundPlainly 28 = .ok (.aload_n 1, 1) := by decide +kernel
theorem dX7_isFoundPlainly_29 : decode cX7_isFoundPlainly 29 = .ok (.getfield 305, 3) := by decide +kernel
theorem dX7_isFoundPlainly_32 : decode cX7_isFoundPlainly 32 = .ok (.aload_n 0, 1) := by decide +kernel
theorem dX7_isFoundPlainly_33 : decode cX7_isFoundPlainly 33 = .ok (.getfield 40, 3) := by decide +kernel
theorem dX7_isFoundPlainly_36 : decode cX7_isFoundPlainly 36 = .ok (.getfield 185, 3) := by decide +kernel
theorem dX7_isFoundPlainly_39 : decode cX7_isFoundPlainly 39 = .ok (.if_icmp .ne 7, 3) := by decide +kernel
theorem dX7_isFoundPlainly_42 : decode cX7_isFoundPlainly 42 = .ok (.iconst 1, 1) := by decide +kernel
theorem dX7_isFoundPlainly_43 : decode cX7_isFoundPlainly 43 = .ok (.goto 4, 3) := by decide +kernel
theorem dX7_isFoundPlainly_46 : decode cX7_isFoundPlainly 46 = .ok (.iconst 0, 1) := by decide +kernel
theorem dX7_isFoundPlainly_47 : decode cX7_isFoundPlainly 47 = .ok (.ireturn, 1) := by decide +kernel
theorem dX7_areRefundsRight_0 : decode cX7_areRefundsRight 0 = .ok (.lconst 0, 1) := by decide +kernel
theorem dX7_areRefundsRight_1 : decode cX7_areRefundsRight 1 = .ok (.lstore_n 1, 1) := by decide +kernel
theorem dX7_areRefundsRight_2 : decode cX7_areRefundsRight 2 = .ok (.iconst 0, 1) := by decide +kernel
theorem dX7_areRefundsRight_3 : decode cX7_areRefundsRight 3 = .ok (.istore_n 3, 1) := by decide +kernel
theorem dX7_areRefundsRight_4 : decode cX7_areRefundsRight 4 = .ok (.iload_n 3, 1) := by decide +kernel
theorem dX7_areRefundsRight_5 : decode cX7_areRefundsRight 5 = .ok (.aload_n 0, 1) := by decide +kernel
theorem dX7_areRefundsRight_6 : decode cX7_areRefundsRight 6 = .ok (.getfield 16, 3) := by decide +kernel
theorem dX7_areRefundsRight_9 : decode cX7_areRefundsRight 9 = .ok (.invokevirtual 70, 3) := by decide +kernel
theorem dX7_areRefundsRight_12 : decode cX7_areRefundsRight 12 = .ok (.if_icmp .ge 43, 3) := by decide +kernel
theorem dX7_areRefundsRight_15 : decode cX7_areRefundsRight 15 = .ok (.aload_n 0, 1) := by decide +kernel
theorem dX7_areRefundsRight_16 : decode cX7_areRefundsRight 16 = .ok (.getfield 16, 3) := by decide +kernel
theorem dX7_areRefundsRight_19 : decode cX7_areRefundsRight 19 = .ok (.iload_n 3, 1) := by decide +kernel
theorem dX7_areRefundsRight_20 : decode cX7_areRefundsRight 20 = .ok (.invokevirtual 272, 3) := by decide +kernel
theorem dX7_areRefundsRight_23 : decode cX7_areRefundsRight 23 = .ok (.checkcast 96, 3) := by decide +kernel
theorem dX7_areRefundsRight_26 : decode cX7_areRefundsRight 26 = .ok (.astore 4, 2) := by decide +kernel
theorem dX7_areRefundsRight_28 : decode cX7_areRefundsRight 28 = .ok (.lload_n 1, 1) := by decide +kernel
theorem dX7_areRefundsRight_29 : decode cX7_areRefundsRight 29 = .ok (.aload 4, 2) := by decide +kernel
theorem dX7_areRefundsRight_31 : decode cX7_areRefundsRight 31 = .ok (.getfield 108, 3) := by decide +kernel
theorem dX7_areRefundsRight_34 : decode cX7_areRefundsRight 34 = .ok (.ifCond .eq 12, 3) := by decide +kernel
theorem dX7_areRefundsRight_37 : decode cX7_areRefundsRight 37 = .ok (.aload 4, 2) := by decide +kernel
theorem dX7_areRefundsRight_39 : decode cX7_areRefundsRight 39 = .ok (.getfield 237, 3) := by decide +kernel
theorem dX7_areRefundsRight_42 : decode cX7_areRefundsRight 42 = .ok (.i2l, 1) := by decide +kernel
theorem dX7_areRefundsRight_43 : decode cX7_areRefundsRight 43 = .ok (.goto 4, 3) := by decide +kernel
theorem dX7_areRefundsRight_46 : decode cX7_areRefundsRight 46 = .ok (.lconst 0, 1) := by decide +kernel
theorem dX7_areRefundsRight_47 : decode cX7_areRefundsRight 47 = .ok (.ladd, 1) := by decide +kernel
theorem dX7_areRefundsRight_48 : decode cX7_areRefundsRight 48 = .ok (.lstore_n 1, 1) := by decide +kernel
theorem dX7_areRefundsRight_49 : decode cX7_areRefundsRight 49 = .ok (.iinc 3 1, 3) := by decide +kernel
theorem dX7_areRefundsRight_52 : decode cX7_areRefundsRight 52 = .ok (.goto (-48), 3) := by decide +kernel
theorem dX7_areRefundsRight_55 : decode cX7_areRefundsRight 55 = .ok (.aload_n 0, 1) := by decide +kernel
theorem dX7_areRefundsRight_56 : decode cX7_areRefundsRight 56 = .ok (.getfield 47, 3) := by decide +kernel
theorem dX7_areRefundsRight_59 : decode cX7_areRefundsRight 59 = .ok (.lload_n 1, 1) := by decide +kernel
theorem dX7_areRefundsRight_60 : decode cX7_areRefundsRight 60 = .ok (.lcmp, 1) := by decide +kernel
theorem dX7_areRefundsRight_61 : decode cX7_areRefundsRight 61 = .ok (.ifCond .ne 7, 3) := by decide +kernel
theorem dX7_areRefundsRight_64 : decode cX7_areRefundsRight 64 = .ok (.iconst 1, 1) := by decide +kernel
theorem dX7_areRefundsRight_65 : decode cX7_areRefundsRight 65 = .ok (.goto 4, 3) := by decide +kernel
theorem dX7_areRefundsRight_68 : decode cX7_areRefundsRight 68 = .ok (.iconst 0, 1) := by decide +kernel
theorem dX7_areRefundsRight_69 : decode cX7_areRefundsRight 69 = .ok (.ireturn, 1) := by decide +kernel
theorem dX7_arePursesRight_0 : decode cX7_arePursesRight 0 = .ok (.iconst 0, 1) := by decide +kernel
theorem dX7_arePursesRight_1 : decode cX7_arePursesRight 1 = .ok (.istore_n 1, 1) := by decide +kernel
theorem dX7_arePursesRight_2 : decode cX7_arePursesRight 2 = .ok (.iload_n 1, 1) := by decide +kernel
theorem dX7_arePursesRight_3 : decode cX7_arePursesRight 3 = .ok (.aload_n 0, 1) := by decide +kernel
theorem dX7_arePursesRight_4 : decode cX7_arePursesRight 4 = .ok (.getfield 10, 3) := by decide +kernel
theorem dX7_arePursesRight_7 : decode cX7_arePursesRight 7 = .ok (.invokevirtual 70, 3) := by decide +kernel
theorem dX7_arePursesRight_10 : decode cX7_arePursesRight 10 = .ok (.if_icmp .ge 40, 3) := by decide +kernel
theorem dX7_arePursesRight_13 : decode cX7_arePursesRight 13 = .ok (.aload_n 0, 1) := by decide +kernel
theorem dX7_arePursesRight_14 : decode cX7_arePursesRight 14 = .ok (.getfield 10, 3) := by decide +kernel
theorem dX7_arePursesRight_17 : decode cX7_arePursesRight 17 = .ok (.iload_n 1, 1) := by decide +kernel
theorem dX7_arePursesRight_18 : decode cX7_arePursesRight 18 = .ok (.invokevirtual 272, 3) := by decide +kernel
theorem dX7_arePursesRight_21 : decode cX7_arePursesRight 21 = .ok (.checkcast 79, 3) := by decide +kernel
theorem dX7_arePursesRight_24 : decode cX7_arePursesRight 24 = .ok (.astore_n 2, 1) := by decide +kernel
theorem dX7_arePursesRight_25 : decode cX7_arePursesRight 25 = .ok (.aload_n 2, 1) := by decide +kernel
theorem dX7_arePursesRight_26 : decode cX7_arePursesRight 26 = .ok (.getfield 172, 3) := by decide +kernel
theorem dX7_arePursesRight_29 : decode cX7_arePursesRight 29 = .ok (.aload_n 2, 1) := by decide +kernel
theorem dX7_arePursesRight_30 : decode cX7_arePursesRight 30 = .ok (.getfield 347, 3) := by decide +kernel
theorem dX7_arePursesRight_33 : decode cX7_arePursesRight 33 = .ok (.aload_n 0, 1) := by decide +kernel
theorem dX7_arePursesRight_34 : decode cX7_arePursesRight 34 = .ok (.aload_n 2, 1) := by decide +kernel
theorem dX7_arePursesRight_35 : decode cX7_arePursesRight 35 = .ok (.invokevirtual 350, 3) := by decide +kernel
theorem dX7_arePursesRight_38 : decode cX7_arePursesRight 38 = .ok (.isub, 1) := by decide +kernel
theorem dX7_arePursesRight_39 : decode cX7_arePursesRight 39 = .ok (.if_icmp .eq 5, 3) := by decide +kernel
theorem dX7_arePursesRight_42 : decode cX7_arePursesRight 42 = .ok (.iconst 0, 1) := by decide +kernel
theorem dX7_arePursesRight_43 : decode cX7_arePursesRight 43 = .ok (.ireturn, 1) := by decide +kernel
theorem dX7_arePursesRight_44 : decode cX7_arePursesRight 44 = .ok (.iinc 1 1, 3) := by decide +kernel
theorem dX7_arePursesRight_47 : decode cX7_arePursesRight 47 = .ok (.goto (-45), 3) := by decide +kernel
theorem dX7_arePursesRight_50 : decode cX7_arePursesRight 50 = .ok (.iconst 1, 1) := by decide +kernel
theorem dX7_arePursesRight_51 : decode cX7_arePursesRight 51 = .ok (.ireturn, 1) := by decide +kernel
theorem dX7_paidForGood_0 : decode cX7_paidForGood 0 = .ok (.iconst 0, 1) := by decide +kernel
theorem dX7_paidForGood_1 : decode cX7_paidForGood 1 = .ok (.istore_n 2, 1) := by decide +kernel
theorem dX7_paidForGood_2 : decode cX7_paidForGood 2 = .ok (.iconst 0, 1) := by decide +kernel
theorem dX7_paidForGood_3 : decode cX7_paidForGood 3 = .ok (.istore_n 3, 1) := by decide +kernel
theorem dX7_paidForGood_4 : decode cX7_paidForGood 4 = .ok (.iload_n 3, 1) := by decide +kernel
theorem dX7_paidForGood_5 : decode cX7_paidForGood 5 = .ok (.aload_n 0, 1) := by decide +kernel
theorem dX7_paidForGood_6 : decode cX7_paidForGood 6 = .ok (.getfield 16, 3) := by decide +kernel
theorem dX7_paidForGood_9 : decode cX7_paidForGood 9 = .ok (.invokevirtual 70, 3) := by decide +kernel
theorem dX7_paidForGood_12 : decode cX7_paidForGood 12 = .ok (.if_icmp .ge 47, 3) := by decide +kernel
theorem dX7_paidForGood_15 : decode cX7_paidForGood 15 = .ok (.aload_n 0, 1) := by decide +kernel
theorem dX7_paidForGood_16 : decode cX7_paidForGood 16 = .ok (.getfield 16, 3) := by decide +kernel
theorem dX7_paidForGood_19 : decode cX7_paidForGood 19 = .ok (.iload_n 3, 1) := by decide +kernel
theorem dX7_paidForGood_20 : decode cX7_paidForGood 20 = .ok (.invokevirtual 272, 3) := by decide +kernel
theorem dX7_paidForGood_23 : decode cX7_paidForGood 23 = .ok (.checkcast 96, 3) := by decide +kernel
theorem dX7_paidForGood_26 : decode cX7_paidForGood 26 = .ok (.astore 4, 2) := by decide +kernel
theorem dX7_paidForGood_28 : decode cX7_paidForGood 28 = .ok (.aload 4, 2) := by decide +kernel
theorem dX7_paidForGood_30 : decode cX7_paidForGood 30 = .ok (.getfield 168, 3) := by decide +kernel
theorem dX7_paidForGood_33 : decode cX7_paidForGood 33 = .ok (.aload_n 1, 1) := by decide +kernel
theorem dX7_paidForGood_34 : decode cX7_paidForGood 34 = .ok (.if_acmp .ne 19, 3) := by decide +kernel
theorem dX7_paidForGood_37 : decode cX7_paidForGood 37 = .ok (.aload 4, 2) := by decide +kernel
theorem dX7_paidForGood_39 : decode cX7_paidForGood 39 = .ok (.getfield 108, 3) := by decide +kernel
theorem dX7_paidForGood_42 : decode cX7_paidForGood 42 = .ok (.ifCond .ne 11, 3) := by decide +kernel
theorem dX7_paidForGood_45 : decode cX7_paidForGood 45 = .ok (.iload_n 2, 1) := by decide +kernel
theorem dX7_paidForGood_46 : decode cX7_paidForGood 46 = .ok (.aload 4, 2) := by decide +kernel
theorem dX7_paidForGood_48 : decode cX7_paidForGood 48 = .ok (.getfield 237, 3) := by decide +kernel
theorem dX7_paidForGood_51 : decode cX7_paidForGood 51 = .ok (.iadd, 1) := by decide +kernel
theorem dX7_paidForGood_52 : decode cX7_paidForGood 52 = .ok (.istore_n 2, 1) := by decide +kernel
theorem dX7_paidForGood_53 : decode cX7_paidForGood 53 = .ok (.iinc 3 1, 3) := by decide +kernel
theorem dX7_paidForGood_56 : decode cX7_paidForGood 56 = .ok (.goto (-52), 3) := by decide +kernel
theorem dX7_paidForGood_59 : decode cX7_paidForGood 59 = .ok (.iload_n 2, 1) := by decide +kernel
theorem dX7_paidForGood_60 : decode cX7_paidForGood 60 = .ok (.ireturn, 1) := by decide +kernel
theorem dJ5_init_d00df_0 : decode cJ5_init_d00df 0 = .ok (.aload_n 0, 1) := by decide +kernel
theorem dJ5_init_d00df_1 : decode cJ5_init_d00df 1 = .ok (.invokespecial 3, 3) := by decide +kernel
theorem dJ5_init_d00df_4 : decode cJ5_init_d00df 4 = .ok (.getstatic 18, 3) := by decide +kernel
theorem dJ5_init_d00df_7 : decode cJ5_init_d00df 7 = .ok (.ifCond .eq 18, 3) := by decide +kernel
theorem dJ5_init_d00df_10 : decode cJ5_init_d00df 10 = .ok (.aload_n 0, 1) := by decide +kernel
theorem dJ5_init_d00df_11 : decode cJ5_init_d00df 11 = .ok (.iload_n 1, 1) := by decide +kernel
theorem dJ5_init_d00df_12 : decode cJ5_init_d00df 12 = .ok (.newarray .byte, 2) := by decide +kernel
theorem dJ5_init_d00df_14 : decode cJ5_init_d00df 14 = .ok (.putfield 15, 3) := by decide +kernel
theorem dJ5_init_d00df_17 : decode cJ5_init_d00df 17 = .ok (.aload_n 0, 1) := by decide +kernel
theorem dJ5_init_d00df_18 : decode cJ5_init_d00df 18 = .ok (.iconst 0, 1) := by decide +kernel
theorem dJ5_init_d00df_19 : decode cJ5_init_d00df 19 = .ok (.putfield 22, 3) := by decide +kernel
theorem dJ5_init_d00df_22 : decode cJ5_init_d00df 22 = .ok (.goto 16, 3) := by decide +kernel
theorem dJ5_init_d00df_25 : decode cJ5_init_d00df 25 = .ok (.aload_n 0, 1) := by decide +kernel
theorem dJ5_init_d00df_26 : decode cJ5_init_d00df 26 = .ok (.iload_n 1, 1) := by decide +kernel
theorem dJ5_init_d00df_27 : decode cJ5_init_d00df 27 = .ok (.invokestatic 26, 3) := by decide +kernel
theorem dJ5_init_d00df_30 : decode cJ5_init_d00df 30 = .ok (.putfield 15, 3) := by decide +kernel
theorem dJ5_init_d00df_33 : decode cJ5_init_d00df 33 = .ok (.aload_n 0, 1) := by decide +kernel
theorem dJ5_init_d00df_34 : decode cJ5_init_d00df 34 = .ok (.iconst 1, 1) := by decide +kernel
theorem dJ5_init_d00df_35 : decode cJ5_init_d00df 35 = .ok (.putfield 22, 3) := by decide +kernel
theorem dJ5_init_d00df_38 : decode cJ5_init_d00df 38 = .ok (.return_, 1) := by decide +kernel
theorem dJ5_length_8abf5_0 : decode cJ5_length_8abf5 0 = .ok (.aload_n 0, 1) := by decide +kernel
theorem dJ5_length_8abf5_1 : decode cJ5_length_8abf5 1 = .ok (.getfield 79, 3) := by decide +kernel
theorem dJ5_length_8abf5_4 : decode cJ5_length_8abf5 4 = .ok (.ireturn, 1) := by decide +kernel
theorem dJ5_ensureCapacityInternal_d00df_0 : decode cJ5_ensureCapacityInternal_d00df 0 = .ok (.aload_n 0, 1) := by decide +kernel
theorem dJ5_ensureCapacityInternal_d00df_1 : decode cJ5_ensureCapacityInternal_d00df 1 = .ok (.getfield 15, 3) := by decide +kernel
theorem dJ5_ensureCapacityInternal_d00df_4 : decode cJ5_ensureCapacityInternal_d00df 4 = .ok (.arraylength, 1) := by decide +kernel
theorem dJ5_ensureCapacityInternal_d00df_5 : decode cJ5_ensureCapacityInternal_d00df 5 = .ok (.aload_n 0, 1) := by decide +kernel
theorem dJ5_ensureCapacityInternal_d00df_6 : decode cJ5_ensureCapacityInternal_d00df 6 = .ok (.getfield 22, 3) := by decide +kernel
theorem dJ5_ensureCapacityInternal_d00df_9 : decode cJ5_ensureCapacityInternal_d00df 9 = .ok (.ishr, 1) := by decide +kernel
theorem dJ5_ensureCapacityInternal_d00df_10 : decode cJ5_ensureCapacityInternal_d00df 10 = .ok (.istore_n 2, 1) := by decide +kernel
theorem dJ5_ensureCapacityInternal_d00df_11 : decode cJ5_ensureCapacityInternal_d00df 11 = .ok (.iload_n 1, 1) := by decide +kernel
theorem dJ5_ensureCapacityInternal_d00df_12 : decode cJ5_ensureCapacityInternal_d00df 12 = .ok (.iload_n 2, 1) := by decide +kernel
theorem dJ5_ensureCapacityInternal_d00df_13 : decode cJ5_ensureCapacityInternal_d00df 13 = .ok (.isub, 1) := by decide +kernel
theorem dJ5_ensureCapacityInternal_d00df_14 : decode cJ5_ensureCapacityInternal_d00df 14 = .ok (.ifCond .le 24, 3) := by decide +kernel
theorem dJ5_ensureCapacityInternal_d00df_17 : decode cJ5_ensureCapacityInternal_d00df 17 = .ok (.aload_n 0, 1) := by decide +kernel
theorem dJ5_ensureCapacityInternal_d00df_18 : decode cJ5_ensureCapacityInternal_d00df 18 = .ok (.aload_n 0, 1) := by decide +kernel
theorem dJ5_ensureCapacityInternal_d00df_19 : decode cJ5_ensureCapacityInternal_d00df 19 = .ok (.getfield 15, 3) := by decide +kernel
theorem dJ5_ensureCapacityInternal_d00df_22 : decode cJ5_ensureCapacityInternal_d00df 22 = .ok (.aload_n 0, 1) := by decide +kernel
theorem dJ5_ensureCapacityInternal_d00df_23 : decode cJ5_ensureCapacityInternal_d00df 23 = .ok (.iload_n 1, 1) := by decide +kernel
theorem dJ5_ensureCapacityInternal_d00df_24 : decode cJ5_ensureCapacityInternal_d00df 24 = .ok (.invokevirtual 104, 3) := by decide +kernel
theorem dJ5_ensureCapacityInternal_d00df_27 : decode cJ5_ensureCapacityInternal_d00df 27 = .ok (.aload_n 0, 1) := by decide +kernel
theorem dJ5_ensureCapacityInternal_d00df_28 : decode cJ5_ensureCapacityInternal_d00df 28 = .ok (.getfield 22, 3) := by decide +kernel
theorem dJ5_ensureCapacityInternal_d00df_31 : decode cJ5_ensureCapacityInternal_d00df 31 = .ok (.ishl, 1) := by decide +kernel
theorem dJ5_ensureCapacityInternal_d00df_32 : decode cJ5_ensureCapacityInternal_d00df 32 = .ok (.invokestatic 108, 3) := by decide +kernel
theorem dJ5_ensureCapacityInternal_d00df_35 : decode cJ5_ensureCapacityInternal_d00df 35 = .ok (.putfield 15, 3) := by decide +kernel
theorem dJ5_ensureCapacityInternal_d00df_38 : decode cJ5_ensureCapacityInternal_d00df 38 = .ok (.return_, 1) := by decide +kernel
theorem dJ5_newCapacity_0f7a4_0 : decode cJ5_newCapacity_0f7a4 0 = .ok (.aload_n 0, 1) := by decide +kernel
theorem dJ5_newCapacity_0f7a4_1 : decode cJ5_newCapacity_0f7a4 1 = .ok (.getfield 15, 3) := by decide +kernel
theorem dJ5_newCapacity_0f7a4_4 : decode cJ5_newCapacity_0f7a4 4 = .ok (.arraylength, 1) := by decide +kernel
theorem dJ5_newCapacity_0f7a4_5 : decode cJ5_newCapacity_0f7a4 5 = .ok (.istore_n 2, 1) := by decide +kernel
theorem dJ5_newCapacity_0f7a4_6 : decode cJ5_newCapacity_0f7a4 6 = .ok (.iload_n 1, 1) := by decide +kernel
theorem dJ5_newCapacity_0f7a4_7 : decode cJ5_newCapacity_0f7a4 7 = .ok (.aload_n 0, 1) := by decide +kernel
theorem dJ5_newCapacity_0f7a4_8 : decode cJ5_newCapacity_0f7a4 8 = .ok (.getfield 22, 3) := by decide +kernel
theorem dJ5_newCapacity_0f7a4_11 : decode cJ5_newCapacity_0f7a4 11 = .ok (.ishl, 1) := by decide +kernel
theorem dJ5_newCapacity_0f7a4_12 : decode cJ5_newCapacity_0f7a4 12 = .ok (.istore_n 3, 1) := by decide +kernel
theorem dJ5_newCapacity_0f7a4_13 : decode cJ5_newCapacity_0f7a4 13 = .ok (.iload_n 3, 1) := by decide +kernel
theorem dJ5_newCapacity_0f7a4_14 : decode cJ5_newCapacity_0f7a4 14 = .ok (.iload_n 2, 1) := by decide +kernel
theorem dJ5_newCapacity_0f7a4_15 : decode cJ5_newCapacity_0f7a4 15 = .ok (.isub, 1) := by decide +kernel
theorem dJ5_newCapacity_0f7a4_16 : decode cJ5_newCapacity_0f7a4 16 = .ok (.istore 4, 2) := by decide +kernel
theorem dJ5_newCapacity_0f7a4_18 : decode cJ5_newCapacity_0f7a4 18 = .ok (.iload_n 2, 1) := by decide +kernel
theorem dJ5_newCapacity_0f7a4_19 : decode cJ5_newCapacity_0f7a4 19 = .ok (.iload 4, 2) := by decide +kernel
theorem dJ5_newCapacity_0f7a4_21 : decode cJ5_newCapacity_0f7a4 21 = .ok (.iload_n 2, 1) := by decide +kernel
theorem dJ5_newCapacity_0f7a4_22 : decode cJ5_newCapacity_0f7a4 22 = .ok (.iconst 2, 1) := by decide +kernel
theorem dJ5_newCapacity_0f7a4_23 : decode cJ5_newCapacity_0f7a4 23 = .ok (.aload_n 0, 1) := by decide +kernel
theorem dJ5_newCapacity_0f7a4_24 : decode cJ5_newCapacity_0f7a4 24 = .ok (.getfield 22, 3) := by decide +kernel
theorem dJ5_newCapacity_0f7a4_27 : decode cJ5_newCapacity_0f7a4 27 = .ok (.ishl, 1) := by decide +kernel
theorem dJ5_newCapacity_0f7a4_28 : decode cJ5_newCapacity_0f7a4 28 = .ok (.iadd, 1) := by decide +kernel
theorem dJ5_newCapacity_0f7a4_29 : decode cJ5_newCapacity_0f7a4 29 = .ok (.invokestatic 114, 3) := by decide +kernel
theorem dJ5_newCapacity_0f7a4_32 : decode cJ5_newCapacity_0f7a4 32 = .ok (.istore 5, 2) := by decide +kernel
theorem dJ5_newCapacity_0f7a4_34 : decode cJ5_newCapacity_0f7a4 34 = .ok (.iload 5, 2) := by decide +kernel
theorem dJ5_newCapacity_0f7a4_36 : decode cJ5_newCapacity_0f7a4 36 = .ok (.ldc 39, 2) := by decide +kernel
theorem dJ5_newCapacity_0f7a4_38 : decode cJ5_newCapacity_0f7a4 38 = .ok (.if_icmp .ne 13, 3) := by decide +kernel
theorem dJ5_newCapacity_0f7a4_41 : decode cJ5_newCapacity_0f7a4 41 = .ok (.new 120, 3) := by decide +kernel
theorem dJ5_newCapacity_0f7a4_44 : decode cJ5_newCapacity_0f7a4 44 = .ok (.dup, 1) := by decide +kernel
theorem dJ5_newCapacity_0f7a4_45 : decode cJ5_newCapacity_0f7a4 45 = .ok (.ldc 122, 2) := by decide +kernel
theorem dJ5_newCapacity_0f7a4_47 : decode cJ5_newCapacity_0f7a4 47 = .ok (.invokespecial 124, 3) := by decide +kernel
theorem dJ5_newCapacity_0f7a4_50 : decode cJ5_newCapacity_0f7a4 50 = .ok (.athrow, 1) := by decide +kernel
theorem dJ5_newCapacity_0f7a4_51 : decode cJ5_newCapacity_0f7a4 51 = .ok (.iload 5, 2) := by decide +kernel
theorem dJ5_newCapacity_0f7a4_53 : decode cJ5_newCapacity_0f7a4 53 = .ok (.aload_n 0, 1) := by decide +kernel
theorem dJ5_newCapacity_0f7a4_54 : decode cJ5_newCapacity_0f7a4 54 = .ok (.getfield 22, 3) := by decide +kernel
theorem dJ5_newCapacity_0f7a4_57 : decode cJ5_newCapacity_0f7a4 57 = .ok (.ishr, 1) := by decide +kernel
theorem dJ5_newCapacity_0f7a4_58 : decode cJ5_newCapacity_0f7a4 58 = .ok (.ireturn, 1) := by decide +kernel
theorem dJ5_inflate_da8c8_0 : decode cJ5_inflate_da8c8 0 = .ok (.aload_n 0, 1) := by decide +kernel
theorem dJ5_inflate_da8c8_1 : decode cJ5_inflate_da8c8 1 = .ok (.invokevirtual 83, 3) := by decide +kernel
theorem dJ5_inflate_da8c8_4 : decode cJ5_inflate_da8c8 4 = .ok (.ifCond .ne 4, 3) := by decide +kernel
theorem dJ5_inflate_da8c8_7 : decode cJ5_inflate_da8c8 7 = .ok (.return_, 1) := by decide +kernel
theorem dJ5_inflate_da8c8_8 : decode cJ5_inflate_da8c8 8 = .ok (.aload_n 0, 1) := by decide +kernel
theorem dJ5_inflate_da8c8_9 : decode cJ5_inflate_da8c8 9 = .ok (.getfield 15, 3) := by decide +kernel
theorem dJ5_inflate_da8c8_12 : decode cJ5_inflate_da8c8 12 = .ok (.arraylength, 1) := by decide +kernel
theorem dJ5_inflate_da8c8_13 : decode cJ5_inflate_da8c8 13 = .ok (.invokestatic 26, 3) := by decide +kernel
theorem dJ5_inflate_da8c8_16 : decode cJ5_inflate_da8c8 16 = .ok (.astore_n 1, 1) := by decide +kernel
theorem dJ5_inflate_da8c8_17 : decode cJ5_inflate_da8c8 17 = .ok (.aload_n 0, 1) := by decide +kernel
theorem dJ5_inflate_da8c8_18 : decode cJ5_inflate_da8c8 18 = .ok (.getfield 15, 3) := by decide +kernel
theorem dJ5_inflate_da8c8_21 : decode cJ5_inflate_da8c8 21 = .ok (.iconst 0, 1) := by decide +kernel
theorem dJ5_inflate_da8c8_22 : decode cJ5_inflate_da8c8 22 = .ok (.aload_n 1, 1) := by decide +kernel
theorem dJ5_inflate_da8c8_23 : decode cJ5_inflate_da8c8 23 = .ok (.iconst 0, 1) := by decide +kernel
theorem dJ5_inflate_da8c8_24 : decode cJ5_inflate_da8c8 24 = .ok (.aload_n 0, 1) := by decide +kernel
theorem dJ5_inflate_da8c8_25 : decode cJ5_inflate_da8c8 25 = .ok (.getfield 79, 3) := by decide +kernel
theorem dJ5_inflate_da8c8_28 : decode cJ5_inflate_da8c8 28 = .ok (.invokestatic 125, 3) := by decide +kernel
theorem dJ5_inflate_da8c8_31 : decode cJ5_inflate_da8c8 31 = .ok (.aload_n 0, 1) := by decide +kernel
theorem dJ5_inflate_da8c8_32 : decode cJ5_inflate_da8c8 32 = .ok (.aload_n 1, 1) := by decide +kernel
theorem dJ5_inflate_da8c8_33 : decode cJ5_inflate_da8c8 33 = .ok (.putfield 15, 3) := by decide +kernel
theorem dJ5_inflate_da8c8_36 : decode cJ5_inflate_da8c8 36 = .ok (.aload_n 0, 1) := by decide +kernel
theorem dJ5_inflate_da8c8_37 : decode cJ5_inflate_da8c8 37 = .ok (.iconst 1, 1) := by decide +kernel
theorem dJ5_inflate_da8c8_38 : decode cJ5_inflate_da8c8 38 = .ok (.putfield 22, 3) := by decide +kernel
theorem dJ5_inflate_da8c8_41 : decode cJ5_inflate_da8c8 41 = .ok (.return_, 1) := by decide +kernel
theorem dJ5_charAt_5068e_0 : decode cJ5_charAt_5068e 0 = .ok (.aload_n 0, 1) := by decide +kernel
theorem dJ5_charAt_5068e_1 : decode cJ5_charAt_5068e 1 = .ok (.getfield 22, 3) := by decide +kernel
theorem dJ5_charAt_5068e_4 : decode cJ5_charAt_5068e 4 = .ok (.istore_n 2, 1) := by decide +kernel
theorem dJ5_charAt_5068e_5 : decode cJ5_charAt_5068e 5 = .ok (.aload_n 0, 1) := by decide +kernel
theorem dJ5_charAt_5068e_6 : decode cJ5_charAt_5068e 6 = .ok (.getfield 15, 3) := by decide +kernel
theorem dJ5_charAt_5068e_9 : decode cJ5_charAt_5068e 9 = .ok (.astore_n 3, 1) := by decide +kernel
theorem dJ5_charAt_5068e_10 : decode cJ5_charAt_5068e 10 = .ok (.aload_n 0, 1) := by decide +kernel
theorem dJ5_charAt_5068e_11 : decode cJ5_charAt_5068e 11 = .ok (.getfield 79, 3) := by decide +kernel
theorem dJ5_charAt_5068e_14 : decode cJ5_charAt_5068e 14 = .ok (.aload_n 3, 1) := by decide +kernel
theorem dJ5_charAt_5068e_15 : decode cJ5_charAt_5068e 15 = .ok (.arraylength, 1) := by decide +kernel
theorem dJ5_charAt_5068e_16 : decode cJ5_charAt_5068e 16 = .ok (.iload_n 2, 1) := by decide +kernel
theorem dJ5_charAt_5068e_17 : decode cJ5_charAt_5068e 17 = .ok (.ishr, 1) := by decide +kernel
theorem dJ5_charAt_5068e_18 : decode cJ5_charAt_5068e 18 = .ok (.invokestatic 138, 3) := by decide +kernel
theorem dJ5_charAt_5068e_21 : decode cJ5_charAt_5068e 21 = .ok (.istore 4, 2) := by decide +kernel
theorem dJ5_charAt_5068e_23 : decode cJ5_charAt_5068e 23 = .ok (.iload_n 1, 1) := by decide +kernel
theorem dJ5_charAt_5068e_24 : decode cJ5_charAt_5068e 24 = .ok (.iload 4, 2) := by decide +kernel
theorem dJ5_charAt_5068e_26 : decode cJ5_charAt_5068e 26 = .ok (.invokestatic 144, 3) := by decide +kernel
theorem dJ5_charAt_5068e_29 : decode cJ5_charAt_5068e 29 = .ok (.iload_n 2, 1) := by decide +kernel
theorem dJ5_charAt_5068e_30 : decode cJ5_charAt_5068e 30 = .ok (.ifCond .ne 12, 3) := by decide +kernel
theorem dJ5_charAt_5068e_33 : decode cJ5_charAt_5068e 33 = .ok (.aload_n 3, 1) := by decide +kernel
theorem dJ5_charAt_5068e_34 : decode cJ5_charAt_5068e 34 = .ok (.iload_n 1, 1) := by decide +kernel
theorem dJ5_charAt_5068e_35 : decode cJ5_charAt_5068e 35 = .ok (.baload, 1) := by decide +kernel
theorem dJ5_charAt_5068e_36 : decode cJ5_charAt_5068e 36 = .ok (.sipush 255, 3) := by decide +kernel
theorem dJ5_charAt_5068e_39 : decode cJ5_charAt_5068e 39 = .ok (.iand, 1) := by decide +kernel
theorem dJ5_charAt_5068e_40 : decode cJ5_charAt_5068e 40 = .ok (.i2c, 1) := by decide +kernel
theorem dJ5_charAt_5068e_41 : decode cJ5_charAt_5068e 41 = .ok (.ireturn, 1) := by decide +kernel
theorem dJ5_charAt_5068e_42 : decode cJ5_charAt_5068e 42 = .ok (.aload_n 3, 1) := by decide +kernel
theorem dJ5_charAt_5068e_43 : decode cJ5_charAt_5068e 43 = .ok (.iload_n 1, 1) := by decide +kernel
theorem dJ5_charAt_5068e_44 : decode cJ5_charAt_5068e 44 = .ok (.invokestatic 148, 3) := by decide +kernel
theorem dJ5_charAt_5068e_47 : decode cJ5_charAt_5068e 47 = .ok (.ireturn, 1) := by decide +kernel
theorem dJ5_append_cf1ce_0 : decode cJ5_append_cf1ce 0 = .ok (.aload_n 1, 1) := by decide +kernel
theorem dJ5_append_cf1ce_1 : decode cJ5_append_cf1ce 1 = .ok (.ifnonnull 8, 3) := by decide +kernel
theorem dJ5_append_cf1ce_4 : decode cJ5_append_cf1ce 4 = .ok (.aload_n 0, 1) := by decide +kernel
theorem dJ5_append_cf1ce_5 : decode cJ5_append_cf1ce 5 = .ok (.invokevirtual 204, 3) := by decide +kernel
theorem dJ5_append_cf1ce_8 : decode cJ5_append_cf1ce 8 = .ok (.areturn, 1) := by decide +kernel
theorem dJ5_append_cf1ce_9 : decode cJ5_append_cf1ce 9 = .ok (.aload_n 1, 1) := by decide +kernel
theorem dJ5_append_cf1ce_10 : decode cJ5_append_cf1ce 10 = .ok (.invokevirtual 32, 3) := by decide +kernel
theorem dJ5_append_cf1ce_13 : decode cJ5_append_cf1ce 13 = .ok (.istore_n 2, 1) := by decide +kernel
theorem dJ5_append_cf1ce_14 : decode cJ5_append_cf1ce 14 = .ok (.aload_n 0, 1) := by decide +kernel
theorem dJ5_append_cf1ce_15 : decode cJ5_append_cf1ce 15 = .ok (.aload_n 0, 1) := by decide +kernel
theorem dJ5_append_cf1ce_16 : decode cJ5_append_cf1ce 16 = .ok (.getfield 79, 3) := by decide +kernel
theorem dJ5_append_cf1ce_19 : decode cJ5_append_cf1ce 19 = .ok (.iload_n 2, 1) := by decide +kernel
theorem dJ5_append_cf1ce_20 : decode cJ5_append_cf1ce 20 = .ok (.iadd, 1) := by decide +kernel
theorem dJ5_append_cf1ce_21 : decode cJ5_append_cf1ce 21 = .ok (.invokevirtual 100, 3) := by decide +kernel
theorem dJ5_append_cf1ce_24 : decode cJ5_append_cf1ce 24 = .ok (.aload_n 0, 1) := by decide +kernel
theorem dJ5_append_cf1ce_25 : decode cJ5_append_cf1ce 25 = .ok (.aload_n 0, 1) := by decide +kernel
theorem dJ5_append_cf1ce_26 : decode cJ5_append_cf1ce 26 = .ok (.getfield 79, 3) := by decide +kernel
theorem dJ5_append_cf1ce_29 : decode cJ5_append_cf1ce 29 = .ok (.aload_n 1, 1) := by decide +kernel
theorem dJ5_append_cf1ce_30 : decode cJ5_append_cf1ce 30 = .ok (.invokevirtual 208, 3) := by decide +kernel
theorem dJ5_append_cf1ce_33 : decode cJ5_append_cf1ce 33 = .ok (.aload_n 0, 1) := by decide +kernel
theorem dJ5_append_cf1ce_34 : decode cJ5_append_cf1ce 34 = .ok (.dup, 1) := by decide +kernel
theorem dJ5_append_cf1ce_35 : decode cJ5_append_cf1ce 35 = .ok (.getfield 79, 3) := by decide +kernel
theorem dJ5_append_cf1ce_38 : decode cJ5_append_cf1ce 38 = .ok (.iload_n 2, 1) := by decide +kernel
theorem dJ5_append_cf1ce_39 : decode cJ5_append_cf1ce 39 = .ok (.iadd, 1) := by decide +kernel
theorem dJ5_append_cf1ce_40 : decode cJ5_append_cf1ce 40 = .ok (.putfield 79, 3) := by decide +kernel
theorem dJ5_append_cf1ce_43 : decode cJ5_append_cf1ce 43 = .ok (.aload_n 0, 1) := by decide +kernel
theorem dJ5_append_cf1ce_44 : decode cJ5_append_cf1ce 44 = .ok (.areturn, 1) := by decide +kernel
theorem dJ5_append_2ceeb_0 : decode cJ5_append_2ceeb 0 = .ok (.aload_n 1, 1) := by decide +kernel
theorem dJ5_append_2ceeb_1 : decode cJ5_append_2ceeb 1 = .ok (.ifnonnull 8, 3) := by decide +kernel
theorem dJ5_append_2ceeb_4 : decode cJ5_append_2ceeb 4 = .ok (.aload_n 0, 1) := by decide +kernel
theorem dJ5_append_2ceeb_5 : decode cJ5_append_2ceeb 5 = .ok (.invokevirtual 204, 3) := by decide +kernel
theorem dJ5_append_2ceeb_8 : decode cJ5_append_2ceeb 8 = .ok (.areturn, 1) := by decide +kernel
theorem dJ5_append_2ceeb_9 : decode cJ5_append_2ceeb 9 = .ok (.aload_n 1, 1) := by decide +kernel
theorem dJ5_append_2ceeb_10 : decode cJ5_append_2ceeb 10 = .ok (.invokevirtual 160, 3) := by decide +kernel
theorem dJ5_append_2ceeb_13 : decode cJ5_append_2ceeb 13 = .ok (.istore_n 2, 1) := by decide +kernel
theorem dJ5_append_2ceeb_14 : decode cJ5_append_2ceeb 14 = .ok (.aload_n 0, 1) := by decide +kernel
theorem dJ5_append_2ceeb_15 : decode cJ5_append_2ceeb 15 = .ok (.aload_n 0, 1) := by decide +kernel
theorem dJ5_append_2ceeb_16 : decode cJ5_append_2ceeb 16 = .ok (.getfield 79, 3) := by decide +kernel
theorem dJ5_append_2ceeb_19 : decode cJ5_append_2ceeb 19 = .ok (.iload_n 2, 1) := by decide +kernel
theorem dJ5_append_2ceeb_20 : decode cJ5_append_2ceeb 20 = .ok (.iadd, 1) := by decide +kernel
theorem dJ5_append_2ceeb_21 : decode cJ5_append_2ceeb 21 = .ok (.invokevirtual 100, 3) := by decide +kernel
theorem dJ5_append_2ceeb_24 : decode cJ5_append_2ceeb 24 = .ok (.aload_n 0, 1) := by decide +kernel
theorem dJ5_append_2ceeb_25 : decode cJ5_append_2ceeb 25 = .ok (.aload_n 1, 1) := by decide +kernel
theorem dJ5_append_2ceeb_26 : decode cJ5_append_2ceeb 26 = .ok (.invokevirtual 215, 3) := by decide +kernel
theorem dJ5_append_2ceeb_29 : decode cJ5_append_2ceeb 29 = .ok (.aload_n 1, 1) := by decide +kernel
theorem dJ5_append_2ceeb_30 : decode cJ5_append_2ceeb 30 = .ok (.aload_n 0, 1) := by decide +kernel
theorem dJ5_append_2ceeb_31 : decode cJ5_append_2ceeb 31 = .ok (.getfield 15, 3) := by decide +kernel
theorem dJ5_append_2ceeb_34 : decode cJ5_append_2ceeb 34 = .ok (.aload_n 0, 1) := by decide +kernel
theorem dJ5_append_2ceeb_35 : decode cJ5_append_2ceeb 35 = .ok (.getfield 79, 3) := by decide +kernel
theorem dJ5_append_2ceeb_38 : decode cJ5_append_2ceeb 38 = .ok (.aload_n 0, 1) := by decide +kernel
theorem dJ5_append_2ceeb_39 : decode cJ5_append_2ceeb 39 = .ok (.getfield 22, 3) := by decide +kernel
theorem dJ5_append_2ceeb_42 : decode cJ5_append_2ceeb 42 = .ok (.invokevirtual 219, 3) := by decide +kernel
theorem dJ5_append_2ceeb_45 : decode cJ5_append_2ceeb 45 = .ok (.aload_n 0, 1) := by decide +kernel
theorem dJ5_append_2ceeb_46 : decode cJ5_append_2ceeb 46 = .ok (.dup, 1) := by decide +kernel
theorem dJ5_append_2ceeb_47 : decode cJ5_append_2ceeb 47 = .ok (.getfield 79, 3) := by decide +kernel
theorem dJ5_append_2ceeb_50 : decode cJ5_append_2ceeb 50 = .ok (.iload_n 2, 1) := by decide +kernel
theorem dJ5_append_2ceeb_51 : decode cJ5_append_2ceeb 51 = .ok (.iadd, 1) := by decide +kernel
theorem dJ5_append_2ceeb_52 : decode cJ5_append_2ceeb 52 = .ok (.putfield 79, 3) := by decide +kernel
theorem dJ5_append_2ceeb_55 : decode cJ5_append_2ceeb 55 = .ok (.aload_n 0, 1) := by decide +kernel
theorem dJ5_append_2ceeb_56 : decode cJ5_append_2ceeb 56 = .ok (.dup, 1) := by decide +kernel
theorem dJ5_append_2ceeb_57 : decode cJ5_append_2ceeb 57 = .ok (.getfield 73, 3) := by decide +kernel
theorem dJ5_append_2ceeb_60 : decode cJ5_append_2ceeb 60 = .ok (.aload_n 1, 1) := by decide +kernel
theorem dJ5_append_2ceeb_61 : decode cJ5_append_2ceeb 61 = .ok (.getfield 73, 3) := by decide +kernel
theorem dJ5_append_2ceeb_64 : decode cJ5_append_2ceeb 64 = .ok (.ior, 1) := by decide +kernel
theorem dJ5_append_2ceeb_65 : decode cJ5_append_2ceeb 65 = .ok (.putfield 73, 3) := by decide +kernel
theorem dJ5_append_2ceeb_68 : decode cJ5_append_2ceeb 68 = .ok (.aload_n 0, 1) := by decide +kernel
theorem dJ5_append_2ceeb_69 : decode cJ5_append_2ceeb 69 = .ok (.areturn, 1) := by decide +kernel
theorem dJ5_append_8f9a3_0 : decode cJ5_append_8f9a3 0 = .ok (.aload_n 1, 1) := by decide +kernel
theorem dJ5_append_8f9a3_1 : decode cJ5_append_8f9a3 1 = .ok (.ifnonnull 8, 3) := by decide +kernel
theorem dJ5_append_8f9a3_4 : decode cJ5_append_8f9a3 4 = .ok (.aload_n 0, 1) := by decide +kernel
theorem dJ5_append_8f9a3_5 : decode cJ5_append_8f9a3 5 = .ok (.invokevirtual 204, 3) := by decide +kernel
theorem dJ5_append_8f9a3_8 : decode cJ5_append_8f9a3 8 = .ok (.areturn, 1) := by decide +kernel
theorem dJ5_append_8f9a3_9 : decode cJ5_append_8f9a3 9 = .ok (.aload_n 1, 1) := by decide +kernel
theorem dJ5_append_8f9a3_10 : decode cJ5_append_8f9a3 10 = .ok (.instanceof 1, 3) := by decide +kernel
theorem dJ5_append_8f9a3_13 : decode cJ5_append_8f9a3 13 = .ok (.ifCond .eq 12, 3) := by decide +kernel
theorem dJ5_append_8f9a3_16 : decode cJ5_append_8f9a3 16 = .ok (.aload_n 0, 1) := by decide +kernel
theorem dJ5_append_8f9a3_17 : decode cJ5_append_8f9a3 17 = .ok (.aload_n 1, 1) := by decide +kernel
theorem dJ5_append_8f9a3_18 : decode cJ5_append_8f9a3 18 = .ok (.checkcast 1, 3) := by decide +kernel
theorem dJ5_append_8f9a3_21 : decode cJ5_append_8f9a3 21 = .ok (.invokevirtual 43, 3) := by decide +kernel
theorem dJ5_append_8f9a3_24 : decode cJ5_append_8f9a3 24 = .ok (.areturn, 1) := by decide +kernel
theorem dJ5_append_8f9a3_25 : decode cJ5_append_8f9a3 25 = .ok (.aload_n 1, 1) := by decide +kernel
theorem dJ5_append_8f9a3_26 : decode cJ5_append_8f9a3 26 = .ok (.instanceof 10, 3) := by decide +kernel
theorem dJ5_append_8f9a3_29 : decode cJ5_append_8f9a3 29 = .ok (.ifCond .eq 12, 3) := by decide +kernel
theorem dJ5_append_8f9a3_32 : decode cJ5_append_8f9a3 32 = .ok (.aload_n 0, 1) := by decide +kernel
theorem dJ5_append_8f9a3_33 : decode cJ5_append_8f9a3 33 = .ok (.aload_n 1, 1) := by decide +kernel
theorem dJ5_append_8f9a3_34 : decode cJ5_append_8f9a3 34 = .ok (.checkcast 10, 3) := by decide +kernel
theorem dJ5_append_8f9a3_37 : decode cJ5_append_8f9a3 37 = .ok (.invokevirtual 212, 3) := by decide +kernel
theorem dJ5_append_8f9a3_40 : decode cJ5_append_8f9a3 40 = .ok (.areturn, 1) := by decide +kernel
theorem dJ5_append_8f9a3_41 : decode cJ5_append_8f9a3 41 = .ok (.aload_n 0, 1) := by decide +kernel
theorem dJ5_append_8f9a3_42 : decode cJ5_append_8f9a3 42 = .ok (.aload_n 1, 1) := by decide +kernel
theorem dJ5_append_8f9a3_43 : decode cJ5_append_8f9a3 43 = .ok (.iconst 0, 1) := by decide +kernel
theorem dJ5_append_8f9a3_44 : decode cJ5_append_8f9a3 44 = .ok (.aload_n 1, 1) := by decide +kernel
theorem dJ5_append_8f9a3_45 : decode cJ5_append_8f9a3 45 = .ok (.invokeinterface 47 1, 5) := by decide +kernel
theorem dJ5_append_8f9a3_50 : decode cJ5_append_8f9a3 50 = .ok (.invokevirtual 223, 3) := by decide +kernel
theorem dJ5_append_8f9a3_53 : decode cJ5_append_8f9a3 53 = .ok (.areturn, 1) := by decide +kernel
theorem dJ5_appendNull_278bc_0 : decode cJ5_appendNull_278bc 0 = .ok (.aload_n 0, 1) := by decide +kernel
theorem dJ5_appendNull_278bc_1 : decode cJ5_appendNull_278bc 1 = .ok (.aload_n 0, 1) := by decide +kernel
theorem dJ5_appendNull_278bc_2 : decode cJ5_appendNull_278bc 2 = .ok (.getfield 79, 3) := by decide +kernel
theorem dJ5_appendNull_278bc_5 : decode cJ5_appendNull_278bc 5 = .ok (.iconst 4, 1) := by decide +kernel
theorem dJ5_appendNull_278bc_6 : decode cJ5_appendNull_278bc 6 = .ok (.iadd, 1) := by decide +kernel
theorem dJ5_appendNull_278bc_7 : decode cJ5_appendNull_278bc 7 = .ok (.invokevirtual 100, 3) := by decide +kernel
theorem dJ5_appendNull_278bc_10 : decode cJ5_appendNull_278bc 10 = .ok (.aload_n 0, 1) := by decide +kernel
theorem dJ5_appendNull_278bc_11 : decode cJ5_appendNull_278bc 11 = .ok (.getfield 79, 3) := by decide +kernel
theorem dJ5_appendNull_278bc_14 : decode cJ5_appendNull_278bc 14 = .ok (.istore_n 1, 1) := by decide +kernel
theorem dJ5_appendNull_278bc_15 : decode cJ5_appendNull_278bc 15 = .ok (.aload_n 0, 1) := by decide +kernel
theorem dJ5_appendNull_278bc_16 : decode cJ5_appendNull_278bc 16 = .ok (.getfield 15, 3) := by decide +kernel
theorem dJ5_appendNull_278bc_19 : decode cJ5_appendNull_278bc 19 = .ok (.astore_n 2, 1) := by decide +kernel
theorem dJ5_appendNull_278bc_20 : decode cJ5_appendNull_278bc 20 = .ok (.aload_n 0, 1) := by decide +kernel
theorem dJ5_appendNull_278bc_21 : decode cJ5_appendNull_278bc 21 = .ok (.invokevirtual 83, 3) := by decide +kernel
theorem dJ5_appendNull_278bc_24 : decode cJ5_appendNull_278bc 24 = .ok (.ifCond .eq 38, 3) := by decide +kernel
theorem dJ5_appendNull_278bc_27 : decode cJ5_appendNull_278bc 27 = .ok (.aload_n 2, 1) := by decide +kernel
theorem dJ5_appendNull_278bc_28 : decode cJ5_appendNull_278bc 28 = .ok (.iload_n 1, 1) := by decide +kernel
theorem dJ5_appendNull_278bc_29 : decode cJ5_appendNull_278bc 29 = .ok (.iinc 1 1, 3) := by decide +kernel
theorem dJ5_appendNull_278bc_32 : decode cJ5_appendNull_278bc 32 = .ok (.bipush 110, 2) := by decide +kernel
theorem dJ5_appendNull_278bc_34 : decode cJ5_appendNull_278bc 34 = .ok (.bastore, 1) := by decide +kernel
theorem dJ5_appendNull_278bc_35 : decode cJ5_appendNull_278bc 35 = .ok (.aload_n 2, 1) := by decide +kernel
theorem dJ5_appendNull_278bc_36 : decode cJ5_appendNull_278bc 36 = .ok (.iload_n 1, 1) := by decide +kernel
theorem dJ5_appendNull_278bc_37 : decode cJ5_appendNull_278bc 37 = .ok (.iinc 1 1, 3) := by decide +kernel
theorem dJ5_appendNull_278bc_40 : decode cJ5_appendNull_278bc 40 = .ok (.bipush 117, 2) := by decide +kernel
theorem dJ5_appendNull_278bc_42 : decode cJ5_appendNull_278bc 42 = .ok (.bastore, 1) := by decide +kernel
theorem dJ5_appendNull_278bc_43 : decode cJ5_appendNull_278bc 43 = .ok (.aload_n 2, 1) := by decide +kernel
theorem dJ5_appendNull_278bc_44 : decode cJ5_appendNull_278bc 44 = .ok (.iload_n 1, 1) := by decide +kernel
theorem dJ5_appendNull_278bc_45 : decode cJ5_appendNull_278bc 45 = .ok (.iinc 1 1, 3) := by decide +kernel
theorem dJ5_appendNull_278bc_48 : decode cJ5_appendNull_278bc 48 = .ok (.bipush 108, 2) := by decide +kernel
theorem dJ5_appendNull_278bc_50 : decode cJ5_appendNull_278bc 50 = .ok (.bastore, 1) := by decide +kernel
theorem dJ5_appendNull_278bc_51 : decode cJ5_appendNull_278bc 51 = .ok (.aload_n 2, 1) := by decide +kernel
theorem dJ5_appendNull_278bc_52 : decode cJ5_appendNull_278bc 52 = .ok (.iload_n 1, 1) := by decide +kernel
theorem dJ5_appendNull_278bc_53 : decode cJ5_appendNull_278bc 53 = .ok (.iinc 1 1, 3) := by decide +kernel
theorem dJ5_appendNull_278bc_56 : decode cJ5_appendNull_278bc 56 = .ok (.bipush 108, 2) := by decide +kernel
theorem dJ5_appendNull_278bc_58 : decode cJ5_appendNull_278bc 58 = .ok (.bastore, 1) := by decide +kernel
theorem dJ5_appendNull_278bc_59 : decode cJ5_appendNull_278bc 59 = .ok (.goto 17, 3) := by decide +kernel
theorem dJ5_appendNull_278bc_62 : decode cJ5_appendNull_278bc 62 = .ok (.aload_n 2, 1) := by decide +kernel
theorem dJ5_appendNull_278bc_63 : decode cJ5_appendNull_278bc 63 = .ok (.iload_n 1, 1) := by decide +kernel
theorem dJ5_appendNull_278bc_64 : decode cJ5_appendNull_278bc 64 = .ok (.bipush 110, 2) := by decide +kernel
theorem dJ5_appendNull_278bc_66 : decode cJ5_appendNull_278bc 66 = .ok (.bipush 117, 2) := by decide +kernel
theorem dJ5_appendNull_278bc_68 : decode cJ5_appendNull_278bc 68 = .ok (.bipush 108, 2) := by decide +kernel
theorem dJ5_appendNull_278bc_70 : decode cJ5_appendNull_278bc 70 = .ok (.bipush 108, 2) := by decide +kernel
theorem dJ5_appendNull_278bc_72 : decode cJ5_appendNull_278bc 72 = .ok (.invokestatic 226, 3) := by decide +kernel
theorem dJ5_appendNull_278bc_75 : decode cJ5_appendNull_278bc 75 = .ok (.istore_n 1, 1) := by decide +kernel
theorem dJ5_appendNull_278bc_76 : decode cJ5_appendNull_278bc 76 = .ok (.aload_n 0, 1) := by decide +kernel
theorem dJ5_appendNull_278bc_77 : decode cJ5_appendNull_278bc 77 = .ok (.iload_n 1, 1) := by decide +kernel
theorem dJ5_appendNull_278bc_78 : decode cJ5_appendNull_278bc 78 = .ok (.putfield 79, 3) := by decide +kernel
theorem dJ5_appendNull_278bc_81 : decode cJ5_appendNull_278bc 81 = .ok (.aload_n 0, 1) := by decide +kernel
theorem dJ5_appendNull_278bc_82 : decode cJ5_appendNull_278bc 82 = .ok (.areturn, 1) := by decide +kernel
theorem dJ5_append_e1f22_0 : decode cJ5_append_e1f22 0 = .ok (.aload_n 1, 1) := by decide +kernel
theorem dJ5_append_e1f22_1 : decode cJ5_append_e1f22 1 = .ok (.ifnonnull 6, 3) := by decide +kernel
theorem dJ5_append_e1f22_4 : decode cJ5_append_e1f22 4 = .ok (.ldc 230, 2) := by decide +kernel
theorem dJ5_append_e1f22_6 : decode cJ5_append_e1f22 6 = .ok (.astore_n 1, 1) := by decide +kernel
theorem dJ5_append_e1f22_7 : decode cJ5_append_e1f22 7 = .ok (.iload_n 2, 1) := by decide +kernel
theorem dJ5_append_e1f22_8 : decode cJ5_append_e1f22 8 = .ok (.iload_n 3, 1) := by decide +kernel
theorem dJ5_append_e1f22_9 : decode cJ5_append_e1f22 9 = .ok (.aload_n 1, 1) := by decide +kernel
theorem dJ5_append_e1f22_10 : decode cJ5_append_e1f22 10 = .ok (.invokeinterface 47 1, 5) := by decide +kernel
theorem dJ5_append_e1f22_15 : decode cJ5_append_e1f22 15 = .ok (.getstatic 183, 3) := by decide +kernel
theorem dJ5_append_e1f22_18 : decode cJ5_append_e1f22 18 = .ok (.invokestatic 161, 3) := by decide +kernel
theorem dJ5_append_e1f22_21 : decode cJ5_append_e1f22 21 = .ok (.pop, 1) := by decide +kernel
theorem dJ5_append_e1f22_22 : decode cJ5_append_e1f22 22 = .ok (.iload_n 3, 1) := by decide +kernel
theorem dJ5_append_e1f22_23 : decode cJ5_append_e1f22 23 = .ok (.iload_n 2, 1) := by decide +kernel
theorem dJ5_append_e1f22_24 : decode cJ5_append_e1f22 24 = .ok (.isub, 1) := by decide +kernel
theorem dJ5_append_e1f22_25 : decode cJ5_append_e1f22 25 = .ok (.istore 4, 2) := by decide +kernel
theorem dJ5_append_e1f22_27 : decode cJ5_append_e1f22 27 = .ok (.aload_n 0, 1) := by decide +kernel
theorem dJ5_append_e1f22_28 : decode cJ5_append_e1f22 28 = .ok (.aload_n 0, 1) := by decide +kernel
theorem dJ5_append_e1f22_29 : decode cJ5_append_e1f22 29 = .ok (.getfield 79, 3) := by decide +kernel
theorem dJ5_append_e1f22_32 : decode cJ5_append_e1f22 32 = .ok (.iload 4, 2) := by decide +kernel
theorem dJ5_append_e1f22_34 : decode cJ5_append_e1f22 34 = .ok (.iadd, 1) := by decide +kernel
theorem dJ5_append_e1f22_35 : decode cJ5_append_e1f22 35 = .ok (.invokevirtual 100, 3) := by decide +kernel
theorem dJ5_append_e1f22_38 : decode cJ5_append_e1f22 38 = .ok (.aload_n 1, 1) := by decide +kernel
theorem dJ5_append_e1f22_39 : decode cJ5_append_e1f22 39 = .ok (.instanceof 1, 3) := by decide +kernel
theorem dJ5_append_e1f22_42 : decode cJ5_append_e1f22 42 = .ok (.ifCond .eq 16, 3) := by decide +kernel
theorem dJ5_append_e1f22_45 : decode cJ5_append_e1f22 45 = .ok (.aload_n 0, 1) := by decide +kernel
theorem dJ5_append_e1f22_46 : decode cJ5_append_e1f22 46 = .ok (.aload_n 1, 1) := by decide +kernel
theorem dJ5_append_e1f22_47 : decode cJ5_append_e1f22 47 = .ok (.checkcast 1, 3) := by decide +kernel
theorem dJ5_append_e1f22_50 : decode cJ5_append_e1f22 50 = .ok (.iload_n 2, 1) := by decide +kernel
theorem dJ5_append_e1f22_51 : decode cJ5_append_e1f22 51 = .ok (.iload_n 3, 1) := by decide +kernel
theorem dJ5_append_e1f22_52 : decode cJ5_append_e1f22 52 = .ok (.invokevirtual 232, 3) := by decide +kernel
theorem dJ5_append_e1f22_55 : decode cJ5_append_e1f22 55 = .ok (.goto 10, 3) := by decide +kernel
theorem dJ5_append_e1f22_58 : decode cJ5_append_e1f22 58 = .ok (.aload_n 0, 1) := by decide +kernel
theorem dJ5_append_e1f22_59 : decode cJ5_append_e1f22 59 = .ok (.aload_n 1, 1) := by decide +kernel
theorem dJ5_append_e1f22_60 : decode cJ5_append_e1f22 60 = .ok (.iload_n 2, 1) := by decide +kernel
theorem dJ5_append_e1f22_61 : decode cJ5_append_e1f22 61 = .ok (.iload_n 3, 1) := by decide +kernel
theorem dJ5_append_e1f22_62 : decode cJ5_append_e1f22 62 = .ok (.invokevirtual 236, 3) := by decide +kernel
theorem dJ5_append_e1f22_65 : decode cJ5_append_e1f22 65 = .ok (.aload_n 0, 1) := by decide +kernel
theorem dJ5_append_e1f22_66 : decode cJ5_append_e1f22 66 = .ok (.areturn, 1) := by decide +kernel
theorem dJ5_append_a1634_0 : decode cJ5_append_a1634 0 = .ok (.aload_n 1, 1) := by decide +kernel
theorem dJ5_append_a1634_1 : decode cJ5_append_a1634 1 = .ok (.arraylength, 1) := by decide +kernel
theorem dJ5_append_a1634_2 : decode cJ5_append_a1634 2 = .ok (.istore_n 2, 1) := by decide +kernel
theorem dJ5_append_a1634_3 : decode cJ5_append_a1634 3 = .ok (.aload_n 0, 1) := by decide +kernel
theorem dJ5_append_a1634_4 : decode cJ5_append_a1634 4 = .ok (.aload_n 0, 1) := by decide +kernel
theorem dJ5_append_a1634_5 : decode cJ5_append_a1634 5 = .ok (.getfield 79, 3) := by decide +kernel
theorem dJ5_append_a1634_8 : decode cJ5_append_a1634 8 = .ok (.iload_n 2, 1) := by decide +kernel
theorem dJ5_append_a1634_9 : decode cJ5_append_a1634 9 = .ok (.iadd, 1) := by decide +kernel
theorem dJ5_append_a1634_10 : decode cJ5_append_a1634 10 = .ok (.invokevirtual 100, 3) := by decide +kernel
theorem dJ5_append_a1634_13 : decode cJ5_append_a1634 13 = .ok (.aload_n 0, 1) := by decide +kernel
theorem dJ5_append_a1634_14 : decode cJ5_append_a1634 14 = .ok (.aload_n 1, 1) := by decide +kernel
theorem dJ5_append_a1634_15 : decode cJ5_append_a1634 15 = .ok (.iconst 0, 1) := by decide +kernel
theorem dJ5_append_a1634_16 : decode cJ5_append_a1634 16 = .ok (.iload_n 2, 1) := by decide +kernel
theorem dJ5_append_a1634_17 : decode cJ5_append_a1634 17 = .ok (.invokevirtual 239, 3) := by decide +kernel
theorem dJ5_append_a1634_20 : decode cJ5_append_a1634 20 = .ok (.aload_n 0, 1) := by decide +kernel
theorem dJ5_append_a1634_21 : decode cJ5_append_a1634 21 = .ok (.areturn, 1) := by decide +kernel
theorem dJ5_append_3fe6f_0 : decode cJ5_append_3fe6f 0 = .ok (.aload_n 0, 1) := by decide +kernel
theorem dJ5_append_3fe6f_1 : decode cJ5_append_3fe6f 1 = .ok (.aload_n 0, 1) := by decide +kernel
theorem dJ5_append_3fe6f_2 : decode cJ5_append_3fe6f 2 = .ok (.getfield 79, 3) := by decide +kernel
theorem dJ5_append_3fe6f_5 : decode cJ5_append_3fe6f 5 = .ok (.iconst 1, 1) := by decide +kernel
theorem dJ5_append_3fe6f_6 : decode cJ5_append_3fe6f 6 = .ok (.iadd, 1) := by decide +kernel
theorem dJ5_append_3fe6f_7 : decode cJ5_append_3fe6f 7 = .ok (.invokevirtual 100, 3) := by decide +kernel
theorem dJ5_append_3fe6f_10 : decode cJ5_append_3fe6f 10 = .ok (.aload_n 0, 1) := by decide +kernel
theorem dJ5_append_3fe6f_11 : decode cJ5_append_3fe6f 11 = .ok (.invokevirtual 83, 3) := by decide +kernel
theorem dJ5_append_3fe6f_14 : decode cJ5_append_3fe6f 14 = .ok (.ifCond .eq 31, 3) := by decide +kernel
theorem dJ5_append_3fe6f_17 : decode cJ5_append_3fe6f 17 = .ok (.iload_n 1, 1) := by decide +kernel
theorem dJ5_append_3fe6f_18 : decode cJ5_append_3fe6f 18 = .ok (.invokestatic 191, 3) := by decide +kernel
theorem dJ5_append_3fe6f_21 : decode cJ5_append_3fe6f 21 = .ok (.ifCond .eq 24, 3) := by decide +kernel
theorem dJ5_append_3fe6f_24 : decode cJ5_append_3fe6f 24 = .ok (.aload_n 0, 1) := by decide +kernel
theorem dJ5_append_3fe6f_25 : decode cJ5_append_3fe6f 25 = .ok (.getfield 15, 3) := by decide +kernel
theorem dJ5_append_3fe6f_28 : decode cJ5_append_3fe6f 28 = .ok (.aload_n 0, 1) := by decide +kernel
theorem dJ5_append_3fe6f_29 : decode cJ5_append_3fe6f 29 = .ok (.dup, 1) := by decide +kernel
theorem dJ5_append_3fe6f_30 : decode cJ5_append_3fe6f 30 = .ok (.getfield 79, 3) := by decide +kernel
theorem dJ5_append_3fe6f_33 : decode cJ5_append_3fe6f 33 = .ok (.dup_x1, 1) := by decide +kernel
theorem dJ5_append_3fe6f_34 : decode cJ5_append_3fe6f 34 = .ok (.iconst 1, 1) := by decide +kernel
theorem dJ5_append_3fe6f_35 : decode cJ5_append_3fe6f 35 = .ok (.iadd, 1) := by decide +kernel
theorem dJ5_append_3fe6f_36 : decode cJ5_append_3fe6f 36 = .ok (.putfield 79, 3) := by decide +kernel
theorem dJ5_append_3fe6f_39 : decode cJ5_append_3fe6f 39 = .ok (.iload_n 1, 1) := by decide +kernel
theorem dJ5_append_3fe6f_40 : decode cJ5_append_3fe6f 40 = .ok (.i2b, 1) := by decide +kernel
theorem dJ5_append_3fe6f_41 : decode cJ5_append_3fe6f 41 = .ok (.bastore, 1) := by decide +kernel
theorem dJ5_append_3fe6f_42 : decode cJ5_append_3fe6f 42 = .ok (.goto 33, 3) := by decide +kernel
theorem dJ5_append_3fe6f_45 : decode cJ5_append_3fe6f 45 = .ok (.aload_n 0, 1) := by decide +kernel
theorem dJ5_append_3fe6f_46 : decode cJ5_append_3fe6f 46 = .ok (.invokevirtual 83, 3) := by decide +kernel
theorem dJ5_append_3fe6f_49 : decode cJ5_append_3fe6f 49 = .ok (.ifCond .eq 7, 3) := by decide +kernel
theorem dJ5_append_3fe6f_52 : decode cJ5_append_3fe6f 52 = .ok (.aload_n 0, 1) := by decide +kernel
theorem dJ5_append_3fe6f_53 : decode cJ5_append_3fe6f 53 = .ok (.invokevirtual 195, 3) := by decide +kernel
theorem dJ5_append_3fe6f_56 : decode cJ5_append_3fe6f 56 = .ok (.aload_n 0, 1) := by decide +kernel
theorem dJ5_append_3fe6f_57 : decode cJ5_append_3fe6f 57 = .ok (.getfield 15, 3) := by decide +kernel
theorem dJ5_append_3fe6f_60 : decode cJ5_append_3fe6f 60 = .ok (.aload_n 0, 1) := by decide +kernel
theorem dJ5_append_3fe6f_61 : decode cJ5_append_3fe6f 61 = .ok (.dup, 1) := by decide +kernel
theorem dJ5_append_3fe6f_62 : decode cJ5_append_3fe6f 62 = .ok (.getfield 79, 3) := by decide +kernel
theorem dJ5_append_3fe6f_65 : decode cJ5_append_3fe6f 65 = .ok (.dup_x1, 1) := by decide +kernel
theorem dJ5_append_3fe6f_66 : decode cJ5_append_3fe6f 66 = .ok (.iconst 1, 1) := by decide +kernel
theorem dJ5_append_3fe6f_67 : decode cJ5_append_3fe6f 67 = .ok (.iadd, 1) := by decide +kernel
theorem dJ5_append_3fe6f_68 : decode cJ5_append_3fe6f 68 = .ok (.putfield 79, 3) := by decide +kernel
theorem dJ5_append_3fe6f_71 : decode cJ5_append_3fe6f 71 = .ok (.iload_n 1, 1) := by decide +kernel
theorem dJ5_append_3fe6f_72 : decode cJ5_append_3fe6f 72 = .ok (.invokestatic 197, 3) := by decide +kernel
theorem dJ5_append_3fe6f_75 : decode cJ5_append_3fe6f 75 = .ok (.aload_n 0, 1) := by decide +kernel
theorem dJ5_append_3fe6f_76 : decode cJ5_append_3fe6f 76 = .ok (.areturn, 1) := by decide +kernel
theorem dJ5_append_c97b9_0 : decode cJ5_append_c97b9 0 = .ok (.aload_n 0, 1) := by decide +kernel
theorem dJ5_append_c97b9_1 : decode cJ5_append_c97b9 1 = .ok (.getfield 79, 3) := by decide +kernel
theorem dJ5_append_c97b9_4 : decode cJ5_append_c97b9 4 = .ok (.istore_n 2, 1) := by decide +kernel
theorem dJ5_append_c97b9_5 : decode cJ5_append_c97b9 5 = .ok (.iload_n 2, 1) := by decide +kernel
theorem dJ5_append_c97b9_6 : decode cJ5_append_c97b9 6 = .ok (.iload_n 1, 1) := by decide +kernel
theorem dJ5_append_c97b9_7 : decode cJ5_append_c97b9 7 = .ok (.invokestatic 245, 3) := by decide +kernel
theorem dJ5_append_c97b9_10 : decode cJ5_append_c97b9 10 = .ok (.iadd, 1) := by decide +kernel
theorem dJ5_append_c97b9_11 : decode cJ5_append_c97b9 11 = .ok (.istore_n 3, 1) := by decide +kernel
theorem dJ5_append_c97b9_12 : decode cJ5_append_c97b9 12 = .ok (.aload_n 0, 1) := by decide +kernel
theorem dJ5_append_c97b9_13 : decode cJ5_append_c97b9 13 = .ok (.iload_n 3, 1) := by decide +kernel
theorem dJ5_append_c97b9_14 : decode cJ5_append_c97b9 14 = .ok (.invokevirtual 100, 3) := by decide +kernel
theorem dJ5_append_c97b9_17 : decode cJ5_append_c97b9 17 = .ok (.aload_n 0, 1) := by decide +kernel
theorem dJ5_append_c97b9_18 : decode cJ5_append_c97b9 18 = .ok (.invokevirtual 83, 3) := by decide +kernel
theorem dJ5_append_c97b9_21 : decode cJ5_append_c97b9 21 = .ok (.ifCond .eq 16, 3) := by decide +kernel
theorem dJ5_append_c97b9_24 : decode cJ5_append_c97b9 24 = .ok (.iload_n 1, 1) := by decide +kernel
theorem dJ5_append_c97b9_25 : decode cJ5_append_c97b9 25 = .ok (.iload_n 3, 1) := by decide +kernel
theorem dJ5_append_c97b9_26 : decode cJ5_append_c97b9 26 = .ok (.aload_n 0, 1) := by decide +kernel
theorem dJ5_append_c97b9_27 : decode cJ5_append_c97b9 27 = .ok (.getfield 15, 3) := by decide +kernel
theorem dJ5_append_c97b9_30 : decode cJ5_append_c97b9 30 = .ok (.invokestatic 248, 3) := by decide +kernel
theorem dJ5_append_c97b9_33 : decode cJ5_append_c97b9 33 = .ok (.pop, 1) := by decide +kernel
theorem dJ5_append_c97b9_34 : decode cJ5_append_c97b9 34 = .ok (.goto 14, 3) := by decide +kernel
theorem dJ5_append_c97b9_37 : decode cJ5_append_c97b9 37 = .ok (.iload_n 1, 1) := by decide +kernel
theorem dJ5_append_c97b9_38 : decode cJ5_append_c97b9 38 = .ok (.iload_n 2, 1) := by decide +kernel
theorem dJ5_append_c97b9_39 : decode cJ5_append_c97b9 39 = .ok (.iload_n 3, 1) := by decide +kernel
theorem dJ5_append_c97b9_40 : decode cJ5_append_c97b9 40 = .ok (.aload_n 0, 1) := by decide +kernel
theorem dJ5_append_c97b9_41 : decode cJ5_append_c97b9 41 = .ok (.getfield 15, 3) := by decide +kernel
theorem dJ5_append_c97b9_44 : decode cJ5_append_c97b9 44 = .ok (.invokestatic 251, 3) := by decide +kernel
theorem dJ5_append_c97b9_47 : decode cJ5_append_c97b9 47 = .ok (.pop, 1) := by decide +kernel
theorem dJ5_append_c97b9_48 : decode cJ5_append_c97b9 48 = .ok (.aload_n 0, 1) := by decide +kernel
theorem dJ5_append_c97b9_49 : decode cJ5_append_c97b9 49 = .ok (.iload_n 3, 1) := by decide +kernel
theorem dJ5_append_c97b9_50 : decode cJ5_append_c97b9 50 = .ok (.putfield 79, 3) := by decide +kernel
theorem dJ5_append_c97b9_53 : decode cJ5_append_c97b9 53 = .ok (.aload_n 0, 1) := by decide +kernel
theorem dJ5_append_c97b9_54 : decode cJ5_append_c97b9 54 = .ok (.areturn, 1) := by decide +kernel
theorem dJ5_append_66267_0 : decode cJ5_append_66267 0 = .ok (.aload_n 0, 1) := by decide +kernel
theorem dJ5_append_66267_1 : decode cJ5_append_66267 1 = .ok (.getfield 79, 3) := by decide +kernel
theorem dJ5_append_66267_4 : decode cJ5_append_66267 4 = .ok (.istore_n 3, 1) := by decide +kernel
theorem dJ5_append_66267_5 : decode cJ5_append_66267 5 = .ok (.iload_n 3, 1) := by decide +kernel
theorem dJ5_append_66267_6 : decode cJ5_append_66267 6 = .ok (.lload_n 1, 1) := by decide +kernel
theorem dJ5_append_66267_7 : decode cJ5_append_66267 7 = .ok (.invokestatic 254, 3) := by decide +kernel
theorem dJ5_append_66267_10 : decode cJ5_append_66267 10 = .ok (.iadd, 1) := by decide +kernel
theorem dJ5_append_66267_11 : decode cJ5_append_66267 11 = .ok (.istore 4, 2) := by decide +kernel
theorem dJ5_append_66267_13 : decode cJ5_append_66267 13 = .ok (.aload_n 0, 1) := by decide +kernel
theorem dJ5_append_66267_14 : decode cJ5_append_66267 14 = .ok (.iload 4, 2) := by decide +kernel
theorem dJ5_append_66267_16 : decode cJ5_append_66267 16 = .ok (.invokevirtual 100, 3) := by decide +kernel
theorem dJ5_append_66267_19 : decode cJ5_append_66267 19 = .ok (.aload_n 0, 1) := by decide +kernel
theorem dJ5_append_66267_20 : decode cJ5_append_66267 20 = .ok (.invokevirtual 83, 3) := by decide +kernel
theorem dJ5_append_66267_23 : decode cJ5_append_66267 23 = .ok (.ifCond .eq 17, 3) := by decide +kernel
theorem dJ5_append_66267_26 : decode cJ5_append_66267 26 = .ok (.lload_n 1, 1) := by decide +kernel
theorem dJ5_append_66267_27 : decode cJ5_append_66267 27 = .ok (.iload 4, 2) := by decide +kernel
theorem dJ5_append_66267_29 : decode cJ5_append_66267 29 = .ok (.aload_n 0, 1) := by decide +kernel
theorem dJ5_append_66267_30 : decode cJ5_append_66267 30 = .ok (.getfield 15, 3) := by decide +kernel
theorem dJ5_append_66267_33 : decode cJ5_append_66267 33 = .ok (.invokestatic 259, 3) := by decide +kernel
theorem dJ5_append_66267_36 : decode cJ5_append_66267 36 = .ok (.pop, 1) := by decide +kernel
theorem dJ5_append_66267_37 : decode cJ5_append_66267 37 = .ok (.goto 15, 3) := by decide +kernel
theorem dJ5_append_66267_40 : decode cJ5_append_66267 40 = .ok (.lload_n 1, 1) := by decide +kernel
theorem dJ5_append_66267_41 : decode cJ5_append_66267 41 = .ok (.iload_n 3, 1) := by decide +kernel
theorem dJ5_append_66267_42 : decode cJ5_append_66267 42 = .ok (.iload 4, 2) := by decide +kernel
theorem dJ5_append_66267_44 : decode cJ5_append_66267 44 = .ok (.aload_n 0, 1) := by decide +kernel
theorem dJ5_append_66267_45 : decode cJ5_append_66267 45 = .ok (.getfield 15, 3) := by decide +kernel
theorem dJ5_append_66267_48 : decode cJ5_append_66267 48 = .ok (.invokestatic 262, 3) := by decide +kernel
theorem dJ5_append_66267_51 : decode cJ5_append_66267 51 = .ok (.pop, 1) := by decide +kernel
theorem dJ5_append_66267_52 : decode cJ5_append_66267 52 = .ok (.aload_n 0, 1) := by decide +kernel
theorem dJ5_append_66267_53 : decode cJ5_append_66267 53 = .ok (.iload 4, 2) := by decide +kernel
theorem dJ5_append_66267_55 : decode cJ5_append_66267 55 = .ok (.putfield 79, 3) := by decide +kernel
theorem dJ5_append_66267_58 : decode cJ5_append_66267 58 = .ok (.aload_n 0, 1) := by decide +kernel
theorem dJ5_append_66267_59 : decode cJ5_append_66267 59 = .ok (.areturn, 1) := by decide +kernel
theorem dJ5_append_b089e_0 : decode cJ5_append_b089e 0 = .ok (.fload_n 1, 1) := by decide +kernel
theorem dJ5_append_b089e_1 : decode cJ5_append_b089e 1 = .ok (.aload_n 0, 1) := by decide +kernel
theorem dJ5_append_b089e_2 : decode cJ5_append_b089e 2 = .ok (.invokestatic 265, 3) := by decide +kernel
theorem dJ5_append_b089e_5 : decode cJ5_append_b089e 5 = .ok (.pop, 1) := by decide +kernel
theorem dJ5_append_b089e_6 : decode cJ5_append_b089e 6 = .ok (.goto 13, 3) := by decide +kernel
theorem dJ5_append_b089e_9 : decode cJ5_append_b089e 9 = .ok (.astore_n 2, 1) := by decide +kernel
theorem dJ5_append_b089e_10 : decode cJ5_append_b089e 10 = .ok (.new 273, 3) := by decide +kernel
theorem dJ5_append_b089e_13 : decode cJ5_append_b089e 13 = .ok (.dup, 1) := by decide +kernel
theorem dJ5_append_b089e_14 : decode cJ5_append_b089e 14 = .ok (.aload_n 2, 1) := by decide +kernel
theorem dJ5_append_b089e_15 : decode cJ5_append_b089e 15 = .ok (.invokespecial 275, 3) := by decide +kernel
theorem dJ5_append_b089e_18 : decode cJ5_append_b089e 18 = .ok (.athrow, 1) := by decide +kernel
theorem dJ5_append_b089e_19 : decode cJ5_append_b089e 19 = .ok (.aload_n 0, 1) := by decide +kernel
theorem dJ5_append_b089e_20 : decode cJ5_append_b089e 20 = .ok (.areturn, 1) := by decide +kernel
theorem dJ5_append_9cb98_0 : decode cJ5_append_9cb98 0 = .ok (.dload_n 1, 1) := by decide +kernel
theorem dJ5_append_9cb98_1 : decode cJ5_append_9cb98 1 = .ok (.aload_n 0, 1) := by decide +kernel
theorem dJ5_append_9cb98_2 : decode cJ5_append_9cb98 2 = .ok (.invokestatic 278, 3) := by decide +kernel
theorem dJ5_append_9cb98_5 : decode cJ5_append_9cb98 5 = .ok (.pop, 1) := by decide +kernel
theorem dJ5_append_9cb98_6 : decode cJ5_append_9cb98 6 = .ok (.goto 13, 3) := by decide +kernel
theorem dJ5_append_9cb98_9 : decode cJ5_append_9cb98 9 = .ok (.astore_n 3, 1) := by decide +kernel
theorem dJ5_append_9cb98_10 : decode cJ5_append_9cb98 10 = .ok (.new 273, 3) := by decide +kernel
theorem dJ5_append_9cb98_13 : decode cJ5_append_9cb98 13 = .ok (.dup, 1) := by decide +kernel
theorem dJ5_append_9cb98_14 : decode cJ5_append_9cb98 14 = .ok (.aload_n 3, 1) := by decide +kernel
theorem dJ5_append_9cb98_15 : decode cJ5_append_9cb98 15 = .ok (.invokespecial 275, 3) := by decide +kernel
theorem dJ5_append_9cb98_18 : decode cJ5_append_9cb98 18 = .ok (.athrow, 1) := by decide +kernel
theorem dJ5_append_9cb98_19 : decode cJ5_append_9cb98 19 = .ok (.aload_n 0, 1) := by decide +kernel
theorem dJ5_append_9cb98_20 : decode cJ5_append_9cb98 20 = .ok (.areturn, 1) := by decide +kernel
theorem dJ5_getValue_6d5f1_0 : decode cJ5_getValue_6d5f1 0 = .ok (.aload_n 0, 1) := by decide +kernel
theorem dJ5_getValue_6d5f1_1 : decode cJ5_getValue_6d5f1 1 = .ok (.getfield 15, 3) := by decide +kernel
theorem dJ5_getValue_6d5f1_4 : decode cJ5_getValue_6d5f1 4 = .ok (.areturn, 1) := by decide +kernel
theorem dJ5_getBytes_840e7_0 : decode cJ5_getBytes_840e7 0 = .ok (.aload_n 0, 1) := by decide +kernel
theorem dJ5_getBytes_840e7_1 : decode cJ5_getBytes_840e7 1 = .ok (.getfield 22, 3) := by decide +kernel
theorem dJ5_getBytes_840e7_4 : decode cJ5_getBytes_840e7 4 = .ok (.iload_n 3, 1) := by decide +kernel
theorem dJ5_getBytes_840e7_5 : decode cJ5_getBytes_840e7 5 = .ok (.if_icmp .ne 24, 3) := by decide +kernel
theorem dJ5_getBytes_840e7_8 : decode cJ5_getBytes_840e7 8 = .ok (.aload_n 0, 1) := by decide +kernel
theorem dJ5_getBytes_840e7_9 : decode cJ5_getBytes_840e7 9 = .ok (.getfield 15, 3) := by decide +kernel
theorem dJ5_getBytes_840e7_12 : decode cJ5_getBytes_840e7 12 = .ok (.iconst 0, 1) := by decide +kernel
theorem dJ5_getBytes_840e7_13 : decode cJ5_getBytes_840e7 13 = .ok (.aload_n 1, 1) := by decide +kernel
theorem dJ5_getBytes_840e7_14 : decode cJ5_getBytes_840e7 14 = .ok (.iload_n 2, 1) := by decide +kernel
theorem dJ5_getBytes_840e7_15 : decode cJ5_getBytes_840e7 15 = .ok (.iload_n 3, 1) := by decide +kernel
theorem dJ5_getBytes_840e7_16 : decode cJ5_getBytes_840e7 16 = .ok (.ishl, 1) := by decide +kernel
theorem dJ5_getBytes_840e7_17 : decode cJ5_getBytes_840e7 17 = .ok (.aload_n 0, 1) := by decide +kernel
theorem dJ5_getBytes_840e7_18 : decode cJ5_getBytes_840e7 18 = .ok (.getfield 79, 3) := by decide +kernel
theorem dJ5_getBytes_840e7_21 : decode cJ5_getBytes_840e7 21 = .ok (.iload_n 3, 1) := by decide +kernel
theorem dJ5_getBytes_840e7_22 : decode cJ5_getBytes_840e7 22 = .ok (.ishl, 1) := by decide +kernel
theorem dJ5_getBytes_840e7_23 : decode cJ5_getBytes_840e7 23 = .ok (.invokestatic 309, 3) := by decide +kernel
theorem dJ5_getBytes_840e7_26 : decode cJ5_getBytes_840e7 26 = .ok (.goto 17, 3) := by decide +kernel
theorem dJ5_getBytes_840e7_29 : decode cJ5_getBytes_840e7 29 = .ok (.aload_n 0, 1) := by decide +kernel
theorem dJ5_getBytes_840e7_30 : decode cJ5_getBytes_840e7 30 = .ok (.getfield 15, 3) := by decide +kernel
theorem dJ5_getBytes_840e7_33 : decode cJ5_getBytes_840e7 33 = .ok (.iconst 0, 1) := by decide +kernel
theorem dJ5_getBytes_840e7_34 : decode cJ5_getBytes_840e7 34 = .ok (.aload_n 1, 1) := by decide +kernel
theorem dJ5_getBytes_840e7_35 : decode cJ5_getBytes_840e7 35 = .ok (.iload_n 2, 1) := by decide +kernel
theorem dJ5_getBytes_840e7_36 : decode cJ5_getBytes_840e7 36 = .ok (.aload_n 0, 1) := by decide +kernel
theorem dJ5_getBytes_840e7_37 : decode cJ5_getBytes_840e7 37 = .ok (.getfield 79, 3) := by decide +kernel
theorem dJ5_getBytes_840e7_40 : decode cJ5_getBytes_840e7 40 = .ok (.invokestatic 125, 3) := by decide +kernel
theorem dJ5_getBytes_840e7_43 : decode cJ5_getBytes_840e7 43 = .ok (.return_, 1) := by decide +kernel
theorem dJ5_getCoder_7d493_0 : decode cJ5_getCoder_7d493 0 = .ok (.getstatic 18, 3) := by decide +kernel
theorem dJ5_getCoder_7d493_3 : decode cJ5_getCoder_7d493 3 = .ok (.ifCond .eq 10, 3) := by decide +kernel
theorem dJ5_getCoder_7d493_6 : decode cJ5_getCoder_7d493 6 = .ok (.aload_n 0, 1) := by decide +kernel
theorem dJ5_getCoder_7d493_7 : decode cJ5_getCoder_7d493 7 = .ok (.getfield 22, 3) := by decide +kernel
theorem dJ5_getCoder_7d493_10 : decode cJ5_getCoder_7d493 10 = .ok (.goto 4, 3) := by decide +kernel
theorem dJ5_getCoder_7d493_13 : decode cJ5_getCoder_7d493 13 = .ok (.iconst 1, 1) := by decide +kernel
theorem dJ5_getCoder_7d493_14 : decode cJ5_getCoder_7d493 14 = .ok (.ireturn, 1) := by decide +kernel
theorem dJ5_isLatin1_aae02_0 : decode cJ5_isLatin1_aae02 0 = .ok (.getstatic 18, 3) := by decide +kernel
theorem dJ5_isLatin1_aae02_3 : decode cJ5_isLatin1_aae02 3 = .ok (.ifCond .eq 14, 3) := by decide +kernel
theorem dJ5_isLatin1_aae02_6 : decode cJ5_isLatin1_aae02 6 = .ok (.aload_n 0, 1) := by decide +kernel
theorem dJ5_isLatin1_aae02_7 : decode cJ5_isLatin1_aae02 7 = .ok (.getfield 22, 3) := by decide +kernel
theorem dJ5_isLatin1_aae02_10 : decode cJ5_isLatin1_aae02 10 = .ok (.ifCond .ne 7, 3) := by decide +kernel
theorem dJ5_isLatin1_aae02_13 : decode cJ5_isLatin1_aae02 13 = .ok (.iconst 1, 1) := by decide +kernel
theorem dJ5_isLatin1_aae02_14 : decode cJ5_isLatin1_aae02 14 = .ok (.goto 4, 3) := by decide +kernel
theorem dJ5_isLatin1_aae02_17 : decode cJ5_isLatin1_aae02 17 = .ok (.iconst 0, 1) := by decide +kernel
theorem dJ5_isLatin1_aae02_18 : decode cJ5_isLatin1_aae02 18 = .ok (.ireturn, 1) := by decide +kernel
theorem dJ5_inflateIfNeededFor_a7421_0 : decode cJ5_inflateIfNeededFor_a7421 0 = .ok (.getstatic 18, 3) := by decide +kernel
theorem dJ5_inflateIfNeededFor_a7421_3 : decode cJ5_inflateIfNeededFor_a7421 3 = .ok (.ifCond .eq 18, 3) := by decide +kernel
theorem dJ5_inflateIfNeededFor_a7421_6 : decode cJ5_inflateIfNeededFor_a7421 6 = .ok (.aload_n 0, 1) := by decide +kernel
theorem dJ5_inflateIfNeededFor_a7421_7 : decode cJ5_inflateIfNeededFor_a7421 7 = .ok (.getfield 22, 3) := by decide +kernel
theorem dJ5_inflateIfNeededFor_a7421_10 : decode cJ5_inflateIfNeededFor_a7421 10 = .ok (.aload_n 1, 1) := by decide +kernel
theorem dJ5_inflateIfNeededFor_a7421_11 : decode cJ5_inflateIfNeededFor_a7421 11 = .ok (.invokevirtual 40, 3) := by decide +kernel
theorem dJ5_inflateIfNeededFor_a7421_14 : decode cJ5_inflateIfNeededFor_a7421 14 = .ok (.if_icmp .eq 7, 3) := by decide +kernel
theorem dJ5_inflateIfNeededFor_a7421_17 : decode cJ5_inflateIfNeededFor_a7421 17 = .ok (.aload_n 0, 1) := by decide +kernel
theorem dJ5_inflateIfNeededFor_a7421_18 : decode cJ5_inflateIfNeededFor_a7421 18 = .ok (.invokevirtual 195, 3) := by decide +kernel
theorem dJ5_inflateIfNeededFor_a7421_21 : decode cJ5_inflateIfNeededFor_a7421 21 = .ok (.return_, 1) := by decide +kernel
theorem dJ5_inflateIfNeededFor_56e69_0 : decode cJ5_inflateIfNeededFor_56e69 0 = .ok (.getstatic 18, 3) := by decide +kernel
theorem dJ5_inflateIfNeededFor_56e69_3 : decode cJ5_inflateIfNeededFor_56e69 3 = .ok (.ifCond .eq 18, 3) := by decide +kernel
theorem dJ5_inflateIfNeededFor_56e69_6 : decode cJ5_inflateIfNeededFor_56e69 6 = .ok (.aload_n 0, 1) := by decide +kernel
theorem dJ5_inflateIfNeededFor_56e69_7 : decode cJ5_inflateIfNeededFor_56e69 7 = .ok (.getfield 22, 3) := by decide +kernel
theorem dJ5_inflateIfNeededFor_56e69_10 : decode cJ5_inflateIfNeededFor_56e69 10 = .ok (.aload_n 1, 1) := by decide +kernel
theorem dJ5_inflateIfNeededFor_56e69_11 : decode cJ5_inflateIfNeededFor_56e69 11 = .ok (.invokevirtual 70, 3) := by decide +kernel
theorem dJ5_inflateIfNeededFor_56e69_14 : decode cJ5_inflateIfNeededFor_56e69 14 = .ok (.if_icmp .eq 7, 3) := by decide +kernel
theorem dJ5_inflateIfNeededFor_56e69_17 : decode cJ5_inflateIfNeededFor_56e69 17 = .ok (.aload_n 0, 1) := by decide +kernel
theorem dJ5_inflateIfNeededFor_56e69_18 : decode cJ5_inflateIfNeededFor_56e69 18 = .ok (.invokevirtual 195, 3) := by decide +kernel
theorem dJ5_inflateIfNeededFor_56e69_21 : decode cJ5_inflateIfNeededFor_56e69 21 = .ok (.return_, 1) := by decide +kernel
theorem dJ5_putStringAt_47b60_0 : decode cJ5_putStringAt_47b60 0 = .ok (.aload_n 0, 1) := by decide +kernel
theorem dJ5_putStringAt_47b60_1 : decode cJ5_putStringAt_47b60 1 = .ok (.aload_n 2, 1) := by decide +kernel
theorem dJ5_putStringAt_47b60_2 : decode cJ5_putStringAt_47b60 2 = .ok (.invokevirtual 397, 3) := by decide +kernel
theorem dJ5_putStringAt_47b60_5 : decode cJ5_putStringAt_47b60 5 = .ok (.aload_n 2, 1) := by decide +kernel
theorem dJ5_putStringAt_47b60_6 : decode cJ5_putStringAt_47b60 6 = .ok (.aload_n 0, 1) := by decide +kernel
theorem dJ5_putStringAt_47b60_7 : decode cJ5_putStringAt_47b60 7 = .ok (.getfield 15, 3) := by decide +kernel
theorem dJ5_putStringAt_47b60_10 : decode cJ5_putStringAt_47b60 10 = .ok (.iload_n 1, 1) := by decide +kernel
theorem dJ5_putStringAt_47b60_11 : decode cJ5_putStringAt_47b60 11 = .ok (.aload_n 0, 1) := by decide +kernel
theorem dJ5_putStringAt_47b60_12 : decode cJ5_putStringAt_47b60 12 = .ok (.getfield 22, 3) := by decide +kernel
theorem dJ5_putStringAt_47b60_15 : decode cJ5_putStringAt_47b60 15 = .ok (.invokevirtual 399, 3) := by decide +kernel
theorem dJ5_putStringAt_47b60_18 : decode cJ5_putStringAt_47b60 18 = .ok (.return_, 1) := by decide +kernel
theorem dJ5_appendChars_0ad70_0 : decode cJ5_appendChars_0ad70 0 = .ok (.aload_n 0, 1) := by decide +kernel
theorem dJ5_appendChars_0ad70_1 : decode cJ5_appendChars_0ad70 1 = .ok (.getfield 79, 3) := by decide +kernel
theorem dJ5_appendChars_0ad70_4 : decode cJ5_appendChars_0ad70 4 = .ok (.istore 4, 2) := by decide +kernel
theorem dJ5_appendChars_0ad70_6 : decode cJ5_appendChars_0ad70 6 = .ok (.aload_n 0, 1) := by decide +kernel
theorem dJ5_appendChars_0ad70_7 : decode cJ5_appendChars_0ad70 7 = .ok (.invokevirtual 83, 3) := by decide +kernel
theorem dJ5_appendChars_0ad70_10 : decode cJ5_appendChars_0ad70 10 = .ok (.ifCond .eq 97, 3) := by decide +kernel
theorem dJ5_appendChars_0ad70_13 : decode cJ5_appendChars_0ad70 13 = .ok (.aload_n 0, 1) := by decide +kernel
theorem dJ5_appendChars_0ad70_14 : decode cJ5_appendChars_0ad70 14 = .ok (.getfield 15, 3) := by decide +kernel
theorem dJ5_appendChars_0ad70_17 : decode cJ5_appendChars_0ad70 17 = .ok (.astore 5, 2) := by decide +kernel
theorem dJ5_appendChars_0ad70_19 : decode cJ5_appendChars_0ad70 19 = .ok (.iload_n 2, 1) := by decide +kernel
theorem dJ5_appendChars_0ad70_20 : decode cJ5_appendChars_0ad70 20 = .ok (.istore 6, 2) := by decide +kernel
theorem dJ5_appendChars_0ad70_22 : decode cJ5_appendChars_0ad70 22 = .ok (.iload 4, 2) := by decide +kernel
theorem dJ5_appendChars_0ad70_24 : decode cJ5_appendChars_0ad70 24 = .ok (.istore 7, 2) := by decide +kernel
theorem dJ5_appendChars_0ad70_26 : decode cJ5_appendChars_0ad70 26 = .ok (.iload 6, 2) := by decide +kernel
theorem dJ5_appendChars_0ad70_28 : decode cJ5_appendChars_0ad70 28 = .ok (.iload_n 3, 1) := by decide +kernel
theorem dJ5_appendChars_0ad70_29 : decode cJ5_appendChars_0ad70 29 = .ok (.if_icmp .ge 75, 3) := by decide +kernel
theorem dJ5_appendChars_0ad70_32 : decode cJ5_appendChars_0ad70 32 = .ok (.aload_n 1, 1) := by decide +kernel
theorem dJ5_appendChars_0ad70_33 : decode cJ5_appendChars_0ad70 33 = .ok (.iload 6, 2) := by decide +kernel
theorem dJ5_appendChars_0ad70_35 : decode cJ5_appendChars_0ad70 35 = .ok (.caload, 1) := by decide +kernel
theorem dJ5_appendChars_0ad70_36 : decode cJ5_appendChars_0ad70 36 = .ok (.istore 8, 2) := by decide +kernel
theorem dJ5_appendChars_0ad70_38 : decode cJ5_appendChars_0ad70 38 = .ok (.iload 8, 2) := by decide +kernel
theorem dJ5_appendChars_0ad70_40 : decode cJ5_appendChars_0ad70 40 = .ok (.invokestatic 191, 3) := by decide +kernel
theorem dJ5_appendChars_0ad70_43 : decode cJ5_appendChars_0ad70 43 = .ok (.ifCond .eq 17, 3) := by decide +kernel
theorem dJ5_appendChars_0ad70_46 : decode cJ5_appendChars_0ad70 46 = .ok (.aload 5, 2) := by decide +kernel
theorem dJ5_appendChars_0ad70_48 : decode cJ5_appendChars_0ad70 48 = .ok (.iload 7, 2) := by decide +kernel
theorem dJ5_appendChars_0ad70_50 : decode cJ5_appendChars_0ad70 50 = .ok (.iinc 7 1, 3) := by decide +kernel
theorem dJ5_appendChars_0ad70_53 : decode cJ5_appendChars_0ad70 53 = .ok (.iload 8, 2) := by decide +kernel
theorem dJ5_appendChars_0ad70_55 : decode cJ5_appendChars_0ad70 55 = .ok (.i2b, 1) := by decide +kernel
theorem dJ5_appendChars_0ad70_56 : decode cJ5_appendChars_0ad70 56 = .ok (.bastore, 1) := by decide +kernel
theorem dJ5_appendChars_0ad70_57 : decode cJ5_appendChars_0ad70 57 = .ok (.goto 41, 3) := by decide +kernel
theorem dJ5_appendChars_0ad70_60 : decode cJ5_appendChars_0ad70 60 = .ok (.aload_n 0, 1) := by decide +kernel
theorem dJ5_appendChars_0ad70_61 : decode cJ5_appendChars_0ad70 61 = .ok (.iload 7, 2) := by decide +kernel
theorem dJ5_appendChars_0ad70_63 : decode cJ5_appendChars_0ad70 63 = .ok (.dup, 1) := by decide +kernel
theorem dJ5_appendChars_0ad70_64 : decode cJ5_appendChars_0ad70 64 = .ok (.istore 4, 2) := by decide +kernel
theorem dJ5_appendChars_0ad70_66 : decode cJ5_appendChars_0ad70 66 = .ok (.putfield 79, 3) := by decide +kernel
theorem dJ5_appendChars_0ad70_69 : decode cJ5_appendChars_0ad70 69 = .ok (.aload_n 0, 1) := by decide +kernel
theorem dJ5_appendChars_0ad70_70 : decode cJ5_appendChars_0ad70 70 = .ok (.invokevirtual 195, 3) := by decide +kernel
theorem dJ5_appendChars_0ad70_73 : decode cJ5_appendChars_0ad70 73 = .ok (.aload_n 0, 1) := by decide +kernel
theorem dJ5_appendChars_0ad70_74 : decode cJ5_appendChars_0ad70 74 = .ok (.getfield 15, 3) := by decide +kernel
theorem dJ5_appendChars_0ad70_77 : decode cJ5_appendChars_0ad70 77 = .ok (.iload 7, 2) := by decide +kernel
theorem dJ5_appendChars_0ad70_79 : decode cJ5_appendChars_0ad70 79 = .ok (.aload_n 1, 1) := by decide +kernel
theorem dJ5_appendChars_0ad70_80 : decode cJ5_appendChars_0ad70 80 = .ok (.iload 6, 2) := by decide +kernel
theorem dJ5_appendChars_0ad70_82 : decode cJ5_appendChars_0ad70 82 = .ok (.iload_n 3, 1) := by decide +kernel
theorem dJ5_appendChars_0ad70_83 : decode cJ5_appendChars_0ad70 83 = .ok (.invokestatic 386, 3) := by decide +kernel
theorem dJ5_appendChars_0ad70_86 : decode cJ5_appendChars_0ad70 86 = .ok (.aload_n 0, 1) := by decide +kernel
theorem dJ5_appendChars_0ad70_87 : decode cJ5_appendChars_0ad70 87 = .ok (.iload 4, 2) := by decide +kernel
theorem dJ5_appendChars_0ad70_89 : decode cJ5_appendChars_0ad70 89 = .ok (.iload_n 3, 1) := by decide +kernel
theorem dJ5_appendChars_0ad70_90 : decode cJ5_appendChars_0ad70 90 = .ok (.iadd, 1) := by decide +kernel
theorem dJ5_appendChars_0ad70_91 : decode cJ5_appendChars_0ad70 91 = .ok (.iload 6, 2) := by decide +kernel
theorem dJ5_appendChars_0ad70_93 : decode cJ5_appendChars_0ad70 93 = .ok (.isub, 1) := by decide +kernel
theorem dJ5_appendChars_0ad70_94 : decode cJ5_appendChars_0ad70 94 = .ok (.putfield 79, 3) := by decide +kernel
theorem dJ5_appendChars_0ad70_97 : decode cJ5_appendChars_0ad70 97 = .ok (.return_, 1) := by decide +kernel
theorem dJ5_appendChars_0ad70_98 : decode cJ5_appendChars_0ad70 98 = .ok (.iinc 6 1, 3) := by decide +kernel
theorem dJ5_appendChars_0ad70_101 : decode cJ5_appendChars_0ad70 101 = .ok (.goto (-75), 3) := by decide +kernel
theorem dJ5_appendChars_0ad70_104 : decode cJ5_appendChars_0ad70 104 = .ok (.goto 15, 3) := by decide +kernel
theorem dJ5_appendChars_0ad70_107 : decode cJ5_appendChars_0ad70 107 = .ok (.aload_n 0, 1) := by decide +kernel
theorem dJ5_appendChars_0ad70_108 : decode cJ5_appendChars_0ad70 108 = .ok (.getfield 15, 3) := by decide +kernel
theorem dJ5_appendChars_0ad70_111 : decode cJ5_appendChars_0ad70 111 = .ok (.iload 4, 2) := by decide +kernel
theorem dJ5_appendChars_0ad70_113 : decode cJ5_appendChars_0ad70 113 = .ok (.aload_n 1, 1) := by decide +kernel
theorem dJ5_appendChars_0ad70_114 : decode cJ5_appendChars_0ad70 114 = .ok (.iload_n 2, 1) := by decide +kernel
theorem dJ5_appendChars_0ad70_115 : decode cJ5_appendChars_0ad70 115 = .ok (.iload_n 3, 1) := by decide +kernel
theorem dJ5_appendChars_0ad70_116 : decode cJ5_appendChars_0ad70 116 = .ok (.invokestatic 386, 3) := by decide +kernel
theorem dJ5_appendChars_0ad70_119 : decode cJ5_appendChars_0ad70 119 = .ok (.aload_n 0, 1) := by decide +kernel
theorem dJ5_appendChars_0ad70_120 : decode cJ5_appendChars_0ad70 120 = .ok (.iload 4, 2) := by decide +kernel
theorem dJ5_appendChars_0ad70_122 : decode cJ5_appendChars_0ad70 122 = .ok (.iload_n 3, 1) := by decide +kernel
theorem dJ5_appendChars_0ad70_123 : decode cJ5_appendChars_0ad70 123 = .ok (.iadd, 1) := by decide +kernel
theorem dJ5_appendChars_0ad70_124 : decode cJ5_appendChars_0ad70 124 = .ok (.iload_n 2, 1) := by decide +kernel
theorem dJ5_appendChars_0ad70_125 : decode cJ5_appendChars_0ad70 125 = .ok (.isub, 1) := by decide +kernel
theorem dJ5_appendChars_0ad70_126 : decode cJ5_appendChars_0ad70 126 = .ok (.putfield 79, 3) := by decide +kernel
theorem dJ5_appendChars_0ad70_129 : decode cJ5_appendChars_0ad70 129 = .ok (.return_, 1) := by decide +kernel
theorem dJ5_appendChars_3135b_0 : decode cJ5_appendChars_3135b 0 = .ok (.aload_n 0, 1) := by decide +kernel
theorem dJ5_appendChars_3135b_1 : decode cJ5_appendChars_3135b 1 = .ok (.invokevirtual 83, 3) := by decide +kernel
theorem dJ5_appendChars_3135b_4 : decode cJ5_appendChars_3135b 4 = .ok (.ifCond .eq 141, 3) := by decide +kernel
theorem dJ5_appendChars_3135b_7 : decode cJ5_appendChars_3135b 7 = .ok (.aload_n 1, 1) := by decide +kernel
theorem dJ5_appendChars_3135b_8 : decode cJ5_appendChars_3135b 8 = .ok (.invokevirtual 400, 3) := by decide +kernel
theorem dJ5_appendChars_3135b_11 : decode cJ5_appendChars_3135b 11 = .ok (.ifCond .eq 25, 3) := by decide +kernel
theorem dJ5_appendChars_3135b_14 : decode cJ5_appendChars_3135b 14 = .ok (.aload_n 1, 1) := by decide +kernel
theorem dJ5_appendChars_3135b_15 : decode cJ5_appendChars_3135b 15 = .ok (.invokevirtual 401, 3) := by decide +kernel
theorem dJ5_appendChars_3135b_18 : decode cJ5_appendChars_3135b 18 = .ok (.iload_n 2, 1) := by decide +kernel
theorem dJ5_appendChars_3135b_19 : decode cJ5_appendChars_3135b 19 = .ok (.aload_n 0, 1) := by decide +kernel
theorem dJ5_appendChars_3135b_20 : decode cJ5_appendChars_3135b 20 = .ok (.getfield 15, 3) := by decide +kernel
theorem dJ5_appendChars_3135b_23 : decode cJ5_appendChars_3135b 23 = .ok (.aload_n 0, 1) := by decide +kernel
theorem dJ5_appendChars_3135b_24 : decode cJ5_appendChars_3135b 24 = .ok (.getfield 79, 3) := by decide +kernel
theorem dJ5_appendChars_3135b_27 : decode cJ5_appendChars_3135b 27 = .ok (.iload_n 3, 1) := by decide +kernel
theorem dJ5_appendChars_3135b_28 : decode cJ5_appendChars_3135b 28 = .ok (.iload_n 2, 1) := by decide +kernel
theorem dJ5_appendChars_3135b_29 : decode cJ5_appendChars_3135b 29 = .ok (.isub, 1) := by decide +kernel
theorem dJ5_appendChars_3135b_30 : decode cJ5_appendChars_3135b 30 = .ok (.invokestatic 309, 3) := by decide +kernel
theorem dJ5_appendChars_3135b_33 : decode cJ5_appendChars_3135b 33 = .ok (.goto 161, 3) := by decide +kernel
theorem dJ5_appendChars_3135b_36 : decode cJ5_appendChars_3135b 36 = .ok (.aload_n 0, 1) := by decide +kernel
theorem dJ5_appendChars_3135b_37 : decode cJ5_appendChars_3135b 37 = .ok (.getfield 15, 3) := by decide +kernel
theorem dJ5_appendChars_3135b_40 : decode cJ5_appendChars_3135b 40 = .ok (.astore 4, 2) := by decide +kernel
theorem dJ5_appendChars_3135b_42 : decode cJ5_appendChars_3135b 42 = .ok (.iload_n 2, 1) := by decide +kernel
theorem dJ5_appendChars_3135b_43 : decode cJ5_appendChars_3135b 43 = .ok (.istore 5, 2) := by decide +kernel
theorem dJ5_appendChars_3135b_45 : decode cJ5_appendChars_3135b 45 = .ok (.aload_n 0, 1) := by decide +kernel
theorem dJ5_appendChars_3135b_46 : decode cJ5_appendChars_3135b 46 = .ok (.getfield 79, 3) := by decide +kernel
theorem dJ5_appendChars_3135b_49 : decode cJ5_appendChars_3135b 49 = .ok (.istore 6, 2) := by decide +kernel
theorem dJ5_appendChars_3135b_51 : decode cJ5_appendChars_3135b 51 = .ok (.iload 5, 2) := by decide +kernel
theorem dJ5_appendChars_3135b_53 : decode cJ5_appendChars_3135b 53 = .ok (.iload_n 3, 1) := by decide +kernel
theorem dJ5_appendChars_3135b_54 : decode cJ5_appendChars_3135b 54 = .ok (.if_icmp .ge 88, 3) := by decide +kernel
theorem dJ5_appendChars_3135b_57 : decode cJ5_appendChars_3135b 57 = .ok (.aload_n 1, 1) := by decide +kernel
theorem dJ5_appendChars_3135b_58 : decode cJ5_appendChars_3135b 58 = .ok (.iload 5, 2) := by decide +kernel
theorem dJ5_appendChars_3135b_60 : decode cJ5_appendChars_3135b 60 = .ok (.invokevirtual 404, 3) := by decide +kernel
theorem dJ5_appendChars_3135b_63 : decode cJ5_appendChars_3135b 63 = .ok (.istore 7, 2) := by decide +kernel
theorem dJ5_appendChars_3135b_65 : decode cJ5_appendChars_3135b 65 = .ok (.iload 7, 2) := by decide +kernel
theorem dJ5_appendChars_3135b_67 : decode cJ5_appendChars_3135b 67 = .ok (.invokestatic 191, 3) := by decide +kernel
theorem dJ5_appendChars_3135b_70 : decode cJ5_appendChars_3135b 70 = .ok (.ifCond .eq 17, 3) := by decide +kernel
theorem dJ5_appendChars_3135b_73 : decode cJ5_appendChars_3135b 73 = .ok (.aload 4, 2) := by decide +kernel
theorem dJ5_appendChars_3135b_75 : decode cJ5_appendChars_3135b 75 = .ok (.iload 6, 2) := by decide +kernel
theorem dJ5_appendChars_3135b_77 : decode cJ5_appendChars_3135b 77 = .ok (.iinc 6 1, 3) := by decide +kernel
theorem dJ5_appendChars_3135b_80 : decode cJ5_appendChars_3135b 80 = .ok (.iload 7, 2) := by decide +kernel
theorem dJ5_appendChars_3135b_82 : decode cJ5_appendChars_3135b 82 = .ok (.i2b, 1) := by decide +kernel
theorem dJ5_appendChars_3135b_83 : decode cJ5_appendChars_3135b 83 = .ok (.bastore, 1) := by decide +kernel
theorem dJ5_appendChars_3135b_84 : decode cJ5_appendChars_3135b 84 = .ok (.goto 52, 3) := by decide +kernel
theorem dJ5_appendChars_3135b_87 : decode cJ5_appendChars_3135b 87 = .ok (.aload_n 0, 1) := by decide +kernel
theorem dJ5_appendChars_3135b_88 : decode cJ5_appendChars_3135b 88 = .ok (.iload 6, 2) := by decide +kernel
theorem dJ5_appendChars_3135b_90 : decode cJ5_appendChars_3135b 90 = .ok (.putfield 79, 3) := by decide +kernel
theorem dJ5_appendChars_3135b_93 : decode cJ5_appendChars_3135b 93 = .ok (.aload_n 0, 1) := by decide +kernel
theorem dJ5_appendChars_3135b_94 : decode cJ5_appendChars_3135b 94 = .ok (.invokevirtual 195, 3) := by decide +kernel
theorem dJ5_appendChars_3135b_97 : decode cJ5_appendChars_3135b 97 = .ok (.aload_n 1, 1) := by decide +kernel
theorem dJ5_appendChars_3135b_98 : decode cJ5_appendChars_3135b 98 = .ok (.invokevirtual 401, 3) := by decide +kernel
theorem dJ5_appendChars_3135b_101 : decode cJ5_appendChars_3135b 101 = .ok (.iload 5, 2) := by decide +kernel
theorem dJ5_appendChars_3135b_103 : decode cJ5_appendChars_3135b 103 = .ok (.iconst 1, 1) := by decide +kernel
theorem dJ5_appendChars_3135b_104 : decode cJ5_appendChars_3135b 104 = .ok (.ishl, 1) := by decide +kernel
theorem dJ5_appendChars_3135b_105 : decode cJ5_appendChars_3135b 105 = .ok (.aload_n 0, 1) := by decide +kernel
theorem dJ5_appendChars_3135b_106 : decode cJ5_appendChars_3135b 106 = .ok (.getfield 15, 3) := by decide +kernel
theorem dJ5_appendChars_3135b_109 : decode cJ5_appendChars_3135b 109 = .ok (.iload 6, 2) := by decide +kernel
theorem dJ5_appendChars_3135b_111 : decode cJ5_appendChars_3135b 111 = .ok (.iconst 1, 1) := by decide +kernel
theorem dJ5_appendChars_3135b_112 : decode cJ5_appendChars_3135b 112 = .ok (.ishl, 1) := by decide +kernel
theorem dJ5_appendChars_3135b_113 : decode cJ5_appendChars_3135b 113 = .ok (.iload_n 3, 1) := by decide +kernel
theorem dJ5_appendChars_3135b_114 : decode cJ5_appendChars_3135b 114 = .ok (.iload 5, 2) := by decide +kernel
theorem dJ5_appendChars_3135b_116 : decode cJ5_appendChars_3135b 116 = .ok (.isub, 1) := by decide +kernel
theorem dJ5_appendChars_3135b_117 : decode cJ5_appendChars_3135b 117 = .ok (.iconst 1, 1) := by decide +kernel
theorem dJ5_appendChars_3135b_118 : decode cJ5_appendChars_3135b 118 = .ok (.ishl, 1) := by decide +kernel
theorem dJ5_appendChars_3135b_119 : decode cJ5_appendChars_3135b 119 = .ok (.invokestatic 309, 3) := by decide +kernel
theorem dJ5_appendChars_3135b_122 : decode cJ5_appendChars_3135b 122 = .ok (.aload_n 0, 1) := by decide +kernel
theorem dJ5_appendChars_3135b_123 : decode cJ5_appendChars_3135b 123 = .ok (.dup, 1) := by decide +kernel
theorem dJ5_appendChars_3135b_124 : decode cJ5_appendChars_3135b 124 = .ok (.getfield 79, 3) := by decide +kernel
theorem dJ5_appendChars_3135b_127 : decode cJ5_appendChars_3135b 127 = .ok (.iload_n 3, 1) := by decide +kernel
theorem dJ5_appendChars_3135b_128 : decode cJ5_appendChars_3135b 128 = .ok (.iload 5, 2) := by decide +kernel
theorem dJ5_appendChars_3135b_130 : decode cJ5_appendChars_3135b 130 = .ok (.isub, 1) := by decide +kernel
theorem dJ5_appendChars_3135b_131 : decode cJ5_appendChars_3135b 131 = .ok (.iadd, 1) := by decide +kernel
theorem dJ5_appendChars_3135b_132 : decode cJ5_appendChars_3135b 132 = .ok (.putfield 79, 3) := by decide +kernel
theorem dJ5_appendChars_3135b_135 : decode cJ5_appendChars_3135b 135 = .ok (.return_, 1) := by decide +kernel
theorem dJ5_appendChars_3135b_136 : decode cJ5_appendChars_3135b 136 = .ok (.iinc 5 1, 3) := by decide +kernel
theorem dJ5_appendChars_3135b_139 : decode cJ5_appendChars_3135b 139 = .ok (.goto (-88), 3) := by decide +kernel
theorem dJ5_appendChars_3135b_142 : decode cJ5_appendChars_3135b 142 = .ok (.goto 52, 3) := by decide +kernel
theorem dJ5_appendChars_3135b_145 : decode cJ5_appendChars_3135b 145 = .ok (.aload_n 1, 1) := by decide +kernel
theorem dJ5_appendChars_3135b_146 : decode cJ5_appendChars_3135b 146 = .ok (.invokevirtual 400, 3) := by decide +kernel
theorem dJ5_appendChars_3135b_149 : decode cJ5_appendChars_3135b 149 = .ok (.ifCond .eq 20, 3) := by decide +kernel
theorem dJ5_appendChars_3135b_152 : decode cJ5_appendChars_3135b 152 = .ok (.aload_n 0, 1) := by decide +kernel
theorem dJ5_appendChars_3135b_153 : decode cJ5_appendChars_3135b 153 = .ok (.getfield 15, 3) := by decide +kernel
theorem dJ5_appendChars_3135b_156 : decode cJ5_appendChars_3135b 156 = .ok (.aload_n 0, 1) := by decide +kernel
theorem dJ5_appendChars_3135b_157 : decode cJ5_appendChars_3135b 157 = .ok (.getfield 79, 3) := by decide +kernel
theorem dJ5_appendChars_3135b_160 : decode cJ5_appendChars_3135b 160 = .ok (.aload_n 1, 1) := by decide +kernel
theorem dJ5_appendChars_3135b_161 : decode cJ5_appendChars_3135b 161 = .ok (.iload_n 2, 1) := by decide +kernel
theorem dJ5_appendChars_3135b_162 : decode cJ5_appendChars_3135b 162 = .ok (.iload_n 3, 1) := by decide +kernel
theorem dJ5_appendChars_3135b_163 : decode cJ5_appendChars_3135b 163 = .ok (.invokestatic 394, 3) := by decide +kernel
theorem dJ5_appendChars_3135b_166 : decode cJ5_appendChars_3135b 166 = .ok (.goto 28, 3) := by decide +kernel
theorem dJ5_appendChars_3135b_169 : decode cJ5_appendChars_3135b 169 = .ok (.aload_n 1, 1) := by decide +kernel
theorem dJ5_appendChars_3135b_170 : decode cJ5_appendChars_3135b 170 = .ok (.invokevirtual 401, 3) := by decide +kernel
theorem dJ5_appendChars_3135b_173 : decode cJ5_appendChars_3135b 173 = .ok (.iload_n 2, 1) := by decide +kernel
theorem dJ5_appendChars_3135b_174 : decode cJ5_appendChars_3135b 174 = .ok (.iconst 1, 1) := by decide +kernel
theorem dJ5_appendChars_3135b_175 : decode cJ5_appendChars_3135b 175 = .ok (.ishl, 1) := by decide +kernel
theorem dJ5_appendChars_3135b_176 : decode cJ5_appendChars_3135b 176 = .ok (.aload_n 0, 1) := by decide +kernel
theorem dJ5_appendChars_3135b_177 : decode cJ5_appendChars_3135b 177 = .ok (.getfield 15, 3) := by decide +kernel
theorem dJ5_appendChars_3135b_180 : decode cJ5_appendChars_3135b 180 = .ok (.aload_n 0, 1) := by decide +kernel
theorem dJ5_appendChars_3135b_181 : decode cJ5_appendChars_3135b 181 = .ok (.getfield 79, 3) := by decide +kernel
theorem dJ5_appendChars_3135b_184 : decode cJ5_appendChars_3135b 184 = .ok (.iconst 1, 1) := by decide +kernel
theorem dJ5_appendChars_3135b_185 : decode cJ5_appendChars_3135b 185 = .ok (.ishl, 1) := by decide +kernel
theorem dJ5_appendChars_3135b_186 : decode cJ5_appendChars_3135b 186 = .ok (.iload_n 3, 1) := by decide +kernel
theorem dJ5_appendChars_3135b_187 : decode cJ5_appendChars_3135b 187 = .ok (.iload_n 2, 1) := by decide +kernel
theorem dJ5_appendChars_3135b_188 : decode cJ5_appendChars_3135b 188 = .ok (.isub, 1) := by decide +kernel
theorem dJ5_appendChars_3135b_189 : decode cJ5_appendChars_3135b 189 = .ok (.iconst 1, 1) := by decide +kernel
theorem dJ5_appendChars_3135b_190 : decode cJ5_appendChars_3135b 190 = .ok (.ishl, 1) := by decide +kernel
theorem dJ5_appendChars_3135b_191 : decode cJ5_appendChars_3135b 191 = .ok (.invokestatic 309, 3) := by decide +kernel
theorem dJ5_appendChars_3135b_194 : decode cJ5_appendChars_3135b 194 = .ok (.aload_n 0, 1) := by decide +kernel
theorem dJ5_appendChars_3135b_195 : decode cJ5_appendChars_3135b 195 = .ok (.dup, 1) := by decide +kernel
theorem dJ5_appendChars_3135b_196 : decode cJ5_appendChars_3135b 196 = .ok (.getfield 79, 3) := by decide +kernel
theorem dJ5_appendChars_3135b_199 : decode cJ5_appendChars_3135b 199 = .ok (.iload_n 3, 1) := by decide +kernel
theorem dJ5_appendChars_3135b_200 : decode cJ5_appendChars_3135b 200 = .ok (.iload_n 2, 1) := by decide +kernel
theorem dJ5_appendChars_3135b_201 : decode cJ5_appendChars_3135b 201 = .ok (.isub, 1) := by decide +kernel
theorem dJ5_appendChars_3135b_202 : decode cJ5_appendChars_3135b 202 = .ok (.iadd, 1) := by decide +kernel
theorem dJ5_appendChars_3135b_203 : decode cJ5_appendChars_3135b 203 = .ok (.putfield 79, 3) := by decide +kernel
theorem dJ5_appendChars_3135b_206 : decode cJ5_appendChars_3135b 206 = .ok (.return_, 1) := by decide +kernel
theorem dJ5_appendChars_a91ff_0 : decode cJ5_appendChars_a91ff 0 = .ok (.aload_n 0, 1) := by decide +kernel
theorem dJ5_appendChars_a91ff_1 : decode cJ5_appendChars_a91ff 1 = .ok (.invokevirtual 83, 3) := by decide +kernel
theorem dJ5_appendChars_a91ff_4 : decode cJ5_appendChars_a91ff 4 = .ok (.ifCond .eq 125, 3) := by decide +kernel
theorem dJ5_appendChars_a91ff_7 : decode cJ5_appendChars_a91ff 7 = .ok (.aload_n 0, 1) := by decide +kernel
theorem dJ5_appendChars_a91ff_8 : decode cJ5_appendChars_a91ff 8 = .ok (.getfield 15, 3) := by decide +kernel
theorem dJ5_appendChars_a91ff_11 : decode cJ5_appendChars_a91ff 11 = .ok (.astore 4, 2) := by decide +kernel
theorem dJ5_appendChars_a91ff_13 : decode cJ5_appendChars_a91ff 13 = .ok (.iload_n 2, 1) := by decide +kernel
theorem dJ5_appendChars_a91ff_14 : decode cJ5_appendChars_a91ff 14 = .ok (.istore 5, 2) := by decide +kernel
theorem dJ5_appendChars_a91ff_16 : decode cJ5_appendChars_a91ff 16 = .ok (.aload_n 0, 1) := by decide +kernel
theorem dJ5_appendChars_a91ff_17 : decode cJ5_appendChars_a91ff 17 = .ok (.getfield 79, 3) := by decide +kernel
theorem dJ5_appendChars_a91ff_20 : decode cJ5_appendChars_a91ff 20 = .ok (.istore 6, 2) := by decide +kernel
theorem dJ5_appendChars_a91ff_22 : decode cJ5_appendChars_a91ff 22 = .ok (.iload 5, 2) := by decide +kernel
theorem dJ5_appendChars_a91ff_24 : decode cJ5_appendChars_a91ff 24 = .ok (.iload_n 3, 1) := by decide +kernel
theorem dJ5_appendChars_a91ff_25 : decode cJ5_appendChars_a91ff 25 = .ok (.if_icmp .ge 101, 3) := by decide +kernel
theorem dJ5_appendChars_a91ff_28 : decode cJ5_appendChars_a91ff 28 = .ok (.aload_n 1, 1) := by decide +kernel
theorem dJ5_appendChars_a91ff_29 : decode cJ5_appendChars_a91ff 29 = .ok (.iload 5, 2) := by decide +kernel
theorem dJ5_appendChars_a91ff_31 : decode cJ5_appendChars_a91ff 31 = .ok (.invokeinterface 390 2, 5) := by decide +kernel
theorem dJ5_appendChars_a91ff_36 : decode cJ5_appendChars_a91ff 36 = .ok (.istore 7, 2) := by decide +kernel
theorem dJ5_appendChars_a91ff_38 : decode cJ5_appendChars_a91ff 38 = .ok (.iload 7, 2) := by decide +kernel
theorem dJ5_appendChars_a91ff_40 : decode cJ5_appendChars_a91ff 40 = .ok (.invokestatic 191, 3) := by decide +kernel
theorem dJ5_appendChars_a91ff_43 : decode cJ5_appendChars_a91ff 43 = .ok (.ifCond .eq 17, 3) := by decide +kernel
theorem dJ5_appendChars_a91ff_46 : decode cJ5_appendChars_a91ff 46 = .ok (.aload 4, 2) := by decide +kernel
theorem dJ5_appendChars_a91ff_48 : decode cJ5_appendChars_a91ff 48 = .ok (.iload 6, 2) := by decide +kernel
theorem dJ5_appendChars_a91ff_50 : decode cJ5_appendChars_a91ff 50 = .ok (.iinc 6 1, 3) := by decide +kernel
theorem dJ5_appendChars_a91ff_53 : decode cJ5_appendChars_a91ff 53 = .ok (.iload 7, 2) := by decide +kernel
theorem dJ5_appendChars_a91ff_55 : decode cJ5_appendChars_a91ff 55 = .ok (.i2b, 1) := by decide +kernel
theorem dJ5_appendChars_a91ff_56 : decode cJ5_appendChars_a91ff 56 = .ok (.bastore, 1) := by decide +kernel
theorem dJ5_appendChars_a91ff_57 : decode cJ5_appendChars_a91ff 57 = .ok (.goto 63, 3) := by decide +kernel
theorem dJ5_appendChars_a91ff_60 : decode cJ5_appendChars_a91ff 60 = .ok (.aload_n 0, 1) := by decide +kernel
theorem dJ5_appendChars_a91ff_61 : decode cJ5_appendChars_a91ff 61 = .ok (.iload 6, 2) := by decide +kernel
theorem dJ5_appendChars_a91ff_63 : decode cJ5_appendChars_a91ff 63 = .ok (.putfield 79, 3) := by decide +kernel
theorem dJ5_appendChars_a91ff_66 : decode cJ5_appendChars_a91ff 66 = .ok (.aload_n 0, 1) := by decide +kernel
theorem dJ5_appendChars_a91ff_67 : decode cJ5_appendChars_a91ff 67 = .ok (.invokevirtual 195, 3) := by decide +kernel
theorem dJ5_appendChars_a91ff_70 : decode cJ5_appendChars_a91ff 70 = .ok (.aload_n 0, 1) := by decide +kernel
theorem dJ5_appendChars_a91ff_71 : decode cJ5_appendChars_a91ff 71 = .ok (.getfield 15, 3) := by decide +kernel
theorem dJ5_appendChars_a91ff_74 : decode cJ5_appendChars_a91ff 74 = .ok (.iload 6, 2) := by decide +kernel
theorem dJ5_appendChars_a91ff_76 : decode cJ5_appendChars_a91ff 76 = .ok (.iinc 6 1, 3) := by decide +kernel
theorem dJ5_appendChars_a91ff_79 : decode cJ5_appendChars_a91ff 79 = .ok (.iload 7, 2) := by decide +kernel
theorem dJ5_appendChars_a91ff_81 : decode cJ5_appendChars_a91ff 81 = .ok (.invokestatic 197, 3) := by decide +kernel
theorem dJ5_appendChars_a91ff_84 : decode cJ5_appendChars_a91ff 84 = .ok (.aload_n 0, 1) := by decide +kernel
theorem dJ5_appendChars_a91ff_85 : decode cJ5_appendChars_a91ff 85 = .ok (.iload 6, 2) := by decide +kernel
theorem dJ5_appendChars_a91ff_87 : decode cJ5_appendChars_a91ff 87 = .ok (.putfield 79, 3) := by decide +kernel
theorem dJ5_appendChars_a91ff_90 : decode cJ5_appendChars_a91ff 90 = .ok (.iinc 5 1, 3) := by decide +kernel
theorem dJ5_appendChars_a91ff_93 : decode cJ5_appendChars_a91ff 93 = .ok (.aload_n 0, 1) := by decide +kernel
theorem dJ5_appendChars_a91ff_94 : decode cJ5_appendChars_a91ff 94 = .ok (.getfield 15, 3) := by decide +kernel
theorem dJ5_appendChars_a91ff_97 : decode cJ5_appendChars_a91ff 97 = .ok (.iload 6, 2) := by decide +kernel
theorem dJ5_appendChars_a91ff_99 : decode cJ5_appendChars_a91ff 99 = .ok (.aload_n 1, 1) := by decide +kernel
theorem dJ5_appendChars_a91ff_100 : decode cJ5_appendChars_a91ff 100 = .ok (.iload 5, 2) := by decide +kernel
theorem dJ5_appendChars_a91ff_102 : decode cJ5_appendChars_a91ff 102 = .ok (.iload_n 3, 1) := by decide +kernel
theorem dJ5_appendChars_a91ff_103 : decode cJ5_appendChars_a91ff 103 = .ok (.invokestatic 394, 3) := by decide +kernel
theorem dJ5_appendChars_a91ff_106 : decode cJ5_appendChars_a91ff 106 = .ok (.aload_n 0, 1) := by decide +kernel
theorem dJ5_appendChars_a91ff_107 : decode cJ5_appendChars_a91ff 107 = .ok (.dup, 1) := by decide +kernel
theorem dJ5_appendChars_a91ff_108 : decode cJ5_appendChars_a91ff 108 = .ok (.getfield 79, 3) := by decide +kernel
theorem dJ5_appendChars_a91ff_111 : decode cJ5_appendChars_a91ff 111 = .ok (.iload_n 3, 1) := by decide +kernel
theorem dJ5_appendChars_a91ff_112 : decode cJ5_appendChars_a91ff 112 = .ok (.iload 5, 2) := by decide +kernel
theorem dJ5_appendChars_a91ff_114 : decode cJ5_appendChars_a91ff 114 = .ok (.isub, 1) := by decide +kernel
theorem dJ5_appendChars_a91ff_115 : decode cJ5_appendChars_a91ff 115 = .ok (.iadd, 1) := by decide +kernel
theorem dJ5_appendChars_a91ff_116 : decode cJ5_appendChars_a91ff 116 = .ok (.putfield 79, 3) := by decide +kernel
theorem dJ5_appendChars_a91ff_119 : decode cJ5_appendChars_a91ff 119 = .ok (.return_, 1) := by decide +kernel
theorem dJ5_appendChars_a91ff_120 : decode cJ5_appendChars_a91ff 120 = .ok (.iinc 5 1, 3) := by decide +kernel
theorem dJ5_appendChars_a91ff_123 : decode cJ5_appendChars_a91ff 123 = .ok (.goto (-101), 3) := by decide +kernel
theorem dJ5_appendChars_a91ff_126 : decode cJ5_appendChars_a91ff 126 = .ok (.goto 17, 3) := by decide +kernel
theorem dJ5_appendChars_a91ff_129 : decode cJ5_appendChars_a91ff 129 = .ok (.aload_n 0, 1) := by decide +kernel
theorem dJ5_appendChars_a91ff_130 : decode cJ5_appendChars_a91ff 130 = .ok (.getfield 15, 3) := by decide +kernel
theorem dJ5_appendChars_a91ff_133 : decode cJ5_appendChars_a91ff 133 = .ok (.aload_n 0, 1) := by decide +kernel
theorem dJ5_appendChars_a91ff_134 : decode cJ5_appendChars_a91ff 134 = .ok (.getfield 79, 3) := by decide +kernel
theorem dJ5_appendChars_a91ff_137 : decode cJ5_appendChars_a91ff 137 = .ok (.aload_n 1, 1) := by decide +kernel
theorem dJ5_appendChars_a91ff_138 : decode cJ5_appendChars_a91ff 138 = .ok (.iload_n 2, 1) := by decide +kernel
theorem dJ5_appendChars_a91ff_139 : decode cJ5_appendChars_a91ff 139 = .ok (.iload_n 3, 1) := by decide +kernel
theorem dJ5_appendChars_a91ff_140 : decode cJ5_appendChars_a91ff 140 = .ok (.invokestatic 394, 3) := by decide +kernel
theorem dJ5_appendChars_a91ff_143 : decode cJ5_appendChars_a91ff 143 = .ok (.aload_n 0, 1) := by decide +kernel
theorem dJ5_appendChars_a91ff_144 : decode cJ5_appendChars_a91ff 144 = .ok (.dup, 1) := by decide +kernel
theorem dJ5_appendChars_a91ff_145 : decode cJ5_appendChars_a91ff 145 = .ok (.getfield 79, 3) := by decide +kernel
theorem dJ5_appendChars_a91ff_148 : decode cJ5_appendChars_a91ff 148 = .ok (.iload_n 3, 1) := by decide +kernel
theorem dJ5_appendChars_a91ff_149 : decode cJ5_appendChars_a91ff 149 = .ok (.iload_n 2, 1) := by decide +kernel
theorem dJ5_appendChars_a91ff_150 : decode cJ5_appendChars_a91ff 150 = .ok (.isub, 1) := by decide +kernel
theorem dJ5_appendChars_a91ff_151 : decode cJ5_appendChars_a91ff 151 = .ok (.iadd, 1) := by decide +kernel
theorem dJ5_appendChars_a91ff_152 : decode cJ5_appendChars_a91ff 152 = .ok (.putfield 79, 3) := by decide +kernel
theorem dJ5_appendChars_a91ff_155 : decode cJ5_appendChars_a91ff 155 = .ok (.return_, 1) := by decide +kernel
theorem dJx00060_init_a7421_0 : decode cJx00060_init_a7421 0 = .ok (.aload_n 0, 1) := by decide +kernel
theorem dJx00060_init_a7421_1 : decode cJx00060_init_a7421 1 = .ok (.aload_n 1, 1) := by decide +kernel
theorem dJx00060_init_a7421_2 : decode cJx00060_init_a7421 2 = .ok (.invokespecial 7, 3) := by decide +kernel
theorem dJx00060_init_a7421_5 : decode cJx00060_init_a7421 5 = .ok (.return_, 1) := by decide +kernel
theorem dJ6_getChars_ba4f3_0 : decode cJ6_getChars_ba4f3 0 = .ok (.iload_n 1, 1) := by decide +kernel
theorem dJ6_getChars_ba4f3_1 : decode cJ6_getChars_ba4f3 1 = .ok (.istore 5, 2) := by decide +kernel
theorem dJ6_getChars_ba4f3_3 : decode cJ6_getChars_ba4f3 3 = .ok (.iload_n 0, 1) := by decide +kernel
theorem dJ6_getChars_ba4f3_4 : decode cJ6_getChars_ba4f3 4 = .ok (.ifCond .ge 7, 3) := by decide +kernel
theorem dJ6_getChars_ba4f3_7 : decode cJ6_getChars_ba4f3 7 = .ok (.iconst 1, 1) := by decide +kernel
theorem dJ6_getChars_ba4f3_8 : decode cJ6_getChars_ba4f3 8 = .ok (.goto 4, 3) := by decide +kernel
theorem dJ6_getChars_ba4f3_11 : decode cJ6_getChars_ba4f3 11 = .ok (.iconst 0, 1) := by decide +kernel
theorem dJ6_getChars_ba4f3_12 : decode cJ6_getChars_ba4f3 12 = .ok (.istore 6, 2) := by decide +kernel
theorem dJ6_getChars_ba4f3_14 : decode cJ6_getChars_ba4f3 14 = .ok (.iload 6, 2) := by decide +kernel
theorem dJ6_getChars_ba4f3_16 : decode cJ6_getChars_ba4f3 16 = .ok (.ifCond .ne 6, 3) := by decide +kernel
theorem dJ6_getChars_ba4f3_19 : decode cJ6_getChars_ba4f3 19 = .ok (.iload_n 0, 1) := by decide +kernel
theorem dJ6_getChars_ba4f3_20 : decode cJ6_getChars_ba4f3 20 = .ok (.ineg, 1) := by decide +kernel
theorem dJ6_getChars_ba4f3_21 : decode cJ6_getChars_ba4f3 21 = .ok (.istore_n 0, 1) := by decide +kernel
theorem dJ6_getChars_ba4f3_22 : decode cJ6_getChars_ba4f3 22 = .ok (.iload_n 0, 1) := by decide +kernel
theorem dJ6_getChars_ba4f3_23 : decode cJ6_getChars_ba4f3 23 = .ok (.bipush (-100), 2) := by decide +kernel
theorem dJ6_getChars_ba4f3_25 : decode cJ6_getChars_ba4f3 25 = .ok (.if_icmp .gt 47, 3) := by decide +kernel
theorem dJ6_getChars_ba4f3_28 : decode cJ6_getChars_ba4f3 28 = .ok (.iload_n 0, 1) := by decide +kernel
theorem dJ6_getChars_ba4f3_29 : decode cJ6_getChars_ba4f3 29 = .ok (.bipush 100, 2) := by decide +kernel
theorem dJ6_getChars_ba4f3_31 : decode cJ6_getChars_ba4f3 31 = .ok (.idiv, 1) := by decide +kernel
theorem dJ6_getChars_ba4f3_32 : decode cJ6_getChars_ba4f3 32 = .ok (.istore_n 3, 1) := by decide +kernel
theorem dJ6_getChars_ba4f3_33 : decode cJ6_getChars_ba4f3 33 = .ok (.iload_n 3, 1) := by decide +kernel
theorem dJ6_getChars_ba4f3_34 : decode cJ6_getChars_ba4f3 34 = .ok (.bipush 100, 2) := by decide +kernel
theorem dJ6_getChars_ba4f3_36 : decode cJ6_getChars_ba4f3 36 = .ok (.imul, 1) := by decide +kernel
theorem dJ6_getChars_ba4f3_37 : decode cJ6_getChars_ba4f3 37 = .ok (.iload_n 0, 1) := by decide +kernel
theorem dJ6_getChars_ba4f3_38 : decode cJ6_getChars_ba4f3 38 = .ok (.isub, 1) := by decide +kernel
theorem dJ6_getChars_ba4f3_39 : decode cJ6_getChars_ba4f3 39 = .ok (.istore 4, 2) := by decide +kernel
theorem dJ6_getChars_ba4f3_41 : decode cJ6_getChars_ba4f3 41 = .ok (.iload_n 3, 1) := by decide +kernel
theorem dJ6_getChars_ba4f3_42 : decode cJ6_getChars_ba4f3 42 = .ok (.istore_n 0, 1) := by decide +kernel
theorem dJ6_getChars_ba4f3_43 : decode cJ6_getChars_ba4f3 43 = .ok (.aload_n 2, 1) := by decide +kernel
theorem dJ6_getChars_ba4f3_44 : decode cJ6_getChars_ba4f3 44 = .ok (.iinc 5 (-1), 3) := by decide +kernel
theorem dJ6_getChars_ba4f3_47 : decode cJ6_getChars_ba4f3 47 = .ok (.iload 5, 2) := by decide +kernel
theorem dJ6_getChars_ba4f3_49 : decode cJ6_getChars_ba4f3 49 = .ok (.getstatic 83, 3) := by decide +kernel
theorem dJ6_getChars_ba4f3_52 : decode cJ6_getChars_ba4f3 52 = .ok (.iload 4, 2) := by decide +kernel
theorem dJ6_getChars_ba4f3_54 : decode cJ6_getChars_ba4f3 54 = .ok (.baload, 1) := by decide +kernel
theorem dJ6_getChars_ba4f3_55 : decode cJ6_getChars_ba4f3 55 = .ok (.bastore, 1) := by decide +kernel
theorem dJ6_getChars_ba4f3_56 : decode cJ6_getChars_ba4f3 56 = .ok (.aload_n 2, 1) := by decide +kernel
theorem dJ6_getChars_ba4f3_57 : decode cJ6_getChars_ba4f3 57 = .ok (.iinc 5 (-1), 3) := by decide +kernel
theorem dJ6_getChars_ba4f3_60 : decode cJ6_getChars_ba4f3 60 = .ok (.iload 5, 2) := by decide +kernel
theorem dJ6_getChars_ba4f3_62 : decode cJ6_getChars_ba4f3 62 = .ok (.getstatic 87, 3) := by decide +kernel
theorem dJ6_getChars_ba4f3_65 : decode cJ6_getChars_ba4f3 65 = .ok (.iload 4, 2) := by decide +kernel
theorem dJ6_getChars_ba4f3_67 : decode cJ6_getChars_ba4f3 67 = .ok (.baload, 1) := by decide +kernel
theorem dJ6_getChars_ba4f3_68 : decode cJ6_getChars_ba4f3 68 = .ok (.bastore, 1) := by decide +kernel
theorem dJ6_getChars_ba4f3_69 : decode cJ6_getChars_ba4f3 69 = .ok (.goto (-47), 3) := by decide +kernel
theorem dJ6_getChars_ba4f3_72 : decode cJ6_getChars_ba4f3 72 = .ok (.aload_n 2, 1) := by decide +kernel
theorem dJ6_getChars_ba4f3_73 : decode cJ6_getChars_ba4f3 73 = .ok (.iinc 5 (-1), 3) := by decide +kernel
theorem dJ6_getChars_ba4f3_76 : decode cJ6_getChars_ba4f3 76 = .ok (.iload 5, 2) := by decide +kernel
theorem dJ6_getChars_ba4f3_78 : decode cJ6_getChars_ba4f3 78 = .ok (.getstatic 83, 3) := by decide +kernel
theorem dJ6_getChars_ba4f3_81 : decode cJ6_getChars_ba4f3 81 = .ok (.iload_n 0, 1) := by decide +kernel
theorem dJ6_getChars_ba4f3_82 : decode cJ6_getChars_ba4f3 82 = .ok (.ineg, 1) := by decide +kernel
theorem dJ6_getChars_ba4f3_83 : decode cJ6_getChars_ba4f3 83 = .ok (.baload, 1) := by decide +kernel
theorem dJ6_getChars_ba4f3_84 : decode cJ6_getChars_ba4f3 84 = .ok (.bastore, 1) := by decide +kernel
theorem dJ6_getChars_ba4f3_85 : decode cJ6_getChars_ba4f3 85 = .ok (.iload_n 0, 1) := by decide +kernel
theorem dJ6_getChars_ba4f3_86 : decode cJ6_getChars_ba4f3 86 = .ok (.bipush (-9), 2) := by decide +kernel
theorem dJ6_getChars_ba4f3_88 : decode cJ6_getChars_ba4f3 88 = .ok (.if_icmp .ge 16, 3) := by decide +kernel
theorem dJ6_getChars_ba4f3_91 : decode cJ6_getChars_ba4f3 91 = .ok (.aload_n 2, 1) := by decide +kernel
theorem dJ6_getChars_ba4f3_92 : decode cJ6_getChars_ba4f3 92 = .ok (.iinc 5 (-1), 3) := by decide +kernel
theorem dJ6_getChars_ba4f3_95 : decode cJ6_getChars_ba4f3 95 = .ok (.iload 5, 2) := by decide +kernel
theorem dJ6_getChars_ba4f3_97 : decode cJ6_getChars_ba4f3 97 = .ok (.getstatic 87, 3) := by decide +kernel
theorem dJ6_getChars_ba4f3_100 : decode cJ6_getChars_ba4f3 100 = .ok (.iload_n 0, 1) := by decide +kernel
theorem dJ6_getChars_ba4f3_101 : decode cJ6_getChars_ba4f3 101 = .ok (.ineg, 1) := by decide +kernel
theorem dJ6_getChars_ba4f3_102 : decode cJ6_getChars_ba4f3 102 = .ok (.baload, 1) := by decide +kernel
theorem dJ6_getChars_ba4f3_103 : decode cJ6_getChars_ba4f3 103 = .ok (.bastore, 1) := by decide +kernel
theorem dJ6_getChars_ba4f3_104 : decode cJ6_getChars_ba4f3 104 = .ok (.iload 6, 2) := by decide +kernel
theorem dJ6_getChars_ba4f3_106 : decode cJ6_getChars_ba4f3 106 = .ok (.ifCond .eq 12, 3) := by decide +kernel
theorem dJ6_getChars_ba4f3_109 : decode cJ6_getChars_ba4f3 109 = .ok (.aload_n 2, 1) := by decide +kernel
theorem dJ6_getChars_ba4f3_110 : decode cJ6_getChars_ba4f3 110 = .ok (.iinc 5 (-1), 3) := by decide +kernel
theorem dJ6_getChars_ba4f3_113 : decode cJ6_getChars_ba4f3 113 = .ok (.iload 5, 2) := by decide +kernel
theorem dJ6_getChars_ba4f3_115 : decode cJ6_getChars_ba4f3 115 = .ok (.bipush 45, 2) := by decide +kernel
theorem dJ6_getChars_ba4f3_117 : decode cJ6_getChars_ba4f3 117 = .ok (.bastore, 1) := by decide +kernel
theorem dJ6_getChars_ba4f3_118 : decode cJ6_getChars_ba4f3 118 = .ok (.iload 5, 2) := by decide +kernel
theorem dJ6_getChars_ba4f3_120 : decode cJ6_getChars_ba4f3 120 = .ok (.ireturn, 1) := by decide +kernel
theorem dJ6_stringSize_0f7a4_0 : decode cJ6_stringSize_0f7a4 0 = .ok (.iconst 1, 1) := by decide +kernel
theorem dJ6_stringSize_0f7a4_1 : decode cJ6_stringSize_0f7a4 1 = .ok (.istore_n 1, 1) := by decide +kernel
theorem dJ6_stringSize_0f7a4_2 : decode cJ6_stringSize_0f7a4 2 = .ok (.iload_n 0, 1) := by decide +kernel
theorem dJ6_stringSize_0f7a4_3 : decode cJ6_stringSize_0f7a4 3 = .ok (.ifCond .lt 8, 3) := by decide +kernel
theorem dJ6_stringSize_0f7a4_6 : decode cJ6_stringSize_0f7a4 6 = .ok (.iconst 0, 1) := by decide +kernel
theorem dJ6_stringSize_0f7a4_7 : decode cJ6_stringSize_0f7a4 7 = .ok (.istore_n 1, 1) := by decide +kernel
theorem dJ6_stringSize_0f7a4_8 : decode cJ6_stringSize_0f7a4 8 = .ok (.iload_n 0, 1) := by decide +kernel
theorem dJ6_stringSize_0f7a4_9 : decode cJ6_stringSize_0f7a4 9 = .ok (.ineg, 1) := by decide +kernel
theorem dJ6_stringSize_0f7a4_10 : decode cJ6_stringSize_0f7a4 10 = .ok (.istore_n 0, 1) := by decide +kernel
theorem dJ6_stringSize_0f7a4_11 : decode cJ6_stringSize_0f7a4 11 = .ok (.bipush (-10), 2) := by decide +kernel
theorem dJ6_stringSize_0f7a4_13 : decode cJ6_stringSize_0f7a4 13 = .ok (.istore_n 2, 1) := by decide +kernel
theorem dJ6_stringSize_0f7a4_14 : decode cJ6_stringSize_0f7a4 14 = .ok (.iconst 1, 1) := by decide +kernel
theorem dJ6_stringSize_0f7a4_15 : decode cJ6_stringSize_0f7a4 15 = .ok (.istore_n 3, 1) := by decide +kernel
theorem dJ6_stringSize_0f7a4_16 : decode cJ6_stringSize_0f7a4 16 = .ok (.iload_n 3, 1) := by decide +kernel
theorem dJ6_stringSize_0f7a4_17 : decode cJ6_stringSize_0f7a4 17 = .ok (.bipush 10, 2) := by decide +kernel
theorem dJ6_stringSize_0f7a4_19 : decode cJ6_stringSize_0f7a4 19 = .ok (.if_icmp .ge 23, 3) := by decide +kernel
theorem dJ6_stringSize_0f7a4_22 : decode cJ6_stringSize_0f7a4 22 = .ok (.iload_n 0, 1) := by decide +kernel
theorem dJ6_stringSize_0f7a4_23 : decode cJ6_stringSize_0f7a4 23 = .ok (.iload_n 2, 1) := by decide +kernel
theorem dJ6_stringSize_0f7a4_24 : decode cJ6_stringSize_0f7a4 24 = .ok (.if_icmp .le 7, 3) := by decide +kernel
theorem dJ6_stringSize_0f7a4_27 : decode cJ6_stringSize_0f7a4 27 = .ok (.iload_n 3, 1) := by decide +kernel
theorem dJ6_stringSize_0f7a4_28 : decode cJ6_stringSize_0f7a4 28 = .ok (.iload_n 1, 1) := by decide +kernel
theorem dJ6_stringSize_0f7a4_29 : decode cJ6_stringSize_0f7a4 29 = .ok (.iadd, 1) := by decide +kernel
theorem dJ6_stringSize_0f7a4_30 : decode cJ6_stringSize_0f7a4 30 = .ok (.ireturn, 1) := by decide +kernel
theorem dJ6_stringSize_0f7a4_31 : decode cJ6_stringSize_0f7a4 31 = .ok (.bipush 10, 2) := by decide +kernel
theorem dJ6_stringSize_0f7a4_33 : decode cJ6_stringSize_0f7a4 33 = .ok (.iload_n 2, 1) := by decide +kernel
theorem dJ6_stringSize_0f7a4_34 : decode cJ6_stringSize_0f7a4 34 = .ok (.imul, 1) := by decide +kernel
theorem dJ6_stringSize_0f7a4_35 : decode cJ6_stringSize_0f7a4 35 = .ok (.istore_n 2, 1) := by decide +kernel
theorem dJ6_stringSize_0f7a4_36 : decode cJ6_stringSize_0f7a4 36 = .ok (.iinc 3 1, 3) := by decide +kernel
theorem dJ6_stringSize_0f7a4_39 : decode cJ6_stringSize_0f7a4 39 = .ok (.goto (-23), 3) := by decide +kernel
theorem dJ6_stringSize_0f7a4_42 : decode cJ6_stringSize_0f7a4 42 = .ok (.bipush 10, 2) := by decide +kernel
theorem dJ6_stringSize_0f7a4_44 : decode cJ6_stringSize_0f7a4 44 = .ok (.iload_n 1, 1) := by decide +kernel
theorem dJ6_stringSize_0f7a4_45 : decode cJ6_stringSize_0f7a4 45 = .ok (.iadd, 1) := by decide +kernel
theorem dJ6_stringSize_0f7a4_46 : decode cJ6_stringSize_0f7a4 46 = .ok (.ireturn, 1) := by decide +kernel
theorem dJ6_numberOfLeadingZeros_0f7a4_0 : decode cJ6_numberOfLeadingZeros_0f7a4 0 = .ok (.iload_n 0, 1) := by decide +kernel
theorem dJ6_numberOfLeadingZeros_0f7a4_1 : decode cJ6_numberOfLeadingZeros_0f7a4 1 = .ok (.ifCond .gt 14, 3) := by decide +kernel
theorem dJ6_numberOfLeadingZeros_0f7a4_4 : decode cJ6_numberOfLeadingZeros_0f7a4 4 = .ok (.iload_n 0, 1) := by decide +kernel
theorem dJ6_numberOfLeadingZeros_0f7a4_5 : decode cJ6_numberOfLeadingZeros_0f7a4 5 = .ok (.ifCond .ne 8, 3) := by decide +kernel
theorem dJ6_numberOfLeadingZeros_0f7a4_8 : decode cJ6_numberOfLeadingZeros_0f7a4 8 = .ok (.bipush 32, 2) := by decide +kernel
theorem dJ6_numberOfLeadingZeros_0f7a4_10 : decode cJ6_numberOfLeadingZeros_0f7a4 10 = .ok (.goto 4, 3) := by decide +kernel
theorem dJ6_numberOfLeadingZeros_0f7a4_13 : decode cJ6_numberOfLeadingZeros_0f7a4 13 = .ok (.iconst 0, 1) := by decide +kernel
theorem dJ6_numberOfLeadingZeros_0f7a4_14 : decode cJ6_numberOfLeadingZeros_0f7a4 14 = .ok (.ireturn, 1) := by decide +kernel
theorem dJ6_numberOfLeadingZeros_0f7a4_15 : decode cJ6_numberOfLeadingZeros_0f7a4 15 = .ok (.bipush 31, 2) := by decide +kernel
theorem dJ6_numberOfLeadingZeros_0f7a4_17 : decode cJ6_numberOfLeadingZeros_0f7a4 17 = .ok (.istore_n 1, 1) := by decide +kernel
theorem dJ6_numberOfLeadingZeros_0f7a4_18 : decode cJ6_numberOfLeadingZeros_0f7a4 18 = .ok (.iload_n 0, 1) := by decide +kernel
theorem dJ6_numberOfLeadingZeros_0f7a4_19 : decode cJ6_numberOfLeadingZeros_0f7a4 19 = .ok (.ldc_w 264, 3) := by decide +kernel
theorem dJ6_numberOfLeadingZeros_0f7a4_22 : decode cJ6_numberOfLeadingZeros_0f7a4 22 = .ok (.if_icmp .lt 11, 3) := by decide +kernel
theorem dJ6_numberOfLeadingZeros_0f7a4_25 : decode cJ6_numberOfLeadingZeros_0f7a4 25 = .ok (.iinc 1 (-16), 3) := by decide +kernel
theorem dJ6_numberOfLeadingZeros_0f7a4_28 : decode cJ6_numberOfLeadingZeros_0f7a4 28 = .ok (.iload_n 0, 1) := by decide +kernel
theorem dJ6_numberOfLeadingZeros_0f7a4_29 : decode cJ6_numberOfLeadingZeros_0f7a4 29 = .ok (.bipush 16, 2) := by decide +kernel
theorem dJ6_numberOfLeadingZeros_0f7a4_31 : decode cJ6_numberOfLeadingZeros_0f7a4 31 = .ok (.iushr, 1) := by decide +kernel
theorem dJ6_numberOfLeadingZeros_0f7a4_32 : decode cJ6_numberOfLeadingZeros_0f7a4 32 = .ok (.istore_n 0, 1) := by decide +kernel
theorem dJ6_numberOfLeadingZeros_0f7a4_33 : decode cJ6_numberOfLeadingZeros_0f7a4 33 = .ok (.iload_n 0, 1) := by decide +kernel
theorem dJ6_numberOfLeadingZeros_0f7a4_34 : decode cJ6_numberOfLeadingZeros_0f7a4 34 = .ok (.sipush 256, 3) := by decide +kernel
theorem dJ6_numberOfLeadingZeros_0f7a4_37 : decode cJ6_numberOfLeadingZeros_0f7a4 37 = .ok (.if_icmp .lt 11, 3) := by decide +kernel
theorem dJ6_numberOfLeadingZeros_0f7a4_40 : decode cJ6_numberOfLeadingZeros_0f7a4 40 = .ok (.iinc 1 (-8), 3) := by decide +kernel
theorem dJ6_numberOfLeadingZeros_0f7a4_43 : decode cJ6_numberOfLeadingZeros_0f7a4 43 = .ok (.iload_n 0, 1) := by decide +kernel
theorem dJ6_numberOfLeadingZeros_0f7a4_44 : decode cJ6_numberOfLeadingZeros_0f7a4 44 = .ok (.bipush 8, 2) := by decide +kernel
theorem dJ6_numberOfLeadingZeros_0f7a4_46 : decode cJ6_numberOfLeadingZeros_0f7a4 46 = .ok (.iushr, 1) := by decide +kernel
theorem dJ6_numberOfLeadingZeros_0f7a4_47 : decode cJ6_numberOfLeadingZeros_0f7a4 47 = .ok (.istore_n 0, 1) := by decide +kernel
theorem dJ6_numberOfLeadingZeros_0f7a4_48 : decode cJ6_numberOfLeadingZeros_0f7a4 48 = .ok (.iload_n 0, 1) := by decide +kernel
theorem dJ6_numberOfLeadingZeros_0f7a4_49 : decode cJ6_numberOfLeadingZeros_0f7a4 49 = .ok (.bipush 16, 2) := by decide +kernel
theorem dJ6_numberOfLeadingZeros_0f7a4_51 : decode cJ6_numberOfLeadingZeros_0f7a4 51 = .ok (.if_icmp .lt 10, 3) := by decide +kernel
theorem dJ6_numberOfLeadingZeros_0f7a4_54 : decode cJ6_numberOfLeadingZeros_0f7a4 54 = .ok (.iinc 1 (-4), 3) := by decide +kernel
theorem dJ6_numberOfLeadingZeros_0f7a4_57 : decode cJ6_numberOfLeadingZeros_0f7a4 57 = .ok (.iload_n 0, 1) := by decide +kernel
theorem dJ6_numberOfLeadingZeros_0f7a4_58 : decode cJ6_numberOfLeadingZeros_0f7a4 58 = .ok (.iconst 4, 1) := by decide +kernel
theorem dJ6_numberOfLeadingZeros_0f7a4_59 : decode cJ6_numberOfLeadingZeros_0f7a4 59 = .ok (.iushr, 1) := by decide +kernel
theorem dJ6_numberOfLeadingZeros_0f7a4_60 : decode cJ6_numberOfLeadingZeros_0f7a4 60 = .ok (.istore_n 0, 1) := by decide +kernel
theorem dJ6_numberOfLeadingZeros_0f7a4_61 : decode cJ6_numberOfLeadingZeros_0f7a4 61 = .ok (.iload_n 0, 1) := by decide +kernel
theorem dJ6_numberOfLeadingZeros_0f7a4_62 : decode cJ6_numberOfLeadingZeros_0f7a4 62 = .ok (.iconst 4, 1) := by decide +kernel
theorem dJ6_numberOfLeadingZeros_0f7a4_63 : decode cJ6_numberOfLeadingZeros_0f7a4 63 = .ok (.if_icmp .lt 10, 3) := by decide +kernel
theorem dJ6_numberOfLeadingZeros_0f7a4_66 : decode cJ6_numberOfLeadingZeros_0f7a4 66 = .ok (.iinc 1 (-2), 3) := by decide +kernel
theorem dJ6_numberOfLeadingZeros_0f7a4_69 : decode cJ6_numberOfLeadingZeros_0f7a4 69 = .ok (.iload_n 0, 1) := by decide +kernel
theorem dJ6_numberOfLeadingZeros_0f7a4_70 : decode cJ6_numberOfLeadingZeros_0f7a4 70 = .ok (.iconst 2, 1) := by decide +kernel
theorem dJ6_numberOfLeadingZeros_0f7a4_71 : decode cJ6_numberOfLeadingZeros_0f7a4 71 = .ok (.iushr, 1) := by decide +kernel
theorem dJ6_numberOfLeadingZeros_0f7a4_72 : decode cJ6_numberOfLeadingZeros_0f7a4 72 = .ok (.istore_n 0, 1) := by decide +kernel
theorem dJ6_numberOfLeadingZeros_0f7a4_73 : decode cJ6_numberOfLeadingZeros_0f7a4 73 = .ok (.iload_n 1, 1) := by decide +kernel
theorem dJ6_numberOfLeadingZeros_0f7a4_74 : decode cJ6_numberOfLeadingZeros_0f7a4 74 = .ok (.iload_n 0, 1) := by decide +kernel
theorem dJ6_numberOfLeadingZeros_0f7a4_75 : decode cJ6_numberOfLeadingZeros_0f7a4 75 = .ok (.iconst 1, 1) := by decide +kernel
theorem dJ6_numberOfLeadingZeros_0f7a4_76 : decode cJ6_numberOfLeadingZeros_0f7a4 76 = .ok (.iushr, 1) := by decide +kernel
theorem dJ6_numberOfLeadingZeros_0f7a4_77 : decode cJ6_numberOfLeadingZeros_0f7a4 77 = .ok (.isub, 1) := by decide +kernel
theorem dJ6_numberOfLeadingZeros_0f7a4_78 : decode cJ6_numberOfLeadingZeros_0f7a4 78 = .ok (.ireturn, 1) := by decide +kernel
theorem dJ13_getChars_11360_0 : decode cJ13_getChars_11360 0 = .ok (.iload_n 2, 1) := by decide +kernel
theorem dJ13_getChars_11360_1 : decode cJ13_getChars_11360 1 = .ok (.istore 7, 2) := by decide +kernel
theorem dJ13_getChars_11360_3 : decode cJ13_getChars_11360 3 = .ok (.lload_n 0, 1) := by decide +kernel
theorem dJ13_getChars_11360_4 : decode cJ13_getChars_11360 4 = .ok (.lconst 0, 1) := by decide +kernel
theorem dJ13_getChars_11360_5 : decode cJ13_getChars_11360 5 = .ok (.lcmp, 1) := by decide +kernel
theorem dJ13_getChars_11360_6 : decode cJ13_getChars_11360 6 = .ok (.ifCond .ge 7, 3) := by decide +kernel
theorem dJ13_getChars_11360_9 : decode cJ13_getChars_11360 9 = .ok (.iconst 1, 1) := by decide +kernel
theorem dJ13_getChars_11360_10 : decode cJ13_getChars_11360 10 = .ok (.goto 4, 3) := by decide +kernel
theorem dJ13_getChars_11360_13 : decode cJ13_getChars_11360 13 = .ok (.iconst 0, 1) := by decide +kernel
theorem dJ13_getChars_11360_14 : decode cJ13_getChars_11360 14 = .ok (.istore 8, 2) := by decide +kernel
theorem dJ13_getChars_11360_16 : decode cJ13_getChars_11360 16 = .ok (.iload 8, 2) := by decide +kernel
theorem dJ13_getChars_11360_18 : decode cJ13_getChars_11360 18 = .ok (.ifCond .ne 6, 3) := by decide +kernel
theorem dJ13_getChars_11360_21 : decode cJ13_getChars_11360 21 = .ok (.lload_n 0, 1) := by decide +kernel
theorem dJ13_getChars_11360_22 : decode cJ13_getChars_11360 22 = .ok (.lneg, 1) := by decide +kernel
theorem dJ13_getChars_11360_23 : decode cJ13_getChars_11360 23 = .ok (.lstore_n 0, 1) := by decide +kernel
theorem dJ13_getChars_11360_24 : decode cJ13_getChars_11360 24 = .ok (.lload_n 0, 1) := by decide +kernel
theorem dJ13_getChars_11360_25 : decode cJ13_getChars_11360 25 = .ok (.ldc2_w 129, 3) := by decide +kernel
theorem dJ13_getChars_11360_28 : decode cJ13_getChars_11360 28 = .ok (.lcmp, 1) := by decide +kernel
theorem dJ13_getChars_11360_29 : decode cJ13_getChars_11360 29 = .ok (.ifCond .gt 53, 3) := by decide +kernel
theorem dJ13_getChars_11360_32 : decode cJ13_getChars_11360 32 = .ok (.lload_n 0, 1) := by decide +kernel
theorem dJ13_getChars_11360_33 : decode cJ13_getChars_11360 33 = .ok (.ldc2_w 131, 3) := by decide +kernel
theorem dJ13_getChars_11360_36 : decode cJ13_getChars_11360 36 = .ok (.ldiv, 1) := by decide +kernel
theorem dJ13_getChars_11360_37 : decode cJ13_getChars_11360 37 = .ok (.lstore 4, 2) := by decide +kernel
theorem dJ13_getChars_11360_39 : decode cJ13_getChars_11360 39 = .ok (.lload 4, 2) := by decide +kernel
theorem dJ13_getChars_11360_41 : decode cJ13_getChars_11360 41 = .ok (.ldc2_w 131, 3) := by decide +kernel
theorem dJ13_getChars_11360_44 : decode cJ13_getChars_11360 44 = .ok (.lmul, 1) := by decide +kernel
theorem dJ13_getChars_11360_45 : decode cJ13_getChars_11360 45 = .ok (.lload_n 0, 1) := by decide +kernel
theorem dJ13_getChars_11360_46 : decode cJ13_getChars_11360 46 = .ok (.lsub, 1) := by decide +kernel
theorem dJ13_getChars_11360_47 : decode cJ13_getChars_11360 47 = .ok (.l2i, 1) := by decide +kernel
theorem dJ13_getChars_11360_48 : decode cJ13_getChars_11360 48 = .ok (.istore 6, 2) := by decide +kernel
theorem dJ13_getChars_11360_50 : decode cJ13_getChars_11360 50 = .ok (.lload 4, 2) := by decide +kernel
theorem dJ13_getChars_11360_52 : decode cJ13_getChars_11360 52 = .ok (.lstore_n 0, 1) := by decide +kernel
theorem dJ13_getChars_11360_53 : decode cJ13_getChars_11360 53 = .ok (.aload_n 3, 1) := by decide +kernel
theorem dJ13_getChars_11360_54 : decode cJ13_getChars_11360 54 = .ok (.iinc 7 (-1), 3) := by decide +kernel
theorem dJ13_getChars_11360_57 : decode cJ13_getChars_11360 57 = .ok (.iload 7, 2) := by decide +kernel
theorem dJ13_getChars_11360_59 : decode cJ13_getChars_11360 59 = .ok (.getstatic 133, 3) := by decide +kernel
theorem dJ13_getChars_11360_62 : decode cJ13_getChars_11360 62 = .ok (.iload 6, 2) := by decide +kernel
theorem dJ13_getChars_11360_64 : decode cJ13_getChars_11360 64 = .ok (.baload, 1) := by decide +kernel
theorem dJ13_getChars_11360_65 : decode cJ13_getChars_11360 65 = .ok (.bastore, 1) := by decide +kernel
theorem dJ13_getChars_11360_66 : decode cJ13_getChars_11360 66 = .ok (.aload_n 3, 1) := by decide +kernel
theorem dJ13_getChars_11360_67 : decode cJ13_getChars_11360 67 = .ok (.iinc 7 (-1), 3) := by decide +kernel
theorem dJ13_getChars_11360_70 : decode cJ13_getChars_11360 70 = .ok (.iload 7, 2) := by decide +kernel
theorem dJ13_getChars_11360_72 : decode cJ13_getChars_11360 72 = .ok (.getstatic 137, 3) := by decide +kernel
theorem dJ13_getChars_11360_75 : decode cJ13_getChars_11360 75 = .ok (.iload 6, 2) := by decide +kernel
theorem dJ13_getChars_11360_77 : decode cJ13_getChars_11360 77 = .ok (.baload, 1) := by decide +kernel
theorem dJ13_getChars_11360_78 : decode cJ13_getChars_11360 78 = .ok (.bastore, 1) := by decide +kernel
theorem dJ13_getChars_11360_79 : decode cJ13_getChars_11360 79 = .ok (.goto (-55), 3) := by decide +kernel
theorem dJ13_getChars_11360_82 : decode cJ13_getChars_11360 82 = .ok (.lload_n 0, 1) := by decide +kernel
theorem dJ13_getChars_11360_83 : decode cJ13_getChars_11360 83 = .ok (.l2i, 1) := by decide +kernel
theorem dJ13_getChars_11360_84 : decode cJ13_getChars_11360 84 = .ok (.istore 10, 2) := by decide +kernel
theorem dJ13_getChars_11360_86 : decode cJ13_getChars_11360 86 = .ok (.iload 10, 2) := by decide +kernel
theorem dJ13_getChars_11360_88 : decode cJ13_getChars_11360 88 = .ok (.bipush (-100), 2) := by decide +kernel
theorem dJ13_getChars_11360_90 : decode cJ13_getChars_11360 90 = .ok (.if_icmp .gt 53, 3) := by decide +kernel
theorem dJ13_getChars_11360_93 : decode cJ13_getChars_11360 93 = .ok (.iload 10, 2) := by decide +kernel
theorem dJ13_getChars_11360_95 : decode cJ13_getChars_11360 95 = .ok (.bipush 100, 2) := by decide +kernel
theorem dJ13_getChars_11360_97 : decode cJ13_getChars_11360 97 = .ok (.idiv, 1) := by decide +kernel
theorem dJ13_getChars_11360_98 : decode cJ13_getChars_11360 98 = .ok (.istore 9, 2) := by decide +kernel
theorem dJ13_getChars_11360_100 : decode cJ13_getChars_11360 100 = .ok (.iload 9, 2) := by decide +kernel
theorem dJ13_getChars_11360_102 : decode cJ13_getChars_11360 102 = .ok (.bipush 100, 2) := by decide +kernel
theorem dJ13_getChars_11360_104 : decode cJ13_getChars_11360 104 = .ok (.imul, 1) := by decide +kernel
theorem dJ13_getChars_11360_105 : decode cJ13_getChars_11360 105 = .ok (.iload 10, 2) := by decide +kernel
theorem dJ13_getChars_11360_107 : decode cJ13_getChars_11360 107 = .ok (.isub, 1) := by decide +kernel
theorem dJ13_getChars_11360_108 : decode cJ13_getChars_11360 108 = .ok (.istore 6, 2) := by decide +kernel
theorem dJ13_getChars_11360_110 : decode cJ13_getChars_11360 110 = .ok (.iload 9, 2) := by decide +kernel
theorem dJ13_getChars_11360_112 : decode cJ13_getChars_11360 112 = .ok (.istore 10, 2) := by decide +kernel
theorem dJ13_getChars_11360_114 : decode cJ13_getChars_11360 114 = .ok (.aload_n 3, 1) := by decide +kernel
theorem dJ13_getChars_11360_115 : decode cJ13_getChars_11360 115 = .ok (.iinc 7 (-1), 3) := by decide +kernel
theorem dJ13_getChars_11360_118 : decode cJ13_getChars_11360 118 = .ok (.iload 7, 2) := by decide +kernel
theorem dJ13_getChars_11360_120 : decode cJ13_getChars_11360 120 = .ok (.getstatic 133, 3) := by decide +kernel
theorem dJ13_getChars_11360_123 : decode cJ13_getChars_11360 123 = .ok (.iload 6, 2) := by decide +kernel
theorem dJ13_getChars_11360_125 : decode cJ13_getChars_11360 125 = .ok (.baload, 1) := by decide +kernel
theorem dJ13_getChars_11360_126 : decode cJ13_getChars_11360 126 = .ok (.bastore, 1) := by decide +kernel
theorem dJ13_getChars_11360_127 : decode cJ13_getChars_11360 127 = .ok (.aload_n 3, 1) := by decide +kernel
theorem dJ13_getChars_11360_128 : decode cJ13_getChars_11360 128 = .ok (.iinc 7 (-1), 3) := by decide +kernel
theorem dJ13_getChars_11360_131 : decode cJ13_getChars_11360 131 = .ok (.iload 7, 2) := by decide +kernel
theorem dJ13_getChars_11360_133 : decode cJ13_getChars_11360 133 = .ok (.getstatic 137, 3) := by decide +kernel
theorem dJ13_getChars_11360_136 : decode cJ13_getChars_11360 136 = .ok (.iload 6, 2) := by decide +kernel
theorem dJ13_getChars_11360_138 : decode cJ13_getChars_11360 138 = .ok (.baload, 1) := by decide +kernel
theorem dJ13_getChars_11360_139 : decode cJ13_getChars_11360 139 = .ok (.bastore, 1) := by decide +kernel
theorem dJ13_getChars_11360_140 : decode cJ13_getChars_11360 140 = .ok (.goto (-54), 3) := by decide +kernel
theorem dJ13_getChars_11360_143 : decode cJ13_getChars_11360 143 = .ok (.aload_n 3, 1) := by decide +kernel
theorem dJ13_getChars_11360_144 : decode cJ13_getChars_11360 144 = .ok (.iinc 7 (-1), 3) := by decide +kernel
theorem dJ13_getChars_11360_147 : decode cJ13_getChars_11360 147 = .ok (.iload 7, 2) := by decide +kernel
theorem dJ13_getChars_11360_149 : decode cJ13_getChars_11360 149 = .ok (.getstatic 133, 3) := by decide +kernel
theorem dJ13_getChars_11360_152 : decode cJ13_getChars_11360 152 = .ok (.iload 10, 2) := by decide +kernel
theorem dJ13_getChars_11360_154 : decode cJ13_getChars_11360 154 = .ok (.ineg, 1) := by decide +kernel
theorem dJ13_getChars_11360_155 : decode cJ13_getChars_11360 155 = .ok (.baload, 1) := by decide +kernel
theorem dJ13_getChars_11360_156 : decode cJ13_getChars_11360 156 = .ok (.bastore, 1) := by decide +kernel
theorem dJ13_getChars_11360_157 : decode cJ13_getChars_11360 157 = .ok (.iload 10, 2) := by decide +kernel
theorem dJ13_getChars_11360_159 : decode cJ13_getChars_11360 159 = .ok (.bipush (-9), 2) := by decide +kernel
theorem dJ13_getChars_11360_161 : decode cJ13_getChars_11360 161 = .ok (.if_icmp .ge 17, 3) := by decide +kernel
theorem dJ13_getChars_11360_164 : decode cJ13_getChars_11360 164 = .ok (.aload_n 3, 1) := by decide +kernel
theorem dJ13_getChars_11360_165 : decode cJ13_getChars_11360 165 = .ok (.iinc 7 (-1), 3) := by decide +kernel
theorem dJ13_getChars_11360_168 : decode cJ13_getChars_11360 168 = .ok (.iload 7, 2) := by decide +kernel
theorem dJ13_getChars_11360_170 : decode cJ13_getChars_11360 170 = .ok (.getstatic 137, 3) := by decide +kernel
theorem dJ13_getChars_11360_173 : decode cJ13_getChars_11360 173 = .ok (.iload 10, 2) := by decide +kernel
theorem dJ13_getChars_11360_175 : decode cJ13_getChars_11360 175 = .ok (.ineg, 1) := by decide +kernel
theorem dJ13_getChars_11360_176 : decode cJ13_getChars_11360 176 = .ok (.baload, 1) := by decide +kernel
theorem dJ13_getChars_11360_177 : decode cJ13_getChars_11360 177 = .ok (.bastore, 1) := by decide +kernel
theorem dJ13_getChars_11360_178 : decode cJ13_getChars_11360 178 = .ok (.iload 8, 2) := by decide +kernel
theorem dJ13_getChars_11360_180 : decode cJ13_getChars_11360 180 = .ok (.ifCond .eq 12, 3) := by decide +kernel
theorem dJ13_getChars_11360_183 : decode cJ13_getChars_11360 183 = .ok (.aload_n 3, 1) := by decide +kernel
theorem dJ13_getChars_11360_184 : decode cJ13_getChars_11360 184 = .ok (.iinc 7 (-1), 3) := by decide +kernel
theorem dJ13_getChars_11360_187 : decode cJ13_getChars_11360 187 = .ok (.iload 7, 2) := by decide +kernel
theorem dJ13_getChars_11360_189 : decode cJ13_getChars_11360 189 = .ok (.bipush 45, 2) := by decide +kernel
theorem dJ13_getChars_11360_191 : decode cJ13_getChars_11360 191 = .ok (.bastore, 1) := by decide +kernel
theorem dJ13_getChars_11360_192 : decode cJ13_getChars_11360 192 = .ok (.iload 7, 2) := by decide +kernel
theorem dJ13_getChars_11360_194 : decode cJ13_getChars_11360 194 = .ok (.ireturn, 1) := by decide +kernel
theorem dJ13_stringSize_95d88_0 : decode cJ13_stringSize_95d88 0 = .ok (.iconst 1, 1) := by decide +kernel
theorem dJ13_stringSize_95d88_1 : decode cJ13_stringSize_95d88 1 = .ok (.istore_n 2, 1) := by decide +kernel
theorem dJ13_stringSize_95d88_2 : decode cJ13_stringSize_95d88 2 = .ok (.lload_n 0, 1) := by decide +kernel
theorem dJ13_stringSize_95d88_3 : decode cJ13_stringSize_95d88 3 = .ok (.lconst 0, 1) := by decide +kernel
theorem dJ13_stringSize_95d88_4 : decode cJ13_stringSize_95d88 4 = .ok (.lcmp, 1) := by decide +kernel
theorem dJ13_stringSize_95d88_5 : decode cJ13_stringSize_95d88 5 = .ok (.ifCond .lt 8, 3) := by decide +kernel
theorem dJ13_stringSize_95d88_8 : decode cJ13_stringSize_95d88 8 = .ok (.iconst 0, 1) := by decide +kernel
theorem dJ13_stringSize_95d88_9 : decode cJ13_stringSize_95d88 9 = .ok (.istore_n 2, 1) := by decide +kernel
theorem dJ13_stringSize_95d88_10 : decode cJ13_stringSize_95d88 10 = .ok (.lload_n 0, 1) := by decide +kernel
theorem dJ13_stringSize_95d88_11 : decode cJ13_stringSize_95d88 11 = .ok (.lneg, 1) := by decide +kernel
theorem dJ13_stringSize_95d88_12 : decode cJ13_stringSize_95d88 12 = .ok (.lstore_n 0, 1) := by decide +kernel
theorem dJ13_stringSize_95d88_13 : decode cJ13_stringSize_95d88 13 = .ok (.ldc2_w 140, 3) := by decide +kernel
theorem dJ13_stringSize_95d88_16 : decode cJ13_stringSize_95d88 16 = .ok (.lstore_n 3, 1) := by decide +kernel
theorem dJ13_stringSize_95d88_17 : decode cJ13_stringSize_95d88 17 = .ok (.iconst 1, 1) := by decide +kernel
theorem dJ13_stringSize_95d88_18 : decode cJ13_stringSize_95d88 18 = .ok (.istore 5, 2) := by decide +kernel
theorem dJ13_stringSize_95d88_20 : decode cJ13_stringSize_95d88 20 = .ok (.iload 5, 2) := by decide +kernel
theorem dJ13_stringSize_95d88_22 : decode cJ13_stringSize_95d88 22 = .ok (.bipush 19, 2) := by decide +kernel
theorem dJ13_stringSize_95d88_24 : decode cJ13_stringSize_95d88 24 = .ok (.if_icmp .ge 26, 3) := by decide +kernel
theorem dJ13_stringSize_95d88_27 : decode cJ13_stringSize_95d88 27 = .ok (.lload_n 0, 1) := by decide +kernel
theorem dJ13_stringSize_95d88_28 : decode cJ13_stringSize_95d88 28 = .ok (.lload_n 3, 1) := by decide +kernel
theorem dJ13_stringSize_95d88_29 : decode cJ13_stringSize_95d88 29 = .ok (.lcmp, 1) := by decide +kernel
theorem dJ13_stringSize_95d88_30 : decode cJ13_stringSize_95d88 30 = .ok (.ifCond .le 8, 3) := by decide +kernel
theorem dJ13_stringSize_95d88_33 : decode cJ13_stringSize_95d88 33 = .ok (.iload 5, 2) := by decide +kernel
theorem dJ13_stringSize_95d88_35 : decode cJ13_stringSize_95d88 35 = .ok (.iload_n 2, 1) := by decide +kernel
theorem dJ13_stringSize_95d88_36 : decode cJ13_stringSize_95d88 36 = .ok (.iadd, 1) := by decide +kernel
theorem dJ13_stringSize_95d88_37 : decode cJ13_stringSize_95d88 37 = .ok (.ireturn, 1) := by decide +kernel
theorem dJ13_stringSize_95d88_38 : decode cJ13_stringSize_95d88 38 = .ok (.ldc2_w 53, 3) := by decide +kernel
theorem dJ13_stringSize_95d88_41 : decode cJ13_stringSize_95d88 41 = .ok (.lload_n 3, 1) := by decide +kernel
theorem dJ13_stringSize_95d88_42 : decode cJ13_stringSize_95d88 42 = .ok (.lmul, 1) := by decide +kernel
theorem dJ13_stringSize_95d88_43 : decode cJ13_stringSize_95d88 43 = .ok (.lstore_n 3, 1) := by decide +kernel
theorem dJ13_stringSize_95d88_44 : decode cJ13_stringSize_95d88 44 = .ok (.iinc 5 1, 3) := by decide +kernel
theorem dJ13_stringSize_95d88_47 : decode cJ13_stringSize_95d88 47 = .ok (.goto (-27), 3) := by decide +kernel
theorem dJ13_stringSize_95d88_50 : decode cJ13_stringSize_95d88 50 = .ok (.bipush 19, 2) := by decide +kernel
theorem dJ13_stringSize_95d88_52 : decode cJ13_stringSize_95d88 52 = .ok (.iload_n 2, 1) := by decide +kernel
theorem dJ13_stringSize_95d88_53 : decode cJ13_stringSize_95d88 53 = .ok (.iadd, 1) := by decide +kernel
theorem dJ13_stringSize_95d88_54 : decode cJ13_stringSize_95d88 54 = .ok (.ireturn, 1) := by decide +kernel
theorem dJ13_numberOfLeadingZeros_95d88_0 : decode cJ13_numberOfLeadingZeros_95d88 0 = .ok (.lload_n 0, 1) := by decide +kernel
theorem dJ13_numberOfLeadingZeros_95d88_1 : decode cJ13_numberOfLeadingZeros_95d88 1 = .ok (.bipush 32, 2) := by decide +kernel
theorem dJ13_numberOfLeadingZeros_95d88_3 : decode cJ13_numberOfLeadingZeros_95d88 3 = .ok (.lushr, 1) := by decide +kernel
theorem dJ13_numberOfLeadingZeros_95d88_4 : decode cJ13_numberOfLeadingZeros_95d88 4 = .ok (.l2i, 1) := by decide +kernel
theorem dJ13_numberOfLeadingZeros_95d88_5 : decode cJ13_numberOfLeadingZeros_95d88 5 = .ok (.istore_n 2, 1) := by decide +kernel
theorem dJ13_numberOfLeadingZeros_95d88_6 : decode cJ13_numberOfLeadingZeros_95d88 6 = .ok (.iload_n 2, 1) := by decide +kernel
theorem dJ13_numberOfLeadingZeros_95d88_7 : decode cJ13_numberOfLeadingZeros_95d88 7 = .ok (.ifCond .ne 14, 3) := by decide +kernel
theorem dJ13_numberOfLeadingZeros_95d88_10 : decode cJ13_numberOfLeadingZeros_95d88 10 = .ok (.bipush 32, 2) := by decide +kernel
theorem dJ13_numberOfLeadingZeros_95d88_12 : decode cJ13_numberOfLeadingZeros_95d88 12 = .ok (.lload_n 0, 1) := by decide +kernel
theorem dJ13_numberOfLeadingZeros_95d88_13 : decode cJ13_numberOfLeadingZeros_95d88 13 = .ok (.l2i, 1) := by decide +kernel
theorem dJ13_numberOfLeadingZeros_95d88_14 : decode cJ13_numberOfLeadingZeros_95d88 14 = .ok (.invokestatic 308, 3) := by decide +kernel
theorem dJ13_numberOfLeadingZeros_95d88_17 : decode cJ13_numberOfLeadingZeros_95d88 17 = .ok (.iadd, 1) := by decide +kernel
theorem dJ13_numberOfLeadingZeros_95d88_18 : decode cJ13_numberOfLeadingZeros_95d88 18 = .ok (.goto 7, 3) := by decide +kernel
theorem dJ13_numberOfLeadingZeros_95d88_21 : decode cJ13_numberOfLeadingZeros_95d88 21 = .ok (.iload_n 2, 1) := by decide +kernel
theorem dJ13_numberOfLeadingZeros_95d88_22 : decode cJ13_numberOfLeadingZeros_95d88 22 = .ok (.invokestatic 308, 3) := by decide +kernel
theorem dJ13_numberOfLeadingZeros_95d88_25 : decode cJ13_numberOfLeadingZeros_95d88 25 = .ok (.ireturn, 1) := by decide +kernel
theorem dJ9_multiplyHigh_f86c9_0 : decode cJ9_multiplyHigh_f86c9 0 = .ok (.lload_n 0, 1) := by decide +kernel
theorem dJ9_multiplyHigh_f86c9_1 : decode cJ9_multiplyHigh_f86c9 1 = .ok (.bipush 32, 2) := by decide +kernel
theorem dJ9_multiplyHigh_f86c9_3 : decode cJ9_multiplyHigh_f86c9 3 = .ok (.lshr, 1) := by decide +kernel
theorem dJ9_multiplyHigh_f86c9_4 : decode cJ9_multiplyHigh_f86c9 4 = .ok (.lstore 4, 2) := by decide +kernel
theorem dJ9_multiplyHigh_f86c9_6 : decode cJ9_multiplyHigh_f86c9 6 = .ok (.lload_n 0, 1) := by decide +kernel
theorem dJ9_multiplyHigh_f86c9_7 : decode cJ9_multiplyHigh_f86c9 7 = .ok (.ldc2_w 138, 3) := by decide +kernel
theorem dJ9_multiplyHigh_f86c9_10 : decode cJ9_multiplyHigh_f86c9 10 = .ok (.land, 1) := by decide +kernel
theorem dJ9_multiplyHigh_f86c9_11 : decode cJ9_multiplyHigh_f86c9 11 = .ok (.lstore 6, 2) := by decide +kernel
theorem dJ9_multiplyHigh_f86c9_13 : decode cJ9_multiplyHigh_f86c9 13 = .ok (.lload_n 2, 1) := by decide +kernel
theorem dJ9_multiplyHigh_f86c9_14 : decode cJ9_multiplyHigh_f86c9 14 = .ok (.bipush 32, 2) := by decide +kernel
theorem dJ9_multiplyHigh_f86c9_16 : decode cJ9_multiplyHigh_f86c9 16 = .ok (.lshr, 1) := by decide +kernel
theorem dJ9_multiplyHigh_f86c9_17 : decode cJ9_multiplyHigh_f86c9 17 = .ok (.lstore 8, 2) := by decide +kernel
theorem dJ9_multiplyHigh_f86c9_19 : decode cJ9_multiplyHigh_f86c9 19 = .ok (.lload_n 2, 1) := by decide +kernel
theorem dJ9_multiplyHigh_f86c9_20 : decode cJ9_multiplyHigh_f86c9 20 = .ok (.ldc2_w 138, 3) := by decide +kernel
theorem dJ9_multiplyHigh_f86c9_23 : decode cJ9_multiplyHigh_f86c9 23 = .ok (.land, 1) := by decide +kernel
theorem dJ9_multiplyHigh_f86c9_24 : decode cJ9_multiplyHigh_f86c9 24 = .ok (.lstore 10, 2) := by decide +kernel
theorem dJ9_multiplyHigh_f86c9_26 : decode cJ9_multiplyHigh_f86c9 26 = .ok (.lload 6, 2) := by decide +kernel
theorem dJ9_multiplyHigh_f86c9_28 : decode cJ9_multiplyHigh_f86c9 28 = .ok (.lload 10, 2) := by decide +kernel
theorem dJ9_multiplyHigh_f86c9_30 : decode cJ9_multiplyHigh_f86c9 30 = .ok (.lmul, 1) := by decide +kernel
theorem dJ9_multiplyHigh_f86c9_31 : decode cJ9_multiplyHigh_f86c9 31 = .ok (.lstore 12, 2) := by decide +kernel
theorem dJ9_multiplyHigh_f86c9_33 : decode cJ9_multiplyHigh_f86c9 33 = .ok (.lload 4, 2) := by decide +kernel
theorem dJ9_multiplyHigh_f86c9_35 : decode cJ9_multiplyHigh_f86c9 35 = .ok (.lload 10, 2) := by decide +kernel
theorem dJ9_multiplyHigh_f86c9_37 : decode cJ9_multiplyHigh_f86c9 37 = .ok (.lmul, 1) := by decide +kernel
theorem dJ9_multiplyHigh_f86c9_38 : decode cJ9_multiplyHigh_f86c9 38 = .ok (.lload 12, 2) := by decide +kernel
theorem dJ9_multiplyHigh_f86c9_40 : decode cJ9_multiplyHigh_f86c9 40 = .ok (.bipush 32, 2) := by decide +kernel
theorem dJ9_multiplyHigh_f86c9_42 : decode cJ9_multiplyHigh_f86c9 42 = .ok (.lushr, 1) := by decide +kernel
theorem dJ9_multiplyHigh_f86c9_43 : decode cJ9_multiplyHigh_f86c9 43 = .ok (.ladd, 1) := by decide +kernel
theorem dJ9_multiplyHigh_f86c9_44 : decode cJ9_multiplyHigh_f86c9 44 = .ok (.lstore 14, 2) := by decide +kernel
theorem dJ9_multiplyHigh_f86c9_46 : decode cJ9_multiplyHigh_f86c9 46 = .ok (.lload 14, 2) := by decide +kernel
theorem dJ9_multiplyHigh_f86c9_48 : decode cJ9_multiplyHigh_f86c9 48 = .ok (.ldc2_w 138, 3) := by decide +kernel
theorem dJ9_multiplyHigh_f86c9_51 : decode cJ9_multiplyHigh_f86c9 51 = .ok (.land, 1) := by decide +kernel
theorem dJ9_multiplyHigh_f86c9_52 : decode cJ9_multiplyHigh_f86c9 52 = .ok (.lstore 16, 2) := by decide +kernel
theorem dJ9_multiplyHigh_f86c9_54 : decode cJ9_multiplyHigh_f86c9 54 = .ok (.lload 14, 2) := by decide +kernel
theorem dJ9_multiplyHigh_f86c9_56 : decode cJ9_multiplyHigh_f86c9 56 = .ok (.bipush 32, 2) := by decide +kernel
theorem dJ9_multiplyHigh_f86c9_58 : decode cJ9_multiplyHigh_f86c9 58 = .ok (.lshr, 1) := by decide +kernel
theorem dJ9_multiplyHigh_f86c9_59 : decode cJ9_multiplyHigh_f86c9 59 = .ok (.lstore 18, 2) := by decide +kernel
theorem dJ9_multiplyHigh_f86c9_61 : decode cJ9_multiplyHigh_f86c9 61 = .ok (.lload 16, 2) := by decide +kernel
theorem dJ9_multiplyHigh_f86c9_63 : decode cJ9_multiplyHigh_f86c9 63 = .ok (.lload 6, 2) := by decide +kernel
theorem dJ9_multiplyHigh_f86c9_65 : decode cJ9_multiplyHigh_f86c9 65 = .ok (.lload 8, 2) := by decide +kernel
theorem dJ9_multiplyHigh_f86c9_67 : decode cJ9_multiplyHigh_f86c9 67 = .ok (.lmul, 1) := by decide +kernel
theorem dJ9_multiplyHigh_f86c9_68 : decode cJ9_multiplyHigh_f86c9 68 = .ok (.ladd, 1) := by decide +kernel
theorem dJ9_multiplyHigh_f86c9_69 : decode cJ9_multiplyHigh_f86c9 69 = .ok (.lstore 16, 2) := by decide +kernel
theorem dJ9_multiplyHigh_f86c9_71 : decode cJ9_multiplyHigh_f86c9 71 = .ok (.lload 4, 2) := by decide +kernel
theorem dJ9_multiplyHigh_f86c9_73 : decode cJ9_multiplyHigh_f86c9 73 = .ok (.lload 8, 2) := by decide +kernel
theorem dJ9_multiplyHigh_f86c9_75 : decode cJ9_multiplyHigh_f86c9 75 = .ok (.lmul, 1) := by decide +kernel
theorem dJ9_multiplyHigh_f86c9_76 : decode cJ9_multiplyHigh_f86c9 76 = .ok (.lload 18, 2) := by decide +kernel
theorem dJ9_multiplyHigh_f86c9_78 : decode cJ9_multiplyHigh_f86c9 78 = .ok (.ladd, 1) := by decide +kernel
theorem dJ9_multiplyHigh_f86c9_79 : decode cJ9_multiplyHigh_f86c9 79 = .ok (.lload 16, 2) := by decide +kernel
theorem dJ9_multiplyHigh_f86c9_81 : decode cJ9_multiplyHigh_f86c9 81 = .ok (.bipush 32, 2) := by decide +kernel
theorem dJ9_multiplyHigh_f86c9_83 : decode cJ9_multiplyHigh_f86c9 83 = .ok (.lshr, 1) := by decide +kernel
theorem dJ9_multiplyHigh_f86c9_84 : decode cJ9_multiplyHigh_f86c9 84 = .ok (.ladd, 1) := by decide +kernel
theorem dJ9_multiplyHigh_f86c9_85 : decode cJ9_multiplyHigh_f86c9 85 = .ok (.lreturn, 1) := by decide +kernel
theorem dJ9_max_7cf53_0 : decode cJ9_max_7cf53 0 = .ok (.iload_n 0, 1) := by decide +kernel
theorem dJ9_max_7cf53_1 : decode cJ9_max_7cf53 1 = .ok (.iload_n 1, 1) := by decide +kernel
theorem dJ9_max_7cf53_2 : decode cJ9_max_7cf53 2 = .ok (.if_icmp .lt 7, 3) := by decide +kernel
theorem dJ9_max_7cf53_5 : decode cJ9_max_7cf53 5 = .ok (.iload_n 0, 1) := by decide +kernel
theorem dJ9_max_7cf53_6 : decode cJ9_max_7cf53 6 = .ok (.goto 4, 3) := by decide +kernel
theorem dJ9_max_7cf53_9 : decode cJ9_max_7cf53 9 = .ok (.iload_n 1, 1) := by decide +kernel
theorem dJ9_max_7cf53_10 : decode cJ9_max_7cf53 10 = .ok (.ireturn, 1) := by decide +kernel
theorem dJ9_min_7cf53_0 : decode cJ9_min_7cf53 0 = .ok (.iload_n 0, 1) := by decide +kernel
theorem dJ9_min_7cf53_1 : decode cJ9_min_7cf53 1 = .ok (.iload_n 1, 1) := by decide +kernel
theorem dJ9_min_7cf53_2 : decode cJ9_min_7cf53 2 = .ok (.if_icmp .gt 7, 3) := by decide +kernel
theorem dJ9_min_7cf53_5 : decode cJ9_min_7cf53 5 = .ok (.iload_n 0, 1) := by decide +kernel
theorem dJ9_min_7cf53_6 : decode cJ9_min_7cf53 6 = .ok (.goto 4, 3) := by decide +kernel
theorem dJ9_min_7cf53_9 : decode cJ9_min_7cf53 9 = .ok (.iload_n 1, 1) := by decide +kernel
theorem dJ9_min_7cf53_10 : decode cJ9_min_7cf53 10 = .ok (.ireturn, 1) := by decide +kernel
theorem dJ0_init_81219_0 : decode cJ0_init_81219 0 = .ok (.aload_n 0, 1) := by decide +kernel
theorem dJ0_init_81219_1 : decode cJ0_init_81219 1 = .ok (.aload_n 1, 1) := by decide +kernel
theorem dJ0_init_81219_2 : decode cJ0_init_81219 2 = .ok (.aconst_null, 1) := by decide +kernel
theorem dJ0_init_81219_3 : decode cJ0_init_81219 3 = .ok (.invokespecial 489, 3) := by decide +kernel
theorem dJ0_init_81219_6 : decode cJ0_init_81219 6 = .ok (.return_, 1) := by decide +kernel
theorem dJ0_length_8abf5_0 : decode cJ0_length_8abf5 0 = .ok (.aload_n 0, 1) := by decide +kernel
theorem dJ0_length_8abf5_1 : decode cJ0_length_8abf5 1 = .ok (.getfield 9, 3) := by decide +kernel
theorem dJ0_length_8abf5_4 : decode cJ0_length_8abf5 4 = .ok (.arraylength, 1) := by decide +kernel
theorem dJ0_length_8abf5_5 : decode cJ0_length_8abf5 5 = .ok (.aload_n 0, 1) := by decide +kernel
theorem dJ0_length_8abf5_6 : decode cJ0_length_8abf5 6 = .ok (.invokevirtual 335, 3) := by decide +kernel
theorem dJ0_length_8abf5_9 : decode cJ0_length_8abf5 9 = .ok (.ishr, 1) := by decide +kernel
theorem dJ0_length_8abf5_10 : decode cJ0_length_8abf5 10 = .ok (.ireturn, 1) := by decide +kernel
theorem dJ0_charAt_5068e_0 : decode cJ0_charAt_5068e 0 = .ok (.aload_n 0, 1) := by decide +kernel
theorem dJ0_charAt_5068e_1 : decode cJ0_charAt_5068e 1 = .ok (.invokevirtual 492, 3) := by decide +kernel
theorem dJ0_charAt_5068e_4 : decode cJ0_charAt_5068e 4 = .ok (.ifCond .eq 12, 3) := by decide +kernel
theorem dJ0_charAt_5068e_7 : decode cJ0_charAt_5068e 7 = .ok (.aload_n 0, 1) := by decide +kernel
theorem dJ0_charAt_5068e_8 : decode cJ0_charAt_5068e 8 = .ok (.getfield 9, 3) := by decide +kernel
theorem dJ0_charAt_5068e_11 : decode cJ0_charAt_5068e 11 = .ok (.iload_n 1, 1) := by decide +kernel
theorem dJ0_charAt_5068e_12 : decode cJ0_charAt_5068e 12 = .ok (.invokestatic 495, 3) := by decide +kernel
theorem dJ0_charAt_5068e_15 : decode cJ0_charAt_5068e 15 = .ok (.ireturn, 1) := by decide +kernel
theorem dJ0_charAt_5068e_16 : decode cJ0_charAt_5068e 16 = .ok (.aload_n 0, 1) := by decide +kernel
theorem dJ0_charAt_5068e_17 : decode cJ0_charAt_5068e 17 = .ok (.getfield 9, 3) := by decide +kernel
theorem dJ0_charAt_5068e_20 : decode cJ0_charAt_5068e 20 = .ok (.iload_n 1, 1) := by decide +kernel
theorem dJ0_charAt_5068e_21 : decode cJ0_charAt_5068e 21 = .ok (.invokestatic 498, 3) := by decide +kernel
theorem dJ0_charAt_5068e_24 : decode cJ0_charAt_5068e 24 = .ok (.ireturn, 1) := by decide +kernel
theorem dJ0_equals_9ea2d_0 : decode cJ0_equals_9ea2d 0 = .ok (.aload_n 0, 1) := by decide +kernel
theorem dJ0_equals_9ea2d_1 : decode cJ0_equals_9ea2d 1 = .ok (.aload_n 1, 1) := by decide +kernel
theorem dJ0_equals_9ea2d_2 : decode cJ0_equals_9ea2d 2 = .ok (.if_acmp .ne 5, 3) := by decide +kernel
theorem dJ0_equals_9ea2d_5 : decode cJ0_equals_9ea2d 5 = .ok (.iconst 1, 1) := by decide +kernel
theorem dJ0_equals_9ea2d_6 : decode cJ0_equals_9ea2d 6 = .ok (.ireturn, 1) := by decide +kernel
theorem dJ0_equals_9ea2d_7 : decode cJ0_equals_9ea2d 7 = .ok (.aload_n 1, 1) := by decide +kernel
theorem dJ0_equals_9ea2d_8 : decode cJ0_equals_9ea2d 8 = .ok (.instanceof 10, 3) := by decide +kernel
theorem dJ0_equals_9ea2d_11 : decode cJ0_equals_9ea2d 11 = .ok (.ifCond .eq 43, 3) := by decide +kernel
theorem dJ0_equals_9ea2d_14 : decode cJ0_equals_9ea2d 14 = .ok (.aload_n 1, 1) := by decide +kernel
theorem dJ0_equals_9ea2d_15 : decode cJ0_equals_9ea2d 15 = .ok (.checkcast 10, 3) := by decide +kernel
theorem dJ0_equals_9ea2d_18 : decode cJ0_equals_9ea2d 18 = .ok (.astore_n 2, 1) := by decide +kernel
theorem dJ0_equals_9ea2d_19 : decode cJ0_equals_9ea2d 19 = .ok (.getstatic 38, 3) := by decide +kernel
theorem dJ0_equals_9ea2d_22 : decode cJ0_equals_9ea2d 22 = .ok (.ifCond .eq 14, 3) := by decide +kernel
theorem dJ0_equals_9ea2d_25 : decode cJ0_equals_9ea2d 25 = .ok (.aload_n 0, 1) := by decide +kernel
theorem dJ0_equals_9ea2d_26 : decode cJ0_equals_9ea2d 26 = .ok (.getfield 15, 3) := by decide +kernel
theorem dJ0_equals_9ea2d_29 : decode cJ0_equals_9ea2d 29 = .ok (.aload_n 2, 1) := by decide +kernel
theorem dJ0_equals_9ea2d_30 : decode cJ0_equals_9ea2d 30 = .ok (.getfield 15, 3) := by decide +kernel
theorem dJ0_equals_9ea2d_33 : decode cJ0_equals_9ea2d 33 = .ok (.if_icmp .ne 21, 3) := by decide +kernel
theorem dJ0_equals_9ea2d_36 : decode cJ0_equals_9ea2d 36 = .ok (.aload_n 0, 1) := by decide +kernel
theorem dJ0_equals_9ea2d_37 : decode cJ0_equals_9ea2d 37 = .ok (.getfield 9, 3) := by decide +kernel
theorem dJ0_equals_9ea2d_40 : decode cJ0_equals_9ea2d 40 = .ok (.aload_n 2, 1) := by decide +kernel
theorem dJ0_equals_9ea2d_41 : decode cJ0_equals_9ea2d 41 = .ok (.getfield 9, 3) := by decide +kernel
theorem dJ0_equals_9ea2d_44 : decode cJ0_equals_9ea2d 44 = .ok (.invokestatic 541, 3) := by decide +kernel
theorem dJ0_equals_9ea2d_47 : decode cJ0_equals_9ea2d 47 = .ok (.ifCond .eq 7, 3) := by decide +kernel
theorem dJ0_equals_9ea2d_50 : decode cJ0_equals_9ea2d 50 = .ok (.iconst 1, 1) := by decide +kernel
theorem dJ0_equals_9ea2d_51 : decode cJ0_equals_9ea2d 51 = .ok (.goto 4, 3) := by decide +kernel
theorem dJ0_equals_9ea2d_54 : decode cJ0_equals_9ea2d 54 = .ok (.iconst 0, 1) := by decide +kernel
theorem dJ0_equals_9ea2d_55 : decode cJ0_equals_9ea2d 55 = .ok (.ireturn, 1) := by decide +kernel
theorem dJ0_getBytes_840e7_0 : decode cJ0_getBytes_840e7 0 = .ok (.aload_n 0, 1) := by decide +kernel
theorem dJ0_getBytes_840e7_1 : decode cJ0_getBytes_840e7 1 = .ok (.invokevirtual 335, 3) := by decide +kernel
theorem dJ0_getBytes_840e7_4 : decode cJ0_getBytes_840e7 4 = .ok (.iload_n 3, 1) := by decide +kernel
theorem dJ0_getBytes_840e7_5 : decode cJ0_getBytes_840e7 5 = .ok (.if_icmp .ne 23, 3) := by decide +kernel
theorem dJ0_getBytes_840e7_8 : decode cJ0_getBytes_840e7 8 = .ok (.aload_n 0, 1) := by decide +kernel
theorem dJ0_getBytes_840e7_9 : decode cJ0_getBytes_840e7 9 = .ok (.getfield 9, 3) := by decide +kernel
theorem dJ0_getBytes_840e7_12 : decode cJ0_getBytes_840e7 12 = .ok (.iconst 0, 1) := by decide +kernel
theorem dJ0_getBytes_840e7_13 : decode cJ0_getBytes_840e7 13 = .ok (.aload_n 1, 1) := by decide +kernel
theorem dJ0_getBytes_840e7_14 : decode cJ0_getBytes_840e7 14 = .ok (.iload_n 2, 1) := by decide +kernel
theorem dJ0_getBytes_840e7_15 : decode cJ0_getBytes_840e7 15 = .ok (.iload_n 3, 1) := by decide +kernel
theorem dJ0_getBytes_840e7_16 : decode cJ0_getBytes_840e7 16 = .ok (.ishl, 1) := by decide +kernel
theorem dJ0_getBytes_840e7_17 : decode cJ0_getBytes_840e7 17 = .ok (.aload_n 0, 1) := by decide +kernel
theorem dJ0_getBytes_840e7_18 : decode cJ0_getBytes_840e7 18 = .ok (.getfield 9, 3) := by decide +kernel
theorem dJ0_getBytes_840e7_21 : decode cJ0_getBytes_840e7 21 = .ok (.arraylength, 1) := by decide +kernel
theorem dJ0_getBytes_840e7_22 : decode cJ0_getBytes_840e7 22 = .ok (.invokestatic 212, 3) := by decide +kernel
theorem dJ0_getBytes_840e7_25 : decode cJ0_getBytes_840e7 25 = .ok (.goto 18, 3) := by decide +kernel
theorem dJ0_getBytes_840e7_28 : decode cJ0_getBytes_840e7 28 = .ok (.aload_n 0, 1) := by decide +kernel
theorem dJ0_getBytes_840e7_29 : decode cJ0_getBytes_840e7 29 = .ok (.getfield 9, 3) := by decide +kernel
theorem dJ0_getBytes_840e7_32 : decode cJ0_getBytes_840e7 32 = .ok (.iconst 0, 1) := by decide +kernel
theorem dJ0_getBytes_840e7_33 : decode cJ0_getBytes_840e7 33 = .ok (.aload_n 1, 1) := by decide +kernel
theorem dJ0_getBytes_840e7_34 : decode cJ0_getBytes_840e7 34 = .ok (.iload_n 2, 1) := by decide +kernel
theorem dJ0_getBytes_840e7_35 : decode cJ0_getBytes_840e7 35 = .ok (.aload_n 0, 1) := by decide +kernel
theorem dJ0_getBytes_840e7_36 : decode cJ0_getBytes_840e7 36 = .ok (.getfield 9, 3) := by decide +kernel
theorem dJ0_getBytes_840e7_39 : decode cJ0_getBytes_840e7 39 = .ok (.arraylength, 1) := by decide +kernel
theorem dJ0_getBytes_840e7_40 : decode cJ0_getBytes_840e7 40 = .ok (.invokestatic 106, 3) := by decide +kernel
theorem dJ0_getBytes_840e7_43 : decode cJ0_getBytes_840e7 43 = .ok (.return_, 1) := by decide +kernel
theorem dJ0_init_db425_0 : decode cJ0_init_db425 0 = .ok (.aload_n 0, 1) := by decide +kernel
theorem dJ0_init_db425_1 : decode cJ0_init_db425 1 = .ok (.invokespecial 1, 3) := by decide +kernel
theorem dJ0_init_db425_4 : decode cJ0_init_db425 4 = .ok (.aload_n 1, 1) := by decide +kernel
theorem dJ0_init_db425_5 : decode cJ0_init_db425 5 = .ok (.invokevirtual 552, 3) := by decide +kernel
theorem dJ0_init_db425_8 : decode cJ0_init_db425 8 = .ok (.astore_n 3, 1) := by decide +kernel
theorem dJ0_init_db425_9 : decode cJ0_init_db425 9 = .ok (.aload_n 1, 1) := by decide +kernel
theorem dJ0_init_db425_10 : decode cJ0_init_db425 10 = .ok (.invokevirtual 549, 3) := by decide +kernel
theorem dJ0_init_db425_13 : decode cJ0_init_db425 13 = .ok (.istore 4, 2) := by decide +kernel
theorem dJ0_init_db425_15 : decode cJ0_init_db425 15 = .ok (.aload_n 1, 1) := by decide +kernel
theorem dJ0_init_db425_16 : decode cJ0_init_db425 16 = .ok (.invokevirtual 1047, 3) := by decide +kernel
theorem dJ0_init_db425_19 : decode cJ0_init_db425 19 = .ok (.ifCond .eq 22, 3) := by decide +kernel
theorem dJ0_init_db425_22 : decode cJ0_init_db425 22 = .ok (.aload_n 0, 1) := by decide +kernel
theorem dJ0_init_db425_23 : decode cJ0_init_db425 23 = .ok (.iconst 0, 1) := by decide +kernel
theorem dJ0_init_db425_24 : decode cJ0_init_db425 24 = .ok (.putfield 15, 3) := by decide +kernel
theorem dJ0_init_db425_27 : decode cJ0_init_db425 27 = .ok (.aload_n 0, 1) := by decide +kernel
theorem dJ0_init_db425_28 : decode cJ0_init_db425 28 = .ok (.aload_n 3, 1) := by decide +kernel
theorem dJ0_init_db425_29 : decode cJ0_init_db425 29 = .ok (.iconst 0, 1) := by decide +kernel
theorem dJ0_init_db425_30 : decode cJ0_init_db425 30 = .ok (.iload 4, 2) := by decide +kernel
theorem dJ0_init_db425_32 : decode cJ0_init_db425 32 = .ok (.invokestatic 54, 3) := by decide +kernel
theorem dJ0_init_db425_35 : decode cJ0_init_db425 35 = .ok (.putfield 9, 3) := by decide +kernel
theorem dJ0_init_db425_38 : decode cJ0_init_db425 38 = .ok (.goto 59, 3) := by decide +kernel
theorem dJ0_init_db425_41 : decode cJ0_init_db425 41 = .ok (.getstatic 38, 3) := by decide +kernel
theorem dJ0_init_db425_44 : decode cJ0_init_db425 44 = .ok (.ifCond .eq 35, 3) := by decide +kernel
theorem dJ0_init_db425_47 : decode cJ0_init_db425 47 = .ok (.aload_n 1, 1) := by decide +kernel
theorem dJ0_init_db425_48 : decode cJ0_init_db425 48 = .ok (.getfield 1048, 3) := by decide +kernel
theorem dJ0_init_db425_51 : decode cJ0_init_db425 51 = .ok (.ifCond .eq 28, 3) := by decide +kernel
theorem dJ0_init_db425_54 : decode cJ0_init_db425 54 = .ok (.aload_n 0, 1) := by decide +kernel
theorem dJ0_init_db425_55 : decode cJ0_init_db425 55 = .ok (.aload_n 3, 1) := by decide +kernel
theorem dJ0_init_db425_56 : decode cJ0_init_db425 56 = .ok (.iconst 0, 1) := by decide +kernel
theorem dJ0_init_db425_57 : decode cJ0_init_db425 57 = .ok (.iload 4, 2) := by decide +kernel
theorem dJ0_init_db425_59 : decode cJ0_init_db425 59 = .ok (.invokestatic 1051, 3) := by decide +kernel
theorem dJ0_init_db425_62 : decode cJ0_init_db425 62 = .ok (.putfield 9, 3) := by decide +kernel
theorem dJ0_init_db425_65 : decode cJ0_init_db425 65 = .ok (.aload_n 0, 1) := by decide +kernel
theorem dJ0_init_db425_66 : decode cJ0_init_db425 66 = .ok (.aload_n 0, 1) := by decide +kernel
theorem dJ0_init_db425_67 : decode cJ0_init_db425 67 = .ok (.getfield 9, 3) := by decide +kernel
theorem dJ0_init_db425_70 : decode cJ0_init_db425 70 = .ok (.iload 4, 2) := by decide +kernel
theorem dJ0_init_db425_72 : decode cJ0_init_db425 72 = .ok (.invokestatic 47, 3) := by decide +kernel
theorem dJ0_init_db425_75 : decode cJ0_init_db425 75 = .ok (.putfield 15, 3) := by decide +kernel
theorem dJ0_init_db425_78 : decode cJ0_init_db425 78 = .ok (.return_, 1) := by decide +kernel
theorem dJ0_init_db425_79 : decode cJ0_init_db425 79 = .ok (.aload_n 0, 1) := by decide +kernel
theorem dJ0_init_db425_80 : decode cJ0_init_db425 80 = .ok (.iconst 1, 1) := by decide +kernel
theorem dJ0_init_db425_81 : decode cJ0_init_db425 81 = .ok (.putfield 15, 3) := by decide +kernel
theorem dJ0_init_db425_84 : decode cJ0_init_db425 84 = .ok (.aload_n 0, 1) := by decide +kernel
theorem dJ0_init_db425_85 : decode cJ0_init_db425 85 = .ok (.aload_n 3, 1) := by decide +kernel
theorem dJ0_init_db425_86 : decode cJ0_init_db425 86 = .ok (.iconst 0, 1) := by decide +kernel
theorem dJ0_init_db425_87 : decode cJ0_init_db425 87 = .ok (.iload 4, 2) := by decide +kernel
theorem dJ0_init_db425_89 : decode cJ0_init_db425 89 = .ok (.iconst 1, 1) := by decide +kernel
theorem dJ0_init_db425_90 : decode cJ0_init_db425 90 = .ok (.ishl, 1) := by decide +kernel
theorem dJ0_init_db425_91 : decode cJ0_init_db425 91 = .ok (.invokestatic 54, 3) := by decide +kernel
theorem dJ0_init_db425_94 : decode cJ0_init_db425 94 = .ok (.putfield 9, 3) := by decide +kernel
theorem dJ0_init_db425_97 : decode cJ0_init_db425 97 = .ok (.return_, 1) := by decide +kernel
theorem dJ0_coder_7d493_0 : decode cJ0_coder_7d493 0 = .ok (.getstatic 38, 3) := by decide +kernel
theorem dJ0_coder_7d493_3 : decode cJ0_coder_7d493 3 = .ok (.ifCond .eq 10, 3) := by decide +kernel
theorem dJ0_coder_7d493_6 : decode cJ0_coder_7d493 6 = .ok (.aload_n 0, 1) := by decide +kernel
theorem dJ0_coder_7d493_7 : decode cJ0_coder_7d493 7 = .ok (.getfield 15, 3) := by decide +kernel
theorem dJ0_coder_7d493_10 : decode cJ0_coder_7d493 10 = .ok (.goto 4, 3) := by decide +kernel
theorem dJ0_coder_7d493_13 : decode cJ0_coder_7d493 13 = .ok (.iconst 1, 1) := by decide +kernel
theorem dJ0_coder_7d493_14 : decode cJ0_coder_7d493 14 = .ok (.ireturn, 1) := by decide +kernel
theorem dJ0_value_6d5f1_0 : decode cJ0_value_6d5f1 0 = .ok (.aload_n 0, 1) := by decide +kernel
theorem dJ0_value_6d5f1_1 : decode cJ0_value_6d5f1 1 = .ok (.getfield 9, 3) := by decide +kernel
theorem dJ0_value_6d5f1_4 : decode cJ0_value_6d5f1 4 = .ok (.areturn, 1) := by decide +kernel
theorem dJ0_isLatin1_aae02_0 : decode cJ0_isLatin1_aae02 0 = .ok (.getstatic 38, 3) := by decide +kernel
theorem dJ0_isLatin1_aae02_3 : decode cJ0_isLatin1_aae02 3 = .ok (.ifCond .eq 14, 3) := by decide +kernel
theorem dJ0_isLatin1_aae02_6 : decode cJ0_isLatin1_aae02 6 = .ok (.aload_n 0, 1) := by decide +kernel
theorem dJ0_isLatin1_aae02_7 : decode cJ0_isLatin1_aae02 7 = .ok (.getfield 15, 3) := by decide +kernel
theorem dJ0_isLatin1_aae02_10 : decode cJ0_isLatin1_aae02 10 = .ok (.ifCond .ne 7, 3) := by decide +kernel
theorem dJ0_isLatin1_aae02_13 : decode cJ0_isLatin1_aae02 13 = .ok (.iconst 1, 1) := by decide +kernel
theorem dJ0_isLatin1_aae02_14 : decode cJ0_isLatin1_aae02 14 = .ok (.goto 4, 3) := by decide +kernel
theorem dJ0_isLatin1_aae02_17 : decode cJ0_isLatin1_aae02 17 = .ok (.iconst 0, 1) := by decide +kernel
theorem dJ0_isLatin1_aae02_18 : decode cJ0_isLatin1_aae02 18 = .ok (.ireturn, 1) := by decide +kernel
theorem dJ0_checkIndex_df160_0 : decode cJ0_checkIndex_df160 0 = .ok (.iload_n 0, 1) := by decide +kernel
theorem dJ0_checkIndex_df160_1 : decode cJ0_checkIndex_df160 1 = .ok (.iload_n 1, 1) := by decide +kernel
theorem dJ0_checkIndex_df160_2 : decode cJ0_checkIndex_df160 2 = .ok (.getstatic 1053, 3) := by decide +kernel
theorem dJ0_checkIndex_df160_5 : decode cJ0_checkIndex_df160 5 = .ok (.invokestatic 1059, 3) := by decide +kernel
theorem dJ0_checkIndex_df160_8 : decode cJ0_checkIndex_df160 8 = .ok (.pop, 1) := by decide +kernel
theorem dJ0_checkIndex_df160_9 : decode cJ0_checkIndex_df160 9 = .ok (.return_, 1) := by decide +kernel
theorem dJ0_checkBoundsOffCount_cabcc_0 : decode cJ0_checkBoundsOffCount_cabcc 0 = .ok (.iload_n 0, 1) := by decide +kernel
theorem dJ0_checkBoundsOffCount_cabcc_1 : decode cJ0_checkBoundsOffCount_cabcc 1 = .ok (.iload_n 1, 1) := by decide +kernel
theorem dJ0_checkBoundsOffCount_cabcc_2 : decode cJ0_checkBoundsOffCount_cabcc 2 = .ok (.iload_n 2, 1) := by decide +kernel
theorem dJ0_checkBoundsOffCount_cabcc_3 : decode cJ0_checkBoundsOffCount_cabcc 3 = .ok (.getstatic 1053, 3) := by decide +kernel
theorem dJ0_checkBoundsOffCount_cabcc_6 : decode cJ0_checkBoundsOffCount_cabcc 6 = .ok (.invokestatic 1065, 3) := by decide +kernel
theorem dJ0_checkBoundsOffCount_cabcc_9 : decode cJ0_checkBoundsOffCount_cabcc 9 = .ok (.ireturn, 1) := by decide +kernel
theorem dJ0_checkBoundsBeginEnd_23922_0 : decode cJ0_checkBoundsBeginEnd_23922 0 = .ok (.iload_n 0, 1) := by decide +kernel
theorem dJ0_checkBoundsBeginEnd_23922_1 : decode cJ0_checkBoundsBeginEnd_23922 1 = .ok (.iload_n 1, 1) := by decide +kernel
theorem dJ0_checkBoundsBeginEnd_23922_2 : decode cJ0_checkBoundsBeginEnd_23922 2 = .ok (.iload_n 2, 1) := by decide +kernel
theorem dJ0_checkBoundsBeginEnd_23922_3 : decode cJ0_checkBoundsBeginEnd_23922 3 = .ok (.getstatic 1053, 3) := by decide +kernel
theorem dJ0_checkBoundsBeginEnd_23922_6 : decode cJ0_checkBoundsBeginEnd_23922 6 = .ok (.invokestatic 1062, 3) := by decide +kernel
theorem dJ0_checkBoundsBeginEnd_23922_9 : decode cJ0_checkBoundsBeginEnd_23922 9 = .ok (.pop, 1) := by decide +kernel
theorem dJ0_checkBoundsBeginEnd_23922_10 : decode cJ0_checkBoundsBeginEnd_23922 10 = .ok (.return_, 1) := by decide +kernel
theorem dJxe8eeb_append_b568b_0 : decode cJxe8eeb_append_b568b 0 = .ok (.aload_n 0, 1) := by decide +kernel
theorem dJxe8eeb_append_b568b_1 : decode cJxe8eeb_append_b568b 1 = .ok (.aconst_null, 1) := by decide +kernel
theorem dJxe8eeb_append_b568b_2 : decode cJxe8eeb_append_b568b 2 = .ok (.putfield 34, 3) := by decide +kernel
theorem dJxe8eeb_append_b568b_5 : decode cJxe8eeb_append_b568b 5 = .ok (.aload_n 0, 1) := by decide +kernel
theorem dJxe8eeb_append_b568b_6 : decode cJxe8eeb_append_b568b 6 = .ok (.aload_n 1, 1) := by decide +kernel
theorem dJxe8eeb_append_b568b_7 : decode cJxe8eeb_append_b568b 7 = .ok (.invokespecial 89, 3) := by decide +kernel
theorem dJxe8eeb_append_b568b_10 : decode cJxe8eeb_append_b568b 10 = .ok (.pop, 1) := by decide +kernel
theorem dJxe8eeb_append_b568b_11 : decode cJxe8eeb_append_b568b 11 = .ok (.aload_n 0, 1) := by decide +kernel
theorem dJxe8eeb_append_b568b_12 : decode cJxe8eeb_append_b568b 12 = .ok (.areturn, 1) := by decide +kernel
theorem dJ4_init_da8c8_0 : decode cJ4_init_da8c8 0 = .ok (.aload_n 0, 1) := by decide +kernel
theorem dJ4_init_da8c8_1 : decode cJ4_init_da8c8 1 = .ok (.bipush 16, 2) := by decide +kernel
theorem dJ4_init_da8c8_3 : decode cJ4_init_da8c8 3 = .ok (.invokespecial 1, 3) := by decide +kernel
theorem dJ4_init_da8c8_6 : decode cJ4_init_da8c8 6 = .ok (.return_, 1) := by decide +kernel
theorem dJ4_append_15ec4_0 : decode cJ4_append_15ec4 0 = .ok (.aload_n 0, 1) := by decide +kernel
theorem dJ4_append_15ec4_1 : decode cJ4_append_15ec4 1 = .ok (.aload_n 1, 1) := by decide +kernel
theorem dJ4_append_15ec4_2 : decode cJ4_append_15ec4 2 = .ok (.invokespecial 29, 3) := by decide +kernel
theorem dJ4_append_15ec4_5 : decode cJ4_append_15ec4 5 = .ok (.pop, 1) := by decide +kernel
theorem dJ4_append_15ec4_6 : decode cJ4_append_15ec4 6 = .ok (.aload_n 0, 1) := by decide +kernel
theorem dJ4_append_15ec4_7 : decode cJ4_append_15ec4 7 = .ok (.areturn, 1) := by decide +kernel
theorem dJ4_append_1fab5_0 : decode cJ4_append_1fab5 0 = .ok (.aload_n 0, 1) := by decide +kernel
theorem dJ4_append_1fab5_1 : decode cJ4_append_1fab5 1 = .ok (.aload_n 1, 1) := by decide +kernel
theorem dJ4_append_1fab5_2 : decode cJ4_append_1fab5 2 = .ok (.invokespecial 35, 3) := by decide +kernel
theorem dJ4_append_1fab5_5 : decode cJ4_append_1fab5 5 = .ok (.pop, 1) := by decide +kernel
theorem dJ4_append_1fab5_6 : decode cJ4_append_1fab5 6 = .ok (.aload_n 0, 1) := by decide +kernel
theorem dJ4_append_1fab5_7 : decode cJ4_append_1fab5 7 = .ok (.areturn, 1) := by decide +kernel
theorem dJ4_append_69d29_0 : decode cJ4_append_69d29 0 = .ok (.aload_n 0, 1) := by decide +kernel
theorem dJ4_append_69d29_1 : decode cJ4_append_69d29 1 = .ok (.aload_n 1, 1) := by decide +kernel
theorem dJ4_append_69d29_2 : decode cJ4_append_69d29 2 = .ok (.iload_n 2, 1) := by decide +kernel
theorem dJ4_append_69d29_3 : decode cJ4_append_69d29 3 = .ok (.iload_n 3, 1) := by decide +kernel
theorem dJ4_append_69d29_4 : decode cJ4_append_69d29 4 = .ok (.invokespecial 38, 3) := by decide +kernel
theorem dJ4_append_69d29_7 : decode cJ4_append_69d29 7 = .ok (.pop, 1) := by decide +kernel
theorem dJ4_append_69d29_8 : decode cJ4_append_69d29 8 = .ok (.aload_n 0, 1) := by decide +kernel
theorem dJ4_append_69d29_9 : decode cJ4_append_69d29 9 = .ok (.areturn, 1) := by decide +kernel
theorem dJ4_append_37e8c_0 : decode cJ4_append_37e8c 0 = .ok (.aload_n 0, 1) := by decide +kernel
theorem dJ4_append_37e8c_1 : decode cJ4_append_37e8c 1 = .ok (.aload_n 1, 1) := by decide +kernel
theorem dJ4_append_37e8c_2 : decode cJ4_append_37e8c 2 = .ok (.invokespecial 41, 3) := by decide +kernel
theorem dJ4_append_37e8c_5 : decode cJ4_append_37e8c 5 = .ok (.pop, 1) := by decide +kernel
theorem dJ4_append_37e8c_6 : decode cJ4_append_37e8c 6 = .ok (.aload_n 0, 1) := by decide +kernel
theorem dJ4_append_37e8c_7 : decode cJ4_append_37e8c 7 = .ok (.areturn, 1) := by decide +kernel
theorem dJ4_append_cf468_0 : decode cJ4_append_cf468 0 = .ok (.aload_n 0, 1) := by decide +kernel
theorem dJ4_append_cf468_1 : decode cJ4_append_cf468 1 = .ok (.iload_n 1, 1) := by decide +kernel
theorem dJ4_append_cf468_2 : decode cJ4_append_cf468 2 = .ok (.invokespecial 50, 3) := by decide +kernel
theorem dJ4_append_cf468_5 : decode cJ4_append_cf468 5 = .ok (.pop, 1) := by decide +kernel
theorem dJ4_append_cf468_6 : decode cJ4_append_cf468 6 = .ok (.aload_n 0, 1) := by decide +kernel
theorem dJ4_append_cf468_7 : decode cJ4_append_cf468 7 = .ok (.areturn, 1) := by decide +kernel
theorem dJ4_append_bf812_0 : decode cJ4_append_bf812 0 = .ok (.aload_n 0, 1) := by decide +kernel
theorem dJ4_append_bf812_1 : decode cJ4_append_bf812 1 = .ok (.iload_n 1, 1) := by decide +kernel
theorem dJ4_append_bf812_2 : decode cJ4_append_bf812 2 = .ok (.invokespecial 53, 3) := by decide +kernel
theorem dJ4_append_bf812_5 : decode cJ4_append_bf812 5 = .ok (.pop, 1) := by decide +kernel
theorem dJ4_append_bf812_6 : decode cJ4_append_bf812 6 = .ok (.aload_n 0, 1) := by decide +kernel
theorem dJ4_append_bf812_7 : decode cJ4_append_bf812 7 = .ok (.areturn, 1) := by decide +kernel
theorem dJ4_append_f7089_0 : decode cJ4_append_f7089 0 = .ok (.aload_n 0, 1) := by decide +kernel
theorem dJ4_append_f7089_1 : decode cJ4_append_f7089 1 = .ok (.lload_n 1, 1) := by decide +kernel
theorem dJ4_append_f7089_2 : decode cJ4_append_f7089 2 = .ok (.invokespecial 56, 3) := by decide +kernel
theorem dJ4_append_f7089_5 : decode cJ4_append_f7089 5 = .ok (.pop, 1) := by decide +kernel
theorem dJ4_append_f7089_6 : decode cJ4_append_f7089 6 = .ok (.aload_n 0, 1) := by decide +kernel
theorem dJ4_append_f7089_7 : decode cJ4_append_f7089 7 = .ok (.areturn, 1) := by decide +kernel
theorem dJ4_append_9d4c8_0 : decode cJ4_append_9d4c8 0 = .ok (.aload_n 0, 1) := by decide +kernel
theorem dJ4_append_9d4c8_1 : decode cJ4_append_9d4c8 1 = .ok (.fload_n 1, 1) := by decide +kernel
theorem dJ4_append_9d4c8_2 : decode cJ4_append_9d4c8 2 = .ok (.invokespecial 59, 3) := by decide +kernel
theorem dJ4_append_9d4c8_5 : decode cJ4_append_9d4c8 5 = .ok (.pop, 1) := by decide +kernel
theorem dJ4_append_9d4c8_6 : decode cJ4_append_9d4c8 6 = .ok (.aload_n 0, 1) := by decide +kernel
theorem dJ4_append_9d4c8_7 : decode cJ4_append_9d4c8 7 = .ok (.areturn, 1) := by decide +kernel
theorem dJ4_append_ec4c5_0 : decode cJ4_append_ec4c5 0 = .ok (.aload_n 0, 1) := by decide +kernel
theorem dJ4_append_ec4c5_1 : decode cJ4_append_ec4c5 1 = .ok (.dload_n 1, 1) := by decide +kernel
theorem dJ4_append_ec4c5_2 : decode cJ4_append_ec4c5 2 = .ok (.invokespecial 62, 3) := by decide +kernel
theorem dJ4_append_ec4c5_5 : decode cJ4_append_ec4c5 5 = .ok (.pop, 1) := by decide +kernel
theorem dJ4_append_ec4c5_6 : decode cJ4_append_ec4c5 6 = .ok (.aload_n 0, 1) := by decide +kernel
theorem dJ4_append_ec4c5_7 : decode cJ4_append_ec4c5 7 = .ok (.areturn, 1) := by decide +kernel
theorem dJ4_toString_0e30d_0 : decode cJ4_toString_0e30d 0 = .ok (.new 18, 3) := by decide +kernel
theorem dJ4_toString_0e30d_3 : decode cJ4_toString_0e30d 3 = .ok (.dup, 1) := by decide +kernel
theorem dJ4_toString_0e30d_4 : decode cJ4_toString_0e30d 4 = .ok (.aload_n 0, 1) := by decide +kernel
theorem dJ4_toString_0e30d_5 : decode cJ4_toString_0e30d 5 = .ok (.invokespecial 137, 3) := by decide +kernel
theorem dJ4_toString_0e30d_8 : decode cJ4_toString_0e30d 8 = .ok (.areturn, 1) := by decide +kernel
theorem dJ4_append_e1f22_0 : decode cJ4_append_e1f22 0 = .ok (.aload_n 0, 1) := by decide +kernel
theorem dJ4_append_e1f22_1 : decode cJ4_append_e1f22 1 = .ok (.aload_n 1, 1) := by decide +kernel
theorem dJ4_append_e1f22_2 : decode cJ4_append_e1f22 2 = .ok (.iload_n 2, 1) := by decide +kernel
theorem dJ4_append_e1f22_3 : decode cJ4_append_e1f22 3 = .ok (.iload_n 3, 1) := by decide +kernel
theorem dJ4_append_e1f22_4 : decode cJ4_append_e1f22 4 = .ok (.invokevirtual 296, 3) := by decide +kernel
theorem dJ4_append_e1f22_7 : decode cJ4_append_e1f22 7 = .ok (.areturn, 1) := by decide +kernel
theorem dJ4_append_cf1ce_0 : decode cJ4_append_cf1ce 0 = .ok (.aload_n 0, 1) := by decide +kernel
theorem dJ4_append_cf1ce_1 : decode cJ4_append_cf1ce 1 = .ok (.aload_n 1, 1) := by decide +kernel
theorem dJ4_append_cf1ce_2 : decode cJ4_append_cf1ce 2 = .ok (.invokevirtual 23, 3) := by decide +kernel
theorem dJ4_append_cf1ce_5 : decode cJ4_append_cf1ce 5 = .ok (.areturn, 1) := by decide +kernel
theorem dJ4_charAt_5068e_0 : decode cJ4_charAt_5068e 0 = .ok (.aload_n 0, 1) := by decide +kernel
theorem dJ4_charAt_5068e_1 : decode cJ4_charAt_5068e 1 = .ok (.iload_n 1, 1) := by decide +kernel
theorem dJ4_charAt_5068e_2 : decode cJ4_charAt_5068e 2 = .ok (.invokespecial 329, 3) := by decide +kernel
theorem dJ4_charAt_5068e_5 : decode cJ4_charAt_5068e 5 = .ok (.ireturn, 1) := by decide +kernel
theorem dJ4_length_8abf5_0 : decode cJ4_length_8abf5 0 = .ok (.aload_n 0, 1) := by decide +kernel
theorem dJ4_length_8abf5_1 : decode cJ4_length_8abf5 1 = .ok (.invokespecial 343, 3) := by decide +kernel
theorem dJ4_length_8abf5_4 : decode cJ4_length_8abf5 4 = .ok (.ireturn, 1) := by decide +kernel
theorem dJ4_append_b3078_0 : decode cJ4_append_b3078 0 = .ok (.aload_n 0, 1) := by decide +kernel
theorem dJ4_append_b3078_1 : decode cJ4_append_b3078 1 = .ok (.iload_n 1, 1) := by decide +kernel
theorem dJ4_append_b3078_2 : decode cJ4_append_b3078 2 = .ok (.invokevirtual 284, 3) := by decide +kernel
theorem dJ4_append_b3078_5 : decode cJ4_append_b3078 5 = .ok (.areturn, 1) := by decide +kernel
theorem dJ4_append_996db_0 : decode cJ4_append_996db 0 = .ok (.aload_n 0, 1) := by decide +kernel
theorem dJ4_append_996db_1 : decode cJ4_append_996db 1 = .ok (.aload_n 1, 1) := by decide +kernel
theorem dJ4_append_996db_2 : decode cJ4_append_996db 2 = .ok (.invokevirtual 299, 3) := by decide +kernel
theorem dJ4_append_996db_5 : decode cJ4_append_996db 5 = .ok (.areturn, 1) := by decide +kernel
theorem dJ1_charAt_3b067_0 : decode cJ1_charAt_3b067 0 = .ok (.iload_n 1, 1) := by decide +kernel
theorem dJ1_charAt_3b067_1 : decode cJ1_charAt_3b067 1 = .ok (.aload_n 0, 1) := by decide +kernel
theorem dJ1_charAt_3b067_2 : decode cJ1_charAt_3b067 2 = .ok (.arraylength, 1) := by decide +kernel
theorem dJ1_charAt_3b067_3 : decode cJ1_charAt_3b067 3 = .ok (.invokestatic 9, 3) := by decide +kernel
theorem dJ1_charAt_3b067_6 : decode cJ1_charAt_3b067 6 = .ok (.aload_n 0, 1) := by decide +kernel
theorem dJ1_charAt_3b067_7 : decode cJ1_charAt_3b067 7 = .ok (.iload_n 1, 1) := by decide +kernel
theorem dJ1_charAt_3b067_8 : decode cJ1_charAt_3b067 8 = .ok (.baload, 1) := by decide +kernel
theorem dJ1_charAt_3b067_9 : decode cJ1_charAt_3b067 9 = .ok (.sipush 255, 3) := by decide +kernel
theorem dJ1_charAt_3b067_12 : decode cJ1_charAt_3b067 12 = .ok (.iand, 1) := by decide +kernel
theorem dJ1_charAt_3b067_13 : decode cJ1_charAt_3b067 13 = .ok (.i2c, 1) := by decide +kernel
theorem dJ1_charAt_3b067_14 : decode cJ1_charAt_3b067 14 = .ok (.ireturn, 1) := by decide +kernel
theorem dJ1_canEncode_fc78d_0 : decode cJ1_canEncode_fc78d 0 = .ok (.iload_n 0, 1) := by decide +kernel
theorem dJ1_canEncode_fc78d_1 : decode cJ1_canEncode_fc78d 1 = .ok (.sipush 255, 3) := by decide +kernel
theorem dJ1_canEncode_fc78d_4 : decode cJ1_canEncode_fc78d 4 = .ok (.if_icmp .gt 7, 3) := by decide +kernel
theorem dJ1_canEncode_fc78d_7 : decode cJ1_canEncode_fc78d 7 = .ok (.iconst 1, 1) := by decide +kernel
theorem dJ1_canEncode_fc78d_8 : decode cJ1_canEncode_fc78d 8 = .ok (.goto 4, 3) := by decide +kernel
theorem dJ1_canEncode_fc78d_11 : decode cJ1_canEncode_fc78d 11 = .ok (.iconst 0, 1) := by decide +kernel
theorem dJ1_canEncode_fc78d_12 : decode cJ1_canEncode_fc78d 12 = .ok (.ireturn, 1) := by decide +kernel
theorem dJ1_equals_b5fdf_0 : decode cJ1_equals_b5fdf 0 = .ok (.aload_n 0, 1) := by decide +kernel
theorem dJ1_equals_b5fdf_1 : decode cJ1_equals_b5fdf 1 = .ok (.arraylength, 1) := by decide +kernel
theorem dJ1_equals_b5fdf_2 : decode cJ1_equals_b5fdf 2 = .ok (.aload_n 1, 1) := by decide +kernel
theorem dJ1_equals_b5fdf_3 : decode cJ1_equals_b5fdf 3 = .ok (.arraylength, 1) := by decide +kernel
theorem dJ1_equals_b5fdf_4 : decode cJ1_equals_b5fdf 4 = .ok (.if_icmp .ne 30, 3) := by decide +kernel
theorem dJ1_equals_b5fdf_7 : decode cJ1_equals_b5fdf 7 = .ok (.iconst 0, 1) := by decide +kernel
theorem dJ1_equals_b5fdf_8 : decode cJ1_equals_b5fdf 8 = .ok (.istore_n 2, 1) := by decide +kernel
theorem dJ1_equals_b5fdf_9 : decode cJ1_equals_b5fdf 9 = .ok (.iload_n 2, 1) := by decide +kernel
theorem dJ1_equals_b5fdf_10 : decode cJ1_equals_b5fdf 10 = .ok (.aload_n 0, 1) := by decide +kernel
theorem dJ1_equals_b5fdf_11 : decode cJ1_equals_b5fdf 11 = .ok (.arraylength, 1) := by decide +kernel
theorem dJ1_equals_b5fdf_12 : decode cJ1_equals_b5fdf 12 = .ok (.if_icmp .ge 20, 3) := by decide +kernel
theorem dJ1_equals_b5fdf_15 : decode cJ1_equals_b5fdf 15 = .ok (.aload_n 0, 1) := by decide +kernel
theorem dJ1_equals_b5fdf_16 : decode cJ1_equals_b5fdf 16 = .ok (.iload_n 2, 1) := by decide +kernel
theorem dJ1_equals_b5fdf_17 : decode cJ1_equals_b5fdf 17 = .ok (.baload, 1) := by decide +kernel
theorem dJ1_equals_b5fdf_18 : decode cJ1_equals_b5fdf 18 = .ok (.aload_n 1, 1) := by decide +kernel
theorem dJ1_equals_b5fdf_19 : decode cJ1_equals_b5fdf 19 = .ok (.iload_n 2, 1) := by decide +kernel
theorem dJ1_equals_b5fdf_20 : decode cJ1_equals_b5fdf 20 = .ok (.baload, 1) := by decide +kernel
theorem dJ1_equals_b5fdf_21 : decode cJ1_equals_b5fdf 21 = .ok (.if_icmp .eq 5, 3) := by decide +kernel
theorem dJ1_equals_b5fdf_24 : decode cJ1_equals_b5fdf 24 = .ok (.iconst 0, 1) := by decide +kernel
theorem dJ1_equals_b5fdf_25 : decode cJ1_equals_b5fdf 25 = .ok (.ireturn, 1) := by decide +kernel
theorem dJ1_equals_b5fdf_26 : decode cJ1_equals_b5fdf 26 = .ok (.iinc 2 1, 3) := by decide +kernel
theorem dJ1_equals_b5fdf_29 : decode cJ1_equals_b5fdf 29 = .ok (.goto (-20), 3) := by decide +kernel
theorem dJ1_equals_b5fdf_32 : decode cJ1_equals_b5fdf 32 = .ok (.iconst 1, 1) := by decide +kernel
theorem dJ1_equals_b5fdf_33 : decode cJ1_equals_b5fdf 33 = .ok (.ireturn, 1) := by decide +kernel
theorem dJ1_equals_b5fdf_34 : decode cJ1_equals_b5fdf 34 = .ok (.iconst 0, 1) := by decide +kernel
theorem dJ1_equals_b5fdf_35 : decode cJ1_equals_b5fdf 35 = .ok (.ireturn, 1) := by decide +kernel
theorem dJ1_inflate_0e8fd_0 : decode cJ1_inflate_0e8fd 0 = .ok (.aload_n 0, 1) := by decide +kernel
theorem dJ1_inflate_0e8fd_1 : decode cJ1_inflate_0e8fd 1 = .ok (.iload_n 1, 1) := by decide +kernel
theorem dJ1_inflate_0e8fd_2 : decode cJ1_inflate_0e8fd 2 = .ok (.aload_n 2, 1) := by decide +kernel
theorem dJ1_inflate_0e8fd_3 : decode cJ1_inflate_0e8fd 3 = .ok (.iload_n 3, 1) := by decide +kernel
theorem dJ1_inflate_0e8fd_4 : decode cJ1_inflate_0e8fd 4 = .ok (.iload 4, 2) := by decide +kernel
theorem dJ1_inflate_0e8fd_6 : decode cJ1_inflate_0e8fd 6 = .ok (.invokestatic 240, 3) := by decide +kernel
theorem dJ1_inflate_0e8fd_9 : decode cJ1_inflate_0e8fd 9 = .ok (.return_, 1) := by decide +kernel
theorem dJ2_newBytesFor_77867_0 : decode cJ2_newBytesFor_77867 0 = .ok (.iload_n 0, 1) := by decide +kernel
theorem dJ2_newBytesFor_77867_1 : decode cJ2_newBytesFor_77867 1 = .ok (.invokestatic 11, 3) := by decide +kernel
theorem dJ2_newBytesFor_77867_4 : decode cJ2_newBytesFor_77867 4 = .ok (.newarray .byte, 2) := by decide +kernel
theorem dJ2_newBytesFor_77867_6 : decode cJ2_newBytesFor_77867 6 = .ok (.areturn, 1) := by decide +kernel
theorem dJ2_newBytesLength_0f7a4_0 : decode cJ2_newBytesLength_0f7a4 0 = .ok (.iload_n 0, 1) := by decide +kernel
theorem dJ2_newBytesLength_0f7a4_1 : decode cJ2_newBytesLength_0f7a4 1 = .ok (.ifCond .ge 11, 3) := by decide +kernel
theorem dJ2_newBytesLength_0f7a4_4 : decode cJ2_newBytesLength_0f7a4 4 = .ok (.new 17, 3) := by decide +kernel
theorem dJ2_newBytesLength_0f7a4_7 : decode cJ2_newBytesLength_0f7a4 7 = .ok (.dup, 1) := by decide +kernel
theorem dJ2_newBytesLength_0f7a4_8 : decode cJ2_newBytesLength_0f7a4 8 = .ok (.invokespecial 19, 3) := by decide +kernel
theorem dJ2_newBytesLength_0f7a4_11 : decode cJ2_newBytesLength_0f7a4 11 = .ok (.athrow, 1) := by decide +kernel
theorem dJ2_newBytesLength_0f7a4_12 : decode cJ2_newBytesLength_0f7a4 12 = .ok (.iload_n 0, 1) := by decide +kernel
theorem dJ2_newBytesLength_0f7a4_13 : decode cJ2_newBytesLength_0f7a4 13 = .ok (.ldc 20, 2) := by decide +kernel
theorem dJ2_newBytesLength_0f7a4_15 : decode cJ2_newBytesLength_0f7a4 15 = .ok (.if_icmp .lt 40, 3) := by decide +kernel
theorem dJ2_newBytesLength_0f7a4_18 : decode cJ2_newBytesLength_0f7a4 18 = .ok (.new 21, 3) := by decide +kernel
theorem dJ2_newBytesLength_0f7a4_21 : decode cJ2_newBytesLength_0f7a4 21 = .ok (.dup, 1) := by decide +kernel
theorem dJ2_newBytesLength_0f7a4_22 : decode cJ2_newBytesLength_0f7a4 22 = .ok (.new 23, 3) := by decide +kernel
theorem dJ2_newBytesLength_0f7a4_25 : decode cJ2_newBytesLength_0f7a4 25 = .ok (.dup, 1) := by decide +kernel
theorem dJ2_newBytesLength_0f7a4_26 : decode cJ2_newBytesLength_0f7a4 26 = .ok (.invokespecial 25, 3) := by decide +kernel
theorem dJ2_newBytesLength_0f7a4_29 : decode cJ2_newBytesLength_0f7a4 29 = .ok (.ldc 26, 2) := by decide +kernel
theorem dJ2_newBytesLength_0f7a4_31 : decode cJ2_newBytesLength_0f7a4 31 = .ok (.invokevirtual 28, 3) := by decide +kernel
theorem dJ2_newBytesLength_0f7a4_34 : decode cJ2_newBytesLength_0f7a4 34 = .ok (.iload_n 0, 1) := by decide +kernel
theorem dJ2_newBytesLength_0f7a4_35 : decode cJ2_newBytesLength_0f7a4 35 = .ok (.invokevirtual 32, 3) := by decide +kernel
theorem dJ2_newBytesLength_0f7a4_38 : decode cJ2_newBytesLength_0f7a4 38 = .ok (.ldc 35, 2) := by decide +kernel
theorem dJ2_newBytesLength_0f7a4_40 : decode cJ2_newBytesLength_0f7a4 40 = .ok (.invokevirtual 28, 3) := by decide +kernel
theorem dJ2_newBytesLength_0f7a4_43 : decode cJ2_newBytesLength_0f7a4 43 = .ok (.ldc 20, 2) := by decide +kernel
theorem dJ2_newBytesLength_0f7a4_45 : decode cJ2_newBytesLength_0f7a4 45 = .ok (.invokevirtual 32, 3) := by decide +kernel
theorem dJ2_newBytesLength_0f7a4_48 : decode cJ2_newBytesLength_0f7a4 48 = .ok (.invokevirtual 37, 3) := by decide +kernel
theorem dJ2_newBytesLength_0f7a4_51 : decode cJ2_newBytesLength_0f7a4 51 = .ok (.invokespecial 41, 3) := by decide +kernel
theorem dJ2_newBytesLength_0f7a4_54 : decode cJ2_newBytesLength_0f7a4 54 = .ok (.athrow, 1) := by decide +kernel
theorem dJ2_newBytesLength_0f7a4_55 : decode cJ2_newBytesLength_0f7a4 55 = .ok (.iload_n 0, 1) := by decide +kernel
theorem dJ2_newBytesLength_0f7a4_56 : decode cJ2_newBytesLength_0f7a4 56 = .ok (.iconst 1, 1) := by decide +kernel
theorem dJ2_newBytesLength_0f7a4_57 : decode cJ2_newBytesLength_0f7a4 57 = .ok (.ishl, 1) := by decide +kernel
theorem dJ2_newBytesLength_0f7a4_58 : decode cJ2_newBytesLength_0f7a4 58 = .ok (.ireturn, 1) := by decide +kernel
theorem dJ2_putChar_b72d1_0 : decode cJ2_putChar_b72d1 0 = .ok (.getstatic 44, 3) := by decide +kernel
theorem dJ2_putChar_b72d1_3 : decode cJ2_putChar_b72d1 3 = .ok (.ifCond .ne 25, 3) := by decide +kernel
theorem dJ2_putChar_b72d1_6 : decode cJ2_putChar_b72d1 6 = .ok (.iload_n 1, 1) := by decide +kernel
theorem dJ2_putChar_b72d1_7 : decode cJ2_putChar_b72d1 7 = .ok (.ifCond .lt 11, 3) := by decide +kernel
theorem dJ2_putChar_b72d1_10 : decode cJ2_putChar_b72d1 10 = .ok (.iload_n 1, 1) := by decide +kernel
theorem dJ2_putChar_b72d1_11 : decode cJ2_putChar_b72d1 11 = .ok (.aload_n 0, 1) := by decide +kernel
theorem dJ2_putChar_b72d1_12 : decode cJ2_putChar_b72d1 12 = .ok (.invokestatic 48, 3) := by decide +kernel
theorem dJ2_putChar_b72d1_15 : decode cJ2_putChar_b72d1 15 = .ok (.if_icmp .lt 13, 3) := by decide +kernel
theorem dJ2_putChar_b72d1_18 : decode cJ2_putChar_b72d1 18 = .ok (.new 52, 3) := by decide +kernel
theorem dJ2_putChar_b72d1_21 : decode cJ2_putChar_b72d1 21 = .ok (.dup, 1) := by decide +kernel
theorem dJ2_putChar_b72d1_22 : decode cJ2_putChar_b72d1 22 = .ok (.ldc 54, 2) := by decide +kernel
theorem dJ2_putChar_b72d1_24 : decode cJ2_putChar_b72d1 24 = .ok (.invokespecial 56, 3) := by decide +kernel
theorem dJ2_putChar_b72d1_27 : decode cJ2_putChar_b72d1 27 = .ok (.athrow, 1) := by decide +kernel
theorem dJ2_putChar_b72d1_28 : decode cJ2_putChar_b72d1 28 = .ok (.iload_n 1, 1) := by decide +kernel
theorem dJ2_putChar_b72d1_29 : decode cJ2_putChar_b72d1 29 = .ok (.iconst 1, 1) := by decide +kernel
theorem dJ2_putChar_b72d1_30 : decode cJ2_putChar_b72d1 30 = .ok (.ishl, 1) := by decide +kernel
theorem dJ2_putChar_b72d1_31 : decode cJ2_putChar_b72d1 31 = .ok (.istore_n 1, 1) := by decide +kernel
theorem dJ2_putChar_b72d1_32 : decode cJ2_putChar_b72d1 32 = .ok (.aload_n 0, 1) := by decide +kernel
theorem dJ2_putChar_b72d1_33 : decode cJ2_putChar_b72d1 33 = .ok (.iload_n 1, 1) := by decide +kernel
theorem dJ2_putChar_b72d1_34 : decode cJ2_putChar_b72d1 34 = .ok (.iinc 1 1, 3) := by decide +kernel
theorem dJ2_putChar_b72d1_37 : decode cJ2_putChar_b72d1 37 = .ok (.iload_n 2, 1) := by decide +kernel
theorem dJ2_putChar_b72d1_38 : decode cJ2_putChar_b72d1 38 = .ok (.getstatic 59, 3) := by decide +kernel
theorem dJ2_putChar_b72d1_41 : decode cJ2_putChar_b72d1 41 = .ok (.ishr, 1) := by decide +kernel
theorem dJ2_putChar_b72d1_42 : decode cJ2_putChar_b72d1 42 = .ok (.i2b, 1) := by decide +kernel
theorem dJ2_putChar_b72d1_43 : decode cJ2_putChar_b72d1 43 = .ok (.bastore, 1) := by decide +kernel
theorem dJ2_putChar_b72d1_44 : decode cJ2_putChar_b72d1 44 = .ok (.aload_n 0, 1) := by decide +kernel
theorem dJ2_putChar_b72d1_45 : decode cJ2_putChar_b72d1 45 = .ok (.iload_n 1, 1) := by decide +kernel
theorem dJ2_putChar_b72d1_46 : decode cJ2_putChar_b72d1 46 = .ok (.iload_n 2, 1) := by decide +kernel
theorem dJ2_putChar_b72d1_47 : decode cJ2_putChar_b72d1 47 = .ok (.getstatic 63, 3) := by decide +kernel
theorem dJ2_putChar_b72d1_50 : decode cJ2_putChar_b72d1 50 = .ok (.ishr, 1) := by decide +kernel
theorem dJ2_putChar_b72d1_51 : decode cJ2_putChar_b72d1 51 = .ok (.i2b, 1) := by decide +kernel
theorem dJ2_putChar_b72d1_52 : decode cJ2_putChar_b72d1 52 = .ok (.bastore, 1) := by decide +kernel
theorem dJ2_putChar_b72d1_53 : decode cJ2_putChar_b72d1 53 = .ok (.return_, 1) := by decide +kernel
theorem dJ2_getChar_3b067_0 : decode cJ2_getChar_3b067 0 = .ok (.getstatic 44, 3) := by decide +kernel
theorem dJ2_getChar_3b067_3 : decode cJ2_getChar_3b067 3 = .ok (.ifCond .ne 25, 3) := by decide +kernel
theorem dJ2_getChar_3b067_6 : decode cJ2_getChar_3b067 6 = .ok (.iload_n 1, 1) := by decide +kernel
theorem dJ2_getChar_3b067_7 : decode cJ2_getChar_3b067 7 = .ok (.ifCond .lt 11, 3) := by decide +kernel
theorem dJ2_getChar_3b067_10 : decode cJ2_getChar_3b067 10 = .ok (.iload_n 1, 1) := by decide +kernel
theorem dJ2_getChar_3b067_11 : decode cJ2_getChar_3b067 11 = .ok (.aload_n 0, 1) := by decide +kernel
theorem dJ2_getChar_3b067_12 : decode cJ2_getChar_3b067 12 = .ok (.invokestatic 48, 3) := by decide +kernel
theorem dJ2_getChar_3b067_15 : decode cJ2_getChar_3b067 15 = .ok (.if_icmp .lt 13, 3) := by decide +kernel
theorem dJ2_getChar_3b067_18 : decode cJ2_getChar_3b067 18 = .ok (.new 52, 3) := by decide +kernel
theorem dJ2_getChar_3b067_21 : decode cJ2_getChar_3b067 21 = .ok (.dup, 1) := by decide +kernel
theorem dJ2_getChar_3b067_22 : decode cJ2_getChar_3b067 22 = .ok (.ldc 54, 2) := by decide +kernel
theorem dJ2_getChar_3b067_24 : decode cJ2_getChar_3b067 24 = .ok (.invokespecial 56, 3) := by decide +kernel
theorem dJ2_getChar_3b067_27 : decode cJ2_getChar_3b067 27 = .ok (.athrow, 1) := by decide +kernel
theorem dJ2_getChar_3b067_28 : decode cJ2_getChar_3b067 28 = .ok (.iload_n 1, 1) := by decide +kernel
theorem dJ2_getChar_3b067_29 : decode cJ2_getChar_3b067 29 = .ok (.iconst 1, 1) := by decide +kernel
theorem dJ2_getChar_3b067_30 : decode cJ2_getChar_3b067 30 = .ok (.ishl, 1) := by decide +kernel
theorem dJ2_getChar_3b067_31 : decode cJ2_getChar_3b067 31 = .ok (.istore_n 1, 1) := by decide +kernel
theorem dJ2_getChar_3b067_32 : decode cJ2_getChar_3b067 32 = .ok (.aload_n 0, 1) := by decide +kernel
theorem dJ2_getChar_3b067_33 : decode cJ2_getChar_3b067 33 = .ok (.iload_n 1, 1) := by decide +kernel
theorem dJ2_getChar_3b067_34 : decode cJ2_getChar_3b067 34 = .ok (.iinc 1 1, 3) := by decide +kernel
theorem dJ2_getChar_3b067_37 : decode cJ2_getChar_3b067 37 = .ok (.baload, 1) := by decide +kernel
theorem dJ2_getChar_3b067_38 : decode cJ2_getChar_3b067 38 = .ok (.sipush 255, 3) := by decide +kernel
theorem dJ2_getChar_3b067_41 : decode cJ2_getChar_3b067 41 = .ok (.iand, 1) := by decide +kernel
theorem dJ2_getChar_3b067_42 : decode cJ2_getChar_3b067 42 = .ok (.getstatic 59, 3) := by decide +kernel
theorem dJ2_getChar_3b067_45 : decode cJ2_getChar_3b067 45 = .ok (.ishl, 1) := by decide +kernel
theorem dJ2_getChar_3b067_46 : decode cJ2_getChar_3b067 46 = .ok (.aload_n 0, 1) := by decide +kernel
theorem dJ2_getChar_3b067_47 : decode cJ2_getChar_3b067 47 = .ok (.iload_n 1, 1) := by decide +kernel
theorem dJ2_getChar_3b067_48 : decode cJ2_getChar_3b067 48 = .ok (.baload, 1) := by decide +kernel
theorem dJ2_getChar_3b067_49 : decode cJ2_getChar_3b067 49 = .ok (.sipush 255, 3) := by decide +kernel
theorem dJ2_getChar_3b067_52 : decode cJ2_getChar_3b067 52 = .ok (.iand, 1) := by decide +kernel
theorem dJ2_getChar_3b067_53 : decode cJ2_getChar_3b067 53 = .ok (.getstatic 63, 3) := by decide +kernel
theorem dJ2_getChar_3b067_56 : decode cJ2_getChar_3b067 56 = .ok (.ishl, 1) := by decide +kernel
theorem dJ2_getChar_3b067_57 : decode cJ2_getChar_3b067 57 = .ok (.ior, 1) := by decide +kernel
theorem dJ2_getChar_3b067_58 : decode cJ2_getChar_3b067 58 = .ok (.i2c, 1) := by decide +kernel
theorem dJ2_getChar_3b067_59 : decode cJ2_getChar_3b067 59 = .ok (.ireturn, 1) := by decide +kernel
theorem dJ2_length_9d52b_0 : decode cJ2_length_9d52b 0 = .ok (.aload_n 0, 1) := by decide +kernel
theorem dJ2_length_9d52b_1 : decode cJ2_length_9d52b 1 = .ok (.arraylength, 1) := by decide +kernel
theorem dJ2_length_9d52b_2 : decode cJ2_length_9d52b 2 = .ok (.iconst 1, 1) := by decide +kernel
theorem dJ2_length_9d52b_3 : decode cJ2_length_9d52b 3 = .ok (.ishr, 1) := by decide +kernel
theorem dJ2_length_9d52b_4 : decode cJ2_length_9d52b 4 = .ok (.ireturn, 1) := by decide +kernel
theorem dJ2_coderFromArrayLen_85cad_0 : decode cJ2_coderFromArrayLen_85cad 0 = .ok (.iload_n 1, 1) := by decide +kernel
theorem dJ2_coderFromArrayLen_85cad_1 : decode cJ2_coderFromArrayLen_85cad 1 = .ok (.aload_n 0, 1) := by decide +kernel
theorem dJ2_coderFromArrayLen_85cad_2 : decode cJ2_coderFromArrayLen_85cad 2 = .ok (.arraylength, 1) := by decide +kernel
theorem dJ2_coderFromArrayLen_85cad_3 : decode cJ2_coderFromArrayLen_85cad 3 = .ok (.isub, 1) := by decide +kernel
theorem dJ2_coderFromArrayLen_85cad_4 : decode cJ2_coderFromArrayLen_85cad 4 = .ok (.bipush 31, 2) := by decide +kernel
theorem dJ2_coderFromArrayLen_85cad_6 : decode cJ2_coderFromArrayLen_85cad 6 = .ok (.iushr, 1) := by decide +kernel
theorem dJ2_coderFromArrayLen_85cad_7 : decode cJ2_coderFromArrayLen_85cad 7 = .ok (.i2b, 1) := by decide +kernel
theorem dJ2_coderFromArrayLen_85cad_8 : decode cJ2_coderFromArrayLen_85cad 8 = .ok (.ireturn, 1) := by decide +kernel
theorem dJ2_compress_39247_0 : decode cJ2_compress_39247 0 = .ok (.iload_n 2, 1) := by decide +kernel
theorem dJ2_compress_39247_1 : decode cJ2_compress_39247 1 = .ok (.newarray .byte, 2) := by decide +kernel
theorem dJ2_compress_39247_3 : decode cJ2_compress_39247 3 = .ok (.astore_n 3, 1) := by decide +kernel
theorem dJ2_compress_39247_4 : decode cJ2_compress_39247 4 = .ok (.aload_n 0, 1) := by decide +kernel
theorem dJ2_compress_39247_5 : decode cJ2_compress_39247 5 = .ok (.iload_n 1, 1) := by decide +kernel
theorem dJ2_compress_39247_6 : decode cJ2_compress_39247 6 = .ok (.aload_n 3, 1) := by decide +kernel
theorem dJ2_compress_39247_7 : decode cJ2_compress_39247 7 = .ok (.iconst 0, 1) := by decide +kernel
theorem dJ2_compress_39247_8 : decode cJ2_compress_39247 8 = .ok (.iload_n 2, 1) := by decide +kernel
theorem dJ2_compress_39247_9 : decode cJ2_compress_39247 9 = .ok (.invokestatic 123, 3) := by decide +kernel
theorem dJ2_compress_39247_12 : decode cJ2_compress_39247 12 = .ok (.istore 4, 2) := by decide +kernel
theorem dJ2_compress_39247_14 : decode cJ2_compress_39247 14 = .ok (.iload 4, 2) := by decide +kernel
theorem dJ2_compress_39247_16 : decode cJ2_compress_39247 16 = .ok (.iload_n 2, 1) := by decide +kernel
theorem dJ2_compress_39247_17 : decode cJ2_compress_39247 17 = .ok (.if_icmp .eq 47, 3) := by decide +kernel
theorem dJ2_compress_39247_20 : decode cJ2_compress_39247 20 = .ok (.aload_n 0, 1) := by decide +kernel
theorem dJ2_compress_39247_21 : decode cJ2_compress_39247 21 = .ok (.iload_n 1, 1) := by decide +kernel
theorem dJ2_compress_39247_22 : decode cJ2_compress_39247 22 = .ok (.iconst 1, 1) := by decide +kernel
theorem dJ2_compress_39247_23 : decode cJ2_compress_39247 23 = .ok (.ishl, 1) := by decide +kernel
theorem dJ2_compress_39247_24 : decode cJ2_compress_39247 24 = .ok (.iload_n 1, 1) := by decide +kernel
theorem dJ2_compress_39247_25 : decode cJ2_compress_39247 25 = .ok (.iload_n 2, 1) := by decide +kernel
theorem dJ2_compress_39247_26 : decode cJ2_compress_39247 26 = .ok (.iadd, 1) := by decide +kernel
theorem dJ2_compress_39247_27 : decode cJ2_compress_39247 27 = .ok (.invokestatic 11, 3) := by decide +kernel
theorem dJ2_compress_39247_30 : decode cJ2_compress_39247 30 = .ok (.invokestatic 126, 3) := by decide +kernel
theorem dJ2_compress_39247_33 : decode cJ2_compress_39247 33 = .ok (.astore 5, 2) := by decide +kernel
theorem dJ2_compress_39247_35 : decode cJ2_compress_39247 35 = .ok (.aload 5, 2) := by decide +kernel
theorem dJ2_compress_39247_37 : decode cJ2_compress_39247 37 = .ok (.iload 4, 2) := by decide +kernel
theorem dJ2_compress_39247_39 : decode cJ2_compress_39247 39 = .ok (.invokestatic 71, 3) := by decide +kernel
theorem dJ2_compress_39247_42 : decode cJ2_compress_39247 42 = .ok (.sipush 255, 3) := by decide +kernel
theorem dJ2_compress_39247_45 : decode cJ2_compress_39247 45 = .ok (.if_icmp .gt 16, 3) := by decide +kernel
theorem dJ2_compress_39247_48 : decode cJ2_compress_39247 48 = .ok (.aload 5, 2) := by decide +kernel
theorem dJ2_compress_39247_50 : decode cJ2_compress_39247 50 = .ok (.iconst 0, 1) := by decide +kernel
theorem dJ2_compress_39247_51 : decode cJ2_compress_39247 51 = .ok (.aload_n 3, 1) := by decide +kernel
theorem dJ2_compress_39247_52 : decode cJ2_compress_39247 52 = .ok (.iconst 0, 1) := by decide +kernel
theorem dJ2_compress_39247_53 : decode cJ2_compress_39247 53 = .ok (.iload_n 2, 1) := by decide +kernel
theorem dJ2_compress_39247_54 : decode cJ2_compress_39247 54 = .ok (.invokestatic 123, 3) := by decide +kernel
theorem dJ2_compress_39247_57 : decode cJ2_compress_39247 57 = .ok (.iload_n 2, 1) := by decide +kernel
theorem dJ2_compress_39247_58 : decode cJ2_compress_39247 58 = .ok (.if_icmp .eq 6, 3) := by decide +kernel
theorem dJ2_compress_39247_61 : decode cJ2_compress_39247 61 = .ok (.aload 5, 2) := by decide +kernel
theorem dJ2_compress_39247_63 : decode cJ2_compress_39247 63 = .ok (.areturn, 1) := by decide +kernel
theorem dJ2_compress_39247_64 : decode cJ2_compress_39247 64 = .ok (.aload_n 3, 1) := by decide +kernel
theorem dJ2_compress_39247_65 : decode cJ2_compress_39247 65 = .ok (.areturn, 1) := by decide +kernel
theorem dJ2_compress_5af95_0 : decode cJ2_compress_5af95 0 = .ok (.iload_n 1, 1) := by decide +kernel
theorem dJ2_compress_5af95_1 : decode cJ2_compress_5af95 1 = .ok (.iload 4, 2) := by decide +kernel
theorem dJ2_compress_5af95_3 : decode cJ2_compress_5af95 3 = .ok (.aload_n 0, 1) := by decide +kernel
theorem dJ2_compress_5af95_4 : decode cJ2_compress_5af95 4 = .ok (.invokestatic 173, 3) := by decide +kernel
theorem dJ2_compress_5af95_7 : decode cJ2_compress_5af95 7 = .ok (.iconst 0, 1) := by decide +kernel
theorem dJ2_compress_5af95_8 : decode cJ2_compress_5af95 8 = .ok (.istore 5, 2) := by decide +kernel
theorem dJ2_compress_5af95_10 : decode cJ2_compress_5af95 10 = .ok (.iload 5, 2) := by decide +kernel
theorem dJ2_compress_5af95_12 : decode cJ2_compress_5af95 12 = .ok (.iload 4, 2) := by decide +kernel
theorem dJ2_compress_5af95_14 : decode cJ2_compress_5af95 14 = .ok (.if_icmp .ge 39, 3) := by decide +kernel
theorem dJ2_compress_5af95_17 : decode cJ2_compress_5af95 17 = .ok (.aload_n 0, 1) := by decide +kernel
theorem dJ2_compress_5af95_18 : decode cJ2_compress_5af95 18 = .ok (.iload_n 1, 1) := by decide +kernel
theorem dJ2_compress_5af95_19 : decode cJ2_compress_5af95 19 = .ok (.invokestatic 71, 3) := by decide +kernel
theorem dJ2_compress_5af95_22 : decode cJ2_compress_5af95 22 = .ok (.istore 6, 2) := by decide +kernel
theorem dJ2_compress_5af95_24 : decode cJ2_compress_5af95 24 = .ok (.iload 6, 2) := by decide +kernel
theorem dJ2_compress_5af95_26 : decode cJ2_compress_5af95 26 = .ok (.sipush 255, 3) := by decide +kernel
theorem dJ2_compress_5af95_29 : decode cJ2_compress_5af95 29 = .ok (.if_icmp .le 6, 3) := by decide +kernel
theorem dJ2_compress_5af95_32 : decode cJ2_compress_5af95 32 = .ok (.iload 5, 2) := by decide +kernel
theorem dJ2_compress_5af95_34 : decode cJ2_compress_5af95 34 = .ok (.ireturn, 1) := by decide +kernel
theorem dJ2_compress_5af95_35 : decode cJ2_compress_5af95 35 = .ok (.aload_n 2, 1) := by decide +kernel
theorem dJ2_compress_5af95_36 : decode cJ2_compress_5af95 36 = .ok (.iload_n 3, 1) := by decide +kernel
theorem dJ2_compress_5af95_37 : decode cJ2_compress_5af95 37 = .ok (.iload 6, 2) := by decide +kernel
theorem dJ2_compress_5af95_39 : decode cJ2_compress_5af95 39 = .ok (.i2b, 1) := by decide +kernel
theorem dJ2_compress_5af95_40 : decode cJ2_compress_5af95 40 = .ok (.bastore, 1) := by decide +kernel
theorem dJ2_compress_5af95_41 : decode cJ2_compress_5af95 41 = .ok (.iinc 1 1, 3) := by decide +kernel
theorem dJ2_compress_5af95_44 : decode cJ2_compress_5af95 44 = .ok (.iinc 3 1, 3) := by decide +kernel
theorem dJ2_compress_5af95_47 : decode cJ2_compress_5af95 47 = .ok (.iinc 5 1, 3) := by decide +kernel
theorem dJ2_compress_5af95_50 : decode cJ2_compress_5af95 50 = .ok (.goto (-40), 3) := by decide +kernel
theorem dJ2_compress_5af95_53 : decode cJ2_compress_5af95 53 = .ok (.iload 4, 2) := by decide +kernel
theorem dJ2_compress_5af95_55 : decode cJ2_compress_5af95 55 = .ok (.ireturn, 1) := by decide +kernel
theorem dJ2_putChars_03870_0 : decode cJ2_putChars_03870 0 = .ok (.iload_n 3, 1) := by decide +kernel
theorem dJ2_putChars_03870_1 : decode cJ2_putChars_03870 1 = .ok (.iload 4, 2) := by decide +kernel
theorem dJ2_putChars_03870_3 : decode cJ2_putChars_03870 3 = .ok (.if_icmp .ge 20, 3) := by decide +kernel
theorem dJ2_putChars_03870_6 : decode cJ2_putChars_03870 6 = .ok (.aload_n 0, 1) := by decide +kernel
theorem dJ2_putChars_03870_7 : decode cJ2_putChars_03870 7 = .ok (.iload_n 1, 1) := by decide +kernel
theorem dJ2_putChars_03870_8 : decode cJ2_putChars_03870 8 = .ok (.iinc 1 1, 3) := by decide +kernel
theorem dJ2_putChars_03870_11 : decode cJ2_putChars_03870 11 = .ok (.aload_n 2, 1) := by decide +kernel
theorem dJ2_putChars_03870_12 : decode cJ2_putChars_03870 12 = .ok (.iload_n 3, 1) := by decide +kernel
theorem dJ2_putChars_03870_13 : decode cJ2_putChars_03870 13 = .ok (.iinc 3 1, 3) := by decide +kernel
theorem dJ2_putChars_03870_16 : decode cJ2_putChars_03870 16 = .ok (.caload, 1) := by decide +kernel
theorem dJ2_putChars_03870_17 : decode cJ2_putChars_03870 17 = .ok (.invokestatic 111, 3) := by decide +kernel
theorem dJ2_putChars_03870_20 : decode cJ2_putChars_03870 20 = .ok (.goto (-20), 3) := by decide +kernel
theorem dJ2_putChars_03870_23 : decode cJ2_putChars_03870 23 = .ok (.return_, 1) := by decide +kernel
theorem dJ2_putCharSB_b72d1_0 : decode cJ2_putCharSB_b72d1 0 = .ok (.iload_n 1, 1) := by decide +kernel
theorem dJ2_putCharSB_b72d1_1 : decode cJ2_putCharSB_b72d1 1 = .ok (.aload_n 0, 1) := by decide +kernel
theorem dJ2_putCharSB_b72d1_2 : decode cJ2_putCharSB_b72d1 2 = .ok (.invokestatic 67, 3) := by decide +kernel
theorem dJ2_putCharSB_b72d1_5 : decode cJ2_putCharSB_b72d1 5 = .ok (.aload_n 0, 1) := by decide +kernel
theorem dJ2_putCharSB_b72d1_6 : decode cJ2_putCharSB_b72d1 6 = .ok (.iload_n 1, 1) := by decide +kernel
theorem dJ2_putCharSB_b72d1_7 : decode cJ2_putCharSB_b72d1 7 = .ok (.iload_n 2, 1) := by decide +kernel
theorem dJ2_putCharSB_b72d1_8 : decode cJ2_putCharSB_b72d1 8 = .ok (.invokestatic 111, 3) := by decide +kernel
theorem dJ2_putCharSB_b72d1_11 : decode cJ2_putCharSB_b72d1 11 = .ok (.return_, 1) := by decide +kernel
theorem dJ2_putCharsSB_03870_0 : decode cJ2_putCharsSB_03870 0 = .ok (.iload_n 1, 1) := by decide +kernel
theorem dJ2_putCharsSB_03870_1 : decode cJ2_putCharsSB_03870 1 = .ok (.iload_n 1, 1) := by decide +kernel
theorem dJ2_putCharsSB_03870_2 : decode cJ2_putCharsSB_03870 2 = .ok (.iload 4, 2) := by decide +kernel
theorem dJ2_putCharsSB_03870_4 : decode cJ2_putCharsSB_03870 4 = .ok (.iadd, 1) := by decide +kernel
theorem dJ2_putCharsSB_03870_5 : decode cJ2_putCharsSB_03870 5 = .ok (.iload_n 3, 1) := by decide +kernel
theorem dJ2_putCharsSB_03870_6 : decode cJ2_putCharsSB_03870 6 = .ok (.isub, 1) := by decide +kernel
theorem dJ2_putCharsSB_03870_7 : decode cJ2_putCharsSB_03870 7 = .ok (.aload_n 0, 1) := by decide +kernel
theorem dJ2_putCharsSB_03870_8 : decode cJ2_putCharsSB_03870 8 = .ok (.invokestatic 96, 3) := by decide +kernel
theorem dJ2_putCharsSB_03870_11 : decode cJ2_putCharsSB_03870 11 = .ok (.aload_n 0, 1) := by decide +kernel
theorem dJ2_putCharsSB_03870_12 : decode cJ2_putCharsSB_03870 12 = .ok (.iload_n 1, 1) := by decide +kernel
theorem dJ2_putCharsSB_03870_13 : decode cJ2_putCharsSB_03870 13 = .ok (.aload_n 2, 1) := by decide +kernel
theorem dJ2_putCharsSB_03870_14 : decode cJ2_putCharsSB_03870 14 = .ok (.iload_n 3, 1) := by decide +kernel
theorem dJ2_putCharsSB_03870_15 : decode cJ2_putCharsSB_03870 15 = .ok (.iload 4, 2) := by decide +kernel
theorem dJ2_putCharsSB_03870_17 : decode cJ2_putCharsSB_03870 17 = .ok (.invokestatic 384, 3) := by decide +kernel
theorem dJ2_putCharsSB_03870_20 : decode cJ2_putCharsSB_03870 20 = .ok (.return_, 1) := by decide +kernel
theorem dJ2_putCharsSB_8fd6a_0 : decode cJ2_putCharsSB_8fd6a 0 = .ok (.iload_n 1, 1) := by decide +kernel
theorem dJ2_putCharsSB_8fd6a_1 : decode cJ2_putCharsSB_8fd6a 1 = .ok (.iload_n 1, 1) := by decide +kernel
theorem dJ2_putCharsSB_8fd6a_2 : decode cJ2_putCharsSB_8fd6a 2 = .ok (.iload 4, 2) := by decide +kernel
theorem dJ2_putCharsSB_8fd6a_4 : decode cJ2_putCharsSB_8fd6a 4 = .ok (.iadd, 1) := by decide +kernel
theorem dJ2_putCharsSB_8fd6a_5 : decode cJ2_putCharsSB_8fd6a 5 = .ok (.iload_n 3, 1) := by decide +kernel
theorem dJ2_putCharsSB_8fd6a_6 : decode cJ2_putCharsSB_8fd6a 6 = .ok (.isub, 1) := by decide +kernel
theorem dJ2_putCharsSB_8fd6a_7 : decode cJ2_putCharsSB_8fd6a 7 = .ok (.aload_n 0, 1) := by decide +kernel
theorem dJ2_putCharsSB_8fd6a_8 : decode cJ2_putCharsSB_8fd6a 8 = .ok (.invokestatic 96, 3) := by decide +kernel
theorem dJ2_putCharsSB_8fd6a_11 : decode cJ2_putCharsSB_8fd6a 11 = .ok (.iload_n 3, 1) := by decide +kernel
theorem dJ2_putCharsSB_8fd6a_12 : decode cJ2_putCharsSB_8fd6a 12 = .ok (.istore 5, 2) := by decide +kernel
theorem dJ2_putCharsSB_8fd6a_14 : decode cJ2_putCharsSB_8fd6a 14 = .ok (.iload 5, 2) := by decide +kernel
theorem dJ2_putCharsSB_8fd6a_16 : decode cJ2_putCharsSB_8fd6a 16 = .ok (.iload 4, 2) := by decide +kernel
theorem dJ2_putCharsSB_8fd6a_18 : decode cJ2_putCharsSB_8fd6a 18 = .ok (.if_icmp .ge 25, 3) := by decide +kernel
theorem dJ2_putCharsSB_8fd6a_21 : decode cJ2_putCharsSB_8fd6a 21 = .ok (.aload_n 0, 1) := by decide +kernel
theorem dJ2_putCharsSB_8fd6a_22 : decode cJ2_putCharsSB_8fd6a 22 = .ok (.iload_n 1, 1) := by decide +kernel
theorem dJ2_putCharsSB_8fd6a_23 : decode cJ2_putCharsSB_8fd6a 23 = .ok (.iinc 1 1, 3) := by decide +kernel
theorem dJ2_putCharsSB_8fd6a_26 : decode cJ2_putCharsSB_8fd6a 26 = .ok (.aload_n 2, 1) := by decide +kernel
theorem dJ2_putCharsSB_8fd6a_27 : decode cJ2_putCharsSB_8fd6a 27 = .ok (.iload 5, 2) := by decide +kernel
theorem dJ2_putCharsSB_8fd6a_29 : decode cJ2_putCharsSB_8fd6a 29 = .ok (.invokeinterface 388 2, 5) := by decide +kernel
theorem dJ2_putCharsSB_8fd6a_34 : decode cJ2_putCharsSB_8fd6a 34 = .ok (.invokestatic 111, 3) := by decide +kernel
theorem dJ2_putCharsSB_8fd6a_37 : decode cJ2_putCharsSB_8fd6a 37 = .ok (.iinc 5 1, 3) := by decide +kernel
theorem dJ2_putCharsSB_8fd6a_40 : decode cJ2_putCharsSB_8fd6a 40 = .ok (.goto (-26), 3) := by decide +kernel
theorem dJ2_putCharsSB_8fd6a_43 : decode cJ2_putCharsSB_8fd6a 43 = .ok (.return_, 1) := by decide +kernel
theorem dJ2_getChars_46870_0 : decode cJ2_getChars_46870 0 = .ok (.iload_n 1, 1) := by decide +kernel
theorem dJ2_getChars_46870_1 : decode cJ2_getChars_46870 1 = .ok (.iload_n 2, 1) := by decide +kernel
theorem dJ2_getChars_46870_2 : decode cJ2_getChars_46870 2 = .ok (.aload_n 3, 1) := by decide +kernel
theorem dJ2_getChars_46870_3 : decode cJ2_getChars_46870 3 = .ok (.invokestatic 96, 3) := by decide +kernel
theorem dJ2_getChars_46870_6 : decode cJ2_getChars_46870 6 = .ok (.iload_n 0, 1) := by decide +kernel
theorem dJ2_getChars_46870_7 : decode cJ2_getChars_46870 7 = .ok (.iload_n 2, 1) := by decide +kernel
theorem dJ2_getChars_46870_8 : decode cJ2_getChars_46870 8 = .ok (.aload_n 3, 1) := by decide +kernel
theorem dJ2_getChars_46870_9 : decode cJ2_getChars_46870 9 = .ok (.invokestatic 393, 3) := by decide +kernel
theorem dJ2_getChars_46870_12 : decode cJ2_getChars_46870 12 = .ok (.istore 4, 2) := by decide +kernel
theorem dJ2_getChars_46870_14 : decode cJ2_getChars_46870 14 = .ok (.getstatic 44, 3) := by decide +kernel
theorem dJ2_getChars_46870_17 : decode cJ2_getChars_46870 17 = .ok (.ifCond .ne 17, 3) := by decide +kernel
theorem dJ2_getChars_46870_20 : decode cJ2_getChars_46870 20 = .ok (.iload_n 1, 1) := by decide +kernel
theorem dJ2_getChars_46870_21 : decode cJ2_getChars_46870 21 = .ok (.iload 4, 2) := by decide +kernel
theorem dJ2_getChars_46870_23 : decode cJ2_getChars_46870 23 = .ok (.if_icmp .eq 11, 3) := by decide +kernel
theorem dJ2_getChars_46870_26 : decode cJ2_getChars_46870 26 = .ok (.new 52, 3) := by decide +kernel
theorem dJ2_getChars_46870_29 : decode cJ2_getChars_46870 29 = .ok (.dup, 1) := by decide +kernel
theorem dJ2_getChars_46870_30 : decode cJ2_getChars_46870 30 = .ok (.invokespecial 66, 3) := by decide +kernel
theorem dJ2_getChars_46870_33 : decode cJ2_getChars_46870 33 = .ok (.athrow, 1) := by decide +kernel
theorem dJ2_getChars_46870_34 : decode cJ2_getChars_46870 34 = .ok (.iload 4, 2) := by decide +kernel
theorem dJ2_getChars_46870_36 : decode cJ2_getChars_46870 36 = .ok (.ireturn, 1) := by decide +kernel
theorem dJ2_getChars_1ba55_0 : decode cJ2_getChars_1ba55 0 = .ok (.iload_n 2, 1) := by decide +kernel
theorem dJ2_getChars_1ba55_1 : decode cJ2_getChars_1ba55 1 = .ok (.iload_n 3, 1) := by decide +kernel
theorem dJ2_getChars_1ba55_2 : decode cJ2_getChars_1ba55 2 = .ok (.aload 4, 2) := by decide +kernel
theorem dJ2_getChars_1ba55_4 : decode cJ2_getChars_1ba55 4 = .ok (.invokestatic 96, 3) := by decide +kernel
theorem dJ2_getChars_1ba55_7 : decode cJ2_getChars_1ba55 7 = .ok (.lload_n 0, 1) := by decide +kernel
theorem dJ2_getChars_1ba55_8 : decode cJ2_getChars_1ba55 8 = .ok (.iload_n 3, 1) := by decide +kernel
theorem dJ2_getChars_1ba55_9 : decode cJ2_getChars_1ba55 9 = .ok (.aload 4, 2) := by decide +kernel
theorem dJ2_getChars_1ba55_11 : decode cJ2_getChars_1ba55 11 = .ok (.invokestatic 396, 3) := by decide +kernel
theorem dJ2_getChars_1ba55_14 : decode cJ2_getChars_1ba55 14 = .ok (.istore 5, 2) := by decide +kernel
theorem dJ2_getChars_1ba55_16 : decode cJ2_getChars_1ba55 16 = .ok (.getstatic 44, 3) := by decide +kernel
theorem dJ2_getChars_1ba55_19 : decode cJ2_getChars_1ba55 19 = .ok (.ifCond .ne 17, 3) := by decide +kernel
theorem dJ2_getChars_1ba55_22 : decode cJ2_getChars_1ba55 22 = .ok (.iload_n 2, 1) := by decide +kernel
theorem dJ2_getChars_1ba55_23 : decode cJ2_getChars_1ba55 23 = .ok (.iload 5, 2) := by decide +kernel
theorem dJ2_getChars_1ba55_25 : decode cJ2_getChars_1ba55 25 = .ok (.if_icmp .eq 11, 3) := by decide +kernel
theorem dJ2_getChars_1ba55_28 : decode cJ2_getChars_1ba55 28 = .ok (.new 52, 3) := by decide +kernel
theorem dJ2_getChars_1ba55_31 : decode cJ2_getChars_1ba55 31 = .ok (.dup, 1) := by decide +kernel
theorem dJ2_getChars_1ba55_32 : decode cJ2_getChars_1ba55 32 = .ok (.invokespecial 66, 3) := by decide +kernel
theorem dJ2_getChars_1ba55_35 : decode cJ2_getChars_1ba55 35 = .ok (.athrow, 1) := by decide +kernel
theorem dJ2_getChars_1ba55_36 : decode cJ2_getChars_1ba55 36 = .ok (.iload 5, 2) := by decide +kernel
theorem dJ2_getChars_1ba55_38 : decode cJ2_getChars_1ba55 38 = .ok (.ireturn, 1) := by decide +kernel
theorem dJ2_putCharsAt_cd4e5_0 : decode cJ2_putCharsAt_cd4e5 0 = .ok (.iload_n 1, 1) := by decide +kernel
theorem dJ2_putCharsAt_cd4e5_1 : decode cJ2_putCharsAt_cd4e5 1 = .ok (.iconst 4, 1) := by decide +kernel
theorem dJ2_putCharsAt_cd4e5_2 : decode cJ2_putCharsAt_cd4e5 2 = .ok (.iadd, 1) := by decide +kernel
theorem dJ2_putCharsAt_cd4e5_3 : decode cJ2_putCharsAt_cd4e5 3 = .ok (.istore 6, 2) := by decide +kernel
theorem dJ2_putCharsAt_cd4e5_5 : decode cJ2_putCharsAt_cd4e5 5 = .ok (.iload_n 1, 1) := by decide +kernel
theorem dJ2_putCharsAt_cd4e5_6 : decode cJ2_putCharsAt_cd4e5 6 = .ok (.iload 6, 2) := by decide +kernel
theorem dJ2_putCharsAt_cd4e5_8 : decode cJ2_putCharsAt_cd4e5 8 = .ok (.aload_n 0, 1) := by decide +kernel
theorem dJ2_putCharsAt_cd4e5_9 : decode cJ2_putCharsAt_cd4e5 9 = .ok (.invokestatic 96, 3) := by decide +kernel
theorem dJ2_putCharsAt_cd4e5_12 : decode cJ2_putCharsAt_cd4e5 12 = .ok (.aload_n 0, 1) := by decide +kernel
theorem dJ2_putCharsAt_cd4e5_13 : decode cJ2_putCharsAt_cd4e5 13 = .ok (.iload_n 1, 1) := by decide +kernel
theorem dJ2_putCharsAt_cd4e5_14 : decode cJ2_putCharsAt_cd4e5 14 = .ok (.iinc 1 1, 3) := by decide +kernel
theorem dJ2_putCharsAt_cd4e5_17 : decode cJ2_putCharsAt_cd4e5 17 = .ok (.iload_n 2, 1) := by decide +kernel
theorem dJ2_putCharsAt_cd4e5_18 : decode cJ2_putCharsAt_cd4e5 18 = .ok (.invokestatic 111, 3) := by decide +kernel
theorem dJ2_putCharsAt_cd4e5_21 : decode cJ2_putCharsAt_cd4e5 21 = .ok (.aload_n 0, 1) := by decide +kernel
theorem dJ2_putCharsAt_cd4e5_22 : decode cJ2_putCharsAt_cd4e5 22 = .ok (.iload_n 1, 1) := by decide +kernel
theorem dJ2_putCharsAt_cd4e5_23 : decode cJ2_putCharsAt_cd4e5 23 = .ok (.iinc 1 1, 3) := by decide +kernel
theorem dJ2_putCharsAt_cd4e5_26 : decode cJ2_putCharsAt_cd4e5 26 = .ok (.iload_n 3, 1) := by decide +kernel
theorem dJ2_putCharsAt_cd4e5_27 : decode cJ2_putCharsAt_cd4e5 27 = .ok (.invokestatic 111, 3) := by decide +kernel
theorem dJ2_putCharsAt_cd4e5_30 : decode cJ2_putCharsAt_cd4e5 30 = .ok (.aload_n 0, 1) := by decide +kernel
theorem dJ2_putCharsAt_cd4e5_31 : decode cJ2_putCharsAt_cd4e5 31 = .ok (.iload_n 1, 1) := by decide +kernel
theorem dJ2_putCharsAt_cd4e5_32 : decode cJ2_putCharsAt_cd4e5 32 = .ok (.iinc 1 1, 3) := by decide +kernel
theorem dJ2_putCharsAt_cd4e5_35 : decode cJ2_putCharsAt_cd4e5 35 = .ok (.iload 4, 2) := by decide +kernel
theorem dJ2_putCharsAt_cd4e5_37 : decode cJ2_putCharsAt_cd4e5 37 = .ok (.invokestatic 111, 3) := by decide +kernel
theorem dJ2_putCharsAt_cd4e5_40 : decode cJ2_putCharsAt_cd4e5 40 = .ok (.aload_n 0, 1) := by decide +kernel
theorem dJ2_putCharsAt_cd4e5_41 : decode cJ2_putCharsAt_cd4e5 41 = .ok (.iload_n 1, 1) := by decide +kernel
theorem dJ2_putCharsAt_cd4e5_42 : decode cJ2_putCharsAt_cd4e5 42 = .ok (.iinc 1 1, 3) := by decide +kernel
theorem dJ2_putCharsAt_cd4e5_45 : decode cJ2_putCharsAt_cd4e5 45 = .ok (.iload 5, 2) := by decide +kernel
theorem dJ2_putCharsAt_cd4e5_47 : decode cJ2_putCharsAt_cd4e5 47 = .ok (.invokestatic 111, 3) := by decide +kernel
theorem dJ2_putCharsAt_cd4e5_50 : decode cJ2_putCharsAt_cd4e5 50 = .ok (.getstatic 44, 3) := by decide +kernel
theorem dJ2_putCharsAt_cd4e5_53 : decode cJ2_putCharsAt_cd4e5 53 = .ok (.ifCond .ne 17, 3) := by decide +kernel
theorem dJ2_putCharsAt_cd4e5_56 : decode cJ2_putCharsAt_cd4e5 56 = .ok (.iload_n 1, 1) := by decide +kernel
theorem dJ2_putCharsAt_cd4e5_57 : decode cJ2_putCharsAt_cd4e5 57 = .ok (.iload 6, 2) := by decide +kernel
theorem dJ2_putCharsAt_cd4e5_59 : decode cJ2_putCharsAt_cd4e5 59 = .ok (.if_icmp .eq 11, 3) := by decide +kernel
theorem dJ2_putCharsAt_cd4e5_62 : decode cJ2_putCharsAt_cd4e5 62 = .ok (.new 52, 3) := by decide +kernel
theorem dJ2_putCharsAt_cd4e5_65 : decode cJ2_putCharsAt_cd4e5 65 = .ok (.dup, 1) := by decide +kernel
theorem dJ2_putCharsAt_cd4e5_66 : decode cJ2_putCharsAt_cd4e5 66 = .ok (.invokespecial 66, 3) := by decide +kernel
theorem dJ2_putCharsAt_cd4e5_69 : decode cJ2_putCharsAt_cd4e5 69 = .ok (.athrow, 1) := by decide +kernel
theorem dJ2_putCharsAt_cd4e5_70 : decode cJ2_putCharsAt_cd4e5 70 = .ok (.iload 6, 2) := by decide +kernel
theorem dJ2_putCharsAt_cd4e5_72 : decode cJ2_putCharsAt_cd4e5 72 = .ok (.ireturn, 1) := by decide +kernel
theorem dJ2_charAt_3b067_0 : decode cJ2_charAt_3b067 0 = .ok (.iload_n 1, 1) := by decide +kernel
theorem dJ2_charAt_3b067_1 : decode cJ2_charAt_3b067 1 = .ok (.aload_n 0, 1) := by decide +kernel
theorem dJ2_charAt_3b067_2 : decode cJ2_charAt_3b067 2 = .ok (.invokestatic 67, 3) := by decide +kernel
theorem dJ2_charAt_3b067_5 : decode cJ2_charAt_3b067 5 = .ok (.aload_n 0, 1) := by decide +kernel
theorem dJ2_charAt_3b067_6 : decode cJ2_charAt_3b067 6 = .ok (.iload_n 1, 1) := by decide +kernel
theorem dJ2_charAt_3b067_7 : decode cJ2_charAt_3b067 7 = .ok (.invokestatic 71, 3) := by decide +kernel
theorem dJ2_charAt_3b067_10 : decode cJ2_charAt_3b067 10 = .ok (.ireturn, 1) := by decide +kernel
theorem dJ2_inflate_0e8fd_0 : decode cJ2_inflate_0e8fd 0 = .ok (.iload_n 3, 1) := by decide +kernel
theorem dJ2_inflate_0e8fd_1 : decode cJ2_inflate_0e8fd 1 = .ok (.iload 4, 2) := by decide +kernel
theorem dJ2_inflate_0e8fd_3 : decode cJ2_inflate_0e8fd 3 = .ok (.aload_n 2, 1) := by decide +kernel
theorem dJ2_inflate_0e8fd_4 : decode cJ2_inflate_0e8fd 4 = .ok (.invokestatic 173, 3) := by decide +kernel
theorem dJ2_inflate_0e8fd_7 : decode cJ2_inflate_0e8fd 7 = .ok (.iconst 0, 1) := by decide +kernel
theorem dJ2_inflate_0e8fd_8 : decode cJ2_inflate_0e8fd 8 = .ok (.istore 5, 2) := by decide +kernel
theorem dJ2_inflate_0e8fd_10 : decode cJ2_inflate_0e8fd 10 = .ok (.iload 5, 2) := by decide +kernel
theorem dJ2_inflate_0e8fd_12 : decode cJ2_inflate_0e8fd 12 = .ok (.iload 4, 2) := by decide +kernel
theorem dJ2_inflate_0e8fd_14 : decode cJ2_inflate_0e8fd 14 = .ok (.if_icmp .ge 27, 3) := by decide +kernel
theorem dJ2_inflate_0e8fd_17 : decode cJ2_inflate_0e8fd 17 = .ok (.aload_n 2, 1) := by decide +kernel
theorem dJ2_inflate_0e8fd_18 : decode cJ2_inflate_0e8fd 18 = .ok (.iload_n 3, 1) := by decide +kernel
theorem dJ2_inflate_0e8fd_19 : decode cJ2_inflate_0e8fd 19 = .ok (.iinc 3 1, 3) := by decide +kernel
theorem dJ2_inflate_0e8fd_22 : decode cJ2_inflate_0e8fd 22 = .ok (.aload_n 0, 1) := by decide +kernel
theorem dJ2_inflate_0e8fd_23 : decode cJ2_inflate_0e8fd 23 = .ok (.iload_n 1, 1) := by decide +kernel
theorem dJ2_inflate_0e8fd_24 : decode cJ2_inflate_0e8fd 24 = .ok (.iinc 1 1, 3) := by decide +kernel
theorem dJ2_inflate_0e8fd_27 : decode cJ2_inflate_0e8fd 27 = .ok (.baload, 1) := by decide +kernel
theorem dJ2_inflate_0e8fd_28 : decode cJ2_inflate_0e8fd 28 = .ok (.sipush 255, 3) := by decide +kernel
theorem dJ2_inflate_0e8fd_31 : decode cJ2_inflate_0e8fd 31 = .ok (.iand, 1) := by decide +kernel
theorem dJ2_inflate_0e8fd_32 : decode cJ2_inflate_0e8fd 32 = .ok (.invokestatic 111, 3) := by decide +kernel
theorem dJ2_inflate_0e8fd_35 : decode cJ2_inflate_0e8fd 35 = .ok (.iinc 5 1, 3) := by decide +kernel
theorem dJ2_inflate_0e8fd_38 : decode cJ2_inflate_0e8fd 38 = .ok (.goto (-28), 3) := by decide +kernel
theorem dJ2_inflate_0e8fd_41 : decode cJ2_inflate_0e8fd 41 = .ok (.return_, 1) := by decide +kernel
theorem dJ2_getChars_ba4f3_0 : decode cJ2_getChars_ba4f3 0 = .ok (.iload_n 1, 1) := by decide +kernel
theorem dJ2_getChars_ba4f3_1 : decode cJ2_getChars_ba4f3 1 = .ok (.istore 5, 2) := by decide +kernel
theorem dJ2_getChars_ba4f3_3 : decode cJ2_getChars_ba4f3 3 = .ok (.iload_n 0, 1) := by decide +kernel
theorem dJ2_getChars_ba4f3_4 : decode cJ2_getChars_ba4f3 4 = .ok (.ifCond .ge 7, 3) := by decide +kernel
theorem dJ2_getChars_ba4f3_7 : decode cJ2_getChars_ba4f3 7 = .ok (.iconst 1, 1) := by decide +kernel
theorem dJ2_getChars_ba4f3_8 : decode cJ2_getChars_ba4f3 8 = .ok (.goto 4, 3) := by decide +kernel
theorem dJ2_getChars_ba4f3_11 : decode cJ2_getChars_ba4f3 11 = .ok (.iconst 0, 1) := by decide +kernel
theorem dJ2_getChars_ba4f3_12 : decode cJ2_getChars_ba4f3 12 = .ok (.istore 6, 2) := by decide +kernel
theorem dJ2_getChars_ba4f3_14 : decode cJ2_getChars_ba4f3 14 = .ok (.iload 6, 2) := by decide +kernel
theorem dJ2_getChars_ba4f3_16 : decode cJ2_getChars_ba4f3 16 = .ok (.ifCond .ne 6, 3) := by decide +kernel
theorem dJ2_getChars_ba4f3_19 : decode cJ2_getChars_ba4f3 19 = .ok (.iload_n 0, 1) := by decide +kernel
theorem dJ2_getChars_ba4f3_20 : decode cJ2_getChars_ba4f3 20 = .ok (.ineg, 1) := by decide +kernel
theorem dJ2_getChars_ba4f3_21 : decode cJ2_getChars_ba4f3 21 = .ok (.istore_n 0, 1) := by decide +kernel
theorem dJ2_getChars_ba4f3_22 : decode cJ2_getChars_ba4f3 22 = .ok (.iload_n 0, 1) := by decide +kernel
theorem dJ2_getChars_ba4f3_23 : decode cJ2_getChars_ba4f3 23 = .ok (.bipush (-100), 2) := by decide +kernel
theorem dJ2_getChars_ba4f3_25 : decode cJ2_getChars_ba4f3 25 = .ok (.if_icmp .gt 51, 3) := by decide +kernel
theorem dJ2_getChars_ba4f3_28 : decode cJ2_getChars_ba4f3 28 = .ok (.iload_n 0, 1) := by decide +kernel
theorem dJ2_getChars_ba4f3_29 : decode cJ2_getChars_ba4f3 29 = .ok (.bipush 100, 2) := by decide +kernel
theorem dJ2_getChars_ba4f3_31 : decode cJ2_getChars_ba4f3 31 = .ok (.idiv, 1) := by decide +kernel
theorem dJ2_getChars_ba4f3_32 : decode cJ2_getChars_ba4f3 32 = .ok (.istore_n 3, 1) := by decide +kernel
theorem dJ2_getChars_ba4f3_33 : decode cJ2_getChars_ba4f3 33 = .ok (.iload_n 3, 1) := by decide +kernel
theorem dJ2_getChars_ba4f3_34 : decode cJ2_getChars_ba4f3 34 = .ok (.bipush 100, 2) := by decide +kernel
theorem dJ2_getChars_ba4f3_36 : decode cJ2_getChars_ba4f3 36 = .ok (.imul, 1) := by decide +kernel
theorem dJ2_getChars_ba4f3_37 : decode cJ2_getChars_ba4f3 37 = .ok (.iload_n 0, 1) := by decide +kernel
theorem dJ2_getChars_ba4f3_38 : decode cJ2_getChars_ba4f3 38 = .ok (.isub, 1) := by decide +kernel
theorem dJ2_getChars_ba4f3_39 : decode cJ2_getChars_ba4f3 39 = .ok (.istore 4, 2) := by decide +kernel
theorem dJ2_getChars_ba4f3_41 : decode cJ2_getChars_ba4f3 41 = .ok (.iload_n 3, 1) := by decide +kernel
theorem dJ2_getChars_ba4f3_42 : decode cJ2_getChars_ba4f3 42 = .ok (.istore_n 0, 1) := by decide +kernel
theorem dJ2_getChars_ba4f3_43 : decode cJ2_getChars_ba4f3 43 = .ok (.aload_n 2, 1) := by decide +kernel
theorem dJ2_getChars_ba4f3_44 : decode cJ2_getChars_ba4f3 44 = .ok (.iinc 5 (-1), 3) := by decide +kernel
theorem dJ2_getChars_ba4f3_47 : decode cJ2_getChars_ba4f3 47 = .ok (.iload 5, 2) := by decide +kernel
theorem dJ2_getChars_ba4f3_49 : decode cJ2_getChars_ba4f3 49 = .ok (.getstatic 403, 3) := by decide +kernel
theorem dJ2_getChars_ba4f3_52 : decode cJ2_getChars_ba4f3 52 = .ok (.iload 4, 2) := by decide +kernel
theorem dJ2_getChars_ba4f3_54 : decode cJ2_getChars_ba4f3 54 = .ok (.baload, 1) := by decide +kernel
theorem dJ2_getChars_ba4f3_55 : decode cJ2_getChars_ba4f3 55 = .ok (.invokestatic 111, 3) := by decide +kernel
theorem dJ2_getChars_ba4f3_58 : decode cJ2_getChars_ba4f3 58 = .ok (.aload_n 2, 1) := by decide +kernel
theorem dJ2_getChars_ba4f3_59 : decode cJ2_getChars_ba4f3 59 = .ok (.iinc 5 (-1), 3) := by decide +kernel
theorem dJ2_getChars_ba4f3_62 : decode cJ2_getChars_ba4f3 62 = .ok (.iload 5, 2) := by decide +kernel
theorem dJ2_getChars_ba4f3_64 : decode cJ2_getChars_ba4f3 64 = .ok (.getstatic 407, 3) := by decide +kernel
theorem dJ2_getChars_ba4f3_67 : decode cJ2_getChars_ba4f3 67 = .ok (.iload 4, 2) := by decide +kernel
theorem dJ2_getChars_ba4f3_69 : decode cJ2_getChars_ba4f3 69 = .ok (.baload, 1) := by decide +kernel
theorem dJ2_getChars_ba4f3_70 : decode cJ2_getChars_ba4f3 70 = .ok (.invokestatic 111, 3) := by decide +kernel
theorem dJ2_getChars_ba4f3_73 : decode cJ2_getChars_ba4f3 73 = .ok (.goto (-51), 3) := by decide +kernel
theorem dJ2_getChars_ba4f3_76 : decode cJ2_getChars_ba4f3 76 = .ok (.aload_n 2, 1) := by decide +kernel
theorem dJ2_getChars_ba4f3_77 : decode cJ2_getChars_ba4f3 77 = .ok (.iinc 5 (-1), 3) := by decide +kernel
theorem dJ2_getChars_ba4f3_80 : decode cJ2_getChars_ba4f3 80 = .ok (.iload 5, 2) := by decide +kernel
theorem dJ2_getChars_ba4f3_82 : decode cJ2_getChars_ba4f3 82 = .ok (.getstatic 403, 3) := by decide +kernel
theorem dJ2_getChars_ba4f3_85 : decode cJ2_getChars_ba4f3 85 = .ok (.iload_n 0, 1) := by decide +kernel
theorem dJ2_getChars_ba4f3_86 : decode cJ2_getChars_ba4f3 86 = .ok (.ineg, 1) := by decide +kernel
theorem dJ2_getChars_ba4f3_87 : decode cJ2_getChars_ba4f3 87 = .ok (.baload, 1) := by decide +kernel
theorem dJ2_getChars_ba4f3_88 : decode cJ2_getChars_ba4f3 88 = .ok (.invokestatic 111, 3) := by decide +kernel
theorem dJ2_getChars_ba4f3_91 : decode cJ2_getChars_ba4f3 91 = .ok (.iload_n 0, 1) := by decide +kernel
theorem dJ2_getChars_ba4f3_92 : decode cJ2_getChars_ba4f3 92 = .ok (.bipush (-9), 2) := by decide +kernel
theorem dJ2_getChars_ba4f3_94 : decode cJ2_getChars_ba4f3 94 = .ok (.if_icmp .ge 18, 3) := by decide +kernel
theorem dJ2_getChars_ba4f3_97 : decode cJ2_getChars_ba4f3 97 = .ok (.aload_n 2, 1) := by decide +kernel
theorem dJ2_getChars_ba4f3_98 : decode cJ2_getChars_ba4f3 98 = .ok (.iinc 5 (-1), 3) := by decide +kernel
theorem dJ2_getChars_ba4f3_101 : decode cJ2_getChars_ba4f3 101 = .ok (.iload 5, 2) := by decide +kernel
theorem dJ2_getChars_ba4f3_103 : decode cJ2_getChars_ba4f3 103 = .ok (.getstatic 407, 3) := by decide +kernel
theorem dJ2_getChars_ba4f3_106 : decode cJ2_getChars_ba4f3 106 = .ok (.iload_n 0, 1) := by decide +kernel
theorem dJ2_getChars_ba4f3_107 : decode cJ2_getChars_ba4f3 107 = .ok (.ineg, 1) := by decide +kernel
theorem dJ2_getChars_ba4f3_108 : decode cJ2_getChars_ba4f3 108 = .ok (.baload, 1) := by decide +kernel
theorem dJ2_getChars_ba4f3_109 : decode cJ2_getChars_ba4f3 109 = .ok (.invokestatic 111, 3) := by decide +kernel
theorem dJ2_getChars_ba4f3_112 : decode cJ2_getChars_ba4f3 112 = .ok (.iload 6, 2) := by decide +kernel
theorem dJ2_getChars_ba4f3_114 : decode cJ2_getChars_ba4f3 114 = .ok (.ifCond .eq 14, 3) := by decide +kernel
theorem dJ2_getChars_ba4f3_117 : decode cJ2_getChars_ba4f3 117 = .ok (.aload_n 2, 1) := by decide +kernel
theorem dJ2_getChars_ba4f3_118 : decode cJ2_getChars_ba4f3 118 = .ok (.iinc 5 (-1), 3) := by decide +kernel
theorem dJ2_getChars_ba4f3_121 : decode cJ2_getChars_ba4f3 121 = .ok (.iload 5, 2) := by decide +kernel
theorem dJ2_getChars_ba4f3_123 : decode cJ2_getChars_ba4f3 123 = .ok (.bipush 45, 2) := by decide +kernel
theorem dJ2_getChars_ba4f3_125 : decode cJ2_getChars_ba4f3 125 = .ok (.invokestatic 111, 3) := by decide +kernel
theorem dJ2_getChars_ba4f3_128 : decode cJ2_getChars_ba4f3 128 = .ok (.iload 5, 2) := by decide +kernel
theorem dJ2_getChars_ba4f3_130 : decode cJ2_getChars_ba4f3 130 = .ok (.ireturn, 1) := by decide +kernel
theorem dJ2_getChars_11360_0 : decode cJ2_getChars_11360 0 = .ok (.iload_n 2, 1) := by decide +kernel
theorem dJ2_getChars_11360_1 : decode cJ2_getChars_11360 1 = .ok (.istore 7, 2) := by decide +kernel
theorem dJ2_getChars_11360_3 : decode cJ2_getChars_11360 3 = .ok (.lload_n 0, 1) := by decide +kernel
theorem dJ2_getChars_11360_4 : decode cJ2_getChars_11360 4 = .ok (.lconst 0, 1) := by decide +kernel
theorem dJ2_getChars_11360_5 : decode cJ2_getChars_11360 5 = .ok (.lcmp, 1) := by decide +kernel
theorem dJ2_getChars_11360_6 : decode cJ2_getChars_11360 6 = .ok (.ifCond .ge 7, 3) := by decide +kernel
theorem dJ2_getChars_11360_9 : decode cJ2_getChars_11360 9 = .ok (.iconst 1, 1) := by decide +kernel
theorem dJ2_getChars_11360_10 : decode cJ2_getChars_11360 10 = .ok (.goto 4, 3) := by decide +kernel
theorem dJ2_getChars_11360_13 : decode cJ2_getChars_11360 13 = .ok (.iconst 0, 1) := by decide +kernel
theorem dJ2_getChars_11360_14 : decode cJ2_getChars_11360 14 = .ok (.istore 8, 2) := by decide +kernel
theorem dJ2_getChars_11360_16 : decode cJ2_getChars_11360 16 = .ok (.iload 8, 2) := by decide +kernel
theorem dJ2_getChars_11360_18 : decode cJ2_getChars_11360 18 = .ok (.ifCond .ne 6, 3) := by decide +kernel
theorem dJ2_getChars_11360_21 : decode cJ2_getChars_11360 21 = .ok (.lload_n 0, 1) := by decide +kernel
theorem dJ2_getChars_11360_22 : decode cJ2_getChars_11360 22 = .ok (.lneg, 1) := by decide +kernel
theorem dJ2_getChars_11360_23 : decode cJ2_getChars_11360 23 = .ok (.lstore_n 0, 1) := by decide +kernel
theorem dJ2_getChars_11360_24 : decode cJ2_getChars_11360 24 = .ok (.lload_n 0, 1) := by decide +kernel
theorem dJ2_getChars_11360_25 : decode cJ2_getChars_11360 25 = .ok (.ldc2_w 410, 3) := by decide +kernel
theorem dJ2_getChars_11360_28 : decode cJ2_getChars_11360 28 = .ok (.lcmp, 1) := by decide +kernel
theorem dJ2_getChars_11360_29 : decode cJ2_getChars_11360 29 = .ok (.ifCond .gt 57, 3) := by decide +kernel
theorem dJ2_getChars_11360_32 : decode cJ2_getChars_11360 32 = .ok (.lload_n 0, 1) := by decide +kernel
theorem dJ2_getChars_11360_33 : decode cJ2_getChars_11360 33 = .ok (.ldc2_w 412, 3) := by decide +kernel
theorem dJ2_getChars_11360_36 : decode cJ2_getChars_11360 36 = .ok (.ldiv, 1) := by decide +kernel
theorem dJ2_getChars_11360_37 : decode cJ2_getChars_11360 37 = .ok (.lstore 4, 2) := by decide +kernel
theorem dJ2_getChars_11360_39 : decode cJ2_getChars_11360 39 = .ok (.lload 4, 2) := by decide +kernel
theorem dJ2_getChars_11360_41 : decode cJ2_getChars_11360 41 = .ok (.ldc2_w 412, 3) := by decide +kernel
theorem dJ2_getChars_11360_44 : decode cJ2_getChars_11360 44 = .ok (.lmul, 1) := by decide +kernel
theorem dJ2_getChars_11360_45 : decode cJ2_getChars_11360 45 = .ok (.lload_n 0, 1) := by decide +kernel
theorem dJ2_getChars_11360_46 : decode cJ2_getChars_11360 46 = .ok (.lsub, 1) := by decide +kernel
theorem dJ2_getChars_11360_47 : decode cJ2_getChars_11360 47 = .ok (.l2i, 1) := by decide +kernel
theorem dJ2_getChars_11360_48 : decode cJ2_getChars_11360 48 = .ok (.istore 6, 2) := by decide +kernel
theorem dJ2_getChars_11360_50 : decode cJ2_getChars_11360 50 = .ok (.lload 4, 2) := by decide +kernel
theorem dJ2_getChars_11360_52 : decode cJ2_getChars_11360 52 = .ok (.lstore_n 0, 1) := by decide +kernel
theorem dJ2_getChars_11360_53 : decode cJ2_getChars_11360 53 = .ok (.aload_n 3, 1) := by decide +kernel
theorem dJ2_getChars_11360_54 : decode cJ2_getChars_11360 54 = .ok (.iinc 7 (-1), 3) := by decide +kernel
theorem dJ2_getChars_11360_57 : decode cJ2_getChars_11360 57 = .ok (.iload 7, 2) := by decide +kernel
theorem dJ2_getChars_11360_59 : decode cJ2_getChars_11360 59 = .ok (.getstatic 403, 3) := by decide +kernel
theorem dJ2_getChars_11360_62 : decode cJ2_getChars_11360 62 = .ok (.iload 6, 2) := by decide +kernel
theorem dJ2_getChars_11360_64 : decode cJ2_getChars_11360 64 = .ok (.baload, 1) := by decide +kernel
theorem dJ2_getChars_11360_65 : decode cJ2_getChars_11360 65 = .ok (.invokestatic 111, 3) := by decide +kernel
theorem dJ2_getChars_11360_68 : decode cJ2_getChars_11360 68 = .ok (.aload_n 3, 1) := by decide +kernel
theorem dJ2_getChars_11360_69 : decode cJ2_getChars_11360 69 = .ok (.iinc 7 (-1), 3) := by decide +kernel
theorem dJ2_getChars_11360_72 : decode cJ2_getChars_11360 72 = .ok (.iload 7, 2) := by decide +kernel
theorem dJ2_getChars_11360_74 : decode cJ2_getChars_11360 74 = .ok (.getstatic 407, 3) := by decide +kernel
theorem dJ2_getChars_11360_77 : decode cJ2_getChars_11360 77 = .ok (.iload 6, 2) := by decide +kernel
theorem dJ2_getChars_11360_79 : decode cJ2_getChars_11360 79 = .ok (.baload, 1) := by decide +kernel
theorem dJ2_getChars_11360_80 : decode cJ2_getChars_11360 80 = .ok (.invokestatic 111, 3) := by decide +kernel
theorem dJ2_getChars_11360_83 : decode cJ2_getChars_11360 83 = .ok (.goto (-59), 3) := by decide +kernel
theorem dJ2_getChars_11360_86 : decode cJ2_getChars_11360 86 = .ok (.lload_n 0, 1) := by decide +kernel
theorem dJ2_getChars_11360_87 : decode cJ2_getChars_11360 87 = .ok (.l2i, 1) := by decide +kernel
theorem dJ2_getChars_11360_88 : decode cJ2_getChars_11360 88 = .ok (.istore 10, 2) := by decide +kernel
theorem dJ2_getChars_11360_90 : decode cJ2_getChars_11360 90 = .ok (.iload 10, 2) := by decide +kernel
theorem dJ2_getChars_11360_92 : decode cJ2_getChars_11360 92 = .ok (.bipush (-100), 2) := by decide +kernel
theorem dJ2_getChars_11360_94 : decode cJ2_getChars_11360 94 = .ok (.if_icmp .gt 57, 3) := by decide +kernel
theorem dJ2_getChars_11360_97 : decode cJ2_getChars_11360 97 = .ok (.iload 10, 2) := by decide +kernel
theorem dJ2_getChars_11360_99 : decode cJ2_getChars_11360 99 = .ok (.bipush 100, 2) := by decide +kernel
theorem dJ2_getChars_11360_101 : decode cJ2_getChars_11360 101 = .ok (.idiv, 1) := by decide +kernel
theorem dJ2_getChars_11360_102 : decode cJ2_getChars_11360 102 = .ok (.istore 9, 2) := by decide +kernel
theorem dJ2_getChars_11360_104 : decode cJ2_getChars_11360 104 = .ok (.iload 9, 2) := by decide +kernel
theorem dJ2_getChars_11360_106 : decode cJ2_getChars_11360 106 = .ok (.bipush 100, 2) := by decide +kernel
theorem dJ2_getChars_11360_108 : decode cJ2_getChars_11360 108 = .ok (.imul, 1) := by decide +kernel
theorem dJ2_getChars_11360_109 : decode cJ2_getChars_11360 109 = .ok (.iload 10, 2) := by decide +kernel
theorem dJ2_getChars_11360_111 : decode cJ2_getChars_11360 111 = .ok (.isub, 1) := by decide +kernel
theorem dJ2_getChars_11360_112 : decode cJ2_getChars_11360 112 = .ok (.istore 6, 2) := by decide +kernel
theorem dJ2_getChars_11360_114 : decode cJ2_getChars_11360 114 = .ok (.iload 9, 2) := by decide +kernel
theorem dJ2_getChars_11360_116 : decode cJ2_getChars_11360 116 = .ok (.istore 10, 2) := by decide +kernel
theorem dJ2_getChars_11360_118 : decode cJ2_getChars_11360 118 = .ok (.aload_n 3, 1) := by decide +kernel
theorem dJ2_getChars_11360_119 : decode cJ2_getChars_11360 119 = .ok (.iinc 7 (-1), 3) := by decide +kernel
theorem dJ2_getChars_11360_122 : decode cJ2_getChars_11360 122 = .ok (.iload 7, 2) := by decide +kernel
theorem dJ2_getChars_11360_124 : decode cJ2_getChars_11360 124 = .ok (.getstatic 403, 3) := by decide +kernel
theorem dJ2_getChars_11360_127 : decode cJ2_getChars_11360 127 = .ok (.iload 6, 2) := by decide +kernel
theorem dJ2_getChars_11360_129 : decode cJ2_getChars_11360 129 = .ok (.baload, 1) := by decide +kernel
theorem dJ2_getChars_11360_130 : decode cJ2_getChars_11360 130 = .ok (.invokestatic 111, 3) := by decide +kernel
theorem dJ2_getChars_11360_133 : decode cJ2_getChars_11360 133 = .ok (.aload_n 3, 1) := by decide +kernel
theorem dJ2_getChars_11360_134 : decode cJ2_getChars_11360 134 = .ok (.iinc 7 (-1), 3) := by decide +kernel
theorem dJ2_getChars_11360_137 : decode cJ2_getChars_11360 137 = .ok (.iload 7, 2) := by decide +kernel
theorem dJ2_getChars_11360_139 : decode cJ2_getChars_11360 139 = .ok (.getstatic 407, 3) := by decide +kernel
theorem dJ2_getChars_11360_142 : decode cJ2_getChars_11360 142 = .ok (.iload 6, 2) := by decide +kernel
theorem dJ2_getChars_11360_144 : decode cJ2_getChars_11360 144 = .ok (.baload, 1) := by decide +kernel
theorem dJ2_getChars_11360_145 : decode cJ2_getChars_11360 145 = .ok (.invokestatic 111, 3) := by decide +kernel
theorem dJ2_getChars_11360_148 : decode cJ2_getChars_11360 148 = .ok (.goto (-58), 3) := by decide +kernel
theorem dJ2_getChars_11360_151 : decode cJ2_getChars_11360 151 = .ok (.aload_n 3, 1) := by decide +kernel
theorem dJ2_getChars_11360_152 : decode cJ2_getChars_11360 152 = .ok (.iinc 7 (-1), 3) := by decide +kernel
theorem dJ2_getChars_11360_155 : decode cJ2_getChars_11360 155 = .ok (.iload 7, 2) := by decide +kernel
theorem dJ2_getChars_11360_157 : decode cJ2_getChars_11360 157 = .ok (.getstatic 403, 3) := by decide +kernel
theorem dJ2_getChars_11360_160 : decode cJ2_getChars_11360 160 = .ok (.iload 10, 2) := by decide +kernel
theorem dJ2_getChars_11360_162 : decode cJ2_getChars_11360 162 = .ok (.ineg, 1) := by decide +kernel
theorem dJ2_getChars_11360_163 : decode cJ2_getChars_11360 163 = .ok (.baload, 1) := by decide +kernel
theorem dJ2_getChars_11360_164 : decode cJ2_getChars_11360 164 = .ok (.invokestatic 111, 3) := by decide +kernel
theorem dJ2_getChars_11360_167 : decode cJ2_getChars_11360 167 = .ok (.iload 10, 2) := by decide +kernel
theorem dJ2_getChars_11360_169 : decode cJ2_getChars_11360 169 = .ok (.bipush (-9), 2) := by decide +kernel
theorem dJ2_getChars_11360_171 : decode cJ2_getChars_11360 171 = .ok (.if_icmp .ge 19, 3) := by decide +kernel
theorem dJ2_getChars_11360_174 : decode cJ2_getChars_11360 174 = .ok (.aload_n 3, 1) := by decide +kernel
theorem dJ2_getChars_11360_175 : decode cJ2_getChars_11360 175 = .ok (.iinc 7 (-1), 3) := by decide +kernel
theorem dJ2_getChars_11360_178 : decode cJ2_getChars_11360 178 = .ok (.iload 7, 2) := by decide +kernel
theorem dJ2_getChars_11360_180 : decode cJ2_getChars_11360 180 = .ok (.getstatic 407, 3) := by decide +kernel
theorem dJ2_getChars_11360_183 : decode cJ2_getChars_11360 183 = .ok (.iload 10, 2) := by decide +kernel
theorem dJ2_getChars_11360_185 : decode cJ2_getChars_11360 185 = .ok (.ineg, 1) := by decide +kernel
theorem dJ2_getChars_11360_186 : decode cJ2_getChars_11360 186 = .ok (.baload, 1) := by decide +kernel
theorem dJ2_getChars_11360_187 : decode cJ2_getChars_11360 187 = .ok (.invokestatic 111, 3) := by decide +kernel
theorem dJ2_getChars_11360_190 : decode cJ2_getChars_11360 190 = .ok (.iload 8, 2) := by decide +kernel
theorem dJ2_getChars_11360_192 : decode cJ2_getChars_11360 192 = .ok (.ifCond .eq 14, 3) := by decide +kernel
theorem dJ2_getChars_11360_195 : decode cJ2_getChars_11360 195 = .ok (.aload_n 3, 1) := by decide +kernel
theorem dJ2_getChars_11360_196 : decode cJ2_getChars_11360 196 = .ok (.iinc 7 (-1), 3) := by decide +kernel
theorem dJ2_getChars_11360_199 : decode cJ2_getChars_11360 199 = .ok (.iload 7, 2) := by decide +kernel
theorem dJ2_getChars_11360_201 : decode cJ2_getChars_11360 201 = .ok (.bipush 45, 2) := by decide +kernel
theorem dJ2_getChars_11360_203 : decode cJ2_getChars_11360 203 = .ok (.invokestatic 111, 3) := by decide +kernel
theorem dJ2_getChars_11360_206 : decode cJ2_getChars_11360 206 = .ok (.iload 7, 2) := by decide +kernel
theorem dJ2_getChars_11360_208 : decode cJ2_getChars_11360 208 = .ok (.ireturn, 1) := by decide +kernel
theorem dJ2_checkIndex_2214a_0 : decode cJ2_checkIndex_2214a 0 = .ok (.iload_n 0, 1) := by decide +kernel
theorem dJ2_checkIndex_2214a_1 : decode cJ2_checkIndex_2214a 1 = .ok (.aload_n 1, 1) := by decide +kernel
theorem dJ2_checkIndex_2214a_2 : decode cJ2_checkIndex_2214a 2 = .ok (.invokestatic 48, 3) := by decide +kernel
theorem dJ2_checkIndex_2214a_5 : decode cJ2_checkIndex_2214a 5 = .ok (.invokestatic 414, 3) := by decide +kernel
theorem dJ2_checkIndex_2214a_8 : decode cJ2_checkIndex_2214a 8 = .ok (.return_, 1) := by decide +kernel
theorem dJ2_checkBoundsBeginEnd_d044e_0 : decode cJ2_checkBoundsBeginEnd_d044e 0 = .ok (.iload_n 0, 1) := by decide +kernel
theorem dJ2_checkBoundsBeginEnd_d044e_1 : decode cJ2_checkBoundsBeginEnd_d044e 1 = .ok (.iload_n 1, 1) := by decide +kernel
theorem dJ2_checkBoundsBeginEnd_d044e_2 : decode cJ2_checkBoundsBeginEnd_d044e 2 = .ok (.aload_n 2, 1) := by decide +kernel
theorem dJ2_checkBoundsBeginEnd_d044e_3 : decode cJ2_checkBoundsBeginEnd_d044e 3 = .ok (.invokestatic 48, 3) := by decide +kernel
theorem dJ2_checkBoundsBeginEnd_d044e_6 : decode cJ2_checkBoundsBeginEnd_d044e 6 = .ok (.invokestatic 241, 3) := by decide +kernel
theorem dJ2_checkBoundsBeginEnd_d044e_9 : decode cJ2_checkBoundsBeginEnd_d044e 9 = .ok (.return_, 1) := by decide +kernel
theorem dJ2_checkBoundsOffCount_d044e_0 : decode cJ2_checkBoundsOffCount_d044e 0 = .ok (.iload_n 0, 1) := by decide +kernel
theorem dJ2_checkBoundsOffCount_d044e_1 : decode cJ2_checkBoundsOffCount_d044e 1 = .ok (.iload_n 1, 1) := by decide +kernel
theorem dJ2_checkBoundsOffCount_d044e_2 : decode cJ2_checkBoundsOffCount_d044e 2 = .ok (.aload_n 2, 1) := by decide +kernel
theorem dJ2_checkBoundsOffCount_d044e_3 : decode cJ2_checkBoundsOffCount_d044e 3 = .ok (.invokestatic 48, 3) := by decide +kernel
theorem dJ2_checkBoundsOffCount_d044e_6 : decode cJ2_checkBoundsOffCount_d044e 6 = .ok (.invokestatic 419, 3) := by decide +kernel
theorem dJ2_checkBoundsOffCount_d044e_9 : decode cJ2_checkBoundsOffCount_d044e 9 = .ok (.pop, 1) := by decide +kernel
theorem dJ2_checkBoundsOffCount_d044e_10 : decode cJ2_checkBoundsOffCount_d044e 10 = .ok (.return_, 1) := by decide +kernel
theorem dJxa1e45_init_da8c8_0 : decode cJxa1e45_init_da8c8 0 = .ok (.aload_n 0, 1) := by decide +kernel
theorem dJxa1e45_init_da8c8_1 : decode cJxa1e45_init_da8c8 1 = .ok (.invokespecial 1, 3) := by decide +kernel
theorem dJxa1e45_init_da8c8_4 : decode cJxa1e45_init_da8c8 4 = .ok (.return_, 1) := by decide +kernel
theorem dJxc12de_init_da8c8_0 : decode cJxc12de_init_da8c8 0 = .ok (.aload_n 0, 1) := by decide +kernel
theorem dJxc12de_init_da8c8_1 : decode cJxc12de_init_da8c8 1 = .ok (.invokespecial 1, 3) := by decide +kernel
theorem dJxc12de_init_da8c8_4 : decode cJxc12de_init_da8c8 4 = .ok (.aload_n 0, 1) := by decide +kernel
theorem dJxc12de_init_da8c8_5 : decode cJxc12de_init_da8c8 5 = .ok (.iconst 0, 1) := by decide +kernel
theorem dJxc12de_init_da8c8_6 : decode cJxc12de_init_da8c8 6 = .ok (.putfield 7, 3) := by decide +kernel
theorem dJxc12de_init_da8c8_9 : decode cJxc12de_init_da8c8 9 = .ok (.return_, 1) := by decide +kernel
theorem dJx4a65c_init_da8c8_0 : decode cJx4a65c_init_da8c8 0 = .ok (.aload_n 0, 1) := by decide +kernel
theorem dJx4a65c_init_da8c8_1 : decode cJx4a65c_init_da8c8 1 = .ok (.invokespecial 1, 3) := by decide +kernel
theorem dJx4a65c_init_da8c8_4 : decode cJx4a65c_init_da8c8 4 = .ok (.aload_n 0, 1) := by decide +kernel
theorem dJx4a65c_init_da8c8_5 : decode cJx4a65c_init_da8c8 5 = .ok (.getstatic 39, 3) := by decide +kernel
theorem dJx4a65c_init_da8c8_8 : decode cJx4a65c_init_da8c8 8 = .ok (.putfield 9, 3) := by decide +kernel
theorem dJx4a65c_init_da8c8_11 : decode cJx4a65c_init_da8c8 11 = .ok (.return_, 1) := by decide +kernel
theorem dJx4a65c_grow_92f84_0 : decode cJx4a65c_grow_92f84 0 = .ok (.aload_n 0, 1) := by decide +kernel
theorem dJx4a65c_grow_92f84_1 : decode cJx4a65c_grow_92f84 1 = .ok (.getfield 9, 3) := by decide +kernel
theorem dJx4a65c_grow_92f84_4 : decode cJx4a65c_grow_92f84 4 = .ok (.arraylength, 1) := by decide +kernel
theorem dJx4a65c_grow_92f84_5 : decode cJx4a65c_grow_92f84 5 = .ok (.istore_n 2, 1) := by decide +kernel
theorem dJx4a65c_grow_92f84_6 : decode cJx4a65c_grow_92f84 6 = .ok (.iload_n 2, 1) := by decide +kernel
theorem dJx4a65c_grow_92f84_7 : decode cJx4a65c_grow_92f84 7 = .ok (.ifCond .gt 13, 3) := by decide +kernel
theorem dJx4a65c_grow_92f84_10 : decode cJx4a65c_grow_92f84 10 = .ok (.aload_n 0, 1) := by decide +kernel
theorem dJx4a65c_grow_92f84_11 : decode cJx4a65c_grow_92f84 11 = .ok (.getfield 9, 3) := by decide +kernel
theorem dJx4a65c_grow_92f84_14 : decode cJx4a65c_grow_92f84 14 = .ok (.getstatic 39, 3) := by decide +kernel
theorem dJx4a65c_grow_92f84_17 : decode cJx4a65c_grow_92f84 17 = .ok (.if_acmp .eq 28, 3) := by decide +kernel
theorem dJx4a65c_grow_92f84_20 : decode cJx4a65c_grow_92f84 20 = .ok (.iload_n 2, 1) := by decide +kernel
theorem dJx4a65c_grow_92f84_21 : decode cJx4a65c_grow_92f84 21 = .ok (.iload_n 1, 1) := by decide +kernel
theorem dJx4a65c_grow_92f84_22 : decode cJx4a65c_grow_92f84 22 = .ok (.iload_n 2, 1) := by decide +kernel
theorem dJx4a65c_grow_92f84_23 : decode cJx4a65c_grow_92f84 23 = .ok (.isub, 1) := by decide +kernel
theorem dJx4a65c_grow_92f84_24 : decode cJx4a65c_grow_92f84 24 = .ok (.iload_n 2, 1) := by decide +kernel
theorem dJx4a65c_grow_92f84_25 : decode cJx4a65c_grow_92f84 25 = .ok (.iconst 1, 1) := by decide +kernel
theorem dJx4a65c_grow_92f84_26 : decode cJx4a65c_grow_92f84 26 = .ok (.ishr, 1) := by decide +kernel
theorem dJx4a65c_grow_92f84_27 : decode cJx4a65c_grow_92f84 27 = .ok (.invokestatic 73, 3) := by decide +kernel
theorem dJx4a65c_grow_92f84_30 : decode cJx4a65c_grow_92f84 30 = .ok (.istore_n 3, 1) := by decide +kernel
theorem dJx4a65c_grow_92f84_31 : decode cJx4a65c_grow_92f84 31 = .ok (.aload_n 0, 1) := by decide +kernel
theorem dJx4a65c_grow_92f84_32 : decode cJx4a65c_grow_92f84 32 = .ok (.aload_n 0, 1) := by decide +kernel
theorem dJx4a65c_grow_92f84_33 : decode cJx4a65c_grow_92f84 33 = .ok (.getfield 9, 3) := by decide +kernel
theorem dJx4a65c_grow_92f84_36 : decode cJx4a65c_grow_92f84 36 = .ok (.iload_n 3, 1) := by decide +kernel
theorem dJx4a65c_grow_92f84_37 : decode cJx4a65c_grow_92f84 37 = .ok (.invokestatic 66, 3) := by decide +kernel
theorem dJx4a65c_grow_92f84_40 : decode cJx4a65c_grow_92f84 40 = .ok (.dup_x1, 1) := by decide +kernel
theorem dJx4a65c_grow_92f84_41 : decode cJx4a65c_grow_92f84 41 = .ok (.putfield 9, 3) := by decide +kernel
theorem dJx4a65c_grow_92f84_44 : decode cJx4a65c_grow_92f84 44 = .ok (.areturn, 1) := by decide +kernel
theorem dJx4a65c_grow_92f84_45 : decode cJx4a65c_grow_92f84 45 = .ok (.aload_n 0, 1) := by decide +kernel
theorem dJx4a65c_grow_92f84_46 : decode cJx4a65c_grow_92f84 46 = .ok (.bipush 10, 2) := by decide +kernel
theorem dJx4a65c_grow_92f84_48 : decode cJx4a65c_grow_92f84 48 = .ok (.iload_n 1, 1) := by decide +kernel
theorem dJx4a65c_grow_92f84_49 : decode cJx4a65c_grow_92f84 49 = .ok (.invokestatic 79, 3) := by decide +kernel
theorem dJx4a65c_grow_92f84_52 : decode cJx4a65c_grow_92f84 52 = .ok (.anewarray 7, 3) := by decide +kernel
theorem dJx4a65c_grow_92f84_55 : decode cJx4a65c_grow_92f84 55 = .ok (.dup_x1, 1) := by decide +kernel
theorem dJx4a65c_grow_92f84_56 : decode cJx4a65c_grow_92f84 56 = .ok (.putfield 9, 3) := by decide +kernel
theorem dJx4a65c_grow_92f84_59 : decode cJx4a65c_grow_92f84 59 = .ok (.areturn, 1) := by decide +kernel
theorem dJx4a65c_grow_d5877_0 : decode cJx4a65c_grow_d5877 0 = .ok (.aload_n 0, 1) := by decide +kernel
theorem dJx4a65c_grow_d5877_1 : decode cJx4a65c_grow_d5877 1 = .ok (.aload_n 0, 1) := by decide +kernel
theorem dJx4a65c_grow_d5877_2 : decode cJx4a65c_grow_d5877 2 = .ok (.getfield 48, 3) := by decide +kernel
theorem dJx4a65c_grow_d5877_5 : decode cJx4a65c_grow_d5877 5 = .ok (.iconst 1, 1) := by decide +kernel
theorem dJx4a65c_grow_d5877_6 : decode cJx4a65c_grow_d5877 6 = .ok (.iadd, 1) := by decide +kernel
theorem dJx4a65c_grow_d5877_7 : decode cJx4a65c_grow_d5877 7 = .ok (.invokevirtual 69, 3) := by decide +kernel
theorem dJx4a65c_grow_d5877_10 : decode cJx4a65c_grow_d5877 10 = .ok (.areturn, 1) := by decide +kernel
theorem dJx4a65c_size_8abf5_0 : decode cJx4a65c_size_8abf5 0 = .ok (.aload_n 0, 1) := by decide +kernel
theorem dJx4a65c_size_8abf5_1 : decode cJx4a65c_size_8abf5 1 = .ok (.getfield 48, 3) := by decide +kernel
theorem dJx4a65c_size_8abf5_4 : decode cJx4a65c_size_8abf5 4 = .ok (.ireturn, 1) := by decide +kernel
theorem dJx4a65c_elementData_915e3_0 : decode cJx4a65c_elementData_915e3 0 = .ok (.aload_n 0, 1) := by decide +kernel
theorem dJx4a65c_elementData_915e3_1 : decode cJx4a65c_elementData_915e3 1 = .ok (.getfield 9, 3) := by decide +kernel
theorem dJx4a65c_elementData_915e3_4 : decode cJx4a65c_elementData_915e3 4 = .ok (.iload_n 1, 1) := by decide +kernel
theorem dJx4a65c_elementData_915e3_5 : decode cJx4a65c_elementData_915e3 5 = .ok (.aaload, 1) := by decide +kernel
theorem dJx4a65c_elementData_915e3_6 : decode cJx4a65c_elementData_915e3 6 = .ok (.areturn, 1) := by decide +kernel
theorem dJx4a65c_get_915e3_0 : decode cJx4a65c_get_915e3 0 = .ok (.iload_n 1, 1) := by decide +kernel
theorem dJx4a65c_get_915e3_1 : decode cJx4a65c_get_915e3 1 = .ok (.aload_n 0, 1) := by decide +kernel
theorem dJx4a65c_get_915e3_2 : decode cJx4a65c_get_915e3 2 = .ok (.getfield 48, 3) := by decide +kernel
theorem dJx4a65c_get_915e3_5 : decode cJx4a65c_get_915e3 5 = .ok (.invokestatic 118, 3) := by decide +kernel
theorem dJx4a65c_get_915e3_8 : decode cJx4a65c_get_915e3 8 = .ok (.pop, 1) := by decide +kernel
theorem dJx4a65c_get_915e3_9 : decode cJx4a65c_get_915e3 9 = .ok (.aload_n 0, 1) := by decide +kernel
theorem dJx4a65c_get_915e3_10 : decode cJx4a65c_get_915e3 10 = .ok (.iload_n 1, 1) := by decide +kernel
theorem dJx4a65c_get_915e3_11 : decode cJx4a65c_get_915e3 11 = .ok (.invokevirtual 123, 3) := by decide +kernel
theorem dJx4a65c_get_915e3_14 : decode cJx4a65c_get_915e3 14 = .ok (.areturn, 1) := by decide +kernel
theorem dJx4a65c_add_72be8_0 : decode cJx4a65c_add_72be8 0 = .ok (.iload_n 3, 1) := by decide +kernel
theorem dJx4a65c_add_72be8_1 : decode cJx4a65c_add_72be8 1 = .ok (.aload_n 2, 1) := by decide +kernel
theorem dJx4a65c_add_72be8_2 : decode cJx4a65c_add_72be8 2 = .ok (.arraylength, 1) := by decide +kernel
theorem dJx4a65c_add_72be8_3 : decode cJx4a65c_add_72be8 3 = .ok (.if_icmp .ne 8, 3) := by decide +kernel
theorem dJx4a65c_add_72be8_6 : decode cJx4a65c_add_72be8 6 = .ok (.aload_n 0, 1) := by decide +kernel
theorem dJx4a65c_add_72be8_7 : decode cJx4a65c_add_72be8 7 = .ok (.invokevirtual 129, 3) := by decide +kernel
theorem dJx4a65c_add_72be8_10 : decode cJx4a65c_add_72be8 10 = .ok (.astore_n 2, 1) := by decide +kernel
theorem dJx4a65c_add_72be8_11 : decode cJx4a65c_add_72be8 11 = .ok (.aload_n 2, 1) := by decide +kernel
theorem dJx4a65c_add_72be8_12 : decode cJx4a65c_add_72be8 12 = .ok (.iload_n 3, 1) := by decide +kernel
theorem dJx4a65c_add_72be8_13 : decode cJx4a65c_add_72be8 13 = .ok (.aload_n 1, 1) := by decide +kernel
theorem dJx4a65c_add_72be8_14 : decode cJx4a65c_add_72be8 14 = .ok (.aastore, 1) := by decide +kernel
theorem dJx4a65c_add_72be8_15 : decode cJx4a65c_add_72be8 15 = .ok (.aload_n 0, 1) := by decide +kernel
theorem dJx4a65c_add_72be8_16 : decode cJx4a65c_add_72be8 16 = .ok (.iload_n 3, 1) := by decide +kernel
theorem dJx4a65c_add_72be8_17 : decode cJx4a65c_add_72be8 17 = .ok (.iconst 1, 1) := by decide +kernel
theorem dJx4a65c_add_72be8_18 : decode cJx4a65c_add_72be8 18 = .ok (.iadd, 1) := by decide +kernel
theorem dJx4a65c_add_72be8_19 : decode cJx4a65c_add_72be8 19 = .ok (.putfield 48, 3) := by decide +kernel
theorem dJx4a65c_add_72be8_22 : decode cJx4a65c_add_72be8 22 = .ok (.return_, 1) := by decide +kernel
theorem dJx4a65c_add_9ea2d_0 : decode cJx4a65c_add_9ea2d 0 = .ok (.aload_n 0, 1) := by decide +kernel
theorem dJx4a65c_add_9ea2d_1 : decode cJx4a65c_add_9ea2d 1 = .ok (.dup, 1) := by decide +kernel
theorem dJx4a65c_add_9ea2d_2 : decode cJx4a65c_add_9ea2d 2 = .ok (.getfield 63, 3) := by decide +kernel
theorem dJx4a65c_add_9ea2d_5 : decode cJx4a65c_add_9ea2d 5 = .ok (.iconst 1, 1) := by decide +kernel
theorem dJx4a65c_add_9ea2d_6 : decode cJx4a65c_add_9ea2d 6 = .ok (.iadd, 1) := by decide +kernel
theorem dJx4a65c_add_9ea2d_7 : decode cJx4a65c_add_9ea2d 7 = .ok (.putfield 63, 3) := by decide +kernel
theorem dJx4a65c_add_9ea2d_10 : decode cJx4a65c_add_9ea2d 10 = .ok (.aload_n 0, 1) := by decide +kernel
theorem dJx4a65c_add_9ea2d_11 : decode cJx4a65c_add_9ea2d 11 = .ok (.aload_n 1, 1) := by decide +kernel
theorem dJx4a65c_add_9ea2d_12 : decode cJx4a65c_add_9ea2d 12 = .ok (.aload_n 0, 1) := by decide +kernel
theorem dJx4a65c_add_9ea2d_13 : decode cJx4a65c_add_9ea2d 13 = .ok (.getfield 9, 3) := by decide +kernel
theorem dJx4a65c_add_9ea2d_16 : decode cJx4a65c_add_9ea2d 16 = .ok (.aload_n 0, 1) := by decide +kernel
theorem dJx4a65c_add_9ea2d_17 : decode cJx4a65c_add_9ea2d 17 = .ok (.getfield 48, 3) := by decide +kernel
theorem dJx4a65c_add_9ea2d_20 : decode cJx4a65c_add_9ea2d 20 = .ok (.invokevirtual 131, 3) := by decide +kernel
theorem dJx4a65c_add_9ea2d_23 : decode cJx4a65c_add_9ea2d 23 = .ok (.iconst 1, 1) := by decide +kernel
theorem dJx4a65c_add_9ea2d_24 : decode cJx4a65c_add_9ea2d 24 = .ok (.ireturn, 1) := by decide +kernel
theorem dJ7_copyOf_1904c_0 : decode cJ7_copyOf_1904c 0 = .ok (.aload_n 0, 1) := by decide +kernel
theorem dJ7_copyOf_1904c_1 : decode cJ7_copyOf_1904c 1 = .ok (.iload_n 1, 1) := by decide +kernel
theorem dJ7_copyOf_1904c_2 : decode cJ7_copyOf_1904c 2 = .ok (.aload_n 0, 1) := by decide +kernel
theorem dJ7_copyOf_1904c_3 : decode cJ7_copyOf_1904c 3 = .ok (.invokevirtual 86, 3) := by decide +kernel
theorem dJ7_copyOf_1904c_6 : decode cJ7_copyOf_1904c 6 = .ok (.invokestatic 300, 3) := by decide +kernel
theorem dJ7_copyOf_1904c_9 : decode cJ7_copyOf_1904c 9 = .ok (.areturn, 1) := by decide +kernel
theorem dJ7_copyOf_6403c_0 : decode cJ7_copyOf_6403c 0 = .ok (.aload_n 2, 1) := by decide +kernel
theorem dJ7_copyOf_6403c_1 : decode cJ7_copyOf_6403c 1 = .ok (.ldc 110, 2) := by decide +kernel
theorem dJ7_copyOf_6403c_3 : decode cJ7_copyOf_6403c 3 = .ok (.if_acmp .ne 10, 3) := by decide +kernel
theorem dJ7_copyOf_6403c_6 : decode cJ7_copyOf_6403c 6 = .ok (.iload_n 1, 1) := by decide +kernel
theorem dJ7_copyOf_6403c_7 : decode cJ7_copyOf_6403c 7 = .ok (.anewarray 2, 3) := by decide +kernel
theorem dJ7_copyOf_6403c_10 : decode cJ7_copyOf_6403c 10 = .ok (.goto 14, 3) := by decide +kernel
theorem dJ7_copyOf_6403c_13 : decode cJ7_copyOf_6403c 13 = .ok (.aload_n 2, 1) := by decide +kernel
theorem dJ7_copyOf_6403c_14 : decode cJ7_copyOf_6403c 14 = .ok (.invokevirtual 90, 3) := by decide +kernel
theorem dJ7_copyOf_6403c_17 : decode cJ7_copyOf_6403c 17 = .ok (.iload_n 1, 1) := by decide +kernel
theorem dJ7_copyOf_6403c_18 : decode cJ7_copyOf_6403c 18 = .ok (.invokestatic 95, 3) := by decide +kernel
theorem dJ7_copyOf_6403c_21 : decode cJ7_copyOf_6403c 21 = .ok (.checkcast 110, 3) := by decide +kernel
theorem dJ7_copyOf_6403c_24 : decode cJ7_copyOf_6403c 24 = .ok (.astore_n 3, 1) := by decide +kernel
theorem dJ7_copyOf_6403c_25 : decode cJ7_copyOf_6403c 25 = .ok (.aload_n 0, 1) := by decide +kernel
theorem dJ7_copyOf_6403c_26 : decode cJ7_copyOf_6403c 26 = .ok (.iconst 0, 1) := by decide +kernel
theorem dJ7_copyOf_6403c_27 : decode cJ7_copyOf_6403c 27 = .ok (.aload_n 3, 1) := by decide +kernel
theorem dJ7_copyOf_6403c_28 : decode cJ7_copyOf_6403c 28 = .ok (.iconst 0, 1) := by decide +kernel
theorem dJ7_copyOf_6403c_29 : decode cJ7_copyOf_6403c 29 = .ok (.aload_n 0, 1) := by decide +kernel
theorem dJ7_copyOf_6403c_30 : decode cJ7_copyOf_6403c 30 = .ok (.arraylength, 1) := by decide +kernel
theorem dJ7_copyOf_6403c_31 : decode cJ7_copyOf_6403c 31 = .ok (.iload_n 1, 1) := by decide +kernel
theorem dJ7_copyOf_6403c_32 : decode cJ7_copyOf_6403c 32 = .ok (.invokestatic 304, 3) := by decide +kernel
theorem dJ7_copyOf_6403c_35 : decode cJ7_copyOf_6403c 35 = .ok (.invokestatic 150, 3) := by decide +kernel
theorem dJ7_copyOf_6403c_38 : decode cJ7_copyOf_6403c 38 = .ok (.aload_n 3, 1) := by decide +kernel
theorem dJ7_copyOf_6403c_39 : decode cJ7_copyOf_6403c 39 = .ok (.areturn, 1) := by decide +kernel
theorem dJ7_copyOf_9075b_0 : decode cJ7_copyOf_9075b 0 = .ok (.iload_n 1, 1) := by decide +kernel
theorem dJ7_copyOf_9075b_1 : decode cJ7_copyOf_9075b 1 = .ok (.aload_n 0, 1) := by decide +kernel
theorem dJ7_copyOf_9075b_2 : decode cJ7_copyOf_9075b 2 = .ok (.arraylength, 1) := by decide +kernel
theorem dJ7_copyOf_9075b_3 : decode cJ7_copyOf_9075b 3 = .ok (.if_icmp .ne 11, 3) := by decide +kernel
theorem dJ7_copyOf_9075b_6 : decode cJ7_copyOf_9075b 6 = .ok (.aload_n 0, 1) := by decide +kernel
theorem dJ7_copyOf_9075b_7 : decode cJ7_copyOf_9075b 7 = .ok (.invokevirtual 310, 3) := by decide +kernel
theorem dJ7_copyOf_9075b_10 : decode cJ7_copyOf_9075b 10 = .ok (.checkcast 311, 3) := by decide +kernel
theorem dJ7_copyOf_9075b_13 : decode cJ7_copyOf_9075b 13 = .ok (.areturn, 1) := by decide +kernel
theorem dJ7_copyOf_9075b_14 : decode cJ7_copyOf_9075b 14 = .ok (.iload_n 1, 1) := by decide +kernel
theorem dJ7_copyOf_9075b_15 : decode cJ7_copyOf_9075b 15 = .ok (.newarray .byte, 2) := by decide +kernel
theorem dJ7_copyOf_9075b_17 : decode cJ7_copyOf_9075b 17 = .ok (.astore_n 2, 1) := by decide +kernel
theorem dJ7_copyOf_9075b_18 : decode cJ7_copyOf_9075b 18 = .ok (.aload_n 0, 1) := by decide +kernel
theorem dJ7_copyOf_9075b_19 : decode cJ7_copyOf_9075b 19 = .ok (.iconst 0, 1) := by decide +kernel
theorem dJ7_copyOf_9075b_20 : decode cJ7_copyOf_9075b 20 = .ok (.aload_n 2, 1) := by decide +kernel
theorem dJ7_copyOf_9075b_21 : decode cJ7_copyOf_9075b 21 = .ok (.iconst 0, 1) := by decide +kernel
theorem dJ7_copyOf_9075b_22 : decode cJ7_copyOf_9075b 22 = .ok (.aload_n 0, 1) := by decide +kernel
theorem dJ7_copyOf_9075b_23 : decode cJ7_copyOf_9075b 23 = .ok (.arraylength, 1) := by decide +kernel
theorem dJ7_copyOf_9075b_24 : decode cJ7_copyOf_9075b 24 = .ok (.iload_n 1, 1) := by decide +kernel
theorem dJ7_copyOf_9075b_25 : decode cJ7_copyOf_9075b 25 = .ok (.invokestatic 304, 3) := by decide +kernel
theorem dJ7_copyOf_9075b_28 : decode cJ7_copyOf_9075b 28 = .ok (.invokestatic 150, 3) := by decide +kernel
theorem dJ7_copyOf_9075b_31 : decode cJ7_copyOf_9075b 31 = .ok (.aload_n 2, 1) := by decide +kernel
theorem dJ7_copyOf_9075b_32 : decode cJ7_copyOf_9075b 32 = .ok (.areturn, 1) := by decide +kernel
theorem dJ7_checkLength_df160_0 : decode cJ7_checkLength_df160 0 = .ok (.iload_n 1, 1) := by decide +kernel
theorem dJ7_checkLength_df160_1 : decode cJ7_checkLength_df160 1 = .ok (.iload_n 0, 1) := by decide +kernel
theorem dJ7_checkLength_df160_2 : decode cJ7_checkLength_df160 2 = .ok (.if_icmp .ge 35, 3) := by decide +kernel
theorem dJ7_checkLength_df160_5 : decode cJ7_checkLength_df160 5 = .ok (.new 43, 3) := by decide +kernel
theorem dJ7_checkLength_df160_8 : decode cJ7_checkLength_df160 8 = .ok (.dup, 1) := by decide +kernel
theorem dJ7_checkLength_df160_9 : decode cJ7_checkLength_df160 9 = .ok (.new 45, 3) := by decide +kernel
theorem dJ7_checkLength_df160_12 : decode cJ7_checkLength_df160 12 = .ok (.dup, 1) := by decide +kernel
theorem dJ7_checkLength_df160_13 : decode cJ7_checkLength_df160 13 = .ok (.invokespecial 47, 3) := by decide +kernel
theorem dJ7_checkLength_df160_16 : decode cJ7_checkLength_df160 16 = .ok (.iload_n 0, 1) := by decide +kernel
theorem dJ7_checkLength_df160_17 : decode cJ7_checkLength_df160 17 = .ok (.invokevirtual 54, 3) := by decide +kernel
theorem dJ7_checkLength_df160_20 : decode cJ7_checkLength_df160 20 = .ok (.ldc_w 337, 3) := by decide +kernel
theorem dJ7_checkLength_df160_23 : decode cJ7_checkLength_df160 23 = .ok (.invokevirtual 50, 3) := by decide +kernel
theorem dJ7_checkLength_df160_26 : decode cJ7_checkLength_df160 26 = .ok (.iload_n 1, 1) := by decide +kernel
theorem dJ7_checkLength_df160_27 : decode cJ7_checkLength_df160 27 = .ok (.invokevirtual 54, 3) := by decide +kernel
theorem dJ7_checkLength_df160_30 : decode cJ7_checkLength_df160 30 = .ok (.invokevirtual 61, 3) := by decide +kernel
theorem dJ7_checkLength_df160_33 : decode cJ7_checkLength_df160 33 = .ok (.invokespecial 65, 3) := by decide +kernel
theorem dJ7_checkLength_df160_36 : decode cJ7_checkLength_df160 36 = .ok (.athrow, 1) := by decide +kernel
theorem dJ7_checkLength_df160_37 : decode cJ7_checkLength_df160 37 = .ok (.return_, 1) := by decide +kernel
theorem dJ7_copyOfRange_39247_0 : decode cJ7_copyOfRange_39247 0 = .ok (.iload_n 1, 1) := by decide +kernel
theorem dJ7_copyOfRange_39247_1 : decode cJ7_copyOfRange_39247 1 = .ok (.ifCond .ne 9, 3) := by decide +kernel
theorem dJ7_copyOfRange_39247_4 : decode cJ7_copyOfRange_39247 4 = .ok (.iload_n 2, 1) := by decide +kernel
theorem dJ7_copyOfRange_39247_5 : decode cJ7_copyOfRange_39247 5 = .ok (.aload_n 0, 1) := by decide +kernel
theorem dJ7_copyOfRange_39247_6 : decode cJ7_copyOfRange_39247 6 = .ok (.arraylength, 1) := by decide +kernel
theorem dJ7_copyOfRange_39247_7 : decode cJ7_copyOfRange_39247 7 = .ok (.if_icmp .eq 10, 3) := by decide +kernel
theorem dJ7_copyOfRange_39247_10 : decode cJ7_copyOfRange_39247 10 = .ok (.aload_n 0, 1) := by decide +kernel
theorem dJ7_copyOfRange_39247_11 : decode cJ7_copyOfRange_39247 11 = .ok (.iload_n 1, 1) := by decide +kernel
theorem dJ7_copyOfRange_39247_12 : decode cJ7_copyOfRange_39247 12 = .ok (.iload_n 2, 1) := by decide +kernel
theorem dJ7_copyOfRange_39247_13 : decode cJ7_copyOfRange_39247 13 = .ok (.invokestatic 339, 3) := by decide +kernel
theorem dJ7_copyOfRange_39247_16 : decode cJ7_copyOfRange_39247 16 = .ok (.areturn, 1) := by decide +kernel
theorem dJ7_copyOfRange_39247_17 : decode cJ7_copyOfRange_39247 17 = .ok (.aload_n 0, 1) := by decide +kernel
theorem dJ7_copyOfRange_39247_18 : decode cJ7_copyOfRange_39247 18 = .ok (.invokevirtual 310, 3) := by decide +kernel
theorem dJ7_copyOfRange_39247_21 : decode cJ7_copyOfRange_39247 21 = .ok (.checkcast 311, 3) := by decide +kernel
theorem dJ7_copyOfRange_39247_24 : decode cJ7_copyOfRange_39247 24 = .ok (.areturn, 1) := by decide +kernel
theorem dJ7_copyOfRangeByte_39247_0 : decode cJ7_copyOfRangeByte_39247 0 = .ok (.iload_n 1, 1) := by decide +kernel
theorem dJ7_copyOfRangeByte_39247_1 : decode cJ7_copyOfRangeByte_39247 1 = .ok (.iload_n 2, 1) := by decide +kernel
theorem dJ7_copyOfRangeByte_39247_2 : decode cJ7_copyOfRangeByte_39247 2 = .ok (.invokestatic 343, 3) := by decide +kernel
theorem dJ7_copyOfRangeByte_39247_5 : decode cJ7_copyOfRangeByte_39247 5 = .ok (.iload_n 2, 1) := by decide +kernel
theorem dJ7_copyOfRangeByte_39247_6 : decode cJ7_copyOfRangeByte_39247 6 = .ok (.iload_n 1, 1) := by decide +kernel
theorem dJ7_copyOfRangeByte_39247_7 : decode cJ7_copyOfRangeByte_39247 7 = .ok (.isub, 1) := by decide +kernel
theorem dJ7_copyOfRangeByte_39247_8 : decode cJ7_copyOfRangeByte_39247 8 = .ok (.istore_n 3, 1) := by decide +kernel
theorem dJ7_copyOfRangeByte_39247_9 : decode cJ7_copyOfRangeByte_39247 9 = .ok (.iload_n 3, 1) := by decide +kernel
theorem dJ7_copyOfRangeByte_39247_10 : decode cJ7_copyOfRangeByte_39247 10 = .ok (.newarray .byte, 2) := by decide +kernel
theorem dJ7_copyOfRangeByte_39247_12 : decode cJ7_copyOfRangeByte_39247 12 = .ok (.astore 4, 2) := by decide +kernel
theorem dJ7_copyOfRangeByte_39247_14 : decode cJ7_copyOfRangeByte_39247 14 = .ok (.aload_n 0, 1) := by decide +kernel
theorem dJ7_copyOfRangeByte_39247_15 : decode cJ7_copyOfRangeByte_39247 15 = .ok (.iload_n 1, 1) := by decide +kernel
theorem dJ7_copyOfRangeByte_39247_16 : decode cJ7_copyOfRangeByte_39247 16 = .ok (.aload 4, 2) := by decide +kernel
theorem dJ7_copyOfRangeByte_39247_18 : decode cJ7_copyOfRangeByte_39247 18 = .ok (.iconst 0, 1) := by decide +kernel
theorem dJ7_copyOfRangeByte_39247_19 : decode cJ7_copyOfRangeByte_39247 19 = .ok (.aload_n 0, 1) := by decide +kernel
theorem dJ7_copyOfRangeByte_39247_20 : decode cJ7_copyOfRangeByte_39247 20 = .ok (.arraylength, 1) := by decide +kernel
theorem dJ7_copyOfRangeByte_39247_21 : decode cJ7_copyOfRangeByte_39247 21 = .ok (.iload_n 1, 1) := by decide +kernel
theorem dJ7_copyOfRangeByte_39247_22 : decode cJ7_copyOfRangeByte_39247 22 = .ok (.isub, 1) := by decide +kernel
theorem dJ7_copyOfRangeByte_39247_23 : decode cJ7_copyOfRangeByte_39247 23 = .ok (.iload_n 3, 1) := by decide +kernel
theorem dJ7_copyOfRangeByte_39247_24 : decode cJ7_copyOfRangeByte_39247 24 = .ok (.invokestatic 304, 3) := by decide +kernel
theorem dJ7_copyOfRangeByte_39247_27 : decode cJ7_copyOfRangeByte_39247 27 = .ok (.invokestatic 150, 3) := by decide +kernel
theorem dJ7_copyOfRangeByte_39247_30 : decode cJ7_copyOfRangeByte_39247 30 = .ok (.aload 4, 2) := by decide +kernel
theorem dJ7_copyOfRangeByte_39247_32 : decode cJ7_copyOfRangeByte_39247 32 = .ok (.areturn, 1) := by decide +kernel
theorem dJ15_checkIndex_7cf53_0 : decode cJ15_checkIndex_7cf53 0 = .ok (.iload_n 0, 1) := by decide +kernel
theorem dJ15_checkIndex_7cf53_1 : decode cJ15_checkIndex_7cf53 1 = .ok (.iload_n 1, 1) := by decide +kernel
theorem dJ15_checkIndex_7cf53_2 : decode cJ15_checkIndex_7cf53 2 = .ok (.aconst_null, 1) := by decide +kernel
theorem dJ15_checkIndex_7cf53_3 : decode cJ15_checkIndex_7cf53 3 = .ok (.invokestatic 105, 3) := by decide +kernel
theorem dJ15_checkIndex_7cf53_6 : decode cJ15_checkIndex_7cf53 6 = .ok (.ireturn, 1) := by decide +kernel
theorem dJx4497a_init_f633c_0 : decode cJx4497a_init_f633c 0 = .ok (.aload_n 0, 1) := by decide +kernel
theorem dJx4497a_init_f633c_1 : decode cJx4497a_init_f633c 1 = .ok (.invokespecial 5, 3) := by decide +kernel
theorem dJx4497a_init_f633c_4 : decode cJx4497a_init_f633c 4 = .ok (.aload_n 0, 1) := by decide +kernel
theorem dJx4497a_init_f633c_5 : decode cJx4497a_init_f633c 5 = .ok (.iload_n 1, 1) := by decide +kernel
theorem dJx4497a_init_f633c_6 : decode cJx4497a_init_f633c 6 = .ok (.ifCond .eq 7, 3) := by decide +kernel
theorem dJx4497a_init_f633c_9 : decode cJx4497a_init_f633c 9 = .ok (.aconst_null, 1) := by decide +kernel
theorem dJx4497a_init_f633c_10 : decode cJx4497a_init_f633c 10 = .ok (.goto 7, 3) := by decide +kernel
theorem dJx4497a_init_f633c_13 : decode cJx4497a_init_f633c 13 = .ok (.bipush 24, 2) := by decide +kernel
theorem dJx4497a_init_f633c_15 : decode cJx4497a_init_f633c 15 = .ok (.newarray .byte, 2) := by decide +kernel
theorem dJx4497a_init_f633c_17 : decode cJx4497a_init_f633c 17 = .ok (.putfield 11, 3) := by decide +kernel
theorem dJx4497a_init_f633c_20 : decode cJx4497a_init_f633c 20 = .ok (.return_, 1) := by decide +kernel
theorem dJx4497a_appendTo_00aa9_0 : decode cJx4497a_appendTo_00aa9 0 = .ok (.new 3, 3) := by decide +kernel
theorem dJx4497a_appendTo_00aa9_3 : decode cJx4497a_appendTo_00aa9 3 = .ok (.dup, 1) := by decide +kernel
theorem dJx4497a_appendTo_00aa9_4 : decode cJx4497a_appendTo_00aa9 4 = .ok (.iconst 0, 1) := by decide +kernel
theorem dJx4497a_appendTo_00aa9_5 : decode cJx4497a_appendTo_00aa9 5 = .ok (.invokespecial 15, 3) := by decide +kernel
theorem dJx4497a_appendTo_00aa9_8 : decode cJx4497a_appendTo_00aa9 8 = .ok (.dload_n 0, 1) := by decide +kernel
theorem dJx4497a_appendTo_00aa9_9 : decode cJx4497a_appendTo_00aa9 9 = .ok (.aload_n 2, 1) := by decide +kernel
theorem dJx4497a_appendTo_00aa9_10 : decode cJx4497a_appendTo_00aa9 10 = .ok (.invokevirtual 26, 3) := by decide +kernel
theorem dJx4497a_appendTo_00aa9_13 : decode cJx4497a_appendTo_00aa9 13 = .ok (.areturn, 1) := by decide +kernel
theorem dJx4497a_appendDecimalTo_00aa9_0 : decode cJx4497a_appendDecimalTo_00aa9 0 = .ok (.aload_n 0, 1) := by decide +kernel
theorem dJx4497a_appendDecimalTo_00aa9_1 : decode cJx4497a_appendDecimalTo_00aa9 1 = .ok (.dload_n 1, 1) := by decide +kernel
theorem dJx4497a_appendDecimalTo_00aa9_2 : decode cJx4497a_appendDecimalTo_00aa9 2 = .ok (.aconst_null, 1) := by decide +kernel
theorem dJx4497a_appendDecimalTo_00aa9_3 : decode cJx4497a_appendDecimalTo_00aa9 3 = .ok (.invokevirtual 22, 3) := by decide +kernel
theorem dJx4497a_appendDecimalTo_00aa9_6 : decode cJx4497a_appendDecimalTo_00aa9 6 = .ok (.tableswitch 195 0 4 #[34, 159, 168, 177, 186], 34) := by decide +kernel
theorem dJx4497a_appendDecimalTo_00aa9_40 : decode cJx4497a_appendDecimalTo_00aa9 40 = .ok (.aload_n 0, 1) := by decide +kernel
theorem dJx4497a_appendDecimalTo_00aa9_41 : decode cJx4497a_appendDecimalTo_00aa9 41 = .ok (.getfield 44, 3) := by decide +kernel
theorem dJx4497a_appendDecimalTo_00aa9_44 : decode cJx4497a_appendDecimalTo_00aa9 44 = .ok (.iconst 1, 1) := by decide +kernel
theorem dJx4497a_appendDecimalTo_00aa9_45 : decode cJx4497a_appendDecimalTo_00aa9 45 = .ok (.iadd, 1) := by decide +kernel
theorem dJx4497a_appendDecimalTo_00aa9_46 : decode cJx4497a_appendDecimalTo_00aa9 46 = .ok (.newarray .char, 2) := by decide +kernel
theorem dJx4497a_appendDecimalTo_00aa9_48 : decode cJx4497a_appendDecimalTo_00aa9 48 = .ok (.astore 4, 2) := by decide +kernel
theorem dJx4497a_appendDecimalTo_00aa9_50 : decode cJx4497a_appendDecimalTo_00aa9 50 = .ok (.iconst 0, 1) := by decide +kernel
theorem dJx4497a_appendDecimalTo_00aa9_51 : decode cJx4497a_appendDecimalTo_00aa9 51 = .ok (.istore 5, 2) := by decide +kernel
theorem dJx4497a_appendDecimalTo_00aa9_53 : decode cJx4497a_appendDecimalTo_00aa9 53 = .ok (.iload 5, 2) := by decide +kernel
theorem dJx4497a_appendDecimalTo_00aa9_55 : decode cJx4497a_appendDecimalTo_00aa9 55 = .ok (.aload 4, 2) := by decide +kernel
theorem dJx4497a_appendDecimalTo_00aa9_57 : decode cJx4497a_appendDecimalTo_00aa9 57 = .ok (.arraylength, 1) := by decide +kernel
theorem dJx4497a_appendDecimalTo_00aa9_58 : decode cJx4497a_appendDecimalTo_00aa9 58 = .ok (.if_icmp .ge 22, 3) := by decide +kernel
theorem dJx4497a_appendDecimalTo_00aa9_61 : decode cJx4497a_appendDecimalTo_00aa9 61 = .ok (.aload 4, 2) := by decide +kernel
theorem dJx4497a_appendDecimalTo_00aa9_63 : decode cJx4497a_appendDecimalTo_00aa9 63 = .ok (.iload 5, 2) := by decide +kernel
theorem dJx4497a_appendDecimalTo_00aa9_65 : decode cJx4497a_appendDecimalTo_00aa9 65 = .ok (.aload_n 0, 1) := by decide +kernel
theorem dJx4497a_appendDecimalTo_00aa9_66 : decode cJx4497a_appendDecimalTo_00aa9 66 = .ok (.getfield 11, 3) := by decide +kernel
theorem dJx4497a_appendDecimalTo_00aa9_69 : decode cJx4497a_appendDecimalTo_00aa9 69 = .ok (.iload 5, 2) := by decide +kernel
theorem dJx4497a_appendDecimalTo_00aa9_71 : decode cJx4497a_appendDecimalTo_00aa9 71 = .ok (.baload, 1) := by decide +kernel
theorem dJx4497a_appendDecimalTo_00aa9_72 : decode cJx4497a_appendDecimalTo_00aa9 72 = .ok (.i2c, 1) := by decide +kernel
theorem dJx4497a_appendDecimalTo_00aa9_73 : decode cJx4497a_appendDecimalTo_00aa9 73 = .ok (.castore, 1) := by decide +kernel
theorem dJx4497a_appendDecimalTo_00aa9_74 : decode cJx4497a_appendDecimalTo_00aa9 74 = .ok (.iinc 5 1, 3) := by decide +kernel
theorem dJx4497a_appendDecimalTo_00aa9_77 : decode cJx4497a_appendDecimalTo_00aa9 77 = .ok (.goto (-24), 3) := by decide +kernel
theorem dJx4497a_appendDecimalTo_00aa9_80 : decode cJx4497a_appendDecimalTo_00aa9 80 = .ok (.aload_n 3, 1) := by decide +kernel
theorem dJx4497a_appendDecimalTo_00aa9_81 : decode cJx4497a_appendDecimalTo_00aa9 81 = .ok (.instanceof 48, 3) := by decide +kernel
theorem dJx4497a_appendDecimalTo_00aa9_84 : decode cJx4497a_appendDecimalTo_00aa9 84 = .ok (.ifCond .eq 17, 3) := by decide +kernel
theorem dJx4497a_appendDecimalTo_00aa9_87 : decode cJx4497a_appendDecimalTo_00aa9 87 = .ok (.aload_n 3, 1) := by decide +kernel
theorem dJx4497a_appendDecimalTo_00aa9_88 : decode cJx4497a_appendDecimalTo_00aa9 88 = .ok (.checkcast 48, 3) := by decide +kernel
theorem dJx4497a_appendDecimalTo_00aa9_91 : decode cJx4497a_appendDecimalTo_00aa9 91 = .ok (.astore 5, 2) := by decide +kernel
theorem dJx4497a_appendDecimalTo_00aa9_93 : decode cJx4497a_appendDecimalTo_00aa9 93 = .ok (.aload 5, 2) := by decide +kernel
theorem dJx4497a_appendDecimalTo_00aa9_95 : decode cJx4497a_appendDecimalTo_00aa9 95 = .ok (.aload 4, 2) := by decide +kernel
theorem dJx4497a_appendDecimalTo_00aa9_97 : decode cJx4497a_appendDecimalTo_00aa9 97 = .ok (.invokevirtual 50, 3) := by decide +kernel
theorem dJx4497a_appendDecimalTo_00aa9_100 : decode cJx4497a_appendDecimalTo_00aa9 100 = .ok (.areturn, 1) := by decide +kernel
theorem dJx4497a_appendDecimalTo_00aa9_101 : decode cJx4497a_appendDecimalTo_00aa9 101 = .ok (.aload_n 3, 1) := by decide +kernel
theorem dJx4497a_appendDecimalTo_00aa9_102 : decode cJx4497a_appendDecimalTo_00aa9 102 = .ok (.instanceof 54, 3) := by decide +kernel
theorem dJx4497a_appendDecimalTo_00aa9_105 : decode cJx4497a_appendDecimalTo_00aa9 105 = .ok (.ifCond .eq 17, 3) := by decide +kernel
theorem dJx4497a_appendDecimalTo_00aa9_108 : decode cJx4497a_appendDecimalTo_00aa9 108 = .ok (.aload_n 3, 1) := by decide +kernel
theorem dJx4497a_appendDecimalTo_00aa9_109 : decode cJx4497a_appendDecimalTo_00aa9 109 = .ok (.checkcast 54, 3) := by decide +kernel
theorem dJx4497a_appendDecimalTo_00aa9_112 : decode cJx4497a_appendDecimalTo_00aa9 112 = .ok (.astore 5, 2) := by decide +kernel
theorem dJx4497a_appendDecimalTo_00aa9_114 : decode cJx4497a_appendDecimalTo_00aa9 114 = .ok (.aload 5, 2) := by decide +kernel
theorem dJx4497a_appendDecimalTo_00aa9_116 : decode cJx4497a_appendDecimalTo_00aa9 116 = .ok (.aload 4, 2) := by decide +kernel
theorem dJx4497a_appendDecimalTo_00aa9_118 : decode cJx4497a_appendDecimalTo_00aa9 118 = .ok (.invokevirtual 56, 3) := by decide +kernel
theorem dJx4497a_appendDecimalTo_00aa9_121 : decode cJx4497a_appendDecimalTo_00aa9 121 = .ok (.areturn, 1) := by decide +kernel
theorem dJx4497a_appendDecimalTo_00aa9_122 : decode cJx4497a_appendDecimalTo_00aa9 122 = .ok (.aload 4, 2) := by decide +kernel
theorem dJx4497a_appendDecimalTo_00aa9_124 : decode cJx4497a_appendDecimalTo_00aa9 124 = .ok (.astore 5, 2) := by decide +kernel
theorem dJx4497a_appendDecimalTo_00aa9_126 : decode cJx4497a_appendDecimalTo_00aa9 126 = .ok (.aload 5, 2) := by decide +kernel
theorem dJx4497a_appendDecimalTo_00aa9_128 : decode cJx4497a_appendDecimalTo_00aa9 128 = .ok (.arraylength, 1) := by decide +kernel
theorem dJx4497a_appendDecimalTo_00aa9_129 : decode cJx4497a_appendDecimalTo_00aa9 129 = .ok (.istore 6, 2) := by decide +kernel
theorem dJx4497a_appendDecimalTo_00aa9_131 : decode cJx4497a_appendDecimalTo_00aa9 131 = .ok (.iconst 0, 1) := by decide +kernel
theorem dJx4497a_appendDecimalTo_00aa9_132 : decode cJx4497a_appendDecimalTo_00aa9 132 = .ok (.istore 7, 2) := by decide +kernel
theorem dJx4497a_appendDecimalTo_00aa9_134 : decode cJx4497a_appendDecimalTo_00aa9 134 = .ok (.iload 7, 2) := by decide +kernel
theorem dJx4497a_appendDecimalTo_00aa9_136 : decode cJx4497a_appendDecimalTo_00aa9 136 = .ok (.iload 6, 2) := by decide +kernel
theorem dJx4497a_appendDecimalTo_00aa9_138 : decode cJx4497a_appendDecimalTo_00aa9 138 = .ok (.if_icmp .ge 25, 3) := by decide +kernel
theorem dJx4497a_appendDecimalTo_00aa9_141 : decode cJx4497a_appendDecimalTo_00aa9 141 = .ok (.aload 5, 2) := by decide +kernel
theorem dJx4497a_appendDecimalTo_00aa9_143 : decode cJx4497a_appendDecimalTo_00aa9 143 = .ok (.iload 7, 2) := by decide +kernel
theorem dJx4497a_appendDecimalTo_00aa9_145 : decode cJx4497a_appendDecimalTo_00aa9 145 = .ok (.caload, 1) := by decide +kernel
theorem dJx4497a_appendDecimalTo_00aa9_146 : decode cJx4497a_appendDecimalTo_00aa9 146 = .ok (.istore 8, 2) := by decide +kernel
theorem dJx4497a_appendDecimalTo_00aa9_148 : decode cJx4497a_appendDecimalTo_00aa9 148 = .ok (.aload_n 3, 1) := by decide +kernel
theorem dJx4497a_appendDecimalTo_00aa9_149 : decode cJx4497a_appendDecimalTo_00aa9 149 = .ok (.iload 8, 2) := by decide +kernel
theorem dJx4497a_appendDecimalTo_00aa9_151 : decode cJx4497a_appendDecimalTo_00aa9 151 = .ok (.invokeinterface 59 2, 5) := by decide +kernel
theorem dJx4497a_appendDecimalTo_00aa9_156 : decode cJx4497a_appendDecimalTo_00aa9 156 = .ok (.pop, 1) := by decide +kernel
theorem dJx4497a_appendDecimalTo_00aa9_157 : decode cJx4497a_appendDecimalTo_00aa9 157 = .ok (.iinc 7 1, 3) := by decide +kernel
theorem dJx4497a_appendDecimalTo_00aa9_160 : decode cJx4497a_appendDecimalTo_00aa9 160 = .ok (.goto (-26), 3) := by decide +kernel
theorem dJx4497a_appendDecimalTo_00aa9_163 : decode cJx4497a_appendDecimalTo_00aa9 163 = .ok (.aload_n 3, 1) := by decide +kernel
theorem dJx4497a_appendDecimalTo_00aa9_164 : decode cJx4497a_appendDecimalTo_00aa9 164 = .ok (.areturn, 1) := by decide +kernel
theorem dJx4497a_appendDecimalTo_00aa9_165 : decode cJx4497a_appendDecimalTo_00aa9 165 = .ok (.aload_n 3, 1) := by decide +kernel
theorem dJx4497a_appendDecimalTo_00aa9_166 : decode cJx4497a_appendDecimalTo_00aa9 166 = .ok (.ldc 34, 2) := by decide +kernel
theorem dJx4497a_appendDecimalTo_00aa9_168 : decode cJx4497a_appendDecimalTo_00aa9 168 = .ok (.invokeinterface 64 2, 5) := by decide +kernel
theorem dJx4497a_appendDecimalTo_00aa9_173 : decode cJx4497a_appendDecimalTo_00aa9 173 = .ok (.areturn, 1) := by decide +kernel
theorem dJx4497a_appendDecimalTo_00aa9_174 : decode cJx4497a_appendDecimalTo_00aa9 174 = .ok (.aload_n 3, 1) := by decide +kernel
theorem dJx4497a_appendDecimalTo_00aa9_175 : decode cJx4497a_appendDecimalTo_00aa9 175 = .ok (.ldc 36, 2) := by decide +kernel
theorem dJx4497a_appendDecimalTo_00aa9_177 : decode cJx4497a_appendDecimalTo_00aa9 177 = .ok (.invokeinterface 64 2, 5) := by decide +kernel
theorem dJx4497a_appendDecimalTo_00aa9_182 : decode cJx4497a_appendDecimalTo_00aa9 182 = .ok (.areturn, 1) := by decide +kernel
theorem dJx4497a_appendDecimalTo_00aa9_183 : decode cJx4497a_appendDecimalTo_00aa9 183 = .ok (.aload_n 3, 1) := by decide +kernel
theorem dJx4497a_appendDecimalTo_00aa9_184 : decode cJx4497a_appendDecimalTo_00aa9 184 = .ok (.ldc 38, 2) := by decide +kernel
theorem dJx4497a_appendDecimalTo_00aa9_186 : decode cJx4497a_appendDecimalTo_00aa9 186 = .ok (.invokeinterface 64 2, 5) := by decide +kernel
theorem dJx4497a_appendDecimalTo_00aa9_191 : decode cJx4497a_appendDecimalTo_00aa9 191 = .ok (.areturn, 1) := by decide +kernel
theorem dJx4497a_appendDecimalTo_00aa9_192 : decode cJx4497a_appendDecimalTo_00aa9 192 = .ok (.aload_n 3, 1) := by decide +kernel
theorem dJx4497a_appendDecimalTo_00aa9_193 : decode cJx4497a_appendDecimalTo_00aa9 193 = .ok (.ldc 40, 2) := by decide +kernel
theorem dJx4497a_appendDecimalTo_00aa9_195 : decode cJx4497a_appendDecimalTo_00aa9 195 = .ok (.invokeinterface 64 2, 5) := by decide +kernel
theorem dJx4497a_appendDecimalTo_00aa9_200 : decode cJx4497a_appendDecimalTo_00aa9 200 = .ok (.areturn, 1) := by decide +kernel
theorem dJx4497a_appendDecimalTo_00aa9_201 : decode cJx4497a_appendDecimalTo_00aa9 201 = .ok (.aload_n 3, 1) := by decide +kernel
theorem dJx4497a_appendDecimalTo_00aa9_202 : decode cJx4497a_appendDecimalTo_00aa9 202 = .ok (.ldc 42, 2) := by decide +kernel
theorem dJx4497a_appendDecimalTo_00aa9_204 : decode cJx4497a_appendDecimalTo_00aa9 204 = .ok (.invokeinterface 64 2, 5) := by decide +kernel
theorem dJx4497a_appendDecimalTo_00aa9_209 : decode cJx4497a_appendDecimalTo_00aa9 209 = .ok (.areturn, 1) := by decide +kernel
theorem dJx4497a_toDecimal_a02bb_0 : decode cJx4497a_toDecimal_a02bb 0 = .ok (.dload_n 1, 1) := by decide +kernel
theorem dJx4497a_toDecimal_a02bb_1 : decode cJx4497a_toDecimal_a02bb 1 = .ok (.invokestatic 67, 3) := by decide +kernel
theorem dJx4497a_toDecimal_a02bb_4 : decode cJx4497a_toDecimal_a02bb 4 = .ok (.lstore 4, 2) := by decide +kernel
theorem dJx4497a_toDecimal_a02bb_6 : decode cJx4497a_toDecimal_a02bb 6 = .ok (.lload 4, 2) := by decide +kernel
theorem dJx4497a_toDecimal_a02bb_8 : decode cJx4497a_toDecimal_a02bb 8 = .ok (.ldc2_w 71, 3) := by decide +kernel
theorem dJx4497a_toDecimal_a02bb_11 : decode cJx4497a_toDecimal_a02bb 11 = .ok (.land, 1) := by decide +kernel
theorem dJx4497a_toDecimal_a02bb_12 : decode cJx4497a_toDecimal_a02bb 12 = .ok (.lstore 6, 2) := by decide +kernel
theorem dJx4497a_toDecimal_a02bb_14 : decode cJx4497a_toDecimal_a02bb 14 = .ok (.lload 4, 2) := by decide +kernel
theorem dJx4497a_toDecimal_a02bb_16 : decode cJx4497a_toDecimal_a02bb 16 = .ok (.bipush 52, 2) := by decide +kernel
theorem dJx4497a_toDecimal_a02bb_18 : decode cJx4497a_toDecimal_a02bb 18 = .ok (.lushr, 1) := by decide +kernel
theorem dJx4497a_toDecimal_a02bb_19 : decode cJx4497a_toDecimal_a02bb 19 = .ok (.l2i, 1) := by decide +kernel
theorem dJx4497a_toDecimal_a02bb_20 : decode cJx4497a_toDecimal_a02bb 20 = .ok (.sipush 2047, 3) := by decide +kernel
theorem dJx4497a_toDecimal_a02bb_23 : decode cJx4497a_toDecimal_a02bb 23 = .ok (.iand, 1) := by decide +kernel
theorem dJx4497a_toDecimal_a02bb_24 : decode cJx4497a_toDecimal_a02bb 24 = .ok (.istore 8, 2) := by decide +kernel
theorem dJx4497a_toDecimal_a02bb_26 : decode cJx4497a_toDecimal_a02bb 26 = .ok (.iload 8, 2) := by decide +kernel
theorem dJx4497a_toDecimal_a02bb_28 : decode cJx4497a_toDecimal_a02bb 28 = .ok (.sipush 2047, 3) := by decide +kernel
theorem dJx4497a_toDecimal_a02bb_31 : decode cJx4497a_toDecimal_a02bb 31 = .ok (.if_icmp .ge 167, 3) := by decide +kernel
theorem dJx4497a_toDecimal_a02bb_34 : decode cJx4497a_toDecimal_a02bb 34 = .ok (.aload_n 0, 1) := by decide +kernel
theorem dJx4497a_toDecimal_a02bb_35 : decode cJx4497a_toDecimal_a02bb 35 = .ok (.iconst (-1), 1) := by decide +kernel
theorem dJx4497a_toDecimal_a02bb_36 : decode cJx4497a_toDecimal_a02bb 36 = .ok (.putfield 44, 3) := by decide +kernel
theorem dJx4497a_toDecimal_a02bb_39 : decode cJx4497a_toDecimal_a02bb 39 = .ok (.lload 4, 2) := by decide +kernel
theorem dJx4497a_toDecimal_a02bb_41 : decode cJx4497a_toDecimal_a02bb 41 = .ok (.lconst 0, 1) := by decide +kernel
theorem dJx4497a_toDecimal_a02bb_42 : decode cJx4497a_toDecimal_a02bb 42 = .ok (.lcmp, 1) := by decide +kernel
theorem dJx4497a_toDecimal_a02bb_43 : decode cJx4497a_toDecimal_a02bb 43 = .ok (.ifCond .ge 9, 3) := by decide +kernel
theorem dJx4497a_toDecimal_a02bb_46 : decode cJx4497a_toDecimal_a02bb 46 = .ok (.aload_n 0, 1) := by decide +kernel
theorem dJx4497a_toDecimal_a02bb_47 : decode cJx4497a_toDecimal_a02bb 47 = .ok (.bipush 45, 2) := by decide +kernel
theorem dJx4497a_toDecimal_a02bb_49 : decode cJx4497a_toDecimal_a02bb 49 = .ok (.invokevirtual 73, 3) := by decide +kernel
theorem dJx4497a_toDecimal_a02bb_52 : decode cJx4497a_toDecimal_a02bb 52 = .ok (.iload 8, 2) := by decide +kernel
theorem dJx4497a_toDecimal_a02bb_54 : decode cJx4497a_toDecimal_a02bb 54 = .ok (.ifCond .eq 85, 3) := by decide +kernel
theorem dJx4497a_toDecimal_a02bb_57 : decode cJx4497a_toDecimal_a02bb 57 = .ok (.sipush 1075, 3) := by decide +kernel
theorem dJx4497a_toDecimal_a02bb_60 : decode cJx4497a_toDecimal_a02bb 60 = .ok (.iload 8, 2) := by decide +kernel
theorem dJx4497a_toDecimal_a02bb_62 : decode cJx4497a_toDecimal_a02bb 62 = .ok (.isub, 1) := by decide +kernel
theorem dJx4497a_toDecimal_a02bb_63 : decode cJx4497a_toDecimal_a02bb 63 = .ok (.istore 9, 2) := by decide +kernel
theorem dJx4497a_toDecimal_a02bb_65 : decode cJx4497a_toDecimal_a02bb 65 = .ok (.ldc2_w 76, 3) := by decide +kernel
theorem dJx4497a_toDecimal_a02bb_68 : decode cJx4497a_toDecimal_a02bb 68 = .ok (.lload 6, 2) := by decide +kernel
theorem dJx4497a_toDecimal_a02bb_70 : decode cJx4497a_toDecimal_a02bb 70 = .ok (.lor, 1) := by decide +kernel
theorem dJx4497a_toDecimal_a02bb_71 : decode cJx4497a_toDecimal_a02bb 71 = .ok (.lstore 10, 2) := by decide +kernel
theorem dJx4497a_toDecimal_a02bb_73 : decode cJx4497a_toDecimal_a02bb 73 = .ok (.iconst 0, 1) := by decide +kernel
theorem dJx4497a_toDecimal_a02bb_74 : decode cJx4497a_toDecimal_a02bb 74 = .ok (.iload 9, 2) := by decide +kernel
theorem dJx4497a_toDecimal_a02bb_76 : decode cJx4497a_toDecimal_a02bb 76 = .ok (.if_icmp .ge 7, 3) := by decide +kernel
theorem dJx4497a_toDecimal_a02bb_79 : decode cJx4497a_toDecimal_a02bb 79 = .ok (.iconst 1, 1) := by decide +kernel
theorem dJx4497a_toDecimal_a02bb_80 : decode cJx4497a_toDecimal_a02bb 80 = .ok (.goto 4, 3) := by decide +kernel
theorem dJx4497a_toDecimal_a02bb_83 : decode cJx4497a_toDecimal_a02bb 83 = .ok (.iconst 0, 1) := by decide +kernel
theorem dJx4497a_toDecimal_a02bb_84 : decode cJx4497a_toDecimal_a02bb 84 = .ok (.iload 9, 2) := by decide +kernel
theorem dJx4497a_toDecimal_a02bb_86 : decode cJx4497a_toDecimal_a02bb 86 = .ok (.bipush 53, 2) := by decide +kernel
theorem dJx4497a_toDecimal_a02bb_88 : decode cJx4497a_toDecimal_a02bb 88 = .ok (.if_icmp .ge 7, 3) := by decide +kernel
theorem dJx4497a_toDecimal_a02bb_91 : decode cJx4497a_toDecimal_a02bb 91 = .ok (.iconst 1, 1) := by decide +kernel
theorem dJx4497a_toDecimal_a02bb_92 : decode cJx4497a_toDecimal_a02bb 92 = .ok (.goto 4, 3) := by decide +kernel
theorem dJx4497a_toDecimal_a02bb_95 : decode cJx4497a_toDecimal_a02bb 95 = .ok (.iconst 0, 1) := by decide +kernel
theorem dJx4497a_toDecimal_a02bb_96 : decode cJx4497a_toDecimal_a02bb 96 = .ok (.iand, 1) := by decide +kernel
theorem dJx4497a_toDecimal_a02bb_97 : decode cJx4497a_toDecimal_a02bb 97 = .ok (.ifCond .eq 30, 3) := by decide +kernel
theorem dJx4497a_toDecimal_a02bb_100 : decode cJx4497a_toDecimal_a02bb 100 = .ok (.lload 10, 2) := by decide +kernel
theorem dJx4497a_toDecimal_a02bb_102 : decode cJx4497a_toDecimal_a02bb 102 = .ok (.iload 9, 2) := by decide +kernel
theorem dJx4497a_toDecimal_a02bb_104 : decode cJx4497a_toDecimal_a02bb 104 = .ok (.lshr, 1) := by decide +kernel
theorem dJx4497a_toDecimal_a02bb_105 : decode cJx4497a_toDecimal_a02bb 105 = .ok (.lstore 12, 2) := by decide +kernel
theorem dJx4497a_toDecimal_a02bb_107 : decode cJx4497a_toDecimal_a02bb 107 = .ok (.lload 12, 2) := by decide +kernel
theorem dJx4497a_toDecimal_a02bb_109 : decode cJx4497a_toDecimal_a02bb 109 = .ok (.iload 9, 2) := by decide +kernel
theorem dJx4497a_toDecimal_a02bb_111 : decode cJx4497a_toDecimal_a02bb 111 = .ok (.lshl, 1) := by decide +kernel
theorem dJx4497a_toDecimal_a02bb_112 : decode cJx4497a_toDecimal_a02bb 112 = .ok (.lload 10, 2) := by decide +kernel
theorem dJx4497a_toDecimal_a02bb_114 : decode cJx4497a_toDecimal_a02bb 114 = .ok (.lcmp, 1) := by decide +kernel
theorem dJx4497a_toDecimal_a02bb_115 : decode cJx4497a_toDecimal_a02bb 115 = .ok (.ifCond .ne 12, 3) := by decide +kernel
theorem dJx4497a_toDecimal_a02bb_118 : decode cJx4497a_toDecimal_a02bb 118 = .ok (.aload_n 0, 1) := by decide +kernel
theorem dJx4497a_toDecimal_a02bb_119 : decode cJx4497a_toDecimal_a02bb 119 = .ok (.lload 12, 2) := by decide +kernel
theorem dJx4497a_toDecimal_a02bb_121 : decode cJx4497a_toDecimal_a02bb 121 = .ok (.iconst 0, 1) := by decide +kernel
theorem dJx4497a_toDecimal_a02bb_122 : decode cJx4497a_toDecimal_a02bb 122 = .ok (.aload_n 3, 1) := by decide +kernel
theorem dJx4497a_toDecimal_a02bb_123 : decode cJx4497a_toDecimal_a02bb 123 = .ok (.invokevirtual 78, 3) := by decide +kernel
theorem dJx4497a_toDecimal_a02bb_126 : decode cJx4497a_toDecimal_a02bb 126 = .ok (.ireturn, 1) := by decide +kernel
theorem dJx4497a_toDecimal_a02bb_127 : decode cJx4497a_toDecimal_a02bb 127 = .ok (.aload_n 0, 1) := by decide +kernel
theorem dJx4497a_toDecimal_a02bb_128 : decode cJx4497a_toDecimal_a02bb 128 = .ok (.iload 9, 2) := by decide +kernel
theorem dJx4497a_toDecimal_a02bb_130 : decode cJx4497a_toDecimal_a02bb 130 = .ok (.ineg, 1) := by decide +kernel
theorem dJx4497a_toDecimal_a02bb_131 : decode cJx4497a_toDecimal_a02bb 131 = .ok (.lload 10, 2) := by decide +kernel
theorem dJx4497a_toDecimal_a02bb_133 : decode cJx4497a_toDecimal_a02bb 133 = .ok (.iconst 0, 1) := by decide +kernel
theorem dJx4497a_toDecimal_a02bb_134 : decode cJx4497a_toDecimal_a02bb 134 = .ok (.aload_n 3, 1) := by decide +kernel
theorem dJx4497a_toDecimal_a02bb_135 : decode cJx4497a_toDecimal_a02bb 135 = .ok (.invokevirtual 82, 3) := by decide +kernel
theorem dJx4497a_toDecimal_a02bb_138 : decode cJx4497a_toDecimal_a02bb 138 = .ok (.ireturn, 1) := by decide +kernel
theorem dJx4497a_toDecimal_a02bb_139 : decode cJx4497a_toDecimal_a02bb 139 = .ok (.lload 6, 2) := by decide +kernel
theorem dJx4497a_toDecimal_a02bb_141 : decode cJx4497a_toDecimal_a02bb 141 = .ok (.lconst 0, 1) := by decide +kernel
theorem dJx4497a_toDecimal_a02bb_142 : decode cJx4497a_toDecimal_a02bb 142 = .ok (.lcmp, 1) := by decide +kernel
theorem dJx4497a_toDecimal_a02bb_143 : decode cJx4497a_toDecimal_a02bb 143 = .ok (.ifCond .eq 42, 3) := by decide +kernel
theorem dJx4497a_toDecimal_a02bb_146 : decode cJx4497a_toDecimal_a02bb 146 = .ok (.lload 6, 2) := by decide +kernel
theorem dJx4497a_toDecimal_a02bb_148 : decode cJx4497a_toDecimal_a02bb 148 = .ok (.ldc2_w 85, 3) := by decide +kernel
theorem dJx4497a_toDecimal_a02bb_151 : decode cJx4497a_toDecimal_a02bb 151 = .ok (.lcmp, 1) := by decide +kernel
theorem dJx4497a_toDecimal_a02bb_152 : decode cJx4497a_toDecimal_a02bb 152 = .ok (.ifCond .ge 21, 3) := by decide +kernel
theorem dJx4497a_toDecimal_a02bb_155 : decode cJx4497a_toDecimal_a02bb 155 = .ok (.aload_n 0, 1) := by decide +kernel
theorem dJx4497a_toDecimal_a02bb_156 : decode cJx4497a_toDecimal_a02bb 156 = .ok (.sipush (-1074), 3) := by decide +kernel
theorem dJx4497a_toDecimal_a02bb_159 : decode cJx4497a_toDecimal_a02bb 159 = .ok (.ldc2_w 87, 3) := by decide +kernel
theorem dJx4497a_toDecimal_a02bb_162 : decode cJx4497a_toDecimal_a02bb 162 = .ok (.lload 6, 2) := by decide +kernel
theorem dJx4497a_toDecimal_a02bb_164 : decode cJx4497a_toDecimal_a02bb 164 = .ok (.lmul, 1) := by decide +kernel
theorem dJx4497a_toDecimal_a02bb_165 : decode cJx4497a_toDecimal_a02bb 165 = .ok (.iconst (-1), 1) := by decide +kernel
theorem dJx4497a_toDecimal_a02bb_166 : decode cJx4497a_toDecimal_a02bb 166 = .ok (.aload_n 3, 1) := by decide +kernel
theorem dJx4497a_toDecimal_a02bb_167 : decode cJx4497a_toDecimal_a02bb 167 = .ok (.invokevirtual 82, 3) := by decide +kernel
theorem dJx4497a_toDecimal_a02bb_170 : decode cJx4497a_toDecimal_a02bb 170 = .ok (.goto 14, 3) := by decide +kernel
theorem dJx4497a_toDecimal_a02bb_173 : decode cJx4497a_toDecimal_a02bb 173 = .ok (.aload_n 0, 1) := by decide +kernel
theorem dJx4497a_toDecimal_a02bb_174 : decode cJx4497a_toDecimal_a02bb 174 = .ok (.sipush (-1074), 3) := by decide +kernel
theorem dJx4497a_toDecimal_a02bb_177 : decode cJx4497a_toDecimal_a02bb 177 = .ok (.lload 6, 2) := by decide +kernel
theorem dJx4497a_toDecimal_a02bb_179 : decode cJx4497a_toDecimal_a02bb 179 = .ok (.iconst 0, 1) := by decide +kernel
theorem dJx4497a_toDecimal_a02bb_180 : decode cJx4497a_toDecimal_a02bb 180 = .ok (.aload_n 3, 1) := by decide +kernel
theorem dJx4497a_toDecimal_a02bb_181 : decode cJx4497a_toDecimal_a02bb 181 = .ok (.invokevirtual 82, 3) := by decide +kernel
theorem dJx4497a_toDecimal_a02bb_184 : decode cJx4497a_toDecimal_a02bb 184 = .ok (.ireturn, 1) := by decide +kernel
theorem dJx4497a_toDecimal_a02bb_185 : decode cJx4497a_toDecimal_a02bb 185 = .ok (.lload 4, 2) := by decide +kernel
theorem dJx4497a_toDecimal_a02bb_187 : decode cJx4497a_toDecimal_a02bb 187 = .ok (.lconst 0, 1) := by decide +kernel
theorem dJx4497a_toDecimal_a02bb_188 : decode cJx4497a_toDecimal_a02bb 188 = .ok (.lcmp, 1) := by decide +kernel
theorem dJx4497a_toDecimal_a02bb_189 : decode cJx4497a_toDecimal_a02bb 189 = .ok (.ifCond .ne 7, 3) := by decide +kernel
theorem dJx4497a_toDecimal_a02bb_192 : decode cJx4497a_toDecimal_a02bb 192 = .ok (.iconst 1, 1) := by decide +kernel
theorem dJx4497a_toDecimal_a02bb_193 : decode cJx4497a_toDecimal_a02bb 193 = .ok (.goto 4, 3) := by decide +kernel
theorem dJx4497a_toDecimal_a02bb_196 : decode cJx4497a_toDecimal_a02bb 196 = .ok (.iconst 2, 1) := by decide +kernel
theorem dJx4497a_toDecimal_a02bb_197 : decode cJx4497a_toDecimal_a02bb 197 = .ok (.ireturn, 1) := by decide +kernel
theorem dJx4497a_toDecimal_a02bb_198 : decode cJx4497a_toDecimal_a02bb 198 = .ok (.lload 6, 2) := by decide +kernel
theorem dJx4497a_toDecimal_a02bb_200 : decode cJx4497a_toDecimal_a02bb 200 = .ok (.lconst 0, 1) := by decide +kernel
theorem dJx4497a_toDecimal_a02bb_201 : decode cJx4497a_toDecimal_a02bb 201 = .ok (.lcmp, 1) := by decide +kernel
theorem dJx4497a_toDecimal_a02bb_202 : decode cJx4497a_toDecimal_a02bb 202 = .ok (.ifCond .eq 5, 3) := by decide +kernel
theorem dJx4497a_toDecimal_a02bb_205 : decode cJx4497a_toDecimal_a02bb 205 = .ok (.iconst 5, 1) := by decide +kernel
theorem dJx4497a_toDecimal_a02bb_206 : decode cJx4497a_toDecimal_a02bb 206 = .ok (.ireturn, 1) := by decide +kernel
theorem dJx4497a_toDecimal_a02bb_207 : decode cJx4497a_toDecimal_a02bb 207 = .ok (.lload 4, 2) := by decide +kernel
theorem dJx4497a_toDecimal_a02bb_209 : decode cJx4497a_toDecimal_a02bb 209 = .ok (.lconst 0, 1) := by decide +kernel
theorem dJx4497a_toDecimal_a02bb_210 : decode cJx4497a_toDecimal_a02bb 210 = .ok (.lcmp, 1) := by decide +kernel
theorem dJx4497a_toDecimal_a02bb_211 : decode cJx4497a_toDecimal_a02bb 211 = .ok (.ifCond .le 7, 3) := by decide +kernel
theorem dJx4497a_toDecimal_a02bb_214 : decode cJx4497a_toDecimal_a02bb 214 = .ok (.iconst 3, 1) := by decide +kernel
theorem dJx4497a_toDecimal_a02bb_215 : decode cJx4497a_toDecimal_a02bb 215 = .ok (.goto 4, 3) := by decide +kernel
theorem dJx4497a_toDecimal_a02bb_218 : decode cJx4497a_toDecimal_a02bb 218 = .ok (.iconst 4, 1) := by decide +kernel
theorem dJx4497a_toDecimal_a02bb_219 : decode cJx4497a_toDecimal_a02bb 219 = .ok (.ireturn, 1) := by decide +kernel
theorem dJx4497a_toDecimal_3416a_0 : decode cJx4497a_toDecimal_3416a 0 = .ok (.lload_n 2, 1) := by decide +kernel
theorem dJx4497a_toDecimal_3416a_1 : decode cJx4497a_toDecimal_3416a 1 = .ok (.l2i, 1) := by decide +kernel
theorem dJx4497a_toDecimal_3416a_2 : decode cJx4497a_toDecimal_3416a 2 = .ok (.iconst 1, 1) := by decide +kernel
theorem dJx4497a_toDecimal_3416a_3 : decode cJx4497a_toDecimal_3416a 3 = .ok (.iand, 1) := by decide +kernel
theorem dJx4497a_toDecimal_3416a_4 : decode cJx4497a_toDecimal_3416a 4 = .ok (.istore 6, 2) := by decide +kernel
theorem dJx4497a_toDecimal_3416a_6 : decode cJx4497a_toDecimal_3416a 6 = .ok (.lload_n 2, 1) := by decide +kernel
theorem dJx4497a_toDecimal_3416a_7 : decode cJx4497a_toDecimal_3416a 7 = .ok (.iconst 2, 1) := by decide +kernel
theorem dJx4497a_toDecimal_3416a_8 : decode cJx4497a_toDecimal_3416a 8 = .ok (.lshl, 1) := by decide +kernel
theorem dJx4497a_toDecimal_3416a_9 : decode cJx4497a_toDecimal_3416a 9 = .ok (.lstore 7, 2) := by decide +kernel
theorem dJx4497a_toDecimal_3416a_11 : decode cJx4497a_toDecimal_3416a 11 = .ok (.lload 7, 2) := by decide +kernel
theorem dJx4497a_toDecimal_3416a_13 : decode cJx4497a_toDecimal_3416a 13 = .ok (.ldc2_w 89, 3) := by decide +kernel
theorem dJx4497a_toDecimal_3416a_16 : decode cJx4497a_toDecimal_3416a 16 = .ok (.ladd, 1) := by decide +kernel
theorem dJx4497a_toDecimal_3416a_17 : decode cJx4497a_toDecimal_3416a 17 = .ok (.lstore 9, 2) := by decide +kernel
theorem dJx4497a_toDecimal_3416a_19 : decode cJx4497a_toDecimal_3416a 19 = .ok (.lload_n 2, 1) := by decide +kernel
theorem dJx4497a_toDecimal_3416a_20 : decode cJx4497a_toDecimal_3416a 20 = .ok (.ldc2_w 76, 3) := by decide +kernel
theorem dJx4497a_toDecimal_3416a_23 : decode cJx4497a_toDecimal_3416a 23 = .ok (.lcmp, 1) := by decide +kernel
theorem dJx4497a_toDecimal_3416a_24 : decode cJx4497a_toDecimal_3416a 24 = .ok (.ifCond .eq 7, 3) := by decide +kernel
theorem dJx4497a_toDecimal_3416a_27 : decode cJx4497a_toDecimal_3416a 27 = .ok (.iconst 1, 1) := by decide +kernel
theorem dJx4497a_toDecimal_3416a_28 : decode cJx4497a_toDecimal_3416a 28 = .ok (.goto 4, 3) := by decide +kernel
theorem dJx4497a_toDecimal_3416a_31 : decode cJx4497a_toDecimal_3416a 31 = .ok (.iconst 0, 1) := by decide +kernel
theorem dJx4497a_toDecimal_3416a_32 : decode cJx4497a_toDecimal_3416a 32 = .ok (.iload_n 1, 1) := by decide +kernel
theorem dJx4497a_toDecimal_3416a_33 : decode cJx4497a_toDecimal_3416a 33 = .ok (.sipush (-1074), 3) := by decide +kernel
theorem dJx4497a_toDecimal_3416a_36 : decode cJx4497a_toDecimal_3416a 36 = .ok (.if_icmp .ne 7, 3) := by decide +kernel
theorem dJx4497a_toDecimal_3416a_39 : decode cJx4497a_toDecimal_3416a 39 = .ok (.iconst 1, 1) := by decide +kernel
theorem dJx4497a_toDecimal_3416a_40 : decode cJx4497a_toDecimal_3416a 40 = .ok (.goto 4, 3) := by decide +kernel
theorem dJx4497a_toDecimal_3416a_43 : decode cJx4497a_toDecimal_3416a 43 = .ok (.iconst 0, 1) := by decide +kernel
theorem dJx4497a_toDecimal_3416a_44 : decode cJx4497a_toDecimal_3416a 44 = .ok (.ior, 1) := by decide +kernel
theorem dJx4497a_toDecimal_3416a_45 : decode cJx4497a_toDecimal_3416a 45 = .ok (.ifCond .eq 20, 3) := by decide +kernel
theorem dJx4497a_toDecimal_3416a_48 : decode cJx4497a_toDecimal_3416a 48 = .ok (.lload 7, 2) := by decide +kernel
theorem dJx4497a_toDecimal_3416a_50 : decode cJx4497a_toDecimal_3416a 50 = .ok (.ldc2_w 89, 3) := by decide +kernel
theorem dJx4497a_toDecimal_3416a_53 : decode cJx4497a_toDecimal_3416a 53 = .ok (.lsub, 1) := by decide +kernel
theorem dJx4497a_toDecimal_3416a_54 : decode cJx4497a_toDecimal_3416a 54 = .ok (.lstore 11, 2) := by decide +kernel
theorem dJx4497a_toDecimal_3416a_56 : decode cJx4497a_toDecimal_3416a 56 = .ok (.iload_n 1, 1) := by decide +kernel
theorem dJx4497a_toDecimal_3416a_57 : decode cJx4497a_toDecimal_3416a 57 = .ok (.invokestatic 91, 3) := by decide +kernel
theorem dJx4497a_toDecimal_3416a_60 : decode cJx4497a_toDecimal_3416a 60 = .ok (.istore 13, 2) := by decide +kernel
theorem dJx4497a_toDecimal_3416a_62 : decode cJx4497a_toDecimal_3416a 62 = .ok (.goto 15, 3) := by decide +kernel
theorem dJx4497a_toDecimal_3416a_65 : decode cJx4497a_toDecimal_3416a 65 = .ok (.lload 7, 2) := by decide +kernel
theorem dJx4497a_toDecimal_3416a_67 : decode cJx4497a_toDecimal_3416a 67 = .ok (.lconst 1, 1) := by decide +kernel
theorem dJx4497a_toDecimal_3416a_68 : decode cJx4497a_toDecimal_3416a 68 = .ok (.lsub, 1) := by decide +kernel
theorem dJx4497a_toDecimal_3416a_69 : decode cJx4497a_toDecimal_3416a 69 = .ok (.lstore 11, 2) := by decide +kernel
theorem dJx4497a_toDecimal_3416a_71 : decode cJx4497a_toDecimal_3416a 71 = .ok (.iload_n 1, 1) := by decide +kernel
theorem dJx4497a_toDecimal_3416a_72 : decode cJx4497a_toDecimal_3416a 72 = .ok (.invokestatic 97, 3) := by decide +kernel
theorem dJx4497a_toDecimal_3416a_75 : decode cJx4497a_toDecimal_3416a 75 = .ok (.istore 13, 2) := by decide +kernel
theorem dJx4497a_toDecimal_3416a_77 : decode cJx4497a_toDecimal_3416a 77 = .ok (.iload_n 1, 1) := by decide +kernel
theorem dJx4497a_toDecimal_3416a_78 : decode cJx4497a_toDecimal_3416a 78 = .ok (.iload 13, 2) := by decide +kernel
theorem dJx4497a_toDecimal_3416a_80 : decode cJx4497a_toDecimal_3416a 80 = .ok (.ineg, 1) := by decide +kernel
theorem dJx4497a_toDecimal_3416a_81 : decode cJx4497a_toDecimal_3416a 81 = .ok (.invokestatic 100, 3) := by decide +kernel
theorem dJx4497a_toDecimal_3416a_84 : decode cJx4497a_toDecimal_3416a 84 = .ok (.iadd, 1) := by decide +kernel
theorem dJx4497a_toDecimal_3416a_85 : decode cJx4497a_toDecimal_3416a 85 = .ok (.iconst 2, 1) := by decide +kernel
theorem dJx4497a_toDecimal_3416a_86 : decode cJx4497a_toDecimal_3416a 86 = .ok (.iadd, 1) := by decide +kernel
theorem dJx4497a_toDecimal_3416a_87 : decode cJx4497a_toDecimal_3416a 87 = .ok (.istore 14, 2) := by decide +kernel
theorem dJx4497a_toDecimal_3416a_89 : decode cJx4497a_toDecimal_3416a 89 = .ok (.iload 13, 2) := by decide +kernel
theorem dJx4497a_toDecimal_3416a_91 : decode cJx4497a_toDecimal_3416a 91 = .ok (.invokestatic 103, 3) := by decide +kernel
theorem dJx4497a_toDecimal_3416a_94 : decode cJx4497a_toDecimal_3416a 94 = .ok (.lstore 15, 2) := by decide +kernel
theorem dJx4497a_toDecimal_3416a_96 : decode cJx4497a_toDecimal_3416a 96 = .ok (.iload 13, 2) := by decide +kernel
theorem dJx4497a_toDecimal_3416a_98 : decode cJx4497a_toDecimal_3416a 98 = .ok (.invokestatic 107, 3) := by decide +kernel
theorem dJx4497a_toDecimal_3416a_101 : decode cJx4497a_toDecimal_3416a 101 = .ok (.lstore 17, 2) := by decide +kernel
theorem dJx4497a_toDecimal_3416a_103 : decode cJx4497a_toDecimal_3416a 103 = .ok (.lload 15, 2) := by decide +kernel
theorem dJx4497a_toDecimal_3416a_105 : decode cJx4497a_toDecimal_3416a 105 = .ok (.lload 17, 2) := by decide +kernel
theorem dJx4497a_toDecimal_3416a_107 : decode cJx4497a_toDecimal_3416a 107 = .ok (.lload 7, 2) := by decide +kernel
theorem dJx4497a_toDecimal_3416a_109 : decode cJx4497a_toDecimal_3416a 109 = .ok (.iload 14, 2) := by decide +kernel
theorem dJx4497a_toDecimal_3416a_111 : decode cJx4497a_toDecimal_3416a 111 = .ok (.lshl, 1) := by decide +kernel
theorem dJx4497a_toDecimal_3416a_112 : decode cJx4497a_toDecimal_3416a 112 = .ok (.invokestatic 110, 3) := by decide +kernel
theorem dJx4497a_toDecimal_3416a_115 : decode cJx4497a_toDecimal_3416a 115 = .ok (.lstore 19, 2) := by decide +kernel
theorem dJx4497a_toDecimal_3416a_117 : decode cJx4497a_toDecimal_3416a 117 = .ok (.lload 15, 2) := by decide +kernel
theorem dJx4497a_toDecimal_3416a_119 : decode cJx4497a_toDecimal_3416a 119 = .ok (.lload 17, 2) := by decide +kernel
theorem dJx4497a_toDecimal_3416a_121 : decode cJx4497a_toDecimal_3416a 121 = .ok (.lload 11, 2) := by decide +kernel
theorem dJx4497a_toDecimal_3416a_123 : decode cJx4497a_toDecimal_3416a 123 = .ok (.iload 14, 2) := by decide +kernel
theorem dJx4497a_toDecimal_3416a_125 : decode cJx4497a_toDecimal_3416a 125 = .ok (.lshl, 1) := by decide +kernel
theorem dJx4497a_toDecimal_3416a_126 : decode cJx4497a_toDecimal_3416a 126 = .ok (.invokestatic 110, 3) := by decide +kernel
theorem dJx4497a_toDecimal_3416a_129 : decode cJx4497a_toDecimal_3416a 129 = .ok (.lstore 21, 2) := by decide +kernel
theorem dJx4497a_toDecimal_3416a_131 : decode cJx4497a_toDecimal_3416a 131 = .ok (.lload 15, 2) := by decide +kernel
theorem dJx4497a_toDecimal_3416a_133 : decode cJx4497a_toDecimal_3416a 133 = .ok (.lload 17, 2) := by decide +kernel
theorem dJx4497a_toDecimal_3416a_135 : decode cJx4497a_toDecimal_3416a 135 = .ok (.lload 9, 2) := by decide +kernel
theorem dJx4497a_toDecimal_3416a_137 : decode cJx4497a_toDecimal_3416a 137 = .ok (.iload 14, 2) := by decide +kernel
theorem dJx4497a_toDecimal_3416a_139 : decode cJx4497a_toDecimal_3416a 139 = .ok (.lshl, 1) := by decide +kernel
theorem dJx4497a_toDecimal_3416a_140 : decode cJx4497a_toDecimal_3416a 140 = .ok (.invokestatic 110, 3) := by decide +kernel
theorem dJx4497a_toDecimal_3416a_143 : decode cJx4497a_toDecimal_3416a 143 = .ok (.lstore 23, 2) := by decide +kernel
theorem dJx4497a_toDecimal_3416a_145 : decode cJx4497a_toDecimal_3416a 145 = .ok (.lload 19, 2) := by decide +kernel
theorem dJx4497a_toDecimal_3416a_147 : decode cJx4497a_toDecimal_3416a 147 = .ok (.iconst 2, 1) := by decide +kernel
theorem dJx4497a_toDecimal_3416a_148 : decode cJx4497a_toDecimal_3416a 148 = .ok (.lshr, 1) := by decide +kernel
theorem dJx4497a_toDecimal_3416a_149 : decode cJx4497a_toDecimal_3416a 149 = .ok (.lstore 25, 2) := by decide +kernel
theorem dJx4497a_toDecimal_3416a_151 : decode cJx4497a_toDecimal_3416a 151 = .ok (.lload 25, 2) := by decide +kernel
theorem dJx4497a_toDecimal_3416a_153 : decode cJx4497a_toDecimal_3416a 153 = .ok (.ldc2_w 114, 3) := by decide +kernel
theorem dJx4497a_toDecimal_3416a_156 : decode cJx4497a_toDecimal_3416a 156 = .ok (.lcmp, 1) := by decide +kernel
theorem dJx4497a_toDecimal_3416a_157 : decode cJx4497a_toDecimal_3416a 157 = .ok (.ifCond .lt 95, 3) := by decide +kernel
theorem dJx4497a_toDecimal_3416a_160 : decode cJx4497a_toDecimal_3416a 160 = .ok (.ldc2_w 87, 3) := by decide +kernel
theorem dJx4497a_toDecimal_3416a_163 : decode cJx4497a_toDecimal_3416a 163 = .ok (.lload 25, 2) := by decide +kernel
theorem dJx4497a_toDecimal_3416a_165 : decode cJx4497a_toDecimal_3416a 165 = .ok (.ldc2_w 116, 3) := by decide +kernel
theorem dJx4497a_toDecimal_3416a_168 : decode cJx4497a_toDecimal_3416a 168 = .ok (.invokestatic 118, 3) := by decide +kernel
theorem dJx4497a_toDecimal_3416a_171 : decode cJx4497a_toDecimal_3416a 171 = .ok (.lmul, 1) := by decide +kernel
theorem dJx4497a_toDecimal_3416a_172 : decode cJx4497a_toDecimal_3416a 172 = .ok (.lstore 27, 2) := by decide +kernel
theorem dJx4497a_toDecimal_3416a_174 : decode cJx4497a_toDecimal_3416a 174 = .ok (.lload 27, 2) := by decide +kernel
theorem dJx4497a_toDecimal_3416a_176 : decode cJx4497a_toDecimal_3416a 176 = .ok (.ldc2_w 87, 3) := by decide +kernel
theorem dJx4497a_toDecimal_3416a_179 : decode cJx4497a_toDecimal_3416a 179 = .ok (.ladd, 1) := by decide +kernel
theorem dJx4497a_toDecimal_3416a_180 : decode cJx4497a_toDecimal_3416a 180 = .ok (.lstore 29, 2) := by decide +kernel
theorem dJx4497a_toDecimal_3416a_182 : decode cJx4497a_toDecimal_3416a 182 = .ok (.lload 21, 2) := by decide +kernel
theorem dJx4497a_toDecimal_3416a_184 : decode cJx4497a_toDecimal_3416a 184 = .ok (.iload 6, 2) := by decide +kernel
theorem dJx4497a_toDecimal_3416a_186 : decode cJx4497a_toDecimal_3416a 186 = .ok (.i2l, 1) := by decide +kernel
theorem dJx4497a_toDecimal_3416a_187 : decode cJx4497a_toDecimal_3416a 187 = .ok (.ladd, 1) := by decide +kernel
theorem dJx4497a_toDecimal_3416a_188 : decode cJx4497a_toDecimal_3416a 188 = .ok (.lload 27, 2) := by decide +kernel
theorem dJx4497a_toDecimal_3416a_190 : decode cJx4497a_toDecimal_3416a 190 = .ok (.iconst 2, 1) := by decide +kernel
theorem dJx4497a_toDecimal_3416a_191 : decode cJx4497a_toDecimal_3416a 191 = .ok (.lshl, 1) := by decide +kernel
theorem dJx4497a_toDecimal_3416a_192 : decode cJx4497a_toDecimal_3416a 192 = .ok (.lcmp, 1) := by decide +kernel
theorem dJx4497a_toDecimal_3416a_193 : decode cJx4497a_toDecimal_3416a 193 = .ok (.ifCond .gt 7, 3) := by decide +kernel
theorem dJx4497a_toDecimal_3416a_196 : decode cJx4497a_toDecimal_3416a 196 = .ok (.iconst 1, 1) := by decide +kernel
theorem dJx4497a_toDecimal_3416a_197 : decode cJx4497a_toDecimal_3416a 197 = .ok (.goto 4, 3) := by decide +kernel
theorem dJx4497a_toDecimal_3416a_200 : decode cJx4497a_toDecimal_3416a 200 = .ok (.iconst 0, 1) := by decide +kernel
theorem dJx4497a_toDecimal_3416a_201 : decode cJx4497a_toDecimal_3416a 201 = .ok (.istore 31, 2) := by decide +kernel
theorem dJx4497a_toDecimal_3416a_203 : decode cJx4497a_toDecimal_3416a 203 = .ok (.lload 29, 2) := by decide +kernel
theorem dJx4497a_toDecimal_3416a_205 : decode cJx4497a_toDecimal_3416a 205 = .ok (.iconst 2, 1) := by decide +kernel
theorem dJx4497a_toDecimal_3416a_206 : decode cJx4497a_toDecimal_3416a 206 = .ok (.lshl, 1) := by decide +kernel
theorem dJx4497a_toDecimal_3416a_207 : decode cJx4497a_toDecimal_3416a 207 = .ok (.iload 6, 2) := by decide +kernel
theorem dJx4497a_toDecimal_3416a_209 : decode cJx4497a_toDecimal_3416a 209 = .ok (.i2l, 1) := by decide +kernel
theorem dJx4497a_toDecimal_3416a_210 : decode cJx4497a_toDecimal_3416a 210 = .ok (.ladd, 1) := by decide +kernel
theorem dJx4497a_toDecimal_3416a_211 : decode cJx4497a_toDecimal_3416a 211 = .ok (.lload 23, 2) := by decide +kernel
theorem dJx4497a_toDecimal_3416a_213 : decode cJx4497a_toDecimal_3416a 213 = .ok (.lcmp, 1) := by decide +kernel
theorem dJx4497a_toDecimal_3416a_214 : decode cJx4497a_toDecimal_3416a 214 = .ok (.ifCond .gt 7, 3) := by decide +kernel
theorem dJx4497a_toDecimal_3416a_217 : decode cJx4497a_toDecimal_3416a 217 = .ok (.iconst 1, 1) := by decide +kernel
theorem dJx4497a_toDecimal_3416a_218 : decode cJx4497a_toDecimal_3416a 218 = .ok (.goto 4, 3) := by decide +kernel
theorem dJx4497a_toDecimal_3416a_221 : decode cJx4497a_toDecimal_3416a 221 = .ok (.iconst 0, 1) := by decide +kernel
theorem dJx4497a_toDecimal_3416a_222 : decode cJx4497a_toDecimal_3416a 222 = .ok (.istore 32, 2) := by decide +kernel
theorem dJx4497a_toDecimal_3416a_224 : decode cJx4497a_toDecimal_3416a 224 = .ok (.iload 31, 2) := by decide +kernel
theorem dJx4497a_toDecimal_3416a_226 : decode cJx4497a_toDecimal_3416a 226 = .ok (.iload 32, 2) := by decide +kernel
theorem dJx4497a_toDecimal_3416a_228 : decode cJx4497a_toDecimal_3416a 228 = .ok (.if_icmp .eq 24, 3) := by decide +kernel
theorem dJx4497a_toDecimal_3416a_231 : decode cJx4497a_toDecimal_3416a 231 = .ok (.aload_n 0, 1) := by decide +kernel
theorem dJx4497a_toDecimal_3416a_232 : decode cJx4497a_toDecimal_3416a 232 = .ok (.iload 31, 2) := by decide +kernel
theorem dJx4497a_toDecimal_3416a_234 : decode cJx4497a_toDecimal_3416a 234 = .ok (.ifCond .eq 8, 3) := by decide +kernel
theorem dJx4497a_toDecimal_3416a_237 : decode cJx4497a_toDecimal_3416a 237 = .ok (.lload 27, 2) := by decide +kernel
theorem dJx4497a_toDecimal_3416a_239 : decode cJx4497a_toDecimal_3416a 239 = .ok (.goto 5, 3) := by decide +kernel
theorem dJx4497a_toDecimal_3416a_242 : decode cJx4497a_toDecimal_3416a 242 = .ok (.lload 29, 2) := by decide +kernel
theorem dJx4497a_toDecimal_3416a_244 : decode cJx4497a_toDecimal_3416a 244 = .ok (.iload 13, 2) := by decide +kernel
theorem dJx4497a_toDecimal_3416a_246 : decode cJx4497a_toDecimal_3416a 246 = .ok (.aload 5, 2) := by decide +kernel
theorem dJx4497a_toDecimal_3416a_248 : decode cJx4497a_toDecimal_3416a 248 = .ok (.invokevirtual 78, 3) := by decide +kernel
theorem dJx4497a_toDecimal_3416a_251 : decode cJx4497a_toDecimal_3416a 251 = .ok (.ireturn, 1) := by decide +kernel
theorem dJx4497a_toDecimal_3416a_252 : decode cJx4497a_toDecimal_3416a 252 = .ok (.lload 25, 2) := by decide +kernel
theorem dJx4497a_toDecimal_3416a_254 : decode cJx4497a_toDecimal_3416a 254 = .ok (.lconst 1, 1) := by decide +kernel
theorem dJx4497a_toDecimal_3416a_255 : decode cJx4497a_toDecimal_3416a 255 = .ok (.ladd, 1) := by decide +kernel
theorem dJx4497a_toDecimal_3416a_256 : decode cJx4497a_toDecimal_3416a 256 = .ok (.lstore 27, 2) := by decide +kernel
theorem dJx4497a_toDecimal_3416a_258 : decode cJx4497a_toDecimal_3416a 258 = .ok (.lload 21, 2) := by decide +kernel
theorem dJx4497a_toDecimal_3416a_260 : decode cJx4497a_toDecimal_3416a 260 = .ok (.iload 6, 2) := by decide +kernel
theorem dJx4497a_toDecimal_3416a_262 : decode cJx4497a_toDecimal_3416a 262 = .ok (.i2l, 1) := by decide +kernel
theorem dJx4497a_toDecimal_3416a_263 : decode cJx4497a_toDecimal_3416a 263 = .ok (.ladd, 1) := by decide +kernel
theorem dJx4497a_toDecimal_3416a_264 : decode cJx4497a_toDecimal_3416a 264 = .ok (.lload 25, 2) := by decide +kernel
theorem dJx4497a_toDecimal_3416a_266 : decode cJx4497a_toDecimal_3416a 266 = .ok (.iconst 2, 1) := by decide +kernel
theorem dJx4497a_toDecimal_3416a_267 : decode cJx4497a_toDecimal_3416a 267 = .ok (.lshl, 1) := by decide +kernel
theorem dJx4497a_toDecimal_3416a_268 : decode cJx4497a_toDecimal_3416a 268 = .ok (.lcmp, 1) := by decide +kernel
theorem dJx4497a_toDecimal_3416a_269 : decode cJx4497a_toDecimal_3416a 269 = .ok (.ifCond .gt 7, 3) := by decide +kernel
theorem dJx4497a_toDecimal_3416a_272 : decode cJx4497a_toDecimal_3416a 272 = .ok (.iconst 1, 1) := by decide +kernel
theorem dJx4497a_toDecimal_3416a_273 : decode cJx4497a_toDecimal_3416a 273 = .ok (.goto 4, 3) := by decide +kernel
theorem dJx4497a_toDecimal_3416a_276 : decode cJx4497a_toDecimal_3416a 276 = .ok (.iconst 0, 1) := by decide +kernel
theorem dJx4497a_toDecimal_3416a_277 : decode cJx4497a_toDecimal_3416a 277 = .ok (.istore 29, 2) := by decide +kernel
theorem dJx4497a_toDecimal_3416a_279 : decode cJx4497a_toDecimal_3416a 279 = .ok (.lload 27, 2) := by decide +kernel
theorem dJx4497a_toDecimal_3416a_281 : decode cJx4497a_toDecimal_3416a 281 = .ok (.iconst 2, 1) := by decide +kernel
theorem dJx4497a_toDecimal_3416a_282 : decode cJx4497a_toDecimal_3416a 282 = .ok (.lshl, 1) := by decide +kernel
theorem dJx4497a_toDecimal_3416a_283 : decode cJx4497a_toDecimal_3416a 283 = .ok (.iload 6, 2) := by decide +kernel
theorem dJx4497a_toDecimal_3416a_285 : decode cJx4497a_toDecimal_3416a 285 = .ok (.i2l, 1) := by decide +kernel
theorem dJx4497a_toDecimal_3416a_286 : decode cJx4497a_toDecimal_3416a 286 = .ok (.ladd, 1) := by decide +kernel
theorem dJx4497a_toDecimal_3416a_287 : decode cJx4497a_toDecimal_3416a 287 = .ok (.lload 23, 2) := by decide +kernel
theorem dJx4497a_toDecimal_3416a_289 : decode cJx4497a_toDecimal_3416a 289 = .ok (.lcmp, 1) := by decide +kernel
theorem dJx4497a_toDecimal_3416a_290 : decode cJx4497a_toDecimal_3416a 290 = .ok (.ifCond .gt 7, 3) := by decide +kernel
theorem dJx4497a_toDecimal_3416a_293 : decode cJx4497a_toDecimal_3416a 293 = .ok (.iconst 1, 1) := by decide +kernel
theorem dJx4497a_toDecimal_3416a_294 : decode cJx4497a_toDecimal_3416a 294 = .ok (.goto 4, 3) := by decide +kernel
theorem dJx4497a_toDecimal_3416a_297 : decode cJx4497a_toDecimal_3416a 297 = .ok (.iconst 0, 1) := by decide +kernel
theorem dJx4497a_toDecimal_3416a_298 : decode cJx4497a_toDecimal_3416a 298 = .ok (.istore 30, 2) := by decide +kernel
theorem dJx4497a_toDecimal_3416a_300 : decode cJx4497a_toDecimal_3416a 300 = .ok (.iload 29, 2) := by decide +kernel
theorem dJx4497a_toDecimal_3416a_302 : decode cJx4497a_toDecimal_3416a 302 = .ok (.iload 30, 2) := by decide +kernel
theorem dJx4497a_toDecimal_3416a_304 : decode cJx4497a_toDecimal_3416a 304 = .ok (.if_icmp .eq 27, 3) := by decide +kernel
theorem dJx4497a_toDecimal_3416a_307 : decode cJx4497a_toDecimal_3416a 307 = .ok (.aload_n 0, 1) := by decide +kernel
theorem dJx4497a_toDecimal_3416a_308 : decode cJx4497a_toDecimal_3416a 308 = .ok (.iload 29, 2) := by decide +kernel
theorem dJx4497a_toDecimal_3416a_310 : decode cJx4497a_toDecimal_3416a 310 = .ok (.ifCond .eq 8, 3) := by decide +kernel
theorem dJx4497a_toDecimal_3416a_313 : decode cJx4497a_toDecimal_3416a 313 = .ok (.lload 25, 2) := by decide +kernel
theorem dJx4497a_toDecimal_3416a_315 : decode cJx4497a_toDecimal_3416a 315 = .ok (.goto 5, 3) := by decide +kernel
theorem dJx4497a_toDecimal_3416a_318 : decode cJx4497a_toDecimal_3416a 318 = .ok (.lload 27, 2) := by decide +kernel
theorem dJx4497a_toDecimal_3416a_320 : decode cJx4497a_toDecimal_3416a 320 = .ok (.iload 13, 2) := by decide +kernel
theorem dJx4497a_toDecimal_3416a_322 : decode cJx4497a_toDecimal_3416a 322 = .ok (.iload 4, 2) := by decide +kernel
theorem dJx4497a_toDecimal_3416a_324 : decode cJx4497a_toDecimal_3416a 324 = .ok (.iadd, 1) := by decide +kernel
theorem dJx4497a_toDecimal_3416a_325 : decode cJx4497a_toDecimal_3416a 325 = .ok (.aload 5, 2) := by decide +kernel
theorem dJx4497a_toDecimal_3416a_327 : decode cJx4497a_toDecimal_3416a 327 = .ok (.invokevirtual 78, 3) := by decide +kernel
theorem dJx4497a_toDecimal_3416a_330 : decode cJx4497a_toDecimal_3416a 330 = .ok (.ireturn, 1) := by decide +kernel
theorem dJx4497a_toDecimal_3416a_331 : decode cJx4497a_toDecimal_3416a 331 = .ok (.lload 19, 2) := by decide +kernel
theorem dJx4497a_toDecimal_3416a_333 : decode cJx4497a_toDecimal_3416a 333 = .ok (.lload 25, 2) := by decide +kernel
theorem dJx4497a_toDecimal_3416a_335 : decode cJx4497a_toDecimal_3416a 335 = .ok (.lload 27, 2) := by decide +kernel
theorem dJx4497a_toDecimal_3416a_337 : decode cJx4497a_toDecimal_3416a 337 = .ok (.ladd, 1) := by decide +kernel
theorem dJx4497a_toDecimal_3416a_338 : decode cJx4497a_toDecimal_3416a 338 = .ok (.iconst 1, 1) := by decide +kernel
theorem dJx4497a_toDecimal_3416a_339 : decode cJx4497a_toDecimal_3416a 339 = .ok (.lshl, 1) := by decide +kernel
theorem dJx4497a_toDecimal_3416a_340 : decode cJx4497a_toDecimal_3416a 340 = .ok (.lsub, 1) := by decide +kernel
theorem dJx4497a_toDecimal_3416a_341 : decode cJx4497a_toDecimal_3416a 341 = .ok (.lstore 31, 2) := by decide +kernel
theorem dJx4497a_toDecimal_3416a_343 : decode cJx4497a_toDecimal_3416a 343 = .ok (.aload_n 0, 1) := by decide +kernel
theorem dJx4497a_toDecimal_3416a_344 : decode cJx4497a_toDecimal_3416a 344 = .ok (.lload 31, 2) := by decide +kernel
theorem dJx4497a_toDecimal_3416a_346 : decode cJx4497a_toDecimal_3416a 346 = .ok (.lconst 0, 1) := by decide +kernel
theorem dJx4497a_toDecimal_3416a_347 : decode cJx4497a_toDecimal_3416a 347 = .ok (.lcmp, 1) := by decide +kernel
theorem dJx4497a_toDecimal_3416a_348 : decode cJx4497a_toDecimal_3416a 348 = .ok (.ifCond .lt 19, 3) := by decide +kernel
theorem dJx4497a_toDecimal_3416a_351 : decode cJx4497a_toDecimal_3416a 351 = .ok (.lload 31, 2) := by decide +kernel
theorem dJx4497a_toDecimal_3416a_353 : decode cJx4497a_toDecimal_3416a 353 = .ok (.lconst 0, 1) := by decide +kernel
theorem dJx4497a_toDecimal_3416a_354 : decode cJx4497a_toDecimal_3416a 354 = .ok (.lcmp, 1) := by decide +kernel
theorem dJx4497a_toDecimal_3416a_355 : decode cJx4497a_toDecimal_3416a 355 = .ok (.ifCond .ne 17, 3) := by decide +kernel
theorem dJx4497a_toDecimal_3416a_358 : decode cJx4497a_toDecimal_3416a 358 = .ok (.lload 25, 2) := by decide +kernel
theorem dJx4497a_toDecimal_3416a_360 : decode cJx4497a_toDecimal_3416a 360 = .ok (.lconst 1, 1) := by decide +kernel
theorem dJx4497a_toDecimal_3416a_361 : decode cJx4497a_toDecimal_3416a 361 = .ok (.land, 1) := by decide +kernel
theorem dJx4497a_toDecimal_3416a_362 : decode cJx4497a_toDecimal_3416a 362 = .ok (.lconst 0, 1) := by decide +kernel
theorem dJx4497a_toDecimal_3416a_363 : decode cJx4497a_toDecimal_3416a 363 = .ok (.lcmp, 1) := by decide +kernel
theorem dJx4497a_toDecimal_3416a_364 : decode cJx4497a_toDecimal_3416a 364 = .ok (.ifCond .ne 8, 3) := by decide +kernel
theorem dJx4497a_toDecimal_3416a_367 : decode cJx4497a_toDecimal_3416a 367 = .ok (.lload 25, 2) := by decide +kernel
theorem dJx4497a_toDecimal_3416a_369 : decode cJx4497a_toDecimal_3416a 369 = .ok (.goto 5, 3) := by decide +kernel
theorem dJx4497a_toDecimal_3416a_372 : decode cJx4497a_toDecimal_3416a 372 = .ok (.lload 27, 2) := by decide +kernel
theorem dJx4497a_toDecimal_3416a_374 : decode cJx4497a_toDecimal_3416a 374 = .ok (.iload 13, 2) := by decide +kernel
theorem dJx4497a_toDecimal_3416a_376 : decode cJx4497a_toDecimal_3416a 376 = .ok (.iload 4, 2) := by decide +kernel
theorem dJx4497a_toDecimal_3416a_378 : decode cJx4497a_toDecimal_3416a 378 = .ok (.iadd, 1) := by decide +kernel
theorem dJx4497a_toDecimal_3416a_379 : decode cJx4497a_toDecimal_3416a 379 = .ok (.aload 5, 2) := by decide +kernel
theorem dJx4497a_toDecimal_3416a_381 : decode cJx4497a_toDecimal_3416a 381 = .ok (.invokevirtual 78, 3) := by decide +kernel
theorem dJx4497a_toDecimal_3416a_384 : decode cJx4497a_toDecimal_3416a 384 = .ok (.ireturn, 1) := by decide +kernel
theorem dJx4497a_rop_fb923_0 : decode cJx4497a_rop_fb923 0 = .ok (.lload_n 2, 1) := by decide +kernel
theorem dJx4497a_rop_fb923_1 : decode cJx4497a_rop_fb923 1 = .ok (.lload 4, 2) := by decide +kernel
theorem dJx4497a_rop_fb923_3 : decode cJx4497a_rop_fb923 3 = .ok (.invokestatic 118, 3) := by decide +kernel
theorem dJx4497a_rop_fb923_6 : decode cJx4497a_rop_fb923 6 = .ok (.lstore 6, 2) := by decide +kernel
theorem dJx4497a_rop_fb923_8 : decode cJx4497a_rop_fb923 8 = .ok (.lload_n 0, 1) := by decide +kernel
theorem dJx4497a_rop_fb923_9 : decode cJx4497a_rop_fb923 9 = .ok (.lload 4, 2) := by decide +kernel
theorem dJx4497a_rop_fb923_11 : decode cJx4497a_rop_fb923 11 = .ok (.lmul, 1) := by decide +kernel
theorem dJx4497a_rop_fb923_12 : decode cJx4497a_rop_fb923 12 = .ok (.lstore 8, 2) := by decide +kernel
theorem dJx4497a_rop_fb923_14 : decode cJx4497a_rop_fb923 14 = .ok (.lload_n 0, 1) := by decide +kernel
theorem dJx4497a_rop_fb923_15 : decode cJx4497a_rop_fb923 15 = .ok (.lload 4, 2) := by decide +kernel
theorem dJx4497a_rop_fb923_17 : decode cJx4497a_rop_fb923 17 = .ok (.invokestatic 118, 3) := by decide +kernel
theorem dJx4497a_rop_fb923_20 : decode cJx4497a_rop_fb923 20 = .ok (.lstore 10, 2) := by decide +kernel
theorem dJx4497a_rop_fb923_22 : decode cJx4497a_rop_fb923 22 = .ok (.lload 8, 2) := by decide +kernel
theorem dJx4497a_rop_fb923_24 : decode cJx4497a_rop_fb923 24 = .ok (.iconst 1, 1) := by decide +kernel
theorem dJx4497a_rop_fb923_25 : decode cJx4497a_rop_fb923 25 = .ok (.lushr, 1) := by decide +kernel
theorem dJx4497a_rop_fb923_26 : decode cJx4497a_rop_fb923 26 = .ok (.lload 6, 2) := by decide +kernel
theorem dJx4497a_rop_fb923_28 : decode cJx4497a_rop_fb923 28 = .ok (.ladd, 1) := by decide +kernel
theorem dJx4497a_rop_fb923_29 : decode cJx4497a_rop_fb923 29 = .ok (.lstore 12, 2) := by decide +kernel
theorem dJx4497a_rop_fb923_31 : decode cJx4497a_rop_fb923 31 = .ok (.lload 10, 2) := by decide +kernel
theorem dJx4497a_rop_fb923_33 : decode cJx4497a_rop_fb923 33 = .ok (.lload 12, 2) := by decide +kernel
theorem dJx4497a_rop_fb923_35 : decode cJx4497a_rop_fb923 35 = .ok (.bipush 63, 2) := by decide +kernel
theorem dJx4497a_rop_fb923_37 : decode cJx4497a_rop_fb923 37 = .ok (.lushr, 1) := by decide +kernel
theorem dJx4497a_rop_fb923_38 : decode cJx4497a_rop_fb923 38 = .ok (.ladd, 1) := by decide +kernel
theorem dJx4497a_rop_fb923_39 : decode cJx4497a_rop_fb923 39 = .ok (.lstore 14, 2) := by decide +kernel
theorem dJx4497a_rop_fb923_41 : decode cJx4497a_rop_fb923 41 = .ok (.lload 14, 2) := by decide +kernel
theorem dJx4497a_rop_fb923_43 : decode cJx4497a_rop_fb923 43 = .ok (.lload 12, 2) := by decide +kernel
theorem dJx4497a_rop_fb923_45 : decode cJx4497a_rop_fb923 45 = .ok (.ldc2_w 124, 3) := by decide +kernel
theorem dJx4497a_rop_fb923_48 : decode cJx4497a_rop_fb923 48 = .ok (.land, 1) := by decide +kernel
theorem dJx4497a_rop_fb923_49 : decode cJx4497a_rop_fb923 49 = .ok (.ldc2_w 124, 3) := by decide +kernel
theorem dJx4497a_rop_fb923_52 : decode cJx4497a_rop_fb923 52 = .ok (.ladd, 1) := by decide +kernel
theorem dJx4497a_rop_fb923_53 : decode cJx4497a_rop_fb923 53 = .ok (.bipush 63, 2) := by decide +kernel
theorem dJx4497a_rop_fb923_55 : decode cJx4497a_rop_fb923 55 = .ok (.lushr, 1) := by decide +kernel
theorem dJx4497a_rop_fb923_56 : decode cJx4497a_rop_fb923 56 = .ok (.lor, 1) := by decide +kernel
theorem dJx4497a_rop_fb923_57 : decode cJx4497a_rop_fb923 57 = .ok (.lreturn, 1) := by decide +kernel
theorem dJx4497a_toChars_b7021_0 : decode cJx4497a_toChars_b7021 0 = .ok (.bipush 64, 2) := by decide +kernel
theorem dJx4497a_toChars_b7021_2 : decode cJx4497a_toChars_b7021 2 = .ok (.lload_n 1, 1) := by decide +kernel
theorem dJx4497a_toChars_b7021_3 : decode cJx4497a_toChars_b7021 3 = .ok (.invokestatic 128, 3) := by decide +kernel
theorem dJx4497a_toChars_b7021_6 : decode cJx4497a_toChars_b7021 6 = .ok (.isub, 1) := by decide +kernel
theorem dJx4497a_toChars_b7021_7 : decode cJx4497a_toChars_b7021 7 = .ok (.invokestatic 91, 3) := by decide +kernel
theorem dJx4497a_toChars_b7021_10 : decode cJx4497a_toChars_b7021 10 = .ok (.istore 5, 2) := by decide +kernel
theorem dJx4497a_toChars_b7021_12 : decode cJx4497a_toChars_b7021 12 = .ok (.lload_n 1, 1) := by decide +kernel
theorem dJx4497a_toChars_b7021_13 : decode cJx4497a_toChars_b7021 13 = .ok (.iload 5, 2) := by decide +kernel
theorem dJx4497a_toChars_b7021_15 : decode cJx4497a_toChars_b7021 15 = .ok (.invokestatic 132, 3) := by decide +kernel
theorem dJx4497a_toChars_b7021_18 : decode cJx4497a_toChars_b7021 18 = .ok (.lcmp, 1) := by decide +kernel
theorem dJx4497a_toChars_b7021_19 : decode cJx4497a_toChars_b7021 19 = .ok (.ifCond .lt 6, 3) := by decide +kernel
theorem dJx4497a_toChars_b7021_22 : decode cJx4497a_toChars_b7021 22 = .ok (.iinc 5 1, 3) := by decide +kernel
theorem dJx4497a_toChars_b7021_25 : decode cJx4497a_toChars_b7021 25 = .ok (.aload 4, 2) := by decide +kernel
theorem dJx4497a_toChars_b7021_27 : decode cJx4497a_toChars_b7021 27 = .ok (.ifnull 14, 3) := by decide +kernel
theorem dJx4497a_toChars_b7021_30 : decode cJx4497a_toChars_b7021 30 = .ok (.aload 4, 2) := by decide +kernel
theorem dJx4497a_toChars_b7021_32 : decode cJx4497a_toChars_b7021 32 = .ok (.lload_n 1, 1) := by decide +kernel
theorem dJx4497a_toChars_b7021_33 : decode cJx4497a_toChars_b7021 33 = .ok (.iload_n 3, 1) := by decide +kernel
theorem dJx4497a_toChars_b7021_34 : decode cJx4497a_toChars_b7021 34 = .ok (.iload 5, 2) := by decide +kernel
theorem dJx4497a_toChars_b7021_36 : decode cJx4497a_toChars_b7021 36 = .ok (.invokevirtual 135, 3) := by decide +kernel
theorem dJx4497a_toChars_b7021_39 : decode cJx4497a_toChars_b7021 39 = .ok (.iconst 0, 1) := by decide +kernel
theorem dJx4497a_toChars_b7021_40 : decode cJx4497a_toChars_b7021 40 = .ok (.ireturn, 1) := by decide +kernel
theorem dJx4497a_toChars_b7021_41 : decode cJx4497a_toChars_b7021 41 = .ok (.lload_n 1, 1) := by decide +kernel
theorem dJx4497a_toChars_b7021_42 : decode cJx4497a_toChars_b7021 42 = .ok (.bipush 17, 2) := by decide +kernel
theorem dJx4497a_toChars_b7021_44 : decode cJx4497a_toChars_b7021 44 = .ok (.iload 5, 2) := by decide +kernel
theorem dJx4497a_toChars_b7021_46 : decode cJx4497a_toChars_b7021 46 = .ok (.isub, 1) := by decide +kernel
theorem dJx4497a_toChars_b7021_47 : decode cJx4497a_toChars_b7021 47 = .ok (.invokestatic 132, 3) := by decide +kernel
theorem dJx4497a_toChars_b7021_50 : decode cJx4497a_toChars_b7021 50 = .ok (.lmul, 1) := by decide +kernel
theorem dJx4497a_toChars_b7021_51 : decode cJx4497a_toChars_b7021 51 = .ok (.lstore_n 1, 1) := by decide +kernel
theorem dJx4497a_toChars_b7021_52 : decode cJx4497a_toChars_b7021 52 = .ok (.iload_n 3, 1) := by decide +kernel
theorem dJx4497a_toChars_b7021_53 : decode cJx4497a_toChars_b7021 53 = .ok (.iload 5, 2) := by decide +kernel
theorem dJx4497a_toChars_b7021_55 : decode cJx4497a_toChars_b7021 55 = .ok (.iadd, 1) := by decide +kernel
theorem dJx4497a_toChars_b7021_56 : decode cJx4497a_toChars_b7021 56 = .ok (.istore_n 3, 1) := by decide +kernel
theorem dJx4497a_toChars_b7021_57 : decode cJx4497a_toChars_b7021 57 = .ok (.lload_n 1, 1) := by decide +kernel
theorem dJx4497a_toChars_b7021_58 : decode cJx4497a_toChars_b7021 58 = .ok (.ldc2_w 141, 3) := by decide +kernel
theorem dJx4497a_toChars_b7021_61 : decode cJx4497a_toChars_b7021 61 = .ok (.invokestatic 118, 3) := by decide +kernel
theorem dJx4497a_toChars_b7021_64 : decode cJx4497a_toChars_b7021 64 = .ok (.bipush 20, 2) := by decide +kernel
theorem dJx4497a_toChars_b7021_66 : decode cJx4497a_toChars_b7021 66 = .ok (.lushr, 1) := by decide +kernel
theorem dJx4497a_toChars_b7021_67 : decode cJx4497a_toChars_b7021 67 = .ok (.lstore 6, 2) := by decide +kernel
theorem dJx4497a_toChars_b7021_69 : decode cJx4497a_toChars_b7021 69 = .ok (.lload_n 1, 1) := by decide +kernel
theorem dJx4497a_toChars_b7021_70 : decode cJx4497a_toChars_b7021 70 = .ok (.ldc2_w 143, 3) := by decide +kernel
theorem dJx4497a_toChars_b7021_73 : decode cJx4497a_toChars_b7021 73 = .ok (.lload 6, 2) := by decide +kernel
theorem dJx4497a_toChars_b7021_75 : decode cJx4497a_toChars_b7021 75 = .ok (.lmul, 1) := by decide +kernel
theorem dJx4497a_toChars_b7021_76 : decode cJx4497a_toChars_b7021 76 = .ok (.lsub, 1) := by decide +kernel
theorem dJx4497a_toChars_b7021_77 : decode cJx4497a_toChars_b7021 77 = .ok (.l2i, 1) := by decide +kernel
theorem dJx4497a_toChars_b7021_78 : decode cJx4497a_toChars_b7021 78 = .ok (.istore 8, 2) := by decide +kernel
theorem dJx4497a_toChars_b7021_80 : decode cJx4497a_toChars_b7021 80 = .ok (.lload 6, 2) := by decide +kernel
theorem dJx4497a_toChars_b7021_82 : decode cJx4497a_toChars_b7021 82 = .ok (.ldc2_w 145, 3) := by decide +kernel
theorem dJx4497a_toChars_b7021_85 : decode cJx4497a_toChars_b7021 85 = .ok (.lmul, 1) := by decide +kernel
theorem dJx4497a_toChars_b7021_86 : decode cJx4497a_toChars_b7021 86 = .ok (.bipush 57, 2) := by decide +kernel
theorem dJx4497a_toChars_b7021_88 : decode cJx4497a_toChars_b7021 88 = .ok (.lushr, 1) := by decide +kernel
theorem dJx4497a_toChars_b7021_89 : decode cJx4497a_toChars_b7021 89 = .ok (.l2i, 1) := by decide +kernel
theorem dJx4497a_toChars_b7021_90 : decode cJx4497a_toChars_b7021 90 = .ok (.istore 9, 2) := by decide +kernel
theorem dJx4497a_toChars_b7021_92 : decode cJx4497a_toChars_b7021 92 = .ok (.lload 6, 2) := by decide +kernel
theorem dJx4497a_toChars_b7021_94 : decode cJx4497a_toChars_b7021 94 = .ok (.ldc 147, 2) := by decide +kernel
theorem dJx4497a_toChars_b7021_96 : decode cJx4497a_toChars_b7021 96 = .ok (.iload 9, 2) := by decide +kernel
theorem dJx4497a_toChars_b7021_98 : decode cJx4497a_toChars_b7021 98 = .ok (.imul, 1) := by decide +kernel
theorem dJx4497a_toChars_b7021_99 : decode cJx4497a_toChars_b7021 99 = .ok (.i2l, 1) := by decide +kernel
theorem dJx4497a_toChars_b7021_100 : decode cJx4497a_toChars_b7021 100 = .ok (.lsub, 1) := by decide +kernel
theorem dJx4497a_toChars_b7021_101 : decode cJx4497a_toChars_b7021 101 = .ok (.l2i, 1) := by decide +kernel
theorem dJx4497a_toChars_b7021_102 : decode cJx4497a_toChars_b7021 102 = .ok (.istore 10, 2) := by decide +kernel
theorem dJx4497a_toChars_b7021_104 : decode cJx4497a_toChars_b7021 104 = .ok (.iconst 0, 1) := by decide +kernel
theorem dJx4497a_toChars_b7021_105 : decode cJx4497a_toChars_b7021 105 = .ok (.iload_n 3, 1) := by decide +kernel
theorem dJx4497a_toChars_b7021_106 : decode cJx4497a_toChars_b7021 106 = .ok (.if_icmp .ge 21, 3) := by decide +kernel
theorem dJx4497a_toChars_b7021_109 : decode cJx4497a_toChars_b7021 109 = .ok (.iload_n 3, 1) := by decide +kernel
theorem dJx4497a_toChars_b7021_110 : decode cJx4497a_toChars_b7021 110 = .ok (.bipush 7, 2) := by decide +kernel
theorem dJx4497a_toChars_b7021_112 : decode cJx4497a_toChars_b7021 112 = .ok (.if_icmp .gt 15, 3) := by decide +kernel
theorem dJx4497a_toChars_b7021_115 : decode cJx4497a_toChars_b7021 115 = .ok (.aload_n 0, 1) := by decide +kernel
theorem dJx4497a_toChars_b7021_116 : decode cJx4497a_toChars_b7021 116 = .ok (.iload 9, 2) := by decide +kernel
theorem dJx4497a_toChars_b7021_118 : decode cJx4497a_toChars_b7021 118 = .ok (.iload 10, 2) := by decide +kernel
theorem dJx4497a_toChars_b7021_120 : decode cJx4497a_toChars_b7021 120 = .ok (.iload 8, 2) := by decide +kernel
theorem dJx4497a_toChars_b7021_122 : decode cJx4497a_toChars_b7021 122 = .ok (.iload_n 3, 1) := by decide +kernel
theorem dJx4497a_toChars_b7021_123 : decode cJx4497a_toChars_b7021 123 = .ok (.invokevirtual 148, 3) := by decide +kernel
theorem dJx4497a_toChars_b7021_126 : decode cJx4497a_toChars_b7021 126 = .ok (.ireturn, 1) := by decide +kernel
theorem dJx4497a_toChars_b7021_127 : decode cJx4497a_toChars_b7021 127 = .ok (.bipush (-3), 2) := by decide +kernel
theorem dJx4497a_toChars_b7021_129 : decode cJx4497a_toChars_b7021 129 = .ok (.iload_n 3, 1) := by decide +kernel
theorem dJx4497a_toChars_b7021_130 : decode cJx4497a_toChars_b7021 130 = .ok (.if_icmp .ge 19, 3) := by decide +kernel
theorem dJx4497a_toChars_b7021_133 : decode cJx4497a_toChars_b7021 133 = .ok (.iload_n 3, 1) := by decide +kernel
theorem dJx4497a_toChars_b7021_134 : decode cJx4497a_toChars_b7021 134 = .ok (.ifCond .gt 15, 3) := by decide +kernel
theorem dJx4497a_toChars_b7021_137 : decode cJx4497a_toChars_b7021 137 = .ok (.aload_n 0, 1) := by decide +kernel
theorem dJx4497a_toChars_b7021_138 : decode cJx4497a_toChars_b7021 138 = .ok (.iload 9, 2) := by decide +kernel
theorem dJx4497a_toChars_b7021_140 : decode cJx4497a_toChars_b7021 140 = .ok (.iload 10, 2) := by decide +kernel
theorem dJx4497a_toChars_b7021_142 : decode cJx4497a_toChars_b7021 142 = .ok (.iload 8, 2) := by decide +kernel
theorem dJx4497a_toChars_b7021_144 : decode cJx4497a_toChars_b7021 144 = .ok (.iload_n 3, 1) := by decide +kernel
theorem dJx4497a_toChars_b7021_145 : decode cJx4497a_toChars_b7021 145 = .ok (.invokevirtual 152, 3) := by decide +kernel
theorem dJx4497a_toChars_b7021_148 : decode cJx4497a_toChars_b7021 148 = .ok (.ireturn, 1) := by decide +kernel
theorem dJx4497a_toChars_b7021_149 : decode cJx4497a_toChars_b7021 149 = .ok (.aload_n 0, 1) := by decide +kernel
theorem dJx4497a_toChars_b7021_150 : decode cJx4497a_toChars_b7021 150 = .ok (.iload 9, 2) := by decide +kernel
theorem dJx4497a_toChars_b7021_152 : decode cJx4497a_toChars_b7021 152 = .ok (.iload 10, 2) := by decide +kernel
theorem dJx4497a_toChars_b7021_154 : decode cJx4497a_toChars_b7021 154 = .ok (.iload 8, 2) := by decide +kernel
theorem dJx4497a_toChars_b7021_156 : decode cJx4497a_toChars_b7021 156 = .ok (.iload_n 3, 1) := by decide +kernel
theorem dJx4497a_toChars_b7021_157 : decode cJx4497a_toChars_b7021 157 = .ok (.invokevirtual 155, 3) := by decide +kernel
theorem dJx4497a_toChars_b7021_160 : decode cJx4497a_toChars_b7021 160 = .ok (.ireturn, 1) := by decide +kernel
theorem dJx4497a_toChars1_7f61f_0 : decode cJx4497a_toChars1_7f61f 0 = .ok (.aload_n 0, 1) := by decide +kernel
theorem dJx4497a_toChars1_7f61f_1 : decode cJx4497a_toChars1_7f61f 1 = .ok (.iload_n 1, 1) := by decide +kernel
theorem dJx4497a_toChars1_7f61f_2 : decode cJx4497a_toChars1_7f61f 2 = .ok (.invokevirtual 158, 3) := by decide +kernel
theorem dJx4497a_toChars1_7f61f_5 : decode cJx4497a_toChars1_7f61f 5 = .ok (.aload_n 0, 1) := by decide +kernel
theorem dJx4497a_toChars1_7f61f_6 : decode cJx4497a_toChars1_7f61f 6 = .ok (.iload_n 2, 1) := by decide +kernel
theorem dJx4497a_toChars1_7f61f_7 : decode cJx4497a_toChars1_7f61f 7 = .ok (.invokevirtual 161, 3) := by decide +kernel
theorem dJx4497a_toChars1_7f61f_10 : decode cJx4497a_toChars1_7f61f 10 = .ok (.istore 5, 2) := by decide +kernel
theorem dJx4497a_toChars1_7f61f_12 : decode cJx4497a_toChars1_7f61f 12 = .ok (.iconst 1, 1) := by decide +kernel
theorem dJx4497a_toChars1_7f61f_13 : decode cJx4497a_toChars1_7f61f 13 = .ok (.istore 7, 2) := by decide +kernel
theorem dJx4497a_toChars1_7f61f_15 : decode cJx4497a_toChars1_7f61f 15 = .ok (.iload 7, 2) := by decide +kernel
theorem dJx4497a_toChars1_7f61f_17 : decode cJx4497a_toChars1_7f61f 17 = .ok (.iload 4, 2) := by decide +kernel
theorem dJx4497a_toChars1_7f61f_19 : decode cJx4497a_toChars1_7f61f 19 = .ok (.if_icmp .ge 32, 3) := by decide +kernel
theorem dJx4497a_toChars1_7f61f_22 : decode cJx4497a_toChars1_7f61f 22 = .ok (.bipush 10, 2) := by decide +kernel
theorem dJx4497a_toChars1_7f61f_24 : decode cJx4497a_toChars1_7f61f 24 = .ok (.iload 5, 2) := by decide +kernel
theorem dJx4497a_toChars1_7f61f_26 : decode cJx4497a_toChars1_7f61f 26 = .ok (.imul, 1) := by decide +kernel
theorem dJx4497a_toChars1_7f61f_27 : decode cJx4497a_toChars1_7f61f 27 = .ok (.istore 6, 2) := by decide +kernel
theorem dJx4497a_toChars1_7f61f_29 : decode cJx4497a_toChars1_7f61f 29 = .ok (.aload_n 0, 1) := by decide +kernel
theorem dJx4497a_toChars1_7f61f_30 : decode cJx4497a_toChars1_7f61f 30 = .ok (.iload 6, 2) := by decide +kernel
theorem dJx4497a_toChars1_7f61f_32 : decode cJx4497a_toChars1_7f61f 32 = .ok (.bipush 28, 2) := by decide +kernel
theorem dJx4497a_toChars1_7f61f_34 : decode cJx4497a_toChars1_7f61f 34 = .ok (.iushr, 1) := by decide +kernel
theorem dJx4497a_toChars1_7f61f_35 : decode cJx4497a_toChars1_7f61f 35 = .ok (.invokevirtual 158, 3) := by decide +kernel
theorem dJx4497a_toChars1_7f61f_38 : decode cJx4497a_toChars1_7f61f 38 = .ok (.iload 6, 2) := by decide +kernel
theorem dJx4497a_toChars1_7f61f_40 : decode cJx4497a_toChars1_7f61f 40 = .ok (.ldc 164, 2) := by decide +kernel
theorem dJx4497a_toChars1_7f61f_42 : decode cJx4497a_toChars1_7f61f 42 = .ok (.iand, 1) := by decide +kernel
theorem dJx4497a_toChars1_7f61f_43 : decode cJx4497a_toChars1_7f61f 43 = .ok (.istore 5, 2) := by decide +kernel
theorem dJx4497a_toChars1_7f61f_45 : decode cJx4497a_toChars1_7f61f 45 = .ok (.iinc 7 1, 3) := by decide +kernel
theorem dJx4497a_toChars1_7f61f_48 : decode cJx4497a_toChars1_7f61f 48 = .ok (.goto (-33), 3) := by decide +kernel
theorem dJx4497a_toChars1_7f61f_51 : decode cJx4497a_toChars1_7f61f 51 = .ok (.aload_n 0, 1) := by decide +kernel
theorem dJx4497a_toChars1_7f61f_52 : decode cJx4497a_toChars1_7f61f 52 = .ok (.bipush 46, 2) := by decide +kernel
theorem dJx4497a_toChars1_7f61f_54 : decode cJx4497a_toChars1_7f61f 54 = .ok (.invokevirtual 73, 3) := by decide +kernel
theorem dJx4497a_toChars1_7f61f_57 : decode cJx4497a_toChars1_7f61f 57 = .ok (.iload 7, 2) := by decide +kernel
theorem dJx4497a_toChars1_7f61f_59 : decode cJx4497a_toChars1_7f61f 59 = .ok (.bipush 8, 2) := by decide +kernel
theorem dJx4497a_toChars1_7f61f_61 : decode cJx4497a_toChars1_7f61f 61 = .ok (.if_icmp .gt 32, 3) := by decide +kernel
theorem dJx4497a_toChars1_7f61f_64 : decode cJx4497a_toChars1_7f61f 64 = .ok (.bipush 10, 2) := by decide +kernel
theorem dJx4497a_toChars1_7f61f_66 : decode cJx4497a_toChars1_7f61f 66 = .ok (.iload 5, 2) := by decide +kernel
theorem dJx4497a_toChars1_7f61f_68 : decode cJx4497a_toChars1_7f61f 68 = .ok (.imul, 1) := by decide +kernel
theorem dJx4497a_toChars1_7f61f_69 : decode cJx4497a_toChars1_7f61f 69 = .ok (.istore 6, 2) := by decide +kernel
theorem dJx4497a_toChars1_7f61f_71 : decode cJx4497a_toChars1_7f61f 71 = .ok (.aload_n 0, 1) := by decide +kernel
theorem dJx4497a_toChars1_7f61f_72 : decode cJx4497a_toChars1_7f61f 72 = .ok (.iload 6, 2) := by decide +kernel
theorem dJx4497a_toChars1_7f61f_74 : decode cJx4497a_toChars1_7f61f 74 = .ok (.bipush 28, 2) := by decide +kernel
theorem dJx4497a_toChars1_7f61f_76 : decode cJx4497a_toChars1_7f61f 76 = .ok (.iushr, 1) := by decide +kernel
theorem dJx4497a_toChars1_7f61f_77 : decode cJx4497a_toChars1_7f61f 77 = .ok (.invokevirtual 158, 3) := by decide +kernel
theorem dJx4497a_toChars1_7f61f_80 : decode cJx4497a_toChars1_7f61f 80 = .ok (.iload 6, 2) := by decide +kernel
theorem dJx4497a_toChars1_7f61f_82 : decode cJx4497a_toChars1_7f61f 82 = .ok (.ldc 164, 2) := by decide +kernel
theorem dJx4497a_toChars1_7f61f_84 : decode cJx4497a_toChars1_7f61f 84 = .ok (.iand, 1) := by decide +kernel
theorem dJx4497a_toChars1_7f61f_85 : decode cJx4497a_toChars1_7f61f 85 = .ok (.istore 5, 2) := by decide +kernel
theorem dJx4497a_toChars1_7f61f_87 : decode cJx4497a_toChars1_7f61f 87 = .ok (.iinc 7 1, 3) := by decide +kernel
theorem dJx4497a_toChars1_7f61f_90 : decode cJx4497a_toChars1_7f61f 90 = .ok (.goto (-33), 3) := by decide +kernel
theorem dJx4497a_toChars1_7f61f_93 : decode cJx4497a_toChars1_7f61f 93 = .ok (.aload_n 0, 1) := by decide +kernel
theorem dJx4497a_toChars1_7f61f_94 : decode cJx4497a_toChars1_7f61f 94 = .ok (.iload_n 3, 1) := by decide +kernel
theorem dJx4497a_toChars1_7f61f_95 : decode cJx4497a_toChars1_7f61f 95 = .ok (.invokevirtual 165, 3) := by decide +kernel
theorem dJx4497a_toChars1_7f61f_98 : decode cJx4497a_toChars1_7f61f 98 = .ok (.iconst 0, 1) := by decide +kernel
theorem dJx4497a_toChars1_7f61f_99 : decode cJx4497a_toChars1_7f61f 99 = .ok (.ireturn, 1) := by decide +kernel
theorem dJx4497a_toChars2_7f61f_0 : decode cJx4497a_toChars2_7f61f 0 = .ok (.aload_n 0, 1) := by decide +kernel
theorem dJx4497a_toChars2_7f61f_1 : decode cJx4497a_toChars2_7f61f 1 = .ok (.iconst 0, 1) := by decide +kernel
theorem dJx4497a_toChars2_7f61f_2 : decode cJx4497a_toChars2_7f61f 2 = .ok (.invokevirtual 158, 3) := by decide +kernel
theorem dJx4497a_toChars2_7f61f_5 : decode cJx4497a_toChars2_7f61f 5 = .ok (.aload_n 0, 1) := by decide +kernel
theorem dJx4497a_toChars2_7f61f_6 : decode cJx4497a_toChars2_7f61f 6 = .ok (.bipush 46, 2) := by decide +kernel
theorem dJx4497a_toChars2_7f61f_8 : decode cJx4497a_toChars2_7f61f 8 = .ok (.invokevirtual 73, 3) := by decide +kernel
theorem dJx4497a_toChars2_7f61f_11 : decode cJx4497a_toChars2_7f61f 11 = .ok (.iload 4, 2) := by decide +kernel
theorem dJx4497a_toChars2_7f61f_13 : decode cJx4497a_toChars2_7f61f 13 = .ok (.ifCond .ge 14, 3) := by decide +kernel
theorem dJx4497a_toChars2_7f61f_16 : decode cJx4497a_toChars2_7f61f 16 = .ok (.aload_n 0, 1) := by decide +kernel
theorem dJx4497a_toChars2_7f61f_17 : decode cJx4497a_toChars2_7f61f 17 = .ok (.iconst 0, 1) := by decide +kernel
theorem dJx4497a_toChars2_7f61f_18 : decode cJx4497a_toChars2_7f61f 18 = .ok (.invokevirtual 158, 3) := by decide +kernel
theorem dJx4497a_toChars2_7f61f_21 : decode cJx4497a_toChars2_7f61f 21 = .ok (.iinc 4 1, 3) := by decide +kernel
theorem dJx4497a_toChars2_7f61f_24 : decode cJx4497a_toChars2_7f61f 24 = .ok (.goto (-13), 3) := by decide +kernel
theorem dJx4497a_toChars2_7f61f_27 : decode cJx4497a_toChars2_7f61f 27 = .ok (.aload_n 0, 1) := by decide +kernel
theorem dJx4497a_toChars2_7f61f_28 : decode cJx4497a_toChars2_7f61f 28 = .ok (.iload_n 1, 1) := by decide +kernel
theorem dJx4497a_toChars2_7f61f_29 : decode cJx4497a_toChars2_7f61f 29 = .ok (.invokevirtual 158, 3) := by decide +kernel
theorem dJx4497a_toChars2_7f61f_32 : decode cJx4497a_toChars2_7f61f 32 = .ok (.aload_n 0, 1) := by decide +kernel
theorem dJx4497a_toChars2_7f61f_33 : decode cJx4497a_toChars2_7f61f 33 = .ok (.iload_n 2, 1) := by decide +kernel
theorem dJx4497a_toChars2_7f61f_34 : decode cJx4497a_toChars2_7f61f 34 = .ok (.invokevirtual 168, 3) := by decide +kernel
theorem dJx4497a_toChars2_7f61f_37 : decode cJx4497a_toChars2_7f61f 37 = .ok (.aload_n 0, 1) := by decide +kernel
theorem dJx4497a_toChars2_7f61f_38 : decode cJx4497a_toChars2_7f61f 38 = .ok (.iload_n 3, 1) := by decide +kernel
theorem dJx4497a_toChars2_7f61f_39 : decode cJx4497a_toChars2_7f61f 39 = .ok (.invokevirtual 165, 3) := by decide +kernel
theorem dJx4497a_toChars2_7f61f_42 : decode cJx4497a_toChars2_7f61f 42 = .ok (.iconst 0, 1) := by decide +kernel
theorem dJx4497a_toChars2_7f61f_43 : decode cJx4497a_toChars2_7f61f 43 = .ok (.ireturn, 1) := by decide +kernel
theorem dJx4497a_toChars3_7f61f_0 : decode cJx4497a_toChars3_7f61f 0 = .ok (.aload_n 0, 1) := by decide +kernel
theorem dJx4497a_toChars3_7f61f_1 : decode cJx4497a_toChars3_7f61f 1 = .ok (.iload_n 1, 1) := by decide +kernel
theorem dJx4497a_toChars3_7f61f_2 : decode cJx4497a_toChars3_7f61f 2 = .ok (.invokevirtual 158, 3) := by decide +kernel
theorem dJx4497a_toChars3_7f61f_5 : decode cJx4497a_toChars3_7f61f 5 = .ok (.aload_n 0, 1) := by decide +kernel
theorem dJx4497a_toChars3_7f61f_6 : decode cJx4497a_toChars3_7f61f 6 = .ok (.bipush 46, 2) := by decide +kernel
theorem dJx4497a_toChars3_7f61f_8 : decode cJx4497a_toChars3_7f61f 8 = .ok (.invokevirtual 73, 3) := by decide +kernel
theorem dJx4497a_toChars3_7f61f_11 : decode cJx4497a_toChars3_7f61f 11 = .ok (.aload_n 0, 1) := by decide +kernel
theorem dJx4497a_toChars3_7f61f_12 : decode cJx4497a_toChars3_7f61f 12 = .ok (.iload_n 2, 1) := by decide +kernel
theorem dJx4497a_toChars3_7f61f_13 : decode cJx4497a_toChars3_7f61f 13 = .ok (.invokevirtual 168, 3) := by decide +kernel
theorem dJx4497a_toChars3_7f61f_16 : decode cJx4497a_toChars3_7f61f 16 = .ok (.aload_n 0, 1) := by decide +kernel
theorem dJx4497a_toChars3_7f61f_17 : decode cJx4497a_toChars3_7f61f 17 = .ok (.iload_n 3, 1) := by decide +kernel
theorem dJx4497a_toChars3_7f61f_18 : decode cJx4497a_toChars3_7f61f 18 = .ok (.invokevirtual 165, 3) := by decide +kernel
theorem dJx4497a_toChars3_7f61f_21 : decode cJx4497a_toChars3_7f61f 21 = .ok (.aload_n 0, 1) := by decide +kernel
theorem dJx4497a_toChars3_7f61f_22 : decode cJx4497a_toChars3_7f61f 22 = .ok (.iload 4, 2) := by decide +kernel
theorem dJx4497a_toChars3_7f61f_24 : decode cJx4497a_toChars3_7f61f 24 = .ok (.iconst 1, 1) := by decide +kernel
theorem dJx4497a_toChars3_7f61f_25 : decode cJx4497a_toChars3_7f61f 25 = .ok (.isub, 1) := by decide +kernel
theorem dJx4497a_toChars3_7f61f_26 : decode cJx4497a_toChars3_7f61f 26 = .ok (.invokevirtual 171, 3) := by decide +kernel
theorem dJx4497a_toChars3_7f61f_29 : decode cJx4497a_toChars3_7f61f 29 = .ok (.iconst 0, 1) := by decide +kernel
theorem dJx4497a_toChars3_7f61f_30 : decode cJx4497a_toChars3_7f61f 30 = .ok (.ireturn, 1) := by decide +kernel
theorem dJx4497a_lowDigits_d00df_0 : decode cJx4497a_lowDigits_d00df 0 = .ok (.iload_n 1, 1) := by decide +kernel
theorem dJx4497a_lowDigits_d00df_1 : decode cJx4497a_lowDigits_d00df 1 = .ok (.ifCond .eq 8, 3) := by decide +kernel
theorem dJx4497a_lowDigits_d00df_4 : decode cJx4497a_lowDigits_d00df 4 = .ok (.aload_n 0, 1) := by decide +kernel
theorem dJx4497a_lowDigits_d00df_5 : decode cJx4497a_lowDigits_d00df 5 = .ok (.iload_n 1, 1) := by decide +kernel
theorem dJx4497a_lowDigits_d00df_6 : decode cJx4497a_lowDigits_d00df 6 = .ok (.invokevirtual 168, 3) := by decide +kernel
theorem dJx4497a_lowDigits_d00df_9 : decode cJx4497a_lowDigits_d00df 9 = .ok (.aload_n 0, 1) := by decide +kernel
theorem dJx4497a_lowDigits_d00df_10 : decode cJx4497a_lowDigits_d00df 10 = .ok (.invokevirtual 174, 3) := by decide +kernel
theorem dJx4497a_lowDigits_d00df_13 : decode cJx4497a_lowDigits_d00df 13 = .ok (.return_, 1) := by decide +kernel
theorem dJx4497a_append8Digits_d00df_0 : decode cJx4497a_append8Digits_d00df 0 = .ok (.aload_n 0, 1) := by decide +kernel
theorem dJx4497a_append8Digits_d00df_1 : decode cJx4497a_append8Digits_d00df 1 = .ok (.iload_n 1, 1) := by decide +kernel
theorem dJx4497a_append8Digits_d00df_2 : decode cJx4497a_append8Digits_d00df 2 = .ok (.invokevirtual 161, 3) := by decide +kernel
theorem dJx4497a_append8Digits_d00df_5 : decode cJx4497a_append8Digits_d00df 5 = .ok (.istore_n 2, 1) := by decide +kernel
theorem dJx4497a_append8Digits_d00df_6 : decode cJx4497a_append8Digits_d00df 6 = .ok (.iconst 0, 1) := by decide +kernel
theorem dJx4497a_append8Digits_d00df_7 : decode cJx4497a_append8Digits_d00df 7 = .ok (.istore_n 3, 1) := by decide +kernel
theorem dJx4497a_append8Digits_d00df_8 : decode cJx4497a_append8Digits_d00df 8 = .ok (.iload_n 3, 1) := by decide +kernel
theorem dJx4497a_append8Digits_d00df_9 : decode cJx4497a_append8Digits_d00df 9 = .ok (.bipush 8, 2) := by decide +kernel
theorem dJx4497a_append8Digits_d00df_11 : decode cJx4497a_append8Digits_d00df 11 = .ok (.if_icmp .ge 30, 3) := by decide +kernel
theorem dJx4497a_append8Digits_d00df_14 : decode cJx4497a_append8Digits_d00df 14 = .ok (.bipush 10, 2) := by decide +kernel
theorem dJx4497a_append8Digits_d00df_16 : decode cJx4497a_append8Digits_d00df 16 = .ok (.iload_n 2, 1) := by decide +kernel
theorem dJx4497a_append8Digits_d00df_17 : decode cJx4497a_append8Digits_d00df 17 = .ok (.imul, 1) := by decide +kernel
theorem dJx4497a_append8Digits_d00df_18 : decode cJx4497a_append8Digits_d00df 18 = .ok (.istore 4, 2) := by decide +kernel
theorem dJx4497a_append8Digits_d00df_20 : decode cJx4497a_append8Digits_d00df 20 = .ok (.aload_n 0, 1) := by decide +kernel
theorem dJx4497a_append8Digits_d00df_21 : decode cJx4497a_append8Digits_d00df 21 = .ok (.iload 4, 2) := by decide +kernel
theorem dJx4497a_append8Digits_d00df_23 : decode cJx4497a_append8Digits_d00df 23 = .ok (.bipush 28, 2) := by decide +kernel
theorem dJx4497a_append8Digits_d00df_25 : decode cJx4497a_append8Digits_d00df 25 = .ok (.iushr, 1) := by decide +kernel
theorem dJx4497a_append8Digits_d00df_26 : decode cJx4497a_append8Digits_d00df 26 = .ok (.invokevirtual 158, 3) := by decide +kernel
theorem dJx4497a_append8Digits_d00df_29 : decode cJx4497a_append8Digits_d00df 29 = .ok (.iload 4, 2) := by decide +kernel
theorem dJx4497a_append8Digits_d00df_31 : decode cJx4497a_append8Digits_d00df 31 = .ok (.ldc 164, 2) := by decide +kernel
theorem dJx4497a_append8Digits_d00df_33 : decode cJx4497a_append8Digits_d00df 33 = .ok (.iand, 1) := by decide +kernel
theorem dJx4497a_append8Digits_d00df_34 : decode cJx4497a_append8Digits_d00df 34 = .ok (.istore_n 2, 1) := by decide +kernel
theorem dJx4497a_append8Digits_d00df_35 : decode cJx4497a_append8Digits_d00df 35 = .ok (.iinc 3 1, 3) := by decide +kernel
theorem dJx4497a_append8Digits_d00df_38 : decode cJx4497a_append8Digits_d00df 38 = .ok (.goto (-30), 3) := by decide +kernel
theorem dJx4497a_append8Digits_d00df_41 : decode cJx4497a_append8Digits_d00df 41 = .ok (.return_, 1) := by decide +kernel
theorem dJx4497a_removeTrailingZeroes_da8c8_0 : decode cJx4497a_removeTrailingZeroes_da8c8 0 = .ok (.aload_n 0, 1) := by decide +kernel
theorem dJx4497a_removeTrailingZeroes_da8c8_1 : decode cJx4497a_removeTrailingZeroes_da8c8 1 = .ok (.getfield 11, 3) := by decide +kernel
theorem dJx4497a_removeTrailingZeroes_da8c8_4 : decode cJx4497a_removeTrailingZeroes_da8c8 4 = .ok (.aload_n 0, 1) := by decide +kernel
theorem dJx4497a_removeTrailingZeroes_da8c8_5 : decode cJx4497a_removeTrailingZeroes_da8c8 5 = .ok (.getfield 44, 3) := by decide +kernel
theorem dJx4497a_removeTrailingZeroes_da8c8_8 : decode cJx4497a_removeTrailingZeroes_da8c8 8 = .ok (.baload, 1) := by decide +kernel
theorem dJx4497a_removeTrailingZeroes_da8c8_9 : decode cJx4497a_removeTrailingZeroes_da8c8 9 = .ok (.bipush 48, 2) := by decide +kernel
theorem dJx4497a_removeTrailingZeroes_da8c8_11 : decode cJx4497a_removeTrailingZeroes_da8c8 11 = .ok (.if_icmp .ne 16, 3) := by decide +kernel
theorem dJx4497a_removeTrailingZeroes_da8c8_14 : decode cJx4497a_removeTrailingZeroes_da8c8 14 = .ok (.aload_n 0, 1) := by decide +kernel
theorem dJx4497a_removeTrailingZeroes_da8c8_15 : decode cJx4497a_removeTrailingZeroes_da8c8 15 = .ok (.dup, 1) := by decide +kernel
theorem dJx4497a_removeTrailingZeroes_da8c8_16 : decode cJx4497a_removeTrailingZeroes_da8c8 16 = .ok (.getfield 44, 3) := by decide +kernel
theorem dJx4497a_removeTrailingZeroes_da8c8_19 : decode cJx4497a_removeTrailingZeroes_da8c8 19 = .ok (.iconst 1, 1) := by decide +kernel
theorem dJx4497a_removeTrailingZeroes_da8c8_20 : decode cJx4497a_removeTrailingZeroes_da8c8 20 = .ok (.isub, 1) := by decide +kernel
theorem dJx4497a_removeTrailingZeroes_da8c8_21 : decode cJx4497a_removeTrailingZeroes_da8c8 21 = .ok (.putfield 44, 3) := by decide +kernel
theorem dJx4497a_removeTrailingZeroes_da8c8_24 : decode cJx4497a_removeTrailingZeroes_da8c8 24 = .ok (.goto (-24), 3) := by decide +kernel
theorem dJx4497a_removeTrailingZeroes_da8c8_27 : decode cJx4497a_removeTrailingZeroes_da8c8 27 = .ok (.aload_n 0, 1) := by decide +kernel
theorem dJx4497a_removeTrailingZeroes_da8c8_28 : decode cJx4497a_removeTrailingZeroes_da8c8 28 = .ok (.getfield 11, 3) := by decide +kernel
theorem dJx4497a_removeTrailingZeroes_da8c8_31 : decode cJx4497a_removeTrailingZeroes_da8c8 31 = .ok (.aload_n 0, 1) := by decide +kernel
theorem dJx4497a_removeTrailingZeroes_da8c8_32 : decode cJx4497a_removeTrailingZeroes_da8c8 32 = .ok (.getfield 44, 3) := by decide +kernel
theorem dJx4497a_removeTrailingZeroes_da8c8_35 : decode cJx4497a_removeTrailingZeroes_da8c8 35 = .ok (.baload, 1) := by decide +kernel
theorem dJx4497a_removeTrailingZeroes_da8c8_36 : decode cJx4497a_removeTrailingZeroes_da8c8 36 = .ok (.bipush 46, 2) := by decide +kernel
theorem dJx4497a_removeTrailingZeroes_da8c8_38 : decode cJx4497a_removeTrailingZeroes_da8c8 38 = .ok (.if_icmp .ne 13, 3) := by decide +kernel
theorem dJx4497a_removeTrailingZeroes_da8c8_41 : decode cJx4497a_removeTrailingZeroes_da8c8 41 = .ok (.aload_n 0, 1) := by decide +kernel
theorem dJx4497a_removeTrailingZeroes_da8c8_42 : decode cJx4497a_removeTrailingZeroes_da8c8 42 = .ok (.dup, 1) := by decide +kernel
theorem dJx4497a_removeTrailingZeroes_da8c8_43 : decode cJx4497a_removeTrailingZeroes_da8c8 43 = .ok (.getfield 44, 3) := by decide +kernel
theorem dJx4497a_removeTrailingZeroes_da8c8_46 : decode cJx4497a_removeTrailingZeroes_da8c8 46 = .ok (.iconst 1, 1) := by decide +kernel
theorem dJx4497a_removeTrailingZeroes_da8c8_47 : decode cJx4497a_removeTrailingZeroes_da8c8 47 = .ok (.iadd, 1) := by decide +kernel
theorem dJx4497a_removeTrailingZeroes_da8c8_48 : decode cJx4497a_removeTrailingZeroes_da8c8 48 = .ok (.putfield 44, 3) := by decide +kernel
theorem dJx4497a_removeTrailingZeroes_da8c8_51 : decode cJx4497a_removeTrailingZeroes_da8c8 51 = .ok (.return_, 1) := by decide +kernel
theorem dJx4497a_y_0f7a4_0 : decode cJx4497a_y_0f7a4 0 = .ok (.iload_n 1, 1) := by decide +kernel
theorem dJx4497a_y_0f7a4_1 : decode cJx4497a_y_0f7a4 1 = .ok (.iconst 1, 1) := by decide +kernel
theorem dJx4497a_y_0f7a4_2 : decode cJx4497a_y_0f7a4 2 = .ok (.iadd, 1) := by decide +kernel
theorem dJx4497a_y_0f7a4_3 : decode cJx4497a_y_0f7a4 3 = .ok (.i2l, 1) := by decide +kernel
theorem dJx4497a_y_0f7a4_4 : decode cJx4497a_y_0f7a4 4 = .ok (.bipush 28, 2) := by decide +kernel
theorem dJx4497a_y_0f7a4_6 : decode cJx4497a_y_0f7a4 6 = .ok (.lshl, 1) := by decide +kernel
theorem dJx4497a_y_0f7a4_7 : decode cJx4497a_y_0f7a4 7 = .ok (.ldc2_w 141, 3) := by decide +kernel
theorem dJx4497a_y_0f7a4_10 : decode cJx4497a_y_0f7a4 10 = .ok (.invokestatic 118, 3) := by decide +kernel
theorem dJx4497a_y_0f7a4_13 : decode cJx4497a_y_0f7a4 13 = .ok (.bipush 20, 2) := by decide +kernel
theorem dJx4497a_y_0f7a4_15 : decode cJx4497a_y_0f7a4 15 = .ok (.lushr, 1) := by decide +kernel
theorem dJx4497a_y_0f7a4_16 : decode cJx4497a_y_0f7a4 16 = .ok (.l2i, 1) := by decide +kernel
theorem dJx4497a_y_0f7a4_17 : decode cJx4497a_y_0f7a4 17 = .ok (.iconst 1, 1) := by decide +kernel
theorem dJx4497a_y_0f7a4_18 : decode cJx4497a_y_0f7a4 18 = .ok (.isub, 1) := by decide +kernel
theorem dJx4497a_y_0f7a4_19 : decode cJx4497a_y_0f7a4 19 = .ok (.ireturn, 1) := by decide +kernel
theorem dJx4497a_exponent_d00df_0 : decode cJx4497a_exponent_d00df 0 = .ok (.aload_n 0, 1) := by decide +kernel
theorem dJx4497a_exponent_d00df_1 : decode cJx4497a_exponent_d00df 1 = .ok (.bipush 69, 2) := by decide +kernel
theorem dJx4497a_exponent_d00df_3 : decode cJx4497a_exponent_d00df 3 = .ok (.invokevirtual 73, 3) := by decide +kernel
theorem dJx4497a_exponent_d00df_6 : decode cJx4497a_exponent_d00df 6 = .ok (.iload_n 1, 1) := by decide +kernel
theorem dJx4497a_exponent_d00df_7 : decode cJx4497a_exponent_d00df 7 = .ok (.ifCond .ge 12, 3) := by decide +kernel
theorem dJx4497a_exponent_d00df_10 : decode cJx4497a_exponent_d00df 10 = .ok (.aload_n 0, 1) := by decide +kernel
theorem dJx4497a_exponent_d00df_11 : decode cJx4497a_exponent_d00df 11 = .ok (.bipush 45, 2) := by decide +kernel
theorem dJx4497a_exponent_d00df_13 : decode cJx4497a_exponent_d00df 13 = .ok (.invokevirtual 73, 3) := by decide +kernel
theorem dJx4497a_exponent_d00df_16 : decode cJx4497a_exponent_d00df 16 = .ok (.iload_n 1, 1) := by decide +kernel
theorem dJx4497a_exponent_d00df_17 : decode cJx4497a_exponent_d00df 17 = .ok (.ineg, 1) := by decide +kernel
theorem dJx4497a_exponent_d00df_18 : decode cJx4497a_exponent_d00df 18 = .ok (.istore_n 1, 1) := by decide +kernel
theorem dJx4497a_exponent_d00df_19 : decode cJx4497a_exponent_d00df 19 = .ok (.iload_n 1, 1) := by decide +kernel
theorem dJx4497a_exponent_d00df_20 : decode cJx4497a_exponent_d00df 20 = .ok (.bipush 10, 2) := by decide +kernel
theorem dJx4497a_exponent_d00df_22 : decode cJx4497a_exponent_d00df 22 = .ok (.if_icmp .ge 9, 3) := by decide +kernel
theorem dJx4497a_exponent_d00df_25 : decode cJx4497a_exponent_d00df 25 = .ok (.aload_n 0, 1) := by decide +kernel
theorem dJx4497a_exponent_d00df_26 : decode cJx4497a_exponent_d00df 26 = .ok (.iload_n 1, 1) := by decide +kernel
theorem dJx4497a_exponent_d00df_27 : decode cJx4497a_exponent_d00df 27 = .ok (.invokevirtual 158, 3) := by decide +kernel
theorem dJx4497a_exponent_d00df_30 : decode cJx4497a_exponent_d00df 30 = .ok (.return_, 1) := by decide +kernel
theorem dJx4497a_exponent_d00df_31 : decode cJx4497a_exponent_d00df 31 = .ok (.iload_n 1, 1) := by decide +kernel
theorem dJx4497a_exponent_d00df_32 : decode cJx4497a_exponent_d00df 32 = .ok (.bipush 100, 2) := by decide +kernel
theorem dJx4497a_exponent_d00df_34 : decode cJx4497a_exponent_d00df 34 = .ok (.if_icmp .lt 24, 3) := by decide +kernel
theorem dJx4497a_exponent_d00df_37 : decode cJx4497a_exponent_d00df 37 = .ok (.iload_n 1, 1) := by decide +kernel
theorem dJx4497a_exponent_d00df_38 : decode cJx4497a_exponent_d00df 38 = .ok (.sipush 1311, 3) := by decide +kernel
theorem dJx4497a_exponent_d00df_41 : decode cJx4497a_exponent_d00df 41 = .ok (.imul, 1) := by decide +kernel
theorem dJx4497a_exponent_d00df_42 : decode cJx4497a_exponent_d00df 42 = .ok (.bipush 17, 2) := by decide +kernel
theorem dJx4497a_exponent_d00df_44 : decode cJx4497a_exponent_d00df 44 = .ok (.iushr, 1) := by decide +kernel
theorem dJx4497a_exponent_d00df_45 : decode cJx4497a_exponent_d00df 45 = .ok (.istore_n 2, 1) := by decide +kernel
theorem dJx4497a_exponent_d00df_46 : decode cJx4497a_exponent_d00df 46 = .ok (.aload_n 0, 1) := by decide +kernel
theorem dJx4497a_exponent_d00df_47 : decode cJx4497a_exponent_d00df 47 = .ok (.iload_n 2, 1) := by decide +kernel
theorem dJx4497a_exponent_d00df_48 : decode cJx4497a_exponent_d00df 48 = .ok (.invokevirtual 158, 3) := by decide +kernel
theorem dJx4497a_exponent_d00df_51 : decode cJx4497a_exponent_d00df 51 = .ok (.iload_n 1, 1) := by decide +kernel
theorem dJx4497a_exponent_d00df_52 : decode cJx4497a_exponent_d00df 52 = .ok (.bipush 100, 2) := by decide +kernel
theorem dJx4497a_exponent_d00df_54 : decode cJx4497a_exponent_d00df 54 = .ok (.iload_n 2, 1) := by decide +kernel
theorem dJx4497a_exponent_d00df_55 : decode cJx4497a_exponent_d00df 55 = .ok (.imul, 1) := by decide +kernel
theorem dJx4497a_exponent_d00df_56 : decode cJx4497a_exponent_d00df 56 = .ok (.isub, 1) := by decide +kernel
theorem dJx4497a_exponent_d00df_57 : decode cJx4497a_exponent_d00df 57 = .ok (.istore_n 1, 1) := by decide +kernel
theorem dJx4497a_exponent_d00df_58 : decode cJx4497a_exponent_d00df 58 = .ok (.iload_n 1, 1) := by decide +kernel
theorem dJx4497a_exponent_d00df_59 : decode cJx4497a_exponent_d00df 59 = .ok (.bipush 103, 2) := by decide +kernel
theorem dJx4497a_exponent_d00df_61 : decode cJx4497a_exponent_d00df 61 = .ok (.imul, 1) := by decide +kernel
theorem dJx4497a_exponent_d00df_62 : decode cJx4497a_exponent_d00df 62 = .ok (.bipush 10, 2) := by decide +kernel
theorem dJx4497a_exponent_d00df_64 : decode cJx4497a_exponent_d00df 64 = .ok (.iushr, 1) := by decide +kernel
theorem dJx4497a_exponent_d00df_65 : decode cJx4497a_exponent_d00df 65 = .ok (.istore_n 2, 1) := by decide +kernel
theorem dJx4497a_exponent_d00df_66 : decode cJx4497a_exponent_d00df 66 = .ok (.aload_n 0, 1) := by decide +kernel
theorem dJx4497a_exponent_d00df_67 : decode cJx4497a_exponent_d00df 67 = .ok (.iload_n 2, 1) := by decide +kernel
theorem dJx4497a_exponent_d00df_68 : decode cJx4497a_exponent_d00df 68 = .ok (.invokevirtual 158, 3) := by decide +kernel
theorem dJx4497a_exponent_d00df_71 : decode cJx4497a_exponent_d00df 71 = .ok (.aload_n 0, 1) := by decide +kernel
theorem dJx4497a_exponent_d00df_72 : decode cJx4497a_exponent_d00df 72 = .ok (.iload_n 1, 1) := by decide +kernel
theorem dJx4497a_exponent_d00df_73 : decode cJx4497a_exponent_d00df 73 = .ok (.bipush 10, 2) := by decide +kernel
theorem dJx4497a_exponent_d00df_75 : decode cJx4497a_exponent_d00df 75 = .ok (.iload_n 2, 1) := by decide +kernel
theorem dJx4497a_exponent_d00df_76 : decode cJx4497a_exponent_d00df 76 = .ok (.imul, 1) := by decide +kernel
theorem dJx4497a_exponent_d00df_77 : decode cJx4497a_exponent_d00df 77 = .ok (.isub, 1) := by decide +kernel
theorem dJx4497a_exponent_d00df_78 : decode cJx4497a_exponent_d00df 78 = .ok (.invokevirtual 158, 3) := by decide +kernel
theorem dJx4497a_exponent_d00df_81 : decode cJx4497a_exponent_d00df 81 = .ok (.return_, 1) := by decide +kernel
theorem dJx4497a_append_d00df_0 : decode cJx4497a_append_d00df 0 = .ok (.aload_n 0, 1) := by decide +kernel
theorem dJx4497a_append_d00df_1 : decode cJx4497a_append_d00df 1 = .ok (.getfield 11, 3) := by decide +kernel
theorem dJx4497a_append_d00df_4 : decode cJx4497a_append_d00df 4 = .ok (.aload_n 0, 1) := by decide +kernel
theorem dJx4497a_append_d00df_5 : decode cJx4497a_append_d00df 5 = .ok (.dup, 1) := by decide +kernel
theorem dJx4497a_append_d00df_6 : decode cJx4497a_append_d00df 6 = .ok (.getfield 44, 3) := by decide +kernel
theorem dJx4497a_append_d00df_9 : decode cJx4497a_append_d00df 9 = .ok (.iconst 1, 1) := by decide +kernel
theorem dJx4497a_append_d00df_10 : decode cJx4497a_append_d00df 10 = .ok (.iadd, 1) := by decide +kernel
theorem dJx4497a_append_d00df_11 : decode cJx4497a_append_d00df 11 = .ok (.dup_x1, 1) := by decide +kernel
theorem dJx4497a_append_d00df_12 : decode cJx4497a_append_d00df 12 = .ok (.putfield 44, 3) := by decide +kernel
theorem dJx4497a_append_d00df_15 : decode cJx4497a_append_d00df 15 = .ok (.iload_n 1, 1) := by decide +kernel
theorem dJx4497a_append_d00df_16 : decode cJx4497a_append_d00df 16 = .ok (.i2b, 1) := by decide +kernel
theorem dJx4497a_append_d00df_17 : decode cJx4497a_append_d00df 17 = .ok (.bastore, 1) := by decide +kernel
theorem dJx4497a_append_d00df_18 : decode cJx4497a_append_d00df 18 = .ok (.return_, 1) := by decide +kernel
theorem dJx4497a_appendDigit_d00df_0 : decode cJx4497a_appendDigit_d00df 0 = .ok (.aload_n 0, 1) := by decide +kernel
theorem dJx4497a_appendDigit_d00df_1 : decode cJx4497a_appendDigit_d00df 1 = .ok (.getfield 11, 3) := by decide +kernel
theorem dJx4497a_appendDigit_d00df_4 : decode cJx4497a_appendDigit_d00df 4 = .ok (.aload_n 0, 1) := by decide +kernel
theorem dJx4497a_appendDigit_d00df_5 : decode cJx4497a_appendDigit_d00df 5 = .ok (.dup, 1) := by decide +kernel
theorem dJx4497a_appendDigit_d00df_6 : decode cJx4497a_appendDigit_d00df 6 = .ok (.getfield 44, 3) := by decide +kernel
theorem dJx4497a_appendDigit_d00df_9 : decode cJx4497a_appendDigit_d00df 9 = .ok (.iconst 1, 1) := by decide +kernel
theorem dJx4497a_appendDigit_d00df_10 : decode cJx4497a_appendDigit_d00df 10 = .ok (.iadd, 1) := by decide +kernel
theorem dJx4497a_appendDigit_d00df_11 : decode cJx4497a_appendDigit_d00df 11 = .ok (.dup_x1, 1) := by decide +kernel
theorem dJx4497a_appendDigit_d00df_12 : decode cJx4497a_appendDigit_d00df 12 = .ok (.putfield 44, 3) := by decide +kernel
theorem dJx4497a_appendDigit_d00df_15 : decode cJx4497a_appendDigit_d00df 15 = .ok (.bipush 48, 2) := by decide +kernel
theorem dJx4497a_appendDigit_d00df_17 : decode cJx4497a_appendDigit_d00df 17 = .ok (.iload_n 1, 1) := by decide +kernel
theorem dJx4497a_appendDigit_d00df_18 : decode cJx4497a_appendDigit_d00df 18 = .ok (.iadd, 1) := by decide +kernel
theorem dJx4497a_appendDigit_d00df_19 : decode cJx4497a_appendDigit_d00df 19 = .ok (.i2b, 1) := by decide +kernel
theorem dJx4497a_appendDigit_d00df_20 : decode cJx4497a_appendDigit_d00df 20 = .ok (.bastore, 1) := by decide +kernel
theorem dJx4497a_appendDigit_d00df_21 : decode cJx4497a_appendDigit_d00df 21 = .ok (.return_, 1) := by decide +kernel
theorem dJx40b00_init_da8c8_0 : decode cJx40b00_init_da8c8 0 = .ok (.aload_n 0, 1) := by decide +kernel
theorem dJx40b00_init_da8c8_1 : decode cJx40b00_init_da8c8 1 = .ok (.invokespecial 5, 3) := by decide +kernel
theorem dJx40b00_init_da8c8_4 : decode cJx40b00_init_da8c8 4 = .ok (.aload_n 0, 1) := by decide +kernel
theorem dJx40b00_init_da8c8_5 : decode cJx40b00_init_da8c8 5 = .ok (.bipush 15, 2) := by decide +kernel
theorem dJx40b00_init_da8c8_7 : decode cJx40b00_init_da8c8 7 = .ok (.newarray .byte, 2) := by decide +kernel
theorem dJx40b00_init_da8c8_9 : decode cJx40b00_init_da8c8 9 = .ok (.putfield 11, 3) := by decide +kernel
theorem dJx40b00_init_da8c8_12 : decode cJx40b00_init_da8c8 12 = .ok (.return_, 1) := by decide +kernel
theorem dJx40b00_appendTo_8d9f2_0 : decode cJx40b00_appendTo_8d9f2 0 = .ok (.new 3, 3) := by decide +kernel
theorem dJx40b00_appendTo_8d9f2_3 : decode cJx40b00_appendTo_8d9f2 3 = .ok (.dup, 1) := by decide +kernel
theorem dJx40b00_appendTo_8d9f2_4 : decode cJx40b00_appendTo_8d9f2 4 = .ok (.invokespecial 15, 3) := by decide +kernel
theorem dJx40b00_appendTo_8d9f2_7 : decode cJx40b00_appendTo_8d9f2 7 = .ok (.fload_n 0, 1) := by decide +kernel
theorem dJx40b00_appendTo_8d9f2_8 : decode cJx40b00_appendTo_8d9f2 8 = .ok (.aload_n 1, 1) := by decide +kernel
theorem dJx40b00_appendTo_8d9f2_9 : decode cJx40b00_appendTo_8d9f2 9 = .ok (.invokevirtual 20, 3) := by decide +kernel
theorem dJx40b00_appendTo_8d9f2_12 : decode cJx40b00_appendTo_8d9f2 12 = .ok (.areturn, 1) := by decide +kernel
theorem dJx40b00_appendDecimalTo_8d9f2_0 : decode cJx40b00_appendDecimalTo_8d9f2 0 = .ok (.aload_n 0, 1) := by decide +kernel
theorem dJx40b00_appendDecimalTo_8d9f2_1 : decode cJx40b00_appendDecimalTo_8d9f2 1 = .ok (.fload_n 1, 1) := by decide +kernel
theorem dJx40b00_appendDecimalTo_8d9f2_2 : decode cJx40b00_appendDecimalTo_8d9f2 2 = .ok (.invokevirtual 24, 3) := by decide +kernel
theorem dJx40b00_appendDecimalTo_8d9f2_5 : decode cJx40b00_appendDecimalTo_8d9f2 5 = .ok (.tableswitch 190 0 4 #[35, 154, 163, 172, 181], 35) := by decide +kernel
theorem dJx40b00_appendDecimalTo_8d9f2_40 : decode cJx40b00_appendDecimalTo_8d9f2 40 = .ok (.aload_n 0, 1) := by decide +kernel
theorem dJx40b00_appendDecimalTo_8d9f2_41 : decode cJx40b00_appendDecimalTo_8d9f2 41 = .ok (.getfield 42, 3) := by decide +kernel
theorem dJx40b00_appendDecimalTo_8d9f2_44 : decode cJx40b00_appendDecimalTo_8d9f2 44 = .ok (.iconst 1, 1) := by decide +kernel
theorem dJx40b00_appendDecimalTo_8d9f2_45 : decode cJx40b00_appendDecimalTo_8d9f2 45 = .ok (.iadd, 1) := by decide +kernel
theorem dJx40b00_appendDecimalTo_8d9f2_46 : decode cJx40b00_appendDecimalTo_8d9f2 46 = .ok (.newarray .char, 2) := by decide +kernel
theorem dJx40b00_appendDecimalTo_8d9f2_48 : decode cJx40b00_appendDecimalTo_8d9f2 48 = .ok (.astore_n 3, 1) := by decide +kernel
theorem dJx40b00_appendDecimalTo_8d9f2_49 : decode cJx40b00_appendDecimalTo_8d9f2 49 = .ok (.iconst 0, 1) := by decide +kernel
theorem dJx40b00_appendDecimalTo_8d9f2_50 : decode cJx40b00_appendDecimalTo_8d9f2 50 = .ok (.istore 4, 2) := by decide +kernel
theorem dJx40b00_appendDecimalTo_8d9f2_52 : decode cJx40b00_appendDecimalTo_8d9f2 52 = .ok (.iload 4, 2) := by decide +kernel
theorem dJx40b00_appendDecimalTo_8d9f2_54 : decode cJx40b00_appendDecimalTo_8d9f2 54 = .ok (.aload_n 3, 1) := by decide +kernel
theorem dJx40b00_appendDecimalTo_8d9f2_55 : decode cJx40b00_appendDecimalTo_8d9f2 55 = .ok (.arraylength, 1) := by decide +kernel
theorem dJx40b00_appendDecimalTo_8d9f2_56 : decode cJx40b00_appendDecimalTo_8d9f2 56 = .ok (.if_icmp .ge 21, 3) := by decide +kernel
theorem dJx40b00_appendDecimalTo_8d9f2_59 : decode cJx40b00_appendDecimalTo_8d9f2 59 = .ok (.aload_n 3, 1) := by decide +kernel
theorem dJx40b00_appendDecimalTo_8d9f2_60 : decode cJx40b00_appendDecimalTo_8d9f2 60 = .ok (.iload 4, 2) := by decide +kernel
theorem dJx40b00_appendDecimalTo_8d9f2_62 : decode cJx40b00_appendDecimalTo_8d9f2 62 = .ok (.aload_n 0, 1) := by decide +kernel
theorem dJx40b00_appendDecimalTo_8d9f2_63 : decode cJx40b00_appendDecimalTo_8d9f2 63 = .ok (.getfield 11, 3) := by decide +kernel
theorem dJx40b00_appendDecimalTo_8d9f2_66 : decode cJx40b00_appendDecimalTo_8d9f2 66 = .ok (.iload 4, 2) := by decide +kernel
theorem dJx40b00_appendDecimalTo_8d9f2_68 : decode cJx40b00_appendDecimalTo_8d9f2 68 = .ok (.baload, 1) := by decide +kernel
theorem dJx40b00_appendDecimalTo_8d9f2_69 : decode cJx40b00_appendDecimalTo_8d9f2 69 = .ok (.i2c, 1) := by decide +kernel
theorem dJx40b00_appendDecimalTo_8d9f2_70 : decode cJx40b00_appendDecimalTo_8d9f2 70 = .ok (.castore, 1) := by decide +kernel
theorem dJx40b00_appendDecimalTo_8d9f2_71 : decode cJx40b00_appendDecimalTo_8d9f2 71 = .ok (.iinc 4 1, 3) := by decide +kernel
theorem dJx40b00_appendDecimalTo_8d9f2_74 : decode cJx40b00_appendDecimalTo_8d9f2 74 = .ok (.goto (-22), 3) := by decide +kernel
theorem dJx40b00_appendDecimalTo_8d9f2_77 : decode cJx40b00_appendDecimalTo_8d9f2 77 = .ok (.aload_n 2, 1) := by decide +kernel
theorem dJx40b00_appendDecimalTo_8d9f2_78 : decode cJx40b00_appendDecimalTo_8d9f2 78 = .ok (.instanceof 46, 3) := by decide +kernel
theorem dJx40b00_appendDecimalTo_8d9f2_81 : decode cJx40b00_appendDecimalTo_8d9f2 81 = .ok (.ifCond .eq 16, 3) := by decide +kernel
theorem dJx40b00_appendDecimalTo_8d9f2_84 : decode cJx40b00_appendDecimalTo_8d9f2 84 = .ok (.aload_n 2, 1) := by decide +kernel
theorem dJx40b00_appendDecimalTo_8d9f2_85 : decode cJx40b00_appendDecimalTo_8d9f2 85 = .ok (.checkcast 46, 3) := by decide +kernel
theorem dJx40b00_appendDecimalTo_8d9f2_88 : decode cJx40b00_appendDecimalTo_8d9f2 88 = .ok (.astore 4, 2) := by decide +kernel
theorem dJx40b00_appendDecimalTo_8d9f2_90 : decode cJx40b00_appendDecimalTo_8d9f2 90 = .ok (.aload 4, 2) := by decide +kernel
theorem dJx40b00_appendDecimalTo_8d9f2_92 : decode cJx40b00_appendDecimalTo_8d9f2 92 = .ok (.aload_n 3, 1) := by decide +kernel
theorem dJx40b00_appendDecimalTo_8d9f2_93 : decode cJx40b00_appendDecimalTo_8d9f2 93 = .ok (.invokevirtual 48, 3) := by decide +kernel
theorem dJx40b00_appendDecimalTo_8d9f2_96 : decode cJx40b00_appendDecimalTo_8d9f2 96 = .ok (.areturn, 1) := by decide +kernel
theorem dJx40b00_appendDecimalTo_8d9f2_97 : decode cJx40b00_appendDecimalTo_8d9f2 97 = .ok (.aload_n 2, 1) := by decide +kernel
theorem dJx40b00_appendDecimalTo_8d9f2_98 : decode cJx40b00_appendDecimalTo_8d9f2 98 = .ok (.instanceof 52, 3) := by decide +kernel
theorem dJx40b00_appendDecimalTo_8d9f2_101 : decode cJx40b00_appendDecimalTo_8d9f2 101 = .ok (.ifCond .eq 16, 3) := by decide +kernel
theorem dJx40b00_appendDecimalTo_8d9f2_104 : decode cJx40b00_appendDecimalTo_8d9f2 104 = .ok (.aload_n 2, 1) := by decide +kernel
theorem dJx40b00_appendDecimalTo_8d9f2_105 : decode cJx40b00_appendDecimalTo_8d9f2 105 = .ok (.checkcast 52, 3) := by decide +kernel
theorem dJx40b00_appendDecimalTo_8d9f2_108 : decode cJx40b00_appendDecimalTo_8d9f2 108 = .ok (.astore 4, 2) := by decide +kernel
theorem dJx40b00_appendDecimalTo_8d9f2_110 : decode cJx40b00_appendDecimalTo_8d9f2 110 = .ok (.aload 4, 2) := by decide +kernel
theorem dJx40b00_appendDecimalTo_8d9f2_112 : decode cJx40b00_appendDecimalTo_8d9f2 112 = .ok (.aload_n 3, 1) := by decide +kernel
theorem dJx40b00_appendDecimalTo_8d9f2_113 : decode cJx40b00_appendDecimalTo_8d9f2 113 = .ok (.invokevirtual 54, 3) := by decide +kernel
theorem dJx40b00_appendDecimalTo_8d9f2_116 : decode cJx40b00_appendDecimalTo_8d9f2 116 = .ok (.areturn, 1) := by decide +kernel
theorem dJx40b00_appendDecimalTo_8d9f2_117 : decode cJx40b00_appendDecimalTo_8d9f2 117 = .ok (.aload_n 3, 1) := by decide +kernel
theorem dJx40b00_appendDecimalTo_8d9f2_118 : decode cJx40b00_appendDecimalTo_8d9f2 118 = .ok (.astore 4, 2) := by decide +kernel
theorem dJx40b00_appendDecimalTo_8d9f2_120 : decode cJx40b00_appendDecimalTo_8d9f2 120 = .ok (.aload 4, 2) := by decide +kernel
theorem dJx40b00_appendDecimalTo_8d9f2_122 : decode cJx40b00_appendDecimalTo_8d9f2 122 = .ok (.arraylength, 1) := by decide +kernel
theorem dJx40b00_appendDecimalTo_8d9f2_123 : decode cJx40b00_appendDecimalTo_8d9f2 123 = .ok (.istore 5, 2) := by decide +kernel
theorem dJx40b00_appendDecimalTo_8d9f2_125 : decode cJx40b00_appendDecimalTo_8d9f2 125 = .ok (.iconst 0, 1) := by decide +kernel
theorem dJx40b00_appendDecimalTo_8d9f2_126 : decode cJx40b00_appendDecimalTo_8d9f2 126 = .ok (.istore 6, 2) := by decide +kernel
theorem dJx40b00_appendDecimalTo_8d9f2_128 : decode cJx40b00_appendDecimalTo_8d9f2 128 = .ok (.iload 6, 2) := by decide +kernel
theorem dJx40b00_appendDecimalTo_8d9f2_130 : decode cJx40b00_appendDecimalTo_8d9f2 130 = .ok (.iload 5, 2) := by decide +kernel
theorem dJx40b00_appendDecimalTo_8d9f2_132 : decode cJx40b00_appendDecimalTo_8d9f2 132 = .ok (.if_icmp .ge 25, 3) := by decide +kernel
theorem dJx40b00_appendDecimalTo_8d9f2_135 : decode cJx40b00_appendDecimalTo_8d9f2 135 = .ok (.aload 4, 2) := by decide +kernel
theorem dJx40b00_appendDecimalTo_8d9f2_137 : decode cJx40b00_appendDecimalTo_8d9f2 137 = .ok (.iload 6, 2) := by decide +kernel
theorem dJx40b00_appendDecimalTo_8d9f2_139 : decode cJx40b00_appendDecimalTo_8d9f2 139 = .ok (.caload, 1) := by decide +kernel
theorem dJx40b00_appendDecimalTo_8d9f2_140 : decode cJx40b00_appendDecimalTo_8d9f2 140 = .ok (.istore 7, 2) := by decide +kernel
theorem dJx40b00_appendDecimalTo_8d9f2_142 : decode cJx40b00_appendDecimalTo_8d9f2 142 = .ok (.aload_n 2, 1) := by decide +kernel
theorem dJx40b00_appendDecimalTo_8d9f2_143 : decode cJx40b00_appendDecimalTo_8d9f2 143 = .ok (.iload 7, 2) := by decide +kernel
theorem dJx40b00_appendDecimalTo_8d9f2_145 : decode cJx40b00_appendDecimalTo_8d9f2 145 = .ok (.invokeinterface 57 2, 5) := by decide +kernel
theorem dJx40b00_appendDecimalTo_8d9f2_150 : decode cJx40b00_appendDecimalTo_8d9f2 150 = .ok (.pop, 1) := by decide +kernel
theorem dJx40b00_appendDecimalTo_8d9f2_151 : decode cJx40b00_appendDecimalTo_8d9f2 151 = .ok (.iinc 6 1, 3) := by decide +kernel
theorem dJx40b00_appendDecimalTo_8d9f2_154 : decode cJx40b00_appendDecimalTo_8d9f2 154 = .ok (.goto (-26), 3) := by decide +kernel
theorem dJx40b00_appendDecimalTo_8d9f2_157 : decode cJx40b00_appendDecimalTo_8d9f2 157 = .ok (.aload_n 2, 1) := by decide +kernel
theorem dJx40b00_appendDecimalTo_8d9f2_158 : decode cJx40b00_appendDecimalTo_8d9f2 158 = .ok (.areturn, 1) := by decide +kernel
theorem dJx40b00_appendDecimalTo_8d9f2_159 : decode cJx40b00_appendDecimalTo_8d9f2 159 = .ok (.aload_n 2, 1) := by decide +kernel
theorem dJx40b00_appendDecimalTo_8d9f2_160 : decode cJx40b00_appendDecimalTo_8d9f2 160 = .ok (.ldc 32, 2) := by decide +kernel
theorem dJx40b00_appendDecimalTo_8d9f2_162 : decode cJx40b00_appendDecimalTo_8d9f2 162 = .ok (.invokeinterface 62 2, 5) := by decide +kernel
theorem dJx40b00_appendDecimalTo_8d9f2_167 : decode cJx40b00_appendDecimalTo_8d9f2 167 = .ok (.areturn, 1) := by decide +kernel
theorem dJx40b00_appendDecimalTo_8d9f2_168 : decode cJx40b00_appendDecimalTo_8d9f2 168 = .ok (.aload_n 2, 1) := by decide +kernel
theorem dJx40b00_appendDecimalTo_8d9f2_169 : decode cJx40b00_appendDecimalTo_8d9f2 169 = .ok (.ldc 34, 2) := by decide +kernel
theorem dJx40b00_appendDecimalTo_8d9f2_171 : decode cJx40b00_appendDecimalTo_8d9f2 171 = .ok (.invokeinterface 62 2, 5) := by decide +kernel
theorem dJx40b00_appendDecimalTo_8d9f2_176 : decode cJx40b00_appendDecimalTo_8d9f2 176 = .ok (.areturn, 1) := by decide +kernel
theorem dJx40b00_appendDecimalTo_8d9f2_177 : decode cJx40b00_appendDecimalTo_8d9f2 177 = .ok (.aload_n 2, 1) := by decide +kernel
theorem dJx40b00_appendDecimalTo_8d9f2_178 : decode cJx40b00_appendDecimalTo_8d9f2 178 = .ok (.ldc 36, 2) := by decide +kernel
theorem dJx40b00_appendDecimalTo_8d9f2_180 : decode cJx40b00_appendDecimalTo_8d9f2 180 = .ok (.invokeinterface 62 2, 5) := by decide +kernel
theorem dJx40b00_appendDecimalTo_8d9f2_185 : decode cJx40b00_appendDecimalTo_8d9f2 185 = .ok (.areturn, 1) := by decide +kernel
theorem dJx40b00_appendDecimalTo_8d9f2_186 : decode cJx40b00_appendDecimalTo_8d9f2 186 = .ok (.aload_n 2, 1) := by decide +kernel
theorem dJx40b00_appendDecimalTo_8d9f2_187 : decode cJx40b00_appendDecimalTo_8d9f2 187 = .ok (.ldc 38, 2) := by decide +kernel
theorem dJx40b00_appendDecimalTo_8d9f2_189 : decode cJx40b00_appendDecimalTo_8d9f2 189 = .ok (.invokeinterface 62 2, 5) := by decide +kernel
theorem dJx40b00_appendDecimalTo_8d9f2_194 : decode cJx40b00_appendDecimalTo_8d9f2 194 = .ok (.areturn, 1) := by decide +kernel
theorem dJx40b00_appendDecimalTo_8d9f2_195 : decode cJx40b00_appendDecimalTo_8d9f2 195 = .ok (.aload_n 2, 1) := by decide +kernel
theorem dJx40b00_appendDecimalTo_8d9f2_196 : decode cJx40b00_appendDecimalTo_8d9f2 196 = .ok (.ldc 40, 2) := by decide +kernel
theorem dJx40b00_appendDecimalTo_8d9f2_198 : decode cJx40b00_appendDecimalTo_8d9f2 198 = .ok (.invokeinterface 62 2, 5) := by decide +kernel
theorem dJx40b00_appendDecimalTo_8d9f2_203 : decode cJx40b00_appendDecimalTo_8d9f2 203 = .ok (.areturn, 1) := by decide +kernel
theorem dJx40b00_toDecimal_5c35a_0 : decode cJx40b00_toDecimal_5c35a 0 = .ok (.fload_n 1, 1) := by decide +kernel
theorem dJx40b00_toDecimal_5c35a_1 : decode cJx40b00_toDecimal_5c35a 1 = .ok (.invokestatic 65, 3) := by decide +kernel
theorem dJx40b00_toDecimal_5c35a_4 : decode cJx40b00_toDecimal_5c35a 4 = .ok (.istore_n 2, 1) := by decide +kernel
theorem dJx40b00_toDecimal_5c35a_5 : decode cJx40b00_toDecimal_5c35a 5 = .ok (.iload_n 2, 1) := by decide +kernel
theorem dJx40b00_toDecimal_5c35a_6 : decode cJx40b00_toDecimal_5c35a 6 = .ok (.ldc 68, 2) := by decide +kernel
theorem dJx40b00_toDecimal_5c35a_8 : decode cJx40b00_toDecimal_5c35a 8 = .ok (.iand, 1) := by decide +kernel
theorem dJx40b00_toDecimal_5c35a_9 : decode cJx40b00_toDecimal_5c35a 9 = .ok (.istore_n 3, 1) := by decide +kernel
theorem dJx40b00_toDecimal_5c35a_10 : decode cJx40b00_toDecimal_5c35a 10 = .ok (.iload_n 2, 1) := by decide +kernel
theorem dJx40b00_toDecimal_5c35a_11 : decode cJx40b00_toDecimal_5c35a 11 = .ok (.bipush 23, 2) := by decide +kernel
theorem dJx40b00_toDecimal_5c35a_13 : decode cJx40b00_toDecimal_5c35a 13 = .ok (.iushr, 1) := by decide +kernel
theorem dJx40b00_toDecimal_5c35a_14 : decode cJx40b00_toDecimal_5c35a 14 = .ok (.sipush 255, 3) := by decide +kernel
theorem dJx40b00_toDecimal_5c35a_17 : decode cJx40b00_toDecimal_5c35a 17 = .ok (.iand, 1) := by decide +kernel
theorem dJx40b00_toDecimal_5c35a_18 : decode cJx40b00_toDecimal_5c35a 18 = .ok (.istore 4, 2) := by decide +kernel
theorem dJx40b00_toDecimal_5c35a_20 : decode cJx40b00_toDecimal_5c35a 20 = .ok (.iload 4, 2) := by decide +kernel
theorem dJx40b00_toDecimal_5c35a_22 : decode cJx40b00_toDecimal_5c35a 22 = .ok (.sipush 255, 3) := by decide +kernel
theorem dJx40b00_toDecimal_5c35a_25 : decode cJx40b00_toDecimal_5c35a 25 = .ok (.if_icmp .ge 145, 3) := by decide +kernel
theorem dJx40b00_toDecimal_5c35a_28 : decode cJx40b00_toDecimal_5c35a 28 = .ok (.aload_n 0, 1) := by decide +kernel
theorem dJx40b00_toDecimal_5c35a_29 : decode cJx40b00_toDecimal_5c35a 29 = .ok (.iconst (-1), 1) := by decide +kernel
theorem dJx40b00_toDecimal_5c35a_30 : decode cJx40b00_toDecimal_5c35a 30 = .ok (.putfield 42, 3) := by decide +kernel
theorem dJx40b00_toDecimal_5c35a_33 : decode cJx40b00_toDecimal_5c35a 33 = .ok (.iload_n 2, 1) := by decide +kernel
theorem dJx40b00_toDecimal_5c35a_34 : decode cJx40b00_toDecimal_5c35a 34 = .ok (.ifCond .ge 9, 3) := by decide +kernel
theorem dJx40b00_toDecimal_5c35a_37 : decode cJx40b00_toDecimal_5c35a 37 = .ok (.aload_n 0, 1) := by decide +kernel
theorem dJx40b00_toDecimal_5c35a_38 : decode cJx40b00_toDecimal_5c35a 38 = .ok (.bipush 45, 2) := by decide +kernel
theorem dJx40b00_toDecimal_5c35a_40 : decode cJx40b00_toDecimal_5c35a 40 = .ok (.invokevirtual 69, 3) := by decide +kernel
theorem dJx40b00_toDecimal_5c35a_43 : decode cJx40b00_toDecimal_5c35a 43 = .ok (.iload 4, 2) := by decide +kernel
theorem dJx40b00_toDecimal_5c35a_45 : decode cJx40b00_toDecimal_5c35a 45 = .ok (.ifCond .eq 80, 3) := by decide +kernel
theorem dJx40b00_toDecimal_5c35a_48 : decode cJx40b00_toDecimal_5c35a 48 = .ok (.sipush 150, 3) := by decide +kernel
theorem dJx40b00_toDecimal_5c35a_51 : decode cJx40b00_toDecimal_5c35a 51 = .ok (.iload 4, 2) := by decide +kernel
theorem dJx40b00_toDecimal_5c35a_53 : decode cJx40b00_toDecimal_5c35a 53 = .ok (.isub, 1) := by decide +kernel
theorem dJx40b00_toDecimal_5c35a_54 : decode cJx40b00_toDecimal_5c35a 54 = .ok (.istore 5, 2) := by decide +kernel
theorem dJx40b00_toDecimal_5c35a_56 : decode cJx40b00_toDecimal_5c35a 56 = .ok (.ldc 72, 2) := by decide +kernel
theorem dJx40b00_toDecimal_5c35a_58 : decode cJx40b00_toDecimal_5c35a 58 = .ok (.iload_n 3, 1) := by decide +kernel
theorem dJx40b00_toDecimal_5c35a_59 : decode cJx40b00_toDecimal_5c35a 59 = .ok (.ior, 1) := by decide +kernel
theorem dJx40b00_toDecimal_5c35a_60 : decode cJx40b00_toDecimal_5c35a 60 = .ok (.istore 6, 2) := by decide +kernel
theorem dJx40b00_toDecimal_5c35a_62 : decode cJx40b00_toDecimal_5c35a 62 = .ok (.iconst 0, 1) := by decide +kernel
theorem dJx40b00_toDecimal_5c35a_63 : decode cJx40b00_toDecimal_5c35a 63 = .ok (.iload 5, 2) := by decide +kernel
theorem dJx40b00_toDecimal_5c35a_65 : decode cJx40b00_toDecimal_5c35a 65 = .ok (.if_icmp .ge 7, 3) := by decide +kernel
theorem dJx40b00_toDecimal_5c35a_68 : decode cJx40b00_toDecimal_5c35a 68 = .ok (.iconst 1, 1) := by decide +kernel
theorem dJx40b00_toDecimal_5c35a_69 : decode cJx40b00_toDecimal_5c35a 69 = .ok (.goto 4, 3) := by decide +kernel
theorem dJx40b00_toDecimal_5c35a_72 : decode cJx40b00_toDecimal_5c35a 72 = .ok (.iconst 0, 1) := by decide +kernel
theorem dJx40b00_toDecimal_5c35a_73 : decode cJx40b00_toDecimal_5c35a 73 = .ok (.iload 5, 2) := by decide +kernel
theorem dJx40b00_toDecimal_5c35a_75 : decode cJx40b00_toDecimal_5c35a 75 = .ok (.bipush 24, 2) := by decide +kernel
theorem dJx40b00_toDecimal_5c35a_77 : decode cJx40b00_toDecimal_5c35a 77 = .ok (.if_icmp .ge 7, 3) := by decide +kernel
theorem dJx40b00_toDecimal_5c35a_80 : decode cJx40b00_toDecimal_5c35a 80 = .ok (.iconst 1, 1) := by decide +kernel
theorem dJx40b00_toDecimal_5c35a_81 : decode cJx40b00_toDecimal_5c35a 81 = .ok (.goto 4, 3) := by decide +kernel
theorem dJx40b00_toDecimal_5c35a_84 : decode cJx40b00_toDecimal_5c35a 84 = .ok (.iconst 0, 1) := by decide +kernel
theorem dJx40b00_toDecimal_5c35a_85 : decode cJx40b00_toDecimal_5c35a 85 = .ok (.iand, 1) := by decide +kernel
theorem dJx40b00_toDecimal_5c35a_86 : decode cJx40b00_toDecimal_5c35a 86 = .ok (.ifCond .eq 28, 3) := by decide +kernel
theorem dJx40b00_toDecimal_5c35a_89 : decode cJx40b00_toDecimal_5c35a 89 = .ok (.iload 6, 2) := by decide +kernel
theorem dJx40b00_toDecimal_5c35a_91 : decode cJx40b00_toDecimal_5c35a 91 = .ok (.iload 5, 2) := by decide +kernel
theorem dJx40b00_toDecimal_5c35a_93 : decode cJx40b00_toDecimal_5c35a 93 = .ok (.ishr, 1) := by decide +kernel
theorem dJx40b00_toDecimal_5c35a_94 : decode cJx40b00_toDecimal_5c35a 94 = .ok (.istore 7, 2) := by decide +kernel
theorem dJx40b00_toDecimal_5c35a_96 : decode cJx40b00_toDecimal_5c35a 96 = .ok (.iload 7, 2) := by decide +kernel
theorem dJx40b00_toDecimal_5c35a_98 : decode cJx40b00_toDecimal_5c35a 98 = .ok (.iload 5, 2) := by decide +kernel
theorem dJx40b00_toDecimal_5c35a_100 : decode cJx40b00_toDecimal_5c35a 100 = .ok (.ishl, 1) := by decide +kernel
theorem dJx40b00_toDecimal_5c35a_101 : decode cJx40b00_toDecimal_5c35a 101 = .ok (.iload 6, 2) := by decide +kernel
theorem dJx40b00_toDecimal_5c35a_103 : decode cJx40b00_toDecimal_5c35a 103 = .ok (.if_icmp .ne 11, 3) := by decide +kernel
theorem dJx40b00_toDecimal_5c35a_106 : decode cJx40b00_toDecimal_5c35a 106 = .ok (.aload_n 0, 1) := by decide +kernel
theorem dJx40b00_toDecimal_5c35a_107 : decode cJx40b00_toDecimal_5c35a 107 = .ok (.iload 7, 2) := by decide +kernel
theorem dJx40b00_toDecimal_5c35a_109 : decode cJx40b00_toDecimal_5c35a 109 = .ok (.iconst 0, 1) := by decide +kernel
theorem dJx40b00_toDecimal_5c35a_110 : decode cJx40b00_toDecimal_5c35a 110 = .ok (.invokevirtual 73, 3) := by decide +kernel
theorem dJx40b00_toDecimal_5c35a_113 : decode cJx40b00_toDecimal_5c35a 113 = .ok (.ireturn, 1) := by decide +kernel
theorem dJx40b00_toDecimal_5c35a_114 : decode cJx40b00_toDecimal_5c35a 114 = .ok (.aload_n 0, 1) := by decide +kernel
theorem dJx40b00_toDecimal_5c35a_115 : decode cJx40b00_toDecimal_5c35a 115 = .ok (.iload 5, 2) := by decide +kernel
theorem dJx40b00_toDecimal_5c35a_117 : decode cJx40b00_toDecimal_5c35a 117 = .ok (.ineg, 1) := by decide +kernel
theorem dJx40b00_toDecimal_5c35a_118 : decode cJx40b00_toDecimal_5c35a 118 = .ok (.iload 6, 2) := by decide +kernel
theorem dJx40b00_toDecimal_5c35a_120 : decode cJx40b00_toDecimal_5c35a 120 = .ok (.iconst 0, 1) := by decide +kernel
theorem dJx40b00_toDecimal_5c35a_121 : decode cJx40b00_toDecimal_5c35a 121 = .ok (.invokevirtual 77, 3) := by decide +kernel
theorem dJx40b00_toDecimal_5c35a_124 : decode cJx40b00_toDecimal_5c35a 124 = .ok (.ireturn, 1) := by decide +kernel
theorem dJx40b00_toDecimal_5c35a_125 : decode cJx40b00_toDecimal_5c35a 125 = .ok (.iload_n 3, 1) := by decide +kernel
theorem dJx40b00_toDecimal_5c35a_126 : decode cJx40b00_toDecimal_5c35a 126 = .ok (.ifCond .eq 34, 3) := by decide +kernel
theorem dJx40b00_toDecimal_5c35a_129 : decode cJx40b00_toDecimal_5c35a 129 = .ok (.iload_n 3, 1) := by decide +kernel
theorem dJx40b00_toDecimal_5c35a_130 : decode cJx40b00_toDecimal_5c35a 130 = .ok (.bipush 8, 2) := by decide +kernel
theorem dJx40b00_toDecimal_5c35a_132 : decode cJx40b00_toDecimal_5c35a 132 = .ok (.if_icmp .ge 18, 3) := by decide +kernel
theorem dJx40b00_toDecimal_5c35a_135 : decode cJx40b00_toDecimal_5c35a 135 = .ok (.aload_n 0, 1) := by decide +kernel
theorem dJx40b00_toDecimal_5c35a_136 : decode cJx40b00_toDecimal_5c35a 136 = .ok (.sipush (-149), 3) := by decide +kernel
theorem dJx40b00_toDecimal_5c35a_139 : decode cJx40b00_toDecimal_5c35a 139 = .ok (.bipush 10, 2) := by decide +kernel
theorem dJx40b00_toDecimal_5c35a_141 : decode cJx40b00_toDecimal_5c35a 141 = .ok (.iload_n 3, 1) := by decide +kernel
theorem dJx40b00_toDecimal_5c35a_142 : decode cJx40b00_toDecimal_5c35a 142 = .ok (.imul, 1) := by decide +kernel
theorem dJx40b00_toDecimal_5c35a_143 : decode cJx40b00_toDecimal_5c35a 143 = .ok (.iconst (-1), 1) := by decide +kernel
theorem dJx40b00_toDecimal_5c35a_144 : decode cJx40b00_toDecimal_5c35a 144 = .ok (.invokevirtual 77, 3) := by decide +kernel
theorem dJx40b00_toDecimal_5c35a_147 : decode cJx40b00_toDecimal_5c35a 147 = .ok (.goto 12, 3) := by decide +kernel
theorem dJx40b00_toDecimal_5c35a_150 : decode cJx40b00_toDecimal_5c35a 150 = .ok (.aload_n 0, 1) := by decide +kernel
theorem dJx40b00_toDecimal_5c35a_151 : decode cJx40b00_toDecimal_5c35a 151 = .ok (.sipush (-149), 3) := by decide +kernel
theorem dJx40b00_toDecimal_5c35a_154 : decode cJx40b00_toDecimal_5c35a 154 = .ok (.iload_n 3, 1) := by decide +kernel
theorem dJx40b00_toDecimal_5c35a_155 : decode cJx40b00_toDecimal_5c35a 155 = .ok (.iconst 0, 1) := by decide +kernel
theorem dJx40b00_toDecimal_5c35a_156 : decode cJx40b00_toDecimal_5c35a 156 = .ok (.invokevirtual 77, 3) := by decide +kernel
theorem dJx40b00_toDecimal_5c35a_159 : decode cJx40b00_toDecimal_5c35a 159 = .ok (.ireturn, 1) := by decide +kernel
theorem dJx40b00_toDecimal_5c35a_160 : decode cJx40b00_toDecimal_5c35a 160 = .ok (.iload_n 2, 1) := by decide +kernel
theorem dJx40b00_toDecimal_5c35a_161 : decode cJx40b00_toDecimal_5c35a 161 = .ok (.ifCond .ne 7, 3) := by decide +kernel
theorem dJx40b00_toDecimal_5c35a_164 : decode cJx40b00_toDecimal_5c35a 164 = .ok (.iconst 1, 1) := by decide +kernel
theorem dJx40b00_toDecimal_5c35a_165 : decode cJx40b00_toDecimal_5c35a 165 = .ok (.goto 4, 3) := by decide +kernel
theorem dJx40b00_toDecimal_5c35a_168 : decode cJx40b00_toDecimal_5c35a 168 = .ok (.iconst 2, 1) := by decide +kernel
theorem dJx40b00_toDecimal_5c35a_169 : decode cJx40b00_toDecimal_5c35a 169 = .ok (.ireturn, 1) := by decide +kernel
theorem dJx40b00_toDecimal_5c35a_170 : decode cJx40b00_toDecimal_5c35a 170 = .ok (.iload_n 3, 1) := by decide +kernel
theorem dJx40b00_toDecimal_5c35a_171 : decode cJx40b00_toDecimal_5c35a 171 = .ok (.ifCond .eq 5, 3) := by decide +kernel
theorem dJx40b00_toDecimal_5c35a_174 : decode cJx40b00_toDecimal_5c35a 174 = .ok (.iconst 5, 1) := by decide +kernel
theorem dJx40b00_toDecimal_5c35a_175 : decode cJx40b00_toDecimal_5c35a 175 = .ok (.ireturn, 1) := by decide +kernel
theorem dJx40b00_toDecimal_5c35a_176 : decode cJx40b00_toDecimal_5c35a 176 = .ok (.iload_n 2, 1) := by decide +kernel
theorem dJx40b00_toDecimal_5c35a_177 : decode cJx40b00_toDecimal_5c35a 177 = .ok (.ifCond .le 7, 3) := by decide +kernel
theorem dJx40b00_toDecimal_5c35a_180 : decode cJx40b00_toDecimal_5c35a 180 = .ok (.iconst 3, 1) := by decide +kernel
theorem dJx40b00_toDecimal_5c35a_181 : decode cJx40b00_toDecimal_5c35a 181 = .ok (.goto 4, 3) := by decide +kernel
theorem dJx40b00_toDecimal_5c35a_184 : decode cJx40b00_toDecimal_5c35a 184 = .ok (.iconst 4, 1) := by decide +kernel
theorem dJx40b00_toDecimal_5c35a_185 : decode cJx40b00_toDecimal_5c35a 185 = .ok (.ireturn, 1) := by decide +kernel
theorem dJx40b00_toDecimal_cabcc_0 : decode cJx40b00_toDecimal_cabcc 0 = .ok (.iload_n 2, 1) := by decide +kernel
theorem dJx40b00_toDecimal_cabcc_1 : decode cJx40b00_toDecimal_cabcc 1 = .ok (.iconst 1, 1) := by decide +kernel
theorem dJx40b00_toDecimal_cabcc_2 : decode cJx40b00_toDecimal_cabcc 2 = .ok (.iand, 1) := by decide +kernel
theorem dJx40b00_toDecimal_cabcc_3 : decode cJx40b00_toDecimal_cabcc 3 = .ok (.istore 4, 2) := by decide +kernel
theorem dJx40b00_toDecimal_cabcc_5 : decode cJx40b00_toDecimal_cabcc 5 = .ok (.iload_n 2, 1) := by decide +kernel
theorem dJx40b00_toDecimal_cabcc_6 : decode cJx40b00_toDecimal_cabcc 6 = .ok (.iconst 2, 1) := by decide +kernel
theorem dJx40b00_toDecimal_cabcc_7 : decode cJx40b00_toDecimal_cabcc 7 = .ok (.ishl, 1) := by decide +kernel
theorem dJx40b00_toDecimal_cabcc_8 : decode cJx40b00_toDecimal_cabcc 8 = .ok (.i2l, 1) := by decide +kernel
theorem dJx40b00_toDecimal_cabcc_9 : decode cJx40b00_toDecimal_cabcc 9 = .ok (.lstore 5, 2) := by decide +kernel
theorem dJx40b00_toDecimal_cabcc_11 : decode cJx40b00_toDecimal_cabcc 11 = .ok (.lload 5, 2) := by decide +kernel
theorem dJx40b00_toDecimal_cabcc_13 : decode cJx40b00_toDecimal_cabcc 13 = .ok (.ldc2_w 80, 3) := by decide +kernel
theorem dJx40b00_toDecimal_cabcc_16 : decode cJx40b00_toDecimal_cabcc 16 = .ok (.ladd, 1) := by decide +kernel
theorem dJx40b00_toDecimal_cabcc_17 : decode cJx40b00_toDecimal_cabcc 17 = .ok (.lstore 7, 2) := by decide +kernel
theorem dJx40b00_toDecimal_cabcc_19 : decode cJx40b00_toDecimal_cabcc 19 = .ok (.iload_n 2, 1) := by decide +kernel
theorem dJx40b00_toDecimal_cabcc_20 : decode cJx40b00_toDecimal_cabcc 20 = .ok (.ldc 72, 2) := by decide +kernel
theorem dJx40b00_toDecimal_cabcc_22 : decode cJx40b00_toDecimal_cabcc 22 = .ok (.if_icmp .eq 7, 3) := by decide +kernel
theorem dJx40b00_toDecimal_cabcc_25 : decode cJx40b00_toDecimal_cabcc 25 = .ok (.iconst 1, 1) := by decide +kernel
theorem dJx40b00_toDecimal_cabcc_26 : decode cJx40b00_toDecimal_cabcc 26 = .ok (.goto 4, 3) := by decide +kernel
theorem dJx40b00_toDecimal_cabcc_29 : decode cJx40b00_toDecimal_cabcc 29 = .ok (.iconst 0, 1) := by decide +kernel
theorem dJx40b00_toDecimal_cabcc_30 : decode cJx40b00_toDecimal_cabcc 30 = .ok (.iload_n 1, 1) := by decide +kernel
theorem dJx40b00_toDecimal_cabcc_31 : decode cJx40b00_toDecimal_cabcc 31 = .ok (.sipush (-149), 3) := by decide +kernel
theorem dJx40b00_toDecimal_cabcc_34 : decode cJx40b00_toDecimal_cabcc 34 = .ok (.if_icmp .ne 7, 3) := by decide +kernel
theorem dJx40b00_toDecimal_cabcc_37 : decode cJx40b00_toDecimal_cabcc 37 = .ok (.iconst 1, 1) := by decide +kernel
theorem dJx40b00_toDecimal_cabcc_38 : decode cJx40b00_toDecimal_cabcc 38 = .ok (.goto 4, 3) := by decide +kernel
theorem dJx40b00_toDecimal_cabcc_41 : decode cJx40b00_toDecimal_cabcc 41 = .ok (.iconst 0, 1) := by decide +kernel
theorem dJx40b00_toDecimal_cabcc_42 : decode cJx40b00_toDecimal_cabcc 42 = .ok (.ior, 1) := by decide +kernel
theorem dJx40b00_toDecimal_cabcc_43 : decode cJx40b00_toDecimal_cabcc 43 = .ok (.ifCond .eq 20, 3) := by decide +kernel
theorem dJx40b00_toDecimal_cabcc_46 : decode cJx40b00_toDecimal_cabcc 46 = .ok (.lload 5, 2) := by decide +kernel
theorem dJx40b00_toDecimal_cabcc_48 : decode cJx40b00_toDecimal_cabcc 48 = .ok (.ldc2_w 80, 3) := by decide +kernel
theorem dJx40b00_toDecimal_cabcc_51 : decode cJx40b00_toDecimal_cabcc 51 = .ok (.lsub, 1) := by decide +kernel
theorem dJx40b00_toDecimal_cabcc_52 : decode cJx40b00_toDecimal_cabcc 52 = .ok (.lstore 9, 2) := by decide +kernel
theorem dJx40b00_toDecimal_cabcc_54 : decode cJx40b00_toDecimal_cabcc 54 = .ok (.iload_n 1, 1) := by decide +kernel
theorem dJx40b00_toDecimal_cabcc_55 : decode cJx40b00_toDecimal_cabcc 55 = .ok (.invokestatic 82, 3) := by decide +kernel
theorem dJx40b00_toDecimal_cabcc_58 : decode cJx40b00_toDecimal_cabcc 58 = .ok (.istore 11, 2) := by decide +kernel
theorem dJx40b00_toDecimal_cabcc_60 : decode cJx40b00_toDecimal_cabcc 60 = .ok (.goto 15, 3) := by decide +kernel
theorem dJx40b00_toDecimal_cabcc_63 : decode cJx40b00_toDecimal_cabcc 63 = .ok (.lload 5, 2) := by decide +kernel
theorem dJx40b00_toDecimal_cabcc_65 : decode cJx40b00_toDecimal_cabcc 65 = .ok (.lconst 1, 1) := by decide +kernel
theorem dJx40b00_toDecimal_cabcc_66 : decode cJx40b00_toDecimal_cabcc 66 = .ok (.lsub, 1) := by decide +kernel
theorem dJx40b00_toDecimal_cabcc_67 : decode cJx40b00_toDecimal_cabcc 67 = .ok (.lstore 9, 2) := by decide +kernel
theorem dJx40b00_toDecimal_cabcc_69 : decode cJx40b00_toDecimal_cabcc 69 = .ok (.iload_n 1, 1) := by decide +kernel
theorem dJx40b00_toDecimal_cabcc_70 : decode cJx40b00_toDecimal_cabcc 70 = .ok (.invokestatic 88, 3) := by decide +kernel
theorem dJx40b00_toDecimal_cabcc_73 : decode cJx40b00_toDecimal_cabcc 73 = .ok (.istore 11, 2) := by decide +kernel
theorem dJx40b00_toDecimal_cabcc_75 : decode cJx40b00_toDecimal_cabcc 75 = .ok (.iload_n 1, 1) := by decide +kernel
theorem dJx40b00_toDecimal_cabcc_76 : decode cJx40b00_toDecimal_cabcc 76 = .ok (.iload 11, 2) := by decide +kernel
theorem dJx40b00_toDecimal_cabcc_78 : decode cJx40b00_toDecimal_cabcc 78 = .ok (.ineg, 1) := by decide +kernel
theorem dJx40b00_toDecimal_cabcc_79 : decode cJx40b00_toDecimal_cabcc 79 = .ok (.invokestatic 91, 3) := by decide +kernel
theorem dJx40b00_toDecimal_cabcc_82 : decode cJx40b00_toDecimal_cabcc 82 = .ok (.iadd, 1) := by decide +kernel
theorem dJx40b00_toDecimal_cabcc_83 : decode cJx40b00_toDecimal_cabcc 83 = .ok (.bipush 33, 2) := by decide +kernel
theorem dJx40b00_toDecimal_cabcc_85 : decode cJx40b00_toDecimal_cabcc 85 = .ok (.iadd, 1) := by decide +kernel
theorem dJx40b00_toDecimal_cabcc_86 : decode cJx40b00_toDecimal_cabcc 86 = .ok (.istore 12, 2) := by decide +kernel
theorem dJx40b00_toDecimal_cabcc_88 : decode cJx40b00_toDecimal_cabcc 88 = .ok (.iload 11, 2) := by decide +kernel
theorem dJx40b00_toDecimal_cabcc_90 : decode cJx40b00_toDecimal_cabcc 90 = .ok (.invokestatic 94, 3) := by decide +kernel
theorem dJx40b00_toDecimal_cabcc_93 : decode cJx40b00_toDecimal_cabcc 93 = .ok (.lconst 1, 1) := by decide +kernel
theorem dJx40b00_toDecimal_cabcc_94 : decode cJx40b00_toDecimal_cabcc 94 = .ok (.ladd, 1) := by decide +kernel
theorem dJx40b00_toDecimal_cabcc_95 : decode cJx40b00_toDecimal_cabcc 95 = .ok (.lstore 13, 2) := by decide +kernel
theorem dJx40b00_toDecimal_cabcc_97 : decode cJx40b00_toDecimal_cabcc 97 = .ok (.lload 13, 2) := by decide +kernel
theorem dJx40b00_toDecimal_cabcc_99 : decode cJx40b00_toDecimal_cabcc 99 = .ok (.lload 5, 2) := by decide +kernel
theorem dJx40b00_toDecimal_cabcc_101 : decode cJx40b00_toDecimal_cabcc 101 = .ok (.iload 12, 2) := by decide +kernel
theorem dJx40b00_toDecimal_cabcc_103 : decode cJx40b00_toDecimal_cabcc 103 = .ok (.lshl, 1) := by decide +kernel
theorem dJx40b00_toDecimal_cabcc_104 : decode cJx40b00_toDecimal_cabcc 104 = .ok (.invokestatic 98, 3) := by decide +kernel
theorem dJx40b00_toDecimal_cabcc_107 : decode cJx40b00_toDecimal_cabcc 107 = .ok (.istore 15, 2) := by decide +kernel
theorem dJx40b00_toDecimal_cabcc_109 : decode cJx40b00_toDecimal_cabcc 109 = .ok (.lload 13, 2) := by decide +kernel
theorem dJx40b00_toDecimal_cabcc_111 : decode cJx40b00_toDecimal_cabcc 111 = .ok (.lload 9, 2) := by decide +kernel
theorem dJx40b00_toDecimal_cabcc_113 : decode cJx40b00_toDecimal_cabcc 113 = .ok (.iload 12, 2) := by decide +kernel
theorem dJx40b00_toDecimal_cabcc_115 : decode cJx40b00_toDecimal_cabcc 115 = .ok (.lshl, 1) := by decide +kernel
theorem dJx40b00_toDecimal_cabcc_116 : decode cJx40b00_toDecimal_cabcc 116 = .ok (.invokestatic 98, 3) := by decide +kernel
theorem dJx40b00_toDecimal_cabcc_119 : decode cJx40b00_toDecimal_cabcc 119 = .ok (.istore 16, 2) := by decide +kernel
theorem dJx40b00_toDecimal_cabcc_121 : decode cJx40b00_toDecimal_cabcc 121 = .ok (.lload 13, 2) := by decide +kernel
theorem dJx40b00_toDecimal_cabcc_123 : decode cJx40b00_toDecimal_cabcc 123 = .ok (.lload 7, 2) := by decide +kernel
theorem dJx40b00_toDecimal_cabcc_125 : decode cJx40b00_toDecimal_cabcc 125 = .ok (.iload 12, 2) := by decide +kernel
theorem dJx40b00_toDecimal_cabcc_127 : decode cJx40b00_toDecimal_cabcc 127 = .ok (.lshl, 1) := by decide +kernel
theorem dJx40b00_toDecimal_cabcc_128 : decode cJx40b00_toDecimal_cabcc 128 = .ok (.invokestatic 98, 3) := by decide +kernel
theorem dJx40b00_toDecimal_cabcc_131 : decode cJx40b00_toDecimal_cabcc 131 = .ok (.istore 17, 2) := by decide +kernel
theorem dJx40b00_toDecimal_cabcc_133 : decode cJx40b00_toDecimal_cabcc 133 = .ok (.iload 15, 2) := by decide +kernel
theorem dJx40b00_toDecimal_cabcc_135 : decode cJx40b00_toDecimal_cabcc 135 = .ok (.iconst 2, 1) := by decide +kernel
theorem dJx40b00_toDecimal_cabcc_136 : decode cJx40b00_toDecimal_cabcc 136 = .ok (.ishr, 1) := by decide +kernel
theorem dJx40b00_toDecimal_cabcc_137 : decode cJx40b00_toDecimal_cabcc 137 = .ok (.istore 18, 2) := by decide +kernel
theorem dJx40b00_toDecimal_cabcc_139 : decode cJx40b00_toDecimal_cabcc 139 = .ok (.iload 18, 2) := by decide +kernel
theorem dJx40b00_toDecimal_cabcc_141 : decode cJx40b00_toDecimal_cabcc 141 = .ok (.bipush 100, 2) := by decide +kernel
theorem dJx40b00_toDecimal_cabcc_143 : decode cJx40b00_toDecimal_cabcc 143 = .ok (.if_icmp .lt 90, 3) := by decide +kernel
theorem dJx40b00_toDecimal_cabcc_146 : decode cJx40b00_toDecimal_cabcc 146 = .ok (.bipush 10, 2) := by decide +kernel
theorem dJx40b00_toDecimal_cabcc_148 : decode cJx40b00_toDecimal_cabcc 148 = .ok (.iload 18, 2) := by decide +kernel
theorem dJx40b00_toDecimal_cabcc_150 : decode cJx40b00_toDecimal_cabcc 150 = .ok (.i2l, 1) := by decide +kernel
theorem dJx40b00_toDecimal_cabcc_151 : decode cJx40b00_toDecimal_cabcc 151 = .ok (.ldc2_w 102, 3) := by decide +kernel
theorem dJx40b00_toDecimal_cabcc_154 : decode cJx40b00_toDecimal_cabcc 154 = .ok (.lmul, 1) := by decide +kernel
theorem dJx40b00_toDecimal_cabcc_155 : decode cJx40b00_toDecimal_cabcc 155 = .ok (.bipush 34, 2) := by decide +kernel
theorem dJx40b00_toDecimal_cabcc_157 : decode cJx40b00_toDecimal_cabcc 157 = .ok (.lushr, 1) := by decide +kernel
theorem dJx40b00_toDecimal_cabcc_158 : decode cJx40b00_toDecimal_cabcc 158 = .ok (.l2i, 1) := by decide +kernel
theorem dJx40b00_toDecimal_cabcc_159 : decode cJx40b00_toDecimal_cabcc 159 = .ok (.imul, 1) := by decide +kernel
theorem dJx40b00_toDecimal_cabcc_160 : decode cJx40b00_toDecimal_cabcc 160 = .ok (.istore 19, 2) := by decide +kernel
theorem dJx40b00_toDecimal_cabcc_162 : decode cJx40b00_toDecimal_cabcc 162 = .ok (.iload 19, 2) := by decide +kernel
theorem dJx40b00_toDecimal_cabcc_164 : decode cJx40b00_toDecimal_cabcc 164 = .ok (.bipush 10, 2) := by decide +kernel
theorem dJx40b00_toDecimal_cabcc_166 : decode cJx40b00_toDecimal_cabcc 166 = .ok (.iadd, 1) := by decide +kernel
theorem dJx40b00_toDecimal_cabcc_167 : decode cJx40b00_toDecimal_cabcc 167 = .ok (.istore 20, 2) := by decide +kernel
theorem dJx40b00_toDecimal_cabcc_169 : decode cJx40b00_toDecimal_cabcc 169 = .ok (.iload 16, 2) := by decide +kernel
theorem dJx40b00_toDecimal_cabcc_171 : decode cJx40b00_toDecimal_cabcc 171 = .ok (.iload 4, 2) := by decide +kernel
theorem dJx40b00_toDecimal_cabcc_173 : decode cJx40b00_toDecimal_cabcc 173 = .ok (.iadd, 1) := by decide +kernel
theorem dJx40b00_toDecimal_cabcc_174 : decode cJx40b00_toDecimal_cabcc 174 = .ok (.iload 19, 2) := by decide +kernel
theorem dJx40b00_toDecimal_cabcc_176 : decode cJx40b00_toDecimal_cabcc 176 = .ok (.iconst 2, 1) := by decide +kernel
theorem dJx40b00_toDecimal_cabcc_177 : decode cJx40b00_toDecimal_cabcc 177 = .ok (.ishl, 1) := by decide +kernel
theorem dJx40b00_toDecimal_cabcc_178 : decode cJx40b00_toDecimal_cabcc 178 = .ok (.if_icmp .gt 7, 3) := by decide +kernel
theorem dJx40b00_toDecimal_cabcc_181 : decode cJx40b00_toDecimal_cabcc 181 = .ok (.iconst 1, 1) := by decide +kernel
theorem dJx40b00_toDecimal_cabcc_182 : decode cJx40b00_toDecimal_cabcc 182 = .ok (.goto 4, 3) := by decide +kernel
theorem dJx40b00_toDecimal_cabcc_185 : decode cJx40b00_toDecimal_cabcc 185 = .ok (.iconst 0, 1) := by decide +kernel
theorem dJx40b00_toDecimal_cabcc_186 : decode cJx40b00_toDecimal_cabcc 186 = .ok (.istore 21, 2) := by decide +kernel
theorem dJx40b00_toDecimal_cabcc_188 : decode cJx40b00_toDecimal_cabcc 188 = .ok (.iload 20, 2) := by decide +kernel
theorem dJx40b00_toDecimal_cabcc_190 : decode cJx40b00_toDecimal_cabcc 190 = .ok (.iconst 2, 1) := by decide +kernel
theorem dJx40b00_toDecimal_cabcc_191 : decode cJx40b00_toDecimal_cabcc 191 = .ok (.ishl, 1) := by decide +kernel
theorem dJx40b00_toDecimal_cabcc_192 : decode cJx40b00_toDecimal_cabcc 192 = .ok (.iload 4, 2) := by decide +kernel
theorem dJx40b00_toDecimal_cabcc_194 : decode cJx40b00_toDecimal_cabcc 194 = .ok (.iadd, 1) := by decide +kernel
theorem dJx40b00_toDecimal_cabcc_195 : decode cJx40b00_toDecimal_cabcc 195 = .ok (.iload 17, 2) := by decide +kernel
theorem dJx40b00_toDecimal_cabcc_197 : decode cJx40b00_toDecimal_cabcc 197 = .ok (.if_icmp .gt 7, 3) := by decide +kernel
theorem dJx40b00_toDecimal_cabcc_200 : decode cJx40b00_toDecimal_cabcc 200 = .ok (.iconst 1, 1) := by decide +kernel
theorem dJx40b00_toDecimal_cabcc_201 : decode cJx40b00_toDecimal_cabcc 201 = .ok (.goto 4, 3) := by decide +kernel
theorem dJx40b00_toDecimal_cabcc_204 : decode cJx40b00_toDecimal_cabcc 204 = .ok (.iconst 0, 1) := by decide +kernel
theorem dJx40b00_toDecimal_cabcc_205 : decode cJx40b00_toDecimal_cabcc 205 = .ok (.istore 22, 2) := by decide +kernel
theorem dJx40b00_toDecimal_cabcc_207 : decode cJx40b00_toDecimal_cabcc 207 = .ok (.iload 21, 2) := by decide +kernel
theorem dJx40b00_toDecimal_cabcc_209 : decode cJx40b00_toDecimal_cabcc 209 = .ok (.iload 22, 2) := by decide +kernel
theorem dJx40b00_toDecimal_cabcc_211 : decode cJx40b00_toDecimal_cabcc 211 = .ok (.if_icmp .eq 22, 3) := by decide +kernel
theorem dJx40b00_toDecimal_cabcc_214 : decode cJx40b00_toDecimal_cabcc 214 = .ok (.aload_n 0, 1) := by decide +kernel
theorem dJx40b00_toDecimal_cabcc_215 : decode cJx40b00_toDecimal_cabcc 215 = .ok (.iload 21, 2) := by decide +kernel
theorem dJx40b00_toDecimal_cabcc_217 : decode cJx40b00_toDecimal_cabcc 217 = .ok (.ifCond .eq 8, 3) := by decide +kernel
theorem dJx40b00_toDecimal_cabcc_220 : decode cJx40b00_toDecimal_cabcc 220 = .ok (.iload 19, 2) := by decide +kernel
theorem dJx40b00_toDecimal_cabcc_222 : decode cJx40b00_toDecimal_cabcc 222 = .ok (.goto 5, 3) := by decide +kernel
theorem dJx40b00_toDecimal_cabcc_225 : decode cJx40b00_toDecimal_cabcc 225 = .ok (.iload 20, 2) := by decide +kernel
theorem dJx40b00_toDecimal_cabcc_227 : decode cJx40b00_toDecimal_cabcc 227 = .ok (.iload 11, 2) := by decide +kernel
theorem dJx40b00_toDecimal_cabcc_229 : decode cJx40b00_toDecimal_cabcc 229 = .ok (.invokevirtual 73, 3) := by decide +kernel
theorem dJx40b00_toDecimal_cabcc_232 : decode cJx40b00_toDecimal_cabcc 232 = .ok (.ireturn, 1) := by decide +kernel
theorem dJx40b00_toDecimal_cabcc_233 : decode cJx40b00_toDecimal_cabcc 233 = .ok (.iload 18, 2) := by decide +kernel
theorem dJx40b00_toDecimal_cabcc_235 : decode cJx40b00_toDecimal_cabcc 235 = .ok (.iconst 1, 1) := by decide +kernel
theorem dJx40b00_toDecimal_cabcc_236 : decode cJx40b00_toDecimal_cabcc 236 = .ok (.iadd, 1) := by decide +kernel
theorem dJx40b00_toDecimal_cabcc_237 : decode cJx40b00_toDecimal_cabcc 237 = .ok (.istore 19, 2) := by decide +kernel
theorem dJx40b00_toDecimal_cabcc_239 : decode cJx40b00_toDecimal_cabcc 239 = .ok (.iload 16, 2) := by decide +kernel
theorem dJx40b00_toDecimal_cabcc_241 : decode cJx40b00_toDecimal_cabcc 241 = .ok (.iload 4, 2) := by decide +kernel
theorem dJx40b00_toDecimal_cabcc_243 : decode cJx40b00_toDecimal_cabcc 243 = .ok (.iadd, 1) := by decide +kernel
theorem dJx40b00_toDecimal_cabcc_244 : decode cJx40b00_toDecimal_cabcc 244 = .ok (.iload 18, 2) := by decide +kernel
theorem dJx40b00_toDecimal_cabcc_246 : decode cJx40b00_toDecimal_cabcc 246 = .ok (.iconst 2, 1) := by decide +kernel
theorem dJx40b00_toDecimal_cabcc_247 : decode cJx40b00_toDecimal_cabcc 247 = .ok (.ishl, 1) := by decide +kernel
theorem dJx40b00_toDecimal_cabcc_248 : decode cJx40b00_toDecimal_cabcc 248 = .ok (.if_icmp .gt 7, 3) := by decide +kernel
theorem dJx40b00_toDecimal_cabcc_251 : decode cJx40b00_toDecimal_cabcc 251 = .ok (.iconst 1, 1) := by decide +kernel
theorem dJx40b00_toDecimal_cabcc_252 : decode cJx40b00_toDecimal_cabcc 252 = .ok (.goto 4, 3) := by decide +kernel
theorem dJx40b00_toDecimal_cabcc_255 : decode cJx40b00_toDecimal_cabcc 255 = .ok (.iconst 0, 1) := by decide +kernel
theorem dJx40b00_toDecimal_cabcc_256 : decode cJx40b00_toDecimal_cabcc 256 = .ok (.istore 20, 2) := by decide +kernel
theorem dJx40b00_toDecimal_cabcc_258 : decode cJx40b00_toDecimal_cabcc 258 = .ok (.iload 19, 2) := by decide +kernel
theorem dJx40b00_toDecimal_cabcc_260 : decode cJx40b00_toDecimal_cabcc 260 = .ok (.iconst 2, 1) := by decide +kernel
theorem dJx40b00_toDecimal_cabcc_261 : decode cJx40b00_toDecimal_cabcc 261 = .ok (.ishl, 1) := by decide +kernel
theorem dJx40b00_toDecimal_cabcc_262 : decode cJx40b00_toDecimal_cabcc 262 = .ok (.iload 4, 2) := by decide +kernel
theorem dJx40b00_toDecimal_cabcc_264 : decode cJx40b00_toDecimal_cabcc 264 = .ok (.iadd, 1) := by decide +kernel
theorem dJx40b00_toDecimal_cabcc_265 : decode cJx40b00_toDecimal_cabcc 265 = .ok (.iload 17, 2) := by decide +kernel
theorem dJx40b00_toDecimal_cabcc_267 : decode cJx40b00_toDecimal_cabcc 267 = .ok (.if_icmp .gt 7, 3) := by decide +kernel
theorem dJx40b00_toDecimal_cabcc_270 : decode cJx40b00_toDecimal_cabcc 270 = .ok (.iconst 1, 1) := by decide +kernel
theorem dJx40b00_toDecimal_cabcc_271 : decode cJx40b00_toDecimal_cabcc 271 = .ok (.goto 4, 3) := by decide +kernel
theorem dJx40b00_toDecimal_cabcc_274 : decode cJx40b00_toDecimal_cabcc 274 = .ok (.iconst 0, 1) := by decide +kernel
theorem dJx40b00_toDecimal_cabcc_275 : decode cJx40b00_toDecimal_cabcc 275 = .ok (.istore 21, 2) := by decide +kernel
theorem dJx40b00_toDecimal_cabcc_277 : decode cJx40b00_toDecimal_cabcc 277 = .ok (.iload 20, 2) := by decide +kernel
theorem dJx40b00_toDecimal_cabcc_279 : decode cJx40b00_toDecimal_cabcc 279 = .ok (.iload 21, 2) := by decide +kernel
theorem dJx40b00_toDecimal_cabcc_281 : decode cJx40b00_toDecimal_cabcc 281 = .ok (.if_icmp .eq 24, 3) := by decide +kernel
theorem dJx40b00_toDecimal_cabcc_284 : decode cJx40b00_toDecimal_cabcc 284 = .ok (.aload_n 0, 1) := by decide +kernel
theorem dJx40b00_toDecimal_cabcc_285 : decode cJx40b00_toDecimal_cabcc 285 = .ok (.iload 20, 2) := by decide +kernel
theorem dJx40b00_toDecimal_cabcc_287 : decode cJx40b00_toDecimal_cabcc 287 = .ok (.ifCond .eq 8, 3) := by decide +kernel
theorem dJx40b00_toDecimal_cabcc_290 : decode cJx40b00_toDecimal_cabcc 290 = .ok (.iload 18, 2) := by decide +kernel
theorem dJx40b00_toDecimal_cabcc_292 : decode cJx40b00_toDecimal_cabcc 292 = .ok (.goto 5, 3) := by decide +kernel
theorem dJx40b00_toDecimal_cabcc_295 : decode cJx40b00_toDecimal_cabcc 295 = .ok (.iload 19, 2) := by decide +kernel
theorem dJx40b00_toDecimal_cabcc_297 : decode cJx40b00_toDecimal_cabcc 297 = .ok (.iload 11, 2) := by decide +kernel
theorem dJx40b00_toDecimal_cabcc_299 : decode cJx40b00_toDecimal_cabcc 299 = .ok (.iload_n 3, 1) := by decide +kernel
theorem dJx40b00_toDecimal_cabcc_300 : decode cJx40b00_toDecimal_cabcc 300 = .ok (.iadd, 1) := by decide +kernel
theorem dJx40b00_toDecimal_cabcc_301 : decode cJx40b00_toDecimal_cabcc 301 = .ok (.invokevirtual 73, 3) := by decide +kernel
theorem dJx40b00_toDecimal_cabcc_304 : decode cJx40b00_toDecimal_cabcc 304 = .ok (.ireturn, 1) := by decide +kernel
theorem dJx40b00_toDecimal_cabcc_305 : decode cJx40b00_toDecimal_cabcc 305 = .ok (.iload 15, 2) := by decide +kernel
theorem dJx40b00_toDecimal_cabcc_307 : decode cJx40b00_toDecimal_cabcc 307 = .ok (.iload 18, 2) := by decide +kernel
theorem dJx40b00_toDecimal_cabcc_309 : decode cJx40b00_toDecimal_cabcc 309 = .ok (.iload 19, 2) := by decide +kernel
theorem dJx40b00_toDecimal_cabcc_311 : decode cJx40b00_toDecimal_cabcc 311 = .ok (.iadd, 1) := by decide +kernel
theorem dJx40b00_toDecimal_cabcc_312 : decode cJx40b00_toDecimal_cabcc 312 = .ok (.iconst 1, 1) := by decide +kernel
theorem dJx40b00_toDecimal_cabcc_313 : decode cJx40b00_toDecimal_cabcc 313 = .ok (.ishl, 1) := by decide +kernel
theorem dJx40b00_toDecimal_cabcc_314 : decode cJx40b00_toDecimal_cabcc 314 = .ok (.isub, 1) := by decide +kernel
theorem dJx40b00_toDecimal_cabcc_315 : decode cJx40b00_toDecimal_cabcc 315 = .ok (.istore 22, 2) := by decide +kernel
theorem dJx40b00_toDecimal_cabcc_317 : decode cJx40b00_toDecimal_cabcc 317 = .ok (.aload_n 0, 1) := by decide +kernel
theorem dJx40b00_toDecimal_cabcc_318 : decode cJx40b00_toDecimal_cabcc 318 = .ok (.iload 22, 2) := by decide +kernel
theorem dJx40b00_toDecimal_cabcc_320 : decode cJx40b00_toDecimal_cabcc 320 = .ok (.ifCond .lt 15, 3) := by decide +kernel
theorem dJx40b00_toDecimal_cabcc_323 : decode cJx40b00_toDecimal_cabcc 323 = .ok (.iload 22, 2) := by decide +kernel
theorem dJx40b00_toDecimal_cabcc_325 : decode cJx40b00_toDecimal_cabcc 325 = .ok (.ifCond .ne 15, 3) := by decide +kernel
theorem dJx40b00_toDecimal_cabcc_328 : decode cJx40b00_toDecimal_cabcc 328 = .ok (.iload 18, 2) := by decide +kernel
theorem dJx40b00_toDecimal_cabcc_330 : decode cJx40b00_toDecimal_cabcc 330 = .ok (.iconst 1, 1) := by decide +kernel
theorem dJx40b00_toDecimal_cabcc_331 : decode cJx40b00_toDecimal_cabcc 331 = .ok (.iand, 1) := by decide +kernel
theorem dJx40b00_toDecimal_cabcc_332 : decode cJx40b00_toDecimal_cabcc 332 = .ok (.ifCond .ne 8, 3) := by decide +kernel
theorem dJx40b00_toDecimal_cabcc_335 : decode cJx40b00_toDecimal_cabcc 335 = .ok (.iload 18, 2) := by decide +kernel
theorem dJx40b00_toDecimal_cabcc_337 : decode cJx40b00_toDecimal_cabcc 337 = .ok (.goto 5, 3) := by decide +kernel
theorem dJx40b00_toDecimal_cabcc_340 : decode cJx40b00_toDecimal_cabcc 340 = .ok (.iload 19, 2) := by decide +kernel
theorem dJx40b00_toDecimal_cabcc_342 : decode cJx40b00_toDecimal_cabcc 342 = .ok (.iload 11, 2) := by decide +kernel
theorem dJx40b00_toDecimal_cabcc_344 : decode cJx40b00_toDecimal_cabcc 344 = .ok (.iload_n 3, 1) := by decide +kernel
theorem dJx40b00_toDecimal_cabcc_345 : decode cJx40b00_toDecimal_cabcc 345 = .ok (.iadd, 1) := by decide +kernel
theorem dJx40b00_toDecimal_cabcc_346 : decode cJx40b00_toDecimal_cabcc 346 = .ok (.invokevirtual 73, 3) := by decide +kernel
theorem dJx40b00_toDecimal_cabcc_349 : decode cJx40b00_toDecimal_cabcc 349 = .ok (.ireturn, 1) := by decide +kernel
theorem dJx40b00_rop_74951_0 : decode cJx40b00_rop_74951 0 = .ok (.lload_n 0, 1) := by decide +kernel
theorem dJx40b00_rop_74951_1 : decode cJx40b00_rop_74951 1 = .ok (.lload_n 2, 1) := by decide +kernel
theorem dJx40b00_rop_74951_2 : decode cJx40b00_rop_74951 2 = .ok (.invokestatic 104, 3) := by decide +kernel
theorem dJx40b00_rop_74951_5 : decode cJx40b00_rop_74951 5 = .ok (.lstore 4, 2) := by decide +kernel
theorem dJx40b00_rop_74951_7 : decode cJx40b00_rop_74951 7 = .ok (.lload 4, 2) := by decide +kernel
theorem dJx40b00_rop_74951_9 : decode cJx40b00_rop_74951 9 = .ok (.bipush 31, 2) := by decide +kernel
theorem dJx40b00_rop_74951_11 : decode cJx40b00_rop_74951 11 = .ok (.lushr, 1) := by decide +kernel
theorem dJx40b00_rop_74951_12 : decode cJx40b00_rop_74951 12 = .ok (.lstore 6, 2) := by decide +kernel
theorem dJx40b00_rop_74951_14 : decode cJx40b00_rop_74951 14 = .ok (.lload 6, 2) := by decide +kernel
theorem dJx40b00_rop_74951_16 : decode cJx40b00_rop_74951 16 = .ok (.lload 4, 2) := by decide +kernel
theorem dJx40b00_rop_74951_18 : decode cJx40b00_rop_74951 18 = .ok (.ldc2_w 110, 3) := by decide +kernel
theorem dJx40b00_rop_74951_21 : decode cJx40b00_rop_74951 21 = .ok (.land, 1) := by decide +kernel
theorem dJx40b00_rop_74951_22 : decode cJx40b00_rop_74951 22 = .ok (.ldc2_w 110, 3) := by decide +kernel
theorem dJx40b00_rop_74951_25 : decode cJx40b00_rop_74951 25 = .ok (.ladd, 1) := by decide +kernel
theorem dJx40b00_rop_74951_26 : decode cJx40b00_rop_74951 26 = .ok (.bipush 32, 2) := by decide +kernel
theorem dJx40b00_rop_74951_28 : decode cJx40b00_rop_74951 28 = .ok (.lushr, 1) := by decide +kernel
theorem dJx40b00_rop_74951_29 : decode cJx40b00_rop_74951 29 = .ok (.lor, 1) := by decide +kernel
theorem dJx40b00_rop_74951_30 : decode cJx40b00_rop_74951 30 = .ok (.l2i, 1) := by decide +kernel
theorem dJx40b00_rop_74951_31 : decode cJx40b00_rop_74951 31 = .ok (.ireturn, 1) := by decide +kernel
theorem dJx40b00_toChars_7cf53_0 : decode cJx40b00_toChars_7cf53 0 = .ok (.bipush 32, 2) := by decide +kernel
theorem dJx40b00_toChars_7cf53_2 : decode cJx40b00_toChars_7cf53 2 = .ok (.iload_n 1, 1) := by decide +kernel
theorem dJx40b00_toChars_7cf53_3 : decode cJx40b00_toChars_7cf53 3 = .ok (.invokestatic 114, 3) := by decide +kernel
theorem dJx40b00_toChars_7cf53_6 : decode cJx40b00_toChars_7cf53 6 = .ok (.isub, 1) := by decide +kernel
theorem dJx40b00_toChars_7cf53_7 : decode cJx40b00_toChars_7cf53 7 = .ok (.invokestatic 82, 3) := by decide +kernel
theorem dJx40b00_toChars_7cf53_10 : decode cJx40b00_toChars_7cf53 10 = .ok (.istore_n 3, 1) := by decide +kernel
theorem dJx40b00_toChars_7cf53_11 : decode cJx40b00_toChars_7cf53 11 = .ok (.iload_n 1, 1) := by decide +kernel
theorem dJx40b00_toChars_7cf53_12 : decode cJx40b00_toChars_7cf53 12 = .ok (.i2l, 1) := by decide +kernel
theorem dJx40b00_toChars_7cf53_13 : decode cJx40b00_toChars_7cf53 13 = .ok (.iload_n 3, 1) := by decide +kernel
theorem dJx40b00_toChars_7cf53_14 : decode cJx40b00_toChars_7cf53 14 = .ok (.invokestatic 117, 3) := by decide +kernel
theorem dJx40b00_toChars_7cf53_17 : decode cJx40b00_toChars_7cf53 17 = .ok (.lcmp, 1) := by decide +kernel
theorem dJx40b00_toChars_7cf53_18 : decode cJx40b00_toChars_7cf53 18 = .ok (.ifCond .lt 6, 3) := by decide +kernel
theorem dJx40b00_toChars_7cf53_21 : decode cJx40b00_toChars_7cf53 21 = .ok (.iinc 3 1, 3) := by decide +kernel
theorem dJx40b00_toChars_7cf53_24 : decode cJx40b00_toChars_7cf53 24 = .ok (.iload_n 1, 1) := by decide +kernel
theorem dJx40b00_toChars_7cf53_25 : decode cJx40b00_toChars_7cf53 25 = .ok (.bipush 9, 2) := by decide +kernel
theorem dJx40b00_toChars_7cf53_27 : decode cJx40b00_toChars_7cf53 27 = .ok (.iload_n 3, 1) := by decide +kernel
theorem dJx40b00_toChars_7cf53_28 : decode cJx40b00_toChars_7cf53 28 = .ok (.isub, 1) := by decide +kernel
theorem dJx40b00_toChars_7cf53_29 : decode cJx40b00_toChars_7cf53 29 = .ok (.invokestatic 117, 3) := by decide +kernel
theorem dJx40b00_toChars_7cf53_32 : decode cJx40b00_toChars_7cf53 32 = .ok (.l2i, 1) := by decide +kernel
theorem dJx40b00_toChars_7cf53_33 : decode cJx40b00_toChars_7cf53 33 = .ok (.imul, 1) := by decide +kernel
theorem dJx40b00_toChars_7cf53_34 : decode cJx40b00_toChars_7cf53 34 = .ok (.istore_n 1, 1) := by decide +kernel
theorem dJx40b00_toChars_7cf53_35 : decode cJx40b00_toChars_7cf53 35 = .ok (.iload_n 2, 1) := by decide +kernel
theorem dJx40b00_toChars_7cf53_36 : decode cJx40b00_toChars_7cf53 36 = .ok (.iload_n 3, 1) := by decide +kernel
theorem dJx40b00_toChars_7cf53_37 : decode cJx40b00_toChars_7cf53 37 = .ok (.iadd, 1) := by decide +kernel
theorem dJx40b00_toChars_7cf53_38 : decode cJx40b00_toChars_7cf53 38 = .ok (.istore_n 2, 1) := by decide +kernel
theorem dJx40b00_toChars_7cf53_39 : decode cJx40b00_toChars_7cf53 39 = .ok (.iload_n 1, 1) := by decide +kernel
theorem dJx40b00_toChars_7cf53_40 : decode cJx40b00_toChars_7cf53 40 = .ok (.i2l, 1) := by decide +kernel
theorem dJx40b00_toChars_7cf53_41 : decode cJx40b00_toChars_7cf53 41 = .ok (.ldc2_w 120, 3) := by decide +kernel
theorem dJx40b00_toChars_7cf53_44 : decode cJx40b00_toChars_7cf53 44 = .ok (.lmul, 1) := by decide +kernel
theorem dJx40b00_toChars_7cf53_45 : decode cJx40b00_toChars_7cf53 45 = .ok (.bipush 57, 2) := by decide +kernel
theorem dJx40b00_toChars_7cf53_47 : decode cJx40b00_toChars_7cf53 47 = .ok (.lushr, 1) := by decide +kernel
theorem dJx40b00_toChars_7cf53_48 : decode cJx40b00_toChars_7cf53 48 = .ok (.l2i, 1) := by decide +kernel
theorem dJx40b00_toChars_7cf53_49 : decode cJx40b00_toChars_7cf53 49 = .ok (.istore 4, 2) := by decide +kernel
theorem dJx40b00_toChars_7cf53_51 : decode cJx40b00_toChars_7cf53 51 = .ok (.iload_n 1, 1) := by decide +kernel
theorem dJx40b00_toChars_7cf53_52 : decode cJx40b00_toChars_7cf53 52 = .ok (.ldc 122, 2) := by decide +kernel
theorem dJx40b00_toChars_7cf53_54 : decode cJx40b00_toChars_7cf53 54 = .ok (.iload 4, 2) := by decide +kernel
theorem dJx40b00_toChars_7cf53_56 : decode cJx40b00_toChars_7cf53 56 = .ok (.imul, 1) := by decide +kernel
theorem dJx40b00_toChars_7cf53_57 : decode cJx40b00_toChars_7cf53 57 = .ok (.isub, 1) := by decide +kernel
theorem dJx40b00_toChars_7cf53_58 : decode cJx40b00_toChars_7cf53 58 = .ok (.istore 5, 2) := by decide +kernel
theorem dJx40b00_toChars_7cf53_60 : decode cJx40b00_toChars_7cf53 60 = .ok (.iconst 0, 1) := by decide +kernel
theorem dJx40b00_toChars_7cf53_61 : decode cJx40b00_toChars_7cf53 61 = .ok (.iload_n 2, 1) := by decide +kernel
theorem dJx40b00_toChars_7cf53_62 : decode cJx40b00_toChars_7cf53 62 = .ok (.if_icmp .ge 19, 3) := by decide +kernel
theorem dJx40b00_toChars_7cf53_65 : decode cJx40b00_toChars_7cf53 65 = .ok (.iload_n 2, 1) := by decide +kernel
theorem dJx40b00_toChars_7cf53_66 : decode cJx40b00_toChars_7cf53 66 = .ok (.bipush 7, 2) := by decide +kernel
theorem dJx40b00_toChars_7cf53_68 : decode cJx40b00_toChars_7cf53 68 = .ok (.if_icmp .gt 13, 3) := by decide +kernel
theorem dJx40b00_toChars_7cf53_71 : decode cJx40b00_toChars_7cf53 71 = .ok (.aload_n 0, 1) := by decide +kernel
theorem dJx40b00_toChars_7cf53_72 : decode cJx40b00_toChars_7cf53 72 = .ok (.iload 4, 2) := by decide +kernel
theorem dJx40b00_toChars_7cf53_74 : decode cJx40b00_toChars_7cf53 74 = .ok (.iload 5, 2) := by decide +kernel
theorem dJx40b00_toChars_7cf53_76 : decode cJx40b00_toChars_7cf53 76 = .ok (.iload_n 2, 1) := by decide +kernel
theorem dJx40b00_toChars_7cf53_77 : decode cJx40b00_toChars_7cf53 77 = .ok (.invokevirtual 123, 3) := by decide +kernel
theorem dJx40b00_toChars_7cf53_80 : decode cJx40b00_toChars_7cf53 80 = .ok (.ireturn, 1) := by decide +kernel
theorem dJx40b00_toChars_7cf53_81 : decode cJx40b00_toChars_7cf53 81 = .ok (.bipush (-3), 2) := by decide +kernel
theorem dJx40b00_toChars_7cf53_83 : decode cJx40b00_toChars_7cf53 83 = .ok (.iload_n 2, 1) := by decide +kernel
theorem dJx40b00_toChars_7cf53_84 : decode cJx40b00_toChars_7cf53 84 = .ok (.if_icmp .ge 17, 3) := by decide +kernel
theorem dJx40b00_toChars_7cf53_87 : decode cJx40b00_toChars_7cf53 87 = .ok (.iload_n 2, 1) := by decide +kernel
theorem dJx40b00_toChars_7cf53_88 : decode cJx40b00_toChars_7cf53 88 = .ok (.ifCond .gt 13, 3) := by decide +kernel
theorem dJx40b00_toChars_7cf53_91 : decode cJx40b00_toChars_7cf53 91 = .ok (.aload_n 0, 1) := by decide +kernel
theorem dJx40b00_toChars_7cf53_92 : decode cJx40b00_toChars_7cf53 92 = .ok (.iload 4, 2) := by decide +kernel
theorem dJx40b00_toChars_7cf53_94 : decode cJx40b00_toChars_7cf53 94 = .ok (.iload 5, 2) := by decide +kernel
theorem dJx40b00_toChars_7cf53_96 : decode cJx40b00_toChars_7cf53 96 = .ok (.iload_n 2, 1) := by decide +kernel
theorem dJx40b00_toChars_7cf53_97 : decode cJx40b00_toChars_7cf53 97 = .ok (.invokevirtual 126, 3) := by decide +kernel
theorem dJx40b00_toChars_7cf53_100 : decode cJx40b00_toChars_7cf53 100 = .ok (.ireturn, 1) := by decide +kernel
theorem dJx40b00_toChars_7cf53_101 : decode cJx40b00_toChars_7cf53 101 = .ok (.aload_n 0, 1) := by decide +kernel
theorem dJx40b00_toChars_7cf53_102 : decode cJx40b00_toChars_7cf53 102 = .ok (.iload 4, 2) := by decide +kernel
theorem dJx40b00_toChars_7cf53_104 : decode cJx40b00_toChars_7cf53 104 = .ok (.iload 5, 2) := by decide +kernel
theorem dJx40b00_toChars_7cf53_106 : decode cJx40b00_toChars_7cf53 106 = .ok (.iload_n 2, 1) := by decide +kernel
theorem dJx40b00_toChars_7cf53_107 : decode cJx40b00_toChars_7cf53 107 = .ok (.invokevirtual 129, 3) := by decide +kernel
theorem dJx40b00_toChars_7cf53_110 : decode cJx40b00_toChars_7cf53 110 = .ok (.ireturn, 1) := by decide +kernel
theorem dJx40b00_toChars1_cabcc_0 : decode cJx40b00_toChars1_cabcc 0 = .ok (.aload_n 0, 1) := by decide +kernel
theorem dJx40b00_toChars1_cabcc_1 : decode cJx40b00_toChars1_cabcc 1 = .ok (.iload_n 1, 1) := by decide +kernel
theorem dJx40b00_toChars1_cabcc_2 : decode cJx40b00_toChars1_cabcc 2 = .ok (.invokevirtual 132, 3) := by decide +kernel
theorem dJx40b00_toChars1_cabcc_5 : decode cJx40b00_toChars1_cabcc 5 = .ok (.aload_n 0, 1) := by decide +kernel
theorem dJx40b00_toChars1_cabcc_6 : decode cJx40b00_toChars1_cabcc 6 = .ok (.iload_n 2, 1) := by decide +kernel
theorem dJx40b00_toChars1_cabcc_7 : decode cJx40b00_toChars1_cabcc 7 = .ok (.invokevirtual 135, 3) := by decide +kernel
theorem dJx40b00_toChars1_cabcc_10 : decode cJx40b00_toChars1_cabcc 10 = .ok (.istore 4, 2) := by decide +kernel
theorem dJx40b00_toChars1_cabcc_12 : decode cJx40b00_toChars1_cabcc 12 = .ok (.iconst 1, 1) := by decide +kernel
theorem dJx40b00_toChars1_cabcc_13 : decode cJx40b00_toChars1_cabcc 13 = .ok (.istore 6, 2) := by decide +kernel
theorem dJx40b00_toChars1_cabcc_15 : decode cJx40b00_toChars1_cabcc 15 = .ok (.iload 6, 2) := by decide +kernel
theorem dJx40b00_toChars1_cabcc_17 : decode cJx40b00_toChars1_cabcc 17 = .ok (.iload_n 3, 1) := by decide +kernel
theorem dJx40b00_toChars1_cabcc_18 : decode cJx40b00_toChars1_cabcc 18 = .ok (.if_icmp .ge 32, 3) := by decide +kernel
theorem dJx40b00_toChars1_cabcc_21 : decode cJx40b00_toChars1_cabcc 21 = .ok (.bipush 10, 2) := by decide +kernel
theorem dJx40b00_toChars1_cabcc_23 : decode cJx40b00_toChars1_cabcc 23 = .ok (.iload 4, 2) := by decide +kernel
theorem dJx40b00_toChars1_cabcc_25 : decode cJx40b00_toChars1_cabcc 25 = .ok (.imul, 1) := by decide +kernel
theorem dJx40b00_toChars1_cabcc_26 : decode cJx40b00_toChars1_cabcc 26 = .ok (.istore 5, 2) := by decide +kernel
theorem dJx40b00_toChars1_cabcc_28 : decode cJx40b00_toChars1_cabcc 28 = .ok (.aload_n 0, 1) := by decide +kernel
theorem dJx40b00_toChars1_cabcc_29 : decode cJx40b00_toChars1_cabcc 29 = .ok (.iload 5, 2) := by decide +kernel
theorem dJx40b00_toChars1_cabcc_31 : decode cJx40b00_toChars1_cabcc 31 = .ok (.bipush 28, 2) := by decide +kernel
theorem dJx40b00_toChars1_cabcc_33 : decode cJx40b00_toChars1_cabcc 33 = .ok (.iushr, 1) := by decide +kernel
theorem dJx40b00_toChars1_cabcc_34 : decode cJx40b00_toChars1_cabcc 34 = .ok (.invokevirtual 132, 3) := by decide +kernel
theorem dJx40b00_toChars1_cabcc_37 : decode cJx40b00_toChars1_cabcc 37 = .ok (.iload 5, 2) := by decide +kernel
theorem dJx40b00_toChars1_cabcc_39 : decode cJx40b00_toChars1_cabcc 39 = .ok (.ldc 138, 2) := by decide +kernel
theorem dJx40b00_toChars1_cabcc_41 : decode cJx40b00_toChars1_cabcc 41 = .ok (.iand, 1) := by decide +kernel
theorem dJx40b00_toChars1_cabcc_42 : decode cJx40b00_toChars1_cabcc 42 = .ok (.istore 4, 2) := by decide +kernel
theorem dJx40b00_toChars1_cabcc_44 : decode cJx40b00_toChars1_cabcc 44 = .ok (.iinc 6 1, 3) := by decide +kernel
theorem dJx40b00_toChars1_cabcc_47 : decode cJx40b00_toChars1_cabcc 47 = .ok (.goto (-32), 3) := by decide +kernel
theorem dJx40b00_toChars1_cabcc_50 : decode cJx40b00_toChars1_cabcc 50 = .ok (.aload_n 0, 1) := by decide +kernel
theorem dJx40b00_toChars1_cabcc_51 : decode cJx40b00_toChars1_cabcc 51 = .ok (.bipush 46, 2) := by decide +kernel
theorem dJx40b00_toChars1_cabcc_53 : decode cJx40b00_toChars1_cabcc 53 = .ok (.invokevirtual 69, 3) := by decide +kernel
theorem dJx40b00_toChars1_cabcc_56 : decode cJx40b00_toChars1_cabcc 56 = .ok (.iload 6, 2) := by decide +kernel
theorem dJx40b00_toChars1_cabcc_58 : decode cJx40b00_toChars1_cabcc 58 = .ok (.bipush 8, 2) := by decide +kernel
theorem dJx40b00_toChars1_cabcc_60 : decode cJx40b00_toChars1_cabcc 60 = .ok (.if_icmp .gt 32, 3) := by decide +kernel
theorem dJx40b00_toChars1_cabcc_63 : decode cJx40b00_toChars1_cabcc 63 = .ok (.bipush 10, 2) := by decide +kernel
theorem dJx40b00_toChars1_cabcc_65 : decode cJx40b00_toChars1_cabcc 65 = .ok (.iload 4, 2) := by decide +kernel
theorem dJx40b00_toChars1_cabcc_67 : decode cJx40b00_toChars1_cabcc 67 = .ok (.imul, 1) := by decide +kernel
theorem dJx40b00_toChars1_cabcc_68 : decode cJx40b00_toChars1_cabcc 68 = .ok (.istore 5, 2) := by decide +kernel
theorem dJx40b00_toChars1_cabcc_70 : decode cJx40b00_toChars1_cabcc 70 = .ok (.aload_n 0, 1) := by decide +kernel
theorem dJx40b00_toChars1_cabcc_71 : decode cJx40b00_toChars1_cabcc 71 = .ok (.iload 5, 2) := by decide +kernel
theorem dJx40b00_toChars1_cabcc_73 : decode cJx40b00_toChars1_cabcc 73 = .ok (.bipush 28, 2) := by decide +kernel
theorem dJx40b00_toChars1_cabcc_75 : decode cJx40b00_toChars1_cabcc 75 = .ok (.iushr, 1) := by decide +kernel
theorem dJx40b00_toChars1_cabcc_76 : decode cJx40b00_toChars1_cabcc 76 = .ok (.invokevirtual 132, 3) := by decide +kernel
theorem dJx40b00_toChars1_cabcc_79 : decode cJx40b00_toChars1_cabcc 79 = .ok (.iload 5, 2) := by decide +kernel
theorem dJx40b00_toChars1_cabcc_81 : decode cJx40b00_toChars1_cabcc 81 = .ok (.ldc 138, 2) := by decide +kernel
theorem dJx40b00_toChars1_cabcc_83 : decode cJx40b00_toChars1_cabcc 83 = .ok (.iand, 1) := by decide +kernel
theorem dJx40b00_toChars1_cabcc_84 : decode cJx40b00_toChars1_cabcc 84 = .ok (.istore 4, 2) := by decide +kernel
theorem dJx40b00_toChars1_cabcc_86 : decode cJx40b00_toChars1_cabcc 86 = .ok (.iinc 6 1, 3) := by decide +kernel
theorem dJx40b00_toChars1_cabcc_89 : decode cJx40b00_toChars1_cabcc 89 = .ok (.goto (-33), 3) := by decide +kernel
theorem dJx40b00_toChars1_cabcc_92 : decode cJx40b00_toChars1_cabcc 92 = .ok (.aload_n 0, 1) := by decide +kernel
theorem dJx40b00_toChars1_cabcc_93 : decode cJx40b00_toChars1_cabcc 93 = .ok (.invokevirtual 139, 3) := by decide +kernel
theorem dJx40b00_toChars1_cabcc_96 : decode cJx40b00_toChars1_cabcc 96 = .ok (.iconst 0, 1) := by decide +kernel
theorem dJx40b00_toChars1_cabcc_97 : decode cJx40b00_toChars1_cabcc 97 = .ok (.ireturn, 1) := by decide +kernel
theorem dJx40b00_toChars2_cabcc_0 : decode cJx40b00_toChars2_cabcc 0 = .ok (.aload_n 0, 1) := by decide +kernel
theorem dJx40b00_toChars2_cabcc_1 : decode cJx40b00_toChars2_cabcc 1 = .ok (.iconst 0, 1) := by decide +kernel
theorem dJx40b00_toChars2_cabcc_2 : decode cJx40b00_toChars2_cabcc 2 = .ok (.invokevirtual 132, 3) := by decide +kernel
theorem dJx40b00_toChars2_cabcc_5 : decode cJx40b00_toChars2_cabcc 5 = .ok (.aload_n 0, 1) := by decide +kernel
theorem dJx40b00_toChars2_cabcc_6 : decode cJx40b00_toChars2_cabcc 6 = .ok (.bipush 46, 2) := by decide +kernel
theorem dJx40b00_toChars2_cabcc_8 : decode cJx40b00_toChars2_cabcc 8 = .ok (.invokevirtual 69, 3) := by decide +kernel
theorem dJx40b00_toChars2_cabcc_11 : decode cJx40b00_toChars2_cabcc 11 = .ok (.iload_n 3, 1) := by decide +kernel
theorem dJx40b00_toChars2_cabcc_12 : decode cJx40b00_toChars2_cabcc 12 = .ok (.ifCond .ge 14, 3) := by decide +kernel
theorem dJx40b00_toChars2_cabcc_15 : decode cJx40b00_toChars2_cabcc 15 = .ok (.aload_n 0, 1) := by decide +kernel
theorem dJx40b00_toChars2_cabcc_16 : decode cJx40b00_toChars2_cabcc 16 = .ok (.iconst 0, 1) := by decide +kernel
theorem dJx40b00_toChars2_cabcc_17 : decode cJx40b00_toChars2_cabcc 17 = .ok (.invokevirtual 132, 3) := by decide +kernel
theorem dJx40b00_toChars2_cabcc_20 : decode cJx40b00_toChars2_cabcc 20 = .ok (.iinc 3 1, 3) := by decide +kernel
theorem dJx40b00_toChars2_cabcc_23 : decode cJx40b00_toChars2_cabcc 23 = .ok (.goto (-12), 3) := by decide +kernel
theorem dJx40b00_toChars2_cabcc_26 : decode cJx40b00_toChars2_cabcc 26 = .ok (.aload_n 0, 1) := by decide +kernel
theorem dJx40b00_toChars2_cabcc_27 : decode cJx40b00_toChars2_cabcc 27 = .ok (.iload_n 1, 1) := by decide +kernel
theorem dJx40b00_toChars2_cabcc_28 : decode cJx40b00_toChars2_cabcc 28 = .ok (.invokevirtual 132, 3) := by decide +kernel
theorem dJx40b00_toChars2_cabcc_31 : decode cJx40b00_toChars2_cabcc 31 = .ok (.aload_n 0, 1) := by decide +kernel
theorem dJx40b00_toChars2_cabcc_32 : decode cJx40b00_toChars2_cabcc 32 = .ok (.iload_n 2, 1) := by decide +kernel
theorem dJx40b00_toChars2_cabcc_33 : decode cJx40b00_toChars2_cabcc 33 = .ok (.invokevirtual 142, 3) := by decide +kernel
theorem dJx40b00_toChars2_cabcc_36 : decode cJx40b00_toChars2_cabcc 36 = .ok (.aload_n 0, 1) := by decide +kernel
theorem dJx40b00_toChars2_cabcc_37 : decode cJx40b00_toChars2_cabcc 37 = .ok (.invokevirtual 139, 3) := by decide +kernel
theorem dJx40b00_toChars2_cabcc_40 : decode cJx40b00_toChars2_cabcc 40 = .ok (.iconst 0, 1) := by decide +kernel
theorem dJx40b00_toChars2_cabcc_41 : decode cJx40b00_toChars2_cabcc 41 = .ok (.ireturn, 1) := by decide +kernel
theorem dJx40b00_toChars3_cabcc_0 : decode cJx40b00_toChars3_cabcc 0 = .ok (.aload_n 0, 1) := by decide +kernel
theorem dJx40b00_toChars3_cabcc_1 : decode cJx40b00_toChars3_cabcc 1 = .ok (.iload_n 1, 1) := by decide +kernel
theorem dJx40b00_toChars3_cabcc_2 : decode cJx40b00_toChars3_cabcc 2 = .ok (.invokevirtual 132, 3) := by decide +kernel
theorem dJx40b00_toChars3_cabcc_5 : decode cJx40b00_toChars3_cabcc 5 = .ok (.aload_n 0, 1) := by decide +kernel
theorem dJx40b00_toChars3_cabcc_6 : decode cJx40b00_toChars3_cabcc 6 = .ok (.bipush 46, 2) := by decide +kernel
theorem dJx40b00_toChars3_cabcc_8 : decode cJx40b00_toChars3_cabcc 8 = .ok (.invokevirtual 69, 3) := by decide +kernel
theorem dJx40b00_toChars3_cabcc_11 : decode cJx40b00_toChars3_cabcc 11 = .ok (.aload_n 0, 1) := by decide +kernel
theorem dJx40b00_toChars3_cabcc_12 : decode cJx40b00_toChars3_cabcc 12 = .ok (.iload_n 2, 1) := by decide +kernel
theorem dJx40b00_toChars3_cabcc_13 : decode cJx40b00_toChars3_cabcc 13 = .ok (.invokevirtual 142, 3) := by decide +kernel
theorem dJx40b00_toChars3_cabcc_16 : decode cJx40b00_toChars3_cabcc 16 = .ok (.aload_n 0, 1) := by decide +kernel
theorem dJx40b00_toChars3_cabcc_17 : decode cJx40b00_toChars3_cabcc 17 = .ok (.invokevirtual 139, 3) := by decide +kernel
theorem dJx40b00_toChars3_cabcc_20 : decode cJx40b00_toChars3_cabcc 20 = .ok (.aload_n 0, 1) := by decide +kernel
theorem dJx40b00_toChars3_cabcc_21 : decode cJx40b00_toChars3_cabcc 21 = .ok (.iload_n 3, 1) := by decide +kernel
theorem dJx40b00_toChars3_cabcc_22 : decode cJx40b00_toChars3_cabcc 22 = .ok (.iconst 1, 1) := by decide +kernel
theorem dJx40b00_toChars3_cabcc_23 : decode cJx40b00_toChars3_cabcc 23 = .ok (.isub, 1) := by decide +kernel
theorem dJx40b00_toChars3_cabcc_24 : decode cJx40b00_toChars3_cabcc 24 = .ok (.invokevirtual 145, 3) := by decide +kernel
theorem dJx40b00_toChars3_cabcc_27 : decode cJx40b00_toChars3_cabcc 27 = .ok (.iconst 0, 1) := by decide +kernel
theorem dJx40b00_toChars3_cabcc_28 : decode cJx40b00_toChars3_cabcc 28 = .ok (.ireturn, 1) := by decide +kernel
theorem dJx40b00_append8Digits_d00df_0 : decode cJx40b00_append8Digits_d00df 0 = .ok (.aload_n 0, 1) := by decide +kernel
theorem dJx40b00_append8Digits_d00df_1 : decode cJx40b00_append8Digits_d00df 1 = .ok (.iload_n 1, 1) := by decide +kernel
theorem dJx40b00_append8Digits_d00df_2 : decode cJx40b00_append8Digits_d00df 2 = .ok (.invokevirtual 135, 3) := by decide +kernel
theorem dJx40b00_append8Digits_d00df_5 : decode cJx40b00_append8Digits_d00df 5 = .ok (.istore_n 2, 1) := by decide +kernel
theorem dJx40b00_append8Digits_d00df_6 : decode cJx40b00_append8Digits_d00df 6 = .ok (.iconst 0, 1) := by decide +kernel
theorem dJx40b00_append8Digits_d00df_7 : decode cJx40b00_append8Digits_d00df 7 = .ok (.istore_n 3, 1) := by decide +kernel
theorem dJx40b00_append8Digits_d00df_8 : decode cJx40b00_append8Digits_d00df 8 = .ok (.iload_n 3, 1) := by decide +kernel
theorem dJx40b00_append8Digits_d00df_9 : decode cJx40b00_append8Digits_d00df 9 = .ok (.bipush 8, 2) := by decide +kernel
theorem dJx40b00_append8Digits_d00df_11 : decode cJx40b00_append8Digits_d00df 11 = .ok (.if_icmp .ge 30, 3) := by decide +kernel
theorem dJx40b00_append8Digits_d00df_14 : decode cJx40b00_append8Digits_d00df 14 = .ok (.bipush 10, 2) := by decide +kernel
theorem dJx40b00_append8Digits_d00df_16 : decode cJx40b00_append8Digits_d00df 16 = .ok (.iload_n 2, 1) := by decide +kernel
theorem dJx40b00_append8Digits_d00df_17 : decode cJx40b00_append8Digits_d00df 17 = .ok (.imul, 1) := by decide +kernel
theorem dJx40b00_append8Digits_d00df_18 : decode cJx40b00_append8Digits_d00df 18 = .ok (.istore 4, 2) := by decide +kernel
theorem dJx40b00_append8Digits_d00df_20 : decode cJx40b00_append8Digits_d00df 20 = .ok (.aload_n 0, 1) := by decide +kernel
theorem dJx40b00_append8Digits_d00df_21 : decode cJx40b00_append8Digits_d00df 21 = .ok (.iload 4, 2) := by decide +kernel
theorem dJx40b00_append8Digits_d00df_23 : decode cJx40b00_append8Digits_d00df 23 = .ok (.bipush 28, 2) := by decide +kernel
theorem dJx40b00_append8Digits_d00df_25 : decode cJx40b00_append8Digits_d00df 25 = .ok (.iushr, 1) := by decide +kernel
theorem dJx40b00_append8Digits_d00df_26 : decode cJx40b00_append8Digits_d00df 26 = .ok (.invokevirtual 132, 3) := by decide +kernel
theorem dJx40b00_append8Digits_d00df_29 : decode cJx40b00_append8Digits_d00df 29 = .ok (.iload 4, 2) := by decide +kernel
theorem dJx40b00_append8Digits_d00df_31 : decode cJx40b00_append8Digits_d00df 31 = .ok (.ldc 138, 2) := by decide +kernel
theorem dJx40b00_append8Digits_d00df_33 : decode cJx40b00_append8Digits_d00df 33 = .ok (.iand, 1) := by decide +kernel
theorem dJx40b00_append8Digits_d00df_34 : decode cJx40b00_append8Digits_d00df 34 = .ok (.istore_n 2, 1) := by decide +kernel
theorem dJx40b00_append8Digits_d00df_35 : decode cJx40b00_append8Digits_d00df 35 = .ok (.iinc 3 1, 3) := by decide +kernel
theorem dJx40b00_append8Digits_d00df_38 : decode cJx40b00_append8Digits_d00df 38 = .ok (.goto (-30), 3) := by decide +kernel
theorem dJx40b00_append8Digits_d00df_41 : decode cJx40b00_append8Digits_d00df 41 = .ok (.return_, 1) := by decide +kernel
theorem dJx40b00_removeTrailingZeroes_da8c8_0 : decode cJx40b00_removeTrailingZeroes_da8c8 0 = .ok (.aload_n 0, 1) := by decide +kernel
theorem dJx40b00_removeTrailingZeroes_da8c8_1 : decode cJx40b00_removeTrailingZeroes_da8c8 1 = .ok (.getfield 11, 3) := by decide +kernel
theorem dJx40b00_removeTrailingZeroes_da8c8_4 : decode cJx40b00_removeTrailingZeroes_da8c8 4 = .ok (.aload_n 0, 1) := by decide +kernel
theorem dJx40b00_removeTrailingZeroes_da8c8_5 : decode cJx40b00_removeTrailingZeroes_da8c8 5 = .ok (.getfield 42, 3) := by decide +kernel
theorem dJx40b00_removeTrailingZeroes_da8c8_8 : decode cJx40b00_removeTrailingZeroes_da8c8 8 = .ok (.baload, 1) := by decide +kernel
theorem dJx40b00_removeTrailingZeroes_da8c8_9 : decode cJx40b00_removeTrailingZeroes_da8c8 9 = .ok (.bipush 48, 2) := by decide +kernel
theorem dJx40b00_removeTrailingZeroes_da8c8_11 : decode cJx40b00_removeTrailingZeroes_da8c8 11 = .ok (.if_icmp .ne 16, 3) := by decide +kernel
theorem dJx40b00_removeTrailingZeroes_da8c8_14 : decode cJx40b00_removeTrailingZeroes_da8c8 14 = .ok (.aload_n 0, 1) := by decide +kernel
theorem dJx40b00_removeTrailingZeroes_da8c8_15 : decode cJx40b00_removeTrailingZeroes_da8c8 15 = .ok (.dup, 1) := by decide +kernel
theorem dJx40b00_removeTrailingZeroes_da8c8_16 : decode cJx40b00_removeTrailingZeroes_da8c8 16 = .ok (.getfield 42, 3) := by decide +kernel
theorem dJx40b00_removeTrailingZeroes_da8c8_19 : decode cJx40b00_removeTrailingZeroes_da8c8 19 = .ok (.iconst 1, 1) := by decide +kernel
theorem dJx40b00_removeTrailingZeroes_da8c8_20 : decode cJx40b00_removeTrailingZeroes_da8c8 20 = .ok (.isub, 1) := by decide +kernel
theorem dJx40b00_removeTrailingZeroes_da8c8_21 : decode cJx40b00_removeTrailingZeroes_da8c8 21 = .ok (.putfield 42, 3) := by decide +kernel
theorem dJx40b00_removeTrailingZeroes_da8c8_24 : decode cJx40b00_removeTrailingZeroes_da8c8 24 = .ok (.goto (-24), 3) := by decide +kernel
theorem dJx40b00_removeTrailingZeroes_da8c8_27 : decode cJx40b00_removeTrailingZeroes_da8c8 27 = .ok (.aload_n 0, 1) := by decide +kernel
theorem dJx40b00_removeTrailingZeroes_da8c8_28 : decode cJx40b00_removeTrailingZeroes_da8c8 28 = .ok (.getfield 11, 3) := by decide +kernel
theorem dJx40b00_removeTrailingZeroes_da8c8_31 : decode cJx40b00_removeTrailingZeroes_da8c8 31 = .ok (.aload_n 0, 1) := by decide +kernel
theorem dJx40b00_removeTrailingZeroes_da8c8_32 : decode cJx40b00_removeTrailingZeroes_da8c8 32 = .ok (.getfield 42, 3) := by decide +kernel
theorem dJx40b00_removeTrailingZeroes_da8c8_35 : decode cJx40b00_removeTrailingZeroes_da8c8 35 = .ok (.baload, 1) := by decide +kernel
theorem dJx40b00_removeTrailingZeroes_da8c8_36 : decode cJx40b00_removeTrailingZeroes_da8c8 36 = .ok (.bipush 46, 2) := by decide +kernel
theorem dJx40b00_removeTrailingZeroes_da8c8_38 : decode cJx40b00_removeTrailingZeroes_da8c8 38 = .ok (.if_icmp .ne 13, 3) := by decide +kernel
theorem dJx40b00_removeTrailingZeroes_da8c8_41 : decode cJx40b00_removeTrailingZeroes_da8c8 41 = .ok (.aload_n 0, 1) := by decide +kernel
theorem dJx40b00_removeTrailingZeroes_da8c8_42 : decode cJx40b00_removeTrailingZeroes_da8c8 42 = .ok (.dup, 1) := by decide +kernel
theorem dJx40b00_removeTrailingZeroes_da8c8_43 : decode cJx40b00_removeTrailingZeroes_da8c8 43 = .ok (.getfield 42, 3) := by decide +kernel
theorem dJx40b00_removeTrailingZeroes_da8c8_46 : decode cJx40b00_removeTrailingZeroes_da8c8 46 = .ok (.iconst 1, 1) := by decide +kernel
theorem dJx40b00_removeTrailingZeroes_da8c8_47 : decode cJx40b00_removeTrailingZeroes_da8c8 47 = .ok (.iadd, 1) := by decide +kernel
theorem dJx40b00_removeTrailingZeroes_da8c8_48 : decode cJx40b00_removeTrailingZeroes_da8c8 48 = .ok (.putfield 42, 3) := by decide +kernel
theorem dJx40b00_removeTrailingZeroes_da8c8_51 : decode cJx40b00_removeTrailingZeroes_da8c8 51 = .ok (.return_, 1) := by decide +kernel
theorem dJx40b00_y_0f7a4_0 : decode cJx40b00_y_0f7a4 0 = .ok (.iload_n 1, 1) := by decide +kernel
theorem dJx40b00_y_0f7a4_1 : decode cJx40b00_y_0f7a4 1 = .ok (.iconst 1, 1) := by decide +kernel
theorem dJx40b00_y_0f7a4_2 : decode cJx40b00_y_0f7a4 2 = .ok (.iadd, 1) := by decide +kernel
theorem dJx40b00_y_0f7a4_3 : decode cJx40b00_y_0f7a4 3 = .ok (.i2l, 1) := by decide +kernel
theorem dJx40b00_y_0f7a4_4 : decode cJx40b00_y_0f7a4 4 = .ok (.bipush 28, 2) := by decide +kernel
theorem dJx40b00_y_0f7a4_6 : decode cJx40b00_y_0f7a4 6 = .ok (.lshl, 1) := by decide +kernel
theorem dJx40b00_y_0f7a4_7 : decode cJx40b00_y_0f7a4 7 = .ok (.ldc2_w 148, 3) := by decide +kernel
theorem dJx40b00_y_0f7a4_10 : decode cJx40b00_y_0f7a4 10 = .ok (.invokestatic 104, 3) := by decide +kernel
theorem dJx40b00_y_0f7a4_13 : decode cJx40b00_y_0f7a4 13 = .ok (.bipush 20, 2) := by decide +kernel
theorem dJx40b00_y_0f7a4_15 : decode cJx40b00_y_0f7a4 15 = .ok (.lushr, 1) := by decide +kernel
theorem dJx40b00_y_0f7a4_16 : decode cJx40b00_y_0f7a4 16 = .ok (.l2i, 1) := by decide +kernel
theorem dJx40b00_y_0f7a4_17 : decode cJx40b00_y_0f7a4 17 = .ok (.iconst 1, 1) := by decide +kernel
theorem dJx40b00_y_0f7a4_18 : decode cJx40b00_y_0f7a4 18 = .ok (.isub, 1) := by decide +kernel
theorem dJx40b00_y_0f7a4_19 : decode cJx40b00_y_0f7a4 19 = .ok (.ireturn, 1) := by decide +kernel
theorem dJx40b00_exponent_d00df_0 : decode cJx40b00_exponent_d00df 0 = .ok (.aload_n 0, 1) := by decide +kernel
theorem dJx40b00_exponent_d00df_1 : decode cJx40b00_exponent_d00df 1 = .ok (.bipush 69, 2) := by decide +kernel
theorem dJx40b00_exponent_d00df_3 : decode cJx40b00_exponent_d00df 3 = .ok (.invokevirtual 69, 3) := by decide +kernel
theorem dJx40b00_exponent_d00df_6 : decode cJx40b00_exponent_d00df 6 = .ok (.iload_n 1, 1) := by decide +kernel
theorem dJx40b00_exponent_d00df_7 : decode cJx40b00_exponent_d00df 7 = .ok (.ifCond .ge 12, 3) := by decide +kernel
theorem dJx40b00_exponent_d00df_10 : decode cJx40b00_exponent_d00df 10 = .ok (.aload_n 0, 1) := by decide +kernel
theorem dJx40b00_exponent_d00df_11 : decode cJx40b00_exponent_d00df 11 = .ok (.bipush 45, 2) := by decide +kernel
theorem dJx40b00_exponent_d00df_13 : decode cJx40b00_exponent_d00df 13 = .ok (.invokevirtual 69, 3) := by decide +kernel
theorem dJx40b00_exponent_d00df_16 : decode cJx40b00_exponent_d00df 16 = .ok (.iload_n 1, 1) := by decide +kernel
theorem dJx40b00_exponent_d00df_17 : decode cJx40b00_exponent_d00df 17 = .ok (.ineg, 1) := by decide +kernel
theorem dJx40b00_exponent_d00df_18 : decode cJx40b00_exponent_d00df 18 = .ok (.istore_n 1, 1) := by decide +kernel
theorem dJx40b00_exponent_d00df_19 : decode cJx40b00_exponent_d00df 19 = .ok (.iload_n 1, 1) := by decide +kernel
theorem dJx40b00_exponent_d00df_20 : decode cJx40b00_exponent_d00df 20 = .ok (.bipush 10, 2) := by decide +kernel
theorem dJx40b00_exponent_d00df_22 : decode cJx40b00_exponent_d00df 22 = .ok (.if_icmp .ge 9, 3) := by decide +kernel
theorem dJx40b00_exponent_d00df_25 : decode cJx40b00_exponent_d00df 25 = .ok (.aload_n 0, 1) := by decide +kernel
theorem dJx40b00_exponent_d00df_26 : decode cJx40b00_exponent_d00df 26 = .ok (.iload_n 1, 1) := by decide +kernel
theorem dJx40b00_exponent_d00df_27 : decode cJx40b00_exponent_d00df 27 = .ok (.invokevirtual 132, 3) := by decide +kernel
theorem dJx40b00_exponent_d00df_30 : decode cJx40b00_exponent_d00df 30 = .ok (.return_, 1) := by decide +kernel
theorem dJx40b00_exponent_d00df_31 : decode cJx40b00_exponent_d00df 31 = .ok (.iload_n 1, 1) := by decide +kernel
theorem dJx40b00_exponent_d00df_32 : decode cJx40b00_exponent_d00df 32 = .ok (.bipush 103, 2) := by decide +kernel
theorem dJx40b00_exponent_d00df_34 : decode cJx40b00_exponent_d00df 34 = .ok (.imul, 1) := by decide +kernel
theorem dJx40b00_exponent_d00df_35 : decode cJx40b00_exponent_d00df 35 = .ok (.bipush 10, 2) := by decide +kernel
theorem dJx40b00_exponent_d00df_37 : decode cJx40b00_exponent_d00df 37 = .ok (.iushr, 1) := by decide +kernel
theorem dJx40b00_exponent_d00df_38 : decode cJx40b00_exponent_d00df 38 = .ok (.istore_n 2, 1) := by decide +kernel
theorem dJx40b00_exponent_d00df_39 : decode cJx40b00_exponent_d00df 39 = .ok (.aload_n 0, 1) := by decide +kernel
theorem dJx40b00_exponent_d00df_40 : decode cJx40b00_exponent_d00df 40 = .ok (.iload_n 2, 1) := by decide +kernel
theorem dJx40b00_exponent_d00df_41 : decode cJx40b00_exponent_d00df 41 = .ok (.invokevirtual 132, 3) := by decide +kernel
theorem dJx40b00_exponent_d00df_44 : decode cJx40b00_exponent_d00df 44 = .ok (.aload_n 0, 1) := by decide +kernel
theorem dJx40b00_exponent_d00df_45 : decode cJx40b00_exponent_d00df 45 = .ok (.iload_n 1, 1) := by decide +kernel
theorem dJx40b00_exponent_d00df_46 : decode cJx40b00_exponent_d00df 46 = .ok (.bipush 10, 2) := by decide +kernel
theorem dJx40b00_exponent_d00df_48 : decode cJx40b00_exponent_d00df 48 = .ok (.iload_n 2, 1) := by decide +kernel
theorem dJx40b00_exponent_d00df_49 : decode cJx40b00_exponent_d00df 49 = .ok (.imul, 1) := by decide +kernel
theorem dJx40b00_exponent_d00df_50 : decode cJx40b00_exponent_d00df 50 = .ok (.isub, 1) := by decide +kernel
theorem dJx40b00_exponent_d00df_51 : decode cJx40b00_exponent_d00df 51 = .ok (.invokevirtual 132, 3) := by decide +kernel
theorem dJx40b00_exponent_d00df_54 : decode cJx40b00_exponent_d00df 54 = .ok (.return_, 1) := by decide +kernel
theorem dJx40b00_append_d00df_0 : decode cJx40b00_append_d00df 0 = .ok (.aload_n 0, 1) := by decide +kernel
theorem dJx40b00_append_d00df_1 : decode cJx40b00_append_d00df 1 = .ok (.getfield 11, 3) := by decide +kernel
theorem dJx40b00_append_d00df_4 : decode cJx40b00_append_d00df 4 = .ok (.aload_n 0, 1) := by decide +kernel
theorem dJx40b00_append_d00df_5 : decode cJx40b00_append_d00df 5 = .ok (.dup, 1) := by decide +kernel
theorem dJx40b00_append_d00df_6 : decode cJx40b00_append_d00df 6 = .ok (.getfield 42, 3) := by decide +kernel
theorem dJx40b00_append_d00df_9 : decode cJx40b00_append_d00df 9 = .ok (.iconst 1, 1) := by decide +kernel
theorem dJx40b00_append_d00df_10 : decode cJx40b00_append_d00df 10 = .ok (.iadd, 1) := by decide +kernel
theorem dJx40b00_append_d00df_11 : decode cJx40b00_append_d00df 11 = .ok (.dup_x1, 1) := by decide +kernel
theorem dJx40b00_append_d00df_12 : decode cJx40b00_append_d00df 12 = .ok (.putfield 42, 3) := by decide +kernel
theorem dJx40b00_append_d00df_15 : decode cJx40b00_append_d00df 15 = .ok (.iload_n 1, 1) := by decide +kernel
theorem dJx40b00_append_d00df_16 : decode cJx40b00_append_d00df 16 = .ok (.i2b, 1) := by decide +kernel
theorem dJx40b00_append_d00df_17 : decode cJx40b00_append_d00df 17 = .ok (.bastore, 1) := by decide +kernel
theorem dJx40b00_append_d00df_18 : decode cJx40b00_append_d00df 18 = .ok (.return_, 1) := by decide +kernel
theorem dJx40b00_appendDigit_d00df_0 : decode cJx40b00_appendDigit_d00df 0 = .ok (.aload_n 0, 1) := by decide +kernel
theorem dJx40b00_appendDigit_d00df_1 : decode cJx40b00_appendDigit_d00df 1 = .ok (.getfield 11, 3) := by decide +kernel
theorem dJx40b00_appendDigit_d00df_4 : decode cJx40b00_appendDigit_d00df 4 = .ok (.aload_n 0, 1) := by decide +kernel
theorem dJx40b00_appendDigit_d00df_5 : decode cJx40b00_appendDigit_d00df 5 = .ok (.dup, 1) := by decide +kernel
theorem dJx40b00_appendDigit_d00df_6 : decode cJx40b00_appendDigit_d00df 6 = .ok (.getfield 42, 3) := by decide +kernel
theorem dJx40b00_appendDigit_d00df_9 : decode cJx40b00_appendDigit_d00df 9 = .ok (.iconst 1, 1) := by decide +kernel
theorem dJx40b00_appendDigit_d00df_10 : decode cJx40b00_appendDigit_d00df 10 = .ok (.iadd, 1) := by decide +kernel
theorem dJx40b00_appendDigit_d00df_11 : decode cJx40b00_appendDigit_d00df 11 = .ok (.dup_x1, 1) := by decide +kernel
theorem dJx40b00_appendDigit_d00df_12 : decode cJx40b00_appendDigit_d00df 12 = .ok (.putfield 42, 3) := by decide +kernel
theorem dJx40b00_appendDigit_d00df_15 : decode cJx40b00_appendDigit_d00df 15 = .ok (.bipush 48, 2) := by decide +kernel
theorem dJx40b00_appendDigit_d00df_17 : decode cJx40b00_appendDigit_d00df 17 = .ok (.iload_n 1, 1) := by decide +kernel
theorem dJx40b00_appendDigit_d00df_18 : decode cJx40b00_appendDigit_d00df 18 = .ok (.iadd, 1) := by decide +kernel
theorem dJx40b00_appendDigit_d00df_19 : decode cJx40b00_appendDigit_d00df 19 = .ok (.i2b, 1) := by decide +kernel
theorem dJx40b00_appendDigit_d00df_20 : decode cJx40b00_appendDigit_d00df 20 = .ok (.bastore, 1) := by decide +kernel
theorem dJx40b00_appendDigit_d00df_21 : decode cJx40b00_appendDigit_d00df 21 = .ok (.return_, 1) := by decide +kernel
theorem dJx5991d_set_6c0ba_0 : decode cJx5991d_set_6c0ba 0 = .ok (.aload_n 0, 1) := by decide +kernel
theorem dJx5991d_set_6c0ba_1 : decode cJx5991d_set_6c0ba 1 = .ok (.lload_n 1, 1) := by decide +kernel
theorem dJx5991d_set_6c0ba_2 : decode cJx5991d_set_6c0ba 2 = .ok (.putfield 45, 3) := by decide +kernel
theorem dJx5991d_set_6c0ba_5 : decode cJx5991d_set_6c0ba 5 = .ok (.aload_n 0, 1) := by decide +kernel
theorem dJx5991d_set_6c0ba_6 : decode cJx5991d_set_6c0ba 6 = .ok (.iload_n 3, 1) := by decide +kernel
theorem dJx5991d_set_6c0ba_7 : decode cJx5991d_set_6c0ba 7 = .ok (.putfield 49, 3) := by decide +kernel
theorem dJx5991d_set_6c0ba_10 : decode cJx5991d_set_6c0ba 10 = .ok (.aload_n 0, 1) := by decide +kernel
theorem dJx5991d_set_6c0ba_11 : decode cJx5991d_set_6c0ba 11 = .ok (.iload 4, 2) := by decide +kernel
theorem dJx5991d_set_6c0ba_13 : decode cJx5991d_set_6c0ba 13 = .ok (.putfield 53, 3) := by decide +kernel
theorem dJx5991d_set_6c0ba_16 : decode cJx5991d_set_6c0ba 16 = .ok (.return_, 1) := by decide +kernel
theorem dJx25f51_pow10_3e8ac_0 : decode cJx25f51_pow10_3e8ac 0 = .ok (.getstatic 14, 3) := by decide +kernel
theorem dJx25f51_pow10_3e8ac_3 : decode cJx25f51_pow10_3e8ac 3 = .ok (.iload_n 0, 1) := by decide +kernel
theorem dJx25f51_pow10_3e8ac_4 : decode cJx25f51_pow10_3e8ac 4 = .ok (.laload, 1) := by decide +kernel
theorem dJx25f51_pow10_3e8ac_5 : decode cJx25f51_pow10_3e8ac 5 = .ok (.lreturn, 1) := by decide +kernel
theorem dJx25f51_flog10pow2_0f7a4_0 : decode cJx25f51_flog10pow2_0f7a4 0 = .ok (.iload_n 0, 1) := by decide +kernel
theorem dJx25f51_flog10pow2_0f7a4_1 : decode cJx25f51_flog10pow2_0f7a4 1 = .ok (.i2l, 1) := by decide +kernel
theorem dJx25f51_flog10pow2_0f7a4_2 : decode cJx25f51_flog10pow2_0f7a4 2 = .ok (.ldc2_w 20, 3) := by decide +kernel
theorem dJx25f51_flog10pow2_0f7a4_5 : decode cJx25f51_flog10pow2_0f7a4 5 = .ok (.lmul, 1) := by decide +kernel
theorem dJx25f51_flog10pow2_0f7a4_6 : decode cJx25f51_flog10pow2_0f7a4 6 = .ok (.bipush 41, 2) := by decide +kernel
theorem dJx25f51_flog10pow2_0f7a4_8 : decode cJx25f51_flog10pow2_0f7a4 8 = .ok (.lshr, 1) := by decide +kernel
theorem dJx25f51_flog10pow2_0f7a4_9 : decode cJx25f51_flog10pow2_0f7a4 9 = .ok (.l2i, 1) := by decide +kernel
theorem dJx25f51_flog10pow2_0f7a4_10 : decode cJx25f51_flog10pow2_0f7a4 10 = .ok (.ireturn, 1) := by decide +kernel
theorem dJx25f51_flog10threeQuartersPow2_0f7a4_0 : decode cJx25f51_flog10threeQuartersPow2_0f7a4 0 = .ok (.iload_n 0, 1) := by decide +kernel
theorem dJx25f51_flog10threeQuartersPow2_0f7a4_1 : decode cJx25f51_flog10threeQuartersPow2_0f7a4 1 = .ok (.i2l, 1) := by decide +kernel
theorem dJx25f51_flog10threeQuartersPow2_0f7a4_2 : decode cJx25f51_flog10threeQuartersPow2_0f7a4 2 = .ok (.ldc2_w 20, 3) := by decide +kernel
theorem dJx25f51_flog10threeQuartersPow2_0f7a4_5 : decode cJx25f51_flog10threeQuartersPow2_0f7a4 5 = .ok (.lmul, 1) := by decide +kernel
theorem dJx25f51_flog10threeQuartersPow2_0f7a4_6 : decode cJx25f51_flog10threeQuartersPow2_0f7a4 6 = .ok (.ldc2_w 22, 3) := by decide +kernel
theorem dJx25f51_flog10threeQuartersPow2_0f7a4_9 : decode cJx25f51_flog10threeQuartersPow2_0f7a4 9 = .ok (.ladd, 1) := by decide +kernel
theorem dJx25f51_flog10threeQuartersPow2_0f7a4_10 : decode cJx25f51_flog10threeQuartersPow2_0f7a4 10 = .ok (.bipush 41, 2) := by decide +kernel
theorem dJx25f51_flog10threeQuartersPow2_0f7a4_12 : decode cJx25f51_flog10threeQuartersPow2_0f7a4 12 = .ok (.lshr, 1) := by decide +kernel
theorem dJx25f51_flog10threeQuartersPow2_0f7a4_13 : decode cJx25f51_flog10threeQuartersPow2_0f7a4 13 = .ok (.l2i, 1) := by decide +kernel
theorem dJx25f51_flog10threeQuartersPow2_0f7a4_14 : decode cJx25f51_flog10threeQuartersPow2_0f7a4 14 = .ok (.ireturn, 1) := by decide +kernel
theorem dJx25f51_flog2pow10_0f7a4_0 : decode cJx25f51_flog2pow10_0f7a4 0 = .ok (.iload_n 0, 1) := by decide +kernel
theorem dJx25f51_flog2pow10_0f7a4_1 : decode cJx25f51_flog2pow10_0f7a4 1 = .ok (.i2l, 1) := by decide +kernel
theorem dJx25f51_flog2pow10_0f7a4_2 : decode cJx25f51_flog2pow10_0f7a4 2 = .ok (.ldc2_w 24, 3) := by decide +kernel
theorem dJx25f51_flog2pow10_0f7a4_5 : decode cJx25f51_flog2pow10_0f7a4 5 = .ok (.lmul, 1) := by decide +kernel
theorem dJx25f51_flog2pow10_0f7a4_6 : decode cJx25f51_flog2pow10_0f7a4 6 = .ok (.bipush 38, 2) := by decide +kernel
theorem dJx25f51_flog2pow10_0f7a4_8 : decode cJx25f51_flog2pow10_0f7a4 8 = .ok (.lshr, 1) := by decide +kernel
theorem dJx25f51_flog2pow10_0f7a4_9 : decode cJx25f51_flog2pow10_0f7a4 9 = .ok (.l2i, 1) := by decide +kernel
theorem dJx25f51_flog2pow10_0f7a4_10 : decode cJx25f51_flog2pow10_0f7a4 10 = .ok (.ireturn, 1) := by decide +kernel
theorem dJx25f51_g1_3e8ac_0 : decode cJx25f51_g1_3e8ac 0 = .ok (.getstatic 26, 3) := by decide +kernel
theorem dJx25f51_g1_3e8ac_3 : decode cJx25f51_g1_3e8ac 3 = .ok (.iload_n 0, 1) := by decide +kernel
theorem dJx25f51_g1_3e8ac_4 : decode cJx25f51_g1_3e8ac 4 = .ok (.sipush (-324), 3) := by decide +kernel
theorem dJx25f51_g1_3e8ac_7 : decode cJx25f51_g1_3e8ac 7 = .ok (.isub, 1) := by decide +kernel
theorem dJx25f51_g1_3e8ac_8 : decode cJx25f51_g1_3e8ac 8 = .ok (.iconst 1, 1) := by decide +kernel
theorem dJx25f51_g1_3e8ac_9 : decode cJx25f51_g1_3e8ac 9 = .ok (.ishl, 1) := by decide +kernel
theorem dJx25f51_g1_3e8ac_10 : decode cJx25f51_g1_3e8ac 10 = .ok (.laload, 1) := by decide +kernel
theorem dJx25f51_g1_3e8ac_11 : decode cJx25f51_g1_3e8ac 11 = .ok (.lreturn, 1) := by decide +kernel
theorem dJx25f51_g0_3e8ac_0 : decode cJx25f51_g0_3e8ac 0 = .ok (.getstatic 26, 3) := by decide +kernel
theorem dJx25f51_g0_3e8ac_3 : decode cJx25f51_g0_3e8ac 3 = .ok (.iload_n 0, 1) := by decide +kernel
theorem dJx25f51_g0_3e8ac_4 : decode cJx25f51_g0_3e8ac 4 = .ok (.sipush (-324), 3) := by decide +kernel
theorem dJx25f51_g0_3e8ac_7 : decode cJx25f51_g0_3e8ac 7 = .ok (.isub, 1) := by decide +kernel
theorem dJx25f51_g0_3e8ac_8 : decode cJx25f51_g0_3e8ac 8 = .ok (.iconst 1, 1) := by decide +kernel
theorem dJx25f51_g0_3e8ac_9 : decode cJx25f51_g0_3e8ac 9 = .ok (.ishl, 1) := by decide +kernel
theorem dJx25f51_g0_3e8ac_10 : decode cJx25f51_g0_3e8ac 10 = .ok (.iconst 1, 1) := by decide +kernel
theorem dJx25f51_g0_3e8ac_11 : decode cJx25f51_g0_3e8ac 11 = .ok (.ior, 1) := by decide +kernel
theorem dJx25f51_g0_3e8ac_12 : decode cJx25f51_g0_3e8ac 12 = .ok (.laload, 1) := by decide +kernel
theorem dJx25f51_g0_3e8ac_13 : decode cJx25f51_g0_3e8ac 13 = .ok (.lreturn, 1) := by decide +kernel
theorem dJ8_newLength_cabcc_0 : decode cJ8_newLength_cabcc 0 = .ok (.iload_n 0, 1) := by decide +kernel
theorem dJ8_newLength_cabcc_1 : decode cJ8_newLength_cabcc 1 = .ok (.iload_n 1, 1) := by decide +kernel
theorem dJ8_newLength_cabcc_2 : decode cJ8_newLength_cabcc 2 = .ok (.iload_n 2, 1) := by decide +kernel
theorem dJ8_newLength_cabcc_3 : decode cJ8_newLength_cabcc 3 = .ok (.invokestatic 194, 3) := by decide +kernel
theorem dJ8_newLength_cabcc_6 : decode cJ8_newLength_cabcc 6 = .ok (.iadd, 1) := by decide +kernel
theorem dJ8_newLength_cabcc_7 : decode cJ8_newLength_cabcc 7 = .ok (.istore_n 3, 1) := by decide +kernel
theorem dJ8_newLength_cabcc_8 : decode cJ8_newLength_cabcc 8 = .ok (.iconst 0, 1) := by decide +kernel
theorem dJ8_newLength_cabcc_9 : decode cJ8_newLength_cabcc 9 = .ok (.iload_n 3, 1) := by decide +kernel
theorem dJ8_newLength_cabcc_10 : decode cJ8_newLength_cabcc 10 = .ok (.if_icmp .ge 11, 3) := by decide +kernel
theorem dJ8_newLength_cabcc_13 : decode cJ8_newLength_cabcc 13 = .ok (.iload_n 3, 1) := by decide +kernel
theorem dJ8_newLength_cabcc_14 : decode cJ8_newLength_cabcc 14 = .ok (.ldc 200, 2) := by decide +kernel
theorem dJ8_newLength_cabcc_16 : decode cJ8_newLength_cabcc 16 = .ok (.if_icmp .gt 5, 3) := by decide +kernel
theorem dJ8_newLength_cabcc_19 : decode cJ8_newLength_cabcc 19 = .ok (.iload_n 3, 1) := by decide +kernel
theorem dJ8_newLength_cabcc_20 : decode cJ8_newLength_cabcc 20 = .ok (.ireturn, 1) := by decide +kernel
theorem dJ8_newLength_cabcc_21 : decode cJ8_newLength_cabcc 21 = .ok (.iload_n 0, 1) := by decide +kernel
theorem dJ8_newLength_cabcc_22 : decode cJ8_newLength_cabcc 22 = .ok (.iload_n 1, 1) := by decide +kernel
theorem dJ8_newLength_cabcc_23 : decode cJ8_newLength_cabcc 23 = .ok (.invokestatic 201, 3) := by decide +kernel
theorem dJ8_newLength_cabcc_26 : decode cJ8_newLength_cabcc 26 = .ok (.ireturn, 1) := by decide +kernel
theorem dJ8_hugeLength_7cf53_0 : decode cJ8_hugeLength_7cf53 0 = .ok (.iload_n 0, 1) := by decide +kernel
theorem dJ8_hugeLength_7cf53_1 : decode cJ8_hugeLength_7cf53 1 = .ok (.iload_n 1, 1) := by decide +kernel
theorem dJ8_hugeLength_7cf53_2 : decode cJ8_hugeLength_7cf53 2 = .ok (.iadd, 1) := by decide +kernel
theorem dJ8_hugeLength_7cf53_3 : decode cJ8_hugeLength_7cf53 3 = .ok (.istore_n 2, 1) := by decide +kernel
theorem dJ8_hugeLength_7cf53_4 : decode cJ8_hugeLength_7cf53 4 = .ok (.iload_n 2, 1) := by decide +kernel
theorem dJ8_hugeLength_7cf53_5 : decode cJ8_hugeLength_7cf53 5 = .ok (.ifCond .ge 44, 3) := by decide +kernel
theorem dJ8_hugeLength_7cf53_8 : decode cJ8_hugeLength_7cf53 8 = .ok (.new 204, 3) := by decide +kernel
theorem dJ8_hugeLength_7cf53_11 : decode cJ8_hugeLength_7cf53 11 = .ok (.dup, 1) := by decide +kernel
theorem dJ8_hugeLength_7cf53_12 : decode cJ8_hugeLength_7cf53 12 = .ok (.new 89, 3) := by decide +kernel
theorem dJ8_hugeLength_7cf53_15 : decode cJ8_hugeLength_7cf53 15 = .ok (.dup, 1) := by decide +kernel
theorem dJ8_hugeLength_7cf53_16 : decode cJ8_hugeLength_7cf53 16 = .ok (.invokespecial 91, 3) := by decide +kernel
theorem dJ8_hugeLength_7cf53_19 : decode cJ8_hugeLength_7cf53 19 = .ok (.ldc 206, 2) := by decide +kernel
theorem dJ8_hugeLength_7cf53_21 : decode cJ8_hugeLength_7cf53 21 = .ok (.invokevirtual 94, 3) := by decide +kernel
theorem dJ8_hugeLength_7cf53_24 : decode cJ8_hugeLength_7cf53 24 = .ok (.iload_n 0, 1) := by decide +kernel
theorem dJ8_hugeLength_7cf53_25 : decode cJ8_hugeLength_7cf53 25 = .ok (.invokevirtual 98, 3) := by decide +kernel
theorem dJ8_hugeLength_7cf53_28 : decode cJ8_hugeLength_7cf53 28 = .ok (.ldc 208, 2) := by decide +kernel
theorem dJ8_hugeLength_7cf53_30 : decode cJ8_hugeLength_7cf53 30 = .ok (.invokevirtual 94, 3) := by decide +kernel
theorem dJ8_hugeLength_7cf53_33 : decode cJ8_hugeLength_7cf53 33 = .ok (.iload_n 1, 1) := by decide +kernel
theorem dJ8_hugeLength_7cf53_34 : decode cJ8_hugeLength_7cf53 34 = .ok (.invokevirtual 98, 3) := by decide +kernel
theorem dJ8_hugeLength_7cf53_37 : decode cJ8_hugeLength_7cf53 37 = .ok (.ldc 210, 2) := by decide +kernel
theorem dJ8_hugeLength_7cf53_39 : decode cJ8_hugeLength_7cf53 39 = .ok (.invokevirtual 94, 3) := by decide +kernel
theorem dJ8_hugeLength_7cf53_42 : decode cJ8_hugeLength_7cf53 42 = .ok (.invokevirtual 101, 3) := by decide +kernel
theorem dJ8_hugeLength_7cf53_45 : decode cJ8_hugeLength_7cf53 45 = .ok (.invokespecial 212, 3) := by decide +kernel
theorem dJ8_hugeLength_7cf53_48 : decode cJ8_hugeLength_7cf53 48 = .ok (.athrow, 1) := by decide +kernel
theorem dJ8_hugeLength_7cf53_49 : decode cJ8_hugeLength_7cf53 49 = .ok (.iload_n 2, 1) := by decide +kernel
theorem dJ8_hugeLength_7cf53_50 : decode cJ8_hugeLength_7cf53 50 = .ok (.ldc 200, 2) := by decide +kernel
theorem dJ8_hugeLength_7cf53_52 : decode cJ8_hugeLength_7cf53 52 = .ok (.if_icmp .gt 6, 3) := by decide +kernel
theorem dJ8_hugeLength_7cf53_55 : decode cJ8_hugeLength_7cf53 55 = .ok (.ldc 200, 2) := by decide +kernel
theorem dJ8_hugeLength_7cf53_57 : decode cJ8_hugeLength_7cf53 57 = .ok (.ireturn, 1) := by decide +kernel
theorem dJ8_hugeLength_7cf53_58 : decode cJ8_hugeLength_7cf53 58 = .ok (.iload_n 2, 1) := by decide +kernel
theorem dJ8_hugeLength_7cf53_59 : decode cJ8_hugeLength_7cf53 59 = .ok (.ireturn, 1) := by decide +kernel
theorem dJ3_checkIndex_8e157_0 : decode cJ3_checkIndex_8e157 0 = .ok (.iload_n 0, 1) := by decide +kernel
theorem dJ3_checkIndex_8e157_1 : decode cJ3_checkIndex_8e157 1 = .ok (.ifCond .lt 8, 3) := by decide +kernel
theorem dJ3_checkIndex_8e157_4 : decode cJ3_checkIndex_8e157 4 = .ok (.iload_n 0, 1) := by decide +kernel
theorem dJ3_checkIndex_8e157_5 : decode cJ3_checkIndex_8e157 5 = .ok (.iload_n 1, 1) := by decide +kernel
theorem dJ3_checkIndex_8e157_6 : decode cJ3_checkIndex_8e157 6 = .ok (.if_icmp .lt 10, 3) := by decide +kernel
theorem dJ3_checkIndex_8e157_9 : decode cJ3_checkIndex_8e157 9 = .ok (.aload_n 2, 1) := by decide +kernel
theorem dJ3_checkIndex_8e157_10 : decode cJ3_checkIndex_8e157 10 = .ok (.iload_n 0, 1) := by decide +kernel
theorem dJ3_checkIndex_8e157_11 : decode cJ3_checkIndex_8e157 11 = .ok (.iload_n 1, 1) := by decide +kernel
theorem dJ3_checkIndex_8e157_12 : decode cJ3_checkIndex_8e157 12 = .ok (.invokestatic 95, 3) := by decide +kernel
theorem dJ3_checkIndex_8e157_15 : decode cJ3_checkIndex_8e157 15 = .ok (.athrow, 1) := by decide +kernel
theorem dJ3_checkIndex_8e157_16 : decode cJ3_checkIndex_8e157 16 = .ok (.iload_n 0, 1) := by decide +kernel
theorem dJ3_checkIndex_8e157_17 : decode cJ3_checkIndex_8e157 17 = .ok (.ireturn, 1) := by decide +kernel
theorem dJ3_checkFromToIndex_8c36e_0 : decode cJ3_checkFromToIndex_8c36e 0 = .ok (.iload_n 0, 1) := by decide +kernel
theorem dJ3_checkFromToIndex_8c36e_1 : decode cJ3_checkFromToIndex_8c36e 1 = .ok (.ifCond .lt 13, 3) := by decide +kernel
theorem dJ3_checkFromToIndex_8c36e_4 : decode cJ3_checkFromToIndex_8c36e 4 = .ok (.iload_n 0, 1) := by decide +kernel
theorem dJ3_checkFromToIndex_8c36e_5 : decode cJ3_checkFromToIndex_8c36e 5 = .ok (.iload_n 1, 1) := by decide +kernel
theorem dJ3_checkFromToIndex_8c36e_6 : decode cJ3_checkFromToIndex_8c36e 6 = .ok (.if_icmp .gt 8, 3) := by decide +kernel
theorem dJ3_checkFromToIndex_8c36e_9 : decode cJ3_checkFromToIndex_8c36e 9 = .ok (.iload_n 1, 1) := by decide +kernel
theorem dJ3_checkFromToIndex_8c36e_10 : decode cJ3_checkFromToIndex_8c36e 10 = .ok (.iload_n 2, 1) := by decide +kernel
theorem dJ3_checkFromToIndex_8c36e_11 : decode cJ3_checkFromToIndex_8c36e 11 = .ok (.if_icmp .le 11, 3) := by decide +kernel
theorem dJ3_checkFromToIndex_8c36e_14 : decode cJ3_checkFromToIndex_8c36e 14 = .ok (.aload_n 3, 1) := by decide +kernel
theorem dJ3_checkFromToIndex_8c36e_15 : decode cJ3_checkFromToIndex_8c36e 15 = .ok (.iload_n 0, 1) := by decide +kernel
theorem dJ3_checkFromToIndex_8c36e_16 : decode cJ3_checkFromToIndex_8c36e 16 = .ok (.iload_n 1, 1) := by decide +kernel
theorem dJ3_checkFromToIndex_8c36e_17 : decode cJ3_checkFromToIndex_8c36e 17 = .ok (.iload_n 2, 1) := by decide +kernel
theorem dJ3_checkFromToIndex_8c36e_18 : decode cJ3_checkFromToIndex_8c36e 18 = .ok (.invokestatic 99, 3) := by decide +kernel
theorem dJ3_checkFromToIndex_8c36e_21 : decode cJ3_checkFromToIndex_8c36e 21 = .ok (.athrow, 1) := by decide +kernel
theorem dJ3_checkFromToIndex_8c36e_22 : decode cJ3_checkFromToIndex_8c36e 22 = .ok (.iload_n 0, 1) := by decide +kernel
theorem dJ3_checkFromToIndex_8c36e_23 : decode cJ3_checkFromToIndex_8c36e 23 = .ok (.ireturn, 1) := by decide +kernel
theorem dJ3_checkFromIndexSize_8c36e_0 : decode cJ3_checkFromIndexSize_8c36e 0 = .ok (.iload_n 2, 1) := by decide +kernel
theorem dJ3_checkFromIndexSize_8c36e_1 : decode cJ3_checkFromIndexSize_8c36e 1 = .ok (.iload_n 0, 1) := by decide +kernel
theorem dJ3_checkFromIndexSize_8c36e_2 : decode cJ3_checkFromIndexSize_8c36e 2 = .ok (.ior, 1) := by decide +kernel
theorem dJ3_checkFromIndexSize_8c36e_3 : decode cJ3_checkFromIndexSize_8c36e 3 = .ok (.iload_n 1, 1) := by decide +kernel
theorem dJ3_checkFromIndexSize_8c36e_4 : decode cJ3_checkFromIndexSize_8c36e 4 = .ok (.ior, 1) := by decide +kernel
theorem dJ3_checkFromIndexSize_8c36e_5 : decode cJ3_checkFromIndexSize_8c36e 5 = .ok (.ifCond .lt 10, 3) := by decide +kernel
theorem dJ3_checkFromIndexSize_8c36e_8 : decode cJ3_checkFromIndexSize_8c36e 8 = .ok (.iload_n 1, 1) := by decide +kernel
theorem dJ3_checkFromIndexSize_8c36e_9 : decode cJ3_checkFromIndexSize_8c36e 9 = .ok (.iload_n 2, 1) := by decide +kernel
theorem dJ3_checkFromIndexSize_8c36e_10 : decode cJ3_checkFromIndexSize_8c36e 10 = .ok (.iload_n 0, 1) := by decide +kernel
theorem dJ3_checkFromIndexSize_8c36e_11 : decode cJ3_checkFromIndexSize_8c36e 11 = .ok (.isub, 1) := by decide +kernel
theorem dJ3_checkFromIndexSize_8c36e_12 : decode cJ3_checkFromIndexSize_8c36e 12 = .ok (.if_icmp .le 11, 3) := by decide +kernel
theorem dJ3_checkFromIndexSize_8c36e_15 : decode cJ3_checkFromIndexSize_8c36e 15 = .ok (.aload_n 3, 1) := by decide +kernel
theorem dJ3_checkFromIndexSize_8c36e_16 : decode cJ3_checkFromIndexSize_8c36e 16 = .ok (.iload_n 0, 1) := by decide +kernel
theorem dJ3_checkFromIndexSize_8c36e_17 : decode cJ3_checkFromIndexSize_8c36e 17 = .ok (.iload_n 1, 1) := by decide +kernel
theorem dJ3_checkFromIndexSize_8c36e_18 : decode cJ3_checkFromIndexSize_8c36e 18 = .ok (.iload_n 2, 1) := by decide +kernel
theorem dJ3_checkFromIndexSize_8c36e_19 : decode cJ3_checkFromIndexSize_8c36e 19 = .ok (.invokestatic 103, 3) := by decide +kernel
theorem dJ3_checkFromIndexSize_8c36e_22 : decode cJ3_checkFromIndexSize_8c36e 22 = .ok (.athrow, 1) := by decide +kernel
theorem dJ3_checkFromIndexSize_8c36e_23 : decode cJ3_checkFromIndexSize_8c36e 23 = .ok (.iload_n 0, 1) := by decide +kernel
theorem dJ3_checkFromIndexSize_8c36e_24 : decode cJ3_checkFromIndexSize_8c36e 24 = .ok (.ireturn, 1) := by decide +kernel
