theorem dX0_tileAt_0 : decode cX0_tileAt 0 = .ok (.lload_n 0, 1) := by decide +kernel
theorem dX0_tileAt_1 : decode cX0_tileAt 1 = .ok (.iload_n 2, 1) := by decide +kernel
theorem dX0_tileAt_2 : decode cX0_tileAt 2 = .ok (.iconst 5, 1) := by decide +kernel
theorem dX0_tileAt_3 : decode cX0_tileAt 3 = .ok (.imul, 1) := by decide +kernel
theorem dX0_tileAt_4 : decode cX0_tileAt 4 = .ok (.lushr, 1) := by decide +kernel
theorem dX0_tileAt_5 : decode cX0_tileAt 5 = .ok (.l2i, 1) := by decide +kernel
theorem dX0_tileAt_6 : decode cX0_tileAt 6 = .ok (.bipush 31, 2) := by decide +kernel
theorem dX0_tileAt_8 : decode cX0_tileAt 8 = .ok (.iand, 1) := by decide +kernel
theorem dX0_tileAt_9 : decode cX0_tileAt 9 = .ok (.ireturn, 1) := by decide +kernel
theorem dX0_canGo_0 : decode cX0_canGo 0 = .ok (.lload_n 0, 1) := by decide +kernel
theorem dX0_canGo_1 : decode cX0_canGo 1 = .ok (.iload_n 2, 1) := by decide +kernel
theorem dX0_canGo_2 : decode cX0_canGo 2 = .ok (.invokestatic 9, 3) := by decide +kernel
theorem dX0_canGo_5 : decode cX0_canGo 5 = .ok (.lload_n 0, 1) := by decide +kernel
theorem dX0_canGo_6 : decode cX0_canGo 6 = .ok (.lcmp, 1) := by decide +kernel
theorem dX0_canGo_7 : decode cX0_canGo 7 = .ok (.ifCond .eq 7, 3) := by decide +kernel
theorem dX0_canGo_10 : decode cX0_canGo 10 = .ok (.iconst 1, 1) := by decide +kernel
theorem dX0_canGo_11 : decode cX0_canGo 11 = .ok (.goto 4, 3) := by decide +kernel
theorem dX0_canGo_14 : decode cX0_canGo 14 = .ok (.iconst 0, 1) := by decide +kernel
theorem dX0_canGo_15 : decode cX0_canGo 15 = .ok (.ireturn, 1) := by decide +kernel
theorem dX0_isStuck_0 : decode cX0_isStuck 0 = .ok (.iconst 0, 1) := by decide +kernel
theorem dX0_isStuck_1 : decode cX0_isStuck 1 = .ok (.istore_n 2, 1) := by decide +kernel
theorem dX0_isStuck_2 : decode cX0_isStuck 2 = .ok (.iload_n 2, 1) := by decide +kernel
theorem dX0_isStuck_3 : decode cX0_isStuck 3 = .ok (.iconst 4, 1) := by decide +kernel
theorem dX0_isStuck_4 : decode cX0_isStuck 4 = .ok (.if_icmp .ge 19, 3) := by decide +kernel
theorem dX0_isStuck_7 : decode cX0_isStuck 7 = .ok (.lload_n 0, 1) := by decide +kernel
theorem dX0_isStuck_8 : decode cX0_isStuck 8 = .ok (.iload_n 2, 1) := by decide +kernel
theorem dX0_isStuck_9 : decode cX0_isStuck 9 = .ok (.invokestatic 13, 3) := by decide +kernel
theorem dX0_isStuck_12 : decode cX0_isStuck 12 = .ok (.ifCond .eq 5, 3) := by decide +kernel
theorem dX0_isStuck_15 : decode cX0_isStuck 15 = .ok (.iconst 0, 1) := by decide +kernel
theorem dX0_isStuck_16 : decode cX0_isStuck 16 = .ok (.ireturn, 1) := by decide +kernel
theorem dX0_isStuck_17 : decode cX0_isStuck 17 = .ok (.iinc 2 1, 3) := by decide +kernel
theorem dX0_isStuck_20 : decode cX0_isStuck 20 = .ok (.goto (-18), 3) := by decide +kernel
theorem dX0_isStuck_23 : decode cX0_isStuck 23 = .ok (.iconst 1, 1) := by decide +kernel
theorem dX0_isStuck_24 : decode cX0_isStuck 24 = .ok (.ireturn, 1) := by decide +kernel
theorem dX0_pushed_0 : decode cX0_pushed 0 = .ok (.lconst 0, 1) := by decide +kernel
theorem dX0_pushed_1 : decode cX0_pushed 1 = .ok (.lstore_n 3, 1) := by decide +kernel
theorem dX0_pushed_2 : decode cX0_pushed 2 = .ok (.iconst 0, 1) := by decide +kernel
theorem dX0_pushed_3 : decode cX0_pushed 3 = .ok (.istore 5, 2) := by decide +kernel
theorem dX0_pushed_5 : decode cX0_pushed 5 = .ok (.iload 5, 2) := by decide +kernel
theorem dX0_pushed_7 : decode cX0_pushed 7 = .ok (.iconst 3, 1) := by decide +kernel
theorem dX0_pushed_8 : decode cX0_pushed 8 = .ok (.if_icmp .ge 62, 3) := by decide +kernel
theorem dX0_pushed_11 : decode cX0_pushed 11 = .ok (.lload_n 0, 1) := by decide +kernel
theorem dX0_pushed_12 : decode cX0_pushed 12 = .ok (.iload_n 2, 1) := by decide +kernel
theorem dX0_pushed_13 : decode cX0_pushed 13 = .ok (.iload 5, 2) := by decide +kernel
theorem dX0_pushed_15 : decode cX0_pushed 15 = .ok (.invokestatic 17, 3) := by decide +kernel
theorem dX0_pushed_18 : decode cX0_pushed 18 = .ok (.invokestatic 21, 3) := by decide +kernel
theorem dX0_pushed_21 : decode cX0_pushed 21 = .ok (.istore 6, 2) := by decide +kernel
theorem dX0_pushed_23 : decode cX0_pushed 23 = .ok (.iconst 0, 1) := by decide +kernel
theorem dX0_pushed_24 : decode cX0_pushed 24 = .ok (.istore 7, 2) := by decide +kernel
theorem dX0_pushed_26 : decode cX0_pushed 26 = .ok (.iload 7, 2) := by decide +kernel
theorem dX0_pushed_28 : decode cX0_pushed 28 = .ok (.iconst 3, 1) := by decide +kernel
theorem dX0_pushed_29 : decode cX0_pushed 29 = .ok (.if_icmp .ge 35, 3) := by decide +kernel
theorem dX0_pushed_32 : decode cX0_pushed 32 = .ok (.iload 6, 2) := by decide +kernel
theorem dX0_pushed_34 : decode cX0_pushed 34 = .ok (.iload 7, 2) := by decide +kernel
theorem dX0_pushed_36 : decode cX0_pushed 36 = .ok (.invokestatic 25, 3) := by decide +kernel
theorem dX0_pushed_39 : decode cX0_pushed 39 = .ok (.i2l, 1) := by decide +kernel
theorem dX0_pushed_40 : decode cX0_pushed 40 = .ok (.lstore 8, 2) := by decide +kernel
theorem dX0_pushed_42 : decode cX0_pushed 42 = .ok (.lload_n 3, 1) := by decide +kernel
theorem dX0_pushed_43 : decode cX0_pushed 43 = .ok (.lload 8, 2) := by decide +kernel
theorem dX0_pushed_45 : decode cX0_pushed 45 = .ok (.iload_n 2, 1) := by decide +kernel
theorem dX0_pushed_46 : decode cX0_pushed 46 = .ok (.iload 5, 2) := by decide +kernel
theorem dX0_pushed_48 : decode cX0_pushed 48 = .ok (.iload 7, 2) := by decide +kernel
theorem dX0_pushed_50 : decode cX0_pushed 50 = .ok (.invokestatic 29, 3) := by decide +kernel
theorem dX0_pushed_53 : decode cX0_pushed 53 = .ok (.iconst 5, 1) := by decide +kernel
theorem dX0_pushed_54 : decode cX0_pushed 54 = .ok (.imul, 1) := by decide +kernel
theorem dX0_pushed_55 : decode cX0_pushed 55 = .ok (.lshl, 1) := by decide +kernel
theorem dX0_pushed_56 : decode cX0_pushed 56 = .ok (.lor, 1) := by decide +kernel
theorem dX0_pushed_57 : decode cX0_pushed 57 = .ok (.lstore_n 3, 1) := by decide +kernel
theorem dX0_pushed_58 : decode cX0_pushed 58 = .ok (.iinc 7 1, 3) := by decide +kernel
theorem dX0_pushed_61 : decode cX0_pushed 61 = .ok (.goto (-35), 3) := by decide +kernel
theorem dX0_pushed_64 : decode cX0_pushed 64 = .ok (.iinc 5 1, 3) := by decide +kernel
theorem dX0_pushed_67 : decode cX0_pushed 67 = .ok (.goto (-62), 3) := by decide +kernel
theorem dX0_pushed_70 : decode cX0_pushed 70 = .ok (.lload_n 3, 1) := by decide +kernel
theorem dX0_pushed_71 : decode cX0_pushed 71 = .ok (.lreturn, 1) := by decide +kernel
theorem dX0_gainOf_0 : decode cX0_gainOf 0 = .ok (.iconst 0, 1) := by decide +kernel
theorem dX0_gainOf_1 : decode cX0_gainOf 1 = .ok (.istore_n 3, 1) := by decide +kernel
theorem dX0_gainOf_2 : decode cX0_gainOf 2 = .ok (.iconst 0, 1) := by decide +kernel
theorem dX0_gainOf_3 : decode cX0_gainOf 3 = .ok (.istore 4, 2) := by decide +kernel
theorem dX0_gainOf_5 : decode cX0_gainOf 5 = .ok (.iload 4, 2) := by decide +kernel
theorem dX0_gainOf_7 : decode cX0_gainOf 7 = .ok (.iconst 3, 1) := by decide +kernel
theorem dX0_gainOf_8 : decode cX0_gainOf 8 = .ok (.if_icmp .ge 45, 3) := by decide +kernel
theorem dX0_gainOf_11 : decode cX0_gainOf 11 = .ok (.lload_n 0, 1) := by decide +kernel
theorem dX0_gainOf_12 : decode cX0_gainOf 12 = .ok (.iload_n 2, 1) := by decide +kernel
theorem dX0_gainOf_13 : decode cX0_gainOf 13 = .ok (.iload 4, 2) := by decide +kernel
theorem dX0_gainOf_15 : decode cX0_gainOf 15 = .ok (.invokestatic 17, 3) := by decide +kernel
theorem dX0_gainOf_18 : decode cX0_gainOf 18 = .ok (.istore 5, 2) := by decide +kernel
theorem dX0_gainOf_20 : decode cX0_gainOf 20 = .ok (.iload 5, 2) := by decide +kernel
theorem dX0_gainOf_22 : decode cX0_gainOf 22 = .ok (.invokestatic 33, 3) := by decide +kernel
theorem dX0_gainOf_25 : decode cX0_gainOf 25 = .ok (.istore 6, 2) := by decide +kernel
theorem dX0_gainOf_27 : decode cX0_gainOf 27 = .ok (.iload 6, 2) := by decide +kernel
theorem dX0_gainOf_29 : decode cX0_gainOf 29 = .ok (.iconst (-1), 1) := by decide +kernel
theorem dX0_gainOf_30 : decode cX0_gainOf 30 = .ok (.if_icmp .eq 17, 3) := by decide +kernel
theorem dX0_gainOf_33 : decode cX0_gainOf 33 = .ok (.iload_n 3, 1) := by decide +kernel
theorem dX0_gainOf_34 : decode cX0_gainOf 34 = .ok (.iconst 1, 1) := by decide +kernel
theorem dX0_gainOf_35 : decode cX0_gainOf 35 = .ok (.iload 5, 2) := by decide +kernel
theorem dX0_gainOf_37 : decode cX0_gainOf 37 = .ok (.iload 6, 2) := by decide +kernel
theorem dX0_gainOf_39 : decode cX0_gainOf 39 = .ok (.invokestatic 25, 3) := by decide +kernel
theorem dX0_gainOf_42 : decode cX0_gainOf 42 = .ok (.iconst 1, 1) := by decide +kernel
theorem dX0_gainOf_43 : decode cX0_gainOf 43 = .ok (.iadd, 1) := by decide +kernel
theorem dX0_gainOf_44 : decode cX0_gainOf 44 = .ok (.ishl, 1) := by decide +kernel
theorem dX0_gainOf_45 : decode cX0_gainOf 45 = .ok (.iadd, 1) := by decide +kernel
theorem dX0_gainOf_46 : decode cX0_gainOf 46 = .ok (.istore_n 3, 1) := by decide +kernel
theorem dX0_gainOf_47 : decode cX0_gainOf 47 = .ok (.iinc 4 1, 3) := by decide +kernel
theorem dX0_gainOf_50 : decode cX0_gainOf 50 = .ok (.goto (-45), 3) := by decide +kernel
theorem dX0_gainOf_53 : decode cX0_gainOf 53 = .ok (.iload_n 3, 1) := by decide +kernel
theorem dX0_gainOf_54 : decode cX0_gainOf 54 = .ok (.ireturn, 1) := by decide +kernel
theorem dX0_drawn_0 : decode cX0_drawn 0 = .ok (.lload_n 0, 1) := by decide +kernel
theorem dX0_drawn_1 : decode cX0_drawn 1 = .ok (.invokestatic 36, 3) := by decide +kernel
theorem dX0_drawn_4 : decode cX0_drawn 4 = .ok (.istore_n 3, 1) := by decide +kernel
theorem dX0_drawn_5 : decode cX0_drawn 5 = .ok (.iload_n 3, 1) := by decide +kernel
theorem dX0_drawn_6 : decode cX0_drawn 6 = .ok (.ifCond .ne 5, 3) := by decide +kernel
theorem dX0_drawn_9 : decode cX0_drawn 9 = .ok (.lload_n 0, 1) := by decide +kernel
theorem dX0_drawn_10 : decode cX0_drawn 10 = .ok (.lreturn, 1) := by decide +kernel
theorem dX0_drawn_11 : decode cX0_drawn 11 = .ok (.iload_n 2, 1) := by decide +kernel
theorem dX0_drawn_12 : decode cX0_drawn 12 = .ok (.invokestatic 40, 3) := by decide +kernel
theorem dX0_drawn_15 : decode cX0_drawn 15 = .ok (.istore 4, 2) := by decide +kernel
theorem dX0_drawn_17 : decode cX0_drawn 17 = .ok (.iload 4, 2) := by decide +kernel
theorem dX0_drawn_19 : decode cX0_drawn 19 = .ok (.bipush 16, 2) := by decide +kernel
theorem dX0_drawn_21 : decode cX0_drawn 21 = .ok (.ishr, 1) := by decide +kernel
theorem dX0_drawn_22 : decode cX0_drawn 22 = .ok (.iload_n 3, 1) := by decide +kernel
theorem dX0_drawn_23 : decode cX0_drawn 23 = .ok (.irem, 1) := by decide +kernel
theorem dX0_drawn_24 : decode cX0_drawn 24 = .ok (.istore 5, 2) := by decide +kernel
theorem dX0_drawn_26 : decode cX0_drawn 26 = .ok (.iload 4, 2) := by decide +kernel
theorem dX0_drawn_28 : decode cX0_drawn 28 = .ok (.invokestatic 40, 3) := by decide +kernel
theorem dX0_drawn_31 : decode cX0_drawn 31 = .ok (.bipush 16, 2) := by decide +kernel
theorem dX0_drawn_33 : decode cX0_drawn 33 = .ok (.ishr, 1) := by decide +kernel
theorem dX0_drawn_34 : decode cX0_drawn 34 = .ok (.bipush 10, 2) := by decide +kernel
theorem dX0_drawn_36 : decode cX0_drawn 36 = .ok (.irem, 1) := by decide +kernel
theorem dX0_drawn_37 : decode cX0_drawn 37 = .ok (.ifCond .ne 9, 3) := by decide +kernel
theorem dX0_drawn_40 : decode cX0_drawn 40 = .ok (.ldc2_w 43, 3) := by decide +kernel
theorem dX0_drawn_43 : decode cX0_drawn 43 = .ok (.goto 4, 3) := by decide +kernel
theorem dX0_drawn_46 : decode cX0_drawn 46 = .ok (.lconst 1, 1) := by decide +kernel
theorem dX0_drawn_47 : decode cX0_drawn 47 = .ok (.lstore 6, 2) := by decide +kernel
theorem dX0_drawn_49 : decode cX0_drawn 49 = .ok (.iconst 0, 1) := by decide +kernel
theorem dX0_drawn_50 : decode cX0_drawn 50 = .ok (.istore 8, 2) := by decide +kernel
theorem dX0_drawn_52 : decode cX0_drawn 52 = .ok (.iload 8, 2) := by decide +kernel
theorem dX0_drawn_54 : decode cX0_drawn 54 = .ok (.bipush 9, 2) := by decide +kernel
theorem dX0_drawn_56 : decode cX0_drawn 56 = .ok (.if_icmp .ge 36, 3) := by decide +kernel
theorem dX0_drawn_59 : decode cX0_drawn 59 = .ok (.lload_n 0, 1) := by decide +kernel
theorem dX0_drawn_60 : decode cX0_drawn 60 = .ok (.iload 8, 2) := by decide +kernel
theorem dX0_drawn_62 : decode cX0_drawn 62 = .ok (.invokestatic 45, 3) := by decide +kernel
theorem dX0_drawn_65 : decode cX0_drawn 65 = .ok (.ifCond .ne 21, 3) := by decide +kernel
theorem dX0_drawn_68 : decode cX0_drawn 68 = .ok (.iload 5, 2) := by decide +kernel
theorem dX0_drawn_70 : decode cX0_drawn 70 = .ok (.ifCond .ne 13, 3) := by decide +kernel
theorem dX0_drawn_73 : decode cX0_drawn 73 = .ok (.lload_n 0, 1) := by decide +kernel
theorem dX0_drawn_74 : decode cX0_drawn 74 = .ok (.lload 6, 2) := by decide +kernel
theorem dX0_drawn_76 : decode cX0_drawn 76 = .ok (.iload 8, 2) := by decide +kernel
theorem dX0_drawn_78 : decode cX0_drawn 78 = .ok (.iconst 5, 1) := by decide +kernel
theorem dX0_drawn_79 : decode cX0_drawn 79 = .ok (.imul, 1) := by decide +kernel
theorem dX0_drawn_80 : decode cX0_drawn 80 = .ok (.lshl, 1) := by decide +kernel
theorem dX0_drawn_81 : decode cX0_drawn 81 = .ok (.lor, 1) := by decide +kernel
theorem dX0_drawn_82 : decode cX0_drawn 82 = .ok (.lreturn, 1) := by decide +kernel
theorem dX0_drawn_83 : decode cX0_drawn 83 = .ok (.iinc 5 (-1), 3) := by decide +kernel
theorem dX0_drawn_86 : decode cX0_drawn 86 = .ok (.iinc 8 1, 3) := by decide +kernel
theorem dX0_drawn_89 : decode cX0_drawn 89 = .ok (.goto (-37), 3) := by decide +kernel
theorem dX0_drawn_92 : decode cX0_drawn 92 = .ok (.lload_n 0, 1) := by decide +kernel
theorem dX0_drawn_93 : decode cX0_drawn 93 = .ok (.lreturn, 1) := by decide +kernel
theorem dX0_drawnZ_0 : decode cX0_drawnZ 0 = .ok (.iload_n 0, 1) := by decide +kernel
theorem dX0_drawnZ_1 : decode cX0_drawnZ 1 = .ok (.invokestatic 40, 3) := by decide +kernel
theorem dX0_drawnZ_4 : decode cX0_drawnZ 4 = .ok (.invokestatic 40, 3) := by decide +kernel
theorem dX0_drawnZ_7 : decode cX0_drawnZ 7 = .ok (.ireturn, 1) := by decide +kernel
theorem dX0_nextZ_0 : decode cX0_nextZ 0 = .ok (.iload_n 0, 1) := by decide +kernel
theorem dX0_nextZ_1 : decode cX0_nextZ 1 = .ok (.ldc 49, 2) := by decide +kernel
theorem dX0_nextZ_3 : decode cX0_nextZ 3 = .ok (.imul, 1) := by decide +kernel
theorem dX0_nextZ_4 : decode cX0_nextZ 4 = .ok (.sipush 12345, 3) := by decide +kernel
theorem dX0_nextZ_7 : decode cX0_nextZ 7 = .ok (.iadd, 1) := by decide +kernel
theorem dX0_nextZ_8 : decode cX0_nextZ 8 = .ok (.ldc 50, 2) := by decide +kernel
theorem dX0_nextZ_10 : decode cX0_nextZ 10 = .ok (.iand, 1) := by decide +kernel
theorem dX0_nextZ_11 : decode cX0_nextZ 11 = .ok (.ireturn, 1) := by decide +kernel
theorem dX0_countEmpty_0 : decode cX0_countEmpty 0 = .ok (.iconst 0, 1) := by decide +kernel
theorem dX0_countEmpty_1 : decode cX0_countEmpty 1 = .ok (.istore_n 2, 1) := by decide +kernel
theorem dX0_countEmpty_2 : decode cX0_countEmpty 2 = .ok (.iconst 0, 1) := by decide +kernel
theorem dX0_countEmpty_3 : decode cX0_countEmpty 3 = .ok (.istore_n 3, 1) := by decide +kernel
theorem dX0_countEmpty_4 : decode cX0_countEmpty 4 = .ok (.iload_n 3, 1) := by decide +kernel
theorem dX0_countEmpty_5 : decode cX0_countEmpty 5 = .ok (.bipush 9, 2) := by decide +kernel
theorem dX0_countEmpty_7 : decode cX0_countEmpty 7 = .ok (.if_icmp .ge 20, 3) := by decide +kernel
theorem dX0_countEmpty_10 : decode cX0_countEmpty 10 = .ok (.lload_n 0, 1) := by decide +kernel
theorem dX0_countEmpty_11 : decode cX0_countEmpty 11 = .ok (.iload_n 3, 1) := by decide +kernel
theorem dX0_countEmpty_12 : decode cX0_countEmpty 12 = .ok (.invokestatic 45, 3) := by decide +kernel
theorem dX0_countEmpty_15 : decode cX0_countEmpty 15 = .ok (.ifCond .ne 6, 3) := by decide +kernel
theorem dX0_countEmpty_18 : decode cX0_countEmpty 18 = .ok (.iinc 2 1, 3) := by decide +kernel
theorem dX0_countEmpty_21 : decode cX0_countEmpty 21 = .ok (.iinc 3 1, 3) := by decide +kernel
theorem dX0_countEmpty_24 : decode cX0_countEmpty 24 = .ok (.goto (-20), 3) := by decide +kernel
theorem dX0_countEmpty_27 : decode cX0_countEmpty 27 = .ok (.iload_n 2, 1) := by decide +kernel
theorem dX0_countEmpty_28 : decode cX0_countEmpty 28 = .ok (.ireturn, 1) := by decide +kernel
theorem dX0_cellOf_0 : decode cX0_cellOf 0 = .ok (.iload_n 0, 1) := by decide +kernel
theorem dX0_cellOf_1 : decode cX0_cellOf 1 = .ok (.tableswitch 51 0 2 #[27, 33, 43], 27) := by decide +kernel
theorem dX0_cellOf_28 : decode cX0_cellOf 28 = .ok (.iload_n 2, 1) := by decide +kernel
theorem dX0_cellOf_29 : decode cX0_cellOf 29 = .ok (.iconst 3, 1) := by decide +kernel
theorem dX0_cellOf_30 : decode cX0_cellOf 30 = .ok (.imul, 1) := by decide +kernel
theorem dX0_cellOf_31 : decode cX0_cellOf 31 = .ok (.iload_n 1, 1) := by decide +kernel
theorem dX0_cellOf_32 : decode cX0_cellOf 32 = .ok (.iadd, 1) := by decide +kernel
theorem dX0_cellOf_33 : decode cX0_cellOf 33 = .ok (.ireturn, 1) := by decide +kernel
theorem dX0_cellOf_34 : decode cX0_cellOf 34 = .ok (.iload_n 1, 1) := by decide +kernel
theorem dX0_cellOf_35 : decode cX0_cellOf 35 = .ok (.iconst 3, 1) := by decide +kernel
theorem dX0_cellOf_36 : decode cX0_cellOf 36 = .ok (.imul, 1) := by decide +kernel
theorem dX0_cellOf_37 : decode cX0_cellOf 37 = .ok (.iconst 3, 1) := by decide +kernel
theorem dX0_cellOf_38 : decode cX0_cellOf 38 = .ok (.iadd, 1) := by decide +kernel
theorem dX0_cellOf_39 : decode cX0_cellOf 39 = .ok (.iconst 1, 1) := by decide +kernel
theorem dX0_cellOf_40 : decode cX0_cellOf 40 = .ok (.isub, 1) := by decide +kernel
theorem dX0_cellOf_41 : decode cX0_cellOf 41 = .ok (.iload_n 2, 1) := by decide +kernel
theorem dX0_cellOf_42 : decode cX0_cellOf 42 = .ok (.isub, 1) := by decide +kernel
theorem dX0_cellOf_43 : decode cX0_cellOf 43 = .ok (.ireturn, 1) := by decide +kernel
theorem dX0_cellOf_44 : decode cX0_cellOf 44 = .ok (.iconst 2, 1) := by decide +kernel
theorem dX0_cellOf_45 : decode cX0_cellOf 45 = .ok (.iload_n 2, 1) := by decide +kernel
theorem dX0_cellOf_46 : decode cX0_cellOf 46 = .ok (.isub, 1) := by decide +kernel
theorem dX0_cellOf_47 : decode cX0_cellOf 47 = .ok (.iconst 3, 1) := by decide +kernel
theorem dX0_cellOf_48 : decode cX0_cellOf 48 = .ok (.imul, 1) := by decide +kernel
theorem dX0_cellOf_49 : decode cX0_cellOf 49 = .ok (.iload_n 1, 1) := by decide +kernel
theorem dX0_cellOf_50 : decode cX0_cellOf 50 = .ok (.iadd, 1) := by decide +kernel
theorem dX0_cellOf_51 : decode cX0_cellOf 51 = .ok (.ireturn, 1) := by decide +kernel
theorem dX0_cellOf_52 : decode cX0_cellOf 52 = .ok (.iload_n 1, 1) := by decide +kernel
theorem dX0_cellOf_53 : decode cX0_cellOf 53 = .ok (.iconst 3, 1) := by decide +kernel
theorem dX0_cellOf_54 : decode cX0_cellOf 54 = .ok (.imul, 1) := by decide +kernel
theorem dX0_cellOf_55 : decode cX0_cellOf 55 = .ok (.iload_n 2, 1) := by decide +kernel
theorem dX0_cellOf_56 : decode cX0_cellOf 56 = .ok (.iadd, 1) := by decide +kernel
theorem dX0_cellOf_57 : decode cX0_cellOf 57 = .ok (.ireturn, 1) := by decide +kernel
theorem dX0_tileIn_0 : decode cX0_tileIn 0 = .ok (.iload_n 0, 1) := by decide +kernel
theorem dX0_tileIn_1 : decode cX0_tileIn 1 = .ok (.iload_n 1, 1) := by decide +kernel
theorem dX0_tileIn_2 : decode cX0_tileIn 2 = .ok (.iconst 5, 1) := by decide +kernel
theorem dX0_tileIn_3 : decode cX0_tileIn 3 = .ok (.imul, 1) := by decide +kernel
theorem dX0_tileIn_4 : decode cX0_tileIn 4 = .ok (.ishr, 1) := by decide +kernel
theorem dX0_tileIn_5 : decode cX0_tileIn 5 = .ok (.bipush 31, 2) := by decide +kernel
theorem dX0_tileIn_7 : decode cX0_tileIn 7 = .ok (.iand, 1) := by decide +kernel
theorem dX0_tileIn_8 : decode cX0_tileIn 8 = .ok (.ireturn, 1) := by decide +kernel
theorem dX0_gathered_0 : decode cX0_gathered 0 = .ok (.iconst 0, 1) := by decide +kernel
theorem dX0_gathered_1 : decode cX0_gathered 1 = .ok (.istore 4, 2) := by decide +kernel
theorem dX0_gathered_3 : decode cX0_gathered 3 = .ok (.iconst 0, 1) := by decide +kernel
theorem dX0_gathered_4 : decode cX0_gathered 4 = .ok (.istore 5, 2) := by decide +kernel
theorem dX0_gathered_6 : decode cX0_gathered 6 = .ok (.iconst 0, 1) := by decide +kernel
theorem dX0_gathered_7 : decode cX0_gathered 7 = .ok (.istore 6, 2) := by decide +kernel
theorem dX0_gathered_9 : decode cX0_gathered 9 = .ok (.iload 6, 2) := by decide +kernel
theorem dX0_gathered_11 : decode cX0_gathered 11 = .ok (.iconst 3, 1) := by decide +kernel
theorem dX0_gathered_12 : decode cX0_gathered 12 = .ok (.if_icmp .ge 42, 3) := by decide +kernel
theorem dX0_gathered_15 : decode cX0_gathered 15 = .ok (.lload_n 0, 1) := by decide +kernel
theorem dX0_gathered_16 : decode cX0_gathered 16 = .ok (.iload_n 2, 1) := by decide +kernel
theorem dX0_gathered_17 : decode cX0_gathered 17 = .ok (.iload_n 3, 1) := by decide +kernel
theorem dX0_gathered_18 : decode cX0_gathered 18 = .ok (.iload 6, 2) := by decide +kernel
theorem dX0_gathered_20 : decode cX0_gathered 20 = .ok (.invokestatic 29, 3) := by decide +kernel
theorem dX0_gathered_23 : decode cX0_gathered 23 = .ok (.invokestatic 45, 3) := by decide +kernel
theorem dX0_gathered_26 : decode cX0_gathered 26 = .ok (.istore 7, 2) := by decide +kernel
theorem dX0_gathered_28 : decode cX0_gathered 28 = .ok (.iload 7, 2) := by decide +kernel
theorem dX0_gathered_30 : decode cX0_gathered 30 = .ok (.ifCond .eq 18, 3) := by decide +kernel
theorem dX0_gathered_33 : decode cX0_gathered 33 = .ok (.iload 4, 2) := by decide +kernel
theorem dX0_gathered_35 : decode cX0_gathered 35 = .ok (.iload 7, 2) := by decide +kernel
theorem dX0_gathered_37 : decode cX0_gathered 37 = .ok (.iload 5, 2) := by decide +kernel
theorem dX0_gathered_39 : decode cX0_gathered 39 = .ok (.iconst 5, 1) := by decide +kernel
theorem dX0_gathered_40 : decode cX0_gathered 40 = .ok (.imul, 1) := by decide +kernel
theorem dX0_gathered_41 : decode cX0_gathered 41 = .ok (.ishl, 1) := by decide +kernel
theorem dX0_gathered_42 : decode cX0_gathered 42 = .ok (.ior, 1) := by decide +kernel
theorem dX0_gathered_43 : decode cX0_gathered 43 = .ok (.istore 4, 2) := by decide +kernel
theorem dX0_gathered_45 : decode cX0_gathered 45 = .ok (.iinc 5 1, 3) := by decide +kernel
theorem dX0_gathered_48 : decode cX0_gathered 48 = .ok (.iinc 6 1, 3) := by decide +kernel
theorem dX0_gathered_51 : decode cX0_gathered 51 = .ok (.goto (-42), 3) := by decide +kernel
theorem dX0_gathered_54 : decode cX0_gathered 54 = .ok (.iload 4, 2) := by decide +kernel
theorem dX0_gathered_56 : decode cX0_gathered 56 = .ok (.ireturn, 1) := by decide +kernel
theorem dX0_mergingPlace_0 : decode cX0_mergingPlace 0 = .ok (.iload_n 0, 1) := by decide +kernel
theorem dX0_mergingPlace_1 : decode cX0_mergingPlace 1 = .ok (.bipush 31, 2) := by decide +kernel
theorem dX0_mergingPlace_3 : decode cX0_mergingPlace 3 = .ok (.iand, 1) := by decide +kernel
theorem dX0_mergingPlace_4 : decode cX0_mergingPlace 4 = .ok (.istore_n 1, 1) := by decide +kernel
theorem dX0_mergingPlace_5 : decode cX0_mergingPlace 5 = .ok (.iload_n 0, 1) := by decide +kernel
theorem dX0_mergingPlace_6 : decode cX0_mergingPlace 6 = .ok (.iconst 5, 1) := by decide +kernel
theorem dX0_mergingPlace_7 : decode cX0_mergingPlace 7 = .ok (.ishr, 1) := by decide +kernel
theorem dX0_mergingPlace_8 : decode cX0_mergingPlace 8 = .ok (.bipush 31, 2) := by decide +kernel
theorem dX0_mergingPlace_10 : decode cX0_mergingPlace 10 = .ok (.iand, 1) := by decide +kernel
theorem dX0_mergingPlace_11 : decode cX0_mergingPlace 11 = .ok (.istore_n 2, 1) := by decide +kernel
theorem dX0_mergingPlace_12 : decode cX0_mergingPlace 12 = .ok (.iload_n 0, 1) := by decide +kernel
theorem dX0_mergingPlace_13 : decode cX0_mergingPlace 13 = .ok (.bipush 10, 2) := by decide +kernel
theorem dX0_mergingPlace_15 : decode cX0_mergingPlace 15 = .ok (.ishr, 1) := by decide +kernel
theorem dX0_mergingPlace_16 : decode cX0_mergingPlace 16 = .ok (.bipush 31, 2) := by decide +kernel
theorem dX0_mergingPlace_18 : decode cX0_mergingPlace 18 = .ok (.iand, 1) := by decide +kernel
theorem dX0_mergingPlace_19 : decode cX0_mergingPlace 19 = .ok (.istore_n 3, 1) := by decide +kernel
theorem dX0_mergingPlace_20 : decode cX0_mergingPlace 20 = .ok (.iload_n 1, 1) := by decide +kernel
theorem dX0_mergingPlace_21 : decode cX0_mergingPlace 21 = .ok (.ifCond .eq 10, 3) := by decide +kernel
theorem dX0_mergingPlace_24 : decode cX0_mergingPlace 24 = .ok (.iload_n 1, 1) := by decide +kernel
theorem dX0_mergingPlace_25 : decode cX0_mergingPlace 25 = .ok (.iload_n 2, 1) := by decide +kernel
theorem dX0_mergingPlace_26 : decode cX0_mergingPlace 26 = .ok (.if_icmp .ne 5, 3) := by decide +kernel
theorem dX0_mergingPlace_29 : decode cX0_mergingPlace 29 = .ok (.iconst 0, 1) := by decide +kernel
theorem dX0_mergingPlace_30 : decode cX0_mergingPlace 30 = .ok (.ireturn, 1) := by decide +kernel
theorem dX0_mergingPlace_31 : decode cX0_mergingPlace 31 = .ok (.iload_n 2, 1) := by decide +kernel
theorem dX0_mergingPlace_32 : decode cX0_mergingPlace 32 = .ok (.ifCond .eq 12, 3) := by decide +kernel
theorem dX0_mergingPlace_35 : decode cX0_mergingPlace 35 = .ok (.iload_n 2, 1) := by decide +kernel
theorem dX0_mergingPlace_36 : decode cX0_mergingPlace 36 = .ok (.iload_n 3, 1) := by decide +kernel
theorem dX0_mergingPlace_37 : decode cX0_mergingPlace 37 = .ok (.if_icmp .ne 7, 3) := by decide +kernel
theorem dX0_mergingPlace_40 : decode cX0_mergingPlace 40 = .ok (.iconst 1, 1) := by decide +kernel
theorem dX0_mergingPlace_41 : decode cX0_mergingPlace 41 = .ok (.goto 4, 3) := by decide +kernel
theorem dX0_mergingPlace_44 : decode cX0_mergingPlace 44 = .ok (.iconst (-1), 1) := by decide +kernel
theorem dX0_mergingPlace_45 : decode cX0_mergingPlace 45 = .ok (.ireturn, 1) := by decide +kernel
theorem dX0_merged_0 : decode cX0_merged 0 = .ok (.iload_n 0, 1) := by decide +kernel
theorem dX0_merged_1 : decode cX0_merged 1 = .ok (.invokestatic 33, 3) := by decide +kernel
theorem dX0_merged_4 : decode cX0_merged 4 = .ok (.istore_n 1, 1) := by decide +kernel
theorem dX0_merged_5 : decode cX0_merged 5 = .ok (.iload_n 1, 1) := by decide +kernel
theorem dX0_merged_6 : decode cX0_merged 6 = .ok (.iconst (-1), 1) := by decide +kernel
theorem dX0_merged_7 : decode cX0_merged 7 = .ok (.if_icmp .ne 5, 3) := by decide +kernel
theorem dX0_merged_10 : decode cX0_merged 10 = .ok (.iload_n 0, 1) := by decide +kernel
theorem dX0_merged_11 : decode cX0_merged 11 = .ok (.ireturn, 1) := by decide +kernel
theorem dX0_merged_12 : decode cX0_merged 12 = .ok (.iload_n 1, 1) := by decide +kernel
theorem dX0_merged_13 : decode cX0_merged 13 = .ok (.iconst 5, 1) := by decide +kernel
theorem dX0_merged_14 : decode cX0_merged 14 = .ok (.imul, 1) := by decide +kernel
theorem dX0_merged_15 : decode cX0_merged 15 = .ok (.istore_n 2, 1) := by decide +kernel
theorem dX0_merged_16 : decode cX0_merged 16 = .ok (.iload_n 0, 1) := by decide +kernel
theorem dX0_merged_17 : decode cX0_merged 17 = .ok (.iconst 1, 1) := by decide +kernel
theorem dX0_merged_18 : decode cX0_merged 18 = .ok (.iload_n 2, 1) := by decide +kernel
theorem dX0_merged_19 : decode cX0_merged 19 = .ok (.ishl, 1) := by decide +kernel
theorem dX0_merged_20 : decode cX0_merged 20 = .ok (.iconst 1, 1) := by decide +kernel
theorem dX0_merged_21 : decode cX0_merged 21 = .ok (.isub, 1) := by decide +kernel
theorem dX0_merged_22 : decode cX0_merged 22 = .ok (.iand, 1) := by decide +kernel
theorem dX0_merged_23 : decode cX0_merged 23 = .ok (.istore_n 3, 1) := by decide +kernel
theorem dX0_merged_24 : decode cX0_merged 24 = .ok (.iload_n 0, 1) := by decide +kernel
theorem dX0_merged_25 : decode cX0_merged 25 = .ok (.iload_n 2, 1) := by decide +kernel
theorem dX0_merged_26 : decode cX0_merged 26 = .ok (.iconst 5, 1) := by decide +kernel
theorem dX0_merged_27 : decode cX0_merged 27 = .ok (.iadd, 1) := by decide +kernel
theorem dX0_merged_28 : decode cX0_merged 28 = .ok (.iconst 5, 1) := by decide +kernel
theorem dX0_merged_29 : decode cX0_merged 29 = .ok (.iadd, 1) := by decide +kernel
theorem dX0_merged_30 : decode cX0_merged 30 = .ok (.ishr, 1) := by decide +kernel
theorem dX0_merged_31 : decode cX0_merged 31 = .ok (.istore 4, 2) := by decide +kernel
theorem dX0_merged_33 : decode cX0_merged 33 = .ok (.iload_n 3, 1) := by decide +kernel
theorem dX0_merged_34 : decode cX0_merged 34 = .ok (.iload_n 0, 1) := by decide +kernel
theorem dX0_merged_35 : decode cX0_merged 35 = .ok (.iload_n 1, 1) := by decide +kernel
theorem dX0_merged_36 : decode cX0_merged 36 = .ok (.invokestatic 25, 3) := by decide +kernel
theorem dX0_merged_39 : decode cX0_merged 39 = .ok (.iconst 1, 1) := by decide +kernel
theorem dX0_merged_40 : decode cX0_merged 40 = .ok (.iadd, 1) := by decide +kernel
theorem dX0_merged_41 : decode cX0_merged 41 = .ok (.iload_n 2, 1) := by decide +kernel
theorem dX0_merged_42 : decode cX0_merged 42 = .ok (.ishl, 1) := by decide +kernel
theorem dX0_merged_43 : decode cX0_merged 43 = .ok (.ior, 1) := by decide +kernel
theorem dX0_merged_44 : decode cX0_merged 44 = .ok (.iload 4, 2) := by decide +kernel
theorem dX0_merged_46 : decode cX0_merged 46 = .ok (.iload_n 2, 1) := by decide +kernel
theorem dX0_merged_47 : decode cX0_merged 47 = .ok (.iconst 5, 1) := by decide +kernel
theorem dX0_merged_48 : decode cX0_merged 48 = .ok (.iadd, 1) := by decide +kernel
theorem dX0_merged_49 : decode cX0_merged 49 = .ok (.ishl, 1) := by decide +kernel
theorem dX0_merged_50 : decode cX0_merged 50 = .ok (.ior, 1) := by decide +kernel
theorem dX0_merged_51 : decode cX0_merged 51 = .ok (.ireturn, 1) := by decide +kernel
theorem dX1_init_0 : decode cX1_init 0 = .ok (.aload_n 0, 1) := by decide +kernel
theorem dX1_init_1 : decode cX1_init 1 = .ok (.invokespecial 3, 3) := by decide +kernel
theorem dX1_init_4 : decode cX1_init 4 = .ok (.aload_n 0, 1) := by decide +kernel
theorem dX1_init_5 : decode cX1_init 5 = .ok (.iconst 0, 1) := by decide +kernel
theorem dX1_init_6 : decode cX1_init 6 = .ok (.putfield 9, 3) := by decide +kernel
theorem dX1_init_9 : decode cX1_init 9 = .ok (.aload_n 0, 1) := by decide +kernel
theorem dX1_init_10 : decode cX1_init 10 = .ok (.bipush 24, 2) := by decide +kernel
theorem dX1_init_12 : decode cX1_init 12 = .ok (.putfield 15, 3) := by decide +kernel
theorem dX1_init_15 : decode cX1_init 15 = .ok (.aload_n 0, 1) := by decide +kernel
theorem dX1_init_16 : decode cX1_init 16 = .ok (.iconst 0, 1) := by decide +kernel
theorem dX1_init_17 : decode cX1_init 17 = .ok (.putfield 18, 3) := by decide +kernel
theorem dX1_init_20 : decode cX1_init 20 = .ok (.aload_n 0, 1) := by decide +kernel
theorem dX1_init_21 : decode cX1_init 21 = .ok (.iload_n 1, 1) := by decide +kernel
theorem dX1_init_22 : decode cX1_init 22 = .ok (.iconst 0, 1) := by decide +kernel
theorem dX1_init_23 : decode cX1_init 23 = .ok (.invokestatic 21, 3) := by decide +kernel
theorem dX1_init_26 : decode cX1_init 26 = .ok (.anewarray 27, 3) := by decide +kernel
theorem dX1_init_29 : decode cX1_init 29 = .ok (.putfield 29, 3) := by decide +kernel
theorem dX1_init_32 : decode cX1_init 32 = .ok (.iconst 0, 1) := by decide +kernel
theorem dX1_init_33 : decode cX1_init 33 = .ok (.istore_n 2, 1) := by decide +kernel
theorem dX1_init_34 : decode cX1_init 34 = .ok (.iload_n 2, 1) := by decide +kernel
theorem dX1_init_35 : decode cX1_init 35 = .ok (.aload_n 0, 1) := by decide +kernel
theorem dX1_init_36 : decode cX1_init 36 = .ok (.getfield 29, 3) := by decide +kernel
theorem dX1_init_39 : decode cX1_init 39 = .ok (.arraylength, 1) := by decide +kernel
theorem dX1_init_40 : decode cX1_init 40 = .ok (.if_icmp .ge 22, 3) := by decide +kernel
theorem dX1_init_43 : decode cX1_init 43 = .ok (.aload_n 0, 1) := by decide +kernel
theorem dX1_init_44 : decode cX1_init 44 = .ok (.getfield 29, 3) := by decide +kernel
theorem dX1_init_47 : decode cX1_init 47 = .ok (.iload_n 2, 1) := by decide +kernel
theorem dX1_init_48 : decode cX1_init 48 = .ok (.new 27, 3) := by decide +kernel
theorem dX1_init_51 : decode cX1_init 51 = .ok (.dup, 1) := by decide +kernel
theorem dX1_init_52 : decode cX1_init 52 = .ok (.invokespecial 33, 3) := by decide +kernel
theorem dX1_init_55 : decode cX1_init 55 = .ok (.aastore, 1) := by decide +kernel
theorem dX1_init_56 : decode cX1_init 56 = .ok (.iinc 2 1, 3) := by decide +kernel
theorem dX1_init_59 : decode cX1_init 59 = .ok (.goto (-25), 3) := by decide +kernel
theorem dX1_init_62 : decode cX1_init 62 = .ok (.return_, 1) := by decide +kernel
theorem dX1_become_0 : decode cX1_become 0 = .ok (.aload_n 0, 1) := by decide +kernel
theorem dX1_become_1 : decode cX1_become 1 = .ok (.aload_n 1, 1) := by decide +kernel
theorem dX1_become_2 : decode cX1_become 2 = .ok (.getfield 9, 3) := by decide +kernel
theorem dX1_become_5 : decode cX1_become 5 = .ok (.putfield 9, 3) := by decide +kernel
theorem dX1_become_8 : decode cX1_become 8 = .ok (.aload_n 0, 1) := by decide +kernel
theorem dX1_become_9 : decode cX1_become 9 = .ok (.aload_n 1, 1) := by decide +kernel
theorem dX1_become_10 : decode cX1_become 10 = .ok (.getfield 15, 3) := by decide +kernel
theorem dX1_become_13 : decode cX1_become 13 = .ok (.putfield 15, 3) := by decide +kernel
theorem dX1_become_16 : decode cX1_become 16 = .ok (.aload_n 0, 1) := by decide +kernel
theorem dX1_become_17 : decode cX1_become 17 = .ok (.aload_n 1, 1) := by decide +kernel
theorem dX1_become_18 : decode cX1_become 18 = .ok (.getfield 18, 3) := by decide +kernel
theorem dX1_become_21 : decode cX1_become 21 = .ok (.putfield 18, 3) := by decide +kernel
theorem dX1_become_24 : decode cX1_become 24 = .ok (.iconst 0, 1) := by decide +kernel
theorem dX1_become_25 : decode cX1_become 25 = .ok (.istore_n 2, 1) := by decide +kernel
theorem dX1_become_26 : decode cX1_become 26 = .ok (.iload_n 2, 1) := by decide +kernel
theorem dX1_become_27 : decode cX1_become 27 = .ok (.aload_n 0, 1) := by decide +kernel
theorem dX1_become_28 : decode cX1_become 28 = .ok (.getfield 29, 3) := by decide +kernel
theorem dX1_become_31 : decode cX1_become 31 = .ok (.arraylength, 1) := by decide +kernel
theorem dX1_become_32 : decode cX1_become 32 = .ok (.if_icmp .ge 33, 3) := by decide +kernel
theorem dX1_become_35 : decode cX1_become 35 = .ok (.iload_n 2, 1) := by decide +kernel
theorem dX1_become_36 : decode cX1_become 36 = .ok (.aload_n 1, 1) := by decide +kernel
theorem dX1_become_37 : decode cX1_become 37 = .ok (.getfield 29, 3) := by decide +kernel
theorem dX1_become_40 : decode cX1_become 40 = .ok (.arraylength, 1) := by decide +kernel
theorem dX1_become_41 : decode cX1_become 41 = .ok (.if_icmp .ge 24, 3) := by decide +kernel
theorem dX1_become_44 : decode cX1_become 44 = .ok (.aload_n 0, 1) := by decide +kernel
theorem dX1_become_45 : decode cX1_become 45 = .ok (.getfield 29, 3) := by decide +kernel
theorem dX1_become_48 : decode cX1_become 48 = .ok (.iload_n 2, 1) := by decide +kernel
theorem dX1_become_49 : decode cX1_become 49 = .ok (.aaload, 1) := by decide +kernel
theorem dX1_become_50 : decode cX1_become 50 = .ok (.aload_n 1, 1) := by decide +kernel
theorem dX1_become_51 : decode cX1_become 51 = .ok (.getfield 29, 3) := by decide +kernel
theorem dX1_become_54 : decode cX1_become 54 = .ok (.iload_n 2, 1) := by decide +kernel
theorem dX1_become_55 : decode cX1_become 55 = .ok (.aaload, 1) := by decide +kernel
theorem dX1_become_56 : decode cX1_become 56 = .ok (.invokevirtual 34, 3) := by decide +kernel
theorem dX1_become_59 : decode cX1_become 59 = .ok (.iinc 2 1, 3) := by decide +kernel
theorem dX1_become_62 : decode cX1_become 62 = .ok (.goto (-36), 3) := by decide +kernel
theorem dX1_become_65 : decode cX1_become 65 = .ok (.return_, 1) := by decide +kernel
theorem dX1_find_0 : decode cX1_find 0 = .ok (.aload_n 0, 1) := by decide +kernel
theorem dX1_find_1 : decode cX1_find 1 = .ok (.getfield 29, 3) := by decide +kernel
theorem dX1_find_4 : decode cX1_find 4 = .ok (.astore 5, 2) := by decide +kernel
theorem dX1_find_6 : decode cX1_find 6 = .ok (.aload 5, 2) := by decide +kernel
theorem dX1_find_8 : decode cX1_find 8 = .ok (.arraylength, 1) := by decide +kernel
theorem dX1_find_9 : decode cX1_find 9 = .ok (.istore 6, 2) := by decide +kernel
theorem dX1_find_11 : decode cX1_find 11 = .ok (.iconst 0, 1) := by decide +kernel
theorem dX1_find_12 : decode cX1_find 12 = .ok (.istore 7, 2) := by decide +kernel
theorem dX1_find_14 : decode cX1_find 14 = .ok (.iload 7, 2) := by decide +kernel
theorem dX1_find_16 : decode cX1_find 16 = .ok (.iload 6, 2) := by decide +kernel
theorem dX1_find_18 : decode cX1_find 18 = .ok (.if_icmp .ge 31, 3) := by decide +kernel
theorem dX1_find_21 : decode cX1_find 21 = .ok (.aload 5, 2) := by decide +kernel
theorem dX1_find_23 : decode cX1_find 23 = .ok (.iload 7, 2) := by decide +kernel
theorem dX1_find_25 : decode cX1_find 25 = .ok (.aaload, 1) := by decide +kernel
theorem dX1_find_26 : decode cX1_find 26 = .ok (.astore 8, 2) := by decide +kernel
theorem dX1_find_28 : decode cX1_find 28 = .ok (.aload 8, 2) := by decide +kernel
theorem dX1_find_30 : decode cX1_find 30 = .ok (.lload_n 1, 1) := by decide +kernel
theorem dX1_find_31 : decode cX1_find 31 = .ok (.iload_n 3, 1) := by decide +kernel
theorem dX1_find_32 : decode cX1_find 32 = .ok (.iload 4, 2) := by decide +kernel
theorem dX1_find_34 : decode cX1_find 34 = .ok (.invokevirtual 38, 3) := by decide +kernel
theorem dX1_find_37 : decode cX1_find 37 = .ok (.ifCond .eq 6, 3) := by decide +kernel
theorem dX1_find_40 : decode cX1_find 40 = .ok (.aload 8, 2) := by decide +kernel
theorem dX1_find_42 : decode cX1_find 42 = .ok (.areturn, 1) := by decide +kernel
theorem dX1_find_43 : decode cX1_find 43 = .ok (.iinc 7 1, 3) := by decide +kernel
theorem dX1_find_46 : decode cX1_find 46 = .ok (.goto (-32), 3) := by decide +kernel
theorem dX1_find_49 : decode cX1_find 49 = .ok (.aconst_null, 1) := by decide +kernel
theorem dX1_find_50 : decode cX1_find 50 = .ok (.areturn, 1) := by decide +kernel
theorem dX1_use_0 : decode cX1_use 0 = .ok (.aload_n 0, 1) := by decide +kernel
theorem dX1_use_1 : decode cX1_use 1 = .ok (.dup, 1) := by decide +kernel
theorem dX1_use_2 : decode cX1_use 2 = .ok (.getfield 18, 3) := by decide +kernel
theorem dX1_use_5 : decode cX1_use 5 = .ok (.iconst 1, 1) := by decide +kernel
theorem dX1_use_6 : decode cX1_use 6 = .ok (.iadd, 1) := by decide +kernel
theorem dX1_use_7 : decode cX1_use 7 = .ok (.putfield 18, 3) := by decide +kernel
theorem dX1_use_10 : decode cX1_use 10 = .ok (.aload_n 1, 1) := by decide +kernel
theorem dX1_use_11 : decode cX1_use 11 = .ok (.aload_n 0, 1) := by decide +kernel
theorem dX1_use_12 : decode cX1_use 12 = .ok (.getfield 18, 3) := by decide +kernel
theorem dX1_use_15 : decode cX1_use 15 = .ok (.putfield 42, 3) := by decide +kernel
theorem dX1_use_18 : decode cX1_use 18 = .ok (.return_, 1) := by decide +kernel
theorem dX1_put_0 : decode cX1_put 0 = .ok (.aload_n 0, 1) := by decide +kernel
theorem dX1_put_1 : decode cX1_put 1 = .ok (.getfield 9, 3) := by decide +kernel
theorem dX1_put_4 : decode cX1_put 4 = .ok (.aload_n 0, 1) := by decide +kernel
theorem dX1_put_5 : decode cX1_put 5 = .ok (.getfield 15, 3) := by decide +kernel
theorem dX1_put_8 : decode cX1_put 8 = .ok (.if_icmp .lt 7, 3) := by decide +kernel
theorem dX1_put_11 : decode cX1_put 11 = .ok (.aload_n 0, 1) := by decide +kernel
theorem dX1_put_12 : decode cX1_put 12 = .ok (.invokevirtual 45, 3) := by decide +kernel
theorem dX1_put_15 : decode cX1_put 15 = .ok (.aload_n 0, 1) := by decide +kernel
theorem dX1_put_16 : decode cX1_put 16 = .ok (.invokevirtual 48, 3) := by decide +kernel
theorem dX1_put_19 : decode cX1_put 19 = .ok (.astore 7, 2) := by decide +kernel
theorem dX1_put_21 : decode cX1_put 21 = .ok (.aload_n 0, 1) := by decide +kernel
theorem dX1_put_22 : decode cX1_put 22 = .ok (.getfield 9, 3) := by decide +kernel
theorem dX1_put_25 : decode cX1_put 25 = .ok (.aload_n 0, 1) := by decide +kernel
theorem dX1_put_26 : decode cX1_put 26 = .ok (.getfield 15, 3) := by decide +kernel
theorem dX1_put_29 : decode cX1_put 29 = .ok (.if_icmp .ge 8, 3) := by decide +kernel
theorem dX1_put_32 : decode cX1_put 32 = .ok (.aload 7, 2) := by decide +kernel
theorem dX1_put_34 : decode cX1_put 34 = .ok (.ifnonnull 4, 3) := by decide +kernel
theorem dX1_put_37 : decode cX1_put 37 = .ok (.return_, 1) := by decide +kernel
theorem dX1_put_38 : decode cX1_put 38 = .ok (.aload 7, 2) := by decide +kernel
theorem dX1_put_40 : decode cX1_put 40 = .ok (.lload_n 1, 1) := by decide +kernel
theorem dX1_put_41 : decode cX1_put 41 = .ok (.putfield 52, 3) := by decide +kernel
theorem dX1_put_44 : decode cX1_put 44 = .ok (.aload 7, 2) := by decide +kernel
theorem dX1_put_46 : decode cX1_put 46 = .ok (.iload_n 3, 1) := by decide +kernel
theorem dX1_put_47 : decode cX1_put 47 = .ok (.putfield 56, 3) := by decide +kernel
theorem dX1_put_50 : decode cX1_put 50 = .ok (.aload 7, 2) := by decide +kernel
theorem dX1_put_52 : decode cX1_put 52 = .ok (.iload 4, 2) := by decide +kernel
theorem dX1_put_54 : decode cX1_put 54 = .ok (.putfield 59, 3) := by decide +kernel
theorem dX1_put_57 : decode cX1_put 57 = .ok (.aload 7, 2) := by decide +kernel
theorem dX1_put_59 : decode cX1_put 59 = .ok (.iload 5, 2) := by decide +kernel
theorem dX1_put_61 : decode cX1_put 61 = .ok (.putfield 62, 3) := by decide +kernel
theorem dX1_put_64 : decode cX1_put 64 = .ok (.aload 7, 2) := by decide +kernel
theorem dX1_put_66 : decode cX1_put 66 = .ok (.iload 6, 2) := by decide +kernel
theorem dX1_put_68 : decode cX1_put 68 = .ok (.putfield 65, 3) := by decide +kernel
theorem dX1_put_71 : decode cX1_put 71 = .ok (.aload_n 0, 1) := by decide +kernel
theorem dX1_put_72 : decode cX1_put 72 = .ok (.aload 7, 2) := by decide +kernel
theorem dX1_put_74 : decode cX1_put 74 = .ok (.invokevirtual 68, 3) := by decide +kernel
theorem dX1_put_77 : decode cX1_put 77 = .ok (.aload_n 0, 1) := by decide +kernel
theorem dX1_put_78 : decode cX1_put 78 = .ok (.dup, 1) := by decide +kernel
theorem dX1_put_79 : decode cX1_put 79 = .ok (.getfield 9, 3) := by decide +kernel
theorem dX1_put_82 : decode cX1_put 82 = .ok (.iconst 1, 1) := by decide +kernel
theorem dX1_put_83 : decode cX1_put 83 = .ok (.iadd, 1) := by decide +kernel
theorem dX1_put_84 : decode cX1_put 84 = .ok (.putfield 9, 3) := by decide +kernel
theorem dX1_put_87 : decode cX1_put 87 = .ok (.return_, 1) := by decide +kernel
theorem dX1_fitInto_0 : decode cX1_fitInto 0 = .ok (.aload_n 0, 1) := by decide +kernel
theorem dX1_fitInto_1 : decode cX1_fitInto 1 = .ok (.iload_n 1, 1) := by decide +kernel
theorem dX1_fitInto_2 : decode cX1_fitInto 2 = .ok (.putfield 15, 3) := by decide +kernel
theorem dX1_fitInto_5 : decode cX1_fitInto 5 = .ok (.aload_n 0, 1) := by decide +kernel
theorem dX1_fitInto_6 : decode cX1_fitInto 6 = .ok (.getfield 9, 3) := by decide +kernel
theorem dX1_fitInto_9 : decode cX1_fitInto 9 = .ok (.aload_n 0, 1) := by decide +kernel
theorem dX1_fitInto_10 : decode cX1_fitInto 10 = .ok (.getfield 15, 3) := by decide +kernel
theorem dX1_fitInto_13 : decode cX1_fitInto 13 = .ok (.isub, 1) := by decide +kernel
theorem dX1_fitInto_14 : decode cX1_fitInto 14 = .ok (.istore_n 2, 1) := by decide +kernel
theorem dX1_fitInto_15 : decode cX1_fitInto 15 = .ok (.iload_n 2, 1) := by decide +kernel
theorem dX1_fitInto_16 : decode cX1_fitInto 16 = .ok (.ifCond .le 13, 3) := by decide +kernel
theorem dX1_fitInto_19 : decode cX1_fitInto 19 = .ok (.aload_n 0, 1) := by decide +kernel
theorem dX1_fitInto_20 : decode cX1_fitInto 20 = .ok (.invokevirtual 45, 3) := by decide +kernel
theorem dX1_fitInto_23 : decode cX1_fitInto 23 = .ok (.iinc 2 (-1), 3) := by decide +kernel
theorem dX1_fitInto_26 : decode cX1_fitInto 26 = .ok (.goto (-11), 3) := by decide +kernel
theorem dX1_fitInto_29 : decode cX1_fitInto 29 = .ok (.return_, 1) := by decide +kernel
theorem dX1_countPinned_0 : decode cX1_countPinned 0 = .ok (.iconst 0, 1) := by decide +kernel
theorem dX1_countPinned_1 : decode cX1_countPinned 1 = .ok (.istore_n 1, 1) := by decide +kernel
theorem dX1_countPinned_2 : decode cX1_countPinned 2 = .ok (.aload_n 0, 1) := by decide +kernel
theorem dX1_countPinned_3 : decode cX1_countPinned 3 = .ok (.getfield 29, 3) := by decide +kernel
theorem dX1_countPinned_6 : decode cX1_countPinned 6 = .ok (.astore_n 2, 1) := by decide +kernel
theorem dX1_countPinned_7 : decode cX1_countPinned 7 = .ok (.aload_n 2, 1) := by decide +kernel
theorem dX1_countPinned_8 : decode cX1_countPinned 8 = .ok (.arraylength, 1) := by decide +kernel
theorem dX1_countPinned_9 : decode cX1_countPinned 9 = .ok (.istore_n 3, 1) := by decide +kernel
theorem dX1_countPinned_10 : decode cX1_countPinned 10 = .ok (.iconst 0, 1) := by decide +kernel
theorem dX1_countPinned_11 : decode cX1_countPinned 11 = .ok (.istore 4, 2) := by decide +kernel
theorem dX1_countPinned_13 : decode cX1_countPinned 13 = .ok (.iload 4, 2) := by decide +kernel
theorem dX1_countPinned_15 : decode cX1_countPinned 15 = .ok (.iload_n 3, 1) := by decide +kernel
theorem dX1_countPinned_16 : decode cX1_countPinned 16 = .ok (.if_icmp .ge 31, 3) := by decide +kernel
theorem dX1_countPinned_19 : decode cX1_countPinned 19 = .ok (.aload_n 2, 1) := by decide +kernel
theorem dX1_countPinned_20 : decode cX1_countPinned 20 = .ok (.iload 4, 2) := by decide +kernel
theorem dX1_countPinned_22 : decode cX1_countPinned 22 = .ok (.aaload, 1) := by decide +kernel
theorem dX1_countPinned_23 : decode cX1_countPinned 23 = .ok (.astore 5, 2) := by decide +kernel
theorem dX1_countPinned_25 : decode cX1_countPinned 25 = .ok (.iload_n 1, 1) := by decide +kernel
theorem dX1_countPinned_26 : decode cX1_countPinned 26 = .ok (.aload 5, 2) := by decide +kernel
theorem dX1_countPinned_28 : decode cX1_countPinned 28 = .ok (.getfield 71, 3) := by decide +kernel
theorem dX1_countPinned_31 : decode cX1_countPinned 31 = .ok (.ifCond .eq 7, 3) := by decide +kernel
theorem dX1_countPinned_34 : decode cX1_countPinned 34 = .ok (.iconst 1, 1) := by decide +kernel
theorem dX1_countPinned_35 : decode cX1_countPinned 35 = .ok (.goto 4, 3) := by decide +kernel
theorem dX1_countPinned_38 : decode cX1_countPinned 38 = .ok (.iconst 0, 1) := by decide +kernel
theorem dX1_countPinned_39 : decode cX1_countPinned 39 = .ok (.iadd, 1) := by decide +kernel
theorem dX1_countPinned_40 : decode cX1_countPinned 40 = .ok (.istore_n 1, 1) := by decide +kernel
theorem dX1_countPinned_41 : decode cX1_countPinned 41 = .ok (.iinc 4 1, 3) := by decide +kernel
theorem dX1_countPinned_44 : decode cX1_countPinned 44 = .ok (.goto (-31), 3) := by decide +kernel
theorem dX1_countPinned_47 : decode cX1_countPinned 47 = .ok (.iload_n 1, 1) := by decide +kernel
theorem dX1_countPinned_48 : decode cX1_countPinned 48 = .ok (.ireturn, 1) := by decide +kernel
theorem dX1_countPins_0 : decode cX1_countPins 0 = .ok (.iconst 0, 1) := by decide +kernel
theorem dX1_countPins_1 : decode cX1_countPins 1 = .ok (.istore_n 2, 1) := by decide +kernel
theorem dX1_countPins_2 : decode cX1_countPins 2 = .ok (.aload_n 0, 1) := by decide +kernel
theorem dX1_countPins_3 : decode cX1_countPins 3 = .ok (.getfield 29, 3) := by decide +kernel
theorem dX1_countPins_6 : decode cX1_countPins 6 = .ok (.astore_n 3, 1) := by decide +kernel
theorem dX1_countPins_7 : decode cX1_countPins 7 = .ok (.aload_n 3, 1) := by decide +kernel
theorem dX1_countPins_8 : decode cX1_countPins 8 = .ok (.arraylength, 1) := by decide +kernel
theorem dX1_countPins_9 : decode cX1_countPins 9 = .ok (.istore 4, 2) := by decide +kernel
theorem dX1_countPins_11 : decode cX1_countPins 11 = .ok (.iconst 0, 1) := by decide +kernel
theorem dX1_countPins_12 : decode cX1_countPins 12 = .ok (.istore 5, 2) := by decide +kernel
theorem dX1_countPins_14 : decode cX1_countPins 14 = .ok (.iload 5, 2) := by decide +kernel
theorem dX1_countPins_16 : decode cX1_countPins 16 = .ok (.iload 4, 2) := by decide +kernel
theorem dX1_countPins_18 : decode cX1_countPins 18 = .ok (.if_icmp .ge 33, 3) := by decide +kernel
theorem dX1_countPins_21 : decode cX1_countPins 21 = .ok (.aload_n 3, 1) := by decide +kernel
theorem dX1_countPins_22 : decode cX1_countPins 22 = .ok (.iload 5, 2) := by decide +kernel
theorem dX1_countPins_24 : decode cX1_countPins 24 = .ok (.aaload, 1) := by decide +kernel
theorem dX1_countPins_25 : decode cX1_countPins 25 = .ok (.astore 6, 2) := by decide +kernel
theorem dX1_countPins_27 : decode cX1_countPins 27 = .ok (.iload_n 2, 1) := by decide +kernel
theorem dX1_countPins_28 : decode cX1_countPins 28 = .ok (.aload 6, 2) := by decide +kernel
theorem dX1_countPins_30 : decode cX1_countPins 30 = .ok (.getfield 71, 3) := by decide +kernel
theorem dX1_countPins_33 : decode cX1_countPins 33 = .ok (.iload_n 1, 1) := by decide +kernel
theorem dX1_countPins_34 : decode cX1_countPins 34 = .ok (.iand, 1) := by decide +kernel
theorem dX1_countPins_35 : decode cX1_countPins 35 = .ok (.ifCond .eq 7, 3) := by decide +kernel
theorem dX1_countPins_38 : decode cX1_countPins 38 = .ok (.iconst 1, 1) := by decide +kernel
theorem dX1_countPins_39 : decode cX1_countPins 39 = .ok (.goto 4, 3) := by decide +kernel
theorem dX1_countPins_42 : decode cX1_countPins 42 = .ok (.iconst 0, 1) := by decide +kernel
theorem dX1_countPins_43 : decode cX1_countPins 43 = .ok (.iadd, 1) := by decide +kernel
theorem dX1_countPins_44 : decode cX1_countPins 44 = .ok (.istore_n 2, 1) := by decide +kernel
theorem dX1_countPins_45 : decode cX1_countPins 45 = .ok (.iinc 5 1, 3) := by decide +kernel
theorem dX1_countPins_48 : decode cX1_countPins 48 = .ok (.goto (-34), 3) := by decide +kernel
theorem dX1_countPins_51 : decode cX1_countPins 51 = .ok (.iload_n 2, 1) := by decide +kernel
theorem dX1_countPins_52 : decode cX1_countPins 52 = .ok (.ireturn, 1) := by decide +kernel
theorem dX1_takePins_0 : decode cX1_takePins 0 = .ok (.aload_n 0, 1) := by decide +kernel
theorem dX1_takePins_1 : decode cX1_takePins 1 = .ok (.getfield 29, 3) := by decide +kernel
theorem dX1_takePins_4 : decode cX1_takePins 4 = .ok (.astore_n 2, 1) := by decide +kernel
theorem dX1_takePins_5 : decode cX1_takePins 5 = .ok (.aload_n 2, 1) := by decide +kernel
theorem dX1_takePins_6 : decode cX1_takePins 6 = .ok (.arraylength, 1) := by decide +kernel
theorem dX1_takePins_7 : decode cX1_takePins 7 = .ok (.istore_n 3, 1) := by decide +kernel
theorem dX1_takePins_8 : decode cX1_takePins 8 = .ok (.iconst 0, 1) := by decide +kernel
theorem dX1_takePins_9 : decode cX1_takePins 9 = .ok (.istore 4, 2) := by decide +kernel
theorem dX1_takePins_11 : decode cX1_takePins 11 = .ok (.iload 4, 2) := by decide +kernel
theorem dX1_takePins_13 : decode cX1_takePins 13 = .ok (.iload_n 3, 1) := by decide +kernel
theorem dX1_takePins_14 : decode cX1_takePins 14 = .ok (.if_icmp .ge 28, 3) := by decide +kernel
theorem dX1_takePins_17 : decode cX1_takePins 17 = .ok (.aload_n 2, 1) := by decide +kernel
theorem dX1_takePins_18 : decode cX1_takePins 18 = .ok (.iload 4, 2) := by decide +kernel
theorem dX1_takePins_20 : decode cX1_takePins 20 = .ok (.aaload, 1) := by decide +kernel
theorem dX1_takePins_21 : decode cX1_takePins 21 = .ok (.astore 5, 2) := by decide +kernel
theorem dX1_takePins_23 : decode cX1_takePins 23 = .ok (.aload 5, 2) := by decide +kernel
theorem dX1_takePins_25 : decode cX1_takePins 25 = .ok (.dup, 1) := by decide +kernel
theorem dX1_takePins_26 : decode cX1_takePins 26 = .ok (.getfield 71, 3) := by decide +kernel
theorem dX1_takePins_29 : decode cX1_takePins 29 = .ok (.iload_n 1, 1) := by decide +kernel
theorem dX1_takePins_30 : decode cX1_takePins 30 = .ok (.iconst (-1), 1) := by decide +kernel
theorem dX1_takePins_31 : decode cX1_takePins 31 = .ok (.ixor, 1) := by decide +kernel
theorem dX1_takePins_32 : decode cX1_takePins 32 = .ok (.iand, 1) := by decide +kernel
theorem dX1_takePins_33 : decode cX1_takePins 33 = .ok (.putfield 71, 3) := by decide +kernel
theorem dX1_takePins_36 : decode cX1_takePins 36 = .ok (.iinc 4 1, 3) := by decide +kernel
theorem dX1_takePins_39 : decode cX1_takePins 39 = .ok (.goto (-28), 3) := by decide +kernel
theorem dX1_takePins_42 : decode cX1_takePins 42 = .ok (.return_, 1) := by decide +kernel
theorem dX1_findFree_0 : decode cX1_findFree 0 = .ok (.aload_n 0, 1) := by decide +kernel
theorem dX1_findFree_1 : decode cX1_findFree 1 = .ok (.getfield 29, 3) := by decide +kernel
theorem dX1_findFree_4 : decode cX1_findFree 4 = .ok (.astore_n 1, 1) := by decide +kernel
theorem dX1_findFree_5 : decode cX1_findFree 5 = .ok (.aload_n 1, 1) := by decide +kernel
theorem dX1_findFree_6 : decode cX1_findFree 6 = .ok (.arraylength, 1) := by decide +kernel
theorem dX1_findFree_7 : decode cX1_findFree 7 = .ok (.istore_n 2, 1) := by decide +kernel
theorem dX1_findFree_8 : decode cX1_findFree 8 = .ok (.iconst 0, 1) := by decide +kernel
theorem dX1_findFree_9 : decode cX1_findFree 9 = .ok (.istore_n 3, 1) := by decide +kernel
theorem dX1_findFree_10 : decode cX1_findFree 10 = .ok (.iload_n 3, 1) := by decide +kernel
theorem dX1_findFree_11 : decode cX1_findFree 11 = .ok (.iload_n 2, 1) := by decide +kernel
theorem dX1_findFree_12 : decode cX1_findFree 12 = .ok (.if_icmp .ge 25, 3) := by decide +kernel
theorem dX1_findFree_15 : decode cX1_findFree 15 = .ok (.aload_n 1, 1) := by decide +kernel
theorem dX1_findFree_16 : decode cX1_findFree 16 = .ok (.iload_n 3, 1) := by decide +kernel
theorem dX1_findFree_17 : decode cX1_findFree 17 = .ok (.aaload, 1) := by decide +kernel
theorem dX1_findFree_18 : decode cX1_findFree 18 = .ok (.astore 4, 2) := by decide +kernel
theorem dX1_findFree_20 : decode cX1_findFree 20 = .ok (.aload 4, 2) := by decide +kernel
theorem dX1_findFree_22 : decode cX1_findFree 22 = .ok (.invokevirtual 74, 3) := by decide +kernel
theorem dX1_findFree_25 : decode cX1_findFree 25 = .ok (.ifCond .eq 6, 3) := by decide +kernel
theorem dX1_findFree_28 : decode cX1_findFree 28 = .ok (.aload 4, 2) := by decide +kernel
theorem dX1_findFree_30 : decode cX1_findFree 30 = .ok (.areturn, 1) := by decide +kernel
theorem dX1_findFree_31 : decode cX1_findFree 31 = .ok (.iinc 3 1, 3) := by decide +kernel
theorem dX1_findFree_34 : decode cX1_findFree 34 = .ok (.goto (-24), 3) := by decide +kernel
theorem dX1_findFree_37 : decode cX1_findFree 37 = .ok (.aconst_null, 1) := by decide +kernel
theorem dX1_findFree_38 : decode cX1_findFree 38 = .ok (.areturn, 1) := by decide +kernel
theorem dX1_dropOldest_0 : decode cX1_dropOldest 0 = .ok (.aconst_null, 1) := by decide +kernel
theorem dX1_dropOldest_1 : decode cX1_dropOldest 1 = .ok (.astore_n 1, 1) := by decide +kernel
theorem dX1_dropOldest_2 : decode cX1_dropOldest 2 = .ok (.aload_n 0, 1) := by decide +kernel
theorem dX1_dropOldest_3 : decode cX1_dropOldest 3 = .ok (.getfield 29, 3) := by decide +kernel
theorem dX1_dropOldest_6 : decode cX1_dropOldest 6 = .ok (.astore_n 2, 1) := by decide +kernel
theorem dX1_dropOldest_7 : decode cX1_dropOldest 7 = .ok (.aload_n 2, 1) := by decide +kernel
theorem dX1_dropOldest_8 : decode cX1_dropOldest 8 = .ok (.arraylength, 1) := by decide +kernel
theorem dX1_dropOldest_9 : decode cX1_dropOldest 9 = .ok (.istore_n 3, 1) := by decide +kernel
theorem dX1_dropOldest_10 : decode cX1_dropOldest 10 = .ok (.iconst 0, 1) := by decide +kernel
theorem dX1_dropOldest_11 : decode cX1_dropOldest 11 = .ok (.istore 4, 2) := by decide +kernel
theorem dX1_dropOldest_13 : decode cX1_dropOldest 13 = .ok (.iload 4, 2) := by decide +kernel
theorem dX1_dropOldest_15 : decode cX1_dropOldest 15 = .ok (.iload_n 3, 1) := by decide +kernel
theorem dX1_dropOldest_16 : decode cX1_dropOldest 16 = .ok (.if_icmp .ge 50, 3) := by decide +kernel
theorem dX1_dropOldest_19 : decode cX1_dropOldest 19 = .ok (.aload_n 2, 1) := by decide +kernel
theorem dX1_dropOldest_20 : decode cX1_dropOldest 20 = .ok (.iload 4, 2) := by decide +kernel
theorem dX1_dropOldest_22 : decode cX1_dropOldest 22 = .ok (.aaload, 1) := by decide +kernel
theorem dX1_dropOldest_23 : decode cX1_dropOldest 23 = .ok (.astore 5, 2) := by decide +kernel
theorem dX1_dropOldest_25 : decode cX1_dropOldest 25 = .ok (.aload 5, 2) := by decide +kernel
theorem dX1_dropOldest_27 : decode cX1_dropOldest 27 = .ok (.invokevirtual 74, 3) := by decide +kernel
theorem dX1_dropOldest_30 : decode cX1_dropOldest 30 = .ok (.ifCond .ne 30, 3) := by decide +kernel
theorem dX1_dropOldest_33 : decode cX1_dropOldest 33 = .ok (.aload 5, 2) := by decide +kernel
theorem dX1_dropOldest_35 : decode cX1_dropOldest 35 = .ok (.getfield 71, 3) := by decide +kernel
theorem dX1_dropOldest_38 : decode cX1_dropOldest 38 = .ok (.ifCond .ne 22, 3) := by decide +kernel
theorem dX1_dropOldest_41 : decode cX1_dropOldest 41 = .ok (.aload_n 1, 1) := by decide +kernel
theorem dX1_dropOldest_42 : decode cX1_dropOldest 42 = .ok (.ifnull 15, 3) := by decide +kernel
theorem dX1_dropOldest_45 : decode cX1_dropOldest 45 = .ok (.aload 5, 2) := by decide +kernel
theorem dX1_dropOldest_47 : decode cX1_dropOldest 47 = .ok (.getfield 42, 3) := by decide +kernel
theorem dX1_dropOldest_50 : decode cX1_dropOldest 50 = .ok (.aload_n 1, 1) := by decide +kernel
theorem dX1_dropOldest_51 : decode cX1_dropOldest 51 = .ok (.getfield 42, 3) := by decide +kernel
theorem dX1_dropOldest_54 : decode cX1_dropOldest 54 = .ok (.if_icmp .ge 6, 3) := by decide +kernel
theorem dX1_dropOldest_57 : decode cX1_dropOldest 57 = .ok (.aload 5, 2) := by decide +kernel
theorem dX1_dropOldest_59 : decode cX1_dropOldest 59 = .ok (.astore_n 1, 1) := by decide +kernel
theorem dX1_dropOldest_60 : decode cX1_dropOldest 60 = .ok (.iinc 4 1, 3) := by decide +kernel
theorem dX1_dropOldest_63 : decode cX1_dropOldest 63 = .ok (.goto (-50), 3) := by decide +kernel
theorem dX1_dropOldest_66 : decode cX1_dropOldest 66 = .ok (.aload_n 1, 1) := by decide +kernel
theorem dX1_dropOldest_67 : decode cX1_dropOldest 67 = .ok (.ifnull 18, 3) := by decide +kernel
theorem dX1_dropOldest_70 : decode cX1_dropOldest 70 = .ok (.aload_n 1, 1) := by decide +kernel
theorem dX1_dropOldest_71 : decode cX1_dropOldest 71 = .ok (.iconst 0, 1) := by decide +kernel
theorem dX1_dropOldest_72 : decode cX1_dropOldest 72 = .ok (.putfield 59, 3) := by decide +kernel
theorem dX1_dropOldest_75 : decode cX1_dropOldest 75 = .ok (.aload_n 0, 1) := by decide +kernel
theorem dX1_dropOldest_76 : decode cX1_dropOldest 76 = .ok (.dup, 1) := by decide +kernel
theorem dX1_dropOldest_77 : decode cX1_dropOldest 77 = .ok (.getfield 9, 3) := by decide +kernel
theorem dX1_dropOldest_80 : decode cX1_dropOldest 80 = .ok (.iconst 1, 1) := by decide +kernel
theorem dX1_dropOldest_81 : decode cX1_dropOldest 81 = .ok (.isub, 1) := by decide +kernel
theorem dX1_dropOldest_82 : decode cX1_dropOldest 82 = .ok (.putfield 9, 3) := by decide +kernel
theorem dX1_dropOldest_85 : decode cX1_dropOldest 85 = .ok (.return_, 1) := by decide +kernel
theorem dX2_init_0 : decode cX2_init 0 = .ok (.aload_n 0, 1) := by decide +kernel
theorem dX2_init_1 : decode cX2_init 1 = .ok (.invokespecial 3, 3) := by decide +kernel
theorem dX2_init_4 : decode cX2_init 4 = .ok (.aload_n 0, 1) := by decide +kernel
theorem dX2_init_5 : decode cX2_init 5 = .ok (.lconst 0, 1) := by decide +kernel
theorem dX2_init_6 : decode cX2_init 6 = .ok (.putfield 11, 3) := by decide +kernel
theorem dX2_init_9 : decode cX2_init 9 = .ok (.aload_n 0, 1) := by decide +kernel
theorem dX2_init_10 : decode cX2_init 10 = .ok (.iconst 0, 1) := by decide +kernel
theorem dX2_init_11 : decode cX2_init 11 = .ok (.putfield 17, 3) := by decide +kernel
theorem dX2_init_14 : decode cX2_init 14 = .ok (.aload_n 0, 1) := by decide +kernel
theorem dX2_init_15 : decode cX2_init 15 = .ok (.iconst 0, 1) := by decide +kernel
theorem dX2_init_16 : decode cX2_init 16 = .ok (.putfield 21, 3) := by decide +kernel
theorem dX2_init_19 : decode cX2_init 19 = .ok (.aload_n 0, 1) := by decide +kernel
theorem dX2_init_20 : decode cX2_init 20 = .ok (.iconst 0, 1) := by decide +kernel
theorem dX2_init_21 : decode cX2_init 21 = .ok (.putfield 24, 3) := by decide +kernel
theorem dX2_init_24 : decode cX2_init 24 = .ok (.aload_n 0, 1) := by decide +kernel
theorem dX2_init_25 : decode cX2_init 25 = .ok (.iconst (-1), 1) := by decide +kernel
theorem dX2_init_26 : decode cX2_init 26 = .ok (.putfield 27, 3) := by decide +kernel
theorem dX2_init_29 : decode cX2_init 29 = .ok (.aload_n 0, 1) := by decide +kernel
theorem dX2_init_30 : decode cX2_init 30 = .ok (.iconst 0, 1) := by decide +kernel
theorem dX2_init_31 : decode cX2_init 31 = .ok (.putfield 30, 3) := by decide +kernel
theorem dX2_init_34 : decode cX2_init 34 = .ok (.aload_n 0, 1) := by decide +kernel
theorem dX2_init_35 : decode cX2_init 35 = .ok (.iconst 0, 1) := by decide +kernel
theorem dX2_init_36 : decode cX2_init 36 = .ok (.putfield 33, 3) := by decide +kernel
theorem dX2_init_39 : decode cX2_init 39 = .ok (.return_, 1) := by decide +kernel
theorem dX2_isFree_0 : decode cX2_isFree 0 = .ok (.aload_n 0, 1) := by decide +kernel
theorem dX2_isFree_1 : decode cX2_isFree 1 = .ok (.getfield 21, 3) := by decide +kernel
theorem dX2_isFree_4 : decode cX2_isFree 4 = .ok (.ifCond .ne 7, 3) := by decide +kernel
theorem dX2_isFree_7 : decode cX2_isFree 7 = .ok (.iconst 1, 1) := by decide +kernel
theorem dX2_isFree_8 : decode cX2_isFree 8 = .ok (.goto 4, 3) := by decide +kernel
theorem dX2_isFree_11 : decode cX2_isFree 11 = .ok (.iconst 0, 1) := by decide +kernel
theorem dX2_isFree_12 : decode cX2_isFree 12 = .ok (.ireturn, 1) := by decide +kernel
theorem dX2_isFor_0 : decode cX2_isFor 0 = .ok (.aload_n 0, 1) := by decide +kernel
theorem dX2_isFor_1 : decode cX2_isFor 1 = .ok (.getfield 11, 3) := by decide +kernel
theorem dX2_isFor_4 : decode cX2_isFor 4 = .ok (.lload_n 1, 1) := by decide +kernel
theorem dX2_isFor_5 : decode cX2_isFor 5 = .ok (.lcmp, 1) := by decide +kernel
theorem dX2_isFor_6 : decode cX2_isFor 6 = .ok (.ifCond .ne 24, 3) := by decide +kernel
theorem dX2_isFor_9 : decode cX2_isFor 9 = .ok (.aload_n 0, 1) := by decide +kernel
theorem dX2_isFor_10 : decode cX2_isFor 10 = .ok (.getfield 17, 3) := by decide +kernel
theorem dX2_isFor_13 : decode cX2_isFor 13 = .ok (.iload_n 3, 1) := by decide +kernel
theorem dX2_isFor_14 : decode cX2_isFor 14 = .ok (.if_icmp .ne 16, 3) := by decide +kernel
theorem dX2_isFor_17 : decode cX2_isFor 17 = .ok (.aload_n 0, 1) := by decide +kernel
theorem dX2_isFor_18 : decode cX2_isFor 18 = .ok (.getfield 21, 3) := by decide +kernel
theorem dX2_isFor_21 : decode cX2_isFor 21 = .ok (.iload 4, 2) := by decide +kernel
theorem dX2_isFor_23 : decode cX2_isFor 23 = .ok (.if_icmp .ne 7, 3) := by decide +kernel
theorem dX2_isFor_26 : decode cX2_isFor 26 = .ok (.iconst 1, 1) := by decide +kernel
theorem dX2_isFor_27 : decode cX2_isFor 27 = .ok (.goto 4, 3) := by decide +kernel
theorem dX2_isFor_30 : decode cX2_isFor 30 = .ok (.iconst 0, 1) := by decide +kernel
theorem dX2_isFor_31 : decode cX2_isFor 31 = .ok (.ireturn, 1) := by decide +kernel
theorem dX2_become_0 : decode cX2_become 0 = .ok (.aload_n 0, 1) := by decide +kernel
theorem dX2_become_1 : decode cX2_become 1 = .ok (.aload_n 1, 1) := by decide +kernel
theorem dX2_become_2 : decode cX2_become 2 = .ok (.getfield 11, 3) := by decide +kernel
theorem dX2_become_5 : decode cX2_become 5 = .ok (.putfield 11, 3) := by decide +kernel
theorem dX2_become_8 : decode cX2_become 8 = .ok (.aload_n 0, 1) := by decide +kernel
theorem dX2_become_9 : decode cX2_become 9 = .ok (.aload_n 1, 1) := by decide +kernel
theorem dX2_become_10 : decode cX2_become 10 = .ok (.getfield 17, 3) := by decide +kernel
theorem dX2_become_13 : decode cX2_become 13 = .ok (.putfield 17, 3) := by decide +kernel
theorem dX2_become_16 : decode cX2_become 16 = .ok (.aload_n 0, 1) := by decide +kernel
theorem dX2_become_17 : decode cX2_become 17 = .ok (.aload_n 1, 1) := by decide +kernel
theorem dX2_become_18 : decode cX2_become 18 = .ok (.getfield 21, 3) := by decide +kernel
theorem dX2_become_21 : decode cX2_become 21 = .ok (.putfield 21, 3) := by decide +kernel
theorem dX2_become_24 : decode cX2_become 24 = .ok (.aload_n 0, 1) := by decide +kernel
theorem dX2_become_25 : decode cX2_become 25 = .ok (.aload_n 1, 1) := by decide +kernel
theorem dX2_become_26 : decode cX2_become 26 = .ok (.getfield 24, 3) := by decide +kernel
theorem dX2_become_29 : decode cX2_become 29 = .ok (.putfield 24, 3) := by decide +kernel
theorem dX2_become_32 : decode cX2_become 32 = .ok (.aload_n 0, 1) := by decide +kernel
theorem dX2_become_33 : decode cX2_become 33 = .ok (.aload_n 1, 1) := by decide +kernel
theorem dX2_become_34 : decode cX2_become 34 = .ok (.getfield 27, 3) := by decide +kernel
theorem dX2_become_37 : decode cX2_become 37 = .ok (.putfield 27, 3) := by decide +kernel
theorem dX2_become_40 : decode cX2_become 40 = .ok (.aload_n 0, 1) := by decide +kernel
theorem dX2_become_41 : decode cX2_become 41 = .ok (.aload_n 1, 1) := by decide +kernel
theorem dX2_become_42 : decode cX2_become 42 = .ok (.getfield 30, 3) := by decide +kernel
theorem dX2_become_45 : decode cX2_become 45 = .ok (.putfield 30, 3) := by decide +kernel
theorem dX2_become_48 : decode cX2_become 48 = .ok (.aload_n 0, 1) := by decide +kernel
theorem dX2_become_49 : decode cX2_become 49 = .ok (.aload_n 1, 1) := by decide +kernel
theorem dX2_become_50 : decode cX2_become 50 = .ok (.getfield 33, 3) := by decide +kernel
theorem dX2_become_53 : decode cX2_become 53 = .ok (.putfield 33, 3) := by decide +kernel
theorem dX2_become_56 : decode cX2_become 56 = .ok (.return_, 1) := by decide +kernel
theorem dX3_init_0 : decode cX3_init 0 = .ok (.aload_n 0, 1) := by decide +kernel
theorem dX3_init_1 : decode cX3_init 1 = .ok (.invokespecial 1, 3) := by decide +kernel
theorem dX3_init_4 : decode cX3_init 4 = .ok (.aload_n 0, 1) := by decide +kernel
theorem dX3_init_5 : decode cX3_init 5 = .ok (.iconst 0, 1) := by decide +kernel
theorem dX3_init_6 : decode cX3_init 6 = .ok (.putfield 7, 3) := by decide +kernel
theorem dX3_init_9 : decode cX3_init 9 = .ok (.aload_n 0, 1) := by decide +kernel
theorem dX3_init_10 : decode cX3_init 10 = .ok (.iconst 0, 1) := by decide +kernel
theorem dX3_init_11 : decode cX3_init 11 = .ok (.putfield 13, 3) := by decide +kernel
theorem dX3_init_14 : decode cX3_init 14 = .ok (.aload_n 0, 1) := by decide +kernel
theorem dX3_init_15 : decode cX3_init 15 = .ok (.iconst 0, 1) := by decide +kernel
theorem dX3_init_16 : decode cX3_init 16 = .ok (.putfield 16, 3) := by decide +kernel
theorem dX3_init_19 : decode cX3_init 19 = .ok (.aload_n 0, 1) := by decide +kernel
theorem dX3_init_20 : decode cX3_init 20 = .ok (.iconst 0, 1) := by decide +kernel
theorem dX3_init_21 : decode cX3_init 21 = .ok (.putfield 19, 3) := by decide +kernel
theorem dX3_init_24 : decode cX3_init 24 = .ok (.aload_n 0, 1) := by decide +kernel
theorem dX3_init_25 : decode cX3_init 25 = .ok (.iconst 0, 1) := by decide +kernel
theorem dX3_init_26 : decode cX3_init 26 = .ok (.putfield 22, 3) := by decide +kernel
theorem dX3_init_29 : decode cX3_init 29 = .ok (.aload_n 0, 1) := by decide +kernel
theorem dX3_init_30 : decode cX3_init 30 = .ok (.iconst 0, 1) := by decide +kernel
theorem dX3_init_31 : decode cX3_init 31 = .ok (.putfield 25, 3) := by decide +kernel
theorem dX3_init_34 : decode cX3_init 34 = .ok (.aload_n 0, 1) := by decide +kernel
theorem dX3_init_35 : decode cX3_init 35 = .ok (.aload_n 1, 1) := by decide +kernel
theorem dX3_init_36 : decode cX3_init 36 = .ok (.putfield 29, 3) := by decide +kernel
theorem dX3_init_39 : decode cX3_init 39 = .ok (.aload_n 0, 1) := by decide +kernel
theorem dX3_init_40 : decode cX3_init 40 = .ok (.iconst 1, 1) := by decide +kernel
theorem dX3_init_41 : decode cX3_init 41 = .ok (.iload_n 2, 1) := by decide +kernel
theorem dX3_init_42 : decode cX3_init 42 = .ok (.ishl, 1) := by decide +kernel
theorem dX3_init_43 : decode cX3_init 43 = .ok (.putfield 33, 3) := by decide +kernel
theorem dX3_init_46 : decode cX3_init 46 = .ok (.iload_n 3, 1) := by decide +kernel
theorem dX3_init_47 : decode cX3_init 47 = .ok (.invokestatic 36, 3) := by decide +kernel
theorem dX3_init_50 : decode cX3_init 50 = .ok (.istore 4, 2) := by decide +kernel
theorem dX3_init_52 : decode cX3_init 52 = .ok (.aload_n 0, 1) := by decide +kernel
theorem dX3_init_53 : decode cX3_init 53 = .ok (.lconst 0, 1) := by decide +kernel
theorem dX3_init_54 : decode cX3_init 54 = .ok (.iload_n 3, 1) := by decide +kernel
theorem dX3_init_55 : decode cX3_init 55 = .ok (.invokestatic 42, 3) := by decide +kernel
theorem dX3_init_58 : decode cX3_init 58 = .ok (.iload 4, 2) := by decide +kernel
theorem dX3_init_60 : decode cX3_init 60 = .ok (.invokestatic 42, 3) := by decide +kernel
theorem dX3_init_63 : decode cX3_init 63 = .ok (.putfield 46, 3) := by decide +kernel
theorem dX3_init_66 : decode cX3_init 66 = .ok (.aload_n 0, 1) := by decide +kernel
theorem dX3_init_67 : decode cX3_init 67 = .ok (.iload 4, 2) := by decide +kernel
theorem dX3_init_69 : decode cX3_init 69 = .ok (.invokestatic 36, 3) := by decide +kernel
theorem dX3_init_72 : decode cX3_init 72 = .ok (.putfield 50, 3) := by decide +kernel
theorem dX3_init_75 : decode cX3_init 75 = .ok (.return_, 1) := by decide +kernel
theorem dX3_go_0 : decode cX3_go 0 = .ok (.aload_n 0, 1) := by decide +kernel
theorem dX3_go_1 : decode cX3_go 1 = .ok (.getfield 46, 3) := by decide +kernel
theorem dX3_go_4 : decode cX3_go 4 = .ok (.iload_n 1, 1) := by decide +kernel
theorem dX3_go_5 : decode cX3_go 5 = .ok (.invokestatic 53, 3) := by decide +kernel
theorem dX3_go_8 : decode cX3_go 8 = .ok (.istore_n 2, 1) := by decide +kernel
theorem dX3_go_9 : decode cX3_go 9 = .ok (.aload_n 0, 1) := by decide +kernel
theorem dX3_go_10 : decode cX3_go 10 = .ok (.aload_n 0, 1) := by decide +kernel
theorem dX3_go_11 : decode cX3_go 11 = .ok (.getfield 46, 3) := by decide +kernel
theorem dX3_go_14 : decode cX3_go 14 = .ok (.iload_n 1, 1) := by decide +kernel
theorem dX3_go_15 : decode cX3_go 15 = .ok (.invokestatic 57, 3) := by decide +kernel
theorem dX3_go_18 : decode cX3_go 18 = .ok (.aload_n 0, 1) := by decide +kernel
theorem dX3_go_19 : decode cX3_go 19 = .ok (.getfield 50, 3) := by decide +kernel
theorem dX3_go_22 : decode cX3_go 22 = .ok (.invokestatic 42, 3) := by decide +kernel
theorem dX3_go_25 : decode cX3_go 25 = .ok (.putfield 46, 3) := by decide +kernel
theorem dX3_go_28 : decode cX3_go 28 = .ok (.aload_n 0, 1) := by decide +kernel
theorem dX3_go_29 : decode cX3_go 29 = .ok (.aload_n 0, 1) := by decide +kernel
theorem dX3_go_30 : decode cX3_go 30 = .ok (.getfield 50, 3) := by decide +kernel
theorem dX3_go_33 : decode cX3_go 33 = .ok (.invokestatic 36, 3) := by decide +kernel
theorem dX3_go_36 : decode cX3_go 36 = .ok (.putfield 50, 3) := by decide +kernel
theorem dX3_go_39 : decode cX3_go 39 = .ok (.aload_n 0, 1) := by decide +kernel
theorem dX3_go_40 : decode cX3_go 40 = .ok (.dup, 1) := by decide +kernel
theorem dX3_go_41 : decode cX3_go 41 = .ok (.getfield 7, 3) := by decide +kernel
theorem dX3_go_44 : decode cX3_go 44 = .ok (.iload_n 2, 1) := by decide +kernel
theorem dX3_go_45 : decode cX3_go 45 = .ok (.iadd, 1) := by decide +kernel
theorem dX3_go_46 : decode cX3_go 46 = .ok (.putfield 7, 3) := by decide +kernel
theorem dX3_go_49 : decode cX3_go 49 = .ok (.aload_n 0, 1) := by decide +kernel
theorem dX3_go_50 : decode cX3_go 50 = .ok (.dup, 1) := by decide +kernel
theorem dX3_go_51 : decode cX3_go 51 = .ok (.getfield 13, 3) := by decide +kernel
theorem dX3_go_54 : decode cX3_go 54 = .ok (.iconst 1, 1) := by decide +kernel
theorem dX3_go_55 : decode cX3_go 55 = .ok (.iadd, 1) := by decide +kernel
theorem dX3_go_56 : decode cX3_go 56 = .ok (.putfield 13, 3) := by decide +kernel
theorem dX3_go_59 : decode cX3_go 59 = .ok (.iload_n 2, 1) := by decide +kernel
theorem dX3_go_60 : decode cX3_go 60 = .ok (.ireturn, 1) := by decide +kernel
theorem dX3_noteFollowing_0 : decode cX3_noteFollowing 0 = .ok (.aload_n 0, 1) := by decide +kernel
theorem dX3_noteFollowing_1 : decode cX3_noteFollowing 1 = .ok (.iload_n 1, 1) := by decide +kernel
theorem dX3_noteFollowing_2 : decode cX3_noteFollowing 2 = .ok (.ifCond .eq 12, 3) := by decide +kernel
theorem dX3_noteFollowing_5 : decode cX3_noteFollowing 5 = .ok (.aload_n 0, 1) := by decide +kernel
theorem dX3_noteFollowing_6 : decode cX3_noteFollowing 6 = .ok (.getfield 16, 3) := by decide +kernel
theorem dX3_noteFollowing_9 : decode cX3_noteFollowing 9 = .ok (.iconst 1, 1) := by decide +kernel
theorem dX3_noteFollowing_10 : decode cX3_noteFollowing 10 = .ok (.iadd, 1) := by decide +kernel
theorem dX3_noteFollowing_11 : decode cX3_noteFollowing 11 = .ok (.goto 4, 3) := by decide +kernel
theorem dX3_noteFollowing_14 : decode cX3_noteFollowing 14 = .ok (.iconst 0, 1) := by decide +kernel
theorem dX3_noteFollowing_15 : decode cX3_noteFollowing 15 = .ok (.putfield 16, 3) := by decide +kernel
theorem dX3_noteFollowing_18 : decode cX3_noteFollowing 18 = .ok (.aload_n 0, 1) := by decide +kernel
theorem dX3_noteFollowing_19 : decode cX3_noteFollowing 19 = .ok (.aload_n 0, 1) := by decide +kernel
theorem dX3_noteFollowing_20 : decode cX3_noteFollowing 20 = .ok (.getfield 19, 3) := by decide +kernel
theorem dX3_noteFollowing_23 : decode cX3_noteFollowing 23 = .ok (.aload_n 0, 1) := by decide +kernel
theorem dX3_noteFollowing_24 : decode cX3_noteFollowing 24 = .ok (.getfield 16, 3) := by decide +kernel
theorem dX3_noteFollowing_27 : decode cX3_noteFollowing 27 = .ok (.invokestatic 60, 3) := by decide +kernel
theorem dX3_noteFollowing_30 : decode cX3_noteFollowing 30 = .ok (.putfield 19, 3) := by decide +kernel
theorem dX3_noteFollowing_33 : decode cX3_noteFollowing 33 = .ok (.return_, 1) := by decide +kernel
theorem dX4_init_0 : decode cX4_init 0 = .ok (.aload_n 0, 1) := by decide +kernel
theorem dX4_init_1 : decode cX4_init 1 = .ok (.invokespecial 1, 3) := by decide +kernel
theorem dX4_init_4 : decode cX4_init 4 = .ok (.aload_n 0, 1) := by decide +kernel
theorem dX4_init_5 : decode cX4_init 5 = .ok (.iload_n 1, 1) := by decide +kernel
theorem dX4_init_6 : decode cX4_init 6 = .ok (.putfield 7, 3) := by decide +kernel
theorem dX4_init_9 : decode cX4_init 9 = .ok (.aload_n 0, 1) := by decide +kernel
theorem dX4_init_10 : decode cX4_init 10 = .ok (.iload_n 2, 1) := by decide +kernel
theorem dX4_init_11 : decode cX4_init 11 = .ok (.putfield 13, 3) := by decide +kernel
theorem dX4_init_14 : decode cX4_init 14 = .ok (.aload_n 0, 1) := by decide +kernel
theorem dX4_init_15 : decode cX4_init 15 = .ok (.iload_n 2, 1) := by decide +kernel
theorem dX4_init_16 : decode cX4_init 16 = .ok (.putfield 16, 3) := by decide +kernel
theorem dX4_init_19 : decode cX4_init 19 = .ok (.return_, 1) := by decide +kernel
theorem dX5_init_0 : decode cX5_init 0 = .ok (.aload_n 0, 1) := by decide +kernel
theorem dX5_init_1 : decode cX5_init 1 = .ok (.invokespecial 3, 3) := by decide +kernel
theorem dX5_init_4 : decode cX5_init 4 = .ok (.aload_n 0, 1) := by decide +kernel
theorem dX5_init_5 : decode cX5_init 5 = .ok (.iconst 0, 1) := by decide +kernel
theorem dX5_init_6 : decode cX5_init 6 = .ok (.putfield 9, 3) := by decide +kernel
theorem dX5_init_9 : decode cX5_init 9 = .ok (.aload_n 0, 1) := by decide +kernel
theorem dX5_init_10 : decode cX5_init 10 = .ok (.iconst 0, 1) := by decide +kernel
theorem dX5_init_11 : decode cX5_init 11 = .ok (.putfield 15, 3) := by decide +kernel
theorem dX5_init_14 : decode cX5_init 14 = .ok (.aload_n 0, 1) := by decide +kernel
theorem dX5_init_15 : decode cX5_init 15 = .ok (.iconst (-1), 1) := by decide +kernel
theorem dX5_init_16 : decode cX5_init 16 = .ok (.putfield 18, 3) := by decide +kernel
theorem dX5_init_19 : decode cX5_init 19 = .ok (.aload_n 0, 1) := by decide +kernel
theorem dX5_init_20 : decode cX5_init 20 = .ok (.aload_n 1, 1) := by decide +kernel
theorem dX5_init_21 : decode cX5_init 21 = .ok (.putfield 21, 3) := by decide +kernel
theorem dX5_init_24 : decode cX5_init 24 = .ok (.return_, 1) := by decide +kernel
theorem dX5_start_0 : decode cX5_start 0 = .ok (.aload_n 0, 1) := by decide +kernel
theorem dX5_start_1 : decode cX5_start 1 = .ok (.iconst 0, 1) := by decide +kernel
theorem dX5_start_2 : decode cX5_start 2 = .ok (.putfield 9, 3) := by decide +kernel
theorem dX5_start_5 : decode cX5_start 5 = .ok (.aload_n 0, 1) := by decide +kernel
theorem dX5_start_6 : decode cX5_start 6 = .ok (.iconst 0, 1) := by decide +kernel
theorem dX5_start_7 : decode cX5_start 7 = .ok (.putfield 15, 3) := by decide +kernel
theorem dX5_start_10 : decode cX5_start 10 = .ok (.aload_n 0, 1) := by decide +kernel
theorem dX5_start_11 : decode cX5_start 11 = .ok (.iconst (-1), 1) := by decide +kernel
theorem dX5_start_12 : decode cX5_start 12 = .ok (.putfield 18, 3) := by decide +kernel
theorem dX5_start_15 : decode cX5_start 15 = .ok (.return_, 1) := by decide +kernel
theorem dX5_cost_0 : decode cX5_cost 0 = .ok (.aload_n 0, 1) := by decide +kernel
theorem dX5_cost_1 : decode cX5_cost 1 = .ok (.getfield 15, 3) := by decide +kernel
theorem dX5_cost_4 : decode cX5_cost 4 = .ok (.iconst 1, 1) := by decide +kernel
theorem dX5_cost_5 : decode cX5_cost 5 = .ok (.invokestatic 25, 3) := by decide +kernel
theorem dX5_cost_8 : decode cX5_cost 8 = .ok (.ireturn, 1) := by decide +kernel
theorem dX6_init_0 : decode cX6_init 0 = .ok (.aload_n 0, 1) := by decide +kernel
theorem dX6_init_1 : decode cX6_init 1 = .ok (.invokespecial 1, 3) := by decide +kernel
theorem dX6_init_4 : decode cX6_init 4 = .ok (.aload_n 0, 1) := by decide +kernel
theorem dX6_init_5 : decode cX6_init 5 = .ok (.aload_n 1, 1) := by decide +kernel
theorem dX6_init_6 : decode cX6_init 6 = .ok (.getfield 7, 3) := by decide +kernel
theorem dX6_init_9 : decode cX6_init 9 = .ok (.getfield 13, 3) := by decide +kernel
theorem dX6_init_12 : decode cX6_init 12 = .ok (.putfield 19, 3) := by decide +kernel
theorem dX6_init_15 : decode cX6_init 15 = .ok (.aload_n 0, 1) := by decide +kernel
theorem dX6_init_16 : decode cX6_init 16 = .ok (.aload_n 1, 1) := by decide +kernel
theorem dX6_init_17 : decode cX6_init 17 = .ok (.getfield 24, 3) := by decide +kernel
theorem dX6_init_20 : decode cX6_init 20 = .ok (.putfield 28, 3) := by decide +kernel
theorem dX6_init_23 : decode cX6_init 23 = .ok (.aload_n 0, 1) := by decide +kernel
theorem dX6_init_24 : decode cX6_init 24 = .ok (.aload_n 1, 1) := by decide +kernel
theorem dX6_init_25 : decode cX6_init 25 = .ok (.getfield 29, 3) := by decide +kernel
theorem dX6_init_28 : decode cX6_init 28 = .ok (.putfield 32, 3) := by decide +kernel
theorem dX6_init_31 : decode cX6_init 31 = .ok (.aload_n 0, 1) := by decide +kernel
theorem dX6_init_32 : decode cX6_init 32 = .ok (.iload_n 2, 1) := by decide +kernel
theorem dX6_init_33 : decode cX6_init 33 = .ok (.putfield 33, 3) := by decide +kernel
theorem dX6_init_36 : decode cX6_init 36 = .ok (.return_, 1) := by decide +kernel
theorem dX7_init_0 : decode cX7_init 0 = .ok (.aload_n 0, 1) := by decide +kernel
theorem dX7_init_1 : decode cX7_init 1 = .ok (.invokespecial 1, 3) := by decide +kernel
theorem dX7_init_4 : decode cX7_init 4 = .ok (.aload_n 0, 1) := by decide +kernel
theorem dX7_init_5 : decode cX7_init 5 = .ok (.new 7, 3) := by decide +kernel
theorem dX7_init_8 : decode cX7_init 8 = .ok (.dup, 1) := by decide +kernel
theorem dX7_init_9 : decode cX7_init 9 = .ok (.invokespecial 9, 3) := by decide +kernel
theorem dX7_init_12 : decode cX7_init 12 = .ok (.putfield 10, 3) := by decide +kernel
theorem dX7_init_15 : decode cX7_init 15 = .ok (.aload_n 0, 1) := by decide +kernel
theorem dX7_init_16 : decode cX7_init 16 = .ok (.new 7, 3) := by decide +kernel
theorem dX7_init_19 : decode cX7_init 19 = .ok (.dup, 1) := by decide +kernel
theorem dX7_init_20 : decode cX7_init 20 = .ok (.invokespecial 9, 3) := by decide +kernel
theorem dX7_init_23 : decode cX7_init 23 = .ok (.putfield 16, 3) := by decide +kernel
theorem dX7_init_26 : decode cX7_init 26 = .ok (.aload_n 0, 1) := by decide +kernel
theorem dX7_init_27 : decode cX7_init 27 = .ok (.new 7, 3) := by decide +kernel
theorem dX7_init_30 : decode cX7_init 30 = .ok (.dup, 1) := by decide +kernel
theorem dX7_init_31 : decode cX7_init 31 = .ok (.invokespecial 9, 3) := by decide +kernel
theorem dX7_init_34 : decode cX7_init 34 = .ok (.putfield 19, 3) := by decide +kernel
theorem dX7_init_37 : decode cX7_init 37 = .ok (.aload_n 0, 1) := by decide +kernel
theorem dX7_init_38 : decode cX7_init 38 = .ok (.new 22, 3) := by decide +kernel
theorem dX7_init_41 : decode cX7_init 41 = .ok (.dup, 1) := by decide +kernel
theorem dX7_init_42 : decode cX7_init 42 = .ok (.bipush 64, 2) := by decide +kernel
theorem dX7_init_44 : decode cX7_init 44 = .ok (.invokespecial 24, 3) := by decide +kernel
theorem dX7_init_47 : decode cX7_init 47 = .ok (.putfield 27, 3) := by decide +kernel
theorem dX7_init_50 : decode cX7_init 50 = .ok (.aload_n 0, 1) := by decide +kernel
theorem dX7_init_51 : decode cX7_init 51 = .ok (.new 31, 3) := by decide +kernel
theorem dX7_init_54 : decode cX7_init 54 = .ok (.dup, 1) := by decide +kernel
theorem dX7_init_55 : decode cX7_init 55 = .ok (.new 22, 3) := by decide +kernel
theorem dX7_init_58 : decode cX7_init 58 = .ok (.dup, 1) := by decide +kernel
theorem dX7_init_59 : decode cX7_init 59 = .ok (.bipush 64, 2) := by decide +kernel
theorem dX7_init_61 : decode cX7_init 61 = .ok (.invokespecial 24, 3) := by decide +kernel
theorem dX7_init_64 : decode cX7_init 64 = .ok (.invokespecial 33, 3) := by decide +kernel
theorem dX7_init_67 : decode cX7_init 67 = .ok (.putfield 36, 3) := by decide +kernel
theorem dX7_init_70 : decode cX7_init 70 = .ok (.aload_n 0, 1) := by decide +kernel
theorem dX7_init_71 : decode cX7_init 71 = .ok (.new 31, 3) := by decide +kernel
theorem dX7_init_74 : decode cX7_init 74 = .ok (.dup, 1) := by decide +kernel
theorem dX7_init_75 : decode cX7_init 75 = .ok (.new 22, 3) := by decide +kernel
theorem dX7_init_78 : decode cX7_init 78 = .ok (.dup, 1) := by decide +kernel
theorem dX7_init_79 : decode cX7_init 79 = .ok (.iconst 0, 1) := by decide +kernel
theorem dX7_init_80 : decode cX7_init 80 = .ok (.invokespecial 24, 3) := by decide +kernel
theorem dX7_init_83 : decode cX7_init 83 = .ok (.invokespecial 33, 3) := by decide +kernel
theorem dX7_init_86 : decode cX7_init 86 = .ok (.putfield 40, 3) := by decide +kernel
theorem dX7_init_89 : decode cX7_init 89 = .ok (.aload_n 0, 1) := by decide +kernel
theorem dX7_init_90 : decode cX7_init 90 = .ok (.iconst 3, 1) := by decide +kernel
theorem dX7_init_91 : decode cX7_init 91 = .ok (.putfield 43, 3) := by decide +kernel
theorem dX7_init_94 : decode cX7_init 94 = .ok (.aload_n 0, 1) := by decide +kernel
theorem dX7_init_95 : decode cX7_init 95 = .ok (.lconst 0, 1) := by decide +kernel
theorem dX7_init_96 : decode cX7_init 96 = .ok (.putfield 47, 3) := by decide +kernel
theorem dX7_init_99 : decode cX7_init 99 = .ok (.aload_n 0, 1) := by decide +kernel
theorem dX7_init_100 : decode cX7_init 100 = .ok (.lconst 0, 1) := by decide +kernel
theorem dX7_init_101 : decode cX7_init 101 = .ok (.putfield 51, 3) := by decide +kernel
theorem dX7_init_104 : decode cX7_init 104 = .ok (.aload_n 0, 1) := by decide +kernel
theorem dX7_init_105 : decode cX7_init 105 = .ok (.lconst 0, 1) := by decide +kernel
theorem dX7_init_106 : decode cX7_init 106 = .ok (.putfield 54, 3) := by decide +kernel
theorem dX7_init_109 : decode cX7_init 109 = .ok (.aload_n 0, 1) := by decide +kernel
theorem dX7_init_110 : decode cX7_init 110 = .ok (.lconst 0, 1) := by decide +kernel
theorem dX7_init_111 : decode cX7_init 111 = .ok (.putfield 57, 3) := by decide +kernel
theorem dX7_init_114 : decode cX7_init 114 = .ok (.aload_n 0, 1) := by decide +kernel
theorem dX7_init_115 : decode cX7_init 115 = .ok (.lconst 0, 1) := by decide +kernel
theorem dX7_init_116 : decode cX7_init 116 = .ok (.putfield 60, 3) := by decide +kernel
theorem dX7_init_119 : decode cX7_init 119 = .ok (.return_, 1) := by decide +kernel
theorem dX7_addPlayer_0 : decode cX7_addPlayer 0 = .ok (.iload_n 1, 1) := by decide +kernel
theorem dX7_addPlayer_1 : decode cX7_addPlayer 1 = .ok (.ifCond .lt 10, 3) := by decide +kernel
theorem dX7_addPlayer_4 : decode cX7_addPlayer 4 = .ok (.iload_n 1, 1) := by decide +kernel
theorem dX7_addPlayer_5 : decode cX7_addPlayer 5 = .ok (.sipush 9999, 3) := by decide +kernel
theorem dX7_addPlayer_8 : decode cX7_addPlayer 8 = .ok (.if_icmp .le 13, 3) := by decide +kernel
theorem dX7_addPlayer_11 : decode cX7_addPlayer 11 = .ok (.new 63, 3) := by decide +kernel
theorem dX7_addPlayer_14 : decode cX7_addPlayer 14 = .ok (.dup, 1) := by decide +kernel
theorem dX7_addPlayer_15 : decode cX7_addPlayer 15 = .ok (.ldc 65, 2) := by decide +kernel
theorem dX7_addPlayer_17 : decode cX7_addPlayer 17 = .ok (.invokespecial 67, 3) := by decide +kernel
theorem dX7_addPlayer_20 : decode cX7_addPlayer 20 = .ok (.athrow, 1) := by decide +kernel
theorem dX7_addPlayer_21 : decode cX7_addPlayer 21 = .ok (.aload_n 0, 1) := by decide +kernel
theorem dX7_addPlayer_22 : decode cX7_addPlayer 22 = .ok (.getfield 10, 3) := by decide +kernel
theorem dX7_addPlayer_25 : decode cX7_addPlayer 25 = .ok (.invokevirtual 70, 3) := by decide +kernel
theorem dX7_addPlayer_28 : decode cX7_addPlayer 28 = .ok (.iconst 4, 1) := by decide +kernel
theorem dX7_addPlayer_29 : decode cX7_addPlayer 29 = .ok (.if_icmp .lt 13, 3) := by decide +kernel
theorem dX7_addPlayer_32 : decode cX7_addPlayer 32 = .ok (.new 74, 3) := by decide +kernel
theorem dX7_addPlayer_35 : decode cX7_addPlayer 35 = .ok (.dup, 1) := by decide +kernel
theorem dX7_addPlayer_36 : decode cX7_addPlayer 36 = .ok (.ldc 76, 2) := by decide +kernel
theorem dX7_addPlayer_38 : decode cX7_addPlayer 38 = .ok (.invokespecial 78, 3) := by decide +kernel
theorem dX7_addPlayer_41 : decode cX7_addPlayer 41 = .ok (.athrow, 1) := by decide +kernel
theorem dX7_addPlayer_42 : decode cX7_addPlayer 42 = .ok (.aload_n 0, 1) := by decide +kernel
theorem dX7_addPlayer_43 : decode cX7_addPlayer 43 = .ok (.getfield 10, 3) := by decide +kernel
theorem dX7_addPlayer_46 : decode cX7_addPlayer 46 = .ok (.new 79, 3) := by decide +kernel
theorem dX7_addPlayer_49 : decode cX7_addPlayer 49 = .ok (.dup, 1) := by decide +kernel
theorem dX7_addPlayer_50 : decode cX7_addPlayer 50 = .ok (.aload_n 0, 1) := by decide +kernel
theorem dX7_addPlayer_51 : decode cX7_addPlayer 51 = .ok (.getfield 10, 3) := by decide +kernel
theorem dX7_addPlayer_54 : decode cX7_addPlayer 54 = .ok (.invokevirtual 70, 3) := by decide +kernel
theorem dX7_addPlayer_57 : decode cX7_addPlayer 57 = .ok (.iload_n 1, 1) := by decide +kernel
theorem dX7_addPlayer_58 : decode cX7_addPlayer 58 = .ok (.invokespecial 81, 3) := by decide +kernel
theorem dX7_addPlayer_61 : decode cX7_addPlayer 61 = .ok (.invokevirtual 84, 3) := by decide +kernel
theorem dX7_addPlayer_64 : decode cX7_addPlayer 64 = .ok (.pop, 1) := by decide +kernel
theorem dX7_addPlayer_65 : decode cX7_addPlayer 65 = .ok (.aload_n 0, 1) := by decide +kernel
theorem dX7_addPlayer_66 : decode cX7_addPlayer 66 = .ok (.getfield 10, 3) := by decide +kernel
theorem dX7_addPlayer_69 : decode cX7_addPlayer 69 = .ok (.invokevirtual 70, 3) := by decide +kernel
theorem dX7_addPlayer_72 : decode cX7_addPlayer 72 = .ok (.iconst 1, 1) := by decide +kernel
theorem dX7_addPlayer_73 : decode cX7_addPlayer 73 = .ok (.isub, 1) := by decide +kernel
theorem dX7_addPlayer_74 : decode cX7_addPlayer 74 = .ok (.ireturn, 1) := by decide +kernel
theorem dX7_open_0 : decode cX7_open 0 = .ok (.aload_n 0, 1) := by decide +kernel
theorem dX7_open_1 : decode cX7_open 1 = .ok (.iload_n 1, 1) := by decide +kernel
theorem dX7_open_2 : decode cX7_open 2 = .ok (.invokevirtual 88, 3) := by decide +kernel
theorem dX7_open_5 : decode cX7_open 5 = .ok (.astore_n 3, 1) := by decide +kernel
theorem dX7_open_6 : decode cX7_open 6 = .ok (.iload_n 2, 1) := by decide +kernel
theorem dX7_open_7 : decode cX7_open 7 = .ok (.ifCond .ge 13, 3) := by decide +kernel
theorem dX7_open_10 : decode cX7_open 10 = .ok (.new 63, 3) := by decide +kernel
theorem dX7_open_13 : decode cX7_open 13 = .ok (.dup, 1) := by decide +kernel
theorem dX7_open_14 : decode cX7_open 14 = .ok (.ldc 92, 2) := by decide +kernel
theorem dX7_open_16 : decode cX7_open 16 = .ok (.invokespecial 67, 3) := by decide +kernel
theorem dX7_open_19 : decode cX7_open 19 = .ok (.athrow, 1) := by decide +kernel
theorem dX7_open_20 : decode cX7_open 20 = .ok (.aload_n 0, 1) := by decide +kernel
theorem dX7_open_21 : decode cX7_open 21 = .ok (.getfield 16, 3) := by decide +kernel
theorem dX7_open_24 : decode cX7_open 24 = .ok (.invokevirtual 70, 3) := by decide +kernel
theorem dX7_open_27 : decode cX7_open 27 = .ok (.bipush 8, 2) := by decide +kernel
theorem dX7_open_29 : decode cX7_open 29 = .ok (.if_icmp .lt 13, 3) := by decide +kernel
theorem dX7_open_32 : decode cX7_open 32 = .ok (.new 74, 3) := by decide +kernel
theorem dX7_open_35 : decode cX7_open 35 = .ok (.dup, 1) := by decide +kernel
theorem dX7_open_36 : decode cX7_open 36 = .ok (.ldc 94, 2) := by decide +kernel
theorem dX7_open_38 : decode cX7_open 38 = .ok (.invokespecial 78, 3) := by decide +kernel
theorem dX7_open_41 : decode cX7_open 41 = .ok (.athrow, 1) := by decide +kernel
theorem dX7_open_42 : decode cX7_open 42 = .ok (.aload_n 0, 1) := by decide +kernel
theorem dX7_open_43 : decode cX7_open 43 = .ok (.getfield 16, 3) := by decide +kernel
theorem dX7_open_46 : decode cX7_open 46 = .ok (.new 96, 3) := by decide +kernel
theorem dX7_open_49 : decode cX7_open 49 = .ok (.dup, 1) := by decide +kernel
theorem dX7_open_50 : decode cX7_open 50 = .ok (.aload_n 3, 1) := by decide +kernel
theorem dX7_open_51 : decode cX7_open 51 = .ok (.aload_n 0, 1) := by decide +kernel
theorem dX7_open_52 : decode cX7_open 52 = .ok (.getfield 16, 3) := by decide +kernel
theorem dX7_open_55 : decode cX7_open 55 = .ok (.invokevirtual 70, 3) := by decide +kernel
theorem dX7_open_58 : decode cX7_open 58 = .ok (.iload_n 2, 1) := by decide +kernel
theorem dX7_open_59 : decode cX7_open 59 = .ok (.invokespecial 98, 3) := by decide +kernel
theorem dX7_open_62 : decode cX7_open 62 = .ok (.invokevirtual 84, 3) := by decide +kernel
theorem dX7_open_65 : decode cX7_open 65 = .ok (.pop, 1) := by decide +kernel
theorem dX7_open_66 : decode cX7_open 66 = .ok (.aload_n 0, 1) := by decide +kernel
theorem dX7_open_67 : decode cX7_open 67 = .ok (.getfield 16, 3) := by decide +kernel
theorem dX7_open_70 : decode cX7_open 70 = .ok (.invokevirtual 70, 3) := by decide +kernel
theorem dX7_open_73 : decode cX7_open 73 = .ok (.iconst 1, 1) := by decide +kernel
theorem dX7_open_74 : decode cX7_open 74 = .ok (.isub, 1) := by decide +kernel
theorem dX7_open_75 : decode cX7_open 75 = .ok (.ireturn, 1) := by decide +kernel
theorem dX7_push_0 : decode cX7_push 0 = .ok (.aload_n 0, 1) := by decide +kernel
theorem dX7_push_1 : decode cX7_push 1 = .ok (.iload_n 1, 1) := by decide +kernel
theorem dX7_push_2 : decode cX7_push 2 = .ok (.invokevirtual 101, 3) := by decide +kernel
theorem dX7_push_5 : decode cX7_push 5 = .ok (.astore_n 3, 1) := by decide +kernel
theorem dX7_push_6 : decode cX7_push 6 = .ok (.iload_n 2, 1) := by decide +kernel
theorem dX7_push_7 : decode cX7_push 7 = .ok (.invokestatic 105, 3) := by decide +kernel
theorem dX7_push_10 : decode cX7_push 10 = .ok (.aload_n 3, 1) := by decide +kernel
theorem dX7_push_11 : decode cX7_push 11 = .ok (.getfield 108, 3) := by decide +kernel
theorem dX7_push_14 : decode cX7_push 14 = .ok (.ifCond .ne 14, 3) := by decide +kernel
theorem dX7_push_17 : decode cX7_push 17 = .ok (.aload_n 3, 1) := by decide +kernel
theorem dX7_push_18 : decode cX7_push 18 = .ok (.getfield 112, 3) := by decide +kernel
theorem dX7_push_21 : decode cX7_push 21 = .ok (.iload_n 2, 1) := by decide +kernel
theorem dX7_push_22 : decode cX7_push 22 = .ok (.invokestatic 115, 3) := by decide +kernel
theorem dX7_push_25 : decode cX7_push 25 = .ok (.ifCond .ne 13, 3) := by decide +kernel
theorem dX7_push_28 : decode cX7_push 28 = .ok (.new 121, 3) := by decide +kernel
theorem dX7_push_31 : decode cX7_push 31 = .ok (.dup, 1) := by decide +kernel
theorem dX7_push_32 : decode cX7_push 32 = .ok (.ldc 123, 2) := by decide +kernel
theorem dX7_push_34 : decode cX7_push 34 = .ok (.invokespecial 125, 3) := by decide +kernel
theorem dX7_push_37 : decode cX7_push 37 = .ok (.athrow, 1) := by decide +kernel
theorem dX7_push_38 : decode cX7_push 38 = .ok (.aload_n 3, 1) := by decide +kernel
theorem dX7_push_39 : decode cX7_push 39 = .ok (.aload_n 0, 1) := by decide +kernel
theorem dX7_push_40 : decode cX7_push 40 = .ok (.aload_n 3, 1) := by decide +kernel
theorem dX7_push_41 : decode cX7_push 41 = .ok (.iload_n 2, 1) := by decide +kernel
theorem dX7_push_42 : decode cX7_push 42 = .ok (.invokevirtual 126, 3) := by decide +kernel
theorem dX7_push_45 : decode cX7_push 45 = .ok (.invokevirtual 130, 3) := by decide +kernel
theorem dX7_push_48 : decode cX7_push 48 = .ok (.aload_n 3, 1) := by decide +kernel
theorem dX7_push_49 : decode cX7_push 49 = .ok (.iload_n 2, 1) := by decide +kernel
theorem dX7_push_50 : decode cX7_push 50 = .ok (.invokevirtual 134, 3) := by decide +kernel
theorem dX7_push_53 : decode cX7_push 53 = .ok (.ireturn, 1) := by decide +kernel
theorem dX7_at_0 : decode cX7_at 0 = .ok (.aload_n 0, 1) := by decide +kernel
theorem dX7_at_1 : decode cX7_at 1 = .ok (.iload_n 1, 1) := by decide +kernel
theorem dX7_at_2 : decode cX7_at 2 = .ok (.invokevirtual 101, 3) := by decide +kernel
theorem dX7_at_5 : decode cX7_at 5 = .ok (.astore 4, 2) := by decide +kernel
theorem dX7_at_7 : decode cX7_at 7 = .ok (.iload_n 2, 1) := by decide +kernel
theorem dX7_at_8 : decode cX7_at 8 = .ok (.ifCond .lt 17, 3) := by decide +kernel
theorem dX7_at_11 : decode cX7_at 11 = .ok (.iload_n 2, 1) := by decide +kernel
theorem dX7_at_12 : decode cX7_at 12 = .ok (.iconst 3, 1) := by decide +kernel
theorem dX7_at_13 : decode cX7_at 13 = .ok (.if_icmp .ge 12, 3) := by decide +kernel
theorem dX7_at_16 : decode cX7_at 16 = .ok (.iload_n 3, 1) := by decide +kernel
theorem dX7_at_17 : decode cX7_at 17 = .ok (.ifCond .lt 8, 3) := by decide +kernel
theorem dX7_at_20 : decode cX7_at 20 = .ok (.iload_n 3, 1) := by decide +kernel
theorem dX7_at_21 : decode cX7_at 21 = .ok (.iconst 3, 1) := by decide +kernel
theorem dX7_at_22 : decode cX7_at 22 = .ok (.if_icmp .lt 13, 3) := by decide +kernel
theorem dX7_at_25 : decode cX7_at 25 = .ok (.new 63, 3) := by decide +kernel
theorem dX7_at_28 : decode cX7_at 28 = .ok (.dup, 1) := by decide +kernel
theorem dX7_at_29 : decode cX7_at 29 = .ok (.ldc 138, 2) := by decide +kernel
theorem dX7_at_31 : decode cX7_at 31 = .ok (.invokespecial 67, 3) := by decide +kernel
theorem dX7_at_34 : decode cX7_at 34 = .ok (.athrow, 1) := by decide +kernel
theorem dX7_at_35 : decode cX7_at 35 = .ok (.aload 4, 2) := by decide +kernel
theorem dX7_at_37 : decode cX7_at 37 = .ok (.getfield 112, 3) := by decide +kernel
theorem dX7_at_40 : decode cX7_at 40 = .ok (.iload_n 2, 1) := by decide +kernel
theorem dX7_at_41 : decode cX7_at 41 = .ok (.iconst 3, 1) := by decide +kernel
theorem dX7_at_42 : decode cX7_at 42 = .ok (.imul, 1) := by decide +kernel
theorem dX7_at_43 : decode cX7_at 43 = .ok (.iload_n 3, 1) := by decide +kernel
theorem dX7_at_44 : decode cX7_at 44 = .ok (.iadd, 1) := by decide +kernel
theorem dX7_at_45 : decode cX7_at 45 = .ok (.invokestatic 140, 3) := by decide +kernel
theorem dX7_at_48 : decode cX7_at 48 = .ok (.ireturn, 1) := by decide +kernel
theorem dX7_score_0 : decode cX7_score 0 = .ok (.aload_n 0, 1) := by decide +kernel
theorem dX7_score_1 : decode cX7_score 1 = .ok (.iload_n 1, 1) := by decide +kernel
theorem dX7_score_2 : decode cX7_score 2 = .ok (.invokevirtual 101, 3) := by decide +kernel
theorem dX7_score_5 : decode cX7_score 5 = .ok (.getfield 144, 3) := by decide +kernel
theorem dX7_score_8 : decode cX7_score 8 = .ok (.ireturn, 1) := by decide +kernel
theorem dX7_pushes_0 : decode cX7_pushes 0 = .ok (.aload_n 0, 1) := by decide +kernel
theorem dX7_pushes_1 : decode cX7_pushes 1 = .ok (.iload_n 1, 1) := by decide +kernel
theorem dX7_pushes_2 : decode cX7_pushes 2 = .ok (.invokevirtual 101, 3) := by decide +kernel
theorem dX7_pushes_5 : decode cX7_pushes 5 = .ok (.getfield 147, 3) := by decide +kernel
theorem dX7_pushes_8 : decode cX7_pushes 8 = .ok (.ireturn, 1) := by decide +kernel
theorem dX7_canPush_0 : decode cX7_canPush 0 = .ok (.aload_n 0, 1) := by decide +kernel
theorem dX7_canPush_1 : decode cX7_canPush 1 = .ok (.iload_n 1, 1) := by decide +kernel
theorem dX7_canPush_2 : decode cX7_canPush 2 = .ok (.invokevirtual 101, 3) := by decide +kernel
theorem dX7_canPush_5 : decode cX7_canPush 5 = .ok (.astore_n 3, 1) := by decide +kernel
theorem dX7_canPush_6 : decode cX7_canPush 6 = .ok (.iload_n 2, 1) := by decide +kernel
theorem dX7_canPush_7 : decode cX7_canPush 7 = .ok (.invokestatic 105, 3) := by decide +kernel
theorem dX7_canPush_10 : decode cX7_canPush 10 = .ok (.aload_n 3, 1) := by decide +kernel
theorem dX7_canPush_11 : decode cX7_canPush 11 = .ok (.getfield 112, 3) := by decide +kernel
theorem dX7_canPush_14 : decode cX7_canPush 14 = .ok (.iload_n 2, 1) := by decide +kernel
theorem dX7_canPush_15 : decode cX7_canPush 15 = .ok (.invokestatic 115, 3) := by decide +kernel
theorem dX7_canPush_18 : decode cX7_canPush 18 = .ok (.ireturn, 1) := by decide +kernel
theorem dX7_isOver_0 : decode cX7_isOver 0 = .ok (.aload_n 0, 1) := by decide +kernel
theorem dX7_isOver_1 : decode cX7_isOver 1 = .ok (.iload_n 1, 1) := by decide +kernel
theorem dX7_isOver_2 : decode cX7_isOver 2 = .ok (.invokevirtual 101, 3) := by decide +kernel
theorem dX7_isOver_5 : decode cX7_isOver 5 = .ok (.getfield 112, 3) := by decide +kernel
theorem dX7_isOver_8 : decode cX7_isOver 8 = .ok (.invokestatic 150, 3) := by decide +kernel
theorem dX7_isOver_11 : decode cX7_isOver 11 = .ok (.ireturn, 1) := by decide +kernel
theorem dX7_price_0 : decode cX7_price 0 = .ok (.aload_n 0, 1) := by decide +kernel
theorem dX7_price_1 : decode cX7_price 1 = .ok (.iload_n 1, 1) := by decide +kernel
theorem dX7_price_2 : decode cX7_price 2 = .ok (.invokevirtual 101, 3) := by decide +kernel
theorem dX7_price_5 : decode cX7_price 5 = .ok (.astore_n 3, 1) := by decide +kernel
theorem dX7_price_6 : decode cX7_price 6 = .ok (.iload_n 2, 1) := by decide +kernel
theorem dX7_price_7 : decode cX7_price 7 = .ok (.iconst 1, 1) := by decide +kernel
theorem dX7_price_8 : decode cX7_price 8 = .ok (.invokestatic 154, 3) := by decide +kernel
theorem dX7_price_11 : decode cX7_price 11 = .ok (.aload_n 3, 1) := by decide +kernel
theorem dX7_price_12 : decode cX7_price 12 = .ok (.invokestatic 157, 3) := by decide +kernel
theorem dX7_price_15 : decode cX7_price 15 = .ok (.aload_n 0, 1) := by decide +kernel
theorem dX7_price_16 : decode cX7_price 16 = .ok (.aload_n 3, 1) := by decide +kernel
theorem dX7_price_17 : decode cX7_price 17 = .ok (.iload_n 2, 1) := by decide +kernel
theorem dX7_price_18 : decode cX7_price 18 = .ok (.invokevirtual 161, 3) := by decide +kernel
theorem dX7_price_21 : decode cX7_price 21 = .ok (.aload_n 0, 1) := by decide +kernel
theorem dX7_price_22 : decode cX7_price 22 = .ok (.getfield 36, 3) := by decide +kernel
theorem dX7_price_25 : decode cX7_price 25 = .ok (.invokevirtual 165, 3) := by decide +kernel
theorem dX7_price_28 : decode cX7_price 28 = .ok (.ireturn, 1) := by decide +kernel
theorem dX7_hint_0 : decode cX7_hint 0 = .ok (.aload_n 0, 1) := by decide +kernel
theorem dX7_hint_1 : decode cX7_hint 1 = .ok (.iload_n 1, 1) := by decide +kernel
theorem dX7_hint_2 : decode cX7_hint 2 = .ok (.invokevirtual 101, 3) := by decide +kernel
theorem dX7_hint_5 : decode cX7_hint 5 = .ok (.astore_n 3, 1) := by decide +kernel
theorem dX7_hint_6 : decode cX7_hint 6 = .ok (.iload_n 2, 1) := by decide +kernel
theorem dX7_hint_7 : decode cX7_hint 7 = .ok (.iconst 1, 1) := by decide +kernel
theorem dX7_hint_8 : decode cX7_hint 8 = .ok (.invokestatic 154, 3) := by decide +kernel
theorem dX7_hint_11 : decode cX7_hint 11 = .ok (.aload_n 3, 1) := by decide +kernel
theorem dX7_hint_12 : decode cX7_hint 12 = .ok (.invokestatic 157, 3) := by decide +kernel
theorem dX7_hint_15 : decode cX7_hint 15 = .ok (.aload_n 0, 1) := by decide +kernel
theorem dX7_hint_16 : decode cX7_hint 16 = .ok (.aload_n 3, 1) := by decide +kernel
theorem dX7_hint_17 : decode cX7_hint 17 = .ok (.iload_n 2, 1) := by decide +kernel
theorem dX7_hint_18 : decode cX7_hint 18 = .ok (.invokevirtual 161, 3) := by decide +kernel
theorem dX7_hint_21 : decode cX7_hint 21 = .ok (.aload_n 3, 1) := by decide +kernel
theorem dX7_hint_22 : decode cX7_hint 22 = .ok (.getfield 168, 3) := by decide +kernel
theorem dX7_hint_25 : decode cX7_hint 25 = .ok (.getfield 172, 3) := by decide +kernel
theorem dX7_hint_28 : decode cX7_hint 28 = .ok (.aload_n 0, 1) := by decide +kernel
theorem dX7_hint_29 : decode cX7_hint 29 = .ok (.getfield 36, 3) := by decide +kernel
theorem dX7_hint_32 : decode cX7_hint 32 = .ok (.invokevirtual 165, 3) := by decide +kernel
theorem dX7_hint_35 : decode cX7_hint 35 = .ok (.if_icmp .ge 13, 3) := by decide +kernel
theorem dX7_hint_38 : decode cX7_hint 38 = .ok (.new 175, 3) := by decide +kernel
theorem dX7_hint_41 : decode cX7_hint 41 = .ok (.dup, 1) := by decide +kernel
theorem dX7_hint_42 : decode cX7_hint 42 = .ok (.ldc 177, 2) := by decide +kernel
theorem dX7_hint_44 : decode cX7_hint 44 = .ok (.invokespecial 179, 3) := by decide +kernel
theorem dX7_hint_47 : decode cX7_hint 47 = .ok (.athrow, 1) := by decide +kernel
theorem dX7_hint_48 : decode cX7_hint 48 = .ok (.aload_n 0, 1) := by decide +kernel
theorem dX7_hint_49 : decode cX7_hint 49 = .ok (.getfield 19, 3) := by decide +kernel
theorem dX7_hint_52 : decode cX7_hint 52 = .ok (.invokevirtual 70, 3) := by decide +kernel
theorem dX7_hint_55 : decode cX7_hint 55 = .ok (.bipush 60, 2) := by decide +kernel
theorem dX7_hint_57 : decode cX7_hint 57 = .ok (.if_icmp .lt 13, 3) := by decide +kernel
theorem dX7_hint_60 : decode cX7_hint 60 = .ok (.new 74, 3) := by decide +kernel
theorem dX7_hint_63 : decode cX7_hint 63 = .ok (.dup, 1) := by decide +kernel
theorem dX7_hint_64 : decode cX7_hint 64 = .ok (.ldc 180, 2) := by decide +kernel
theorem dX7_hint_66 : decode cX7_hint 66 = .ok (.invokespecial 78, 3) := by decide +kernel
theorem dX7_hint_69 : decode cX7_hint 69 = .ok (.athrow, 1) := by decide +kernel
theorem dX7_hint_70 : decode cX7_hint 70 = .ok (.aload_n 0, 1) := by decide +kernel
theorem dX7_hint_71 : decode cX7_hint 71 = .ok (.aload_n 3, 1) := by decide +kernel
theorem dX7_hint_72 : decode cX7_hint 72 = .ok (.invokevirtual 182, 3) := by decide +kernel
theorem dX7_hint_75 : decode cX7_hint 75 = .ok (.aload_n 0, 1) := by decide +kernel
theorem dX7_hint_76 : decode cX7_hint 76 = .ok (.getfield 36, 3) := by decide +kernel
theorem dX7_hint_79 : decode cX7_hint 79 = .ok (.getfield 185, 3) := by decide +kernel
theorem dX7_hint_82 : decode cX7_hint 82 = .ok (.ireturn, 1) := by decide +kernel
theorem dX7_worth_0 : decode cX7_worth 0 = .ok (.aload_n 0, 1) := by decide +kernel
theorem dX7_worth_1 : decode cX7_worth 1 = .ok (.iload_n 1, 1) := by decide +kernel
theorem dX7_worth_2 : decode cX7_worth 2 = .ok (.invokevirtual 101, 3) := by decide +kernel
theorem dX7_worth_5 : decode cX7_worth 5 = .ok (.astore_n 3, 1) := by decide +kernel
theorem dX7_worth_6 : decode cX7_worth 6 = .ok (.iload_n 2, 1) := by decide +kernel
theorem dX7_worth_7 : decode cX7_worth 7 = .ok (.iconst 0, 1) := by decide +kernel
theorem dX7_worth_8 : decode cX7_worth 8 = .ok (.invokestatic 154, 3) := by decide +kernel
theorem dX7_worth_11 : decode cX7_worth 11 = .ok (.aload_n 0, 1) := by decide +kernel
theorem dX7_worth_12 : decode cX7_worth 12 = .ok (.getfield 40, 3) := by decide +kernel
theorem dX7_worth_15 : decode cX7_worth 15 = .ok (.aload_n 3, 1) := by decide +kernel
theorem dX7_worth_16 : decode cX7_worth 16 = .ok (.getfield 112, 3) := by decide +kernel
theorem dX7_worth_19 : decode cX7_worth 19 = .ok (.aload_n 3, 1) := by decide +kernel
theorem dX7_worth_20 : decode cX7_worth 20 = .ok (.getfield 188, 3) := by decide +kernel
theorem dX7_worth_23 : decode cX7_worth 23 = .ok (.iload_n 2, 1) := by decide +kernel
theorem dX7_worth_24 : decode cX7_worth 24 = .ok (.invokestatic 191, 3) := by decide +kernel
theorem dX7_worth_27 : decode cX7_worth 27 = .ok (.ireturn, 1) := by decide +kernel
theorem dX7_money_0 : decode cX7_money 0 = .ok (.aload_n 0, 1) := by decide +kernel
theorem dX7_money_1 : decode cX7_money 1 = .ok (.iload_n 1, 1) := by decide +kernel
theorem dX7_money_2 : decode cX7_money 2 = .ok (.invokevirtual 88, 3) := by decide +kernel
theorem dX7_money_5 : decode cX7_money 5 = .ok (.getfield 172, 3) := by decide +kernel
theorem dX7_money_8 : decode cX7_money 8 = .ok (.ireturn, 1) := by decide +kernel
theorem dX7_setRoom_0 : decode cX7_setRoom 0 = .ok (.iload_n 1, 1) := by decide +kernel
theorem dX7_setRoom_1 : decode cX7_setRoom 1 = .ok (.iconst 1, 1) := by decide +kernel
theorem dX7_setRoom_2 : decode cX7_setRoom 2 = .ok (.if_icmp .lt 9, 3) := by decide +kernel
theorem dX7_setRoom_5 : decode cX7_setRoom 5 = .ok (.iload_n 1, 1) := by decide +kernel
theorem dX7_setRoom_6 : decode cX7_setRoom 6 = .ok (.bipush 64, 2) := by decide +kernel
theorem dX7_setRoom_8 : decode cX7_setRoom 8 = .ok (.if_icmp .le 13, 3) := by decide +kernel
theorem dX7_setRoom_11 : decode cX7_setRoom 11 = .ok (.new 63, 3) := by decide +kernel
theorem dX7_setRoom_14 : decode cX7_setRoom 14 = .ok (.dup, 1) := by decide +kernel
theorem dX7_setRoom_15 : decode cX7_setRoom 15 = .ok (.ldc 195, 2) := by decide +kernel
theorem dX7_setRoom_17 : decode cX7_setRoom 17 = .ok (.invokespecial 67, 3) := by decide +kernel
theorem dX7_setRoom_20 : decode cX7_setRoom 20 = .ok (.athrow, 1) := by decide +kernel
theorem dX7_setRoom_21 : decode cX7_setRoom 21 = .ok (.aload_n 0, 1) := by decide +kernel
theorem dX7_setRoom_22 : decode cX7_setRoom 22 = .ok (.getfield 27, 3) := by decide +kernel
theorem dX7_setRoom_25 : decode cX7_setRoom 25 = .ok (.invokevirtual 197, 3) := by decide +kernel
theorem dX7_setRoom_28 : decode cX7_setRoom 28 = .ok (.iload_n 1, 1) := by decide +kernel
theorem dX7_setRoom_29 : decode cX7_setRoom 29 = .ok (.if_icmp .le 13, 3) := by decide +kernel
theorem dX7_setRoom_32 : decode cX7_setRoom 32 = .ok (.new 121, 3) := by decide +kernel
theorem dX7_setRoom_35 : decode cX7_setRoom 35 = .ok (.dup, 1) := by decide +kernel
theorem dX7_setRoom_36 : decode cX7_setRoom 36 = .ok (.ldc 200, 2) := by decide +kernel
theorem dX7_setRoom_38 : decode cX7_setRoom 38 = .ok (.invokespecial 125, 3) := by decide +kernel
theorem dX7_setRoom_41 : decode cX7_setRoom 41 = .ok (.athrow, 1) := by decide +kernel
theorem dX7_setRoom_42 : decode cX7_setRoom 42 = .ok (.aload_n 0, 1) := by decide +kernel
theorem dX7_setRoom_43 : decode cX7_setRoom 43 = .ok (.getfield 27, 3) := by decide +kernel
theorem dX7_setRoom_46 : decode cX7_setRoom 46 = .ok (.iload_n 1, 1) := by decide +kernel
theorem dX7_setRoom_47 : decode cX7_setRoom 47 = .ok (.invokevirtual 202, 3) := by decide +kernel
theorem dX7_setRoom_50 : decode cX7_setRoom 50 = .ok (.aload_n 0, 1) := by decide +kernel
theorem dX7_setRoom_51 : decode cX7_setRoom 51 = .ok (.getfield 27, 3) := by decide +kernel
theorem dX7_setRoom_54 : decode cX7_setRoom 54 = .ok (.getfield 205, 3) := by decide +kernel
theorem dX7_setRoom_57 : decode cX7_setRoom 57 = .ok (.ireturn, 1) := by decide +kernel
theorem dX7_entries_0 : decode cX7_entries 0 = .ok (.aload_n 0, 1) := by decide +kernel
theorem dX7_entries_1 : decode cX7_entries 1 = .ok (.getfield 27, 3) := by decide +kernel
theorem dX7_entries_4 : decode cX7_entries 4 = .ok (.getfield 205, 3) := by decide +kernel
theorem dX7_entries_7 : decode cX7_entries 7 = .ok (.ireturn, 1) := by decide +kernel
theorem dX7_isCached_0 : decode cX7_isCached 0 = .ok (.aload_n 0, 1) := by decide +kernel
theorem dX7_isCached_1 : decode cX7_isCached 1 = .ok (.iload_n 1, 1) := by decide +kernel
theorem dX7_isCached_2 : decode cX7_isCached 2 = .ok (.invokevirtual 101, 3) := by decide +kernel
theorem dX7_isCached_5 : decode cX7_isCached 5 = .ok (.astore_n 3, 1) := by decide +kernel
theorem dX7_isCached_6 : decode cX7_isCached 6 = .ok (.iload_n 2, 1) := by decide +kernel
theorem dX7_isCached_7 : decode cX7_isCached 7 = .ok (.iconst 1, 1) := by decide +kernel
theorem dX7_isCached_8 : decode cX7_isCached 8 = .ok (.invokestatic 154, 3) := by decide +kernel
theorem dX7_isCached_11 : decode cX7_isCached 11 = .ok (.aload_n 0, 1) := by decide +kernel
theorem dX7_isCached_12 : decode cX7_isCached 12 = .ok (.getfield 27, 3) := by decide +kernel
theorem dX7_isCached_15 : decode cX7_isCached 15 = .ok (.aload_n 3, 1) := by decide +kernel
theorem dX7_isCached_16 : decode cX7_isCached 16 = .ok (.getfield 112, 3) := by decide +kernel
theorem dX7_isCached_19 : decode cX7_isCached 19 = .ok (.aload_n 3, 1) := by decide +kernel
theorem dX7_isCached_20 : decode cX7_isCached 20 = .ok (.getfield 188, 3) := by decide +kernel
theorem dX7_isCached_23 : decode cX7_isCached 23 = .ok (.iload_n 2, 1) := by decide +kernel
theorem dX7_isCached_24 : decode cX7_isCached 24 = .ok (.invokevirtual 208, 3) := by decide +kernel
theorem dX7_isCached_27 : decode cX7_isCached 27 = .ok (.ifnull 7, 3) := by decide +kernel
theorem dX7_isCached_30 : decode cX7_isCached 30 = .ok (.iconst 1, 1) := by decide +kernel
theorem dX7_isCached_31 : decode cX7_isCached 31 = .ok (.goto 4, 3) := by decide +kernel
theorem dX7_isCached_34 : decode cX7_isCached 34 = .ok (.iconst 0, 1) := by decide +kernel
theorem dX7_isCached_35 : decode cX7_isCached 35 = .ok (.ireturn, 1) := by decide +kernel
theorem dX7_pin_0 : decode cX7_pin 0 = .ok (.aload_n 0, 1) := by decide +kernel
theorem dX7_pin_1 : decode cX7_pin 1 = .ok (.iload_n 1, 1) := by decide +kernel
theorem dX7_pin_2 : decode cX7_pin 2 = .ok (.invokevirtual 101, 3) := by decide +kernel
theorem dX7_pin_5 : decode cX7_pin 5 = .ok (.astore_n 3, 1) := by decide +kernel
theorem dX7_pin_6 : decode cX7_pin 6 = .ok (.iload_n 2, 1) := by decide +kernel
theorem dX7_pin_7 : decode cX7_pin 7 = .ok (.iconst 1, 1) := by decide +kernel
theorem dX7_pin_8 : decode cX7_pin 8 = .ok (.invokestatic 154, 3) := by decide +kernel
theorem dX7_pin_11 : decode cX7_pin 11 = .ok (.aload_n 3, 1) := by decide +kernel
theorem dX7_pin_12 : decode cX7_pin 12 = .ok (.getfield 108, 3) := by decide +kernel
theorem dX7_pin_15 : decode cX7_pin 15 = .ok (.ifCond .eq 13, 3) := by decide +kernel
theorem dX7_pin_18 : decode cX7_pin 18 = .ok (.new 121, 3) := by decide +kernel
theorem dX7_pin_21 : decode cX7_pin 21 = .ok (.dup, 1) := by decide +kernel
theorem dX7_pin_22 : decode cX7_pin 22 = .ok (.ldc 212, 2) := by decide +kernel
theorem dX7_pin_24 : decode cX7_pin 24 = .ok (.invokespecial 125, 3) := by decide +kernel
theorem dX7_pin_27 : decode cX7_pin 27 = .ok (.athrow, 1) := by decide +kernel
theorem dX7_pin_28 : decode cX7_pin 28 = .ok (.aload_n 0, 1) := by decide +kernel
theorem dX7_pin_29 : decode cX7_pin 29 = .ok (.getfield 27, 3) := by decide +kernel
theorem dX7_pin_32 : decode cX7_pin 32 = .ok (.aload_n 3, 1) := by decide +kernel
theorem dX7_pin_33 : decode cX7_pin 33 = .ok (.getfield 112, 3) := by decide +kernel
theorem dX7_pin_36 : decode cX7_pin 36 = .ok (.aload_n 3, 1) := by decide +kernel
theorem dX7_pin_37 : decode cX7_pin 37 = .ok (.getfield 188, 3) := by decide +kernel
theorem dX7_pin_40 : decode cX7_pin 40 = .ok (.iload_n 2, 1) := by decide +kernel
theorem dX7_pin_41 : decode cX7_pin 41 = .ok (.invokevirtual 208, 3) := by decide +kernel
theorem dX7_pin_44 : decode cX7_pin 44 = .ok (.astore 4, 2) := by decide +kernel
theorem dX7_pin_46 : decode cX7_pin 46 = .ok (.aload 4, 2) := by decide +kernel
theorem dX7_pin_48 : decode cX7_pin 48 = .ok (.ifnonnull 13, 3) := by decide +kernel
theorem dX7_pin_51 : decode cX7_pin 51 = .ok (.new 175, 3) := by decide +kernel
theorem dX7_pin_54 : decode cX7_pin 54 = .ok (.dup, 1) := by decide +kernel
theorem dX7_pin_55 : decode cX7_pin 55 = .ok (.ldc 214, 2) := by decide +kernel
theorem dX7_pin_57 : decode cX7_pin 57 = .ok (.invokespecial 179, 3) := by decide +kernel
theorem dX7_pin_60 : decode cX7_pin 60 = .ok (.athrow, 1) := by decide +kernel
theorem dX7_pin_61 : decode cX7_pin 61 = .ok (.aload 4, 2) := by decide +kernel
theorem dX7_pin_63 : decode cX7_pin 63 = .ok (.dup, 1) := by decide +kernel
theorem dX7_pin_64 : decode cX7_pin 64 = .ok (.getfield 216, 3) := by decide +kernel
theorem dX7_pin_67 : decode cX7_pin 67 = .ok (.aload_n 3, 1) := by decide +kernel
theorem dX7_pin_68 : decode cX7_pin 68 = .ok (.getfield 221, 3) := by decide +kernel
theorem dX7_pin_71 : decode cX7_pin 71 = .ok (.ior, 1) := by decide +kernel
theorem dX7_pin_72 : decode cX7_pin 72 = .ok (.putfield 216, 3) := by decide +kernel
theorem dX7_pin_75 : decode cX7_pin 75 = .ok (.aload_n 0, 1) := by decide +kernel
theorem dX7_pin_76 : decode cX7_pin 76 = .ok (.getfield 27, 3) := by decide +kernel
theorem dX7_pin_79 : decode cX7_pin 79 = .ok (.aload_n 3, 1) := by decide +kernel
theorem dX7_pin_80 : decode cX7_pin 80 = .ok (.getfield 221, 3) := by decide +kernel
theorem dX7_pin_83 : decode cX7_pin 83 = .ok (.invokevirtual 224, 3) := by decide +kernel
theorem dX7_pin_86 : decode cX7_pin 86 = .ok (.ireturn, 1) := by decide +kernel
theorem dX7_unpin_0 : decode cX7_unpin 0 = .ok (.aload_n 0, 1) := by decide +kernel
theorem dX7_unpin_1 : decode cX7_unpin 1 = .ok (.iload_n 1, 1) := by decide +kernel
theorem dX7_unpin_2 : decode cX7_unpin 2 = .ok (.invokevirtual 101, 3) := by decide +kernel
theorem dX7_unpin_5 : decode cX7_unpin 5 = .ok (.astore_n 2, 1) := by decide +kernel
theorem dX7_unpin_6 : decode cX7_unpin 6 = .ok (.aload_n 0, 1) := by decide +kernel
theorem dX7_unpin_7 : decode cX7_unpin 7 = .ok (.getfield 27, 3) := by decide +kernel
theorem dX7_unpin_10 : decode cX7_unpin 10 = .ok (.aload_n 2, 1) := by decide +kernel
theorem dX7_unpin_11 : decode cX7_unpin 11 = .ok (.getfield 221, 3) := by decide +kernel
theorem dX7_unpin_14 : decode cX7_unpin 14 = .ok (.invokevirtual 224, 3) := by decide +kernel
theorem dX7_unpin_17 : decode cX7_unpin 17 = .ok (.istore_n 3, 1) := by decide +kernel
theorem dX7_unpin_18 : decode cX7_unpin 18 = .ok (.aload_n 0, 1) := by decide +kernel
theorem dX7_unpin_19 : decode cX7_unpin 19 = .ok (.getfield 27, 3) := by decide +kernel
theorem dX7_unpin_22 : decode cX7_unpin 22 = .ok (.aload_n 2, 1) := by decide +kernel
theorem dX7_unpin_23 : decode cX7_unpin 23 = .ok (.getfield 221, 3) := by decide +kernel
theorem dX7_unpin_26 : decode cX7_unpin 26 = .ok (.invokevirtual 227, 3) := by decide +kernel
theorem dX7_unpin_29 : decode cX7_unpin 29 = .ok (.iload_n 3, 1) := by decide +kernel
theorem dX7_unpin_30 : decode cX7_unpin 30 = .ok (.ireturn, 1) := by decide +kernel
theorem dX7_pinned_0 : decode cX7_pinned 0 = .ok (.aload_n 0, 1) := by decide +kernel
theorem dX7_pinned_1 : decode cX7_pinned 1 = .ok (.getfield 27, 3) := by decide +kernel
theorem dX7_pinned_4 : decode cX7_pinned 4 = .ok (.invokevirtual 197, 3) := by decide +kernel
theorem dX7_pinned_7 : decode cX7_pinned 7 = .ok (.ireturn, 1) := by decide +kernel
theorem dX7_follows_0 : decode cX7_follows 0 = .ok (.aload_n 0, 1) := by decide +kernel
theorem dX7_follows_1 : decode cX7_follows 1 = .ok (.iload_n 1, 1) := by decide +kernel
theorem dX7_follows_2 : decode cX7_follows 2 = .ok (.invokevirtual 101, 3) := by decide +kernel
theorem dX7_follows_5 : decode cX7_follows 5 = .ok (.getfield 230, 3) := by decide +kernel
theorem dX7_follows_8 : decode cX7_follows 8 = .ok (.ireturn, 1) := by decide +kernel
theorem dX7_setLimit_0 : decode cX7_setLimit 0 = .ok (.iload_n 1, 1) := by decide +kernel
theorem dX7_setLimit_1 : decode cX7_setLimit 1 = .ok (.iconst 1, 1) := by decide +kernel
theorem dX7_setLimit_2 : decode cX7_setLimit 2 = .ok (.if_icmp .lt 9, 3) := by decide +kernel
theorem dX7_setLimit_5 : decode cX7_setLimit 5 = .ok (.iload_n 1, 1) := by decide +kernel
theorem dX7_setLimit_6 : decode cX7_setLimit 6 = .ok (.bipush 9, 2) := by decide +kernel
theorem dX7_setLimit_8 : decode cX7_setLimit 8 = .ok (.if_icmp .le 13, 3) := by decide +kernel
theorem dX7_setLimit_11 : decode cX7_setLimit 11 = .ok (.new 63, 3) := by decide +kernel
theorem dX7_setLimit_14 : decode cX7_setLimit 14 = .ok (.dup, 1) := by decide +kernel
theorem dX7_setLimit_15 : decode cX7_setLimit 15 = .ok (.ldc 233, 2) := by decide +kernel
theorem dX7_setLimit_17 : decode cX7_setLimit 17 = .ok (.invokespecial 67, 3) := by decide +kernel
theorem dX7_setLimit_20 : decode cX7_setLimit 20 = .ok (.athrow, 1) := by decide +kernel
theorem dX7_setLimit_21 : decode cX7_setLimit 21 = .ok (.aload_n 0, 1) := by decide +kernel
theorem dX7_setLimit_22 : decode cX7_setLimit 22 = .ok (.getfield 43, 3) := by decide +kernel
theorem dX7_setLimit_25 : decode cX7_setLimit 25 = .ok (.istore_n 2, 1) := by decide +kernel
theorem dX7_setLimit_26 : decode cX7_setLimit 26 = .ok (.aload_n 0, 1) := by decide +kernel
theorem dX7_setLimit_27 : decode cX7_setLimit 27 = .ok (.iload_n 1, 1) := by decide +kernel
theorem dX7_setLimit_28 : decode cX7_setLimit 28 = .ok (.putfield 43, 3) := by decide +kernel
theorem dX7_setLimit_31 : decode cX7_setLimit 31 = .ok (.iload_n 2, 1) := by decide +kernel
theorem dX7_setLimit_32 : decode cX7_setLimit 32 = .ok (.ireturn, 1) := by decide +kernel
theorem dX7_judge_0 : decode cX7_judge 0 = .ok (.aload_n 0, 1) := by decide +kernel
theorem dX7_judge_1 : decode cX7_judge 1 = .ok (.iload_n 1, 1) := by decide +kernel
theorem dX7_judge_2 : decode cX7_judge 2 = .ok (.invokevirtual 101, 3) := by decide +kernel
theorem dX7_judge_5 : decode cX7_judge 5 = .ok (.astore_n 2, 1) := by decide +kernel
theorem dX7_judge_6 : decode cX7_judge 6 = .ok (.aload_n 2, 1) := by decide +kernel
theorem dX7_judge_7 : decode cX7_judge 7 = .ok (.getfield 108, 3) := by decide +kernel
theorem dX7_judge_10 : decode cX7_judge 10 = .ok (.ifCond .eq 13, 3) := by decide +kernel
theorem dX7_judge_13 : decode cX7_judge 13 = .ok (.new 121, 3) := by decide +kernel
theorem dX7_judge_16 : decode cX7_judge 16 = .ok (.dup, 1) := by decide +kernel
theorem dX7_judge_17 : decode cX7_judge 17 = .ok (.ldc 235, 2) := by decide +kernel
theorem dX7_judge_19 : decode cX7_judge 19 = .ok (.invokespecial 125, 3) := by decide +kernel
theorem dX7_judge_22 : decode cX7_judge 22 = .ok (.athrow, 1) := by decide +kernel
theorem dX7_judge_23 : decode cX7_judge 23 = .ok (.aload_n 2, 1) := by decide +kernel
theorem dX7_judge_24 : decode cX7_judge 24 = .ok (.getfield 230, 3) := by decide +kernel
theorem dX7_judge_27 : decode cX7_judge 27 = .ok (.aload_n 0, 1) := by decide +kernel
theorem dX7_judge_28 : decode cX7_judge 28 = .ok (.getfield 43, 3) := by decide +kernel
theorem dX7_judge_31 : decode cX7_judge 31 = .ok (.if_icmp .ge 5, 3) := by decide +kernel
theorem dX7_judge_34 : decode cX7_judge 34 = .ok (.iconst (-1), 1) := by decide +kernel
theorem dX7_judge_35 : decode cX7_judge 35 = .ok (.ireturn, 1) := by decide +kernel
theorem dX7_judge_36 : decode cX7_judge 36 = .ok (.aload_n 2, 1) := by decide +kernel
theorem dX7_judge_37 : decode cX7_judge 37 = .ok (.iconst 1, 1) := by decide +kernel
theorem dX7_judge_38 : decode cX7_judge 38 = .ok (.putfield 108, 3) := by decide +kernel
theorem dX7_judge_41 : decode cX7_judge 41 = .ok (.aload_n 0, 1) := by decide +kernel
theorem dX7_judge_42 : decode cX7_judge 42 = .ok (.getfield 27, 3) := by decide +kernel
theorem dX7_judge_45 : decode cX7_judge 45 = .ok (.aload_n 2, 1) := by decide +kernel
theorem dX7_judge_46 : decode cX7_judge 46 = .ok (.getfield 221, 3) := by decide +kernel
theorem dX7_judge_49 : decode cX7_judge 49 = .ok (.invokevirtual 227, 3) := by decide +kernel
theorem dX7_judge_52 : decode cX7_judge 52 = .ok (.aload_n 2, 1) := by decide +kernel
theorem dX7_judge_53 : decode cX7_judge 53 = .ok (.getfield 168, 3) := by decide +kernel
theorem dX7_judge_56 : decode cX7_judge 56 = .ok (.dup, 1) := by decide +kernel
theorem dX7_judge_57 : decode cX7_judge 57 = .ok (.getfield 172, 3) := by decide +kernel
theorem dX7_judge_60 : decode cX7_judge 60 = .ok (.aload_n 2, 1) := by decide +kernel
theorem dX7_judge_61 : decode cX7_judge 61 = .ok (.getfield 237, 3) := by decide +kernel
theorem dX7_judge_64 : decode cX7_judge 64 = .ok (.iadd, 1) := by decide +kernel
theorem dX7_judge_65 : decode cX7_judge 65 = .ok (.putfield 172, 3) := by decide +kernel
theorem dX7_judge_68 : decode cX7_judge 68 = .ok (.aload_n 0, 1) := by decide +kernel
theorem dX7_judge_69 : decode cX7_judge 69 = .ok (.dup, 1) := by decide +kernel
theorem dX7_judge_70 : decode cX7_judge 70 = .ok (.getfield 47, 3) := by decide +kernel
theorem dX7_judge_73 : decode cX7_judge 73 = .ok (.aload_n 2, 1) := by decide +kernel
theorem dX7_judge_74 : decode cX7_judge 74 = .ok (.getfield 237, 3) := by decide +kernel
theorem dX7_judge_77 : decode cX7_judge 77 = .ok (.i2l, 1) := by decide +kernel
theorem dX7_judge_78 : decode cX7_judge 78 = .ok (.ladd, 1) := by decide +kernel
theorem dX7_judge_79 : decode cX7_judge 79 = .ok (.putfield 47, 3) := by decide +kernel
theorem dX7_judge_82 : decode cX7_judge 82 = .ok (.aload_n 2, 1) := by decide +kernel
theorem dX7_judge_83 : decode cX7_judge 83 = .ok (.getfield 237, 3) := by decide +kernel
theorem dX7_judge_86 : decode cX7_judge 86 = .ok (.ireturn, 1) := by decide +kernel
theorem dX7_isVoid_0 : decode cX7_isVoid 0 = .ok (.aload_n 0, 1) := by decide +kernel
theorem dX7_isVoid_1 : decode cX7_isVoid 1 = .ok (.iload_n 1, 1) := by decide +kernel
theorem dX7_isVoid_2 : decode cX7_isVoid 2 = .ok (.invokevirtual 101, 3) := by decide +kernel
theorem dX7_isVoid_5 : decode cX7_isVoid 5 = .ok (.getfield 108, 3) := by decide +kernel
theorem dX7_isVoid_8 : decode cX7_isVoid 8 = .ok (.ireturn, 1) := by decide +kernel
theorem dX7_traces_0 : decode cX7_traces 0 = .ok (.aload_n 0, 1) := by decide +kernel
theorem dX7_traces_1 : decode cX7_traces 1 = .ok (.getfield 19, 3) := by decide +kernel
theorem dX7_traces_4 : decode cX7_traces 4 = .ok (.invokevirtual 70, 3) := by decide +kernel
theorem dX7_traces_7 : decode cX7_traces 7 = .ok (.ireturn, 1) := by decide +kernel
theorem dX7_playerOf_0 : decode cX7_playerOf 0 = .ok (.aload_n 0, 1) := by decide +kernel
theorem dX7_playerOf_1 : decode cX7_playerOf 1 = .ok (.iload_n 1, 1) := by decide +kernel
theorem dX7_playerOf_2 : decode cX7_playerOf 2 = .ok (.invokevirtual 240, 3) := by decide +kernel
theorem dX7_playerOf_5 : decode cX7_playerOf 5 = .ok (.getfield 244, 3) := by decide +kernel
theorem dX7_playerOf_8 : decode cX7_playerOf 8 = .ok (.ireturn, 1) := by decide +kernel
theorem dX7_pushOf_0 : decode cX7_pushOf 0 = .ok (.aload_n 0, 1) := by decide +kernel
theorem dX7_pushOf_1 : decode cX7_pushOf 1 = .ok (.iload_n 1, 1) := by decide +kernel
theorem dX7_pushOf_2 : decode cX7_pushOf 2 = .ok (.invokevirtual 240, 3) := by decide +kernel
theorem dX7_pushOf_5 : decode cX7_pushOf 5 = .ok (.getfield 249, 3) := by decide +kernel
theorem dX7_pushOf_8 : decode cX7_pushOf 8 = .ok (.ireturn, 1) := by decide +kernel
theorem dX7_refunds_0 : decode cX7_refunds 0 = .ok (.aload_n 0, 1) := by decide +kernel
theorem dX7_refunds_1 : decode cX7_refunds 1 = .ok (.getfield 47, 3) := by decide +kernel
theorem dX7_refunds_4 : decode cX7_refunds 4 = .ok (.lreturn, 1) := by decide +kernel
theorem dX7_hitShare_0 : decode cX7_hitShare 0 = .ok (.aload_n 0, 1) := by decide +kernel
theorem dX7_hitShare_1 : decode cX7_hitShare 1 = .ok (.getfield 57, 3) := by decide +kernel
theorem dX7_hitShare_4 : decode cX7_hitShare 4 = .ok (.aload_n 0, 1) := by decide +kernel
theorem dX7_hitShare_5 : decode cX7_hitShare 5 = .ok (.getfield 60, 3) := by decide +kernel
theorem dX7_hitShare_8 : decode cX7_hitShare 8 = .ok (.ladd, 1) := by decide +kernel
theorem dX7_hitShare_9 : decode cX7_hitShare 9 = .ok (.lstore_n 1, 1) := by decide +kernel
theorem dX7_hitShare_10 : decode cX7_hitShare 10 = .ok (.lload_n 1, 1) := by decide +kernel
theorem dX7_hitShare_11 : decode cX7_hitShare 11 = .ok (.lconst 0, 1) := by decide +kernel
theorem dX7_hitShare_12 : decode cX7_hitShare 12 = .ok (.lcmp, 1) := by decide +kernel
theorem dX7_hitShare_13 : decode cX7_hitShare 13 = .ok (.ifCond .ne 13, 3) := by decide +kernel
theorem dX7_hitShare_16 : decode cX7_hitShare 16 = .ok (.new 250, 3) := by decide +kernel
theorem dX7_hitShare_19 : decode cX7_hitShare 19 = .ok (.dup, 1) := by decide +kernel
theorem dX7_hitShare_20 : decode cX7_hitShare 20 = .ok (.ldc 252, 2) := by decide +kernel
theorem dX7_hitShare_22 : decode cX7_hitShare 22 = .ok (.invokespecial 254, 3) := by decide +kernel
theorem dX7_hitShare_25 : decode cX7_hitShare 25 = .ok (.athrow, 1) := by decide +kernel
theorem dX7_hitShare_26 : decode cX7_hitShare 26 = .ok (.aload_n 0, 1) := by decide +kernel
theorem dX7_hitShare_27 : decode cX7_hitShare 27 = .ok (.getfield 57, 3) := by decide +kernel
theorem dX7_hitShare_30 : decode cX7_hitShare 30 = .ok (.l2f, 1) := by decide +kernel
theorem dX7_hitShare_31 : decode cX7_hitShare 31 = .ok (.lload_n 1, 1) := by decide +kernel
theorem dX7_hitShare_32 : decode cX7_hitShare 32 = .ok (.l2f, 1) := by decide +kernel
theorem dX7_hitShare_33 : decode cX7_hitShare 33 = .ok (.fdiv, 1) := by decide +kernel
theorem dX7_hitShare_34 : decode cX7_hitShare 34 = .ok (.freturn, 1) := by decide +kernel
theorem dX7_meanPrice_0 : decode cX7_meanPrice 0 = .ok (.aload_n 0, 1) := by decide +kernel
theorem dX7_meanPrice_1 : decode cX7_meanPrice 1 = .ok (.getfield 51, 3) := by decide +kernel
theorem dX7_meanPrice_4 : decode cX7_meanPrice 4 = .ok (.lconst 0, 1) := by decide +kernel
theorem dX7_meanPrice_5 : decode cX7_meanPrice 5 = .ok (.lcmp, 1) := by decide +kernel
theorem dX7_meanPrice_6 : decode cX7_meanPrice 6 = .ok (.ifCond .ne 13, 3) := by decide +kernel
theorem dX7_meanPrice_9 : decode cX7_meanPrice 9 = .ok (.new 250, 3) := by decide +kernel
theorem dX7_meanPrice_12 : decode cX7_meanPrice 12 = .ok (.dup, 1) := by decide +kernel
theorem dX7_meanPrice_13 : decode cX7_meanPrice 13 = .ok (.ldc 255, 2) := by decide +kernel
theorem dX7_meanPrice_15 : decode cX7_meanPrice 15 = .ok (.invokespecial 254, 3) := by decide +kernel
theorem dX7_meanPrice_18 : decode cX7_meanPrice 18 = .ok (.athrow, 1) := by decide +kernel
theorem dX7_meanPrice_19 : decode cX7_meanPrice 19 = .ok (.aload_n 0, 1) := by decide +kernel
theorem dX7_meanPrice_20 : decode cX7_meanPrice 20 = .ok (.getfield 54, 3) := by decide +kernel
theorem dX7_meanPrice_23 : decode cX7_meanPrice 23 = .ok (.l2d, 1) := by decide +kernel
theorem dX7_meanPrice_24 : decode cX7_meanPrice 24 = .ok (.aload_n 0, 1) := by decide +kernel
theorem dX7_meanPrice_25 : decode cX7_meanPrice 25 = .ok (.getfield 51, 3) := by decide +kernel
theorem dX7_meanPrice_28 : decode cX7_meanPrice 28 = .ok (.l2d, 1) := by decide +kernel
theorem dX7_meanPrice_29 : decode cX7_meanPrice 29 = .ok (.ddiv, 1) := by decide +kernel
theorem dX7_meanPrice_30 : decode cX7_meanPrice 30 = .ok (.dreturn, 1) := by decide +kernel
theorem dX7_isSound_0 : decode cX7_isSound 0 = .ok (.aload_n 0, 1) := by decide +kernel
theorem dX7_isSound_1 : decode cX7_isSound 1 = .ok (.invokevirtual 257, 3) := by decide +kernel
theorem dX7_isSound_4 : decode cX7_isSound 4 = .ok (.ifCond .eq 21, 3) := by decide +kernel
theorem dX7_isSound_7 : decode cX7_isSound 7 = .ok (.aload_n 0, 1) := by decide +kernel
theorem dX7_isSound_8 : decode cX7_isSound 8 = .ok (.invokevirtual 261, 3) := by decide +kernel
theorem dX7_isSound_11 : decode cX7_isSound 11 = .ok (.ifCond .eq 14, 3) := by decide +kernel
theorem dX7_isSound_14 : decode cX7_isSound 14 = .ok (.aload_n 0, 1) := by decide +kernel
theorem dX7_isSound_15 : decode cX7_isSound 15 = .ok (.invokevirtual 264, 3) := by decide +kernel
theorem dX7_isSound_18 : decode cX7_isSound 18 = .ok (.ifCond .eq 7, 3) := by decide +kernel
theorem dX7_isSound_21 : decode cX7_isSound 21 = .ok (.iconst 1, 1) := by decide +kernel
theorem dX7_isSound_22 : decode cX7_isSound 22 = .ok (.goto 4, 3) := by decide +kernel
theorem dX7_isSound_25 : decode cX7_isSound 25 = .ok (.iconst 0, 1) := by decide +kernel
theorem dX7_isSound_26 : decode cX7_isSound 26 = .ok (.ireturn, 1) := by decide +kernel
theorem dX7_findPlayer_0 : decode cX7_findPlayer 0 = .ok (.iload_n 1, 1) := by decide +kernel
theorem dX7_findPlayer_1 : decode cX7_findPlayer 1 = .ok (.ifCond .lt 14, 3) := by decide +kernel
theorem dX7_findPlayer_4 : decode cX7_findPlayer 4 = .ok (.iload_n 1, 1) := by decide +kernel
theorem dX7_findPlayer_5 : decode cX7_findPlayer 5 = .ok (.aload_n 0, 1) := by decide +kernel
theorem dX7_findPlayer_6 : decode cX7_findPlayer 6 = .ok (.getfield 10, 3) := by decide +kernel
theorem dX7_findPlayer_9 : decode cX7_findPlayer 9 = .ok (.invokevirtual 70, 3) := by decide +kernel
theorem dX7_findPlayer_12 : decode cX7_findPlayer 12 = .ok (.if_icmp .lt 14, 3) := by decide +kernel
theorem dX7_findPlayer_15 : decode cX7_findPlayer 15 = .ok (.new 267, 3) := by decide +kernel
theorem dX7_findPlayer_18 : decode cX7_findPlayer 18 = .ok (.dup, 1) := by decide +kernel
theorem dX7_findPlayer_19 : decode cX7_findPlayer 19 = .ok (.ldc_w 269, 3) := by decide +kernel
theorem dX7_findPlayer_22 : decode cX7_findPlayer 22 = .ok (.invokespecial 271, 3) := by decide +kernel
theorem dX7_findPlayer_25 : decode cX7_findPlayer 25 = .ok (.athrow, 1) := by decide +kernel
theorem dX7_findPlayer_26 : decode cX7_findPlayer 26 = .ok (.aload_n 0, 1) := by decide +kernel
theorem dX7_findPlayer_27 : decode cX7_findPlayer 27 = .ok (.getfield 10, 3) := by decide +kernel
theorem dX7_findPlayer_30 : decode cX7_findPlayer 30 = .ok (.iload_n 1, 1) := by decide +kernel
theorem dX7_findPlayer_31 : decode cX7_findPlayer 31 = .ok (.invokevirtual 272, 3) := by decide +kernel
theorem dX7_findPlayer_34 : decode cX7_findPlayer 34 = .ok (.checkcast 79, 3) := by decide +kernel
theorem dX7_findPlayer_37 : decode cX7_findPlayer 37 = .ok (.areturn, 1) := by decide +kernel
theorem dX7_findGame_0 : decode cX7_findGame 0 = .ok (.iload_n 1, 1) := by decide +kernel
theorem dX7_findGame_1 : decode cX7_findGame 1 = .ok (.ifCond .lt 14, 3) := by decide +kernel
theorem dX7_findGame_4 : decode cX7_findGame 4 = .ok (.iload_n 1, 1) := by decide +kernel
theorem dX7_findGame_5 : decode cX7_findGame 5 = .ok (.aload_n 0, 1) := by decide +kernel
theorem dX7_findGame_6 : decode cX7_findGame 6 = .ok (.getfield 16, 3) := by decide +kernel
theorem dX7_findGame_9 : decode cX7_findGame 9 = .ok (.invokevirtual 70, 3) := by decide +kernel
theorem dX7_findGame_12 : decode cX7_findGame 12 = .ok (.if_icmp .lt 14, 3) := by decide +kernel
theorem dX7_findGame_15 : decode cX7_findGame 15 = .ok (.new 267, 3) := by decide +kernel
theorem dX7_findGame_18 : decode cX7_findGame 18 = .ok (.dup, 1) := by decide +kernel
theorem dX7_findGame_19 : decode cX7_findGame 19 = .ok (.ldc_w 276, 3) := by decide +kernel
theorem dX7_findGame_22 : decode cX7_findGame 22 = .ok (.invokespecial 271, 3) := by decide +kernel
theorem dX7_findGame_25 : decode cX7_findGame 25 = .ok (.athrow, 1) := by decide +kernel
theorem dX7_findGame_26 : decode cX7_findGame 26 = .ok (.aload_n 0, 1) := by decide +kernel
theorem dX7_findGame_27 : decode cX7_findGame 27 = .ok (.getfield 16, 3) := by decide +kernel
theorem dX7_findGame_30 : decode cX7_findGame 30 = .ok (.iload_n 1, 1) := by decide +kernel
theorem dX7_findGame_31 : decode cX7_findGame 31 = .ok (.invokevirtual 272, 3) := by decide +kernel
theorem dX7_findGame_34 : decode cX7_findGame 34 = .ok (.checkcast 96, 3) := by decide +kernel
theorem dX7_findGame_37 : decode cX7_findGame 37 = .ok (.areturn, 1) := by decide +kernel
theorem dX7_findTrace_0 : decode cX7_findTrace 0 = .ok (.iload_n 1, 1) := by decide +kernel
theorem dX7_findTrace_1 : decode cX7_findTrace 1 = .ok (.ifCond .lt 14, 3) := by decide +kernel
theorem dX7_findTrace_4 : decode cX7_findTrace 4 = .ok (.iload_n 1, 1) := by decide +kernel
theorem dX7_findTrace_5 : decode cX7_findTrace 5 = .ok (.aload_n 0, 1) := by decide +kernel
theorem dX7_findTrace_6 : decode cX7_findTrace 6 = .ok (.getfield 19, 3) := by decide +kernel
theorem dX7_findTrace_9 : decode cX7_findTrace 9 = .ok (.invokevirtual 70, 3) := by decide +kernel
theorem dX7_findTrace_12 : decode cX7_findTrace 12 = .ok (.if_icmp .lt 14, 3) := by decide +kernel
theorem dX7_findTrace_15 : decode cX7_findTrace 15 = .ok (.new 267, 3) := by decide +kernel
theorem dX7_findTrace_18 : decode cX7_findTrace 18 = .ok (.dup, 1) := by decide +kernel
theorem dX7_findTrace_19 : decode cX7_findTrace 19 = .ok (.ldc_w 278, 3) := by decide +kernel
theorem dX7_findTrace_22 : decode cX7_findTrace 22 = .ok (.invokespecial 271, 3) := by decide +kernel
theorem dX7_findTrace_25 : decode cX7_findTrace 25 = .ok (.athrow, 1) := by decide +kernel
theorem dX7_findTrace_26 : decode cX7_findTrace 26 = .ok (.aload_n 0, 1) := by decide +kernel
theorem dX7_findTrace_27 : decode cX7_findTrace 27 = .ok (.getfield 19, 3) := by decide +kernel
theorem dX7_findTrace_30 : decode cX7_findTrace 30 = .ok (.iload_n 1, 1) := by decide +kernel
theorem dX7_findTrace_31 : decode cX7_findTrace 31 = .ok (.invokevirtual 272, 3) := by decide +kernel
theorem dX7_findTrace_34 : decode cX7_findTrace 34 = .ok (.checkcast 245, 3) := by decide +kernel
theorem dX7_findTrace_37 : decode cX7_findTrace 37 = .ok (.areturn, 1) := by decide +kernel
theorem dX7_checkWay_0 : decode cX7_checkWay 0 = .ok (.iload_n 0, 1) := by decide +kernel
theorem dX7_checkWay_1 : decode cX7_checkWay 1 = .ok (.ifCond .lt 8, 3) := by decide +kernel
theorem dX7_checkWay_4 : decode cX7_checkWay 4 = .ok (.iload_n 0, 1) := by decide +kernel
theorem dX7_checkWay_5 : decode cX7_checkWay 5 = .ok (.iconst 4, 1) := by decide +kernel
theorem dX7_checkWay_6 : decode cX7_checkWay 6 = .ok (.if_icmp .lt 14, 3) := by decide +kernel
theorem dX7_checkWay_9 : decode cX7_checkWay 9 = .ok (.new 63, 3) := by decide +kernel
theorem dX7_checkWay_12 : decode cX7_checkWay 12 = .ok (.dup, 1) := by decide +kernel
theorem dX7_checkWay_13 : decode cX7_checkWay 13 = .ok (.ldc_w 280, 3) := by decide +kernel
theorem dX7_checkWay_16 : decode cX7_checkWay 16 = .ok (.invokespecial 67, 3) := by decide +kernel
theorem dX7_checkWay_19 : decode cX7_checkWay 19 = .ok (.athrow, 1) := by decide +kernel
theorem dX7_checkWay_20 : decode cX7_checkWay 20 = .ok (.return_, 1) := by decide +kernel
theorem dX7_checkDepth_0 : decode cX7_checkDepth 0 = .ok (.iload_n 0, 1) := by decide +kernel
theorem dX7_checkDepth_1 : decode cX7_checkDepth 1 = .ok (.iload_n 1, 1) := by decide +kernel
theorem dX7_checkDepth_2 : decode cX7_checkDepth 2 = .ok (.if_icmp .lt 8, 3) := by decide +kernel
theorem dX7_checkDepth_5 : decode cX7_checkDepth 5 = .ok (.iload_n 0, 1) := by decide +kernel
theorem dX7_checkDepth_6 : decode cX7_checkDepth 6 = .ok (.iconst 4, 1) := by decide +kernel
theorem dX7_checkDepth_7 : decode cX7_checkDepth 7 = .ok (.if_icmp .le 14, 3) := by decide +kernel
theorem dX7_checkDepth_10 : decode cX7_checkDepth 10 = .ok (.new 63, 3) := by decide +kernel
theorem dX7_checkDepth_13 : decode cX7_checkDepth 13 = .ok (.dup, 1) := by decide +kernel
theorem dX7_checkDepth_14 : decode cX7_checkDepth 14 = .ok (.ldc_w 282, 3) := by decide +kernel
theorem dX7_checkDepth_17 : decode cX7_checkDepth 17 = .ok (.invokespecial 67, 3) := by decide +kernel
theorem dX7_checkDepth_20 : decode cX7_checkDepth 20 = .ok (.athrow, 1) := by decide +kernel
theorem dX7_checkDepth_21 : decode cX7_checkDepth 21 = .ok (.return_, 1) := by decide +kernel
theorem dX7_checkHintable_0 : decode cX7_checkHintable 0 = .ok (.aload_n 0, 1) := by decide +kernel
theorem dX7_checkHintable_1 : decode cX7_checkHintable 1 = .ok (.getfield 108, 3) := by decide +kernel
theorem dX7_checkHintable_4 : decode cX7_checkHintable 4 = .ok (.ifCond .ne 13, 3) := by decide +kernel
theorem dX7_checkHintable_7 : decode cX7_checkHintable 7 = .ok (.aload_n 0, 1) := by decide +kernel
theorem dX7_checkHintable_8 : decode cX7_checkHintable 8 = .ok (.getfield 112, 3) := by decide +kernel
theorem dX7_checkHintable_11 : decode cX7_checkHintable 11 = .ok (.invokestatic 150, 3) := by decide +kernel
theorem dX7_checkHintable_14 : decode cX7_checkHintable 14 = .ok (.ifCond .eq 14, 3) := by decide +kernel
theorem dX7_checkHintable_17 : decode cX7_checkHintable 17 = .ok (.new 121, 3) := by decide +kernel
theorem dX7_checkHintable_20 : decode cX7_checkHintable 20 = .ok (.dup, 1) := by decide +kernel
theorem dX7_checkHintable_21 : decode cX7_checkHintable 21 = .ok (.ldc_w 284, 3) := by decide +kernel
theorem dX7_checkHintable_24 : decode cX7_checkHintable 24 = .ok (.invokespecial 125, 3) := by decide +kernel
theorem dX7_checkHintable_27 : decode cX7_checkHintable 27 = .ok (.athrow, 1) := by decide +kernel
theorem dX7_checkHintable_28 : decode cX7_checkHintable 28 = .ok (.return_, 1) := by decide +kernel
theorem dX7_tryHint_0 : decode cX7_tryHint 0 = .ok (.aload_n 0, 1) := by decide +kernel
theorem dX7_tryHint_1 : decode cX7_tryHint 1 = .ok (.getfield 36, 3) := by decide +kernel
theorem dX7_tryHint_4 : decode cX7_tryHint 4 = .ok (.getfield 286, 3) := by decide +kernel
theorem dX7_tryHint_7 : decode cX7_tryHint 7 = .ok (.aload_n 0, 1) := by decide +kernel
theorem dX7_tryHint_8 : decode cX7_tryHint 8 = .ok (.getfield 27, 3) := by decide +kernel
theorem dX7_tryHint_11 : decode cX7_tryHint 11 = .ok (.invokevirtual 287, 3) := by decide +kernel
theorem dX7_tryHint_14 : decode cX7_tryHint 14 = .ok (.aload_n 0, 1) := by decide +kernel
theorem dX7_tryHint_15 : decode cX7_tryHint 15 = .ok (.getfield 36, 3) := by decide +kernel
theorem dX7_tryHint_18 : decode cX7_tryHint 18 = .ok (.invokevirtual 290, 3) := by decide +kernel
theorem dX7_tryHint_21 : decode cX7_tryHint 21 = .ok (.aload_n 0, 1) := by decide +kernel
theorem dX7_tryHint_22 : decode cX7_tryHint 22 = .ok (.getfield 36, 3) := by decide +kernel
theorem dX7_tryHint_25 : decode cX7_tryHint 25 = .ok (.aload_n 1, 1) := by decide +kernel
theorem dX7_tryHint_26 : decode cX7_tryHint 26 = .ok (.getfield 112, 3) := by decide +kernel
theorem dX7_tryHint_29 : decode cX7_tryHint 29 = .ok (.aload_n 1, 1) := by decide +kernel
theorem dX7_tryHint_30 : decode cX7_tryHint 30 = .ok (.getfield 188, 3) := by decide +kernel
theorem dX7_tryHint_33 : decode cX7_tryHint 33 = .ok (.iload_n 2, 1) := by decide +kernel
theorem dX7_tryHint_34 : decode cX7_tryHint 34 = .ok (.invokestatic 191, 3) := by decide +kernel
theorem dX7_tryHint_37 : decode cX7_tryHint 37 = .ok (.pop, 1) := by decide +kernel
theorem dX7_tryHint_38 : decode cX7_tryHint 38 = .ok (.return_, 1) := by decide +kernel
theorem dX7_sellTriedHint_0 : decode cX7_sellTriedHint 0 = .ok (.aload_n 0, 1) := by decide +kernel
theorem dX7_sellTriedHint_1 : decode cX7_sellTriedHint 1 = .ok (.getfield 36, 3) := by decide +kernel
theorem dX7_sellTriedHint_4 : decode cX7_sellTriedHint 4 = .ok (.invokevirtual 165, 3) := by decide +kernel
theorem dX7_sellTriedHint_7 : decode cX7_sellTriedHint 7 = .ok (.istore_n 2, 1) := by decide +kernel
theorem dX7_sellTriedHint_8 : decode cX7_sellTriedHint 8 = .ok (.aload_n 0, 1) := by decide +kernel
theorem dX7_sellTriedHint_9 : decode cX7_sellTriedHint 9 = .ok (.getfield 27, 3) := by decide +kernel
theorem dX7_sellTriedHint_12 : decode cX7_sellTriedHint 12 = .ok (.aload_n 0, 1) := by decide +kernel
theorem dX7_sellTriedHint_13 : decode cX7_sellTriedHint 13 = .ok (.getfield 36, 3) := by decide +kernel
theorem dX7_sellTriedHint_16 : decode cX7_sellTriedHint 16 = .ok (.getfield 286, 3) := by decide +kernel
theorem dX7_sellTriedHint_19 : decode cX7_sellTriedHint 19 = .ok (.invokevirtual 287, 3) := by decide +kernel
theorem dX7_sellTriedHint_22 : decode cX7_sellTriedHint 22 = .ok (.aload_n 1, 1) := by decide +kernel
theorem dX7_sellTriedHint_23 : decode cX7_sellTriedHint 23 = .ok (.getfield 168, 3) := by decide +kernel
theorem dX7_sellTriedHint_26 : decode cX7_sellTriedHint 26 = .ok (.dup, 1) := by decide +kernel
theorem dX7_sellTriedHint_27 : decode cX7_sellTriedHint 27 = .ok (.getfield 172, 3) := by decide +kernel
theorem dX7_sellTriedHint_30 : decode cX7_sellTriedHint 30 = .ok (.iload_n 2, 1) := by decide +kernel
theorem dX7_sellTriedHint_31 : decode cX7_sellTriedHint 31 = .ok (.isub, 1) := by decide +kernel
theorem dX7_sellTriedHint_32 : decode cX7_sellTriedHint 32 = .ok (.putfield 172, 3) := by decide +kernel
theorem dX7_sellTriedHint_35 : decode cX7_sellTriedHint 35 = .ok (.aload_n 1, 1) := by decide +kernel
theorem dX7_sellTriedHint_36 : decode cX7_sellTriedHint 36 = .ok (.dup, 1) := by decide +kernel
theorem dX7_sellTriedHint_37 : decode cX7_sellTriedHint 37 = .ok (.getfield 237, 3) := by decide +kernel
theorem dX7_sellTriedHint_40 : decode cX7_sellTriedHint 40 = .ok (.iload_n 2, 1) := by decide +kernel
theorem dX7_sellTriedHint_41 : decode cX7_sellTriedHint 41 = .ok (.iadd, 1) := by decide +kernel
theorem dX7_sellTriedHint_42 : decode cX7_sellTriedHint 42 = .ok (.putfield 237, 3) := by decide +kernel
theorem dX7_sellTriedHint_45 : decode cX7_sellTriedHint 45 = .ok (.aload_n 0, 1) := by decide +kernel
theorem dX7_sellTriedHint_46 : decode cX7_sellTriedHint 46 = .ok (.getfield 19, 3) := by decide +kernel
theorem dX7_sellTriedHint_49 : decode cX7_sellTriedHint 49 = .ok (.new 245, 3) := by decide +kernel
theorem dX7_sellTriedHint_52 : decode cX7_sellTriedHint 52 = .ok (.dup, 1) := by decide +kernel
theorem dX7_sellTriedHint_53 : decode cX7_sellTriedHint 53 = .ok (.aload_n 1, 1) := by decide +kernel
theorem dX7_sellTriedHint_54 : decode cX7_sellTriedHint 54 = .ok (.aload_n 0, 1) := by decide +kernel
theorem dX7_sellTriedHint_55 : decode cX7_sellTriedHint 55 = .ok (.getfield 36, 3) := by decide +kernel
theorem dX7_sellTriedHint_58 : decode cX7_sellTriedHint 58 = .ok (.getfield 185, 3) := by decide +kernel
theorem dX7_sellTriedHint_61 : decode cX7_sellTriedHint 61 = .ok (.invokespecial 293, 3) := by decide +kernel
theorem dX7_sellTriedHint_64 : decode cX7_sellTriedHint 64 = .ok (.invokevirtual 84, 3) := by decide +kernel
theorem dX7_sellTriedHint_67 : decode cX7_sellTriedHint 67 = .ok (.pop, 1) := by decide +kernel
theorem dX7_sellTriedHint_68 : decode cX7_sellTriedHint 68 = .ok (.aload_n 0, 1) := by decide +kernel
theorem dX7_sellTriedHint_69 : decode cX7_sellTriedHint 69 = .ok (.dup, 1) := by decide +kernel
theorem dX7_sellTriedHint_70 : decode cX7_sellTriedHint 70 = .ok (.getfield 51, 3) := by decide +kernel
theorem dX7_sellTriedHint_73 : decode cX7_sellTriedHint 73 = .ok (.lconst 1, 1) := by decide +kernel
theorem dX7_sellTriedHint_74 : decode cX7_sellTriedHint 74 = .ok (.ladd, 1) := by decide +kernel
theorem dX7_sellTriedHint_75 : decode cX7_sellTriedHint 75 = .ok (.putfield 51, 3) := by decide +kernel
theorem dX7_sellTriedHint_78 : decode cX7_sellTriedHint 78 = .ok (.aload_n 0, 1) := by decide +kernel
theorem dX7_sellTriedHint_79 : decode cX7_sellTriedHint 79 = .ok (.dup, 1) := by decide +kernel
theorem dX7_sellTriedHint_80 : decode cX7_sellTriedHint 80 = .ok (.getfield 54, 3) := by decide +kernel
theorem dX7_sellTriedHint_83 : decode cX7_sellTriedHint 83 = .ok (.iload_n 2, 1) := by decide +kernel
theorem dX7_sellTriedHint_84 : decode cX7_sellTriedHint 84 = .ok (.i2l, 1) := by decide +kernel
theorem dX7_sellTriedHint_85 : decode cX7_sellTriedHint 85 = .ok (.ladd, 1) := by decide +kernel
theorem dX7_sellTriedHint_86 : decode cX7_sellTriedHint 86 = .ok (.putfield 54, 3) := by decide +kernel
theorem dX7_sellTriedHint_89 : decode cX7_sellTriedHint 89 = .ok (.aload_n 0, 1) := by decide +kernel
theorem dX7_sellTriedHint_90 : decode cX7_sellTriedHint 90 = .ok (.dup, 1) := by decide +kernel
theorem dX7_sellTriedHint_91 : decode cX7_sellTriedHint 91 = .ok (.getfield 57, 3) := by decide +kernel
theorem dX7_sellTriedHint_94 : decode cX7_sellTriedHint 94 = .ok (.aload_n 0, 1) := by decide +kernel
theorem dX7_sellTriedHint_95 : decode cX7_sellTriedHint 95 = .ok (.getfield 36, 3) := by decide +kernel
theorem dX7_sellTriedHint_98 : decode cX7_sellTriedHint 98 = .ok (.getfield 295, 3) := by decide +kernel
theorem dX7_sellTriedHint_101 : decode cX7_sellTriedHint 101 = .ok (.i2l, 1) := by decide +kernel
theorem dX7_sellTriedHint_102 : decode cX7_sellTriedHint 102 = .ok (.ladd, 1) := by decide +kernel
theorem dX7_sellTriedHint_103 : decode cX7_sellTriedHint 103 = .ok (.putfield 57, 3) := by decide +kernel
theorem dX7_sellTriedHint_106 : decode cX7_sellTriedHint 106 = .ok (.aload_n 0, 1) := by decide +kernel
theorem dX7_sellTriedHint_107 : decode cX7_sellTriedHint 107 = .ok (.dup, 1) := by decide +kernel
theorem dX7_sellTriedHint_108 : decode cX7_sellTriedHint 108 = .ok (.getfield 60, 3) := by decide +kernel
theorem dX7_sellTriedHint_111 : decode cX7_sellTriedHint 111 = .ok (.aload_n 0, 1) := by decide +kernel
theorem dX7_sellTriedHint_112 : decode cX7_sellTriedHint 112 = .ok (.getfield 36, 3) := by decide +kernel
theorem dX7_sellTriedHint_115 : decode cX7_sellTriedHint 115 = .ok (.getfield 298, 3) := by decide +kernel
theorem dX7_sellTriedHint_118 : decode cX7_sellTriedHint 118 = .ok (.i2l, 1) := by decide +kernel
theorem dX7_sellTriedHint_119 : decode cX7_sellTriedHint 119 = .ok (.ladd, 1) := by decide +kernel
theorem dX7_sellTriedHint_120 : decode cX7_sellTriedHint 120 = .ok (.putfield 60, 3) := by decide +kernel
theorem dX7_sellTriedHint_123 : decode cX7_sellTriedHint 123 = .ok (.return_, 1) := by decide +kernel
theorem dX7_look_0 : decode cX7_look 0 = .ok (.iload 4, 2) := by decide +kernel
theorem dX7_look_2 : decode cX7_look 2 = .ok (.ifCond .gt 5, 3) := by decide +kernel
theorem dX7_look_5 : decode cX7_look 5 = .ok (.iconst 0, 1) := by decide +kernel
theorem dX7_look_6 : decode cX7_look 6 = .ok (.ireturn, 1) := by decide +kernel
theorem dX7_look_7 : decode cX7_look 7 = .ok (.aload_n 0, 1) := by decide +kernel
theorem dX7_look_8 : decode cX7_look 8 = .ok (.getfield 286, 3) := by decide +kernel
theorem dX7_look_11 : decode cX7_look 11 = .ok (.lload_n 1, 1) := by decide +kernel
theorem dX7_look_12 : decode cX7_look 12 = .ok (.iload_n 3, 1) := by decide +kernel
theorem dX7_look_13 : decode cX7_look 13 = .ok (.iload 4, 2) := by decide +kernel
theorem dX7_look_15 : decode cX7_look 15 = .ok (.invokevirtual 208, 3) := by decide +kernel
theorem dX7_look_18 : decode cX7_look 18 = .ok (.astore 5, 2) := by decide +kernel
theorem dX7_look_20 : decode cX7_look 20 = .ok (.aload 5, 2) := by decide +kernel
theorem dX7_look_22 : decode cX7_look 22 = .ok (.ifnull 37, 3) := by decide +kernel
theorem dX7_look_25 : decode cX7_look 25 = .ok (.aload_n 0, 1) := by decide +kernel
theorem dX7_look_26 : decode cX7_look 26 = .ok (.getfield 286, 3) := by decide +kernel
theorem dX7_look_29 : decode cX7_look 29 = .ok (.aload 5, 2) := by decide +kernel
theorem dX7_look_31 : decode cX7_look 31 = .ok (.invokevirtual 301, 3) := by decide +kernel
theorem dX7_look_34 : decode cX7_look 34 = .ok (.aload_n 0, 1) := by decide +kernel
theorem dX7_look_35 : decode cX7_look 35 = .ok (.dup, 1) := by decide +kernel
theorem dX7_look_36 : decode cX7_look 36 = .ok (.getfield 295, 3) := by decide +kernel
theorem dX7_look_39 : decode cX7_look 39 = .ok (.iconst 1, 1) := by decide +kernel
theorem dX7_look_40 : decode cX7_look 40 = .ok (.iadd, 1) := by decide +kernel
theorem dX7_look_41 : decode cX7_look 41 = .ok (.putfield 295, 3) := by decide +kernel
theorem dX7_look_44 : decode cX7_look 44 = .ok (.aload_n 0, 1) := by decide +kernel
theorem dX7_look_45 : decode cX7_look 45 = .ok (.aload 5, 2) := by decide +kernel
theorem dX7_look_47 : decode cX7_look 47 = .ok (.getfield 305, 3) := by decide +kernel
theorem dX7_look_50 : decode cX7_look 50 = .ok (.putfield 185, 3) := by decide +kernel
theorem dX7_look_53 : decode cX7_look 53 = .ok (.aload 5, 2) := by decide +kernel
theorem dX7_look_55 : decode cX7_look 55 = .ok (.getfield 306, 3) := by decide +kernel
theorem dX7_look_58 : decode cX7_look 58 = .ok (.ireturn, 1) := by decide +kernel
theorem dX7_look_59 : decode cX7_look 59 = .ok (.aload_n 0, 1) := by decide +kernel
theorem dX7_look_60 : decode cX7_look 60 = .ok (.dup, 1) := by decide +kernel
theorem dX7_look_61 : decode cX7_look 61 = .ok (.getfield 298, 3) := by decide +kernel
theorem dX7_look_64 : decode cX7_look 64 = .ok (.iconst 1, 1) := by decide +kernel
theorem dX7_look_65 : decode cX7_look 65 = .ok (.iadd, 1) := by decide +kernel
theorem dX7_look_66 : decode cX7_look 66 = .ok (.putfield 298, 3) := by decide +kernel
theorem dX7_look_69 : decode cX7_look 69 = .ok (.iconst 0, 1) := by decide +kernel
theorem dX7_look_70 : decode cX7_look 70 = .ok (.istore 6, 2) := by decide +kernel
theorem dX7_look_72 : decode cX7_look 72 = .ok (.iconst (-1), 1) := by decide +kernel
theorem dX7_look_73 : decode cX7_look 73 = .ok (.istore 7, 2) := by decide +kernel
theorem dX7_look_75 : decode cX7_look 75 = .ok (.iconst 0, 1) := by decide +kernel
theorem dX7_look_76 : decode cX7_look 76 = .ok (.istore 8, 2) := by decide +kernel
theorem dX7_look_78 : decode cX7_look 78 = .ok (.iload 8, 2) := by decide +kernel
theorem dX7_look_80 : decode cX7_look 80 = .ok (.iconst 4, 1) := by decide +kernel
theorem dX7_look_81 : decode cX7_look 81 = .ok (.if_icmp .ge 86, 3) := by decide +kernel
theorem dX7_look_84 : decode cX7_look 84 = .ok (.lload_n 1, 1) := by decide +kernel
theorem dX7_look_85 : decode cX7_look 85 = .ok (.iload 8, 2) := by decide +kernel
theorem dX7_look_87 : decode cX7_look 87 = .ok (.invokestatic 309, 3) := by decide +kernel
theorem dX7_look_90 : decode cX7_look 90 = .ok (.lstore 9, 2) := by decide +kernel
theorem dX7_look_92 : decode cX7_look 92 = .ok (.lload 9, 2) := by decide +kernel
theorem dX7_look_94 : decode cX7_look 94 = .ok (.lload_n 1, 1) := by decide +kernel
theorem dX7_look_95 : decode cX7_look 95 = .ok (.lcmp, 1) := by decide +kernel
theorem dX7_look_96 : decode cX7_look 96 = .ok (.ifCond .eq 65, 3) := by decide +kernel
theorem dX7_look_99 : decode cX7_look 99 = .ok (.iload 4, 2) := by decide +kernel
theorem dX7_look_101 : decode cX7_look 101 = .ok (.iconst 1, 1) := by decide +kernel
theorem dX7_look_102 : decode cX7_look 102 = .ok (.if_icmp .ne 7, 3) := by decide +kernel
theorem dX7_look_105 : decode cX7_look 105 = .ok (.iconst 0, 1) := by decide +kernel
theorem dX7_look_106 : decode cX7_look 106 = .ok (.goto 21, 3) := by decide +kernel
theorem dX7_look_109 : decode cX7_look 109 = .ok (.aload_n 0, 1) := by decide +kernel
theorem dX7_look_110 : decode cX7_look 110 = .ok (.lload 9, 2) := by decide +kernel
theorem dX7_look_112 : decode cX7_look 112 = .ok (.iload_n 3, 1) := by decide +kernel
theorem dX7_look_113 : decode cX7_look 113 = .ok (.invokestatic 313, 3) := by decide +kernel
theorem dX7_look_116 : decode cX7_look 116 = .ok (.iload_n 3, 1) := by decide +kernel
theorem dX7_look_117 : decode cX7_look 117 = .ok (.invokestatic 316, 3) := by decide +kernel
theorem dX7_look_120 : decode cX7_look 120 = .ok (.iload 4, 2) := by decide +kernel
theorem dX7_look_122 : decode cX7_look 122 = .ok (.iconst 1, 1) := by decide +kernel
theorem dX7_look_123 : decode cX7_look 123 = .ok (.isub, 1) := by decide +kernel
theorem dX7_look_124 : decode cX7_look 124 = .ok (.invokestatic 191, 3) := by decide +kernel
theorem dX7_look_127 : decode cX7_look 127 = .ok (.istore 11, 2) := by decide +kernel
theorem dX7_look_129 : decode cX7_look 129 = .ok (.lload_n 1, 1) := by decide +kernel
theorem dX7_look_130 : decode cX7_look 130 = .ok (.iload 8, 2) := by decide +kernel
theorem dX7_look_132 : decode cX7_look 132 = .ok (.invokestatic 319, 3) := by decide +kernel
theorem dX7_look_135 : decode cX7_look 135 = .ok (.iload 11, 2) := by decide +kernel
theorem dX7_look_137 : decode cX7_look 137 = .ok (.iadd, 1) := by decide +kernel
theorem dX7_look_138 : decode cX7_look 138 = .ok (.istore 12, 2) := by decide +kernel
theorem dX7_look_140 : decode cX7_look 140 = .ok (.iload 7, 2) := by decide +kernel
theorem dX7_look_142 : decode cX7_look 142 = .ok (.iconst (-1), 1) := by decide +kernel
theorem dX7_look_143 : decode cX7_look 143 = .ok (.if_icmp .eq 10, 3) := by decide +kernel
theorem dX7_look_146 : decode cX7_look 146 = .ok (.iload 12, 2) := by decide +kernel
theorem dX7_look_148 : decode cX7_look 148 = .ok (.iload 6, 2) := by decide +kernel
theorem dX7_look_150 : decode cX7_look 150 = .ok (.if_icmp .le 11, 3) := by decide +kernel
theorem dX7_look_153 : decode cX7_look 153 = .ok (.iload 12, 2) := by decide +kernel
theorem dX7_look_155 : decode cX7_look 155 = .ok (.istore 6, 2) := by decide +kernel
theorem dX7_look_157 : decode cX7_look 157 = .ok (.iload 8, 2) := by decide +kernel
theorem dX7_look_159 : decode cX7_look 159 = .ok (.istore 7, 2) := by decide +kernel
theorem dX7_look_161 : decode cX7_look 161 = .ok (.iinc 8 1, 3) := by decide +kernel
theorem dX7_look_164 : decode cX7_look 164 = .ok (.goto (-86), 3) := by decide +kernel
theorem dX7_look_167 : decode cX7_look 167 = .ok (.aload_n 0, 1) := by decide +kernel
theorem dX7_look_168 : decode cX7_look 168 = .ok (.getfield 286, 3) := by decide +kernel
theorem dX7_look_171 : decode cX7_look 171 = .ok (.lload_n 1, 1) := by decide +kernel
theorem dX7_look_172 : decode cX7_look 172 = .ok (.iload_n 3, 1) := by decide +kernel
theorem dX7_look_173 : decode cX7_look 173 = .ok (.iload 4, 2) := by decide +kernel
theorem dX7_look_175 : decode cX7_look 175 = .ok (.iload 6, 2) := by decide +kernel
theorem dX7_look_177 : decode cX7_look 177 = .ok (.iload 7, 2) := by decide +kernel
theorem dX7_look_179 : decode cX7_look 179 = .ok (.invokevirtual 322, 3) := by decide +kernel
theorem dX7_look_182 : decode cX7_look 182 = .ok (.aload_n 0, 1) := by decide +kernel
theorem dX7_look_183 : decode cX7_look 183 = .ok (.iload 7, 2) := by decide +kernel
theorem dX7_look_185 : decode cX7_look 185 = .ok (.putfield 185, 3) := by decide +kernel
theorem dX7_look_188 : decode cX7_look 188 = .ok (.iload 6, 2) := by decide +kernel
theorem dX7_look_190 : decode cX7_look 190 = .ok (.ireturn, 1) := by decide +kernel
theorem dX7_isFollowing_0 : decode cX7_isFollowing 0 = .ok (.iconst 0, 1) := by decide +kernel
theorem dX7_isFollowing_1 : decode cX7_isFollowing 1 = .ok (.istore_n 3, 1) := by decide +kernel
theorem dX7_isFollowing_2 : decode cX7_isFollowing 2 = .ok (.iconst 0, 1) := by decide +kernel
theorem dX7_isFollowing_3 : decode cX7_isFollowing 3 = .ok (.istore 4, 2) := by decide +kernel
theorem dX7_isFollowing_5 : decode cX7_isFollowing 5 = .ok (.iload 4, 2) := by decide +kernel
theorem dX7_isFollowing_7 : decode cX7_isFollowing 7 = .ok (.aload_n 0, 1) := by decide +kernel
theorem dX7_isFollowing_8 : decode cX7_isFollowing 8 = .ok (.getfield 19, 3) := by decide +kernel
theorem dX7_isFollowing_11 : decode cX7_isFollowing 11 = .ok (.invokevirtual 70, 3) := by decide +kernel
theorem dX7_isFollowing_14 : decode cX7_isFollowing 14 = .ok (.if_icmp .ge 84, 3) := by decide +kernel
theorem dX7_isFollowing_17 : decode cX7_isFollowing 17 = .ok (.aload_n 0, 1) := by decide +kernel
theorem dX7_isFollowing_18 : decode cX7_isFollowing 18 = .ok (.getfield 19, 3) := by decide +kernel
theorem dX7_isFollowing_21 : decode cX7_isFollowing 21 = .ok (.iload 4, 2) := by decide +kernel
theorem dX7_isFollowing_23 : decode cX7_isFollowing 23 = .ok (.invokevirtual 272, 3) := by decide +kernel
theorem dX7_isFollowing_26 : decode cX7_isFollowing 26 = .ok (.checkcast 245, 3) := by decide +kernel
theorem dX7_isFollowing_29 : decode cX7_isFollowing 29 = .ok (.astore 5, 2) := by decide +kernel
theorem dX7_isFollowing_31 : decode cX7_isFollowing 31 = .ok (.aload 5, 2) := by decide +kernel
theorem dX7_isFollowing_33 : decode cX7_isFollowing 33 = .ok (.getfield 326, 3) := by decide +kernel
theorem dX7_isFollowing_36 : decode cX7_isFollowing 36 = .ok (.aload_n 1, 1) := by decide +kernel
theorem dX7_isFollowing_37 : decode cX7_isFollowing 37 = .ok (.getfield 112, 3) := by decide +kernel
theorem dX7_isFollowing_40 : decode cX7_isFollowing 40 = .ok (.lcmp, 1) := by decide +kernel
theorem dX7_isFollowing_41 : decode cX7_isFollowing 41 = .ok (.ifCond .ne 51, 3) := by decide +kernel
theorem dX7_isFollowing_44 : decode cX7_isFollowing 44 = .ok (.aload 5, 2) := by decide +kernel
theorem dX7_isFollowing_46 : decode cX7_isFollowing 46 = .ok (.getfield 327, 3) := by decide +kernel
theorem dX7_isFollowing_49 : decode cX7_isFollowing 49 = .ok (.aload_n 1, 1) := by decide +kernel
theorem dX7_isFollowing_50 : decode cX7_isFollowing 50 = .ok (.getfield 188, 3) := by decide +kernel
theorem dX7_isFollowing_53 : decode cX7_isFollowing 53 = .ok (.if_icmp .ne 39, 3) := by decide +kernel
theorem dX7_isFollowing_56 : decode cX7_isFollowing 56 = .ok (.aload 5, 2) := by decide +kernel
theorem dX7_isFollowing_58 : decode cX7_isFollowing 58 = .ok (.getfield 244, 3) := by decide +kernel
theorem dX7_isFollowing_61 : decode cX7_isFollowing 61 = .ok (.aload_n 1, 1) := by decide +kernel
theorem dX7_isFollowing_62 : decode cX7_isFollowing 62 = .ok (.getfield 168, 3) := by decide +kernel
theorem dX7_isFollowing_65 : decode cX7_isFollowing 65 = .ok (.getfield 328, 3) := by decide +kernel
theorem dX7_isFollowing_68 : decode cX7_isFollowing 68 = .ok (.if_icmp .ne 5, 3) := by decide +kernel
theorem dX7_isFollowing_71 : decode cX7_isFollowing 71 = .ok (.iconst 0, 1) := by decide +kernel
theorem dX7_isFollowing_72 : decode cX7_isFollowing 72 = .ok (.ireturn, 1) := by decide +kernel
theorem dX7_isFollowing_73 : decode cX7_isFollowing 73 = .ok (.iload_n 3, 1) := by decide +kernel
theorem dX7_isFollowing_74 : decode cX7_isFollowing 74 = .ok (.ifCond .ne 12, 3) := by decide +kernel
theorem dX7_isFollowing_77 : decode cX7_isFollowing 77 = .ok (.aload 5, 2) := by decide +kernel
theorem dX7_isFollowing_79 : decode cX7_isFollowing 79 = .ok (.getfield 249, 3) := by decide +kernel
theorem dX7_isFollowing_82 : decode cX7_isFollowing 82 = .ok (.iload_n 2, 1) := by decide +kernel
theorem dX7_isFollowing_83 : decode cX7_isFollowing 83 = .ok (.if_icmp .ne 7, 3) := by decide +kernel
theorem dX7_isFollowing_86 : decode cX7_isFollowing 86 = .ok (.iconst 1, 1) := by decide +kernel
theorem dX7_isFollowing_87 : decode cX7_isFollowing 87 = .ok (.goto 4, 3) := by decide +kernel
theorem dX7_isFollowing_90 : decode cX7_isFollowing 90 = .ok (.iconst 0, 1) := by decide +kernel
theorem dX7_isFollowing_91 : decode cX7_isFollowing 91 = .ok (.istore_n 3, 1) := by decide +kernel
theorem dX7_isFollowing_92 : decode cX7_isFollowing 92 = .ok (.iinc 4 1, 3) := by decide +kernel
theorem dX7_isFollowing_95 : decode cX7_isFollowing 95 = .ok (.goto (-90), 3) := by decide +kernel
theorem dX7_isFollowing_98 : decode cX7_isFollowing 98 = .ok (.iload_n 3, 1) := by decide +kernel
theorem dX7_isFollowing_99 : decode cX7_isFollowing 99 = .ok (.ireturn, 1) := by decide +kernel
theorem dX7_areEntriesRight_0 : decode cX7_areEntriesRight 0 = .ok (.aload_n 0, 1) := by decide +kernel
theorem dX7_areEntriesRight_1 : decode cX7_areEntriesRight 1 = .ok (.getfield 27, 3) := by decide +kernel
theorem dX7_areEntriesRight_4 : decode cX7_areEntriesRight 4 = .ok (.getfield 331, 3) := by decide +kernel
theorem dX7_areEntriesRight_7 : decode cX7_areEntriesRight 7 = .ok (.astore_n 1, 1) := by decide +kernel
theorem dX7_areEntriesRight_8 : decode cX7_areEntriesRight 8 = .ok (.aload_n 1, 1) := by decide +kernel
theorem dX7_areEntriesRight_9 : decode cX7_areEntriesRight 9 = .ok (.arraylength, 1) := by decide +kernel
theorem dX7_areEntriesRight_10 : decode cX7_areEntriesRight 10 = .ok (.istore_n 2, 1) := by decide +kernel
theorem dX7_areEntriesRight_11 : decode cX7_areEntriesRight 11 = .ok (.iconst 0, 1) := by decide +kernel
theorem dX7_areEntriesRight_12 : decode cX7_areEntriesRight 12 = .ok (.istore_n 3, 1) := by decide +kernel
theorem dX7_areEntriesRight_13 : decode cX7_areEntriesRight 13 = .ok (.iload_n 3, 1) := by decide +kernel
theorem dX7_areEntriesRight_14 : decode cX7_areEntriesRight 14 = .ok (.iload_n 2, 1) := by decide +kernel
theorem dX7_areEntriesRight_15 : decode cX7_areEntriesRight 15 = .ok (.if_icmp .ge 53, 3) := by decide +kernel
theorem dX7_areEntriesRight_18 : decode cX7_areEntriesRight 18 = .ok (.aload_n 1, 1) := by decide +kernel
theorem dX7_areEntriesRight_19 : decode cX7_areEntriesRight 19 = .ok (.iload_n 3, 1) := by decide +kernel
theorem dX7_areEntriesRight_20 : decode cX7_areEntriesRight 20 = .ok (.aaload, 1) := by decide +kernel
theorem dX7_areEntriesRight_21 : decode cX7_areEntriesRight 21 = .ok (.astore 4, 2) := by decide +kernel
theorem dX7_areEntriesRight_23 : decode cX7_areEntriesRight 23 = .ok (.aload 4, 2) := by decide +kernel
theorem dX7_areEntriesRight_25 : decode cX7_areEntriesRight 25 = .ok (.invokevirtual 335, 3) := by decide +kernel
theorem dX7_areEntriesRight_28 : decode cX7_areEntriesRight 28 = .ok (.ifCond .eq 19, 3) := by decide +kernel
theorem dX7_areEntriesRight_31 : decode cX7_areEntriesRight 31 = .ok (.aload 4, 2) := by decide +kernel
theorem dX7_areEntriesRight_33 : decode cX7_areEntriesRight 33 = .ok (.getfield 216, 3) := by decide +kernel
theorem dX7_areEntriesRight_36 : decode cX7_areEntriesRight 36 = .ok (.ifCond .ne 7, 3) := by decide +kernel
theorem dX7_areEntriesRight_39 : decode cX7_areEntriesRight 39 = .ok (.iconst 1, 1) := by decide +kernel
theorem dX7_areEntriesRight_40 : decode cX7_areEntriesRight 40 = .ok (.goto 13, 3) := by decide +kernel
theorem dX7_areEntriesRight_43 : decode cX7_areEntriesRight 43 = .ok (.iconst 0, 1) := by decide +kernel
theorem dX7_areEntriesRight_44 : decode cX7_areEntriesRight 44 = .ok (.goto 9, 3) := by decide +kernel
theorem dX7_areEntriesRight_47 : decode cX7_areEntriesRight 47 = .ok (.aload_n 0, 1) := by decide +kernel
theorem dX7_areEntriesRight_48 : decode cX7_areEntriesRight 48 = .ok (.aload 4, 2) := by decide +kernel
theorem dX7_areEntriesRight_50 : decode cX7_areEntriesRight 50 = .ok (.invokevirtual 338, 3) := by decide +kernel
theorem dX7_areEntriesRight_53 : decode cX7_areEntriesRight 53 = .ok (.istore 5, 2) := by decide +kernel
theorem dX7_areEntriesRight_55 : decode cX7_areEntriesRight 55 = .ok (.iload 5, 2) := by decide +kernel
theorem dX7_areEntriesRight_57 : decode cX7_areEntriesRight 57 = .ok (.ifCond .ne 5, 3) := by decide +kernel
theorem dX7_areEntriesRight_60 : decode cX7_areEntriesRight 60 = .ok (.iconst 0, 1) := by decide +kernel
theorem dX7_areEntriesRight_61 : decode cX7_areEntriesRight 61 = .ok (.ireturn, 1) := by decide +kernel
theorem dX7_areEntriesRight_62 : decode cX7_areEntriesRight 62 = .ok (.iinc 3 1, 3) := by decide +kernel
theorem dX7_areEntriesRight_65 : decode cX7_areEntriesRight 65 = .ok (.goto (-52), 3) := by decide +kernel
theorem dX7_areEntriesRight_68 : decode cX7_areEntriesRight 68 = .ok (.iconst 1, 1) := by decide +kernel
theorem dX7_areEntriesRight_69 : decode cX7_areEntriesRight 69 = .ok (.ireturn, 1) := by decide +kernel
theorem dX7_isFoundPlainly_0 : decode cX7_isFoundPlainly 0 = .ok (.aload_n 0, 1) := by decide +kernel
theorem dX7_isFoundPlainly_1 : decode cX7_isFoundPlainly 1 = .ok (.getfield 40, 3) := by decide +kernel
theorem dX7_isFoundPlainly_4 : decode cX7_isFoundPlainly 4 = .ok (.aload_n 1, 1) := by decide +kernel
theorem dX7_isFoundPlainly_5 : decode cX7_isFoundPlainly 5 = .ok (.getfield 342, 3) := by decide +kernel
theorem dX7_isFoundPlainly_8 : decode cX7_isFoundPlainly 8 = .ok (.aload_n 1, 1) := by decide +kernel
theorem dX7_isFoundPlainly_9 : decode cX7_isFoundPlainly 9 = .ok (.getfield 343, 3) := by decide +kernel
theorem dX7_isFoundPlainly_12 : decode cX7_isFoundPlainly 12 = .ok (.aload_n 1, 1) := by decide +kernel
theorem dX7_isFoundPlainly_13 : decode cX7_isFoundPlainly 13 = .ok (.getfield 344, 3) := by decide +kernel
theorem dX7_isFoundPlainly_16 : decode cX7_isFoundPlainly 16 = .ok (.invokestatic 191, 3) := by decide +kernel
theorem dX7_isFoundPlainly_19 : decode cX7_isFoundPlainly 19 = .ok (.istore_n 2, 1) := by decide +kernel
theorem dX7_isFoundPlainly_20 : decode cX7_isFoundPlainly 20 = .ok (.aload_n 1, 1) := by decide +kernel
theorem dX7_isFoundPlainly_21 : decode cX7_isFoundPlainly 21 = .ok (.getfield 306, 3) := by decide +kernel
theorem dX7_isFoundPlainly_24 : decode cX7_isFoundPlainly 24 = .ok (.iload_n 2, 1) := by decide +kernel
theorem dX7_isFoundPlainly_25 : decode cX7_isFoundPlainly 25 = .ok (.if_icmp .ne 21, 3) := by decide +kernel
theorem dX7_isFoundPlainly_28 : decode cX7_isFoundPlainly 28 = .ok (.aload_n 1, 1) := by decide +kernel
theorem dX7_isFoundPlainly_29 : decode cX7_isFoundPlainly 29 = .ok (.getfield 305, 3) := by decide +kernel
theorem dX7_isFoundPlainly_32 : decode cX7_isFoundPlainly 32 = .ok (.aload_n 0, 1) := by decide +kernel
theorem dX7_isFoundPlainly_33 : decode cX7_isFoundPlainly 33 = .ok (.getfield 40, 3) := by decide +kernel
theorem dX7_isFoundPlainly_36 : decode cX7_isFoundPlainly 36 = .ok (.getfield 185, 3) := by decide +kernel
theorem dX7_isFoundPlainly_39 : decode cX7_isFoundPlainly 39 = .ok (.if_icmp .ne 7, 3) := by decide +kernel
theorem dX7_isFoundPlainly_42 : decode cX7_isFoundPlainly 42 = .ok (.iconst 1, 1) := by decide +kernel
theorem dX7_isFoundPlainly_43 : decode cX7_isFoundPlainly 43 = .ok (.goto 4, 3) := by decide +kernel
theorem dX7_isFoundPlainly_46 : decode cX7_isFoundPlainly 46 = .ok (.iconst 0, 1) := by decide +kernel
theorem dX7_isFoundPlainly_47 : decode cX7_isFoundPlainly 47 = .ok (.ireturn, 1) := by decide +kernel
theorem dX7_areRefundsRight_0 : decode cX7_areRefundsRight 0 = .ok (.lconst 0, 1) := by decide +kernel
theorem dX7_areRefundsRight_1 : decode cX7_areRefundsRight 1 = .ok (.lstore_n 1, 1) := by decide +kernel
theorem dX7_areRefundsRight_2 : decode cX7_areRefundsRight 2 = .ok (.iconst 0, 1) := by decide +kernel
theorem dX7_areRefundsRight_3 : decode cX7_areRefundsRight 3 = .ok (.istore_n 3, 1) := by decide +kernel
theorem dX7_areRefundsRight_4 : decode cX7_areRefundsRight 4 = .ok (.iload_n 3, 1) := by decide +kernel
theorem dX7_areRefundsRight_5 : decode cX7_areRefundsRight 5 = .ok (.aload_n 0, 1) := by decide +kernel
theorem dX7_areRefundsRight_6 : decode cX7_areRefundsRight 6 = .ok (.getfield 16, 3) := by decide +kernel
theorem dX7_areRefundsRight_9 : decode cX7_areRefundsRight 9 = .ok (.invokevirtual 70, 3) := by decide +kernel
theorem dX7_areRefundsRight_12 : decode cX7_areRefundsRight 12 = .ok (.if_icmp .ge 43, 3) := by decide +kernel
theorem dX7_areRefundsRight_15 : decode cX7_areRefundsRight 15 = .ok (.aload_n 0, 1) := by decide +kernel
theorem dX7_areRefundsRight_16 : decode cX7_areRefundsRight 16 = .ok (.getfield 16, 3) := by decide +kernel
theorem dX7_areRefundsRight_19 : decode cX7_areRefundsRight 19 = .ok (.iload_n 3, 1) := by decide +kernel
theorem dX7_areRefundsRight_20 : decode cX7_areRefundsRight 20 = .ok (.invokevirtual 272, 3) := by decide +kernel
theorem dX7_areRefundsRight_23 : decode cX7_areRefundsRight 23 = .ok (.checkcast 96, 3) := by decide +kernel
theorem dX7_areRefundsRight_26 : decode cX7_areRefundsRight 26 = .ok (.astore 4, 2) := by decide +kernel
theorem dX7_areRefundsRight_28 : decode cX7_areRefundsRight 28 = .ok (.lload_n 1, 1) := by decide +kernel
theorem dX7_areRefundsRight_29 : decode cX7_areRefundsRight 29 = .ok (.aload 4, 2) := by decide +kernel
theorem dX7_areRefundsRight_31 : decode cX7_areRefundsRight 31 = .ok (.getfield 108, 3) := by decide +kernel
theorem dX7_areRefundsRight_34 : decode cX7_areRefundsRight 34 = .ok (.ifCond .eq 12, 3) := by decide +kernel
theorem dX7_areRefundsRight_37 : decode cX7_areRefundsRight 37 = .ok (.aload 4, 2) := by decide +kernel
theorem dX7_areRefundsRight_39 : decode cX7_areRefundsRight 39 = .ok (.getfield 237, 3) := by decide +kernel
theorem dX7_areRefundsRight_42 : decode cX7_areRefundsRight 42 = .ok (.i2l, 1) := by decide +kernel
theorem dX7_areRefundsRight_43 : decode cX7_areRefundsRight 43 = .ok (.goto 4, 3) := by decide +kernel
theorem dX7_areRefundsRight_46 : decode cX7_areRefundsRight 46 = .ok (.lconst 0, 1) := by decide +kernel
theorem dX7_areRefundsRight_47 : decode cX7_areRefundsRight 47 = .ok (.ladd, 1) := by decide +kernel
theorem dX7_areRefundsRight_48 : decode cX7_areRefundsRight 48 = .ok (.lstore_n 1, 1) := by decide +kernel
theorem dX7_areRefundsRight_49 : decode cX7_areRefundsRight 49 = .ok (.iinc 3 1, 3) := by decide +kernel
theorem dX7_areRefundsRight_52 : decode cX7_areRefundsRight 52 = .ok (.goto (-48), 3) := by decide +kernel
theorem dX7_areRefundsRight_55 : decode cX7_areRefundsRight 55 = .ok (.aload_n 0, 1) := by decide +kernel
theorem dX7_areRefundsRight_56 : decode cX7_areRefundsRight 56 = .ok (.getfield 47, 3) := by decide +kernel
theorem dX7_areRefundsRight_59 : decode cX7_areRefundsRight 59 = .ok (.lload_n 1, 1) := by decide +kernel
theorem dX7_areRefundsRight_60 : decode cX7_areRefundsRight 60 = .ok (.lcmp, 1) := by decide +kernel
theorem dX7_areRefundsRight_61 : decode cX7_areRefundsRight 61 = .ok (.ifCond .ne 7, 3) := by decide +kernel
theorem dX7_areRefundsRight_64 : decode cX7_areRefundsRight 64 = .ok (.iconst 1, 1) := by decide +kernel
theorem dX7_areRefundsRight_65 : decode cX7_areRefundsRight 65 = .ok (.goto 4, 3) := by decide +kernel
theorem dX7_areRefundsRight_68 : decode cX7_areRefundsRight 68 = .ok (.iconst 0, 1) := by decide +kernel
theorem dX7_areRefundsRight_69 : decode cX7_areRefundsRight 69 = .ok (.ireturn, 1) := by decide +kernel
theorem dX7_arePursesRight_0 : decode cX7_arePursesRight 0 = .ok (.iconst 0, 1) := by decide +kernel
theorem dX7_arePursesRight_1 : decode cX7_arePursesRight 1 = .ok (.istore_n 1, 1) := by decide +kernel
theorem dX7_arePursesRight_2 : decode cX7_arePursesRight 2 = .ok (.iload_n 1, 1) := by decide +kernel
theorem dX7_arePursesRight_3 : decode cX7_arePursesRight 3 = .ok (.aload_n 0, 1) := by decide +kernel
theorem dX7_arePursesRight_4 : decode cX7_arePursesRight 4 = .ok (.getfield 10, 3) := by decide +kernel
theorem dX7_arePursesRight_7 : decode cX7_arePursesRight 7 = .ok (.invokevirtual 70, 3) := by decide +kernel
theorem dX7_arePursesRight_10 : decode cX7_arePursesRight 10 = .ok (.if_icmp .ge 40, 3) := by decide +kernel
theorem dX7_arePursesRight_13 : decode cX7_arePursesRight 13 = .ok (.aload_n 0, 1) := by decide +kernel
theorem dX7_arePursesRight_14 : decode cX7_arePursesRight 14 = .ok (.getfield 10, 3) := by decide +kernel
theorem dX7_arePursesRight_17 : decode cX7_arePursesRight 17 = .ok (.iload_n 1, 1) := by decide +kernel
theorem dX7_arePursesRight_18 : decode cX7_arePursesRight 18 = .ok (.invokevirtual 272, 3) := by decide +kernel
theorem dX7_arePursesRight_21 : decode cX7_arePursesRight 21 = .ok (.checkcast 79, 3) := by decide +kernel
theorem dX7_arePursesRight_24 : decode cX7_arePursesRight 24 = .ok (.astore_n 2, 1) := by decide +kernel
theorem dX7_arePursesRight_25 : decode cX7_arePursesRight 25 = .ok (.aload_n 2, 1) := by decide +kernel
theorem dX7_arePursesRight_26 : decode cX7_arePursesRight 26 = .ok (.getfield 172, 3) := by decide +kernel
theorem dX7_arePursesRight_29 : decode cX7_arePursesRight 29 = .ok (.aload_n 2, 1) := by decide +kernel
theorem dX7_arePursesRight_30 : decode cX7_arePursesRight 30 = .ok (.getfield 347, 3) := by decide +kernel
theorem dX7_arePursesRight_33 : decode cX7_arePursesRight 33 = .ok (.aload_n 0, 1) := by decide +kernel
theorem dX7_arePursesRight_34 : decode cX7_arePursesRight 34 = .ok (.aload_n 2, 1) := by decide +kernel
theorem dX7_arePursesRight_35 : decode cX7_arePursesRight 35 = .ok (.invokevirtual 350, 3) := by decide +kernel
theorem dX7_arePursesRight_38 : decode cX7_arePursesRight 38 = .ok (.isub, 1) := by decide +kernel
theorem dX7_arePursesRight_39 : decode cX7_arePursesRight 39 = .ok (.if_icmp .eq 5, 3) := by decide +kernel
theorem dX7_arePursesRight_42 : decode cX7_arePursesRight 42 = .ok (.iconst 0, 1) := by decide +kernel
theorem dX7_arePursesRight_43 : decode cX7_arePursesRight 43 = .ok (.ireturn, 1) := by decide +kernel
theorem dX7_arePursesRight_44 : decode cX7_arePursesRight 44 = .ok (.iinc 1 1, 3) := by decide +kernel
theorem dX7_arePursesRight_47 : decode cX7_arePursesRight 47 = .ok (.goto (-45), 3) := by decide +kernel
theorem dX7_arePursesRight_50 : decode cX7_arePursesRight 50 = .ok (.iconst 1, 1) := by decide +kernel
theorem dX7_arePursesRight_51 : decode cX7_arePursesRight 51 = .ok (.ireturn, 1) := by decide +kernel
theorem dX7_paidForGood_0 : decode cX7_paidForGood 0 = .ok (.iconst 0, 1) := by decide +kernel
theorem dX7_paidForGood_1 : decode cX7_paidForGood 1 = .ok (.istore_n 2, 1) := by decide +kernel
theorem dX7_paidForGood_2 : decode cX7_paidForGood 2 = .ok (.iconst 0, 1) := by decide +kernel
theorem dX7_paidForGood_3 : decode cX7_paidForGood 3 = .ok (.istore_n 3, 1) := by decide +kernel
theorem dX7_paidForGood_4 : decode cX7_paidForGood 4 = .ok (.iload_n 3, 1) := by decide +kernel
theorem dX7_paidForGood_5 : decode cX7_paidForGood 5 = .ok (.aload_n 0, 1) := by decide +kernel
theorem dX7_paidForGood_6 : decode cX7_paidForGood 6 = .ok (.getfield 16, 3) := by decide +kernel
theorem dX7_paidForGood_9 : decode cX7_paidForGood 9 = .ok (.invokevirtual 70, 3) := by decide +kernel
theorem dX7_paidForGood_12 : decode cX7_paidForGood 12 = .ok (.if_icmp .ge 47, 3) := by decide +kernel
theorem dX7_paidForGood_15 : decode cX7_paidForGood 15 = .ok (.aload_n 0, 1) := by decide +kernel
theorem dX7_paidForGood_16 : decode cX7_paidForGood 16 = .ok (.getfield 16, 3) := by decide +kernel
theorem dX7_paidForGood_19 : decode cX7_paidForGood 19 = .ok (.iload_n 3, 1) := by decide +kernel
theorem dX7_paidForGood_20 : decode cX7_paidForGood 20 = .ok (.invokevirtual 272, 3) := by decide +kernel
theorem dX7_paidForGood_23 : decode cX7_paidForGood 23 = .ok (.checkcast 96, 3) := by decide +kernel
theorem dX7_paidForGood_26 : decode cX7_paidForGood 26 = .ok (.astore 4, 2) := by decide +kernel
theorem dX7_paidForGood_28 : decode cX7_paidForGood 28 = .ok (.aload 4, 2) := by decide +kernel
theorem dX7_paidForGood_30 : decode cX7_paidForGood 30 = .ok (.getfield 168, 3) := by decide +kernel
theorem dX7_paidForGood_33 : decode cX7_paidForGood 33 = .ok (.aload_n 1, 1) := by decide +kernel
theorem dX7_paidForGood_34 : decode cX7_paidForGood 34 = .ok (.if_acmp .ne 19, 3) := by decide +kernel
theorem dX7_paidForGood_37 : decode cX7_paidForGood 37 = .ok (.aload 4, 2) := by decide +kernel
theorem dX7_paidForGood_39 : decode cX7_paidForGood 39 = .ok (.getfield 108, 3) := by decide +kernel
theorem dX7_paidForGood_42 : decode cX7_paidForGood 42 = .ok (.ifCond .ne 11, 3) := by decide +kernel
theorem dX7_paidForGood_45 : decode cX7_paidForGood 45 = .ok (.iload_n 2, 1) := by decide +kernel
theorem dX7_paidForGood_46 : decode cX7_paidForGood 46 = .ok (.aload 4, 2) := by decide +kernel
theorem dX7_paidForGood_48 : decode cX7_paidForGood 48 = .ok (.getfield 237, 3) := by decide +kernel
theorem dX7_paidForGood_51 : decode cX7_paidForGood 51 = .ok (.iadd, 1) := by decide +kernel
theorem dX7_paidForGood_52 : decode cX7_paidForGood 52 = .ok (.istore_n 2, 1) := by decide +kernel
theorem dX7_paidForGood_53 : decode cX7_paidForGood 53 = .ok (.iinc 3 1, 3) := by decide +kernel
theorem dX7_paidForGood_56 : decode cX7_paidForGood 56 = .ok (.goto (-52), 3) := by decide +kernel
theorem dX7_paidForGood_59 : decode cX7_paidForGood 59 = .ok (.iload_n 2, 1) := by decide +kernel
theorem dX7_paidForGood_60 : decode cX7_paidForGood 60 = .ok (.ireturn, 1) := by decide +kernel
theorem dJx00060_init_a7421_0 : decode cJx00060_init_a7421 0 = .ok (.aload_n 0, 1) := by decide +kernel
theorem dJx00060_init_a7421_1 : decode cJx00060_init_a7421 1 = .ok (.aload_n 1, 1) := by decide +kernel
theorem dJx00060_init_a7421_2 : decode cJx00060_init_a7421 2 = .ok (.invokespecial 7, 3) := by decide +kernel
theorem dJx00060_init_a7421_5 : decode cJx00060_init_a7421 5 = .ok (.return_, 1) := by decide +kernel
theorem dJ9_max_7cf53_0 : decode cJ9_max_7cf53 0 = .ok (.iload_n 0, 1) := by decide +kernel
theorem dJ9_max_7cf53_1 : decode cJ9_max_7cf53 1 = .ok (.iload_n 1, 1) := by decide +kernel
theorem dJ9_max_7cf53_2 : decode cJ9_max_7cf53 2 = .ok (.if_icmp .lt 7, 3) := by decide +kernel
theorem dJ9_max_7cf53_5 : decode cJ9_max_7cf53 5 = .ok (.iload_n 0, 1) := by decide +kernel
theorem dJ9_max_7cf53_6 : decode cJ9_max_7cf53 6 = .ok (.goto 4, 3) := by decide +kernel
theorem dJ9_max_7cf53_9 : decode cJ9_max_7cf53 9 = .ok (.iload_n 1, 1) := by decide +kernel
theorem dJ9_max_7cf53_10 : decode cJ9_max_7cf53 10 = .ok (.ireturn, 1) := by decide +kernel
theorem dJ9_min_7cf53_0 : decode cJ9_min_7cf53 0 = .ok (.iload_n 0, 1) := by decide +kernel
theorem dJ9_min_7cf53_1 : decode cJ9_min_7cf53 1 = .ok (.iload_n 1, 1) := by decide +kernel
theorem dJ9_min_7cf53_2 : decode cJ9_min_7cf53 2 = .ok (.if_icmp .gt 7, 3) := by decide +kernel
theorem dJ9_min_7cf53_5 : decode cJ9_min_7cf53 5 = .ok (.iload_n 0, 1) := by decide +kernel
theorem dJ9_min_7cf53_6 : decode cJ9_min_7cf53 6 = .ok (.goto 4, 3) := by decide +kernel
theorem dJ9_min_7cf53_9 : decode cJ9_min_7cf53 9 = .ok (.iload_n 1, 1) := by decide +kernel
theorem dJ9_min_7cf53_10 : decode cJ9_min_7cf53 10 = .ok (.ireturn, 1) := by decide +kernel
theorem dJxa1e45_init_da8c8_0 : decode cJxa1e45_init_da8c8 0 = .ok (.aload_n 0, 1) := by decide +kernel
theorem dJxa1e45_init_da8c8_1 : decode cJxa1e45_init_da8c8 1 = .ok (.invokespecial 1, 3) := by decide +kernel
theorem dJxa1e45_init_da8c8_4 : decode cJxa1e45_init_da8c8 4 = .ok (.return_, 1) := by decide +kernel
theorem dJxc12de_init_da8c8_0 : decode cJxc12de_init_da8c8 0 = .ok (.aload_n 0, 1) := by decide +kernel
theorem dJxc12de_init_da8c8_1 : decode cJxc12de_init_da8c8 1 = .ok (.invokespecial 1, 3) := by decide +kernel
theorem dJxc12de_init_da8c8_4 : decode cJxc12de_init_da8c8 4 = .ok (.aload_n 0, 1) := by decide +kernel
theorem dJxc12de_init_da8c8_5 : decode cJxc12de_init_da8c8 5 = .ok (.iconst 0, 1) := by decide +kernel
theorem dJxc12de_init_da8c8_6 : decode cJxc12de_init_da8c8 6 = .ok (.putfield 7, 3) := by decide +kernel
theorem dJxc12de_init_da8c8_9 : decode cJxc12de_init_da8c8 9 = .ok (.return_, 1) := by decide +kernel
theorem dJx4a65c_init_da8c8_0 : decode cJx4a65c_init_da8c8 0 = .ok (.aload_n 0, 1) := by decide +kernel
theorem dJx4a65c_init_da8c8_1 : decode cJx4a65c_init_da8c8 1 = .ok (.invokespecial 1, 3) := by decide +kernel
theorem dJx4a65c_init_da8c8_4 : decode cJx4a65c_init_da8c8 4 = .ok (.aload_n 0, 1) := by decide +kernel
theorem dJx4a65c_init_da8c8_5 : decode cJx4a65c_init_da8c8 5 = .ok (.getstatic 39, 3) := by decide +kernel
theorem dJx4a65c_init_da8c8_8 : decode cJx4a65c_init_da8c8 8 = .ok (.putfield 9, 3) := by decide +kernel
theorem dJx4a65c_init_da8c8_11 : decode cJx4a65c_init_da8c8 11 = .ok (.return_, 1) := by decide +kernel
theorem dJx4a65c_grow_92f84_0 : decode cJx4a65c_grow_92f84 0 = .ok (.aload_n 0, 1) := by decide +kernel
theorem dJx4a65c_grow_92f84_1 : decode cJx4a65c_grow_92f84 1 = .ok (.getfield 9, 3) := by decide +kernel
theorem dJx4a65c_grow_92f84_4 : decode cJx4a65c_grow_92f84 4 = .ok (.arraylength, 1) := by decide +kernel
theorem dJx4a65c_grow_92f84_5 : decode cJx4a65c_grow_92f84 5 = .ok (.istore_n 2, 1) := by decide +kernel
theorem dJx4a65c_grow_92f84_6 : decode cJx4a65c_grow_92f84 6 = .ok (.iload_n 2, 1) := by decide +kernel
theorem dJx4a65c_grow_92f84_7 : decode cJx4a65c_grow_92f84 7 = .ok (.ifCond .gt 13, 3) := by decide +kernel
theorem dJx4a65c_grow_92f84_10 : decode cJx4a65c_grow_92f84 10 = .ok (.aload_n 0, 1) := by decide +kernel
theorem dJx4a65c_grow_92f84_11 : decode cJx4a65c_grow_92f84 11 = .ok (.getfield 9, 3) := by decide +kernel
theorem dJx4a65c_grow_92f84_14 : decode cJx4a65c_grow_92f84 14 = .ok (.getstatic 39, 3) := by decide +kernel
theorem dJx4a65c_grow_92f84_17 : decode cJx4a65c_grow_92f84 17 = .ok (.if_acmp .eq 28, 3) := by decide +kernel
theorem dJx4a65c_grow_92f84_20 : decode cJx4a65c_grow_92f84 20 = .ok (.iload_n 2, 1) := by decide +kernel
theorem dJx4a65c_grow_92f84_21 : decode cJx4a65c_grow_92f84 21 = .ok (.iload_n 1, 1) := by decide +kernel
theorem dJx4a65c_grow_92f84_22 : decode cJx4a65c_grow_92f84 22 = .ok (.iload_n 2, 1) := by decide +kernel
theorem dJx4a65c_grow_92f84_23 : decode cJx4a65c_grow_92f84 23 = .ok (.isub, 1) := by decide +kernel
theorem dJx4a65c_grow_92f84_24 : decode cJx4a65c_grow_92f84 24 = .ok (.iload_n 2, 1) := by decide +kernel
theorem dJx4a65c_grow_92f84_25 : decode cJx4a65c_grow_92f84 25 = .ok (.iconst 1, 1) := by decide +kernel
theorem dJx4a65c_grow_92f84_26 : decode cJx4a65c_grow_92f84 26 = .ok (.ishr, 1) := by decide +kernel
theorem dJx4a65c_grow_92f84_27 : decode cJx4a65c_grow_92f84 27 = .ok (.invokestatic 73, 3) := by decide +kernel
theorem dJx4a65c_grow_92f84_30 : decode cJx4a65c_grow_92f84 30 = .ok (.istore_n 3, 1) := by decide +kernel
theorem dJx4a65c_grow_92f84_31 : decode cJx4a65c_grow_92f84 31 = .ok (.aload_n 0, 1) := by decide +kernel
theorem dJx4a65c_grow_92f84_32 : decode cJx4a65c_grow_92f84 32 = .ok (.aload_n 0, 1) := by decide +kernel
theorem dJx4a65c_grow_92f84_33 : decode cJx4a65c_grow_92f84 33 = .ok (.getfield 9, 3) := by decide +kernel
theorem dJx4a65c_grow_92f84_36 : decode cJx4a65c_grow_92f84 36 = .ok (.iload_n 3, 1) := by decide +kernel
theorem dJx4a65c_grow_92f84_37 : decode cJx4a65c_grow_92f84 37 = .ok (.invokestatic 66, 3) := by decide +kernel
theorem dJx4a65c_grow_92f84_40 : decode cJx4a65c_grow_92f84 40 = .ok (.dup_x1, 1) := by decide +kernel
theorem dJx4a65c_grow_92f84_41 : decode cJx4a65c_grow_92f84 41 = .ok (.putfield 9, 3) := by decide +kernel
theorem dJx4a65c_grow_92f84_44 : decode cJx4a65c_grow_92f84 44 = .ok (.areturn, 1) := by decide +kernel
theorem dJx4a65c_grow_92f84_45 : decode cJx4a65c_grow_92f84 45 = .ok (.aload_n 0, 1) := by decide +kernel
theorem dJx4a65c_grow_92f84_46 : decode cJx4a65c_grow_92f84 46 = .ok (.bipush 10, 2) := by decide +kernel
theorem dJx4a65c_grow_92f84_48 : decode cJx4a65c_grow_92f84 48 = .ok (.iload_n 1, 1) := by decide +kernel
theorem dJx4a65c_grow_92f84_49 : decode cJx4a65c_grow_92f84 49 = .ok (.invokestatic 79, 3) := by decide +kernel
theorem dJx4a65c_grow_92f84_52 : decode cJx4a65c_grow_92f84 52 = .ok (.anewarray 7, 3) := by decide +kernel
theorem dJx4a65c_grow_92f84_55 : decode cJx4a65c_grow_92f84 55 = .ok (.dup_x1, 1) := by decide +kernel
theorem dJx4a65c_grow_92f84_56 : decode cJx4a65c_grow_92f84 56 = .ok (.putfield 9, 3) := by decide +kernel
theorem dJx4a65c_grow_92f84_59 : decode cJx4a65c_grow_92f84 59 = .ok (.areturn, 1) := by decide +kernel
theorem dJx4a65c_grow_d5877_0 : decode cJx4a65c_grow_d5877 0 = .ok (.aload_n 0, 1) := by decide +kernel
theorem dJx4a65c_grow_d5877_1 : decode cJx4a65c_grow_d5877 1 = .ok (.aload_n 0, 1) := by decide +kernel
theorem dJx4a65c_grow_d5877_2 : decode cJx4a65c_grow_d5877 2 = .ok (.getfield 48, 3) := by decide +kernel
theorem dJx4a65c_grow_d5877_5 : decode cJx4a65c_grow_d5877 5 = .ok (.iconst 1, 1) := by decide +kernel
theorem dJx4a65c_grow_d5877_6 : decode cJx4a65c_grow_d5877 6 = .ok (.iadd, 1) := by decide +kernel
theorem dJx4a65c_grow_d5877_7 : decode cJx4a65c_grow_d5877 7 = .ok (.invokevirtual 69, 3) := by decide +kernel
theorem dJx4a65c_grow_d5877_10 : decode cJx4a65c_grow_d5877 10 = .ok (.areturn, 1) := by decide +kernel
theorem dJx4a65c_size_8abf5_0 : decode cJx4a65c_size_8abf5 0 = .ok (.aload_n 0, 1) := by decide +kernel
theorem dJx4a65c_size_8abf5_1 : decode cJx4a65c_size_8abf5 1 = .ok (.getfield 48, 3) := by decide +kernel
theorem dJx4a65c_size_8abf5_4 : decode cJx4a65c_size_8abf5 4 = .ok (.ireturn, 1) := by decide +kernel
theorem dJx4a65c_elementData_915e3_0 : decode cJx4a65c_elementData_915e3 0 = .ok (.aload_n 0, 1) := by decide +kernel
theorem dJx4a65c_elementData_915e3_1 : decode cJx4a65c_elementData_915e3 1 = .ok (.getfield 9, 3) := by decide +kernel
theorem dJx4a65c_elementData_915e3_4 : decode cJx4a65c_elementData_915e3 4 = .ok (.iload_n 1, 1) := by decide +kernel
theorem dJx4a65c_elementData_915e3_5 : decode cJx4a65c_elementData_915e3 5 = .ok (.aaload, 1) := by decide +kernel
theorem dJx4a65c_elementData_915e3_6 : decode cJx4a65c_elementData_915e3 6 = .ok (.areturn, 1) := by decide +kernel
theorem dJx4a65c_get_915e3_0 : decode cJx4a65c_get_915e3 0 = .ok (.iload_n 1, 1) := by decide +kernel
theorem dJx4a65c_get_915e3_1 : decode cJx4a65c_get_915e3 1 = .ok (.aload_n 0, 1) := by decide +kernel
theorem dJx4a65c_get_915e3_2 : decode cJx4a65c_get_915e3 2 = .ok (.getfield 48, 3) := by decide +kernel
theorem dJx4a65c_get_915e3_5 : decode cJx4a65c_get_915e3 5 = .ok (.invokestatic 118, 3) := by decide +kernel
theorem dJx4a65c_get_915e3_8 : decode cJx4a65c_get_915e3 8 = .ok (.pop, 1) := by decide +kernel
theorem dJx4a65c_get_915e3_9 : decode cJx4a65c_get_915e3 9 = .ok (.aload_n 0, 1) := by decide +kernel
theorem dJx4a65c_get_915e3_10 : decode cJx4a65c_get_915e3 10 = .ok (.iload_n 1, 1) := by decide +kernel
theorem dJx4a65c_get_915e3_11 : decode cJx4a65c_get_915e3 11 = .ok (.invokevirtual 123, 3) := by decide +kernel
theorem dJx4a65c_get_915e3_14 : decode cJx4a65c_get_915e3 14 = .ok (.areturn, 1) := by decide +kernel
theorem dJx4a65c_add_72be8_0 : decode cJx4a65c_add_72be8 0 = .ok (.iload_n 3, 1) := by decide +kernel
theorem dJx4a65c_add_72be8_1 : decode cJx4a65c_add_72be8 1 = .ok (.aload_n 2, 1) := by decide +kernel
theorem dJx4a65c_add_72be8_2 : decode cJx4a65c_add_72be8 2 = .ok (.arraylength, 1) := by decide +kernel
theorem dJx4a65c_add_72be8_3 : decode cJx4a65c_add_72be8 3 = .ok (.if_icmp .ne 8, 3) := by decide +kernel
theorem dJx4a65c_add_72be8_6 : decode cJx4a65c_add_72be8 6 = .ok (.aload_n 0, 1) := by decide +kernel
theorem dJx4a65c_add_72be8_7 : decode cJx4a65c_add_72be8 7 = .ok (.invokevirtual 129, 3) := by decide +kernel
theorem dJx4a65c_add_72be8_10 : decode cJx4a65c_add_72be8 10 = .ok (.astore_n 2, 1) := by decide +kernel
theorem dJx4a65c_add_72be8_11 : decode cJx4a65c_add_72be8 11 = .ok (.aload_n 2, 1) := by decide +kernel
theorem dJx4a65c_add_72be8_12 : decode cJx4a65c_add_72be8 12 = .ok (.iload_n 3, 1) := by decide +kernel
theorem dJx4a65c_add_72be8_13 : decode cJx4a65c_add_72be8 13 = .ok (.aload_n 1, 1) := by decide +kernel
theorem dJx4a65c_add_72be8_14 : decode cJx4a65c_add_72be8 14 = .ok (.aastore, 1) := by decide +kernel
theorem dJx4a65c_add_72be8_15 : decode cJx4a65c_add_72be8 15 = .ok (.aload_n 0, 1) := by decide +kernel
theorem dJx4a65c_add_72be8_16 : decode cJx4a65c_add_72be8 16 = .ok (.iload_n 3, 1) := by decide +kernel
theorem dJx4a65c_add_72be8_17 : decode cJx4a65c_add_72be8 17 = .ok (.iconst 1, 1) := by decide +kernel
theorem dJx4a65c_add_72be8_18 : decode cJx4a65c_add_72be8 18 = .ok (.iadd, 1) := by decide +kernel
theorem dJx4a65c_add_72be8_19 : decode cJx4a65c_add_72be8 19 = .ok (.putfield 48, 3) := by decide +kernel
theorem dJx4a65c_add_72be8_22 : decode cJx4a65c_add_72be8 22 = .ok (.return_, 1) := by decide +kernel
theorem dJx4a65c_add_9ea2d_0 : decode cJx4a65c_add_9ea2d 0 = .ok (.aload_n 0, 1) := by decide +kernel
theorem dJx4a65c_add_9ea2d_1 : decode cJx4a65c_add_9ea2d 1 = .ok (.dup, 1) := by decide +kernel
theorem dJx4a65c_add_9ea2d_2 : decode cJx4a65c_add_9ea2d 2 = .ok (.getfield 63, 3) := by decide +kernel
theorem dJx4a65c_add_9ea2d_5 : decode cJx4a65c_add_9ea2d 5 = .ok (.iconst 1, 1) := by decide +kernel
theorem dJx4a65c_add_9ea2d_6 : decode cJx4a65c_add_9ea2d 6 = .ok (.iadd, 1) := by decide +kernel
theorem dJx4a65c_add_9ea2d_7 : decode cJx4a65c_add_9ea2d 7 = .ok (.putfield 63, 3) := by decide +kernel
theorem dJx4a65c_add_9ea2d_10 : decode cJx4a65c_add_9ea2d 10 = .ok (.aload_n 0, 1) := by decide +kernel
theorem dJx4a65c_add_9ea2d_11 : decode cJx4a65c_add_9ea2d 11 = .ok (.aload_n 1, 1) := by decide +kernel
theorem dJx4a65c_add_9ea2d_12 : decode cJx4a65c_add_9ea2d 12 = .ok (.aload_n 0, 1) := by decide +kernel
theorem dJx4a65c_add_9ea2d_13 : decode cJx4a65c_add_9ea2d 13 = .ok (.getfield 9, 3) := by decide +kernel
theorem dJx4a65c_add_9ea2d_16 : decode cJx4a65c_add_9ea2d 16 = .ok (.aload_n 0, 1) := by decide +kernel
theorem dJx4a65c_add_9ea2d_17 : decode cJx4a65c_add_9ea2d 17 = .ok (.getfield 48, 3) := by decide +kernel
theorem dJx4a65c_add_9ea2d_20 : decode cJx4a65c_add_9ea2d 20 = .ok (.invokevirtual 131, 3) := by decide +kernel
theorem dJx4a65c_add_9ea2d_23 : decode cJx4a65c_add_9ea2d 23 = .ok (.iconst 1, 1) := by decide +kernel
theorem dJx4a65c_add_9ea2d_24 : decode cJx4a65c_add_9ea2d 24 = .ok (.ireturn, 1) := by decide +kernel
theorem dJ7_copyOf_1904c_0 : decode cJ7_copyOf_1904c 0 = .ok (.aload_n 0, 1) := by decide +kernel
theorem dJ7_copyOf_1904c_1 : decode cJ7_copyOf_1904c 1 = .ok (.iload_n 1, 1) := by decide +kernel
theorem dJ7_copyOf_1904c_2 : decode cJ7_copyOf_1904c 2 = .ok (.aload_n 0, 1) := by decide +kernel
theorem dJ7_copyOf_1904c_3 : decode cJ7_copyOf_1904c 3 = .ok (.invokevirtual 86, 3) := by decide +kernel
theorem dJ7_copyOf_1904c_6 : decode cJ7_copyOf_1904c 6 = .ok (.invokestatic 300, 3) := by decide +kernel
theorem dJ7_copyOf_1904c_9 : decode cJ7_copyOf_1904c 9 = .ok (.areturn, 1) := by decide +kernel
theorem dJ7_copyOf_6403c_0 : decode cJ7_copyOf_6403c 0 = .ok (.aload_n 2, 1) := by decide +kernel
theorem dJ7_copyOf_6403c_1 : decode cJ7_copyOf_6403c 1 = .ok (.ldc 110, 2) := by decide +kernel
theorem dJ7_copyOf_6403c_3 : decode cJ7_copyOf_6403c 3 = .ok (.if_acmp .ne 10, 3) := by decide +kernel
theorem dJ7_copyOf_6403c_6 : decode cJ7_copyOf_6403c 6 = .ok (.iload_n 1, 1) := by decide +kernel
theorem dJ7_copyOf_6403c_7 : decode cJ7_copyOf_6403c 7 = .ok (.anewarray 2, 3) := by decide +kernel
theorem dJ7_copyOf_6403c_10 : decode cJ7_copyOf_6403c 10 = .ok (.goto 14, 3) := by decide +kernel
theorem dJ7_copyOf_6403c_13 : decode cJ7_copyOf_6403c 13 = .ok (.aload_n 2, 1) := by decide +kernel
theorem dJ7_copyOf_6403c_14 : decode cJ7_copyOf_6403c 14 = .ok (.invokevirtual 90, 3) := by decide +kernel
theorem dJ7_copyOf_6403c_17 : decode cJ7_copyOf_6403c 17 = .ok (.iload_n 1, 1) := by decide +kernel
theorem dJ7_copyOf_6403c_18 : decode cJ7_copyOf_6403c 18 = .ok (.invokestatic 95, 3) := by decide +kernel
theorem dJ7_copyOf_6403c_21 : decode cJ7_copyOf_6403c 21 = .ok (.checkcast 110, 3) := by decide +kernel
theorem dJ7_copyOf_6403c_24 : decode cJ7_copyOf_6403c 24 = .ok (.astore_n 3, 1) := by decide +kernel
theorem dJ7_copyOf_6403c_25 : decode cJ7_copyOf_6403c 25 = .ok (.aload_n 0, 1) := by decide +kernel
theorem dJ7_copyOf_6403c_26 : decode cJ7_copyOf_6403c 26 = .ok (.iconst 0, 1) := by decide +kernel
theorem dJ7_copyOf_6403c_27 : decode cJ7_copyOf_6403c 27 = .ok (.aload_n 3, 1) := by decide +kernel
theorem dJ7_copyOf_6403c_28 : decode cJ7_copyOf_6403c 28 = .ok (.iconst 0, 1) := by decide +kernel
theorem dJ7_copyOf_6403c_29 : decode cJ7_copyOf_6403c 29 = .ok (.aload_n 0, 1) := by decide +kernel
theorem dJ7_copyOf_6403c_30 : decode cJ7_copyOf_6403c 30 = .ok (.arraylength, 1) := by decide +kernel
theorem dJ7_copyOf_6403c_31 : decode cJ7_copyOf_6403c 31 = .ok (.iload_n 1, 1) := by decide +kernel
theorem dJ7_copyOf_6403c_32 : decode cJ7_copyOf_6403c 32 = .ok (.invokestatic 304, 3) := by decide +kernel
theorem dJ7_copyOf_6403c_35 : decode cJ7_copyOf_6403c 35 = .ok (.invokestatic 150, 3) := by decide +kernel
theorem dJ7_copyOf_6403c_38 : decode cJ7_copyOf_6403c 38 = .ok (.aload_n 3, 1) := by decide +kernel
theorem dJ7_copyOf_6403c_39 : decode cJ7_copyOf_6403c 39 = .ok (.areturn, 1) := by decide +kernel
theorem dJ15_checkIndex_7cf53_0 : decode cJ15_checkIndex_7cf53 0 = .ok (.iload_n 0, 1) := by decide +kernel
theorem dJ15_checkIndex_7cf53_1 : decode cJ15_checkIndex_7cf53 1 = .ok (.iload_n 1, 1) := by decide +kernel
theorem dJ15_checkIndex_7cf53_2 : decode cJ15_checkIndex_7cf53 2 = .ok (.aconst_null, 1) := by decide +kernel
theorem dJ15_checkIndex_7cf53_3 : decode cJ15_checkIndex_7cf53 3 = .ok (.invokestatic 105, 3) := by decide +kernel
theorem dJ15_checkIndex_7cf53_6 : decode cJ15_checkIndex_7cf53 6 = .ok (.ireturn, 1) := by decide +kernel
theorem dJ8_newLength_cabcc_0 : decode cJ8_newLength_cabcc 0 = .ok (.iload_n 0, 1) := by decide +kernel
theorem dJ8_newLength_cabcc_1 : decode cJ8_newLength_cabcc 1 = .ok (.iload_n 1, 1) := by decide +kernel
theorem dJ8_newLength_cabcc_2 : decode cJ8_newLength_cabcc 2 = .ok (.iload_n 2, 1) := by decide +kernel
theorem dJ8_newLength_cabcc_3 : decode cJ8_newLength_cabcc 3 = .ok (.invokestatic 194, 3) := by decide +kernel
theorem dJ8_newLength_cabcc_6 : decode cJ8_newLength_cabcc 6 = .ok (.iadd, 1) := by decide +kernel
theorem dJ8_newLength_cabcc_7 : decode cJ8_newLength_cabcc 7 = .ok (.istore_n 3, 1) := by decide +kernel
theorem dJ8_newLength_cabcc_8 : decode cJ8_newLength_cabcc 8 = .ok (.iconst 0, 1) := by decide +kernel
theorem dJ8_newLength_cabcc_9 : decode cJ8_newLength_cabcc 9 = .ok (.iload_n 3, 1) := by decide +kernel
theorem dJ8_newLength_cabcc_10 : decode cJ8_newLength_cabcc 10 = .ok (.if_icmp .ge 11, 3) := by decide +kernel
theorem dJ8_newLength_cabcc_13 : decode cJ8_newLength_cabcc 13 = .ok (.iload_n 3, 1) := by decide +kernel
theorem dJ8_newLength_cabcc_14 : decode cJ8_newLength_cabcc 14 = .ok (.ldc 200, 2) := by decide +kernel
theorem dJ8_newLength_cabcc_16 : decode cJ8_newLength_cabcc 16 = .ok (.if_icmp .gt 5, 3) := by decide +kernel
theorem dJ8_newLength_cabcc_19 : decode cJ8_newLength_cabcc 19 = .ok (.iload_n 3, 1) := by decide +kernel
theorem dJ8_newLength_cabcc_20 : decode cJ8_newLength_cabcc 20 = .ok (.ireturn, 1) := by decide +kernel
theorem dJ8_newLength_cabcc_21 : decode cJ8_newLength_cabcc 21 = .ok (.iload_n 0, 1) := by decide +kernel
theorem dJ8_newLength_cabcc_22 : decode cJ8_newLength_cabcc 22 = .ok (.iload_n 1, 1) := by decide +kernel
theorem dJ8_newLength_cabcc_23 : decode cJ8_newLength_cabcc 23 = .ok (.invokestatic 201, 3) := by decide +kernel
theorem dJ8_newLength_cabcc_26 : decode cJ8_newLength_cabcc 26 = .ok (.ireturn, 1) := by decide +kernel
theorem dJ8_hugeLength_7cf53_0 : decode cJ8_hugeLength_7cf53 0 = .ok (.iload_n 0, 1) := by decide +kernel
theorem dJ8_hugeLength_7cf53_1 : decode cJ8_hugeLength_7cf53 1 = .ok (.iload_n 1, 1) := by decide +kernel
theorem dJ8_hugeLength_7cf53_2 : decode cJ8_hugeLength_7cf53 2 = .ok (.iadd, 1) := by decide +kernel
theorem dJ8_hugeLength_7cf53_3 : decode cJ8_hugeLength_7cf53 3 = .ok (.istore_n 2, 1) := by decide +kernel
theorem dJ8_hugeLength_7cf53_4 : decode cJ8_hugeLength_7cf53 4 = .ok (.iload_n 2, 1) := by decide +kernel
theorem dJ8_hugeLength_7cf53_5 : decode cJ8_hugeLength_7cf53 5 = .ok (.ifCond .ge 44, 3) := by decide +kernel
theorem dJ8_hugeLength_7cf53_8 : decode cJ8_hugeLength_7cf53 8 = .ok (.new 204, 3) := by decide +kernel
theorem dJ8_hugeLength_7cf53_11 : decode cJ8_hugeLength_7cf53 11 = .ok (.dup, 1) := by decide +kernel
theorem dJ8_hugeLength_7cf53_12 : decode cJ8_hugeLength_7cf53 12 = .ok (.new 89, 3) := by decide +kernel
theorem dJ8_hugeLength_7cf53_15 : decode cJ8_hugeLength_7cf53 15 = .ok (.dup, 1) := by decide +kernel
theorem dJ8_hugeLength_7cf53_16 : decode cJ8_hugeLength_7cf53 16 = .ok (.invokespecial 91, 3) := by decide +kernel
theorem dJ8_hugeLength_7cf53_19 : decode cJ8_hugeLength_7cf53 19 = .ok (.ldc 206, 2) := by decide +kernel
theorem dJ8_hugeLength_7cf53_21 : decode cJ8_hugeLength_7cf53 21 = .ok (.invokevirtual 94, 3) := by decide +kernel
theorem dJ8_hugeLength_7cf53_24 : decode cJ8_hugeLength_7cf53 24 = .ok (.iload_n 0, 1) := by decide +kernel
theorem dJ8_hugeLength_7cf53_25 : decode cJ8_hugeLength_7cf53 25 = .ok (.invokevirtual 98, 3) := by decide +kernel
theorem dJ8_hugeLength_7cf53_28 : decode cJ8_hugeLength_7cf53 28 = .ok (.ldc 208, 2) := by decide +kernel
theorem dJ8_hugeLength_7cf53_30 : decode cJ8_hugeLength_7cf53 30 = .ok (.invokevirtual 94, 3) := by decide +kernel
theorem dJ8_hugeLength_7cf53_33 : decode cJ8_hugeLength_7cf53 33 = .ok (.iload_n 1, 1) := by decide +kernel
theorem dJ8_hugeLength_7cf53_34 : decode cJ8_hugeLength_7cf53 34 = .ok (.invokevirtual 98, 3) := by decide +kernel
theorem dJ8_hugeLength_7cf53_37 : decode cJ8_hugeLength_7cf53 37 = .ok (.ldc 210, 2) := by decide +kernel
theorem dJ8_hugeLength_7cf53_39 : decode cJ8_hugeLength_7cf53 39 = .ok (.invokevirtual 94, 3) := by decide +kernel
theorem dJ8_hugeLength_7cf53_42 : decode cJ8_hugeLength_7cf53 42 = .ok (.invokevirtual 101, 3) := by decide +kernel
theorem dJ8_hugeLength_7cf53_45 : decode cJ8_hugeLength_7cf53 45 = .ok (.invokespecial 212, 3) := by decide +kernel
theorem dJ8_hugeLength_7cf53_48 : decode cJ8_hugeLength_7cf53 48 = .ok (.athrow, 1) := by decide +kernel
theorem dJ8_hugeLength_7cf53_49 : decode cJ8_hugeLength_7cf53 49 = .ok (.iload_n 2, 1) := by decide +kernel
theorem dJ8_hugeLength_7cf53_50 : decode cJ8_hugeLength_7cf53 50 = .ok (.ldc 200, 2) := by decide +kernel
theorem dJ8_hugeLength_7cf53_52 : decode cJ8_hugeLength_7cf53 52 = .ok (.if_icmp .gt 6, 3) := by decide +kernel
theorem dJ8_hugeLength_7cf53_55 : decode cJ8_hugeLength_7cf53 55 = .ok (.ldc 200, 2) := by decide +kernel
theorem dJ8_hugeLength_7cf53_57 : decode cJ8_hugeLength_7cf53 57 = .ok (.ireturn, 1) := by decide +kernel
theorem dJ8_hugeLength_7cf53_58 : decode cJ8_hugeLength_7cf53 58 = .ok (.iload_n 2, 1) := by decide +kernel
theorem dJ8_hugeLength_7cf53_59 : decode cJ8_hugeLength_7cf53 59 = .ok (.ireturn, 1) := by decide +kernel
theorem dJ3_checkIndex_8e157_0 : decode cJ3_checkIndex_8e157 0 = .ok (.iload_n 0, 1) := by decide +kernel
theorem dJ3_checkIndex_8e157_1 : decode cJ3_checkIndex_8e157 1 = .ok (.ifCond .lt 8, 3) := by decide +kernel
theorem dJ3_checkIndex_8e157_4 : decode cJ3_checkIndex_8e157 4 = .ok (.iload_n 0, 1) := by decide +kernel
theorem dJ3_checkIndex_8e157_5 : decode cJ3_checkIndex_8e157 5 = .ok (.iload_n 1, 1) := by decide +kernel
theorem dJ3_checkIndex_8e157_6 : decode cJ3_checkIndex_8e157 6 = .ok (.if_icmp .lt 10, 3) := by decide +kernel
theorem dJ3_checkIndex_8e157_9 : decode cJ3_checkIndex_8e157 9 = .ok (.aload_n 2, 1) := by decide +kernel
theorem dJ3_checkIndex_8e157_10 : decode cJ3_checkIndex_8e157 10 = .ok (.iload_n 0, 1) := by decide +kernel
theorem dJ3_checkIndex_8e157_11 : decode cJ3_checkIndex_8e157 11 = .ok (.iload_n 1, 1) := by decide +kernel
theorem dJ3_checkIndex_8e157_12 : decode cJ3_checkIndex_8e157 12 = .ok (.invokestatic 95, 3) := by decide +kernel
theorem dJ3_checkIndex_8e157_15 : decode cJ3_checkIndex_8e157 15 = .ok (.athrow, 1) := by decide +kernel
theorem dJ3_checkIndex_8e157_16 : decode cJ3_checkIndex_8e157 16 = .ok (.iload_n 0, 1) := by decide +kernel
theorem dJ3_checkIndex_8e157_17 : decode cJ3_checkIndex_8e157 17 = .ok (.ireturn, 1) := by decide +kernel
