theorem dX9_init_0 : decode cX9_init 0 = .ok (.aload_n 0, 1) := by decide +kernel
theorem dX9_init_1 : decode cX9_init 1 = .ok (.invokespecial 1, 3) := by decide +kernel
theorem dX9_init_4 : decode cX9_init 4 = .ok (.aload_n 0, 1) := by decide +kernel
theorem dX9_init_5 : decode cX9_init 5 = .ok (.sipush 220, 3) := by decide +kernel
theorem dX9_init_8 : decode cX9_init 8 = .ok (.newarray .long, 2) := by decide +kernel
theorem dX9_init_10 : decode cX9_init 10 = .ok (.putfield 9, 3) := by decide +kernel
theorem dX9_init_13 : decode cX9_init 13 = .ok (.aload_n 0, 1) := by decide +kernel
theorem dX9_init_14 : decode cX9_init 14 = .ok (.sipush 220, 3) := by decide +kernel
theorem dX9_init_17 : decode cX9_init 17 = .ok (.newarray .long, 2) := by decide +kernel
theorem dX9_init_19 : decode cX9_init 19 = .ok (.putfield 13, 3) := by decide +kernel
theorem dX9_init_22 : decode cX9_init 22 = .ok (.aload_n 0, 1) := by decide +kernel
theorem dX9_init_23 : decode cX9_init 23 = .ok (.sipush 220, 3) := by decide +kernel
theorem dX9_init_26 : decode cX9_init 26 = .ok (.newarray .long, 2) := by decide +kernel
theorem dX9_init_28 : decode cX9_init 28 = .ok (.putfield 16, 3) := by decide +kernel
theorem dX9_init_31 : decode cX9_init 31 = .ok (.aload_n 0, 1) := by decide +kernel
theorem dX9_init_32 : decode cX9_init 32 = .ok (.sipush 2200, 3) := by decide +kernel
theorem dX9_init_35 : decode cX9_init 35 = .ok (.newarray .long, 2) := by decide +kernel
theorem dX9_init_37 : decode cX9_init 37 = .ok (.putfield 19, 3) := by decide +kernel
theorem dX9_init_40 : decode cX9_init 40 = .ok (.aload_n 0, 1) := by decide +kernel
theorem dX9_init_41 : decode cX9_init 41 = .ok (.sipush 440, 3) := by decide +kernel
theorem dX9_init_44 : decode cX9_init 44 = .ok (.newarray .long, 2) := by decide +kernel
theorem dX9_init_46 : decode cX9_init 46 = .ok (.putfield 22, 3) := by decide +kernel
theorem dX9_init_49 : decode cX9_init 49 = .ok (.aload_n 0, 1) := by decide +kernel
theorem dX9_init_50 : decode cX9_init 50 = .ok (.iconst 2, 1) := by decide +kernel
theorem dX9_init_51 : decode cX9_init 51 = .ok (.newarray .boolean, 2) := by decide +kernel
theorem dX9_init_53 : decode cX9_init 53 = .ok (.putfield 25, 3) := by decide +kernel
theorem dX9_init_56 : decode cX9_init 56 = .ok (.aload_n 0, 1) := by decide +kernel
theorem dX9_init_57 : decode cX9_init 57 = .ok (.sipush 400, 3) := by decide +kernel
theorem dX9_init_60 : decode cX9_init 60 = .ok (.newarray .byte, 2) := by decide +kernel
theorem dX9_init_62 : decode cX9_init 62 = .ok (.putfield 29, 3) := by decide +kernel
theorem dX9_init_65 : decode cX9_init 65 = .ok (.aload_n 0, 1) := by decide +kernel
theorem dX9_init_66 : decode cX9_init 66 = .ok (.bipush 36, 2) := by decide +kernel
theorem dX9_init_68 : decode cX9_init 68 = .ok (.newarray .int, 2) := by decide +kernel
theorem dX9_init_70 : decode cX9_init 70 = .ok (.putfield 33, 3) := by decide +kernel
theorem dX9_init_73 : decode cX9_init 73 = .ok (.aload_n 0, 1) := by decide +kernel
theorem dX9_init_74 : decode cX9_init 74 = .ok (.bipush 16, 2) := by decide +kernel
theorem dX9_init_76 : decode cX9_init 76 = .ok (.newarray .int, 2) := by decide +kernel
theorem dX9_init_78 : decode cX9_init 78 = .ok (.putfield 37, 3) := by decide +kernel
theorem dX9_init_81 : decode cX9_init 81 = .ok (.aload_n 0, 1) := by decide +kernel
theorem dX9_init_82 : decode cX9_init 82 = .ok (.bipush 16, 2) := by decide +kernel
theorem dX9_init_84 : decode cX9_init 84 = .ok (.newarray .int, 2) := by decide +kernel
theorem dX9_init_86 : decode cX9_init 86 = .ok (.putfield 40, 3) := by decide +kernel
theorem dX9_init_89 : decode cX9_init 89 = .ok (.aload_n 0, 1) := by decide +kernel
theorem dX9_init_90 : decode cX9_init 90 = .ok (.bipush 16, 2) := by decide +kernel
theorem dX9_init_92 : decode cX9_init 92 = .ok (.newarray .int, 2) := by decide +kernel
theorem dX9_init_94 : decode cX9_init 94 = .ok (.putfield 43, 3) := by decide +kernel
theorem dX9_init_97 : decode cX9_init 97 = .ok (.aload_n 0, 1) := by decide +kernel
theorem dX9_init_98 : decode cX9_init 98 = .ok (.bipush 16, 2) := by decide +kernel
theorem dX9_init_100 : decode cX9_init 100 = .ok (.newarray .int, 2) := by decide +kernel
theorem dX9_init_102 : decode cX9_init 102 = .ok (.putfield 46, 3) := by decide +kernel
theorem dX9_init_105 : decode cX9_init 105 = .ok (.aload_n 0, 1) := by decide +kernel
theorem dX9_init_106 : decode cX9_init 106 = .ok (.bipush 16, 2) := by decide +kernel
theorem dX9_init_108 : decode cX9_init 108 = .ok (.newarray .int, 2) := by decide +kernel
theorem dX9_init_110 : decode cX9_init 110 = .ok (.putfield 49, 3) := by decide +kernel
theorem dX9_init_113 : decode cX9_init 113 = .ok (.return_, 1) := by decide +kernel
theorem dX9_in_0 : decode cX9_in 0 = .ok (.lload_n 0, 1) := by decide +kernel
theorem dX9_in_1 : decode cX9_in 1 = .ok (.lload_n 2, 1) := by decide +kernel
theorem dX9_in_2 : decode cX9_in 2 = .ok (.lcmp, 1) := by decide +kernel
theorem dX9_in_3 : decode cX9_in 3 = .ok (.ifCond .lt 14, 3) := by decide +kernel
theorem dX9_in_6 : decode cX9_in 6 = .ok (.lload_n 0, 1) := by decide +kernel
theorem dX9_in_7 : decode cX9_in 7 = .ok (.lload 4, 2) := by decide +kernel
theorem dX9_in_9 : decode cX9_in 9 = .ok (.lcmp, 1) := by decide +kernel
theorem dX9_in_10 : decode cX9_in 10 = .ok (.ifCond .gt 7, 3) := by decide +kernel
theorem dX9_in_13 : decode cX9_in 13 = .ok (.iconst 1, 1) := by decide +kernel
theorem dX9_in_14 : decode cX9_in 14 = .ok (.goto 4, 3) := by decide +kernel
theorem dX9_in_17 : decode cX9_in 17 = .ok (.iconst 0, 1) := by decide +kernel
theorem dX9_in_18 : decode cX9_in 18 = .ok (.ireturn, 1) := by decide +kernel
theorem dX9_truth_0 : decode cX9_truth 0 = .ok (.iload_n 0, 1) := by decide +kernel
theorem dX9_truth_1 : decode cX9_truth 1 = .ok (.ifCond .eq 7, 3) := by decide +kernel
theorem dX9_truth_4 : decode cX9_truth 4 = .ok (.iconst 1, 1) := by decide +kernel
theorem dX9_truth_5 : decode cX9_truth 5 = .ok (.goto 4, 3) := by decide +kernel
theorem dX9_truth_8 : decode cX9_truth 8 = .ok (.iconst 0, 1) := by decide +kernel
theorem dX9_truth_9 : decode cX9_truth 9 = .ok (.ireturn, 1) := by decide +kernel
theorem dX9_moves_0 : decode cX9_moves 0 = .ok (.iconst 0, 1) := by decide +kernel
theorem dX9_moves_1 : decode cX9_moves 1 = .ok (.istore 4, 2) := by decide +kernel
theorem dX9_moves_3 : decode cX9_moves 3 = .ok (.iload 4, 2) := by decide +kernel
theorem dX9_moves_5 : decode cX9_moves 5 = .ok (.sipush 220, 3) := by decide +kernel
theorem dX9_moves_8 : decode cX9_moves 8 = .ok (.if_icmp .ge 29, 3) := by decide +kernel
theorem dX9_moves_11 : decode cX9_moves 11 = .ok (.aload_n 2, 1) := by decide +kernel
theorem dX9_moves_12 : decode cX9_moves 12 = .ok (.sipush 220, 3) := by decide +kernel
theorem dX9_moves_15 : decode cX9_moves 15 = .ok (.iload_n 3, 1) := by decide +kernel
theorem dX9_moves_16 : decode cX9_moves 16 = .ok (.imul, 1) := by decide +kernel
theorem dX9_moves_17 : decode cX9_moves 17 = .ok (.iload 4, 2) := by decide +kernel
theorem dX9_moves_19 : decode cX9_moves 19 = .ok (.iadd, 1) := by decide +kernel
theorem dX9_moves_20 : decode cX9_moves 20 = .ok (.aload_n 0, 1) := by decide +kernel
theorem dX9_moves_21 : decode cX9_moves 21 = .ok (.sipush 220, 3) := by decide +kernel
theorem dX9_moves_24 : decode cX9_moves 24 = .ok (.iload_n 1, 1) := by decide +kernel
theorem dX9_moves_25 : decode cX9_moves 25 = .ok (.imul, 1) := by decide +kernel
theorem dX9_moves_26 : decode cX9_moves 26 = .ok (.iload 4, 2) := by decide +kernel
theorem dX9_moves_28 : decode cX9_moves 28 = .ok (.iadd, 1) := by decide +kernel
theorem dX9_moves_29 : decode cX9_moves 29 = .ok (.laload, 1) := by decide +kernel
theorem dX9_moves_30 : decode cX9_moves 30 = .ok (.lastore, 1) := by decide +kernel
theorem dX9_moves_31 : decode cX9_moves 31 = .ok (.iinc 4 1, 3) := by decide +kernel
theorem dX9_moves_34 : decode cX9_moves 34 = .ok (.goto (-31), 3) := by decide +kernel
theorem dX9_moves_37 : decode cX9_moves 37 = .ok (.return_, 1) := by decide +kernel
theorem dX9_many_0 : decode cX9_many 0 = .ok (.aload_n 0, 1) := by decide +kernel
theorem dX9_many_1 : decode cX9_many 1 = .ok (.getfield 9, 3) := by decide +kernel
theorem dX9_many_4 : decode cX9_many 4 = .ok (.iload_n 1, 1) := by decide +kernel
theorem dX9_many_5 : decode cX9_many 5 = .ok (.laload, 1) := by decide +kernel
theorem dX9_many_6 : decode cX9_many 6 = .ok (.l2i, 1) := by decide +kernel
theorem dX9_many_7 : decode cX9_many 7 = .ok (.ireturn, 1) := by decide +kernel
theorem dX9_seg_0 : decode cX9_seg 0 = .ok (.aload_n 0, 1) := by decide +kernel
theorem dX9_seg_1 : decode cX9_seg 1 = .ok (.getfield 9, 3) := by decide +kernel
theorem dX9_seg_4 : decode cX9_seg 4 = .ok (.bipush 12, 2) := by decide +kernel
theorem dX9_seg_6 : decode cX9_seg 6 = .ok (.iconst 2, 1) := by decide +kernel
theorem dX9_seg_7 : decode cX9_seg 7 = .ok (.iload_n 1, 1) := by decide +kernel
theorem dX9_seg_8 : decode cX9_seg 8 = .ok (.imul, 1) := by decide +kernel
theorem dX9_seg_9 : decode cX9_seg 9 = .ok (.iadd, 1) := by decide +kernel
theorem dX9_seg_10 : decode cX9_seg 10 = .ok (.iload_n 2, 1) := by decide +kernel
theorem dX9_seg_11 : decode cX9_seg 11 = .ok (.iadd, 1) := by decide +kernel
theorem dX9_seg_12 : decode cX9_seg 12 = .ok (.laload, 1) := by decide +kernel
theorem dX9_seg_13 : decode cX9_seg 13 = .ok (.l2i, 1) := by decide +kernel
theorem dX9_seg_14 : decode cX9_seg 14 = .ok (.ireturn, 1) := by decide +kernel
theorem dX9_pointOf_0 : decode cX9_pointOf 0 = .ok (.aload_n 0, 1) := by decide +kernel
theorem dX9_pointOf_1 : decode cX9_pointOf 1 = .ok (.getfield 9, 3) := by decide +kernel
theorem dX9_pointOf_4 : decode cX9_pointOf 4 = .ok (.bipush 26, 2) := by decide +kernel
theorem dX9_pointOf_6 : decode cX9_pointOf 6 = .ok (.iconst 4, 1) := by decide +kernel
theorem dX9_pointOf_7 : decode cX9_pointOf 7 = .ok (.iload_n 1, 1) := by decide +kernel
theorem dX9_pointOf_8 : decode cX9_pointOf 8 = .ok (.imul, 1) := by decide +kernel
theorem dX9_pointOf_9 : decode cX9_pointOf 9 = .ok (.iadd, 1) := by decide +kernel
theorem dX9_pointOf_10 : decode cX9_pointOf 10 = .ok (.iload_n 2, 1) := by decide +kernel
theorem dX9_pointOf_11 : decode cX9_pointOf 11 = .ok (.iadd, 1) := by decide +kernel
theorem dX9_pointOf_12 : decode cX9_pointOf 12 = .ok (.laload, 1) := by decide +kernel
theorem dX9_pointOf_13 : decode cX9_pointOf 13 = .ok (.l2i, 1) := by decide +kernel
theorem dX9_pointOf_14 : decode cX9_pointOf 14 = .ok (.ireturn, 1) := by decide +kernel
theorem dX9_ship_0 : decode cX9_ship 0 = .ok (.aload_n 0, 1) := by decide +kernel
theorem dX9_ship_1 : decode cX9_ship 1 = .ok (.getfield 9, 3) := by decide +kernel
theorem dX9_ship_4 : decode cX9_ship 4 = .ok (.bipush 66, 2) := by decide +kernel
theorem dX9_ship_6 : decode cX9_ship 6 = .ok (.bipush 7, 2) := by decide +kernel
theorem dX9_ship_8 : decode cX9_ship 8 = .ok (.iload_n 1, 1) := by decide +kernel
theorem dX9_ship_9 : decode cX9_ship 9 = .ok (.imul, 1) := by decide +kernel
theorem dX9_ship_10 : decode cX9_ship 10 = .ok (.iadd, 1) := by decide +kernel
theorem dX9_ship_11 : decode cX9_ship 11 = .ok (.iload_n 2, 1) := by decide +kernel
theorem dX9_ship_12 : decode cX9_ship 12 = .ok (.iadd, 1) := by decide +kernel
theorem dX9_ship_13 : decode cX9_ship 13 = .ok (.laload, 1) := by decide +kernel
theorem dX9_ship_14 : decode cX9_ship 14 = .ok (.lreturn, 1) := by decide +kernel
theorem dX9_nom_0 : decode cX9_nom 0 = .ok (.aload_n 0, 1) := by decide +kernel
theorem dX9_nom_1 : decode cX9_nom 1 = .ok (.getfield 9, 3) := by decide +kernel
theorem dX9_nom_4 : decode cX9_nom 4 = .ok (.bipush 108, 2) := by decide +kernel
theorem dX9_nom_6 : decode cX9_nom 6 = .ok (.iconst 4, 1) := by decide +kernel
theorem dX9_nom_7 : decode cX9_nom 7 = .ok (.iload_n 1, 1) := by decide +kernel
theorem dX9_nom_8 : decode cX9_nom 8 = .ok (.imul, 1) := by decide +kernel
theorem dX9_nom_9 : decode cX9_nom 9 = .ok (.iadd, 1) := by decide +kernel
theorem dX9_nom_10 : decode cX9_nom 10 = .ok (.iload_n 2, 1) := by decide +kernel
theorem dX9_nom_11 : decode cX9_nom 11 = .ok (.iadd, 1) := by decide +kernel
theorem dX9_nom_12 : decode cX9_nom 12 = .ok (.laload, 1) := by decide +kernel
theorem dX9_nom_13 : decode cX9_nom 13 = .ok (.l2i, 1) := by decide +kernel
theorem dX9_nom_14 : decode cX9_nom 14 = .ok (.ireturn, 1) := by decide +kernel
theorem dX9_feed_0 : decode cX9_feed 0 = .ok (.aload_n 0, 1) := by decide +kernel
theorem dX9_feed_1 : decode cX9_feed 1 = .ok (.getfield 52, 3) := by decide +kernel
theorem dX9_feed_4 : decode cX9_feed 4 = .ok (.bipush 20, 2) := by decide +kernel
theorem dX9_feed_6 : decode cX9_feed 6 = .ok (.iadd, 1) := by decide +kernel
theorem dX9_feed_7 : decode cX9_feed 7 = .ok (.sipush 400, 3) := by decide +kernel
theorem dX9_feed_10 : decode cX9_feed 10 = .ok (.if_icmp .le 5, 3) := by decide +kernel
theorem dX9_feed_13 : decode cX9_feed 13 = .ok (.iconst (-1), 1) := by decide +kernel
theorem dX9_feed_14 : decode cX9_feed 14 = .ok (.ireturn, 1) := by decide +kernel
theorem dX9_feed_15 : decode cX9_feed 15 = .ok (.aload_n 0, 1) := by decide +kernel
theorem dX9_feed_16 : decode cX9_feed 16 = .ok (.iload_n 1, 1) := by decide +kernel
theorem dX9_feed_17 : decode cX9_feed 17 = .ok (.invokevirtual 56, 3) := by decide +kernel
theorem dX9_feed_20 : decode cX9_feed 20 = .ok (.aload_n 0, 1) := by decide +kernel
theorem dX9_feed_21 : decode cX9_feed 21 = .ok (.iload_n 2, 1) := by decide +kernel
theorem dX9_feed_22 : decode cX9_feed 22 = .ok (.invokevirtual 56, 3) := by decide +kernel
theorem dX9_feed_25 : decode cX9_feed 25 = .ok (.aload_n 0, 1) := by decide +kernel
theorem dX9_feed_26 : decode cX9_feed 26 = .ok (.iload_n 3, 1) := by decide +kernel
theorem dX9_feed_27 : decode cX9_feed 27 = .ok (.invokevirtual 56, 3) := by decide +kernel
theorem dX9_feed_30 : decode cX9_feed 30 = .ok (.aload_n 0, 1) := by decide +kernel
theorem dX9_feed_31 : decode cX9_feed 31 = .ok (.iload 4, 2) := by decide +kernel
theorem dX9_feed_33 : decode cX9_feed 33 = .ok (.invokevirtual 56, 3) := by decide +kernel
theorem dX9_feed_36 : decode cX9_feed 36 = .ok (.aload_n 0, 1) := by decide +kernel
theorem dX9_feed_37 : decode cX9_feed 37 = .ok (.iload 5, 2) := by decide +kernel
theorem dX9_feed_39 : decode cX9_feed 39 = .ok (.invokevirtual 56, 3) := by decide +kernel
theorem dX9_feed_42 : decode cX9_feed 42 = .ok (.aload_n 0, 1) := by decide +kernel
theorem dX9_feed_43 : decode cX9_feed 43 = .ok (.getfield 52, 3) := by decide +kernel
theorem dX9_feed_46 : decode cX9_feed 46 = .ok (.ireturn, 1) := by decide +kernel
theorem dX9_puts_0 : decode cX9_puts 0 = .ok (.bipush 24, 2) := by decide +kernel
theorem dX9_puts_2 : decode cX9_puts 2 = .ok (.istore_n 2, 1) := by decide +kernel
theorem dX9_puts_3 : decode cX9_puts 3 = .ok (.iload_n 2, 1) := by decide +kernel
theorem dX9_puts_4 : decode cX9_puts 4 = .ok (.ifCond .lt 32, 3) := by decide +kernel
theorem dX9_puts_7 : decode cX9_puts 7 = .ok (.aload_n 0, 1) := by decide +kernel
theorem dX9_puts_8 : decode cX9_puts 8 = .ok (.getfield 29, 3) := by decide +kernel
theorem dX9_puts_11 : decode cX9_puts 11 = .ok (.aload_n 0, 1) := by decide +kernel
theorem dX9_puts_12 : decode cX9_puts 12 = .ok (.getfield 52, 3) := by decide +kernel
theorem dX9_puts_15 : decode cX9_puts 15 = .ok (.iload_n 1, 1) := by decide +kernel
theorem dX9_puts_16 : decode cX9_puts 16 = .ok (.iload_n 2, 1) := by decide +kernel
theorem dX9_puts_17 : decode cX9_puts 17 = .ok (.ishr, 1) := by decide +kernel
theorem dX9_puts_18 : decode cX9_puts 18 = .ok (.i2b, 1) := by decide +kernel
theorem dX9_puts_19 : decode cX9_puts 19 = .ok (.bastore, 1) := by decide +kernel
theorem dX9_puts_20 : decode cX9_puts 20 = .ok (.aload_n 0, 1) := by decide +kernel
theorem dX9_puts_21 : decode cX9_puts 21 = .ok (.dup, 1) := by decide +kernel
theorem dX9_puts_22 : decode cX9_puts 22 = .ok (.getfield 52, 3) := by decide +kernel
theorem dX9_puts_25 : decode cX9_puts 25 = .ok (.iconst 1, 1) := by decide +kernel
theorem dX9_puts_26 : decode cX9_puts 26 = .ok (.iadd, 1) := by decide +kernel
theorem dX9_puts_27 : decode cX9_puts 27 = .ok (.putfield 52, 3) := by decide +kernel
theorem dX9_puts_30 : decode cX9_puts 30 = .ok (.iinc 2 (-8), 3) := by decide +kernel
theorem dX9_puts_33 : decode cX9_puts 33 = .ok (.goto (-30), 3) := by decide +kernel
theorem dX9_puts_36 : decode cX9_puts 36 = .ok (.return_, 1) := by decide +kernel
theorem dX9_end_0 : decode cX9_end 0 = .ok (.iload_n 1, 1) := by decide +kernel
theorem dX9_end_1 : decode cX9_end 1 = .ok (.ifCond .lt 11, 3) := by decide +kernel
theorem dX9_end_4 : decode cX9_end 4 = .ok (.iload_n 1, 1) := by decide +kernel
theorem dX9_end_5 : decode cX9_end 5 = .ok (.aload_n 0, 1) := by decide +kernel
theorem dX9_end_6 : decode cX9_end 6 = .ok (.getfield 52, 3) := by decide +kernel
theorem dX9_end_9 : decode cX9_end 9 = .ok (.if_icmp .le 5, 3) := by decide +kernel
theorem dX9_end_12 : decode cX9_end 12 = .ok (.iconst (-1), 1) := by decide +kernel
theorem dX9_end_13 : decode cX9_end 13 = .ok (.ireturn, 1) := by decide +kernel
theorem dX9_end_14 : decode cX9_end 14 = .ok (.aload_n 0, 1) := by decide +kernel
theorem dX9_end_15 : decode cX9_end 15 = .ok (.iload_n 1, 1) := by decide +kernel
theorem dX9_end_16 : decode cX9_end 16 = .ok (.putfield 52, 3) := by decide +kernel
theorem dX9_end_19 : decode cX9_end 19 = .ok (.iload_n 1, 1) := by decide +kernel
theorem dX9_end_20 : decode cX9_end 20 = .ok (.ireturn, 1) := by decide +kernel
theorem dX9_sign_0 : decode cX9_sign 0 = .ok (.aload_n 0, 1) := by decide +kernel
theorem dX9_sign_1 : decode cX9_sign 1 = .ok (.getfield 60, 3) := by decide +kernel
theorem dX9_sign_4 : decode cX9_sign 4 = .ok (.aload_n 0, 1) := by decide +kernel
theorem dX9_sign_5 : decode cX9_sign 5 = .ok (.getfield 52, 3) := by decide +kernel
theorem dX9_sign_8 : decode cX9_sign 8 = .ok (.if_icmp .ge 19, 3) := by decide +kernel
theorem dX9_sign_11 : decode cX9_sign 11 = .ok (.aload_n 0, 1) := by decide +kernel
theorem dX9_sign_12 : decode cX9_sign 12 = .ok (.getfield 29, 3) := by decide +kernel
theorem dX9_sign_15 : decode cX9_sign 15 = .ok (.aload_n 0, 1) := by decide +kernel
theorem dX9_sign_16 : decode cX9_sign 16 = .ok (.getfield 60, 3) := by decide +kernel
theorem dX9_sign_19 : decode cX9_sign 19 = .ok (.baload, 1) := by decide +kernel
theorem dX9_sign_20 : decode cX9_sign 20 = .ok (.sipush 255, 3) := by decide +kernel
theorem dX9_sign_23 : decode cX9_sign 23 = .ok (.iand, 1) := by decide +kernel
theorem dX9_sign_24 : decode cX9_sign 24 = .ok (.goto 4, 3) := by decide +kernel
theorem dX9_sign_27 : decode cX9_sign 27 = .ok (.iconst (-1), 1) := by decide +kernel
theorem dX9_sign_28 : decode cX9_sign 28 = .ok (.ireturn, 1) := by decide +kernel
theorem dX9_next_0 : decode cX9_next 0 = .ok (.aload_n 0, 1) := by decide +kernel
theorem dX9_next_1 : decode cX9_next 1 = .ok (.invokevirtual 63, 3) := by decide +kernel
theorem dX9_next_4 : decode cX9_next 4 = .ok (.bipush 32, 2) := by decide +kernel
theorem dX9_next_6 : decode cX9_next 6 = .ok (.if_icmp .ne 16, 3) := by decide +kernel
theorem dX9_next_9 : decode cX9_next 9 = .ok (.aload_n 0, 1) := by decide +kernel
theorem dX9_next_10 : decode cX9_next 10 = .ok (.dup, 1) := by decide +kernel
theorem dX9_next_11 : decode cX9_next 11 = .ok (.getfield 60, 3) := by decide +kernel
theorem dX9_next_14 : decode cX9_next 14 = .ok (.iconst 1, 1) := by decide +kernel
theorem dX9_next_15 : decode cX9_next 15 = .ok (.iadd, 1) := by decide +kernel
theorem dX9_next_16 : decode cX9_next 16 = .ok (.putfield 60, 3) := by decide +kernel
theorem dX9_next_19 : decode cX9_next 19 = .ok (.goto (-19), 3) := by decide +kernel
theorem dX9_next_22 : decode cX9_next 22 = .ok (.aload_n 0, 1) := by decide +kernel
theorem dX9_next_23 : decode cX9_next 23 = .ok (.invokevirtual 63, 3) := by decide +kernel
theorem dX9_next_26 : decode cX9_next 26 = .ok (.ireturn, 1) := by decide +kernel
theorem dX9_isRight_0 : decode cX9_isRight 0 = .ok (.aload_n 0, 1) := by decide +kernel
theorem dX9_isRight_1 : decode cX9_isRight 1 = .ok (.getfield 67, 3) := by decide +kernel
theorem dX9_isRight_4 : decode cX9_isRight 4 = .ok (.iconst (-1), 1) := by decide +kernel
theorem dX9_isRight_5 : decode cX9_isRight 5 = .ok (.if_icmp .ne 7, 3) := by decide +kernel
theorem dX9_isRight_8 : decode cX9_isRight 8 = .ok (.iconst 1, 1) := by decide +kernel
theorem dX9_isRight_9 : decode cX9_isRight 9 = .ok (.goto 4, 3) := by decide +kernel
theorem dX9_isRight_12 : decode cX9_isRight 12 = .ok (.iconst 0, 1) := by decide +kernel
theorem dX9_isRight_13 : decode cX9_isRight 13 = .ok (.ireturn, 1) := by decide +kernel
theorem dX9_fails_0 : decode cX9_fails 0 = .ok (.aload_n 0, 1) := by decide +kernel
theorem dX9_fails_1 : decode cX9_fails 1 = .ok (.invokevirtual 70, 3) := by decide +kernel
theorem dX9_fails_4 : decode cX9_fails 4 = .ok (.ifCond .eq 13, 3) := by decide +kernel
theorem dX9_fails_7 : decode cX9_fails 7 = .ok (.aload_n 0, 1) := by decide +kernel
theorem dX9_fails_8 : decode cX9_fails 8 = .ok (.bipush 8, 2) := by decide +kernel
theorem dX9_fails_10 : decode cX9_fails 10 = .ok (.iload_n 2, 1) := by decide +kernel
theorem dX9_fails_11 : decode cX9_fails 11 = .ok (.imul, 1) := by decide +kernel
theorem dX9_fails_12 : decode cX9_fails 12 = .ok (.iload_n 1, 1) := by decide +kernel
theorem dX9_fails_13 : decode cX9_fails 13 = .ok (.iadd, 1) := by decide +kernel
theorem dX9_fails_14 : decode cX9_fails 14 = .ok (.putfield 67, 3) := by decide +kernel
theorem dX9_fails_17 : decode cX9_fails 17 = .ok (.return_, 1) := by decide +kernel
theorem dX9_isWord_0 : decode cX9_isWord 0 = .ok (.aload_n 0, 1) := by decide +kernel
theorem dX9_isWord_1 : decode cX9_isWord 1 = .ok (.invokevirtual 74, 3) := by decide +kernel
theorem dX9_isWord_4 : decode cX9_isWord 4 = .ok (.pop, 1) := by decide +kernel
theorem dX9_isWord_5 : decode cX9_isWord 5 = .ok (.iconst 0, 1) := by decide +kernel
theorem dX9_isWord_6 : decode cX9_isWord 6 = .ok (.istore_n 2, 1) := by decide +kernel
theorem dX9_isWord_7 : decode cX9_isWord 7 = .ok (.aload_n 0, 1) := by decide +kernel
theorem dX9_isWord_8 : decode cX9_isWord 8 = .ok (.getfield 60, 3) := by decide +kernel
theorem dX9_isWord_11 : decode cX9_isWord 11 = .ok (.iload_n 2, 1) := by decide +kernel
theorem dX9_isWord_12 : decode cX9_isWord 12 = .ok (.iadd, 1) := by decide +kernel
theorem dX9_isWord_13 : decode cX9_isWord 13 = .ok (.aload_n 0, 1) := by decide +kernel
theorem dX9_isWord_14 : decode cX9_isWord 14 = .ok (.getfield 52, 3) := by decide +kernel
theorem dX9_isWord_17 : decode cX9_isWord 17 = .ok (.if_icmp .ge 33, 3) := by decide +kernel
theorem dX9_isWord_20 : decode cX9_isWord 20 = .ok (.aload_n 0, 1) := by decide +kernel
theorem dX9_isWord_21 : decode cX9_isWord 21 = .ok (.getfield 29, 3) := by decide +kernel
theorem dX9_isWord_24 : decode cX9_isWord 24 = .ok (.aload_n 0, 1) := by decide +kernel
theorem dX9_isWord_25 : decode cX9_isWord 25 = .ok (.getfield 60, 3) := by decide +kernel
theorem dX9_isWord_28 : decode cX9_isWord 28 = .ok (.iload_n 2, 1) := by decide +kernel
theorem dX9_isWord_29 : decode cX9_isWord 29 = .ok (.iadd, 1) := by decide +kernel
theorem dX9_isWord_30 : decode cX9_isWord 30 = .ok (.baload, 1) := by decide +kernel
theorem dX9_isWord_31 : decode cX9_isWord 31 = .ok (.i2l, 1) := by decide +kernel
theorem dX9_isWord_32 : decode cX9_isWord 32 = .ok (.ldc2_w 77, 3) := by decide +kernel
theorem dX9_isWord_35 : decode cX9_isWord 35 = .ok (.ldc2_w 79, 3) := by decide +kernel
theorem dX9_isWord_38 : decode cX9_isWord 38 = .ok (.invokestatic 81, 3) := by decide +kernel
theorem dX9_isWord_41 : decode cX9_isWord 41 = .ok (.ifCond .eq 9, 3) := by decide +kernel
theorem dX9_isWord_44 : decode cX9_isWord 44 = .ok (.iinc 2 1, 3) := by decide +kernel
theorem dX9_isWord_47 : decode cX9_isWord 47 = .ok (.goto (-40), 3) := by decide +kernel
theorem dX9_isWord_50 : decode cX9_isWord 50 = .ok (.iload_n 2, 1) := by decide +kernel
theorem dX9_isWord_51 : decode cX9_isWord 51 = .ok (.aload_n 1, 1) := by decide +kernel
theorem dX9_isWord_52 : decode cX9_isWord 52 = .ok (.invokevirtual 85, 3) := by decide +kernel
theorem dX9_isWord_55 : decode cX9_isWord 55 = .ok (.if_icmp .ne 7, 3) := by decide +kernel
theorem dX9_isWord_58 : decode cX9_isWord 58 = .ok (.iconst 1, 1) := by decide +kernel
theorem dX9_isWord_59 : decode cX9_isWord 59 = .ok (.goto 4, 3) := by decide +kernel
theorem dX9_isWord_62 : decode cX9_isWord 62 = .ok (.iconst 0, 1) := by decide +kernel
theorem dX9_isWord_63 : decode cX9_isWord 63 = .ok (.istore_n 3, 1) := by decide +kernel
theorem dX9_isWord_64 : decode cX9_isWord 64 = .ok (.iconst 0, 1) := by decide +kernel
theorem dX9_isWord_65 : decode cX9_isWord 65 = .ok (.istore 4, 2) := by decide +kernel
theorem dX9_isWord_67 : decode cX9_isWord 67 = .ok (.iload 4, 2) := by decide +kernel
theorem dX9_isWord_69 : decode cX9_isWord 69 = .ok (.iload_n 2, 1) := by decide +kernel
theorem dX9_isWord_70 : decode cX9_isWord 70 = .ok (.if_icmp .ge 40, 3) := by decide +kernel
theorem dX9_isWord_73 : decode cX9_isWord 73 = .ok (.iload_n 3, 1) := by decide +kernel
theorem dX9_isWord_74 : decode cX9_isWord 74 = .ok (.ifCond .eq 36, 3) := by decide +kernel
theorem dX9_isWord_77 : decode cX9_isWord 77 = .ok (.aload_n 0, 1) := by decide +kernel
theorem dX9_isWord_78 : decode cX9_isWord 78 = .ok (.getfield 29, 3) := by decide +kernel
theorem dX9_isWord_81 : decode cX9_isWord 81 = .ok (.aload_n 0, 1) := by decide +kernel
theorem dX9_isWord_82 : decode cX9_isWord 82 = .ok (.getfield 60, 3) := by decide +kernel
theorem dX9_isWord_85 : decode cX9_isWord 85 = .ok (.iload 4, 2) := by decide +kernel
theorem dX9_isWord_87 : decode cX9_isWord 87 = .ok (.iadd, 1) := by decide +kernel
theorem dX9_isWord_88 : decode cX9_isWord 88 = .ok (.baload, 1) := by decide +kernel
theorem dX9_isWord_89 : decode cX9_isWord 89 = .ok (.aload_n 1, 1) := by decide +kernel
theorem dX9_isWord_90 : decode cX9_isWord 90 = .ok (.iload 4, 2) := by decide +kernel
theorem dX9_isWord_92 : decode cX9_isWord 92 = .ok (.invokevirtual 90, 3) := by decide +kernel
theorem dX9_isWord_95 : decode cX9_isWord 95 = .ok (.if_icmp .ne 7, 3) := by decide +kernel
theorem dX9_isWord_98 : decode cX9_isWord 98 = .ok (.iconst 1, 1) := by decide +kernel
theorem dX9_isWord_99 : decode cX9_isWord 99 = .ok (.goto 4, 3) := by decide +kernel
theorem dX9_isWord_102 : decode cX9_isWord 102 = .ok (.iconst 0, 1) := by decide +kernel
theorem dX9_isWord_103 : decode cX9_isWord 103 = .ok (.istore_n 3, 1) := by decide +kernel
theorem dX9_isWord_104 : decode cX9_isWord 104 = .ok (.iinc 4 1, 3) := by decide +kernel
theorem dX9_isWord_107 : decode cX9_isWord 107 = .ok (.goto (-40), 3) := by decide +kernel
theorem dX9_isWord_110 : decode cX9_isWord 110 = .ok (.iload_n 3, 1) := by decide +kernel
theorem dX9_isWord_111 : decode cX9_isWord 111 = .ok (.ireturn, 1) := by decide +kernel
theorem dX9_number_0 : decode cX9_number 0 = .ok (.aload_n 0, 1) := by decide +kernel
theorem dX9_number_1 : decode cX9_number 1 = .ok (.invokevirtual 70, 3) := by decide +kernel
theorem dX9_number_4 : decode cX9_number 4 = .ok (.ifCond .eq 20, 3) := by decide +kernel
theorem dX9_number_7 : decode cX9_number 7 = .ok (.aload_n 0, 1) := by decide +kernel
theorem dX9_number_8 : decode cX9_number 8 = .ok (.invokevirtual 74, 3) := by decide +kernel
theorem dX9_number_11 : decode cX9_number 11 = .ok (.i2l, 1) := by decide +kernel
theorem dX9_number_12 : decode cX9_number 12 = .ok (.ldc2_w 94, 3) := by decide +kernel
theorem dX9_number_15 : decode cX9_number 15 = .ok (.ldc2_w 96, 3) := by decide +kernel
theorem dX9_number_18 : decode cX9_number 18 = .ok (.invokestatic 81, 3) := by decide +kernel
theorem dX9_number_21 : decode cX9_number 21 = .ok (.ifCond .ne 14, 3) := by decide +kernel
theorem dX9_number_24 : decode cX9_number 24 = .ok (.aload_n 0, 1) := by decide +kernel
theorem dX9_number_25 : decode cX9_number 25 = .ok (.iconst 1, 1) := by decide +kernel
theorem dX9_number_26 : decode cX9_number 26 = .ok (.aload_n 0, 1) := by decide +kernel
theorem dX9_number_27 : decode cX9_number 27 = .ok (.getfield 60, 3) := by decide +kernel
theorem dX9_number_30 : decode cX9_number 30 = .ok (.invokevirtual 98, 3) := by decide +kernel
theorem dX9_number_33 : decode cX9_number 33 = .ok (.iload_n 1, 1) := by decide +kernel
theorem dX9_number_34 : decode cX9_number 34 = .ok (.ireturn, 1) := by decide +kernel
theorem dX9_number_35 : decode cX9_number 35 = .ok (.aload_n 0, 1) := by decide +kernel
theorem dX9_number_36 : decode cX9_number 36 = .ok (.aload_n 0, 1) := by decide +kernel
theorem dX9_number_37 : decode cX9_number 37 = .ok (.getfield 60, 3) := by decide +kernel
theorem dX9_number_40 : decode cX9_number 40 = .ok (.putfield 102, 3) := by decide +kernel
theorem dX9_number_43 : decode cX9_number 43 = .ok (.iconst 0, 1) := by decide +kernel
theorem dX9_number_44 : decode cX9_number 44 = .ok (.istore_n 3, 1) := by decide +kernel
theorem dX9_number_45 : decode cX9_number 45 = .ok (.aload_n 0, 1) := by decide +kernel
theorem dX9_number_46 : decode cX9_number 46 = .ok (.invokevirtual 63, 3) := by decide +kernel
theorem dX9_number_49 : decode cX9_number 49 = .ok (.i2l, 1) := by decide +kernel
theorem dX9_number_50 : decode cX9_number 50 = .ok (.ldc2_w 94, 3) := by decide +kernel
theorem dX9_number_53 : decode cX9_number 53 = .ok (.ldc2_w 96, 3) := by decide +kernel
theorem dX9_number_56 : decode cX9_number 56 = .ok (.invokestatic 81, 3) := by decide +kernel
theorem dX9_number_59 : decode cX9_number 59 = .ok (.ifCond .eq 34, 3) := by decide +kernel
theorem dX9_number_62 : decode cX9_number 62 = .ok (.ldc 105, 2) := by decide +kernel
theorem dX9_number_64 : decode cX9_number 64 = .ok (.bipush 10, 2) := by decide +kernel
theorem dX9_number_66 : decode cX9_number 66 = .ok (.iload_n 3, 1) := by decide +kernel
theorem dX9_number_67 : decode cX9_number 67 = .ok (.imul, 1) := by decide +kernel
theorem dX9_number_68 : decode cX9_number 68 = .ok (.aload_n 0, 1) := by decide +kernel
theorem dX9_number_69 : decode cX9_number 69 = .ok (.invokevirtual 63, 3) := by decide +kernel
theorem dX9_number_72 : decode cX9_number 72 = .ok (.iadd, 1) := by decide +kernel
theorem dX9_number_73 : decode cX9_number 73 = .ok (.bipush 48, 2) := by decide +kernel
theorem dX9_number_75 : decode cX9_number 75 = .ok (.isub, 1) := by decide +kernel
theorem dX9_number_76 : decode cX9_number 76 = .ok (.invokestatic 106, 3) := by decide +kernel
theorem dX9_number_79 : decode cX9_number 79 = .ok (.istore_n 3, 1) := by decide +kernel
theorem dX9_number_80 : decode cX9_number 80 = .ok (.aload_n 0, 1) := by decide +kernel
theorem dX9_number_81 : decode cX9_number 81 = .ok (.dup, 1) := by decide +kernel
theorem dX9_number_82 : decode cX9_number 82 = .ok (.getfield 60, 3) := by decide +kernel
theorem dX9_number_85 : decode cX9_number 85 = .ok (.iconst 1, 1) := by decide +kernel
theorem dX9_number_86 : decode cX9_number 86 = .ok (.iadd, 1) := by decide +kernel
theorem dX9_number_87 : decode cX9_number 87 = .ok (.putfield 60, 3) := by decide +kernel
theorem dX9_number_90 : decode cX9_number 90 = .ok (.goto (-45), 3) := by decide +kernel
theorem dX9_number_93 : decode cX9_number 93 = .ok (.iload_n 3, 1) := by decide +kernel
theorem dX9_number_94 : decode cX9_number 94 = .ok (.i2l, 1) := by decide +kernel
theorem dX9_number_95 : decode cX9_number 95 = .ok (.iload_n 1, 1) := by decide +kernel
theorem dX9_number_96 : decode cX9_number 96 = .ok (.i2l, 1) := by decide +kernel
theorem dX9_number_97 : decode cX9_number 97 = .ok (.iload_n 2, 1) := by decide +kernel
theorem dX9_number_98 : decode cX9_number 98 = .ok (.i2l, 1) := by decide +kernel
theorem dX9_number_99 : decode cX9_number 99 = .ok (.invokestatic 81, 3) := by decide +kernel
theorem dX9_number_102 : decode cX9_number 102 = .ok (.ifCond .ne 14, 3) := by decide +kernel
theorem dX9_number_105 : decode cX9_number 105 = .ok (.aload_n 0, 1) := by decide +kernel
theorem dX9_number_106 : decode cX9_number 106 = .ok (.iconst 2, 1) := by decide +kernel
theorem dX9_number_107 : decode cX9_number 107 = .ok (.aload_n 0, 1) := by decide +kernel
theorem dX9_number_108 : decode cX9_number 108 = .ok (.getfield 102, 3) := by decide +kernel
theorem dX9_number_111 : decode cX9_number 111 = .ok (.invokevirtual 98, 3) := by decide +kernel
theorem dX9_number_114 : decode cX9_number 114 = .ok (.iload_n 1, 1) := by decide +kernel
theorem dX9_number_115 : decode cX9_number 115 = .ok (.ireturn, 1) := by decide +kernel
theorem dX9_number_116 : decode cX9_number 116 = .ok (.iload_n 3, 1) := by decide +kernel
theorem dX9_number_117 : decode cX9_number 117 = .ok (.ireturn, 1) := by decide +kernel
theorem dX9_most_0 : decode cX9_most 0 = .ok (.aload_n 0, 1) := by decide +kernel
theorem dX9_most_1 : decode cX9_most 1 = .ok (.iconst 0, 1) := by decide +kernel
theorem dX9_most_2 : decode cX9_most 2 = .ok (.sipush 9999, 3) := by decide +kernel
theorem dX9_most_5 : decode cX9_most 5 = .ok (.invokevirtual 112, 3) := by decide +kernel
theorem dX9_most_8 : decode cX9_most 8 = .ok (.ireturn, 1) := by decide +kernel
theorem dX9_readsSegment_0 : decode cX9_readsSegment 0 = .ok (.aload_n 0, 1) := by decide +kernel
theorem dX9_readsSegment_1 : decode cX9_readsSegment 1 = .ok (.iconst 0, 1) := by decide +kernel
theorem dX9_readsSegment_2 : decode cX9_readsSegment 2 = .ok (.aload_n 0, 1) := by decide +kernel
theorem dX9_readsSegment_3 : decode cX9_readsSegment 3 = .ok (.getfield 13, 3) := by decide +kernel
theorem dX9_readsSegment_6 : decode cX9_readsSegment 6 = .ok (.iconst 0, 1) := by decide +kernel
theorem dX9_readsSegment_7 : decode cX9_readsSegment 7 = .ok (.laload, 1) := by decide +kernel
theorem dX9_readsSegment_8 : decode cX9_readsSegment 8 = .ok (.l2i, 1) := by decide +kernel
theorem dX9_readsSegment_9 : decode cX9_readsSegment 9 = .ok (.iconst 2, 1) := by decide +kernel
theorem dX9_readsSegment_10 : decode cX9_readsSegment 10 = .ok (.isub, 1) := by decide +kernel
theorem dX9_readsSegment_11 : decode cX9_readsSegment 11 = .ok (.invokevirtual 112, 3) := by decide +kernel
theorem dX9_readsSegment_14 : decode cX9_readsSegment 14 = .ok (.istore_n 1, 1) := by decide +kernel
theorem dX9_readsSegment_15 : decode cX9_readsSegment 15 = .ok (.aload_n 0, 1) := by decide +kernel
theorem dX9_readsSegment_16 : decode cX9_readsSegment 16 = .ok (.invokevirtual 115, 3) := by decide +kernel
theorem dX9_readsSegment_19 : decode cX9_readsSegment 19 = .ok (.istore_n 2, 1) := by decide +kernel
theorem dX9_readsSegment_20 : decode cX9_readsSegment 20 = .ok (.aload_n 0, 1) := by decide +kernel
theorem dX9_readsSegment_21 : decode cX9_readsSegment 21 = .ok (.iconst 0, 1) := by decide +kernel
theorem dX9_readsSegment_22 : decode cX9_readsSegment 22 = .ok (.bipush 50, 2) := by decide +kernel
theorem dX9_readsSegment_24 : decode cX9_readsSegment 24 = .ok (.invokevirtual 112, 3) := by decide +kernel
theorem dX9_readsSegment_27 : decode cX9_readsSegment 27 = .ok (.istore_n 3, 1) := by decide +kernel
theorem dX9_readsSegment_28 : decode cX9_readsSegment 28 = .ok (.aload_n 0, 1) := by decide +kernel
theorem dX9_readsSegment_29 : decode cX9_readsSegment 29 = .ok (.invokevirtual 70, 3) := by decide +kernel
theorem dX9_readsSegment_32 : decode cX9_readsSegment 32 = .ok (.ifCond .eq 31, 3) := by decide +kernel
theorem dX9_readsSegment_35 : decode cX9_readsSegment 35 = .ok (.aload_n 0, 1) := by decide +kernel
theorem dX9_readsSegment_36 : decode cX9_readsSegment 36 = .ok (.getfield 13, 3) := by decide +kernel
theorem dX9_readsSegment_39 : decode cX9_readsSegment 39 = .ok (.bipush 12, 2) := by decide +kernel
theorem dX9_readsSegment_41 : decode cX9_readsSegment 41 = .ok (.iconst 2, 1) := by decide +kernel
theorem dX9_readsSegment_42 : decode cX9_readsSegment 42 = .ok (.iload_n 1, 1) := by decide +kernel
theorem dX9_readsSegment_43 : decode cX9_readsSegment 43 = .ok (.imul, 1) := by decide +kernel
theorem dX9_readsSegment_44 : decode cX9_readsSegment 44 = .ok (.iadd, 1) := by decide +kernel
theorem dX9_readsSegment_45 : decode cX9_readsSegment 45 = .ok (.iload_n 2, 1) := by decide +kernel
theorem dX9_readsSegment_46 : decode cX9_readsSegment 46 = .ok (.i2l, 1) := by decide +kernel
theorem dX9_readsSegment_47 : decode cX9_readsSegment 47 = .ok (.lastore, 1) := by decide +kernel
theorem dX9_readsSegment_48 : decode cX9_readsSegment 48 = .ok (.aload_n 0, 1) := by decide +kernel
theorem dX9_readsSegment_49 : decode cX9_readsSegment 49 = .ok (.getfield 13, 3) := by decide +kernel
theorem dX9_readsSegment_52 : decode cX9_readsSegment 52 = .ok (.bipush 12, 2) := by decide +kernel
theorem dX9_readsSegment_54 : decode cX9_readsSegment 54 = .ok (.iconst 2, 1) := by decide +kernel
theorem dX9_readsSegment_55 : decode cX9_readsSegment 55 = .ok (.iload_n 1, 1) := by decide +kernel
theorem dX9_readsSegment_56 : decode cX9_readsSegment 56 = .ok (.imul, 1) := by decide +kernel
theorem dX9_readsSegment_57 : decode cX9_readsSegment 57 = .ok (.iadd, 1) := by decide +kernel
theorem dX9_readsSegment_58 : decode cX9_readsSegment 58 = .ok (.iconst 1, 1) := by decide +kernel
theorem dX9_readsSegment_59 : decode cX9_readsSegment 59 = .ok (.iadd, 1) := by decide +kernel
theorem dX9_readsSegment_60 : decode cX9_readsSegment 60 = .ok (.iload_n 3, 1) := by decide +kernel
theorem dX9_readsSegment_61 : decode cX9_readsSegment 61 = .ok (.i2l, 1) := by decide +kernel
theorem dX9_readsSegment_62 : decode cX9_readsSegment 62 = .ok (.lastore, 1) := by decide +kernel
theorem dX9_readsSegment_63 : decode cX9_readsSegment 63 = .ok (.return_, 1) := by decide +kernel
theorem dX9_readsPoint_0 : decode cX9_readsPoint 0 = .ok (.aload_n 0, 1) := by decide +kernel
theorem dX9_readsPoint_1 : decode cX9_readsPoint 1 = .ok (.iconst 0, 1) := by decide +kernel
theorem dX9_readsPoint_2 : decode cX9_readsPoint 2 = .ok (.aload_n 0, 1) := by decide +kernel
theorem dX9_readsPoint_3 : decode cX9_readsPoint 3 = .ok (.getfield 13, 3) := by decide +kernel
theorem dX9_readsPoint_6 : decode cX9_readsPoint 6 = .ok (.iconst 0, 1) := by decide +kernel
theorem dX9_readsPoint_7 : decode cX9_readsPoint 7 = .ok (.laload, 1) := by decide +kernel
theorem dX9_readsPoint_8 : decode cX9_readsPoint 8 = .ok (.l2i, 1) := by decide +kernel
theorem dX9_readsPoint_9 : decode cX9_readsPoint 9 = .ok (.iconst 1, 1) := by decide +kernel
theorem dX9_readsPoint_10 : decode cX9_readsPoint 10 = .ok (.isub, 1) := by decide +kernel
theorem dX9_readsPoint_11 : decode cX9_readsPoint 11 = .ok (.invokevirtual 112, 3) := by decide +kernel
theorem dX9_readsPoint_14 : decode cX9_readsPoint 14 = .ok (.istore_n 2, 1) := by decide +kernel
theorem dX9_readsPoint_15 : decode cX9_readsPoint 15 = .ok (.aload_n 0, 1) := by decide +kernel
theorem dX9_readsPoint_16 : decode cX9_readsPoint 16 = .ok (.invokevirtual 115, 3) := by decide +kernel
theorem dX9_readsPoint_19 : decode cX9_readsPoint 19 = .ok (.istore_n 3, 1) := by decide +kernel
theorem dX9_readsPoint_20 : decode cX9_readsPoint 20 = .ok (.aload_n 0, 1) := by decide +kernel
theorem dX9_readsPoint_21 : decode cX9_readsPoint 21 = .ok (.invokevirtual 70, 3) := by decide +kernel
theorem dX9_readsPoint_24 : decode cX9_readsPoint 24 = .ok (.ifCond .ne 4, 3) := by decide +kernel
theorem dX9_readsPoint_27 : decode cX9_readsPoint 27 = .ok (.return_, 1) := by decide +kernel
theorem dX9_readsPoint_28 : decode cX9_readsPoint 28 = .ok (.bipush 26, 2) := by decide +kernel
theorem dX9_readsPoint_30 : decode cX9_readsPoint 30 = .ok (.iconst 4, 1) := by decide +kernel
theorem dX9_readsPoint_31 : decode cX9_readsPoint 31 = .ok (.aload_n 0, 1) := by decide +kernel
theorem dX9_readsPoint_32 : decode cX9_readsPoint 32 = .ok (.getfield 13, 3) := by decide +kernel
theorem dX9_readsPoint_35 : decode cX9_readsPoint 35 = .ok (.iconst 1, 1) := by decide +kernel
theorem dX9_readsPoint_36 : decode cX9_readsPoint 36 = .ok (.laload, 1) := by decide +kernel
theorem dX9_readsPoint_37 : decode cX9_readsPoint 37 = .ok (.l2i, 1) := by decide +kernel
theorem dX9_readsPoint_38 : decode cX9_readsPoint 38 = .ok (.imul, 1) := by decide +kernel
theorem dX9_readsPoint_39 : decode cX9_readsPoint 39 = .ok (.iadd, 1) := by decide +kernel
theorem dX9_readsPoint_40 : decode cX9_readsPoint 40 = .ok (.istore 4, 2) := by decide +kernel
theorem dX9_readsPoint_42 : decode cX9_readsPoint 42 = .ok (.aload_n 0, 1) := by decide +kernel
theorem dX9_readsPoint_43 : decode cX9_readsPoint 43 = .ok (.getfield 13, 3) := by decide +kernel
theorem dX9_readsPoint_46 : decode cX9_readsPoint 46 = .ok (.iload 4, 2) := by decide +kernel
theorem dX9_readsPoint_48 : decode cX9_readsPoint 48 = .ok (.iload_n 2, 1) := by decide +kernel
theorem dX9_readsPoint_49 : decode cX9_readsPoint 49 = .ok (.i2l, 1) := by decide +kernel
theorem dX9_readsPoint_50 : decode cX9_readsPoint 50 = .ok (.lastore, 1) := by decide +kernel
theorem dX9_readsPoint_51 : decode cX9_readsPoint 51 = .ok (.aload_n 0, 1) := by decide +kernel
theorem dX9_readsPoint_52 : decode cX9_readsPoint 52 = .ok (.getfield 13, 3) := by decide +kernel
theorem dX9_readsPoint_55 : decode cX9_readsPoint 55 = .ok (.iload 4, 2) := by decide +kernel
theorem dX9_readsPoint_57 : decode cX9_readsPoint 57 = .ok (.iconst 1, 1) := by decide +kernel
theorem dX9_readsPoint_58 : decode cX9_readsPoint 58 = .ok (.iadd, 1) := by decide +kernel
theorem dX9_readsPoint_59 : decode cX9_readsPoint 59 = .ok (.iload_n 1, 1) := by decide +kernel
theorem dX9_readsPoint_60 : decode cX9_readsPoint 60 = .ok (.invokestatic 118, 3) := by decide +kernel
theorem dX9_readsPoint_63 : decode cX9_readsPoint 63 = .ok (.i2l, 1) := by decide +kernel
theorem dX9_readsPoint_64 : decode cX9_readsPoint 64 = .ok (.lastore, 1) := by decide +kernel
theorem dX9_readsPoint_65 : decode cX9_readsPoint 65 = .ok (.aload_n 0, 1) := by decide +kernel
theorem dX9_readsPoint_66 : decode cX9_readsPoint 66 = .ok (.getfield 13, 3) := by decide +kernel
theorem dX9_readsPoint_69 : decode cX9_readsPoint 69 = .ok (.iload 4, 2) := by decide +kernel
theorem dX9_readsPoint_71 : decode cX9_readsPoint 71 = .ok (.iconst 2, 1) := by decide +kernel
theorem dX9_readsPoint_72 : decode cX9_readsPoint 72 = .ok (.iadd, 1) := by decide +kernel
theorem dX9_readsPoint_73 : decode cX9_readsPoint 73 = .ok (.iload_n 3, 1) := by decide +kernel
theorem dX9_readsPoint_74 : decode cX9_readsPoint 74 = .ok (.i2l, 1) := by decide +kernel
theorem dX9_readsPoint_75 : decode cX9_readsPoint 75 = .ok (.lastore, 1) := by decide +kernel
theorem dX9_readsPoint_76 : decode cX9_readsPoint 76 = .ok (.aload_n 0, 1) := by decide +kernel
theorem dX9_readsPoint_77 : decode cX9_readsPoint 77 = .ok (.getfield 13, 3) := by decide +kernel
theorem dX9_readsPoint_80 : decode cX9_readsPoint 80 = .ok (.iconst 1, 1) := by decide +kernel
theorem dX9_readsPoint_81 : decode cX9_readsPoint 81 = .ok (.dup2, 1) := by decide +kernel
theorem dX9_readsPoint_82 : decode cX9_readsPoint 82 = .ok (.laload, 1) := by decide +kernel
theorem dX9_readsPoint_83 : decode cX9_readsPoint 83 = .ok (.lconst 1, 1) := by decide +kernel
theorem dX9_readsPoint_84 : decode cX9_readsPoint 84 = .ok (.ladd, 1) := by decide +kernel
theorem dX9_readsPoint_85 : decode cX9_readsPoint 85 = .ok (.lastore, 1) := by decide +kernel
theorem dX9_readsPoint_86 : decode cX9_readsPoint 86 = .ok (.return_, 1) := by decide +kernel
theorem dX9_readsShipper_0 : decode cX9_readsShipper 0 = .ok (.aload_n 0, 1) := by decide +kernel
theorem dX9_readsShipper_1 : decode cX9_readsShipper 1 = .ok (.invokevirtual 115, 3) := by decide +kernel
theorem dX9_readsShipper_4 : decode cX9_readsShipper 4 = .ok (.istore_n 1, 1) := by decide +kernel
theorem dX9_readsShipper_5 : decode cX9_readsShipper 5 = .ok (.aload_n 0, 1) := by decide +kernel
theorem dX9_readsShipper_6 : decode cX9_readsShipper 6 = .ok (.iconst 1, 1) := by decide +kernel
theorem dX9_readsShipper_7 : decode cX9_readsShipper 7 = .ok (.bipush 9, 2) := by decide +kernel
theorem dX9_readsShipper_9 : decode cX9_readsShipper 9 = .ok (.invokevirtual 112, 3) := by decide +kernel
theorem dX9_readsShipper_12 : decode cX9_readsShipper 12 = .ok (.istore_n 2, 1) := by decide +kernel
theorem dX9_readsShipper_13 : decode cX9_readsShipper 13 = .ok (.aload_n 0, 1) := by decide +kernel
theorem dX9_readsShipper_14 : decode cX9_readsShipper 14 = .ok (.invokevirtual 115, 3) := by decide +kernel
theorem dX9_readsShipper_17 : decode cX9_readsShipper 17 = .ok (.istore_n 3, 1) := by decide +kernel
theorem dX9_readsShipper_18 : decode cX9_readsShipper 18 = .ok (.aload_n 0, 1) := by decide +kernel
theorem dX9_readsShipper_19 : decode cX9_readsShipper 19 = .ok (.invokevirtual 115, 3) := by decide +kernel
theorem dX9_readsShipper_22 : decode cX9_readsShipper 22 = .ok (.istore 4, 2) := by decide +kernel
theorem dX9_readsShipper_24 : decode cX9_readsShipper 24 = .ok (.aload_n 0, 1) := by decide +kernel
theorem dX9_readsShipper_25 : decode cX9_readsShipper 25 = .ok (.invokevirtual 70, 3) := by decide +kernel
theorem dX9_readsShipper_28 : decode cX9_readsShipper 28 = .ok (.ifCond .ne 4, 3) := by decide +kernel
theorem dX9_readsShipper_31 : decode cX9_readsShipper 31 = .ok (.return_, 1) := by decide +kernel
theorem dX9_readsShipper_32 : decode cX9_readsShipper 32 = .ok (.bipush 66, 2) := by decide +kernel
theorem dX9_readsShipper_34 : decode cX9_readsShipper 34 = .ok (.bipush 7, 2) := by decide +kernel
theorem dX9_readsShipper_36 : decode cX9_readsShipper 36 = .ok (.aload_n 0, 1) := by decide +kernel
theorem dX9_readsShipper_37 : decode cX9_readsShipper 37 = .ok (.getfield 13, 3) := by decide +kernel
theorem dX9_readsShipper_40 : decode cX9_readsShipper 40 = .ok (.iconst 2, 1) := by decide +kernel
theorem dX9_readsShipper_41 : decode cX9_readsShipper 41 = .ok (.laload, 1) := by decide +kernel
theorem dX9_readsShipper_42 : decode cX9_readsShipper 42 = .ok (.l2i, 1) := by decide +kernel
theorem dX9_readsShipper_43 : decode cX9_readsShipper 43 = .ok (.imul, 1) := by decide +kernel
theorem dX9_readsShipper_44 : decode cX9_readsShipper 44 = .ok (.iadd, 1) := by decide +kernel
theorem dX9_readsShipper_45 : decode cX9_readsShipper 45 = .ok (.istore 5, 2) := by decide +kernel
theorem dX9_readsShipper_47 : decode cX9_readsShipper 47 = .ok (.aload_n 0, 1) := by decide +kernel
theorem dX9_readsShipper_48 : decode cX9_readsShipper 48 = .ok (.getfield 13, 3) := by decide +kernel
theorem dX9_readsShipper_51 : decode cX9_readsShipper 51 = .ok (.iload 5, 2) := by decide +kernel
theorem dX9_readsShipper_53 : decode cX9_readsShipper 53 = .ok (.iconst 0, 1) := by decide +kernel
theorem dX9_readsShipper_54 : decode cX9_readsShipper 54 = .ok (.iadd, 1) := by decide +kernel
theorem dX9_readsShipper_55 : decode cX9_readsShipper 55 = .ok (.iload_n 1, 1) := by decide +kernel
theorem dX9_readsShipper_56 : decode cX9_readsShipper 56 = .ok (.i2l, 1) := by decide +kernel
theorem dX9_readsShipper_57 : decode cX9_readsShipper 57 = .ok (.lastore, 1) := by decide +kernel
theorem dX9_readsShipper_58 : decode cX9_readsShipper 58 = .ok (.aload_n 0, 1) := by decide +kernel
theorem dX9_readsShipper_59 : decode cX9_readsShipper 59 = .ok (.getfield 13, 3) := by decide +kernel
theorem dX9_readsShipper_62 : decode cX9_readsShipper 62 = .ok (.iload 5, 2) := by decide +kernel
theorem dX9_readsShipper_64 : decode cX9_readsShipper 64 = .ok (.iconst 1, 1) := by decide +kernel
theorem dX9_readsShipper_65 : decode cX9_readsShipper 65 = .ok (.iadd, 1) := by decide +kernel
theorem dX9_readsShipper_66 : decode cX9_readsShipper 66 = .ok (.iload_n 2, 1) := by decide +kernel
theorem dX9_readsShipper_67 : decode cX9_readsShipper 67 = .ok (.i2l, 1) := by decide +kernel
theorem dX9_readsShipper_68 : decode cX9_readsShipper 68 = .ok (.lastore, 1) := by decide +kernel
theorem dX9_readsShipper_69 : decode cX9_readsShipper 69 = .ok (.aload_n 0, 1) := by decide +kernel
theorem dX9_readsShipper_70 : decode cX9_readsShipper 70 = .ok (.getfield 13, 3) := by decide +kernel
theorem dX9_readsShipper_73 : decode cX9_readsShipper 73 = .ok (.iload 5, 2) := by decide +kernel
theorem dX9_readsShipper_75 : decode cX9_readsShipper 75 = .ok (.iconst 2, 1) := by decide +kernel
theorem dX9_readsShipper_76 : decode cX9_readsShipper 76 = .ok (.iadd, 1) := by decide +kernel
theorem dX9_readsShipper_77 : decode cX9_readsShipper 77 = .ok (.iload_n 3, 1) := by decide +kernel
theorem dX9_readsShipper_78 : decode cX9_readsShipper 78 = .ok (.i2l, 1) := by decide +kernel
theorem dX9_readsShipper_79 : decode cX9_readsShipper 79 = .ok (.lastore, 1) := by decide +kernel
theorem dX9_readsShipper_80 : decode cX9_readsShipper 80 = .ok (.aload_n 0, 1) := by decide +kernel
theorem dX9_readsShipper_81 : decode cX9_readsShipper 81 = .ok (.getfield 13, 3) := by decide +kernel
theorem dX9_readsShipper_84 : decode cX9_readsShipper 84 = .ok (.iload 5, 2) := by decide +kernel
theorem dX9_readsShipper_86 : decode cX9_readsShipper 86 = .ok (.iconst 3, 1) := by decide +kernel
theorem dX9_readsShipper_87 : decode cX9_readsShipper 87 = .ok (.iadd, 1) := by decide +kernel
theorem dX9_readsShipper_88 : decode cX9_readsShipper 88 = .ok (.iload 4, 2) := by decide +kernel
theorem dX9_readsShipper_90 : decode cX9_readsShipper 90 = .ok (.i2l, 1) := by decide +kernel
theorem dX9_readsShipper_91 : decode cX9_readsShipper 91 = .ok (.lastore, 1) := by decide +kernel
theorem dX9_readsShipper_92 : decode cX9_readsShipper 92 = .ok (.aload_n 0, 1) := by decide +kernel
theorem dX9_readsShipper_93 : decode cX9_readsShipper 93 = .ok (.getfield 13, 3) := by decide +kernel
theorem dX9_readsShipper_96 : decode cX9_readsShipper 96 = .ok (.iconst 2, 1) := by decide +kernel
theorem dX9_readsShipper_97 : decode cX9_readsShipper 97 = .ok (.dup2, 1) := by decide +kernel
theorem dX9_readsShipper_98 : decode cX9_readsShipper 98 = .ok (.laload, 1) := by decide +kernel
theorem dX9_readsShipper_99 : decode cX9_readsShipper 99 = .ok (.lconst 1, 1) := by decide +kernel
theorem dX9_readsShipper_100 : decode cX9_readsShipper 100 = .ok (.ladd, 1) := by decide +kernel
theorem dX9_readsShipper_101 : decode cX9_readsShipper 101 = .ok (.lastore, 1) := by decide +kernel
theorem dX9_readsShipper_102 : decode cX9_readsShipper 102 = .ok (.return_, 1) := by decide +kernel
theorem dX9_readsPointOf_0 : decode cX9_readsPointOf 0 = .ok (.aload_n 0, 1) := by decide +kernel
theorem dX9_readsPointOf_1 : decode cX9_readsPointOf 1 = .ok (.iconst 0, 1) := by decide +kernel
theorem dX9_readsPointOf_2 : decode cX9_readsPointOf 2 = .ok (.aload_n 0, 1) := by decide +kernel
theorem dX9_readsPointOf_3 : decode cX9_readsPointOf 3 = .ok (.getfield 13, 3) := by decide +kernel
theorem dX9_readsPointOf_6 : decode cX9_readsPointOf 6 = .ok (.iconst 1, 1) := by decide +kernel
theorem dX9_readsPointOf_7 : decode cX9_readsPointOf 7 = .ok (.laload, 1) := by decide +kernel
theorem dX9_readsPointOf_8 : decode cX9_readsPointOf 8 = .ok (.l2i, 1) := by decide +kernel
theorem dX9_readsPointOf_9 : decode cX9_readsPointOf 9 = .ok (.iconst 1, 1) := by decide +kernel
theorem dX9_readsPointOf_10 : decode cX9_readsPointOf 10 = .ok (.isub, 1) := by decide +kernel
theorem dX9_readsPointOf_11 : decode cX9_readsPointOf 11 = .ok (.invokevirtual 112, 3) := by decide +kernel
theorem dX9_readsPointOf_14 : decode cX9_readsPointOf 14 = .ok (.istore_n 2, 1) := by decide +kernel
theorem dX9_readsPointOf_15 : decode cX9_readsPointOf 15 = .ok (.aload_n 0, 1) := by decide +kernel
theorem dX9_readsPointOf_16 : decode cX9_readsPointOf 16 = .ok (.invokevirtual 70, 3) := by decide +kernel
theorem dX9_readsPointOf_19 : decode cX9_readsPointOf 19 = .ok (.ifCond .eq 34, 3) := by decide +kernel
theorem dX9_readsPointOf_22 : decode cX9_readsPointOf 22 = .ok (.aload_n 0, 1) := by decide +kernel
theorem dX9_readsPointOf_23 : decode cX9_readsPointOf 23 = .ok (.getfield 13, 3) := by decide +kernel
theorem dX9_readsPointOf_26 : decode cX9_readsPointOf 26 = .ok (.bipush 26, 2) := by decide +kernel
theorem dX9_readsPointOf_28 : decode cX9_readsPointOf 28 = .ok (.iconst 4, 1) := by decide +kernel
theorem dX9_readsPointOf_29 : decode cX9_readsPointOf 29 = .ok (.iload_n 2, 1) := by decide +kernel
theorem dX9_readsPointOf_30 : decode cX9_readsPointOf 30 = .ok (.imul, 1) := by decide +kernel
theorem dX9_readsPointOf_31 : decode cX9_readsPointOf 31 = .ok (.iadd, 1) := by decide +kernel
theorem dX9_readsPointOf_32 : decode cX9_readsPointOf 32 = .ok (.iconst 1, 1) := by decide +kernel
theorem dX9_readsPointOf_33 : decode cX9_readsPointOf 33 = .ok (.iadd, 1) := by decide +kernel
theorem dX9_readsPointOf_34 : decode cX9_readsPointOf 34 = .ok (.laload, 1) := by decide +kernel
theorem dX9_readsPointOf_35 : decode cX9_readsPointOf 35 = .ok (.iload_n 1, 1) := by decide +kernel
theorem dX9_readsPointOf_36 : decode cX9_readsPointOf 36 = .ok (.invokestatic 118, 3) := by decide +kernel
theorem dX9_readsPointOf_39 : decode cX9_readsPointOf 39 = .ok (.i2l, 1) := by decide +kernel
theorem dX9_readsPointOf_40 : decode cX9_readsPointOf 40 = .ok (.lcmp, 1) := by decide +kernel
theorem dX9_readsPointOf_41 : decode cX9_readsPointOf 41 = .ok (.ifCond .eq 12, 3) := by decide +kernel
theorem dX9_readsPointOf_44 : decode cX9_readsPointOf 44 = .ok (.aload_n 0, 1) := by decide +kernel
theorem dX9_readsPointOf_45 : decode cX9_readsPointOf 45 = .ok (.iconst 2, 1) := by decide +kernel
theorem dX9_readsPointOf_46 : decode cX9_readsPointOf 46 = .ok (.aload_n 0, 1) := by decide +kernel
theorem dX9_readsPointOf_47 : decode cX9_readsPointOf 47 = .ok (.getfield 102, 3) := by decide +kernel
theorem dX9_readsPointOf_50 : decode cX9_readsPointOf 50 = .ok (.invokevirtual 98, 3) := by decide +kernel
theorem dX9_readsPointOf_53 : decode cX9_readsPointOf 53 = .ok (.iload_n 2, 1) := by decide +kernel
theorem dX9_readsPointOf_54 : decode cX9_readsPointOf 54 = .ok (.ireturn, 1) := by decide +kernel
theorem dX9_readsNomination_0 : decode cX9_readsNomination 0 = .ok (.aload_n 0, 1) := by decide +kernel
theorem dX9_readsNomination_1 : decode cX9_readsNomination 1 = .ok (.iconst 0, 1) := by decide +kernel
theorem dX9_readsNomination_2 : decode cX9_readsNomination 2 = .ok (.aload_n 0, 1) := by decide +kernel
theorem dX9_readsNomination_3 : decode cX9_readsNomination 3 = .ok (.getfield 13, 3) := by decide +kernel
theorem dX9_readsNomination_6 : decode cX9_readsNomination 6 = .ok (.iconst 2, 1) := by decide +kernel
theorem dX9_readsNomination_7 : decode cX9_readsNomination 7 = .ok (.laload, 1) := by decide +kernel
theorem dX9_readsNomination_8 : decode cX9_readsNomination 8 = .ok (.l2i, 1) := by decide +kernel
theorem dX9_readsNomination_9 : decode cX9_readsNomination 9 = .ok (.iconst 1, 1) := by decide +kernel
theorem dX9_readsNomination_10 : decode cX9_readsNomination 10 = .ok (.isub, 1) := by decide +kernel
theorem dX9_readsNomination_11 : decode cX9_readsNomination 11 = .ok (.invokevirtual 112, 3) := by decide +kernel
theorem dX9_readsNomination_14 : decode cX9_readsNomination 14 = .ok (.istore_n 3, 1) := by decide +kernel
theorem dX9_readsNomination_15 : decode cX9_readsNomination 15 = .ok (.iload_n 1, 1) := by decide +kernel
theorem dX9_readsNomination_16 : decode cX9_readsNomination 16 = .ok (.ifCond .eq 11, 3) := by decide +kernel
theorem dX9_readsNomination_19 : decode cX9_readsNomination 19 = .ok (.aload_n 0, 1) := by decide +kernel
theorem dX9_readsNomination_20 : decode cX9_readsNomination 20 = .ok (.iconst 1, 1) := by decide +kernel
theorem dX9_readsNomination_21 : decode cX9_readsNomination 21 = .ok (.invokevirtual 122, 3) := by decide +kernel
theorem dX9_readsNomination_24 : decode cX9_readsNomination 24 = .ok (.goto 4, 3) := by decide +kernel
theorem dX9_readsNomination_27 : decode cX9_readsNomination 27 = .ok (.iconst (-1), 1) := by decide +kernel
theorem dX9_readsNomination_28 : decode cX9_readsNomination 28 = .ok (.istore 4, 2) := by decide +kernel
theorem dX9_readsNomination_30 : decode cX9_readsNomination 30 = .ok (.iload_n 2, 1) := by decide +kernel
theorem dX9_readsNomination_31 : decode cX9_readsNomination 31 = .ok (.ifCond .eq 11, 3) := by decide +kernel
theorem dX9_readsNomination_34 : decode cX9_readsNomination 34 = .ok (.aload_n 0, 1) := by decide +kernel
theorem dX9_readsNomination_35 : decode cX9_readsNomination 35 = .ok (.iconst 0, 1) := by decide +kernel
theorem dX9_readsNomination_36 : decode cX9_readsNomination 36 = .ok (.invokevirtual 122, 3) := by decide +kernel
theorem dX9_readsNomination_39 : decode cX9_readsNomination 39 = .ok (.goto 4, 3) := by decide +kernel
theorem dX9_readsNomination_42 : decode cX9_readsNomination 42 = .ok (.iconst (-1), 1) := by decide +kernel
theorem dX9_readsNomination_43 : decode cX9_readsNomination 43 = .ok (.istore 5, 2) := by decide +kernel
theorem dX9_readsNomination_45 : decode cX9_readsNomination 45 = .ok (.aload_n 0, 1) := by decide +kernel
theorem dX9_readsNomination_46 : decode cX9_readsNomination 46 = .ok (.invokevirtual 115, 3) := by decide +kernel
theorem dX9_readsNomination_49 : decode cX9_readsNomination 49 = .ok (.istore 6, 2) := by decide +kernel
theorem dX9_readsNomination_51 : decode cX9_readsNomination 51 = .ok (.aload_n 0, 1) := by decide +kernel
theorem dX9_readsNomination_52 : decode cX9_readsNomination 52 = .ok (.invokevirtual 70, 3) := by decide +kernel
theorem dX9_readsNomination_55 : decode cX9_readsNomination 55 = .ok (.ifCond .ne 4, 3) := by decide +kernel
theorem dX9_readsNomination_58 : decode cX9_readsNomination 58 = .ok (.return_, 1) := by decide +kernel
theorem dX9_readsNomination_59 : decode cX9_readsNomination 59 = .ok (.bipush 108, 2) := by decide +kernel
theorem dX9_readsNomination_61 : decode cX9_readsNomination 61 = .ok (.iconst 4, 1) := by decide +kernel
theorem dX9_readsNomination_62 : decode cX9_readsNomination 62 = .ok (.aload_n 0, 1) := by decide +kernel
theorem dX9_readsNomination_63 : decode cX9_readsNomination 63 = .ok (.getfield 13, 3) := by decide +kernel
theorem dX9_readsNomination_66 : decode cX9_readsNomination 66 = .ok (.iconst 3, 1) := by decide +kernel
theorem dX9_readsNomination_67 : decode cX9_readsNomination 67 = .ok (.laload, 1) := by decide +kernel
theorem dX9_readsNomination_68 : decode cX9_readsNomination 68 = .ok (.l2i, 1) := by decide +kernel
theorem dX9_readsNomination_69 : decode cX9_readsNomination 69 = .ok (.imul, 1) := by decide +kernel
theorem dX9_readsNomination_70 : decode cX9_readsNomination 70 = .ok (.iadd, 1) := by decide +kernel
theorem dX9_readsNomination_71 : decode cX9_readsNomination 71 = .ok (.istore 7, 2) := by decide +kernel
theorem dX9_readsNomination_73 : decode cX9_readsNomination 73 = .ok (.aload_n 0, 1) := by decide +kernel
theorem dX9_readsNomination_74 : decode cX9_readsNomination 74 = .ok (.getfield 13, 3) := by decide +kernel
theorem dX9_readsNomination_77 : decode cX9_readsNomination 77 = .ok (.iload 7, 2) := by decide +kernel
theorem dX9_readsNomination_79 : decode cX9_readsNomination 79 = .ok (.iload_n 3, 1) := by decide +kernel
theorem dX9_readsNomination_80 : decode cX9_readsNomination 80 = .ok (.i2l, 1) := by decide +kernel
theorem dX9_readsNomination_81 : decode cX9_readsNomination 81 = .ok (.lastore, 1) := by decide +kernel
theorem dX9_readsNomination_82 : decode cX9_readsNomination 82 = .ok (.aload_n 0, 1) := by decide +kernel
theorem dX9_readsNomination_83 : decode cX9_readsNomination 83 = .ok (.getfield 13, 3) := by decide +kernel
theorem dX9_readsNomination_86 : decode cX9_readsNomination 86 = .ok (.iload 7, 2) := by decide +kernel
theorem dX9_readsNomination_88 : decode cX9_readsNomination 88 = .ok (.iconst 1, 1) := by decide +kernel
theorem dX9_readsNomination_89 : decode cX9_readsNomination 89 = .ok (.iadd, 1) := by decide +kernel
theorem dX9_readsNomination_90 : decode cX9_readsNomination 90 = .ok (.iload 4, 2) := by decide +kernel
theorem dX9_readsNomination_92 : decode cX9_readsNomination 92 = .ok (.i2l, 1) := by decide +kernel
theorem dX9_readsNomination_93 : decode cX9_readsNomination 93 = .ok (.lastore, 1) := by decide +kernel
theorem dX9_readsNomination_94 : decode cX9_readsNomination 94 = .ok (.aload_n 0, 1) := by decide +kernel
theorem dX9_readsNomination_95 : decode cX9_readsNomination 95 = .ok (.getfield 13, 3) := by decide +kernel
theorem dX9_readsNomination_98 : decode cX9_readsNomination 98 = .ok (.iload 7, 2) := by decide +kernel
theorem dX9_readsNomination_100 : decode cX9_readsNomination 100 = .ok (.iconst 2, 1) := by decide +kernel
theorem dX9_readsNomination_101 : decode cX9_readsNomination 101 = .ok (.iadd, 1) := by decide +kernel
theorem dX9_readsNomination_102 : decode cX9_readsNomination 102 = .ok (.iload 5, 2) := by decide +kernel
theorem dX9_readsNomination_104 : decode cX9_readsNomination 104 = .ok (.i2l, 1) := by decide +kernel
theorem dX9_readsNomination_105 : decode cX9_readsNomination 105 = .ok (.lastore, 1) := by decide +kernel
theorem dX9_readsNomination_106 : decode cX9_readsNomination 106 = .ok (.aload_n 0, 1) := by decide +kernel
theorem dX9_readsNomination_107 : decode cX9_readsNomination 107 = .ok (.getfield 13, 3) := by decide +kernel
theorem dX9_readsNomination_110 : decode cX9_readsNomination 110 = .ok (.iload 7, 2) := by decide +kernel
theorem dX9_readsNomination_112 : decode cX9_readsNomination 112 = .ok (.iconst 3, 1) := by decide +kernel
theorem dX9_readsNomination_113 : decode cX9_readsNomination 113 = .ok (.iadd, 1) := by decide +kernel
theorem dX9_readsNomination_114 : decode cX9_readsNomination 114 = .ok (.iload 6, 2) := by decide +kernel
theorem dX9_readsNomination_116 : decode cX9_readsNomination 116 = .ok (.i2l, 1) := by decide +kernel
theorem dX9_readsNomination_117 : decode cX9_readsNomination 117 = .ok (.lastore, 1) := by decide +kernel
theorem dX9_readsNomination_118 : decode cX9_readsNomination 118 = .ok (.aload_n 0, 1) := by decide +kernel
theorem dX9_readsNomination_119 : decode cX9_readsNomination 119 = .ok (.getfield 13, 3) := by decide +kernel
theorem dX9_readsNomination_122 : decode cX9_readsNomination 122 = .ok (.iconst 3, 1) := by decide +kernel
theorem dX9_readsNomination_123 : decode cX9_readsNomination 123 = .ok (.dup2, 1) := by decide +kernel
theorem dX9_readsNomination_124 : decode cX9_readsNomination 124 = .ok (.laload, 1) := by decide +kernel
theorem dX9_readsNomination_125 : decode cX9_readsNomination 125 = .ok (.lconst 1, 1) := by decide +kernel
theorem dX9_readsNomination_126 : decode cX9_readsNomination 126 = .ok (.ladd, 1) := by decide +kernel
theorem dX9_readsNomination_127 : decode cX9_readsNomination 127 = .ok (.lastore, 1) := by decide +kernel
theorem dX9_readsNomination_128 : decode cX9_readsNomination 128 = .ok (.return_, 1) := by decide +kernel
theorem dX9_isFullOf_0 : decode cX9_isFullOf 0 = .ok (.aload_n 0, 1) := by decide +kernel
theorem dX9_isFullOf_1 : decode cX9_isFullOf 1 = .ok (.aload_n 1, 1) := by decide +kernel
theorem dX9_isFullOf_2 : decode cX9_isFullOf 2 = .ok (.invokevirtual 125, 3) := by decide +kernel
theorem dX9_isFullOf_5 : decode cX9_isFullOf 5 = .ok (.ifCond .eq 24, 3) := by decide +kernel
theorem dX9_isFullOf_8 : decode cX9_isFullOf 8 = .ok (.aload_n 0, 1) := by decide +kernel
theorem dX9_isFullOf_9 : decode cX9_isFullOf 9 = .ok (.getfield 13, 3) := by decide +kernel
theorem dX9_isFullOf_12 : decode cX9_isFullOf 12 = .ok (.iload_n 2, 1) := by decide +kernel
theorem dX9_isFullOf_13 : decode cX9_isFullOf 13 = .ok (.laload, 1) := by decide +kernel
theorem dX9_isFullOf_14 : decode cX9_isFullOf 14 = .ok (.iload_n 3, 1) := by decide +kernel
theorem dX9_isFullOf_15 : decode cX9_isFullOf 15 = .ok (.i2l, 1) := by decide +kernel
theorem dX9_isFullOf_16 : decode cX9_isFullOf 16 = .ok (.lcmp, 1) := by decide +kernel
theorem dX9_isFullOf_17 : decode cX9_isFullOf 17 = .ok (.ifCond .ne 12, 3) := by decide +kernel
theorem dX9_isFullOf_20 : decode cX9_isFullOf 20 = .ok (.aload_n 0, 1) := by decide +kernel
theorem dX9_isFullOf_21 : decode cX9_isFullOf 21 = .ok (.iconst 3, 1) := by decide +kernel
theorem dX9_isFullOf_22 : decode cX9_isFullOf 22 = .ok (.aload_n 0, 1) := by decide +kernel
theorem dX9_isFullOf_23 : decode cX9_isFullOf 23 = .ok (.getfield 60, 3) := by decide +kernel
theorem dX9_isFullOf_26 : decode cX9_isFullOf 26 = .ok (.invokevirtual 98, 3) := by decide +kernel
theorem dX9_isFullOf_29 : decode cX9_isFullOf 29 = .ok (.aload_n 0, 1) := by decide +kernel
theorem dX9_isFullOf_30 : decode cX9_isFullOf 30 = .ok (.invokevirtual 70, 3) := by decide +kernel
theorem dX9_isFullOf_33 : decode cX9_isFullOf 33 = .ok (.ifCond .ne 7, 3) := by decide +kernel
theorem dX9_isFullOf_36 : decode cX9_isFullOf 36 = .ok (.iconst 1, 1) := by decide +kernel
theorem dX9_isFullOf_37 : decode cX9_isFullOf 37 = .ok (.goto 4, 3) := by decide +kernel
theorem dX9_isFullOf_40 : decode cX9_isFullOf 40 = .ok (.iconst 0, 1) := by decide +kernel
theorem dX9_isFullOf_41 : decode cX9_isFullOf 41 = .ok (.ireturn, 1) := by decide +kernel
theorem dX9_takes_0 : decode cX9_takes 0 = .ok (.aload_n 0, 1) := by decide +kernel
theorem dX9_takes_1 : decode cX9_takes 1 = .ok (.aload_n 1, 1) := by decide +kernel
theorem dX9_takes_2 : decode cX9_takes 2 = .ok (.invokevirtual 125, 3) := by decide +kernel
theorem dX9_takes_5 : decode cX9_takes 5 = .ok (.ifCond .ne 5, 3) := by decide +kernel
theorem dX9_takes_8 : decode cX9_takes 8 = .ok (.iconst 0, 1) := by decide +kernel
theorem dX9_takes_9 : decode cX9_takes 9 = .ok (.ireturn, 1) := by decide +kernel
theorem dX9_takes_10 : decode cX9_takes 10 = .ok (.aload_n 0, 1) := by decide +kernel
theorem dX9_takes_11 : decode cX9_takes 11 = .ok (.dup, 1) := by decide +kernel
theorem dX9_takes_12 : decode cX9_takes 12 = .ok (.getfield 60, 3) := by decide +kernel
theorem dX9_takes_15 : decode cX9_takes 15 = .ok (.aload_n 1, 1) := by decide +kernel
theorem dX9_takes_16 : decode cX9_takes 16 = .ok (.invokevirtual 85, 3) := by decide +kernel
theorem dX9_takes_19 : decode cX9_takes 19 = .ok (.iadd, 1) := by decide +kernel
theorem dX9_takes_20 : decode cX9_takes 20 = .ok (.putfield 60, 3) := by decide +kernel
theorem dX9_takes_23 : decode cX9_takes 23 = .ok (.iconst 1, 1) := by decide +kernel
theorem dX9_takes_24 : decode cX9_takes 24 = .ok (.ireturn, 1) := by decide +kernel
theorem dX9_readsPart_0 : decode cX9_readsPart 0 = .ok (.aload_n 0, 1) := by decide +kernel
theorem dX9_readsPart_1 : decode cX9_readsPart 1 = .ok (.ldc 129, 2) := by decide +kernel
theorem dX9_readsPart_3 : decode cX9_readsPart 3 = .ok (.iconst 1, 1) := by decide +kernel
theorem dX9_readsPart_4 : decode cX9_readsPart 4 = .ok (.bipush 10, 2) := by decide +kernel
theorem dX9_readsPart_6 : decode cX9_readsPart 6 = .ok (.invokevirtual 130, 3) := by decide +kernel
theorem dX9_readsPart_9 : decode cX9_readsPart 9 = .ok (.ifCond .ne 27, 3) := by decide +kernel
theorem dX9_readsPart_12 : decode cX9_readsPart 12 = .ok (.aload_n 0, 1) := by decide +kernel
theorem dX9_readsPart_13 : decode cX9_readsPart 13 = .ok (.ldc 134, 2) := by decide +kernel
theorem dX9_readsPart_15 : decode cX9_readsPart 15 = .ok (.iconst 1, 1) := by decide +kernel
theorem dX9_readsPart_16 : decode cX9_readsPart 16 = .ok (.bipush 10, 2) := by decide +kernel
theorem dX9_readsPart_18 : decode cX9_readsPart 18 = .ok (.invokevirtual 130, 3) := by decide +kernel
theorem dX9_readsPart_21 : decode cX9_readsPart 21 = .ok (.ifCond .ne 15, 3) := by decide +kernel
theorem dX9_readsPart_24 : decode cX9_readsPart 24 = .ok (.aload_n 0, 1) := by decide +kernel
theorem dX9_readsPart_25 : decode cX9_readsPart 25 = .ok (.ldc 136, 2) := by decide +kernel
theorem dX9_readsPart_27 : decode cX9_readsPart 27 = .ok (.iconst 2, 1) := by decide +kernel
theorem dX9_readsPart_28 : decode cX9_readsPart 28 = .ok (.bipush 6, 2) := by decide +kernel
theorem dX9_readsPart_30 : decode cX9_readsPart 30 = .ok (.invokevirtual 130, 3) := by decide +kernel
theorem dX9_readsPart_33 : decode cX9_readsPart 33 = .ok (.ifCond .eq 7, 3) := by decide +kernel
theorem dX9_readsPart_36 : decode cX9_readsPart 36 = .ok (.iconst 1, 1) := by decide +kernel
theorem dX9_readsPart_37 : decode cX9_readsPart 37 = .ok (.goto 4, 3) := by decide +kernel
theorem dX9_readsPart_40 : decode cX9_readsPart 40 = .ok (.iconst 0, 1) := by decide +kernel
theorem dX9_readsPart_41 : decode cX9_readsPart 41 = .ok (.istore_n 1, 1) := by decide +kernel
theorem dX9_readsPart_42 : decode cX9_readsPart 42 = .ok (.iload_n 1, 1) := by decide +kernel
theorem dX9_readsPart_43 : decode cX9_readsPart 43 = .ok (.ifCond .ne 39, 3) := by decide +kernel
theorem dX9_readsPart_46 : decode cX9_readsPart 46 = .ok (.aload_n 0, 1) := by decide +kernel
theorem dX9_readsPart_47 : decode cX9_readsPart 47 = .ok (.ldc 138, 2) := by decide +kernel
theorem dX9_readsPart_49 : decode cX9_readsPart 49 = .ok (.iconst 3, 1) := by decide +kernel
theorem dX9_readsPart_50 : decode cX9_readsPart 50 = .ok (.bipush 16, 2) := by decide +kernel
theorem dX9_readsPart_52 : decode cX9_readsPart 52 = .ok (.invokevirtual 130, 3) := by decide +kernel
theorem dX9_readsPart_55 : decode cX9_readsPart 55 = .ok (.ifCond .ne 27, 3) := by decide +kernel
theorem dX9_readsPart_58 : decode cX9_readsPart 58 = .ok (.aload_n 0, 1) := by decide +kernel
theorem dX9_readsPart_59 : decode cX9_readsPart 59 = .ok (.ldc 140, 2) := by decide +kernel
theorem dX9_readsPart_61 : decode cX9_readsPart 61 = .ok (.iconst 3, 1) := by decide +kernel
theorem dX9_readsPart_62 : decode cX9_readsPart 62 = .ok (.bipush 16, 2) := by decide +kernel
theorem dX9_readsPart_64 : decode cX9_readsPart 64 = .ok (.invokevirtual 130, 3) := by decide +kernel
theorem dX9_readsPart_67 : decode cX9_readsPart 67 = .ok (.ifCond .ne 15, 3) := by decide +kernel
theorem dX9_readsPart_70 : decode cX9_readsPart 70 = .ok (.aload_n 0, 1) := by decide +kernel
theorem dX9_readsPart_71 : decode cX9_readsPart 71 = .ok (.ldc 142, 2) := by decide +kernel
theorem dX9_readsPart_73 : decode cX9_readsPart 73 = .ok (.iconst 3, 1) := by decide +kernel
theorem dX9_readsPart_74 : decode cX9_readsPart 74 = .ok (.bipush 16, 2) := by decide +kernel
theorem dX9_readsPart_76 : decode cX9_readsPart 76 = .ok (.invokevirtual 130, 3) := by decide +kernel
theorem dX9_readsPart_79 : decode cX9_readsPart 79 = .ok (.ifCond .eq 7, 3) := by decide +kernel
theorem dX9_readsPart_82 : decode cX9_readsPart 82 = .ok (.iconst 1, 1) := by decide +kernel
theorem dX9_readsPart_83 : decode cX9_readsPart 83 = .ok (.goto 4, 3) := by decide +kernel
theorem dX9_readsPart_86 : decode cX9_readsPart 86 = .ok (.iconst 0, 1) := by decide +kernel
theorem dX9_readsPart_87 : decode cX9_readsPart 87 = .ok (.istore_n 1, 1) := by decide +kernel
theorem dX9_readsPart_88 : decode cX9_readsPart 88 = .ok (.iload_n 1, 1) := by decide +kernel
theorem dX9_readsPart_89 : decode cX9_readsPart 89 = .ok (.ifCond .eq 4, 3) := by decide +kernel
theorem dX9_readsPart_92 : decode cX9_readsPart 92 = .ok (.return_, 1) := by decide +kernel
theorem dX9_readsPart_93 : decode cX9_readsPart 93 = .ok (.aload_n 0, 1) := by decide +kernel
theorem dX9_readsPart_94 : decode cX9_readsPart 94 = .ok (.ldc 144, 2) := by decide +kernel
theorem dX9_readsPart_96 : decode cX9_readsPart 96 = .ok (.invokevirtual 146, 3) := by decide +kernel
theorem dX9_readsPart_99 : decode cX9_readsPart 99 = .ok (.ifCond .eq 10, 3) := by decide +kernel
theorem dX9_readsPart_102 : decode cX9_readsPart 102 = .ok (.aload_n 0, 1) := by decide +kernel
theorem dX9_readsPart_103 : decode cX9_readsPart 103 = .ok (.invokevirtual 149, 3) := by decide +kernel
theorem dX9_readsPart_106 : decode cX9_readsPart 106 = .ok (.goto 162, 3) := by decide +kernel
theorem dX9_readsPart_109 : decode cX9_readsPart 109 = .ok (.aload_n 0, 1) := by decide +kernel
theorem dX9_readsPart_110 : decode cX9_readsPart 110 = .ok (.ldc 129, 2) := by decide +kernel
theorem dX9_readsPart_112 : decode cX9_readsPart 112 = .ok (.invokevirtual 146, 3) := by decide +kernel
theorem dX9_readsPart_115 : decode cX9_readsPart 115 = .ok (.ifCond .eq 11, 3) := by decide +kernel
theorem dX9_readsPart_118 : decode cX9_readsPart 118 = .ok (.aload_n 0, 1) := by decide +kernel
theorem dX9_readsPart_119 : decode cX9_readsPart 119 = .ok (.iconst 1, 1) := by decide +kernel
theorem dX9_readsPart_120 : decode cX9_readsPart 120 = .ok (.invokevirtual 152, 3) := by decide +kernel
theorem dX9_readsPart_123 : decode cX9_readsPart 123 = .ok (.goto 145, 3) := by decide +kernel
theorem dX9_readsPart_126 : decode cX9_readsPart 126 = .ok (.aload_n 0, 1) := by decide +kernel
theorem dX9_readsPart_127 : decode cX9_readsPart 127 = .ok (.ldc 134, 2) := by decide +kernel
theorem dX9_readsPart_129 : decode cX9_readsPart 129 = .ok (.invokevirtual 146, 3) := by decide +kernel
theorem dX9_readsPart_132 : decode cX9_readsPart 132 = .ok (.ifCond .eq 11, 3) := by decide +kernel
theorem dX9_readsPart_135 : decode cX9_readsPart 135 = .ok (.aload_n 0, 1) := by decide +kernel
theorem dX9_readsPart_136 : decode cX9_readsPart 136 = .ok (.iconst 0, 1) := by decide +kernel
theorem dX9_readsPart_137 : decode cX9_readsPart 137 = .ok (.invokevirtual 152, 3) := by decide +kernel
theorem dX9_readsPart_140 : decode cX9_readsPart 140 = .ok (.goto 128, 3) := by decide +kernel
theorem dX9_readsPart_143 : decode cX9_readsPart 143 = .ok (.aload_n 0, 1) := by decide +kernel
theorem dX9_readsPart_144 : decode cX9_readsPart 144 = .ok (.ldc 136, 2) := by decide +kernel
theorem dX9_readsPart_146 : decode cX9_readsPart 146 = .ok (.invokevirtual 146, 3) := by decide +kernel
theorem dX9_readsPart_149 : decode cX9_readsPart 149 = .ok (.ifCond .eq 10, 3) := by decide +kernel
theorem dX9_readsPart_152 : decode cX9_readsPart 152 = .ok (.aload_n 0, 1) := by decide +kernel
theorem dX9_readsPart_153 : decode cX9_readsPart 153 = .ok (.invokevirtual 156, 3) := by decide +kernel
theorem dX9_readsPart_156 : decode cX9_readsPart 156 = .ok (.goto 112, 3) := by decide +kernel
theorem dX9_readsPart_159 : decode cX9_readsPart 159 = .ok (.aload_n 0, 1) := by decide +kernel
theorem dX9_readsPart_160 : decode cX9_readsPart 160 = .ok (.ldc 138, 2) := by decide +kernel
theorem dX9_readsPart_162 : decode cX9_readsPart 162 = .ok (.invokevirtual 146, 3) := by decide +kernel
theorem dX9_readsPart_165 : decode cX9_readsPart 165 = .ok (.ifCond .eq 12, 3) := by decide +kernel
theorem dX9_readsPart_168 : decode cX9_readsPart 168 = .ok (.aload_n 0, 1) := by decide +kernel
theorem dX9_readsPart_169 : decode cX9_readsPart 169 = .ok (.iconst 1, 1) := by decide +kernel
theorem dX9_readsPart_170 : decode cX9_readsPart 170 = .ok (.iconst 1, 1) := by decide +kernel
theorem dX9_readsPart_171 : decode cX9_readsPart 171 = .ok (.invokevirtual 159, 3) := by decide +kernel
theorem dX9_readsPart_174 : decode cX9_readsPart 174 = .ok (.goto 94, 3) := by decide +kernel
theorem dX9_readsPart_177 : decode cX9_readsPart 177 = .ok (.aload_n 0, 1) := by decide +kernel
theorem dX9_readsPart_178 : decode cX9_readsPart 178 = .ok (.ldc 140, 2) := by decide +kernel
theorem dX9_readsPart_180 : decode cX9_readsPart 180 = .ok (.invokevirtual 146, 3) := by decide +kernel
theorem dX9_readsPart_183 : decode cX9_readsPart 183 = .ok (.ifCond .eq 12, 3) := by decide +kernel
theorem dX9_readsPart_186 : decode cX9_readsPart 186 = .ok (.aload_n 0, 1) := by decide +kernel
theorem dX9_readsPart_187 : decode cX9_readsPart 187 = .ok (.iconst 1, 1) := by decide +kernel
theorem dX9_readsPart_188 : decode cX9_readsPart 188 = .ok (.iconst 0, 1) := by decide +kernel
theorem dX9_readsPart_189 : decode cX9_readsPart 189 = .ok (.invokevirtual 159, 3) := by decide +kernel
theorem dX9_readsPart_192 : decode cX9_readsPart 192 = .ok (.goto 76, 3) := by decide +kernel
theorem dX9_readsPart_195 : decode cX9_readsPart 195 = .ok (.aload_n 0, 1) := by decide +kernel
theorem dX9_readsPart_196 : decode cX9_readsPart 196 = .ok (.ldc 142, 2) := by decide +kernel
theorem dX9_readsPart_198 : decode cX9_readsPart 198 = .ok (.invokevirtual 146, 3) := by decide +kernel
theorem dX9_readsPart_201 : decode cX9_readsPart 201 = .ok (.ifCond .eq 12, 3) := by decide +kernel
theorem dX9_readsPart_204 : decode cX9_readsPart 204 = .ok (.aload_n 0, 1) := by decide +kernel
theorem dX9_readsPart_205 : decode cX9_readsPart 205 = .ok (.iconst 0, 1) := by decide +kernel
theorem dX9_readsPart_206 : decode cX9_readsPart 206 = .ok (.iconst 1, 1) := by decide +kernel
theorem dX9_readsPart_207 : decode cX9_readsPart 207 = .ok (.invokevirtual 159, 3) := by decide +kernel
theorem dX9_readsPart_210 : decode cX9_readsPart 210 = .ok (.goto 58, 3) := by decide +kernel
theorem dX9_readsPart_213 : decode cX9_readsPart 213 = .ok (.aload_n 0, 1) := by decide +kernel
theorem dX9_readsPart_214 : decode cX9_readsPart 214 = .ok (.ldc 163, 2) := by decide +kernel
theorem dX9_readsPart_216 : decode cX9_readsPart 216 = .ok (.invokevirtual 146, 3) := by decide +kernel
theorem dX9_readsPart_219 : decode cX9_readsPart 219 = .ok (.ifCond .eq 40, 3) := by decide +kernel
theorem dX9_readsPart_222 : decode cX9_readsPart 222 = .ok (.aload_n 0, 1) := by decide +kernel
theorem dX9_readsPart_223 : decode cX9_readsPart 223 = .ok (.iconst 0, 1) := by decide +kernel
theorem dX9_readsPart_224 : decode cX9_readsPart 224 = .ok (.sipush 999, 3) := by decide +kernel
theorem dX9_readsPart_227 : decode cX9_readsPart 227 = .ok (.invokevirtual 112, 3) := by decide +kernel
theorem dX9_readsPart_230 : decode cX9_readsPart 230 = .ok (.istore_n 2, 1) := by decide +kernel
theorem dX9_readsPart_231 : decode cX9_readsPart 231 = .ok (.aload_n 0, 1) := by decide +kernel
theorem dX9_readsPart_232 : decode cX9_readsPart 232 = .ok (.iconst 0, 1) := by decide +kernel
theorem dX9_readsPart_233 : decode cX9_readsPart 233 = .ok (.bipush 100, 2) := by decide +kernel
theorem dX9_readsPart_235 : decode cX9_readsPart 235 = .ok (.invokevirtual 112, 3) := by decide +kernel
theorem dX9_readsPart_238 : decode cX9_readsPart 238 = .ok (.istore_n 3, 1) := by decide +kernel
theorem dX9_readsPart_239 : decode cX9_readsPart 239 = .ok (.aload_n 0, 1) := by decide +kernel
theorem dX9_readsPart_240 : decode cX9_readsPart 240 = .ok (.getfield 13, 3) := by decide +kernel
theorem dX9_readsPart_243 : decode cX9_readsPart 243 = .ok (.iconst 5, 1) := by decide +kernel
theorem dX9_readsPart_244 : decode cX9_readsPart 244 = .ok (.iload_n 2, 1) := by decide +kernel
theorem dX9_readsPart_245 : decode cX9_readsPart 245 = .ok (.i2l, 1) := by decide +kernel
theorem dX9_readsPart_246 : decode cX9_readsPart 246 = .ok (.lastore, 1) := by decide +kernel
theorem dX9_readsPart_247 : decode cX9_readsPart 247 = .ok (.aload_n 0, 1) := by decide +kernel
theorem dX9_readsPart_248 : decode cX9_readsPart 248 = .ok (.getfield 13, 3) := by decide +kernel
theorem dX9_readsPart_251 : decode cX9_readsPart 251 = .ok (.bipush 6, 2) := by decide +kernel
theorem dX9_readsPart_253 : decode cX9_readsPart 253 = .ok (.iload_n 3, 1) := by decide +kernel
theorem dX9_readsPart_254 : decode cX9_readsPart 254 = .ok (.i2l, 1) := by decide +kernel
theorem dX9_readsPart_255 : decode cX9_readsPart 255 = .ok (.lastore, 1) := by decide +kernel
theorem dX9_readsPart_256 : decode cX9_readsPart 256 = .ok (.goto 12, 3) := by decide +kernel
theorem dX9_readsPart_259 : decode cX9_readsPart 259 = .ok (.aload_n 0, 1) := by decide +kernel
theorem dX9_readsPart_260 : decode cX9_readsPart 260 = .ok (.iconst 1, 1) := by decide +kernel
theorem dX9_readsPart_261 : decode cX9_readsPart 261 = .ok (.aload_n 0, 1) := by decide +kernel
theorem dX9_readsPart_262 : decode cX9_readsPart 262 = .ok (.getfield 60, 3) := by decide +kernel
theorem dX9_readsPart_265 : decode cX9_readsPart 265 = .ok (.invokevirtual 98, 3) := by decide +kernel
theorem dX9_readsPart_268 : decode cX9_readsPart 268 = .ok (.return_, 1) := by decide +kernel
theorem dX9_tell_0 : decode cX9_tell 0 = .ok (.aload_n 0, 1) := by decide +kernel
theorem dX9_tell_1 : decode cX9_tell 1 = .ok (.iconst 0, 1) := by decide +kernel
theorem dX9_tell_2 : decode cX9_tell 2 = .ok (.putfield 60, 3) := by decide +kernel
theorem dX9_tell_5 : decode cX9_tell 5 = .ok (.aload_n 0, 1) := by decide +kernel
theorem dX9_tell_6 : decode cX9_tell 6 = .ok (.iconst (-1), 1) := by decide +kernel
theorem dX9_tell_7 : decode cX9_tell 7 = .ok (.putfield 67, 3) := by decide +kernel
theorem dX9_tell_10 : decode cX9_tell 10 = .ok (.iconst 0, 1) := by decide +kernel
theorem dX9_tell_11 : decode cX9_tell 11 = .ok (.istore_n 1, 1) := by decide +kernel
theorem dX9_tell_12 : decode cX9_tell 12 = .ok (.iload_n 1, 1) := by decide +kernel
theorem dX9_tell_13 : decode cX9_tell 13 = .ok (.sipush 220, 3) := by decide +kernel
theorem dX9_tell_16 : decode cX9_tell 16 = .ok (.if_icmp .ge 16, 3) := by decide +kernel
theorem dX9_tell_19 : decode cX9_tell 19 = .ok (.aload_n 0, 1) := by decide +kernel
theorem dX9_tell_20 : decode cX9_tell 20 = .ok (.getfield 13, 3) := by decide +kernel
theorem dX9_tell_23 : decode cX9_tell 23 = .ok (.iload_n 1, 1) := by decide +kernel
theorem dX9_tell_24 : decode cX9_tell 24 = .ok (.lconst 0, 1) := by decide +kernel
theorem dX9_tell_25 : decode cX9_tell 25 = .ok (.lastore, 1) := by decide +kernel
theorem dX9_tell_26 : decode cX9_tell 26 = .ok (.iinc 1 1, 3) := by decide +kernel
theorem dX9_tell_29 : decode cX9_tell 29 = .ok (.goto (-17), 3) := by decide +kernel
theorem dX9_tell_32 : decode cX9_tell 32 = .ok (.aload_n 0, 1) := by decide +kernel
theorem dX9_tell_33 : decode cX9_tell 33 = .ok (.ldc 165, 2) := by decide +kernel
theorem dX9_tell_35 : decode cX9_tell 35 = .ok (.invokevirtual 146, 3) := by decide +kernel
theorem dX9_tell_38 : decode cX9_tell 38 = .ok (.ifCond .ne 12, 3) := by decide +kernel
theorem dX9_tell_41 : decode cX9_tell 41 = .ok (.aload_n 0, 1) := by decide +kernel
theorem dX9_tell_42 : decode cX9_tell 42 = .ok (.iconst 1, 1) := by decide +kernel
theorem dX9_tell_43 : decode cX9_tell 43 = .ok (.aload_n 0, 1) := by decide +kernel
theorem dX9_tell_44 : decode cX9_tell 44 = .ok (.getfield 60, 3) := by decide +kernel
theorem dX9_tell_47 : decode cX9_tell 47 = .ok (.invokevirtual 98, 3) := by decide +kernel
theorem dX9_tell_50 : decode cX9_tell 50 = .ok (.aload_n 0, 1) := by decide +kernel
theorem dX9_tell_51 : decode cX9_tell 51 = .ok (.getfield 13, 3) := by decide +kernel
theorem dX9_tell_54 : decode cX9_tell 54 = .ok (.iconst 0, 1) := by decide +kernel
theorem dX9_tell_55 : decode cX9_tell 55 = .ok (.aload_n 0, 1) := by decide +kernel
theorem dX9_tell_56 : decode cX9_tell 56 = .ok (.iconst 2, 1) := by decide +kernel
theorem dX9_tell_57 : decode cX9_tell 57 = .ok (.bipush 8, 2) := by decide +kernel
theorem dX9_tell_59 : decode cX9_tell 59 = .ok (.invokevirtual 112, 3) := by decide +kernel
theorem dX9_tell_62 : decode cX9_tell 62 = .ok (.i2l, 1) := by decide +kernel
theorem dX9_tell_63 : decode cX9_tell 63 = .ok (.lastore, 1) := by decide +kernel
theorem dX9_tell_64 : decode cX9_tell 64 = .ok (.iconst 0, 1) := by decide +kernel
theorem dX9_tell_65 : decode cX9_tell 65 = .ok (.istore_n 1, 1) := by decide +kernel
theorem dX9_tell_66 : decode cX9_tell 66 = .ok (.iload_n 1, 1) := by decide +kernel
theorem dX9_tell_67 : decode cX9_tell 67 = .ok (.iconst 1, 1) := by decide +kernel
theorem dX9_tell_68 : decode cX9_tell 68 = .ok (.iadd, 1) := by decide +kernel
theorem dX9_tell_69 : decode cX9_tell 69 = .ok (.bipush 8, 2) := by decide +kernel
theorem dX9_tell_71 : decode cX9_tell 71 = .ok (.if_icmp .ge 23, 3) := by decide +kernel
theorem dX9_tell_74 : decode cX9_tell 74 = .ok (.aload_n 0, 1) := by decide +kernel
theorem dX9_tell_75 : decode cX9_tell 75 = .ok (.getfield 13, 3) := by decide +kernel
theorem dX9_tell_78 : decode cX9_tell 78 = .ok (.bipush 12, 2) := by decide +kernel
theorem dX9_tell_80 : decode cX9_tell 80 = .ok (.iconst 2, 1) := by decide +kernel
theorem dX9_tell_81 : decode cX9_tell 81 = .ok (.iload_n 1, 1) := by decide +kernel
theorem dX9_tell_82 : decode cX9_tell 82 = .ok (.imul, 1) := by decide +kernel
theorem dX9_tell_83 : decode cX9_tell 83 = .ok (.iadd, 1) := by decide +kernel
theorem dX9_tell_84 : decode cX9_tell 84 = .ok (.ldc2_w 167, 3) := by decide +kernel
theorem dX9_tell_87 : decode cX9_tell 87 = .ok (.lastore, 1) := by decide +kernel
theorem dX9_tell_88 : decode cX9_tell 88 = .ok (.iinc 1 1, 3) := by decide +kernel
theorem dX9_tell_91 : decode cX9_tell 91 = .ok (.goto (-25), 3) := by decide +kernel
theorem dX9_tell_94 : decode cX9_tell 94 = .ok (.aload_n 0, 1) := by decide +kernel
theorem dX9_tell_95 : decode cX9_tell 95 = .ok (.invokevirtual 70, 3) := by decide +kernel
theorem dX9_tell_98 : decode cX9_tell 98 = .ok (.ifCond .eq 29, 3) := by decide +kernel
theorem dX9_tell_101 : decode cX9_tell 101 = .ok (.aload_n 0, 1) := by decide +kernel
theorem dX9_tell_102 : decode cX9_tell 102 = .ok (.invokevirtual 74, 3) := by decide +kernel
theorem dX9_tell_105 : decode cX9_tell 105 = .ok (.bipush 59, 2) := by decide +kernel
theorem dX9_tell_107 : decode cX9_tell 107 = .ok (.if_icmp .ne 20, 3) := by decide +kernel
theorem dX9_tell_110 : decode cX9_tell 110 = .ok (.aload_n 0, 1) := by decide +kernel
theorem dX9_tell_111 : decode cX9_tell 111 = .ok (.dup, 1) := by decide +kernel
theorem dX9_tell_112 : decode cX9_tell 112 = .ok (.getfield 60, 3) := by decide +kernel
theorem dX9_tell_115 : decode cX9_tell 115 = .ok (.iconst 1, 1) := by decide +kernel
theorem dX9_tell_116 : decode cX9_tell 116 = .ok (.iadd, 1) := by decide +kernel
theorem dX9_tell_117 : decode cX9_tell 117 = .ok (.putfield 60, 3) := by decide +kernel
theorem dX9_tell_120 : decode cX9_tell 120 = .ok (.aload_n 0, 1) := by decide +kernel
theorem dX9_tell_121 : decode cX9_tell 121 = .ok (.invokevirtual 169, 3) := by decide +kernel
theorem dX9_tell_124 : decode cX9_tell 124 = .ok (.goto (-30), 3) := by decide +kernel
theorem dX9_tell_127 : decode cX9_tell 127 = .ok (.aload_n 0, 1) := by decide +kernel
theorem dX9_tell_128 : decode cX9_tell 128 = .ok (.invokevirtual 70, 3) := by decide +kernel
theorem dX9_tell_131 : decode cX9_tell 131 = .ok (.ifCond .eq 20, 3) := by decide +kernel
theorem dX9_tell_134 : decode cX9_tell 134 = .ok (.aload_n 0, 1) := by decide +kernel
theorem dX9_tell_135 : decode cX9_tell 135 = .ok (.invokevirtual 74, 3) := by decide +kernel
theorem dX9_tell_138 : decode cX9_tell 138 = .ok (.iconst (-1), 1) := by decide +kernel
theorem dX9_tell_139 : decode cX9_tell 139 = .ok (.if_icmp .eq 12, 3) := by decide +kernel
theorem dX9_tell_142 : decode cX9_tell 142 = .ok (.aload_n 0, 1) := by decide +kernel
theorem dX9_tell_143 : decode cX9_tell 143 = .ok (.iconst 1, 1) := by decide +kernel
theorem dX9_tell_144 : decode cX9_tell 144 = .ok (.aload_n 0, 1) := by decide +kernel
theorem dX9_tell_145 : decode cX9_tell 145 = .ok (.getfield 60, 3) := by decide +kernel
theorem dX9_tell_148 : decode cX9_tell 148 = .ok (.invokevirtual 98, 3) := by decide +kernel
theorem dX9_tell_151 : decode cX9_tell 151 = .ok (.aload_n 0, 1) := by decide +kernel
theorem dX9_tell_152 : decode cX9_tell 152 = .ok (.iconst 0, 1) := by decide +kernel
theorem dX9_tell_153 : decode cX9_tell 153 = .ok (.putfield 52, 3) := by decide +kernel
theorem dX9_tell_156 : decode cX9_tell 156 = .ok (.aload_n 0, 1) := by decide +kernel
theorem dX9_tell_157 : decode cX9_tell 157 = .ok (.invokevirtual 70, 3) := by decide +kernel
theorem dX9_tell_160 : decode cX9_tell 160 = .ok (.ifCond .ne 11, 3) := by decide +kernel
theorem dX9_tell_163 : decode cX9_tell 163 = .ok (.bipush (-2), 2) := by decide +kernel
theorem dX9_tell_165 : decode cX9_tell 165 = .ok (.aload_n 0, 1) := by decide +kernel
theorem dX9_tell_166 : decode cX9_tell 166 = .ok (.getfield 67, 3) := by decide +kernel
theorem dX9_tell_169 : decode cX9_tell 169 = .ok (.isub, 1) := by decide +kernel
theorem dX9_tell_170 : decode cX9_tell 170 = .ok (.ireturn, 1) := by decide +kernel
theorem dX9_tell_171 : decode cX9_tell 171 = .ok (.aload_n 0, 1) := by decide +kernel
theorem dX9_tell_172 : decode cX9_tell 172 = .ok (.getfield 13, 3) := by decide +kernel
theorem dX9_tell_175 : decode cX9_tell 175 = .ok (.iconst 0, 1) := by decide +kernel
theorem dX9_tell_176 : decode cX9_tell 176 = .ok (.aload_n 0, 1) := by decide +kernel
theorem dX9_tell_177 : decode cX9_tell 177 = .ok (.getfield 9, 3) := by decide +kernel
theorem dX9_tell_180 : decode cX9_tell 180 = .ok (.iconst 0, 1) := by decide +kernel
theorem dX9_tell_181 : decode cX9_tell 181 = .ok (.invokestatic 172, 3) := by decide +kernel
theorem dX9_tell_184 : decode cX9_tell 184 = .ok (.aload_n 0, 1) := by decide +kernel
theorem dX9_tell_185 : decode cX9_tell 185 = .ok (.iconst 0, 1) := by decide +kernel
theorem dX9_tell_186 : decode cX9_tell 186 = .ok (.putfield 176, 3) := by decide +kernel
theorem dX9_tell_189 : decode cX9_tell 189 = .ok (.aload_n 0, 1) := by decide +kernel
theorem dX9_tell_190 : decode cX9_tell 190 = .ok (.iconst 1, 1) := by decide +kernel
theorem dX9_tell_191 : decode cX9_tell 191 = .ok (.invokevirtual 179, 3) := by decide +kernel
theorem dX9_tell_194 : decode cX9_tell 194 = .ok (.ireturn, 1) := by decide +kernel
theorem dX9_hasPipe_0 : decode cX9_hasPipe 0 = .ok (.aload_n 0, 1) := by decide +kernel
theorem dX9_hasPipe_1 : decode cX9_hasPipe 1 = .ok (.getfield 9, 3) := by decide +kernel
theorem dX9_hasPipe_4 : decode cX9_hasPipe 4 = .ok (.iconst 0, 1) := by decide +kernel
theorem dX9_hasPipe_5 : decode cX9_hasPipe 5 = .ok (.laload, 1) := by decide +kernel
theorem dX9_hasPipe_6 : decode cX9_hasPipe 6 = .ok (.lconst 0, 1) := by decide +kernel
theorem dX9_hasPipe_7 : decode cX9_hasPipe 7 = .ok (.lcmp, 1) := by decide +kernel
theorem dX9_hasPipe_8 : decode cX9_hasPipe 8 = .ok (.ifCond .le 7, 3) := by decide +kernel
theorem dX9_hasPipe_11 : decode cX9_hasPipe 11 = .ok (.iconst 1, 1) := by decide +kernel
theorem dX9_hasPipe_12 : decode cX9_hasPipe 12 = .ok (.goto 4, 3) := by decide +kernel
theorem dX9_hasPipe_15 : decode cX9_hasPipe 15 = .ok (.iconst 0, 1) := by decide +kernel
theorem dX9_hasPipe_16 : decode cX9_hasPipe 16 = .ok (.ireturn, 1) := by decide +kernel
theorem dX9_isHub_0 : decode cX9_isHub 0 = .ok (.iload_n 1, 1) := by decide +kernel
theorem dX9_isHub_1 : decode cX9_isHub 1 = .ok (.i2l, 1) := by decide +kernel
theorem dX9_isHub_2 : decode cX9_isHub 2 = .ok (.lconst 0, 1) := by decide +kernel
theorem dX9_isHub_3 : decode cX9_isHub 3 = .ok (.aload_n 0, 1) := by decide +kernel
theorem dX9_isHub_4 : decode cX9_isHub 4 = .ok (.getfield 9, 3) := by decide +kernel
theorem dX9_isHub_7 : decode cX9_isHub 7 = .ok (.iconst 0, 1) := by decide +kernel
theorem dX9_isHub_8 : decode cX9_isHub 8 = .ok (.laload, 1) := by decide +kernel
theorem dX9_isHub_9 : decode cX9_isHub 9 = .ok (.lconst 1, 1) := by decide +kernel
theorem dX9_isHub_10 : decode cX9_isHub 10 = .ok (.lsub, 1) := by decide +kernel
theorem dX9_isHub_11 : decode cX9_isHub 11 = .ok (.invokestatic 81, 3) := by decide +kernel
theorem dX9_isHub_14 : decode cX9_isHub 14 = .ok (.ireturn, 1) := by decide +kernel
theorem dX9_isSegment_0 : decode cX9_isSegment 0 = .ok (.iload_n 1, 1) := by decide +kernel
theorem dX9_isSegment_1 : decode cX9_isSegment 1 = .ok (.i2l, 1) := by decide +kernel
theorem dX9_isSegment_2 : decode cX9_isSegment 2 = .ok (.lconst 0, 1) := by decide +kernel
theorem dX9_isSegment_3 : decode cX9_isSegment 3 = .ok (.aload_n 0, 1) := by decide +kernel
theorem dX9_isSegment_4 : decode cX9_isSegment 4 = .ok (.getfield 9, 3) := by decide +kernel
theorem dX9_isSegment_7 : decode cX9_isSegment 7 = .ok (.iconst 0, 1) := by decide +kernel
theorem dX9_isSegment_8 : decode cX9_isSegment 8 = .ok (.laload, 1) := by decide +kernel
theorem dX9_isSegment_9 : decode cX9_isSegment 9 = .ok (.ldc2_w 183, 3) := by decide +kernel
theorem dX9_isSegment_12 : decode cX9_isSegment 12 = .ok (.lsub, 1) := by decide +kernel
theorem dX9_isSegment_13 : decode cX9_isSegment 13 = .ok (.invokestatic 81, 3) := by decide +kernel
theorem dX9_isSegment_16 : decode cX9_isSegment 16 = .ok (.ireturn, 1) := by decide +kernel
theorem dX9_isPoint_0 : decode cX9_isPoint 0 = .ok (.iload_n 1, 1) := by decide +kernel
theorem dX9_isPoint_1 : decode cX9_isPoint 1 = .ok (.i2l, 1) := by decide +kernel
theorem dX9_isPoint_2 : decode cX9_isPoint 2 = .ok (.lconst 0, 1) := by decide +kernel
theorem dX9_isPoint_3 : decode cX9_isPoint 3 = .ok (.aload_n 0, 1) := by decide +kernel
theorem dX9_isPoint_4 : decode cX9_isPoint 4 = .ok (.getfield 9, 3) := by decide +kernel
theorem dX9_isPoint_7 : decode cX9_isPoint 7 = .ok (.iconst 1, 1) := by decide +kernel
theorem dX9_isPoint_8 : decode cX9_isPoint 8 = .ok (.laload, 1) := by decide +kernel
theorem dX9_isPoint_9 : decode cX9_isPoint 9 = .ok (.lconst 1, 1) := by decide +kernel
theorem dX9_isPoint_10 : decode cX9_isPoint 10 = .ok (.lsub, 1) := by decide +kernel
theorem dX9_isPoint_11 : decode cX9_isPoint 11 = .ok (.invokestatic 81, 3) := by decide +kernel
theorem dX9_isPoint_14 : decode cX9_isPoint 14 = .ok (.ireturn, 1) := by decide +kernel
theorem dX9_isPointOf_0 : decode cX9_isPointOf 0 = .ok (.aload_n 0, 1) := by decide +kernel
theorem dX9_isPointOf_1 : decode cX9_isPointOf 1 = .ok (.iload_n 1, 1) := by decide +kernel
theorem dX9_isPointOf_2 : decode cX9_isPointOf 2 = .ok (.invokevirtual 185, 3) := by decide +kernel
theorem dX9_isPointOf_5 : decode cX9_isPointOf 5 = .ok (.ifCond .eq 17, 3) := by decide +kernel
theorem dX9_isPointOf_8 : decode cX9_isPointOf 8 = .ok (.aload_n 0, 1) := by decide +kernel
theorem dX9_isPointOf_9 : decode cX9_isPointOf 9 = .ok (.iload_n 1, 1) := by decide +kernel
theorem dX9_isPointOf_10 : decode cX9_isPointOf 10 = .ok (.iconst 1, 1) := by decide +kernel
theorem dX9_isPointOf_11 : decode cX9_isPointOf 11 = .ok (.invokevirtual 189, 3) := by decide +kernel
theorem dX9_isPointOf_14 : decode cX9_isPointOf 14 = .ok (.iload_n 2, 1) := by decide +kernel
theorem dX9_isPointOf_15 : decode cX9_isPointOf 15 = .ok (.if_icmp .ne 7, 3) := by decide +kernel
theorem dX9_isPointOf_18 : decode cX9_isPointOf 18 = .ok (.iconst 1, 1) := by decide +kernel
theorem dX9_isPointOf_19 : decode cX9_isPointOf 19 = .ok (.goto 4, 3) := by decide +kernel
theorem dX9_isPointOf_22 : decode cX9_isPointOf 22 = .ok (.iconst 0, 1) := by decide +kernel
theorem dX9_isPointOf_23 : decode cX9_isPointOf 23 = .ok (.ireturn, 1) := by decide +kernel
theorem dX9_isShipper_0 : decode cX9_isShipper 0 = .ok (.iload_n 1, 1) := by decide +kernel
theorem dX9_isShipper_1 : decode cX9_isShipper 1 = .ok (.i2l, 1) := by decide +kernel
theorem dX9_isShipper_2 : decode cX9_isShipper 2 = .ok (.lconst 0, 1) := by decide +kernel
theorem dX9_isShipper_3 : decode cX9_isShipper 3 = .ok (.aload_n 0, 1) := by decide +kernel
theorem dX9_isShipper_4 : decode cX9_isShipper 4 = .ok (.getfield 9, 3) := by decide +kernel
theorem dX9_isShipper_7 : decode cX9_isShipper 7 = .ok (.iconst 2, 1) := by decide +kernel
theorem dX9_isShipper_8 : decode cX9_isShipper 8 = .ok (.laload, 1) := by decide +kernel
theorem dX9_isShipper_9 : decode cX9_isShipper 9 = .ok (.lconst 1, 1) := by decide +kernel
theorem dX9_isShipper_10 : decode cX9_isShipper 10 = .ok (.lsub, 1) := by decide +kernel
theorem dX9_isShipper_11 : decode cX9_isShipper 11 = .ok (.invokestatic 81, 3) := by decide +kernel
theorem dX9_isShipper_14 : decode cX9_isShipper 14 = .ok (.ireturn, 1) := by decide +kernel
theorem dX9_isNom_0 : decode cX9_isNom 0 = .ok (.iload_n 1, 1) := by decide +kernel
theorem dX9_isNom_1 : decode cX9_isNom 1 = .ok (.i2l, 1) := by decide +kernel
theorem dX9_isNom_2 : decode cX9_isNom 2 = .ok (.lconst 0, 1) := by decide +kernel
theorem dX9_isNom_3 : decode cX9_isNom 3 = .ok (.aload_n 0, 1) := by decide +kernel
theorem dX9_isNom_4 : decode cX9_isNom 4 = .ok (.getfield 9, 3) := by decide +kernel
theorem dX9_isNom_7 : decode cX9_isNom 7 = .ok (.iconst 3, 1) := by decide +kernel
theorem dX9_isNom_8 : decode cX9_isNom 8 = .ok (.laload, 1) := by decide +kernel
theorem dX9_isNom_9 : decode cX9_isNom 9 = .ok (.lconst 1, 1) := by decide +kernel
theorem dX9_isNom_10 : decode cX9_isNom 10 = .ok (.lsub, 1) := by decide +kernel
theorem dX9_isNom_11 : decode cX9_isNom 11 = .ok (.invokestatic 81, 3) := by decide +kernel
theorem dX9_isNom_14 : decode cX9_isNom 14 = .ok (.ireturn, 1) := by decide +kernel
theorem dX9_isOne_0 : decode cX9_isOne 0 = .ok (.iload_n 1, 1) := by decide +kernel
theorem dX9_isOne_1 : decode cX9_isOne 1 = .ok (.ifCond .ne 11, 3) := by decide +kernel
theorem dX9_isOne_4 : decode cX9_isOne 4 = .ok (.aload_n 0, 1) := by decide +kernel
theorem dX9_isOne_5 : decode cX9_isOne 5 = .ok (.iload_n 2, 1) := by decide +kernel
theorem dX9_isOne_6 : decode cX9_isOne 6 = .ok (.invokevirtual 185, 3) := by decide +kernel
theorem dX9_isOne_9 : decode cX9_isOne 9 = .ok (.ifCond .ne 16, 3) := by decide +kernel
theorem dX9_isOne_12 : decode cX9_isOne 12 = .ok (.iload_n 1, 1) := by decide +kernel
theorem dX9_isOne_13 : decode cX9_isOne 13 = .ok (.iconst 1, 1) := by decide +kernel
theorem dX9_isOne_14 : decode cX9_isOne 14 = .ok (.if_icmp .ne 15, 3) := by decide +kernel
theorem dX9_isOne_17 : decode cX9_isOne 17 = .ok (.aload_n 0, 1) := by decide +kernel
theorem dX9_isOne_18 : decode cX9_isOne 18 = .ok (.iload_n 2, 1) := by decide +kernel
theorem dX9_isOne_19 : decode cX9_isOne 19 = .ok (.invokevirtual 192, 3) := by decide +kernel
theorem dX9_isOne_22 : decode cX9_isOne 22 = .ok (.ifCond .eq 7, 3) := by decide +kernel
theorem dX9_isOne_25 : decode cX9_isOne 25 = .ok (.iconst 1, 1) := by decide +kernel
theorem dX9_isOne_26 : decode cX9_isOne 26 = .ok (.goto 4, 3) := by decide +kernel
theorem dX9_isOne_29 : decode cX9_isOne 29 = .ok (.iconst 0, 1) := by decide +kernel
theorem dX9_isOne_30 : decode cX9_isOne 30 = .ok (.ireturn, 1) := by decide +kernel
theorem dX9_keepsPast_0 : decode cX9_keepsPast 0 = .ok (.aload_n 0, 1) := by decide +kernel
theorem dX9_keepsPast_1 : decode cX9_keepsPast 1 = .ok (.getfield 176, 3) := by decide +kernel
theorem dX9_keepsPast_4 : decode cX9_keepsPast 4 = .ok (.bipush 10, 2) := by decide +kernel
theorem dX9_keepsPast_6 : decode cX9_keepsPast 6 = .ok (.if_icmp .ne 42, 3) := by decide +kernel
theorem dX9_keepsPast_9 : decode cX9_keepsPast 9 = .ok (.iconst 1, 1) := by decide +kernel
theorem dX9_keepsPast_10 : decode cX9_keepsPast 10 = .ok (.istore_n 1, 1) := by decide +kernel
theorem dX9_keepsPast_11 : decode cX9_keepsPast 11 = .ok (.iload_n 1, 1) := by decide +kernel
theorem dX9_keepsPast_12 : decode cX9_keepsPast 12 = .ok (.bipush 10, 2) := by decide +kernel
theorem dX9_keepsPast_14 : decode cX9_keepsPast 14 = .ok (.if_icmp .ge 24, 3) := by decide +kernel
theorem dX9_keepsPast_17 : decode cX9_keepsPast 17 = .ok (.aload_n 0, 1) := by decide +kernel
theorem dX9_keepsPast_18 : decode cX9_keepsPast 18 = .ok (.getfield 19, 3) := by decide +kernel
theorem dX9_keepsPast_21 : decode cX9_keepsPast 21 = .ok (.iload_n 1, 1) := by decide +kernel
theorem dX9_keepsPast_22 : decode cX9_keepsPast 22 = .ok (.aload_n 0, 1) := by decide +kernel
theorem dX9_keepsPast_23 : decode cX9_keepsPast 23 = .ok (.getfield 19, 3) := by decide +kernel
theorem dX9_keepsPast_26 : decode cX9_keepsPast 26 = .ok (.iload_n 1, 1) := by decide +kernel
theorem dX9_keepsPast_27 : decode cX9_keepsPast 27 = .ok (.iconst 1, 1) := by decide +kernel
theorem dX9_keepsPast_28 : decode cX9_keepsPast 28 = .ok (.isub, 1) := by decide +kernel
theorem dX9_keepsPast_29 : decode cX9_keepsPast 29 = .ok (.invokestatic 172, 3) := by decide +kernel
theorem dX9_keepsPast_32 : decode cX9_keepsPast 32 = .ok (.iinc 1 1, 3) := by decide +kernel
theorem dX9_keepsPast_35 : decode cX9_keepsPast 35 = .ok (.goto (-24), 3) := by decide +kernel
theorem dX9_keepsPast_38 : decode cX9_keepsPast 38 = .ok (.aload_n 0, 1) := by decide +kernel
theorem dX9_keepsPast_39 : decode cX9_keepsPast 39 = .ok (.dup, 1) := by decide +kernel
theorem dX9_keepsPast_40 : decode cX9_keepsPast 40 = .ok (.getfield 176, 3) := by decide +kernel
theorem dX9_keepsPast_43 : decode cX9_keepsPast 43 = .ok (.iconst 1, 1) := by decide +kernel
theorem dX9_keepsPast_44 : decode cX9_keepsPast 44 = .ok (.isub, 1) := by decide +kernel
theorem dX9_keepsPast_45 : decode cX9_keepsPast 45 = .ok (.putfield 176, 3) := by decide +kernel
theorem dX9_keepsPast_48 : decode cX9_keepsPast 48 = .ok (.aload_n 0, 1) := by decide +kernel
theorem dX9_keepsPast_49 : decode cX9_keepsPast 49 = .ok (.getfield 9, 3) := by decide +kernel
theorem dX9_keepsPast_52 : decode cX9_keepsPast 52 = .ok (.iconst 0, 1) := by decide +kernel
theorem dX9_keepsPast_53 : decode cX9_keepsPast 53 = .ok (.aload_n 0, 1) := by decide +kernel
theorem dX9_keepsPast_54 : decode cX9_keepsPast 54 = .ok (.getfield 19, 3) := by decide +kernel
theorem dX9_keepsPast_57 : decode cX9_keepsPast 57 = .ok (.aload_n 0, 1) := by decide +kernel
theorem dX9_keepsPast_58 : decode cX9_keepsPast 58 = .ok (.getfield 176, 3) := by decide +kernel
theorem dX9_keepsPast_61 : decode cX9_keepsPast 61 = .ok (.invokestatic 172, 3) := by decide +kernel
theorem dX9_keepsPast_64 : decode cX9_keepsPast 64 = .ok (.aload_n 0, 1) := by decide +kernel
theorem dX9_keepsPast_65 : decode cX9_keepsPast 65 = .ok (.dup, 1) := by decide +kernel
theorem dX9_keepsPast_66 : decode cX9_keepsPast 66 = .ok (.getfield 176, 3) := by decide +kernel
theorem dX9_keepsPast_69 : decode cX9_keepsPast 69 = .ok (.iconst 1, 1) := by decide +kernel
theorem dX9_keepsPast_70 : decode cX9_keepsPast 70 = .ok (.iadd, 1) := by decide +kernel
theorem dX9_keepsPast_71 : decode cX9_keepsPast 71 = .ok (.putfield 176, 3) := by decide +kernel
theorem dX9_keepsPast_74 : decode cX9_keepsPast 74 = .ok (.return_, 1) := by decide +kernel
theorem dX9_undo_0 : decode cX9_undo 0 = .ok (.aload_n 0, 1) := by decide +kernel
theorem dX9_undo_1 : decode cX9_undo 1 = .ok (.getfield 176, 3) := by decide +kernel
theorem dX9_undo_4 : decode cX9_undo 4 = .ok (.ifCond .ne 5, 3) := by decide +kernel
theorem dX9_undo_7 : decode cX9_undo 7 = .ok (.iconst (-1), 1) := by decide +kernel
theorem dX9_undo_8 : decode cX9_undo 8 = .ok (.ireturn, 1) := by decide +kernel
theorem dX9_undo_9 : decode cX9_undo 9 = .ok (.aload_n 0, 1) := by decide +kernel
theorem dX9_undo_10 : decode cX9_undo 10 = .ok (.dup, 1) := by decide +kernel
theorem dX9_undo_11 : decode cX9_undo 11 = .ok (.getfield 176, 3) := by decide +kernel
theorem dX9_undo_14 : decode cX9_undo 14 = .ok (.iconst 1, 1) := by decide +kernel
theorem dX9_undo_15 : decode cX9_undo 15 = .ok (.isub, 1) := by decide +kernel
theorem dX9_undo_16 : decode cX9_undo 16 = .ok (.putfield 176, 3) := by decide +kernel
theorem dX9_undo_19 : decode cX9_undo 19 = .ok (.aload_n 0, 1) := by decide +kernel
theorem dX9_undo_20 : decode cX9_undo 20 = .ok (.getfield 19, 3) := by decide +kernel
theorem dX9_undo_23 : decode cX9_undo 23 = .ok (.aload_n 0, 1) := by decide +kernel
theorem dX9_undo_24 : decode cX9_undo 24 = .ok (.getfield 176, 3) := by decide +kernel
theorem dX9_undo_27 : decode cX9_undo 27 = .ok (.aload_n 0, 1) := by decide +kernel
theorem dX9_undo_28 : decode cX9_undo 28 = .ok (.getfield 9, 3) := by decide +kernel
theorem dX9_undo_31 : decode cX9_undo 31 = .ok (.iconst 0, 1) := by decide +kernel
theorem dX9_undo_32 : decode cX9_undo 32 = .ok (.invokestatic 172, 3) := by decide +kernel
theorem dX9_undo_35 : decode cX9_undo 35 = .ok (.aload_n 0, 1) := by decide +kernel
theorem dX9_undo_36 : decode cX9_undo 36 = .ok (.getfield 176, 3) := by decide +kernel
theorem dX9_undo_39 : decode cX9_undo 39 = .ok (.ireturn, 1) := by decide +kernel
theorem dX9_keep_0 : decode cX9_keep 0 = .ok (.iload_n 1, 1) := by decide +kernel
theorem dX9_keep_1 : decode cX9_keep 1 = .ok (.i2l, 1) := by decide +kernel
theorem dX9_keep_2 : decode cX9_keep 2 = .ok (.lconst 0, 1) := by decide +kernel
theorem dX9_keep_3 : decode cX9_keep 3 = .ok (.lconst 1, 1) := by decide +kernel
theorem dX9_keep_4 : decode cX9_keep 4 = .ok (.invokestatic 81, 3) := by decide +kernel
theorem dX9_keep_7 : decode cX9_keep 7 = .ok (.ifCond .ne 5, 3) := by decide +kernel
theorem dX9_keep_10 : decode cX9_keep 10 = .ok (.iconst (-1), 1) := by decide +kernel
theorem dX9_keep_11 : decode cX9_keep 11 = .ok (.ireturn, 1) := by decide +kernel
theorem dX9_keep_12 : decode cX9_keep 12 = .ok (.aload_n 0, 1) := by decide +kernel
theorem dX9_keep_13 : decode cX9_keep 13 = .ok (.getfield 9, 3) := by decide +kernel
theorem dX9_keep_16 : decode cX9_keep 16 = .ok (.iconst 0, 1) := by decide +kernel
theorem dX9_keep_17 : decode cX9_keep 17 = .ok (.aload_n 0, 1) := by decide +kernel
theorem dX9_keep_18 : decode cX9_keep 18 = .ok (.getfield 22, 3) := by decide +kernel
theorem dX9_keep_21 : decode cX9_keep 21 = .ok (.iload_n 1, 1) := by decide +kernel
theorem dX9_keep_22 : decode cX9_keep 22 = .ok (.invokestatic 172, 3) := by decide +kernel
theorem dX9_keep_25 : decode cX9_keep 25 = .ok (.aload_n 0, 1) := by decide +kernel
theorem dX9_keep_26 : decode cX9_keep 26 = .ok (.getfield 25, 3) := by decide +kernel
theorem dX9_keep_29 : decode cX9_keep 29 = .ok (.iload_n 1, 1) := by decide +kernel
theorem dX9_keep_30 : decode cX9_keep 30 = .ok (.iconst 1, 1) := by decide +kernel
theorem dX9_keep_31 : decode cX9_keep 31 = .ok (.bastore, 1) := by decide +kernel
theorem dX9_keep_32 : decode cX9_keep 32 = .ok (.aload_n 0, 1) := by decide +kernel
theorem dX9_keep_33 : decode cX9_keep 33 = .ok (.iconst 1, 1) := by decide +kernel
theorem dX9_keep_34 : decode cX9_keep 34 = .ok (.invokevirtual 179, 3) := by decide +kernel
theorem dX9_keep_37 : decode cX9_keep 37 = .ok (.ireturn, 1) := by decide +kernel
theorem dX9_back_0 : decode cX9_back 0 = .ok (.iload_n 1, 1) := by decide +kernel
theorem dX9_back_1 : decode cX9_back 1 = .ok (.i2l, 1) := by decide +kernel
theorem dX9_back_2 : decode cX9_back 2 = .ok (.lconst 0, 1) := by decide +kernel
theorem dX9_back_3 : decode cX9_back 3 = .ok (.lconst 1, 1) := by decide +kernel
theorem dX9_back_4 : decode cX9_back 4 = .ok (.invokestatic 81, 3) := by decide +kernel
theorem dX9_back_7 : decode cX9_back 7 = .ok (.ifCond .ne 5, 3) := by decide +kernel
theorem dX9_back_10 : decode cX9_back 10 = .ok (.iconst (-1), 1) := by decide +kernel
theorem dX9_back_11 : decode cX9_back 11 = .ok (.ireturn, 1) := by decide +kernel
theorem dX9_back_12 : decode cX9_back 12 = .ok (.aload_n 0, 1) := by decide +kernel
theorem dX9_back_13 : decode cX9_back 13 = .ok (.getfield 25, 3) := by decide +kernel
theorem dX9_back_16 : decode cX9_back 16 = .ok (.iload_n 1, 1) := by decide +kernel
theorem dX9_back_17 : decode cX9_back 17 = .ok (.baload, 1) := by decide +kernel
theorem dX9_back_18 : decode cX9_back 18 = .ok (.ifCond .ne 6, 3) := by decide +kernel
theorem dX9_back_21 : decode cX9_back 21 = .ok (.bipush (-2), 2) := by decide +kernel
theorem dX9_back_23 : decode cX9_back 23 = .ok (.ireturn, 1) := by decide +kernel
theorem dX9_back_24 : decode cX9_back 24 = .ok (.aload_n 0, 1) := by decide +kernel
theorem dX9_back_25 : decode cX9_back 25 = .ok (.getfield 22, 3) := by decide +kernel
theorem dX9_back_28 : decode cX9_back 28 = .ok (.iload_n 1, 1) := by decide +kernel
theorem dX9_back_29 : decode cX9_back 29 = .ok (.aload_n 0, 1) := by decide +kernel
theorem dX9_back_30 : decode cX9_back 30 = .ok (.getfield 9, 3) := by decide +kernel
theorem dX9_back_33 : decode cX9_back 33 = .ok (.iconst 0, 1) := by decide +kernel
theorem dX9_back_34 : decode cX9_back 34 = .ok (.invokestatic 172, 3) := by decide +kernel
theorem dX9_back_37 : decode cX9_back 37 = .ok (.aload_n 0, 1) := by decide +kernel
theorem dX9_back_38 : decode cX9_back 38 = .ok (.iconst 0, 1) := by decide +kernel
theorem dX9_back_39 : decode cX9_back 39 = .ok (.putfield 176, 3) := by decide +kernel
theorem dX9_back_42 : decode cX9_back 42 = .ok (.aload_n 0, 1) := by decide +kernel
theorem dX9_back_43 : decode cX9_back 43 = .ok (.iconst 1, 1) := by decide +kernel
theorem dX9_back_44 : decode cX9_back 44 = .ok (.invokevirtual 179, 3) := by decide +kernel
theorem dX9_back_47 : decode cX9_back 47 = .ok (.ireturn, 1) := by decide +kernel
theorem dX9_canNominate_0 : decode cX9_canNominate 0 = .ok (.iload_n 2, 1) := by decide +kernel
theorem dX9_canNominate_1 : decode cX9_canNominate 1 = .ok (.iconst (-1), 1) := by decide +kernel
theorem dX9_canNominate_2 : decode cX9_canNominate 2 = .ok (.if_icmp .eq 12, 3) := by decide +kernel
theorem dX9_canNominate_5 : decode cX9_canNominate 5 = .ok (.aload_n 0, 1) := by decide +kernel
theorem dX9_canNominate_6 : decode cX9_canNominate 6 = .ok (.iload_n 2, 1) := by decide +kernel
theorem dX9_canNominate_7 : decode cX9_canNominate 7 = .ok (.iconst 1, 1) := by decide +kernel
theorem dX9_canNominate_8 : decode cX9_canNominate 8 = .ok (.invokevirtual 195, 3) := by decide +kernel
theorem dX9_canNominate_11 : decode cX9_canNominate 11 = .ok (.ifCond .eq 31, 3) := by decide +kernel
theorem dX9_canNominate_14 : decode cX9_canNominate 14 = .ok (.iload_n 3, 1) := by decide +kernel
theorem dX9_canNominate_15 : decode cX9_canNominate 15 = .ok (.iconst (-1), 1) := by decide +kernel
theorem dX9_canNominate_16 : decode cX9_canNominate 16 = .ok (.if_icmp .eq 12, 3) := by decide +kernel
theorem dX9_canNominate_19 : decode cX9_canNominate 19 = .ok (.aload_n 0, 1) := by decide +kernel
theorem dX9_canNominate_20 : decode cX9_canNominate 20 = .ok (.iload_n 3, 1) := by decide +kernel
theorem dX9_canNominate_21 : decode cX9_canNominate 21 = .ok (.iconst 0, 1) := by decide +kernel
theorem dX9_canNominate_22 : decode cX9_canNominate 22 = .ok (.invokevirtual 195, 3) := by decide +kernel
theorem dX9_canNominate_25 : decode cX9_canNominate 25 = .ok (.ifCond .eq 17, 3) := by decide +kernel
theorem dX9_canNominate_28 : decode cX9_canNominate 28 = .ok (.iload_n 2, 1) := by decide +kernel
theorem dX9_canNominate_29 : decode cX9_canNominate 29 = .ok (.iconst (-1), 1) := by decide +kernel
theorem dX9_canNominate_30 : decode cX9_canNominate 30 = .ok (.if_icmp .ne 8, 3) := by decide +kernel
theorem dX9_canNominate_33 : decode cX9_canNominate 33 = .ok (.iload_n 3, 1) := by decide +kernel
theorem dX9_canNominate_34 : decode cX9_canNominate 34 = .ok (.iconst (-1), 1) := by decide +kernel
theorem dX9_canNominate_35 : decode cX9_canNominate 35 = .ok (.if_icmp .eq 7, 3) := by decide +kernel
theorem dX9_canNominate_38 : decode cX9_canNominate 38 = .ok (.iconst 1, 1) := by decide +kernel
theorem dX9_canNominate_39 : decode cX9_canNominate 39 = .ok (.goto 4, 3) := by decide +kernel
theorem dX9_canNominate_42 : decode cX9_canNominate 42 = .ok (.iconst 0, 1) := by decide +kernel
theorem dX9_canNominate_43 : decode cX9_canNominate 43 = .ok (.istore 5, 2) := by decide +kernel
theorem dX9_canNominate_45 : decode cX9_canNominate 45 = .ok (.aload_n 0, 1) := by decide +kernel
theorem dX9_canNominate_46 : decode cX9_canNominate 46 = .ok (.iload_n 1, 1) := by decide +kernel
theorem dX9_canNominate_47 : decode cX9_canNominate 47 = .ok (.invokevirtual 199, 3) := by decide +kernel
theorem dX9_canNominate_50 : decode cX9_canNominate 50 = .ok (.ifCond .eq 25, 3) := by decide +kernel
theorem dX9_canNominate_53 : decode cX9_canNominate 53 = .ok (.iload 5, 2) := by decide +kernel
theorem dX9_canNominate_55 : decode cX9_canNominate 55 = .ok (.ifCond .eq 20, 3) := by decide +kernel
theorem dX9_canNominate_58 : decode cX9_canNominate 58 = .ok (.iload 4, 2) := by decide +kernel
theorem dX9_canNominate_60 : decode cX9_canNominate 60 = .ok (.i2l, 1) := by decide +kernel
theorem dX9_canNominate_61 : decode cX9_canNominate 61 = .ok (.lconst 1, 1) := by decide +kernel
theorem dX9_canNominate_62 : decode cX9_canNominate 62 = .ok (.ldc2_w 167, 3) := by decide +kernel
theorem dX9_canNominate_65 : decode cX9_canNominate 65 = .ok (.invokestatic 81, 3) := by decide +kernel
theorem dX9_canNominate_68 : decode cX9_canNominate 68 = .ok (.ifCond .eq 7, 3) := by decide +kernel
theorem dX9_canNominate_71 : decode cX9_canNominate 71 = .ok (.iconst 1, 1) := by decide +kernel
theorem dX9_canNominate_72 : decode cX9_canNominate 72 = .ok (.goto 4, 3) := by decide +kernel
theorem dX9_canNominate_75 : decode cX9_canNominate 75 = .ok (.iconst 0, 1) := by decide +kernel
theorem dX9_canNominate_76 : decode cX9_canNominate 76 = .ok (.ireturn, 1) := by decide +kernel
theorem dX9_adds_0 : decode cX9_adds 0 = .ok (.bipush 108, 2) := by decide +kernel
theorem dX9_adds_2 : decode cX9_adds 2 = .ok (.iconst 4, 1) := by decide +kernel
theorem dX9_adds_3 : decode cX9_adds 3 = .ok (.aload_n 0, 1) := by decide +kernel
theorem dX9_adds_4 : decode cX9_adds 4 = .ok (.iconst 3, 1) := by decide +kernel
theorem dX9_adds_5 : decode cX9_adds 5 = .ok (.invokevirtual 179, 3) := by decide +kernel
theorem dX9_adds_8 : decode cX9_adds 8 = .ok (.imul, 1) := by decide +kernel
theorem dX9_adds_9 : decode cX9_adds 9 = .ok (.iadd, 1) := by decide +kernel
theorem dX9_adds_10 : decode cX9_adds 10 = .ok (.istore 5, 2) := by decide +kernel
theorem dX9_adds_12 : decode cX9_adds 12 = .ok (.aload_n 0, 1) := by decide +kernel
theorem dX9_adds_13 : decode cX9_adds 13 = .ok (.getfield 9, 3) := by decide +kernel
theorem dX9_adds_16 : decode cX9_adds 16 = .ok (.iload 5, 2) := by decide +kernel
theorem dX9_adds_18 : decode cX9_adds 18 = .ok (.iload_n 1, 1) := by decide +kernel
theorem dX9_adds_19 : decode cX9_adds 19 = .ok (.i2l, 1) := by decide +kernel
theorem dX9_adds_20 : decode cX9_adds 20 = .ok (.lastore, 1) := by decide +kernel
theorem dX9_adds_21 : decode cX9_adds 21 = .ok (.aload_n 0, 1) := by decide +kernel
theorem dX9_adds_22 : decode cX9_adds 22 = .ok (.getfield 9, 3) := by decide +kernel
theorem dX9_adds_25 : decode cX9_adds 25 = .ok (.iload 5, 2) := by decide +kernel
theorem dX9_adds_27 : decode cX9_adds 27 = .ok (.iconst 1, 1) := by decide +kernel
theorem dX9_adds_28 : decode cX9_adds 28 = .ok (.iadd, 1) := by decide +kernel
theorem dX9_adds_29 : decode cX9_adds 29 = .ok (.iload_n 2, 1) := by decide +kernel
theorem dX9_adds_30 : decode cX9_adds 30 = .ok (.i2l, 1) := by decide +kernel
theorem dX9_adds_31 : decode cX9_adds 31 = .ok (.lastore, 1) := by decide +kernel
theorem dX9_adds_32 : decode cX9_adds 32 = .ok (.aload_n 0, 1) := by decide +kernel
theorem dX9_adds_33 : decode cX9_adds 33 = .ok (.getfield 9, 3) := by decide +kernel
theorem dX9_adds_36 : decode cX9_adds 36 = .ok (.iload 5, 2) := by decide +kernel
theorem dX9_adds_38 : decode cX9_adds 38 = .ok (.iconst 2, 1) := by decide +kernel
theorem dX9_adds_39 : decode cX9_adds 39 = .ok (.iadd, 1) := by decide +kernel
theorem dX9_adds_40 : decode cX9_adds 40 = .ok (.iload_n 3, 1) := by decide +kernel
theorem dX9_adds_41 : decode cX9_adds 41 = .ok (.i2l, 1) := by decide +kernel
theorem dX9_adds_42 : decode cX9_adds 42 = .ok (.lastore, 1) := by decide +kernel
theorem dX9_adds_43 : decode cX9_adds 43 = .ok (.aload_n 0, 1) := by decide +kernel
theorem dX9_adds_44 : decode cX9_adds 44 = .ok (.getfield 9, 3) := by decide +kernel
theorem dX9_adds_47 : decode cX9_adds 47 = .ok (.iload 5, 2) := by decide +kernel
theorem dX9_adds_49 : decode cX9_adds 49 = .ok (.iconst 3, 1) := by decide +kernel
theorem dX9_adds_50 : decode cX9_adds 50 = .ok (.iadd, 1) := by decide +kernel
theorem dX9_adds_51 : decode cX9_adds 51 = .ok (.iload 4, 2) := by decide +kernel
theorem dX9_adds_53 : decode cX9_adds 53 = .ok (.i2l, 1) := by decide +kernel
theorem dX9_adds_54 : decode cX9_adds 54 = .ok (.lastore, 1) := by decide +kernel
theorem dX9_adds_55 : decode cX9_adds 55 = .ok (.aload_n 0, 1) := by decide +kernel
theorem dX9_adds_56 : decode cX9_adds 56 = .ok (.getfield 9, 3) := by decide +kernel
theorem dX9_adds_59 : decode cX9_adds 59 = .ok (.iconst 3, 1) := by decide +kernel
theorem dX9_adds_60 : decode cX9_adds 60 = .ok (.dup2, 1) := by decide +kernel
theorem dX9_adds_61 : decode cX9_adds 61 = .ok (.laload, 1) := by decide +kernel
theorem dX9_adds_62 : decode cX9_adds 62 = .ok (.lconst 1, 1) := by decide +kernel
theorem dX9_adds_63 : decode cX9_adds 63 = .ok (.ladd, 1) := by decide +kernel
theorem dX9_adds_64 : decode cX9_adds 64 = .ok (.lastore, 1) := by decide +kernel
theorem dX9_adds_65 : decode cX9_adds 65 = .ok (.return_, 1) := by decide +kernel
theorem dX9_nominate_0 : decode cX9_nominate 0 = .ok (.aload_n 0, 1) := by decide +kernel
theorem dX9_nominate_1 : decode cX9_nominate 1 = .ok (.iload_n 1, 1) := by decide +kernel
theorem dX9_nominate_2 : decode cX9_nominate 2 = .ok (.iload_n 2, 1) := by decide +kernel
theorem dX9_nominate_3 : decode cX9_nominate 3 = .ok (.iload_n 3, 1) := by decide +kernel
theorem dX9_nominate_4 : decode cX9_nominate 4 = .ok (.iload 4, 2) := by decide +kernel
theorem dX9_nominate_6 : decode cX9_nominate 6 = .ok (.invokevirtual 202, 3) := by decide +kernel
theorem dX9_nominate_9 : decode cX9_nominate 9 = .ok (.ifCond .ne 5, 3) := by decide +kernel
theorem dX9_nominate_12 : decode cX9_nominate 12 = .ok (.iconst (-1), 1) := by decide +kernel
theorem dX9_nominate_13 : decode cX9_nominate 13 = .ok (.ireturn, 1) := by decide +kernel
theorem dX9_nominate_14 : decode cX9_nominate 14 = .ok (.aload_n 0, 1) := by decide +kernel
theorem dX9_nominate_15 : decode cX9_nominate 15 = .ok (.iconst 3, 1) := by decide +kernel
theorem dX9_nominate_16 : decode cX9_nominate 16 = .ok (.invokevirtual 179, 3) := by decide +kernel
theorem dX9_nominate_19 : decode cX9_nominate 19 = .ok (.bipush 16, 2) := by decide +kernel
theorem dX9_nominate_21 : decode cX9_nominate 21 = .ok (.if_icmp .ne 6, 3) := by decide +kernel
theorem dX9_nominate_24 : decode cX9_nominate 24 = .ok (.bipush (-2), 2) := by decide +kernel
theorem dX9_nominate_26 : decode cX9_nominate 26 = .ok (.ireturn, 1) := by decide +kernel
theorem dX9_nominate_27 : decode cX9_nominate 27 = .ok (.aload_n 0, 1) := by decide +kernel
theorem dX9_nominate_28 : decode cX9_nominate 28 = .ok (.invokevirtual 206, 3) := by decide +kernel
theorem dX9_nominate_31 : decode cX9_nominate 31 = .ok (.aload_n 0, 1) := by decide +kernel
theorem dX9_nominate_32 : decode cX9_nominate 32 = .ok (.iload_n 1, 1) := by decide +kernel
theorem dX9_nominate_33 : decode cX9_nominate 33 = .ok (.iload_n 2, 1) := by decide +kernel
theorem dX9_nominate_34 : decode cX9_nominate 34 = .ok (.iload_n 3, 1) := by decide +kernel
theorem dX9_nominate_35 : decode cX9_nominate 35 = .ok (.iload 4, 2) := by decide +kernel
theorem dX9_nominate_37 : decode cX9_nominate 37 = .ok (.invokevirtual 209, 3) := by decide +kernel
theorem dX9_nominate_40 : decode cX9_nominate 40 = .ok (.aload_n 0, 1) := by decide +kernel
theorem dX9_nominate_41 : decode cX9_nominate 41 = .ok (.iconst 3, 1) := by decide +kernel
theorem dX9_nominate_42 : decode cX9_nominate 42 = .ok (.invokevirtual 179, 3) := by decide +kernel
theorem dX9_nominate_45 : decode cX9_nominate 45 = .ok (.iconst 1, 1) := by decide +kernel
theorem dX9_nominate_46 : decode cX9_nominate 46 = .ok (.isub, 1) := by decide +kernel
theorem dX9_nominate_47 : decode cX9_nominate 47 = .ok (.ireturn, 1) := by decide +kernel
theorem dX9_becomes_0 : decode cX9_becomes 0 = .ok (.aload_n 0, 1) := by decide +kernel
theorem dX9_becomes_1 : decode cX9_becomes 1 = .ok (.getfield 9, 3) := by decide +kernel
theorem dX9_becomes_4 : decode cX9_becomes 4 = .ok (.iload_n 1, 1) := by decide +kernel
theorem dX9_becomes_5 : decode cX9_becomes 5 = .ok (.laload, 1) := by decide +kernel
theorem dX9_becomes_6 : decode cX9_becomes 6 = .ok (.l2i, 1) := by decide +kernel
theorem dX9_becomes_7 : decode cX9_becomes 7 = .ok (.istore 4, 2) := by decide +kernel
theorem dX9_becomes_9 : decode cX9_becomes 9 = .ok (.iload 4, 2) := by decide +kernel
theorem dX9_becomes_11 : decode cX9_becomes 11 = .ok (.iload_n 2, 1) := by decide +kernel
theorem dX9_becomes_12 : decode cX9_becomes 12 = .ok (.if_icmp .ne 5, 3) := by decide +kernel
theorem dX9_becomes_15 : decode cX9_becomes 15 = .ok (.iload_n 3, 1) := by decide +kernel
theorem dX9_becomes_16 : decode cX9_becomes 16 = .ok (.ireturn, 1) := by decide +kernel
theorem dX9_becomes_17 : decode cX9_becomes 17 = .ok (.aload_n 0, 1) := by decide +kernel
theorem dX9_becomes_18 : decode cX9_becomes 18 = .ok (.invokevirtual 206, 3) := by decide +kernel
theorem dX9_becomes_21 : decode cX9_becomes 21 = .ok (.aload_n 0, 1) := by decide +kernel
theorem dX9_becomes_22 : decode cX9_becomes 22 = .ok (.getfield 9, 3) := by decide +kernel
theorem dX9_becomes_25 : decode cX9_becomes 25 = .ok (.iload_n 1, 1) := by decide +kernel
theorem dX9_becomes_26 : decode cX9_becomes 26 = .ok (.iload_n 2, 1) := by decide +kernel
theorem dX9_becomes_27 : decode cX9_becomes 27 = .ok (.i2l, 1) := by decide +kernel
theorem dX9_becomes_28 : decode cX9_becomes 28 = .ok (.lastore, 1) := by decide +kernel
theorem dX9_becomes_29 : decode cX9_becomes 29 = .ok (.iload 4, 2) := by decide +kernel
theorem dX9_becomes_31 : decode cX9_becomes 31 = .ok (.ireturn, 1) := by decide +kernel
theorem dX9_renominate_0 : decode cX9_renominate 0 = .ok (.aload_n 0, 1) := by decide +kernel
theorem dX9_renominate_1 : decode cX9_renominate 1 = .ok (.iload_n 1, 1) := by decide +kernel
theorem dX9_renominate_2 : decode cX9_renominate 2 = .ok (.invokevirtual 213, 3) := by decide +kernel
theorem dX9_renominate_5 : decode cX9_renominate 5 = .ok (.ifCond .eq 33, 3) := by decide +kernel
theorem dX9_renominate_8 : decode cX9_renominate 8 = .ok (.iload_n 2, 1) := by decide +kernel
theorem dX9_renominate_9 : decode cX9_renominate 9 = .ok (.i2l, 1) := by decide +kernel
theorem dX9_renominate_10 : decode cX9_renominate 10 = .ok (.lconst 0, 1) := by decide +kernel
theorem dX9_renominate_11 : decode cX9_renominate 11 = .ok (.ldc2_w 167, 3) := by decide +kernel
theorem dX9_renominate_14 : decode cX9_renominate 14 = .ok (.invokestatic 81, 3) := by decide +kernel
theorem dX9_renominate_17 : decode cX9_renominate 17 = .ok (.ifCond .eq 21, 3) := by decide +kernel
theorem dX9_renominate_20 : decode cX9_renominate 20 = .ok (.aload_n 0, 1) := by decide +kernel
theorem dX9_renominate_21 : decode cX9_renominate 21 = .ok (.bipush 108, 2) := by decide +kernel
theorem dX9_renominate_23 : decode cX9_renominate 23 = .ok (.iconst 4, 1) := by decide +kernel
theorem dX9_renominate_24 : decode cX9_renominate 24 = .ok (.iload_n 1, 1) := by decide +kernel
theorem dX9_renominate_25 : decode cX9_renominate 25 = .ok (.imul, 1) := by decide +kernel
theorem dX9_renominate_26 : decode cX9_renominate 26 = .ok (.iadd, 1) := by decide +kernel
theorem dX9_renominate_27 : decode cX9_renominate 27 = .ok (.iconst 3, 1) := by decide +kernel
theorem dX9_renominate_28 : decode cX9_renominate 28 = .ok (.iadd, 1) := by decide +kernel
theorem dX9_renominate_29 : decode cX9_renominate 29 = .ok (.iload_n 2, 1) := by decide +kernel
theorem dX9_renominate_30 : decode cX9_renominate 30 = .ok (.bipush (-2), 2) := by decide +kernel
theorem dX9_renominate_32 : decode cX9_renominate 32 = .ok (.invokevirtual 216, 3) := by decide +kernel
theorem dX9_renominate_35 : decode cX9_renominate 35 = .ok (.goto 4, 3) := by decide +kernel
theorem dX9_renominate_38 : decode cX9_renominate 38 = .ok (.iconst (-1), 1) := by decide +kernel
theorem dX9_renominate_39 : decode cX9_renominate 39 = .ok (.ireturn, 1) := by decide +kernel
theorem dX9_removes_0 : decode cX9_removes 0 = .ok (.bipush 108, 2) := by decide +kernel
theorem dX9_removes_2 : decode cX9_removes 2 = .ok (.iconst 4, 1) := by decide +kernel
theorem dX9_removes_3 : decode cX9_removes 3 = .ok (.iload_n 1, 1) := by decide +kernel
theorem dX9_removes_4 : decode cX9_removes 4 = .ok (.imul, 1) := by decide +kernel
theorem dX9_removes_5 : decode cX9_removes 5 = .ok (.iadd, 1) := by decide +kernel
theorem dX9_removes_6 : decode cX9_removes 6 = .ok (.istore_n 2, 1) := by decide +kernel
theorem dX9_removes_7 : decode cX9_removes 7 = .ok (.iload_n 2, 1) := by decide +kernel
theorem dX9_removes_8 : decode cX9_removes 8 = .ok (.iconst 4, 1) := by decide +kernel
theorem dX9_removes_9 : decode cX9_removes 9 = .ok (.iadd, 1) := by decide +kernel
theorem dX9_removes_10 : decode cX9_removes 10 = .ok (.sipush 172, 3) := by decide +kernel
theorem dX9_removes_13 : decode cX9_removes 13 = .ok (.if_icmp .ge 23, 3) := by decide +kernel
theorem dX9_removes_16 : decode cX9_removes 16 = .ok (.aload_n 0, 1) := by decide +kernel
theorem dX9_removes_17 : decode cX9_removes 17 = .ok (.getfield 9, 3) := by decide +kernel
theorem dX9_removes_20 : decode cX9_removes 20 = .ok (.iload_n 2, 1) := by decide +kernel
theorem dX9_removes_21 : decode cX9_removes 21 = .ok (.aload_n 0, 1) := by decide +kernel
theorem dX9_removes_22 : decode cX9_removes 22 = .ok (.getfield 9, 3) := by decide +kernel
theorem dX9_removes_25 : decode cX9_removes 25 = .ok (.iload_n 2, 1) := by decide +kernel
theorem dX9_removes_26 : decode cX9_removes 26 = .ok (.iconst 4, 1) := by decide +kernel
theorem dX9_removes_27 : decode cX9_removes 27 = .ok (.iadd, 1) := by decide +kernel
theorem dX9_removes_28 : decode cX9_removes 28 = .ok (.laload, 1) := by decide +kernel
theorem dX9_removes_29 : decode cX9_removes 29 = .ok (.lastore, 1) := by decide +kernel
theorem dX9_removes_30 : decode cX9_removes 30 = .ok (.iinc 2 1, 3) := by decide +kernel
theorem dX9_removes_33 : decode cX9_removes 33 = .ok (.goto (-26), 3) := by decide +kernel
theorem dX9_removes_36 : decode cX9_removes 36 = .ok (.aload_n 0, 1) := by decide +kernel
theorem dX9_removes_37 : decode cX9_removes 37 = .ok (.getfield 9, 3) := by decide +kernel
theorem dX9_removes_40 : decode cX9_removes 40 = .ok (.iconst 3, 1) := by decide +kernel
theorem dX9_removes_41 : decode cX9_removes 41 = .ok (.dup2, 1) := by decide +kernel
theorem dX9_removes_42 : decode cX9_removes 42 = .ok (.laload, 1) := by decide +kernel
theorem dX9_removes_43 : decode cX9_removes 43 = .ok (.lconst 1, 1) := by decide +kernel
theorem dX9_removes_44 : decode cX9_removes 44 = .ok (.lsub, 1) := by decide +kernel
theorem dX9_removes_45 : decode cX9_removes 45 = .ok (.lastore, 1) := by decide +kernel
theorem dX9_removes_46 : decode cX9_removes 46 = .ok (.bipush 108, 2) := by decide +kernel
theorem dX9_removes_48 : decode cX9_removes 48 = .ok (.iconst 4, 1) := by decide +kernel
theorem dX9_removes_49 : decode cX9_removes 49 = .ok (.aload_n 0, 1) := by decide +kernel
theorem dX9_removes_50 : decode cX9_removes 50 = .ok (.iconst 3, 1) := by decide +kernel
theorem dX9_removes_51 : decode cX9_removes 51 = .ok (.invokevirtual 179, 3) := by decide +kernel
theorem dX9_removes_54 : decode cX9_removes 54 = .ok (.imul, 1) := by decide +kernel
theorem dX9_removes_55 : decode cX9_removes 55 = .ok (.iadd, 1) := by decide +kernel
theorem dX9_removes_56 : decode cX9_removes 56 = .ok (.istore_n 2, 1) := by decide +kernel
theorem dX9_removes_57 : decode cX9_removes 57 = .ok (.iload_n 2, 1) := by decide +kernel
theorem dX9_removes_58 : decode cX9_removes 58 = .ok (.sipush 172, 3) := by decide +kernel
theorem dX9_removes_61 : decode cX9_removes 61 = .ok (.if_icmp .ge 16, 3) := by decide +kernel
theorem dX9_removes_64 : decode cX9_removes 64 = .ok (.aload_n 0, 1) := by decide +kernel
theorem dX9_removes_65 : decode cX9_removes 65 = .ok (.getfield 9, 3) := by decide +kernel
theorem dX9_removes_68 : decode cX9_removes 68 = .ok (.iload_n 2, 1) := by decide +kernel
theorem dX9_removes_69 : decode cX9_removes 69 = .ok (.lconst 0, 1) := by decide +kernel
theorem dX9_removes_70 : decode cX9_removes 70 = .ok (.lastore, 1) := by decide +kernel
theorem dX9_removes_71 : decode cX9_removes 71 = .ok (.iinc 2 1, 3) := by decide +kernel
theorem dX9_removes_74 : decode cX9_removes 74 = .ok (.goto (-17), 3) := by decide +kernel
theorem dX9_removes_77 : decode cX9_removes 77 = .ok (.return_, 1) := by decide +kernel
theorem dX9_withdraw_0 : decode cX9_withdraw 0 = .ok (.aload_n 0, 1) := by decide +kernel
theorem dX9_withdraw_1 : decode cX9_withdraw 1 = .ok (.iload_n 1, 1) := by decide +kernel
theorem dX9_withdraw_2 : decode cX9_withdraw 2 = .ok (.invokevirtual 213, 3) := by decide +kernel
theorem dX9_withdraw_5 : decode cX9_withdraw 5 = .ok (.ifCond .ne 5, 3) := by decide +kernel
theorem dX9_withdraw_8 : decode cX9_withdraw 8 = .ok (.iconst (-1), 1) := by decide +kernel
theorem dX9_withdraw_9 : decode cX9_withdraw 9 = .ok (.ireturn, 1) := by decide +kernel
theorem dX9_withdraw_10 : decode cX9_withdraw 10 = .ok (.aload_n 0, 1) := by decide +kernel
theorem dX9_withdraw_11 : decode cX9_withdraw 11 = .ok (.invokevirtual 206, 3) := by decide +kernel
theorem dX9_withdraw_14 : decode cX9_withdraw 14 = .ok (.aload_n 0, 1) := by decide +kernel
theorem dX9_withdraw_15 : decode cX9_withdraw 15 = .ok (.iload_n 1, 1) := by decide +kernel
theorem dX9_withdraw_16 : decode cX9_withdraw 16 = .ok (.invokevirtual 220, 3) := by decide +kernel
theorem dX9_withdraw_19 : decode cX9_withdraw 19 = .ok (.aload_n 0, 1) := by decide +kernel
theorem dX9_withdraw_20 : decode cX9_withdraw 20 = .ok (.iconst 3, 1) := by decide +kernel
theorem dX9_withdraw_21 : decode cX9_withdraw 21 = .ok (.invokevirtual 179, 3) := by decide +kernel
theorem dX9_withdraw_24 : decode cX9_withdraw 24 = .ok (.ireturn, 1) := by decide +kernel
theorem dX9_capPlace_0 : decode cX9_capPlace 0 = .ok (.iload_n 0, 1) := by decide +kernel
theorem dX9_capPlace_1 : decode cX9_capPlace 1 = .ok (.ifCond .ne 14, 3) := by decide +kernel
theorem dX9_capPlace_4 : decode cX9_capPlace 4 = .ok (.bipush 26, 2) := by decide +kernel
theorem dX9_capPlace_6 : decode cX9_capPlace 6 = .ok (.iconst 4, 1) := by decide +kernel
theorem dX9_capPlace_7 : decode cX9_capPlace 7 = .ok (.iload_n 1, 1) := by decide +kernel
theorem dX9_capPlace_8 : decode cX9_capPlace 8 = .ok (.imul, 1) := by decide +kernel
theorem dX9_capPlace_9 : decode cX9_capPlace 9 = .ok (.iadd, 1) := by decide +kernel
theorem dX9_capPlace_10 : decode cX9_capPlace 10 = .ok (.iconst 2, 1) := by decide +kernel
theorem dX9_capPlace_11 : decode cX9_capPlace 11 = .ok (.iadd, 1) := by decide +kernel
theorem dX9_capPlace_12 : decode cX9_capPlace 12 = .ok (.goto 9, 3) := by decide +kernel
theorem dX9_capPlace_15 : decode cX9_capPlace 15 = .ok (.bipush 12, 2) := by decide +kernel
theorem dX9_capPlace_17 : decode cX9_capPlace 17 = .ok (.iconst 2, 1) := by decide +kernel
theorem dX9_capPlace_18 : decode cX9_capPlace 18 = .ok (.iload_n 1, 1) := by decide +kernel
theorem dX9_capPlace_19 : decode cX9_capPlace 19 = .ok (.imul, 1) := by decide +kernel
theorem dX9_capPlace_20 : decode cX9_capPlace 20 = .ok (.iadd, 1) := by decide +kernel
theorem dX9_capPlace_21 : decode cX9_capPlace 21 = .ok (.ireturn, 1) := by decide +kernel
theorem dX9_limit_0 : decode cX9_limit 0 = .ok (.aload_n 0, 1) := by decide +kernel
theorem dX9_limit_1 : decode cX9_limit 1 = .ok (.iload_n 1, 1) := by decide +kernel
theorem dX9_limit_2 : decode cX9_limit 2 = .ok (.iload_n 2, 1) := by decide +kernel
theorem dX9_limit_3 : decode cX9_limit 3 = .ok (.invokevirtual 223, 3) := by decide +kernel
theorem dX9_limit_6 : decode cX9_limit 6 = .ok (.ifCond .eq 30, 3) := by decide +kernel
theorem dX9_limit_9 : decode cX9_limit 9 = .ok (.iload_n 3, 1) := by decide +kernel
theorem dX9_limit_10 : decode cX9_limit 10 = .ok (.i2l, 1) := by decide +kernel
theorem dX9_limit_11 : decode cX9_limit 11 = .ok (.lconst 0, 1) := by decide +kernel
theorem dX9_limit_12 : decode cX9_limit 12 = .ok (.ldc2_w 167, 3) := by decide +kernel
theorem dX9_limit_15 : decode cX9_limit 15 = .ok (.invokestatic 81, 3) := by decide +kernel
theorem dX9_limit_18 : decode cX9_limit 18 = .ok (.ifCond .eq 18, 3) := by decide +kernel
theorem dX9_limit_21 : decode cX9_limit 21 = .ok (.aload_n 0, 1) := by decide +kernel
theorem dX9_limit_22 : decode cX9_limit 22 = .ok (.iload_n 1, 1) := by decide +kernel
theorem dX9_limit_23 : decode cX9_limit 23 = .ok (.iload_n 2, 1) := by decide +kernel
theorem dX9_limit_24 : decode cX9_limit 24 = .ok (.invokestatic 226, 3) := by decide +kernel
theorem dX9_limit_27 : decode cX9_limit 27 = .ok (.iload_n 3, 1) := by decide +kernel
theorem dX9_limit_28 : decode cX9_limit 28 = .ok (.bipush (-2), 2) := by decide +kernel
theorem dX9_limit_30 : decode cX9_limit 30 = .ok (.invokevirtual 216, 3) := by decide +kernel
theorem dX9_limit_33 : decode cX9_limit 33 = .ok (.goto 4, 3) := by decide +kernel
theorem dX9_limit_36 : decode cX9_limit 36 = .ok (.iconst (-1), 1) := by decide +kernel
theorem dX9_limit_37 : decode cX9_limit 37 = .ok (.ireturn, 1) := by decide +kernel
theorem dX9_swing_0 : decode cX9_swing 0 = .ok (.aload_n 0, 1) := by decide +kernel
theorem dX9_swing_1 : decode cX9_swing 1 = .ok (.iload_n 1, 1) := by decide +kernel
theorem dX9_swing_2 : decode cX9_swing 2 = .ok (.invokevirtual 185, 3) := by decide +kernel
theorem dX9_swing_5 : decode cX9_swing 5 = .ok (.ifCond .eq 35, 3) := by decide +kernel
theorem dX9_swing_8 : decode cX9_swing 8 = .ok (.iload_n 2, 1) := by decide +kernel
theorem dX9_swing_9 : decode cX9_swing 9 = .ok (.i2l, 1) := by decide +kernel
theorem dX9_swing_10 : decode cX9_swing 10 = .ok (.ldc2_w 229, 3) := by decide +kernel
theorem dX9_swing_13 : decode cX9_swing 13 = .ok (.ldc2_w 231, 3) := by decide +kernel
theorem dX9_swing_16 : decode cX9_swing 16 = .ok (.invokestatic 81, 3) := by decide +kernel
theorem dX9_swing_19 : decode cX9_swing 19 = .ok (.ifCond .eq 21, 3) := by decide +kernel
theorem dX9_swing_22 : decode cX9_swing 22 = .ok (.aload_n 0, 1) := by decide +kernel
theorem dX9_swing_23 : decode cX9_swing 23 = .ok (.bipush 26, 2) := by decide +kernel
theorem dX9_swing_25 : decode cX9_swing 25 = .ok (.iconst 4, 1) := by decide +kernel
theorem dX9_swing_26 : decode cX9_swing 26 = .ok (.iload_n 1, 1) := by decide +kernel
theorem dX9_swing_27 : decode cX9_swing 27 = .ok (.imul, 1) := by decide +kernel
theorem dX9_swing_28 : decode cX9_swing 28 = .ok (.iadd, 1) := by decide +kernel
theorem dX9_swing_29 : decode cX9_swing 29 = .ok (.iconst 3, 1) := by decide +kernel
theorem dX9_swing_30 : decode cX9_swing 30 = .ok (.iadd, 1) := by decide +kernel
theorem dX9_swing_31 : decode cX9_swing 31 = .ok (.iload_n 2, 1) := by decide +kernel
theorem dX9_swing_32 : decode cX9_swing 32 = .ok (.bipush (-101), 2) := by decide +kernel
theorem dX9_swing_34 : decode cX9_swing 34 = .ok (.invokevirtual 216, 3) := by decide +kernel
theorem dX9_swing_37 : decode cX9_swing 37 = .ok (.goto 5, 3) := by decide +kernel
theorem dX9_swing_40 : decode cX9_swing 40 = .ok (.bipush (-100), 2) := by decide +kernel
theorem dX9_swing_42 : decode cX9_swing 42 = .ok (.ireturn, 1) := by decide +kernel
theorem dX9_contract_0 : decode cX9_contract 0 = .ok (.aload_n 0, 1) := by decide +kernel
theorem dX9_contract_1 : decode cX9_contract 1 = .ok (.iload_n 1, 1) := by decide +kernel
theorem dX9_contract_2 : decode cX9_contract 2 = .ok (.invokevirtual 199, 3) := by decide +kernel
theorem dX9_contract_5 : decode cX9_contract 5 = .ok (.ifCond .eq 51, 3) := by decide +kernel
theorem dX9_contract_8 : decode cX9_contract 8 = .ok (.iload_n 2, 1) := by decide +kernel
theorem dX9_contract_9 : decode cX9_contract 9 = .ok (.i2l, 1) := by decide +kernel
theorem dX9_contract_10 : decode cX9_contract 10 = .ok (.lconst 0, 1) := by decide +kernel
theorem dX9_contract_11 : decode cX9_contract 11 = .ok (.ldc2_w 233, 3) := by decide +kernel
theorem dX9_contract_14 : decode cX9_contract 14 = .ok (.invokestatic 81, 3) := by decide +kernel
theorem dX9_contract_17 : decode cX9_contract 17 = .ok (.ifCond .eq 39, 3) := by decide +kernel
theorem dX9_contract_20 : decode cX9_contract 20 = .ok (.iload_n 3, 1) := by decide +kernel
theorem dX9_contract_21 : decode cX9_contract 21 = .ok (.i2l, 1) := by decide +kernel
theorem dX9_contract_22 : decode cX9_contract 22 = .ok (.iload_n 2, 1) := by decide +kernel
theorem dX9_contract_23 : decode cX9_contract 23 = .ok (.iconst 1, 1) := by decide +kernel
theorem dX9_contract_24 : decode cX9_contract 24 = .ok (.if_icmp .ne 7, 3) := by decide +kernel
theorem dX9_contract_27 : decode cX9_contract 27 = .ok (.iconst 1, 1) := by decide +kernel
theorem dX9_contract_28 : decode cX9_contract 28 = .ok (.goto 4, 3) := by decide +kernel
theorem dX9_contract_31 : decode cX9_contract 31 = .ok (.iconst 0, 1) := by decide +kernel
theorem dX9_contract_32 : decode cX9_contract 32 = .ok (.invokestatic 118, 3) := by decide +kernel
theorem dX9_contract_35 : decode cX9_contract 35 = .ok (.i2l, 1) := by decide +kernel
theorem dX9_contract_36 : decode cX9_contract 36 = .ok (.iload_n 2, 1) := by decide +kernel
theorem dX9_contract_37 : decode cX9_contract 37 = .ok (.iconst 1, 1) := by decide +kernel
theorem dX9_contract_38 : decode cX9_contract 38 = .ok (.if_icmp .ne 9, 3) := by decide +kernel
theorem dX9_contract_41 : decode cX9_contract 41 = .ok (.ldc2_w 235, 3) := by decide +kernel
theorem dX9_contract_44 : decode cX9_contract 44 = .ok (.goto 6, 3) := by decide +kernel
theorem dX9_contract_47 : decode cX9_contract 47 = .ok (.ldc2_w 167, 3) := by decide +kernel
theorem dX9_contract_50 : decode cX9_contract 50 = .ok (.invokestatic 81, 3) := by decide +kernel
theorem dX9_contract_53 : decode cX9_contract 53 = .ok (.ifCond .ne 5, 3) := by decide +kernel
theorem dX9_contract_56 : decode cX9_contract 56 = .ok (.iconst (-1), 1) := by decide +kernel
theorem dX9_contract_57 : decode cX9_contract 57 = .ok (.ireturn, 1) := by decide +kernel
theorem dX9_contract_58 : decode cX9_contract 58 = .ok (.aload_n 0, 1) := by decide +kernel
theorem dX9_contract_59 : decode cX9_contract 59 = .ok (.iload_n 1, 1) := by decide +kernel
theorem dX9_contract_60 : decode cX9_contract 60 = .ok (.iload_n 2, 1) := by decide +kernel
theorem dX9_contract_61 : decode cX9_contract 61 = .ok (.invokevirtual 237, 3) := by decide +kernel
theorem dX9_contract_64 : decode cX9_contract 64 = .ok (.iload_n 3, 1) := by decide +kernel
theorem dX9_contract_65 : decode cX9_contract 65 = .ok (.i2l, 1) := by decide +kernel
theorem dX9_contract_66 : decode cX9_contract 66 = .ok (.lcmp, 1) := by decide +kernel
theorem dX9_contract_67 : decode cX9_contract 67 = .ok (.ifCond .ne 6, 3) := by decide +kernel
theorem dX9_contract_70 : decode cX9_contract 70 = .ok (.bipush (-2), 2) := by decide +kernel
theorem dX9_contract_72 : decode cX9_contract 72 = .ok (.ireturn, 1) := by decide +kernel
theorem dX9_contract_73 : decode cX9_contract 73 = .ok (.iload_n 2, 1) := by decide +kernel
theorem dX9_contract_74 : decode cX9_contract 74 = .ok (.iconst 3, 1) := by decide +kernel
theorem dX9_contract_75 : decode cX9_contract 75 = .ok (.if_icmp .ne 21, 3) := by decide +kernel
theorem dX9_contract_78 : decode cX9_contract 78 = .ok (.aload_n 0, 1) := by decide +kernel
theorem dX9_contract_79 : decode cX9_contract 79 = .ok (.iload_n 1, 1) := by decide +kernel
theorem dX9_contract_80 : decode cX9_contract 80 = .ok (.iconst 5, 1) := by decide +kernel
theorem dX9_contract_81 : decode cX9_contract 81 = .ok (.invokevirtual 237, 3) := by decide +kernel
theorem dX9_contract_84 : decode cX9_contract 84 = .ok (.invokestatic 241, 3) := by decide +kernel
theorem dX9_contract_87 : decode cX9_contract 87 = .ok (.iload_n 3, 1) := by decide +kernel
theorem dX9_contract_88 : decode cX9_contract 88 = .ok (.i2l, 1) := by decide +kernel
theorem dX9_contract_89 : decode cX9_contract 89 = .ok (.lcmp, 1) := by decide +kernel
theorem dX9_contract_90 : decode cX9_contract 90 = .ok (.ifCond .le 6, 3) := by decide +kernel
theorem dX9_contract_93 : decode cX9_contract 93 = .ok (.bipush (-3), 2) := by decide +kernel
theorem dX9_contract_95 : decode cX9_contract 95 = .ok (.ireturn, 1) := by decide +kernel
theorem dX9_contract_96 : decode cX9_contract 96 = .ok (.aload_n 0, 1) := by decide +kernel
theorem dX9_contract_97 : decode cX9_contract 97 = .ok (.bipush 66, 2) := by decide +kernel
theorem dX9_contract_99 : decode cX9_contract 99 = .ok (.bipush 7, 2) := by decide +kernel
theorem dX9_contract_101 : decode cX9_contract 101 = .ok (.iload_n 1, 1) := by decide +kernel
theorem dX9_contract_102 : decode cX9_contract 102 = .ok (.imul, 1) := by decide +kernel
theorem dX9_contract_103 : decode cX9_contract 103 = .ok (.iadd, 1) := by decide +kernel
theorem dX9_contract_104 : decode cX9_contract 104 = .ok (.iload_n 2, 1) := by decide +kernel
theorem dX9_contract_105 : decode cX9_contract 105 = .ok (.iadd, 1) := by decide +kernel
theorem dX9_contract_106 : decode cX9_contract 106 = .ok (.iload_n 3, 1) := by decide +kernel
theorem dX9_contract_107 : decode cX9_contract 107 = .ok (.bipush (-2), 2) := by decide +kernel
theorem dX9_contract_109 : decode cX9_contract 109 = .ok (.invokevirtual 216, 3) := by decide +kernel
theorem dX9_contract_112 : decode cX9_contract 112 = .ok (.ireturn, 1) := by decide +kernel
theorem dX9_goes_0 : decode cX9_goes 0 = .ok (.aload_n 0, 1) := by decide +kernel
theorem dX9_goes_1 : decode cX9_goes 1 = .ok (.getfield 9, 3) := by decide +kernel
theorem dX9_goes_4 : decode cX9_goes 4 = .ok (.bipush 66, 2) := by decide +kernel
theorem dX9_goes_6 : decode cX9_goes 6 = .ok (.bipush 7, 2) := by decide +kernel
theorem dX9_goes_8 : decode cX9_goes 8 = .ok (.iload_n 1, 1) := by decide +kernel
theorem dX9_goes_9 : decode cX9_goes 9 = .ok (.imul, 1) := by decide +kernel
theorem dX9_goes_10 : decode cX9_goes 10 = .ok (.iadd, 1) := by decide +kernel
theorem dX9_goes_11 : decode cX9_goes 11 = .ok (.iload_n 3, 1) := by decide +kernel
theorem dX9_goes_12 : decode cX9_goes 12 = .ok (.iadd, 1) := by decide +kernel
theorem dX9_goes_13 : decode cX9_goes 13 = .ok (.dup2, 1) := by decide +kernel
theorem dX9_goes_14 : decode cX9_goes 14 = .ok (.laload, 1) := by decide +kernel
theorem dX9_goes_15 : decode cX9_goes 15 = .ok (.lload 4, 2) := by decide +kernel
theorem dX9_goes_17 : decode cX9_goes 17 = .ok (.lsub, 1) := by decide +kernel
theorem dX9_goes_18 : decode cX9_goes 18 = .ok (.lastore, 1) := by decide +kernel
theorem dX9_goes_19 : decode cX9_goes 19 = .ok (.aload_n 0, 1) := by decide +kernel
theorem dX9_goes_20 : decode cX9_goes 20 = .ok (.getfield 9, 3) := by decide +kernel
theorem dX9_goes_23 : decode cX9_goes 23 = .ok (.bipush 66, 2) := by decide +kernel
theorem dX9_goes_25 : decode cX9_goes 25 = .ok (.bipush 7, 2) := by decide +kernel
theorem dX9_goes_27 : decode cX9_goes 27 = .ok (.iload_n 2, 1) := by decide +kernel
theorem dX9_goes_28 : decode cX9_goes 28 = .ok (.imul, 1) := by decide +kernel
theorem dX9_goes_29 : decode cX9_goes 29 = .ok (.iadd, 1) := by decide +kernel
theorem dX9_goes_30 : decode cX9_goes 30 = .ok (.iload_n 3, 1) := by decide +kernel
theorem dX9_goes_31 : decode cX9_goes 31 = .ok (.iadd, 1) := by decide +kernel
theorem dX9_goes_32 : decode cX9_goes 32 = .ok (.dup2, 1) := by decide +kernel
theorem dX9_goes_33 : decode cX9_goes 33 = .ok (.laload, 1) := by decide +kernel
theorem dX9_goes_34 : decode cX9_goes 34 = .ok (.lload 4, 2) := by decide +kernel
theorem dX9_goes_36 : decode cX9_goes 36 = .ok (.ladd, 1) := by decide +kernel
theorem dX9_goes_37 : decode cX9_goes 37 = .ok (.lastore, 1) := by decide +kernel
theorem dX9_goes_38 : decode cX9_goes 38 = .ok (.return_, 1) := by decide +kernel
theorem dX9_areShippers_0 : decode cX9_areShippers 0 = .ok (.aload_n 0, 1) := by decide +kernel
theorem dX9_areShippers_1 : decode cX9_areShippers 1 = .ok (.iload_n 1, 1) := by decide +kernel
theorem dX9_areShippers_2 : decode cX9_areShippers 2 = .ok (.invokevirtual 199, 3) := by decide +kernel
theorem dX9_areShippers_5 : decode cX9_areShippers 5 = .ok (.ifCond .eq 32, 3) := by decide +kernel
theorem dX9_areShippers_8 : decode cX9_areShippers 8 = .ok (.aload_n 0, 1) := by decide +kernel
theorem dX9_areShippers_9 : decode cX9_areShippers 9 = .ok (.iload_n 2, 1) := by decide +kernel
theorem dX9_areShippers_10 : decode cX9_areShippers 10 = .ok (.invokevirtual 199, 3) := by decide +kernel
theorem dX9_areShippers_13 : decode cX9_areShippers 13 = .ok (.ifCond .eq 24, 3) := by decide +kernel
theorem dX9_areShippers_16 : decode cX9_areShippers 16 = .ok (.iload_n 1, 1) := by decide +kernel
theorem dX9_areShippers_17 : decode cX9_areShippers 17 = .ok (.iload_n 2, 1) := by decide +kernel
theorem dX9_areShippers_18 : decode cX9_areShippers 18 = .ok (.if_icmp .eq 19, 3) := by decide +kernel
theorem dX9_areShippers_21 : decode cX9_areShippers 21 = .ok (.iload_n 3, 1) := by decide +kernel
theorem dX9_areShippers_22 : decode cX9_areShippers 22 = .ok (.i2l, 1) := by decide +kernel
theorem dX9_areShippers_23 : decode cX9_areShippers 23 = .ok (.lconst 1, 1) := by decide +kernel
theorem dX9_areShippers_24 : decode cX9_areShippers 24 = .ok (.ldc2_w 167, 3) := by decide +kernel
theorem dX9_areShippers_27 : decode cX9_areShippers 27 = .ok (.invokestatic 81, 3) := by decide +kernel
theorem dX9_areShippers_30 : decode cX9_areShippers 30 = .ok (.ifCond .eq 7, 3) := by decide +kernel
theorem dX9_areShippers_33 : decode cX9_areShippers 33 = .ok (.iconst 1, 1) := by decide +kernel
theorem dX9_areShippers_34 : decode cX9_areShippers 34 = .ok (.goto 4, 3) := by decide +kernel
theorem dX9_areShippers_37 : decode cX9_areShippers 37 = .ok (.iconst 0, 1) := by decide +kernel
theorem dX9_areShippers_38 : decode cX9_areShippers 38 = .ok (.ireturn, 1) := by decide +kernel
theorem dX9_trade_0 : decode cX9_trade 0 = .ok (.aload_n 0, 1) := by decide +kernel
theorem dX9_trade_1 : decode cX9_trade 1 = .ok (.iload_n 1, 1) := by decide +kernel
theorem dX9_trade_2 : decode cX9_trade 2 = .ok (.iload_n 2, 1) := by decide +kernel
theorem dX9_trade_3 : decode cX9_trade 3 = .ok (.iload_n 3, 1) := by decide +kernel
theorem dX9_trade_4 : decode cX9_trade 4 = .ok (.invokevirtual 245, 3) := by decide +kernel
theorem dX9_trade_7 : decode cX9_trade 7 = .ok (.ifCond .ne 5, 3) := by decide +kernel
theorem dX9_trade_10 : decode cX9_trade 10 = .ok (.iconst (-1), 1) := by decide +kernel
theorem dX9_trade_11 : decode cX9_trade 11 = .ok (.ireturn, 1) := by decide +kernel
theorem dX9_trade_12 : decode cX9_trade 12 = .ok (.aload_n 0, 1) := by decide +kernel
theorem dX9_trade_13 : decode cX9_trade 13 = .ok (.iload_n 1, 1) := by decide +kernel
theorem dX9_trade_14 : decode cX9_trade 14 = .ok (.iconst 4, 1) := by decide +kernel
theorem dX9_trade_15 : decode cX9_trade 15 = .ok (.invokevirtual 237, 3) := by decide +kernel
theorem dX9_trade_18 : decode cX9_trade 18 = .ok (.iload_n 3, 1) := by decide +kernel
theorem dX9_trade_19 : decode cX9_trade 19 = .ok (.i2l, 1) := by decide +kernel
theorem dX9_trade_20 : decode cX9_trade 20 = .ok (.lcmp, 1) := by decide +kernel
theorem dX9_trade_21 : decode cX9_trade 21 = .ok (.ifCond .lt 16, 3) := by decide +kernel
theorem dX9_trade_24 : decode cX9_trade 24 = .ok (.aload_n 0, 1) := by decide +kernel
theorem dX9_trade_25 : decode cX9_trade 25 = .ok (.iload_n 2, 1) := by decide +kernel
theorem dX9_trade_26 : decode cX9_trade 26 = .ok (.iconst 4, 1) := by decide +kernel
theorem dX9_trade_27 : decode cX9_trade 27 = .ok (.invokevirtual 237, 3) := by decide +kernel
theorem dX9_trade_30 : decode cX9_trade 30 = .ok (.iload_n 3, 1) := by decide +kernel
theorem dX9_trade_31 : decode cX9_trade 31 = .ok (.ineg, 1) := by decide +kernel
theorem dX9_trade_32 : decode cX9_trade 32 = .ok (.i2l, 1) := by decide +kernel
theorem dX9_trade_33 : decode cX9_trade 33 = .ok (.lcmp, 1) := by decide +kernel
theorem dX9_trade_34 : decode cX9_trade 34 = .ok (.ifCond .le 6, 3) := by decide +kernel
theorem dX9_trade_37 : decode cX9_trade 37 = .ok (.bipush (-2), 2) := by decide +kernel
theorem dX9_trade_39 : decode cX9_trade 39 = .ok (.ireturn, 1) := by decide +kernel
theorem dX9_trade_40 : decode cX9_trade 40 = .ok (.aload_n 0, 1) := by decide +kernel
theorem dX9_trade_41 : decode cX9_trade 41 = .ok (.invokevirtual 206, 3) := by decide +kernel
theorem dX9_trade_44 : decode cX9_trade 44 = .ok (.aload_n 0, 1) := by decide +kernel
theorem dX9_trade_45 : decode cX9_trade 45 = .ok (.iload_n 1, 1) := by decide +kernel
theorem dX9_trade_46 : decode cX9_trade 46 = .ok (.iload_n 2, 1) := by decide +kernel
theorem dX9_trade_47 : decode cX9_trade 47 = .ok (.iconst 4, 1) := by decide +kernel
theorem dX9_trade_48 : decode cX9_trade 48 = .ok (.iload_n 3, 1) := by decide +kernel
theorem dX9_trade_49 : decode cX9_trade 49 = .ok (.i2l, 1) := by decide +kernel
theorem dX9_trade_50 : decode cX9_trade 50 = .ok (.invokevirtual 249, 3) := by decide +kernel
theorem dX9_trade_53 : decode cX9_trade 53 = .ok (.iconst 1, 1) := by decide +kernel
theorem dX9_trade_54 : decode cX9_trade 54 = .ok (.ireturn, 1) := by decide +kernel
theorem dX9_move_0 : decode cX9_move 0 = .ok (.aload_n 0, 1) := by decide +kernel
theorem dX9_move_1 : decode cX9_move 1 = .ok (.iload_n 1, 1) := by decide +kernel
theorem dX9_move_2 : decode cX9_move 2 = .ok (.invokevirtual 185, 3) := by decide +kernel
theorem dX9_move_5 : decode cX9_move 5 = .ok (.ifCond .eq 27, 3) := by decide +kernel
theorem dX9_move_8 : decode cX9_move 8 = .ok (.aload_n 0, 1) := by decide +kernel
theorem dX9_move_9 : decode cX9_move 9 = .ok (.iload_n 2, 1) := by decide +kernel
theorem dX9_move_10 : decode cX9_move 10 = .ok (.invokevirtual 253, 3) := by decide +kernel
theorem dX9_move_13 : decode cX9_move 13 = .ok (.ifCond .eq 19, 3) := by decide +kernel
theorem dX9_move_16 : decode cX9_move 16 = .ok (.aload_n 0, 1) := by decide +kernel
theorem dX9_move_17 : decode cX9_move 17 = .ok (.bipush 26, 2) := by decide +kernel
theorem dX9_move_19 : decode cX9_move 19 = .ok (.iconst 4, 1) := by decide +kernel
theorem dX9_move_20 : decode cX9_move 20 = .ok (.iload_n 1, 1) := by decide +kernel
theorem dX9_move_21 : decode cX9_move 21 = .ok (.imul, 1) := by decide +kernel
theorem dX9_move_22 : decode cX9_move 22 = .ok (.iadd, 1) := by decide +kernel
theorem dX9_move_23 : decode cX9_move 23 = .ok (.iload_n 2, 1) := by decide +kernel
theorem dX9_move_24 : decode cX9_move 24 = .ok (.bipush (-2), 2) := by decide +kernel
theorem dX9_move_26 : decode cX9_move 26 = .ok (.invokevirtual 216, 3) := by decide +kernel
theorem dX9_move_29 : decode cX9_move 29 = .ok (.goto 4, 3) := by decide +kernel
theorem dX9_move_32 : decode cX9_move 32 = .ok (.iconst (-1), 1) := by decide +kernel
theorem dX9_move_33 : decode cX9_move 33 = .ok (.ireturn, 1) := by decide +kernel
theorem dX9_lend_0 : decode cX9_lend 0 = .ok (.aload_n 0, 1) := by decide +kernel
theorem dX9_lend_1 : decode cX9_lend 1 = .ok (.iload_n 1, 1) := by decide +kernel
theorem dX9_lend_2 : decode cX9_lend 2 = .ok (.iload_n 2, 1) := by decide +kernel
theorem dX9_lend_3 : decode cX9_lend 3 = .ok (.iload_n 3, 1) := by decide +kernel
theorem dX9_lend_4 : decode cX9_lend 4 = .ok (.invokevirtual 245, 3) := by decide +kernel
theorem dX9_lend_7 : decode cX9_lend 7 = .ok (.ifCond .ne 5, 3) := by decide +kernel
theorem dX9_lend_10 : decode cX9_lend 10 = .ok (.iconst (-1), 1) := by decide +kernel
theorem dX9_lend_11 : decode cX9_lend 11 = .ok (.ireturn, 1) := by decide +kernel
theorem dX9_lend_12 : decode cX9_lend 12 = .ok (.aload_n 0, 1) := by decide +kernel
theorem dX9_lend_13 : decode cX9_lend 13 = .ok (.iload_n 1, 1) := by decide +kernel
theorem dX9_lend_14 : decode cX9_lend 14 = .ok (.iconst 5, 1) := by decide +kernel
theorem dX9_lend_15 : decode cX9_lend 15 = .ok (.invokevirtual 237, 3) := by decide +kernel
theorem dX9_lend_18 : decode cX9_lend 18 = .ok (.iload_n 3, 1) := by decide +kernel
theorem dX9_lend_19 : decode cX9_lend 19 = .ok (.i2l, 1) := by decide +kernel
theorem dX9_lend_20 : decode cX9_lend 20 = .ok (.lcmp, 1) := by decide +kernel
theorem dX9_lend_21 : decode cX9_lend 21 = .ok (.ifCond .ge 6, 3) := by decide +kernel
theorem dX9_lend_24 : decode cX9_lend 24 = .ok (.bipush (-2), 2) := by decide +kernel
theorem dX9_lend_26 : decode cX9_lend 26 = .ok (.ireturn, 1) := by decide +kernel
theorem dX9_lend_27 : decode cX9_lend 27 = .ok (.aload_n 0, 1) := by decide +kernel
theorem dX9_lend_28 : decode cX9_lend 28 = .ok (.iload_n 2, 1) := by decide +kernel
theorem dX9_lend_29 : decode cX9_lend 29 = .ok (.iconst 5, 1) := by decide +kernel
theorem dX9_lend_30 : decode cX9_lend 30 = .ok (.invokevirtual 237, 3) := by decide +kernel
theorem dX9_lend_33 : decode cX9_lend 33 = .ok (.iload_n 3, 1) := by decide +kernel
theorem dX9_lend_34 : decode cX9_lend 34 = .ok (.i2l, 1) := by decide +kernel
theorem dX9_lend_35 : decode cX9_lend 35 = .ok (.ladd, 1) := by decide +kernel
theorem dX9_lend_36 : decode cX9_lend 36 = .ok (.aload_n 0, 1) := by decide +kernel
theorem dX9_lend_37 : decode cX9_lend 37 = .ok (.iload_n 2, 1) := by decide +kernel
theorem dX9_lend_38 : decode cX9_lend 38 = .ok (.iconst 3, 1) := by decide +kernel
theorem dX9_lend_39 : decode cX9_lend 39 = .ok (.invokevirtual 237, 3) := by decide +kernel
theorem dX9_lend_42 : decode cX9_lend 42 = .ok (.lcmp, 1) := by decide +kernel
theorem dX9_lend_43 : decode cX9_lend 43 = .ok (.ifCond .le 6, 3) := by decide +kernel
theorem dX9_lend_46 : decode cX9_lend 46 = .ok (.bipush (-3), 2) := by decide +kernel
theorem dX9_lend_48 : decode cX9_lend 48 = .ok (.ireturn, 1) := by decide +kernel
theorem dX9_lend_49 : decode cX9_lend 49 = .ok (.aload_n 0, 1) := by decide +kernel
theorem dX9_lend_50 : decode cX9_lend 50 = .ok (.invokevirtual 206, 3) := by decide +kernel
theorem dX9_lend_53 : decode cX9_lend 53 = .ok (.aload_n 0, 1) := by decide +kernel
theorem dX9_lend_54 : decode cX9_lend 54 = .ok (.iload_n 1, 1) := by decide +kernel
theorem dX9_lend_55 : decode cX9_lend 55 = .ok (.iload_n 2, 1) := by decide +kernel
theorem dX9_lend_56 : decode cX9_lend 56 = .ok (.iconst 5, 1) := by decide +kernel
theorem dX9_lend_57 : decode cX9_lend 57 = .ok (.iload_n 3, 1) := by decide +kernel
theorem dX9_lend_58 : decode cX9_lend 58 = .ok (.i2l, 1) := by decide +kernel
theorem dX9_lend_59 : decode cX9_lend 59 = .ok (.invokevirtual 249, 3) := by decide +kernel
theorem dX9_lend_62 : decode cX9_lend 62 = .ok (.iconst 1, 1) := by decide +kernel
theorem dX9_lend_63 : decode cX9_lend 63 = .ok (.ireturn, 1) := by decide +kernel
theorem dX9_store_0 : decode cX9_store 0 = .ok (.aload_n 0, 1) := by decide +kernel
theorem dX9_store_1 : decode cX9_store 1 = .ok (.iload_n 1, 1) := by decide +kernel
theorem dX9_store_2 : decode cX9_store 2 = .ok (.invokevirtual 199, 3) := by decide +kernel
theorem dX9_store_5 : decode cX9_store 5 = .ok (.ifCond .eq 15, 3) := by decide +kernel
theorem dX9_store_8 : decode cX9_store 8 = .ok (.iload_n 2, 1) := by decide +kernel
theorem dX9_store_9 : decode cX9_store 9 = .ok (.i2l, 1) := by decide +kernel
theorem dX9_store_10 : decode cX9_store 10 = .ok (.lconst 1, 1) := by decide +kernel
theorem dX9_store_11 : decode cX9_store 11 = .ok (.ldc2_w 167, 3) := by decide +kernel
theorem dX9_store_14 : decode cX9_store 14 = .ok (.invokestatic 81, 3) := by decide +kernel
theorem dX9_store_17 : decode cX9_store 17 = .ok (.ifCond .ne 5, 3) := by decide +kernel
theorem dX9_store_20 : decode cX9_store 20 = .ok (.iconst (-1), 1) := by decide +kernel
theorem dX9_store_21 : decode cX9_store 21 = .ok (.ireturn, 1) := by decide +kernel
theorem dX9_store_22 : decode cX9_store 22 = .ok (.aload_n 0, 1) := by decide +kernel
theorem dX9_store_23 : decode cX9_store 23 = .ok (.iload_n 1, 1) := by decide +kernel
theorem dX9_store_24 : decode cX9_store 24 = .ok (.iconst 4, 1) := by decide +kernel
theorem dX9_store_25 : decode cX9_store 25 = .ok (.invokevirtual 237, 3) := by decide +kernel
theorem dX9_store_28 : decode cX9_store 28 = .ok (.iload_n 2, 1) := by decide +kernel
theorem dX9_store_29 : decode cX9_store 29 = .ok (.i2l, 1) := by decide +kernel
theorem dX9_store_30 : decode cX9_store 30 = .ok (.lcmp, 1) := by decide +kernel
theorem dX9_store_31 : decode cX9_store 31 = .ok (.ifCond .ge 6, 3) := by decide +kernel
theorem dX9_store_34 : decode cX9_store 34 = .ok (.bipush (-2), 2) := by decide +kernel
theorem dX9_store_36 : decode cX9_store 36 = .ok (.ireturn, 1) := by decide +kernel
theorem dX9_store_37 : decode cX9_store 37 = .ok (.aload_n 0, 1) := by decide +kernel
theorem dX9_store_38 : decode cX9_store 38 = .ok (.iload_n 1, 1) := by decide +kernel
theorem dX9_store_39 : decode cX9_store 39 = .ok (.iconst 5, 1) := by decide +kernel
theorem dX9_store_40 : decode cX9_store 40 = .ok (.invokevirtual 237, 3) := by decide +kernel
theorem dX9_store_43 : decode cX9_store 43 = .ok (.iload_n 2, 1) := by decide +kernel
theorem dX9_store_44 : decode cX9_store 44 = .ok (.i2l, 1) := by decide +kernel
theorem dX9_store_45 : decode cX9_store 45 = .ok (.ladd, 1) := by decide +kernel
theorem dX9_store_46 : decode cX9_store 46 = .ok (.aload_n 0, 1) := by decide +kernel
theorem dX9_store_47 : decode cX9_store 47 = .ok (.iload_n 1, 1) := by decide +kernel
theorem dX9_store_48 : decode cX9_store 48 = .ok (.iconst 3, 1) := by decide +kernel
theorem dX9_store_49 : decode cX9_store 49 = .ok (.invokevirtual 237, 3) := by decide +kernel
theorem dX9_store_52 : decode cX9_store 52 = .ok (.lcmp, 1) := by decide +kernel
theorem dX9_store_53 : decode cX9_store 53 = .ok (.ifCond .le 6, 3) := by decide +kernel
theorem dX9_store_56 : decode cX9_store 56 = .ok (.bipush (-3), 2) := by decide +kernel
theorem dX9_store_58 : decode cX9_store 58 = .ok (.ireturn, 1) := by decide +kernel
theorem dX9_store_59 : decode cX9_store 59 = .ok (.aload_n 0, 1) := by decide +kernel
theorem dX9_store_60 : decode cX9_store 60 = .ok (.invokevirtual 206, 3) := by decide +kernel
theorem dX9_store_63 : decode cX9_store 63 = .ok (.aload_n 0, 1) := by decide +kernel
theorem dX9_store_64 : decode cX9_store 64 = .ok (.getfield 9, 3) := by decide +kernel
theorem dX9_store_67 : decode cX9_store 67 = .ok (.bipush 66, 2) := by decide +kernel
theorem dX9_store_69 : decode cX9_store 69 = .ok (.bipush 7, 2) := by decide +kernel
theorem dX9_store_71 : decode cX9_store 71 = .ok (.iload_n 1, 1) := by decide +kernel
theorem dX9_store_72 : decode cX9_store 72 = .ok (.imul, 1) := by decide +kernel
theorem dX9_store_73 : decode cX9_store 73 = .ok (.iadd, 1) := by decide +kernel
theorem dX9_store_74 : decode cX9_store 74 = .ok (.iconst 4, 1) := by decide +kernel
theorem dX9_store_75 : decode cX9_store 75 = .ok (.iadd, 1) := by decide +kernel
theorem dX9_store_76 : decode cX9_store 76 = .ok (.dup2, 1) := by decide +kernel
theorem dX9_store_77 : decode cX9_store 77 = .ok (.laload, 1) := by decide +kernel
theorem dX9_store_78 : decode cX9_store 78 = .ok (.iload_n 2, 1) := by decide +kernel
theorem dX9_store_79 : decode cX9_store 79 = .ok (.i2l, 1) := by decide +kernel
theorem dX9_store_80 : decode cX9_store 80 = .ok (.lsub, 1) := by decide +kernel
theorem dX9_store_81 : decode cX9_store 81 = .ok (.lastore, 1) := by decide +kernel
theorem dX9_store_82 : decode cX9_store 82 = .ok (.aload_n 0, 1) := by decide +kernel
theorem dX9_store_83 : decode cX9_store 83 = .ok (.getfield 9, 3) := by decide +kernel
theorem dX9_store_86 : decode cX9_store 86 = .ok (.bipush 66, 2) := by decide +kernel
theorem dX9_store_88 : decode cX9_store 88 = .ok (.bipush 7, 2) := by decide +kernel
theorem dX9_store_90 : decode cX9_store 90 = .ok (.iload_n 1, 1) := by decide +kernel
theorem dX9_store_91 : decode cX9_store 91 = .ok (.imul, 1) := by decide +kernel
theorem dX9_store_92 : decode cX9_store 92 = .ok (.iadd, 1) := by decide +kernel
theorem dX9_store_93 : decode cX9_store 93 = .ok (.iconst 5, 1) := by decide +kernel
theorem dX9_store_94 : decode cX9_store 94 = .ok (.iadd, 1) := by decide +kernel
theorem dX9_store_95 : decode cX9_store 95 = .ok (.dup2, 1) := by decide +kernel
theorem dX9_store_96 : decode cX9_store 96 = .ok (.laload, 1) := by decide +kernel
theorem dX9_store_97 : decode cX9_store 97 = .ok (.iload_n 2, 1) := by decide +kernel
theorem dX9_store_98 : decode cX9_store 98 = .ok (.i2l, 1) := by decide +kernel
theorem dX9_store_99 : decode cX9_store 99 = .ok (.ladd, 1) := by decide +kernel
theorem dX9_store_100 : decode cX9_store 100 = .ok (.lastore, 1) := by decide +kernel
theorem dX9_store_101 : decode cX9_store 101 = .ok (.iconst 1, 1) := by decide +kernel
theorem dX9_store_102 : decode cX9_store 102 = .ok (.ireturn, 1) := by decide +kernel
theorem dX9_laysLeft_0 : decode cX9_laysLeft 0 = .ok (.iconst 0, 1) := by decide +kernel
theorem dX9_laysLeft_1 : decode cX9_laysLeft 1 = .ok (.istore_n 1, 1) := by decide +kernel
theorem dX9_laysLeft_2 : decode cX9_laysLeft 2 = .ok (.iload_n 1, 1) := by decide +kernel
theorem dX9_laysLeft_3 : decode cX9_laysLeft 3 = .ok (.aload_n 0, 1) := by decide +kernel
theorem dX9_laysLeft_4 : decode cX9_laysLeft 4 = .ok (.iconst 1, 1) := by decide +kernel
theorem dX9_laysLeft_5 : decode cX9_laysLeft 5 = .ok (.invokevirtual 179, 3) := by decide +kernel
theorem dX9_laysLeft_8 : decode cX9_laysLeft 8 = .ok (.if_icmp .ge 21, 3) := by decide +kernel
theorem dX9_laysLeft_11 : decode cX9_laysLeft 11 = .ok (.aload_n 0, 1) := by decide +kernel
theorem dX9_laysLeft_12 : decode cX9_laysLeft 12 = .ok (.getfield 33, 3) := by decide +kernel
theorem dX9_laysLeft_15 : decode cX9_laysLeft 15 = .ok (.iload_n 1, 1) := by decide +kernel
theorem dX9_laysLeft_16 : decode cX9_laysLeft 16 = .ok (.aload_n 0, 1) := by decide +kernel
theorem dX9_laysLeft_17 : decode cX9_laysLeft 17 = .ok (.iload_n 1, 1) := by decide +kernel
theorem dX9_laysLeft_18 : decode cX9_laysLeft 18 = .ok (.iconst 2, 1) := by decide +kernel
theorem dX9_laysLeft_19 : decode cX9_laysLeft 19 = .ok (.invokevirtual 189, 3) := by decide +kernel
theorem dX9_laysLeft_22 : decode cX9_laysLeft 22 = .ok (.iastore, 1) := by decide +kernel
theorem dX9_laysLeft_23 : decode cX9_laysLeft 23 = .ok (.iinc 1 1, 3) := by decide +kernel
theorem dX9_laysLeft_26 : decode cX9_laysLeft 26 = .ok (.goto (-24), 3) := by decide +kernel
theorem dX9_laysLeft_29 : decode cX9_laysLeft 29 = .ok (.iconst 0, 1) := by decide +kernel
theorem dX9_laysLeft_30 : decode cX9_laysLeft 30 = .ok (.istore_n 1, 1) := by decide +kernel
theorem dX9_laysLeft_31 : decode cX9_laysLeft 31 = .ok (.iload_n 1, 1) := by decide +kernel
theorem dX9_laysLeft_32 : decode cX9_laysLeft 32 = .ok (.iconst 1, 1) := by decide +kernel
theorem dX9_laysLeft_33 : decode cX9_laysLeft 33 = .ok (.iadd, 1) := by decide +kernel
theorem dX9_laysLeft_34 : decode cX9_laysLeft 34 = .ok (.aload_n 0, 1) := by decide +kernel
theorem dX9_laysLeft_35 : decode cX9_laysLeft 35 = .ok (.iconst 0, 1) := by decide +kernel
theorem dX9_laysLeft_36 : decode cX9_laysLeft 36 = .ok (.invokevirtual 179, 3) := by decide +kernel
theorem dX9_laysLeft_39 : decode cX9_laysLeft 39 = .ok (.if_icmp .ge 39, 3) := by decide +kernel
theorem dX9_laysLeft_42 : decode cX9_laysLeft 42 = .ok (.aload_n 0, 1) := by decide +kernel
theorem dX9_laysLeft_43 : decode cX9_laysLeft 43 = .ok (.getfield 33, 3) := by decide +kernel
theorem dX9_laysLeft_46 : decode cX9_laysLeft 46 = .ok (.bipush 10, 2) := by decide +kernel
theorem dX9_laysLeft_48 : decode cX9_laysLeft 48 = .ok (.iload_n 1, 1) := by decide +kernel
theorem dX9_laysLeft_49 : decode cX9_laysLeft 49 = .ok (.iadd, 1) := by decide +kernel
theorem dX9_laysLeft_50 : decode cX9_laysLeft 50 = .ok (.aload_n 0, 1) := by decide +kernel
theorem dX9_laysLeft_51 : decode cX9_laysLeft 51 = .ok (.iload_n 1, 1) := by decide +kernel
theorem dX9_laysLeft_52 : decode cX9_laysLeft 52 = .ok (.iconst 0, 1) := by decide +kernel
theorem dX9_laysLeft_53 : decode cX9_laysLeft 53 = .ok (.invokevirtual 256, 3) := by decide +kernel
theorem dX9_laysLeft_56 : decode cX9_laysLeft 56 = .ok (.iastore, 1) := by decide +kernel
theorem dX9_laysLeft_57 : decode cX9_laysLeft 57 = .ok (.aload_n 0, 1) := by decide +kernel
theorem dX9_laysLeft_58 : decode cX9_laysLeft 58 = .ok (.getfield 33, 3) := by decide +kernel
theorem dX9_laysLeft_61 : decode cX9_laysLeft 61 = .ok (.bipush 17, 2) := by decide +kernel
theorem dX9_laysLeft_63 : decode cX9_laysLeft 63 = .ok (.iload_n 1, 1) := by decide +kernel
theorem dX9_laysLeft_64 : decode cX9_laysLeft 64 = .ok (.iadd, 1) := by decide +kernel
theorem dX9_laysLeft_65 : decode cX9_laysLeft 65 = .ok (.aload_n 0, 1) := by decide +kernel
theorem dX9_laysLeft_66 : decode cX9_laysLeft 66 = .ok (.iload_n 1, 1) := by decide +kernel
theorem dX9_laysLeft_67 : decode cX9_laysLeft 67 = .ok (.iconst 0, 1) := by decide +kernel
theorem dX9_laysLeft_68 : decode cX9_laysLeft 68 = .ok (.invokevirtual 256, 3) := by decide +kernel
theorem dX9_laysLeft_71 : decode cX9_laysLeft 71 = .ok (.iastore, 1) := by decide +kernel
theorem dX9_laysLeft_72 : decode cX9_laysLeft 72 = .ok (.iinc 1 1, 3) := by decide +kernel
theorem dX9_laysLeft_75 : decode cX9_laysLeft 75 = .ok (.goto (-44), 3) := by decide +kernel
theorem dX9_laysLeft_78 : decode cX9_laysLeft 78 = .ok (.iconst 0, 1) := by decide +kernel
theorem dX9_laysLeft_79 : decode cX9_laysLeft 79 = .ok (.istore_n 1, 1) := by decide +kernel
theorem dX9_laysLeft_80 : decode cX9_laysLeft 80 = .ok (.iload_n 1, 1) := by decide +kernel
theorem dX9_laysLeft_81 : decode cX9_laysLeft 81 = .ok (.aload_n 0, 1) := by decide +kernel
theorem dX9_laysLeft_82 : decode cX9_laysLeft 82 = .ok (.iconst 2, 1) := by decide +kernel
theorem dX9_laysLeft_83 : decode cX9_laysLeft 83 = .ok (.invokevirtual 179, 3) := by decide +kernel
theorem dX9_laysLeft_86 : decode cX9_laysLeft 86 = .ok (.if_icmp .ge 55, 3) := by decide +kernel
theorem dX9_laysLeft_89 : decode cX9_laysLeft 89 = .ok (.aload_n 0, 1) := by decide +kernel
theorem dX9_laysLeft_90 : decode cX9_laysLeft 90 = .ok (.getfield 33, 3) := by decide +kernel
theorem dX9_laysLeft_93 : decode cX9_laysLeft 93 = .ok (.bipush 24, 2) := by decide +kernel
theorem dX9_laysLeft_95 : decode cX9_laysLeft 95 = .ok (.iload_n 1, 1) := by decide +kernel
theorem dX9_laysLeft_96 : decode cX9_laysLeft 96 = .ok (.iadd, 1) := by decide +kernel
theorem dX9_laysLeft_97 : decode cX9_laysLeft 97 = .ok (.aload_n 0, 1) := by decide +kernel
theorem dX9_laysLeft_98 : decode cX9_laysLeft 98 = .ok (.iload_n 1, 1) := by decide +kernel
theorem dX9_laysLeft_99 : decode cX9_laysLeft 99 = .ok (.iconst 3, 1) := by decide +kernel
theorem dX9_laysLeft_100 : decode cX9_laysLeft 100 = .ok (.invokevirtual 237, 3) := by decide +kernel
theorem dX9_laysLeft_103 : decode cX9_laysLeft 103 = .ok (.aload_n 0, 1) := by decide +kernel
theorem dX9_laysLeft_104 : decode cX9_laysLeft 104 = .ok (.iload_n 1, 1) := by decide +kernel
theorem dX9_laysLeft_105 : decode cX9_laysLeft 105 = .ok (.iconst 5, 1) := by decide +kernel
theorem dX9_laysLeft_106 : decode cX9_laysLeft 106 = .ok (.invokevirtual 237, 3) := by decide +kernel
theorem dX9_laysLeft_109 : decode cX9_laysLeft 109 = .ok (.lsub, 1) := by decide +kernel
theorem dX9_laysLeft_110 : decode cX9_laysLeft 110 = .ok (.l2i, 1) := by decide +kernel
theorem dX9_laysLeft_111 : decode cX9_laysLeft 111 = .ok (.iastore, 1) := by decide +kernel
theorem dX9_laysLeft_112 : decode cX9_laysLeft 112 = .ok (.aload_n 0, 1) := by decide +kernel
theorem dX9_laysLeft_113 : decode cX9_laysLeft 113 = .ok (.getfield 33, 3) := by decide +kernel
theorem dX9_laysLeft_116 : decode cX9_laysLeft 116 = .ok (.bipush 30, 2) := by decide +kernel
theorem dX9_laysLeft_118 : decode cX9_laysLeft 118 = .ok (.iload_n 1, 1) := by decide +kernel
theorem dX9_laysLeft_119 : decode cX9_laysLeft 119 = .ok (.iadd, 1) := by decide +kernel
theorem dX9_laysLeft_120 : decode cX9_laysLeft 120 = .ok (.aload_n 0, 1) := by decide +kernel
theorem dX9_laysLeft_121 : decode cX9_laysLeft 121 = .ok (.iload_n 1, 1) := by decide +kernel
theorem dX9_laysLeft_122 : decode cX9_laysLeft 122 = .ok (.iconst 3, 1) := by decide +kernel
theorem dX9_laysLeft_123 : decode cX9_laysLeft 123 = .ok (.invokevirtual 237, 3) := by decide +kernel
theorem dX9_laysLeft_126 : decode cX9_laysLeft 126 = .ok (.aload_n 0, 1) := by decide +kernel
theorem dX9_laysLeft_127 : decode cX9_laysLeft 127 = .ok (.iload_n 1, 1) := by decide +kernel
theorem dX9_laysLeft_128 : decode cX9_laysLeft 128 = .ok (.iconst 5, 1) := by decide +kernel
theorem dX9_laysLeft_129 : decode cX9_laysLeft 129 = .ok (.invokevirtual 237, 3) := by decide +kernel
theorem dX9_laysLeft_132 : decode cX9_laysLeft 132 = .ok (.ladd, 1) := by decide +kernel
theorem dX9_laysLeft_133 : decode cX9_laysLeft 133 = .ok (.l2i, 1) := by decide +kernel
theorem dX9_laysLeft_134 : decode cX9_laysLeft 134 = .ok (.iastore, 1) := by decide +kernel
theorem dX9_laysLeft_135 : decode cX9_laysLeft 135 = .ok (.iinc 1 1, 3) := by decide +kernel
theorem dX9_laysLeft_138 : decode cX9_laysLeft 138 = .ok (.goto (-58), 3) := by decide +kernel
theorem dX9_laysLeft_141 : decode cX9_laysLeft 141 = .ok (.return_, 1) := by decide +kernel
theorem dX9_goesBy_0 : decode cX9_goesBy 0 = .ok (.aload_n 0, 1) := by decide +kernel
theorem dX9_goesBy_1 : decode cX9_goesBy 1 = .ok (.iload_n 1, 1) := by decide +kernel
theorem dX9_goesBy_2 : decode cX9_goesBy 2 = .ok (.iconst 1, 1) := by decide +kernel
theorem dX9_goesBy_3 : decode cX9_goesBy 3 = .ok (.invokevirtual 259, 3) := by decide +kernel
theorem dX9_goesBy_6 : decode cX9_goesBy 6 = .ok (.istore_n 3, 1) := by decide +kernel
theorem dX9_goesBy_7 : decode cX9_goesBy 7 = .ok (.aload_n 0, 1) := by decide +kernel
theorem dX9_goesBy_8 : decode cX9_goesBy 8 = .ok (.iload_n 1, 1) := by decide +kernel
theorem dX9_goesBy_9 : decode cX9_goesBy 9 = .ok (.iconst 2, 1) := by decide +kernel
theorem dX9_goesBy_10 : decode cX9_goesBy 10 = .ok (.invokevirtual 259, 3) := by decide +kernel
theorem dX9_goesBy_13 : decode cX9_goesBy 13 = .ok (.istore 4, 2) := by decide +kernel
theorem dX9_goesBy_15 : decode cX9_goesBy 15 = .ok (.iload_n 2, 1) := by decide +kernel
theorem dX9_goesBy_16 : decode cX9_goesBy 16 = .ok (.bipush 10, 2) := by decide +kernel
theorem dX9_goesBy_18 : decode cX9_goesBy 18 = .ok (.if_icmp .ge 20, 3) := by decide +kernel
theorem dX9_goesBy_21 : decode cX9_goesBy 21 = .ok (.iload_n 2, 1) := by decide +kernel
theorem dX9_goesBy_22 : decode cX9_goesBy 22 = .ok (.iload_n 3, 1) := by decide +kernel
theorem dX9_goesBy_23 : decode cX9_goesBy 23 = .ok (.if_icmp .eq 9, 3) := by decide +kernel
theorem dX9_goesBy_26 : decode cX9_goesBy 26 = .ok (.iload_n 2, 1) := by decide +kernel
theorem dX9_goesBy_27 : decode cX9_goesBy 27 = .ok (.iload 4, 2) := by decide +kernel
theorem dX9_goesBy_29 : decode cX9_goesBy 29 = .ok (.if_icmp .ne 7, 3) := by decide +kernel
theorem dX9_goesBy_32 : decode cX9_goesBy 32 = .ok (.iconst 1, 1) := by decide +kernel
theorem dX9_goesBy_33 : decode cX9_goesBy 33 = .ok (.goto 4, 3) := by decide +kernel
theorem dX9_goesBy_36 : decode cX9_goesBy 36 = .ok (.iconst 0, 1) := by decide +kernel
theorem dX9_goesBy_37 : decode cX9_goesBy 37 = .ok (.ireturn, 1) := by decide +kernel
theorem dX9_goesBy_38 : decode cX9_goesBy 38 = .ok (.iload_n 2, 1) := by decide +kernel
theorem dX9_goesBy_39 : decode cX9_goesBy 39 = .ok (.bipush 30, 2) := by decide +kernel
theorem dX9_goesBy_41 : decode cX9_goesBy 41 = .ok (.if_icmp .lt 27, 3) := by decide +kernel
theorem dX9_goesBy_44 : decode cX9_goesBy 44 = .ok (.iload_n 3, 1) := by decide +kernel
theorem dX9_goesBy_45 : decode cX9_goesBy 45 = .ok (.iconst (-1), 1) := by decide +kernel
theorem dX9_goesBy_46 : decode cX9_goesBy 46 = .ok (.if_icmp .ne 20, 3) := by decide +kernel
theorem dX9_goesBy_49 : decode cX9_goesBy 49 = .ok (.aload_n 0, 1) := by decide +kernel
theorem dX9_goesBy_50 : decode cX9_goesBy 50 = .ok (.iload_n 1, 1) := by decide +kernel
theorem dX9_goesBy_51 : decode cX9_goesBy 51 = .ok (.iconst 0, 1) := by decide +kernel
theorem dX9_goesBy_52 : decode cX9_goesBy 52 = .ok (.invokevirtual 259, 3) := by decide +kernel
theorem dX9_goesBy_55 : decode cX9_goesBy 55 = .ok (.iload_n 2, 1) := by decide +kernel
theorem dX9_goesBy_56 : decode cX9_goesBy 56 = .ok (.bipush 30, 2) := by decide +kernel
theorem dX9_goesBy_58 : decode cX9_goesBy 58 = .ok (.isub, 1) := by decide +kernel
theorem dX9_goesBy_59 : decode cX9_goesBy 59 = .ok (.if_icmp .ne 7, 3) := by decide +kernel
theorem dX9_goesBy_62 : decode cX9_goesBy 62 = .ok (.iconst 1, 1) := by decide +kernel
theorem dX9_goesBy_63 : decode cX9_goesBy 63 = .ok (.goto 4, 3) := by decide +kernel
theorem dX9_goesBy_66 : decode cX9_goesBy 66 = .ok (.iconst 0, 1) := by decide +kernel
theorem dX9_goesBy_67 : decode cX9_goesBy 67 = .ok (.ireturn, 1) := by decide +kernel
theorem dX9_goesBy_68 : decode cX9_goesBy 68 = .ok (.iload_n 2, 1) := by decide +kernel
theorem dX9_goesBy_69 : decode cX9_goesBy 69 = .ok (.bipush 24, 2) := by decide +kernel
theorem dX9_goesBy_71 : decode cX9_goesBy 71 = .ok (.if_icmp .lt 28, 3) := by decide +kernel
theorem dX9_goesBy_74 : decode cX9_goesBy 74 = .ok (.iload 4, 2) := by decide +kernel
theorem dX9_goesBy_76 : decode cX9_goesBy 76 = .ok (.iconst (-1), 1) := by decide +kernel
theorem dX9_goesBy_77 : decode cX9_goesBy 77 = .ok (.if_icmp .ne 20, 3) := by decide +kernel
theorem dX9_goesBy_80 : decode cX9_goesBy 80 = .ok (.aload_n 0, 1) := by decide +kernel
theorem dX9_goesBy_81 : decode cX9_goesBy 81 = .ok (.iload_n 1, 1) := by decide +kernel
theorem dX9_goesBy_82 : decode cX9_goesBy 82 = .ok (.iconst 0, 1) := by decide +kernel
theorem dX9_goesBy_83 : decode cX9_goesBy 83 = .ok (.invokevirtual 259, 3) := by decide +kernel
theorem dX9_goesBy_86 : decode cX9_goesBy 86 = .ok (.iload_n 2, 1) := by decide +kernel
theorem dX9_goesBy_87 : decode cX9_goesBy 87 = .ok (.bipush 24, 2) := by decide +kernel
theorem dX9_goesBy_89 : decode cX9_goesBy 89 = .ok (.isub, 1) := by decide +kernel
theorem dX9_goesBy_90 : decode cX9_goesBy 90 = .ok (.if_icmp .ne 7, 3) := by decide +kernel
theorem dX9_goesBy_93 : decode cX9_goesBy 93 = .ok (.iconst 1, 1) := by decide +kernel
theorem dX9_goesBy_94 : decode cX9_goesBy 94 = .ok (.goto 4, 3) := by decide +kernel
theorem dX9_goesBy_97 : decode cX9_goesBy 97 = .ok (.iconst 0, 1) := by decide +kernel
theorem dX9_goesBy_98 : decode cX9_goesBy 98 = .ok (.ireturn, 1) := by decide +kernel
theorem dX9_goesBy_99 : decode cX9_goesBy 99 = .ok (.iload_n 3, 1) := by decide +kernel
theorem dX9_goesBy_100 : decode cX9_goesBy 100 = .ok (.iconst (-1), 1) := by decide +kernel
theorem dX9_goesBy_101 : decode cX9_goesBy 101 = .ok (.if_icmp .eq 9, 3) := by decide +kernel
theorem dX9_goesBy_104 : decode cX9_goesBy 104 = .ok (.iload 4, 2) := by decide +kernel
theorem dX9_goesBy_106 : decode cX9_goesBy 106 = .ok (.iconst (-1), 1) := by decide +kernel
theorem dX9_goesBy_107 : decode cX9_goesBy 107 = .ok (.if_icmp .ne 5, 3) := by decide +kernel
theorem dX9_goesBy_110 : decode cX9_goesBy 110 = .ok (.iconst 0, 1) := by decide +kernel
theorem dX9_goesBy_111 : decode cX9_goesBy 111 = .ok (.ireturn, 1) := by decide +kernel
theorem dX9_goesBy_112 : decode cX9_goesBy 112 = .ok (.aload_n 0, 1) := by decide +kernel
theorem dX9_goesBy_113 : decode cX9_goesBy 113 = .ok (.iload_n 3, 1) := by decide +kernel
theorem dX9_goesBy_114 : decode cX9_goesBy 114 = .ok (.iconst 0, 1) := by decide +kernel
theorem dX9_goesBy_115 : decode cX9_goesBy 115 = .ok (.invokevirtual 189, 3) := by decide +kernel
theorem dX9_goesBy_118 : decode cX9_goesBy 118 = .ok (.istore 5, 2) := by decide +kernel
theorem dX9_goesBy_120 : decode cX9_goesBy 120 = .ok (.aload_n 0, 1) := by decide +kernel
theorem dX9_goesBy_121 : decode cX9_goesBy 121 = .ok (.iload 4, 2) := by decide +kernel
theorem dX9_goesBy_123 : decode cX9_goesBy 123 = .ok (.iconst 0, 1) := by decide +kernel
theorem dX9_goesBy_124 : decode cX9_goesBy 124 = .ok (.invokevirtual 189, 3) := by decide +kernel
theorem dX9_goesBy_127 : decode cX9_goesBy 127 = .ok (.istore 6, 2) := by decide +kernel
theorem dX9_goesBy_129 : decode cX9_goesBy 129 = .ok (.iload_n 2, 1) := by decide +kernel
theorem dX9_goesBy_130 : decode cX9_goesBy 130 = .ok (.bipush 17, 2) := by decide +kernel
theorem dX9_goesBy_132 : decode cX9_goesBy 132 = .ok (.if_icmp .ge 10, 3) := by decide +kernel
theorem dX9_goesBy_135 : decode cX9_goesBy 135 = .ok (.iload_n 2, 1) := by decide +kernel
theorem dX9_goesBy_136 : decode cX9_goesBy 136 = .ok (.bipush 10, 2) := by decide +kernel
theorem dX9_goesBy_138 : decode cX9_goesBy 138 = .ok (.isub, 1) := by decide +kernel
theorem dX9_goesBy_139 : decode cX9_goesBy 139 = .ok (.goto 7, 3) := by decide +kernel
theorem dX9_goesBy_142 : decode cX9_goesBy 142 = .ok (.iload_n 2, 1) := by decide +kernel
theorem dX9_goesBy_143 : decode cX9_goesBy 143 = .ok (.bipush 17, 2) := by decide +kernel
theorem dX9_goesBy_145 : decode cX9_goesBy 145 = .ok (.isub, 1) := by decide +kernel
theorem dX9_goesBy_146 : decode cX9_goesBy 146 = .ok (.istore 7, 2) := by decide +kernel
theorem dX9_goesBy_148 : decode cX9_goesBy 148 = .ok (.iload_n 2, 1) := by decide +kernel
theorem dX9_goesBy_149 : decode cX9_goesBy 149 = .ok (.bipush 17, 2) := by decide +kernel
theorem dX9_goesBy_151 : decode cX9_goesBy 151 = .ok (.if_icmp .ge 25, 3) := by decide +kernel
theorem dX9_goesBy_154 : decode cX9_goesBy 154 = .ok (.iload 5, 2) := by decide +kernel
theorem dX9_goesBy_156 : decode cX9_goesBy 156 = .ok (.iload 7, 2) := by decide +kernel
theorem dX9_goesBy_158 : decode cX9_goesBy 158 = .ok (.if_icmp .gt 14, 3) := by decide +kernel
theorem dX9_goesBy_161 : decode cX9_goesBy 161 = .ok (.iload 7, 2) := by decide +kernel
theorem dX9_goesBy_163 : decode cX9_goesBy 163 = .ok (.iload 6, 2) := by decide +kernel
theorem dX9_goesBy_165 : decode cX9_goesBy 165 = .ok (.if_icmp .ge 7, 3) := by decide +kernel
theorem dX9_goesBy_168 : decode cX9_goesBy 168 = .ok (.iconst 1, 1) := by decide +kernel
theorem dX9_goesBy_169 : decode cX9_goesBy 169 = .ok (.goto 26, 3) := by decide +kernel
theorem dX9_goesBy_172 : decode cX9_goesBy 172 = .ok (.iconst 0, 1) := by decide +kernel
theorem dX9_goesBy_173 : decode cX9_goesBy 173 = .ok (.goto 22, 3) := by decide +kernel
theorem dX9_goesBy_176 : decode cX9_goesBy 176 = .ok (.iload 6, 2) := by decide +kernel
theorem dX9_goesBy_178 : decode cX9_goesBy 178 = .ok (.iload 7, 2) := by decide +kernel
theorem dX9_goesBy_180 : decode cX9_goesBy 180 = .ok (.if_icmp .gt 14, 3) := by decide +kernel
theorem dX9_goesBy_183 : decode cX9_goesBy 183 = .ok (.iload 7, 2) := by decide +kernel
theorem dX9_goesBy_185 : decode cX9_goesBy 185 = .ok (.iload 5, 2) := by decide +kernel
theorem dX9_goesBy_187 : decode cX9_goesBy 187 = .ok (.if_icmp .ge 7, 3) := by decide +kernel
theorem dX9_goesBy_190 : decode cX9_goesBy 190 = .ok (.iconst 1, 1) := by decide +kernel
theorem dX9_goesBy_191 : decode cX9_goesBy 191 = .ok (.goto 4, 3) := by decide +kernel
theorem dX9_goesBy_194 : decode cX9_goesBy 194 = .ok (.iconst 0, 1) := by decide +kernel
theorem dX9_goesBy_195 : decode cX9_goesBy 195 = .ok (.ireturn, 1) := by decide +kernel
theorem dX9_codeOf_0 : decode cX9_codeOf 0 = .ok (.iload_n 1, 1) := by decide +kernel
theorem dX9_codeOf_1 : decode cX9_codeOf 1 = .ok (.bipush 10, 2) := by decide +kernel
theorem dX9_codeOf_3 : decode cX9_codeOf 3 = .ok (.if_icmp .ge 22, 3) := by decide +kernel
theorem dX9_codeOf_6 : decode cX9_codeOf 6 = .ok (.aload_n 0, 1) := by decide +kernel
theorem dX9_codeOf_7 : decode cX9_codeOf 7 = .ok (.iload_n 1, 1) := by decide +kernel
theorem dX9_codeOf_8 : decode cX9_codeOf 8 = .ok (.iconst 1, 1) := by decide +kernel
theorem dX9_codeOf_9 : decode cX9_codeOf 9 = .ok (.invokevirtual 189, 3) := by decide +kernel
theorem dX9_codeOf_12 : decode cX9_codeOf 12 = .ok (.iconst 1, 1) := by decide +kernel
theorem dX9_codeOf_13 : decode cX9_codeOf 13 = .ok (.if_icmp .ne 8, 3) := by decide +kernel
theorem dX9_codeOf_16 : decode cX9_codeOf 16 = .ok (.bipush 100, 2) := by decide +kernel
theorem dX9_codeOf_18 : decode cX9_codeOf 18 = .ok (.goto 6, 3) := by decide +kernel
theorem dX9_codeOf_21 : decode cX9_codeOf 21 = .ok (.sipush 400, 3) := by decide +kernel
theorem dX9_codeOf_24 : decode cX9_codeOf 24 = .ok (.ireturn, 1) := by decide +kernel
theorem dX9_codeOf_25 : decode cX9_codeOf 25 = .ok (.iload_n 1, 1) := by decide +kernel
theorem dX9_codeOf_26 : decode cX9_codeOf 26 = .ok (.bipush 17, 2) := by decide +kernel
theorem dX9_codeOf_28 : decode cX9_codeOf 28 = .ok (.if_icmp .ge 14, 3) := by decide +kernel
theorem dX9_codeOf_31 : decode cX9_codeOf 31 = .ok (.sipush 200, 3) := by decide +kernel
theorem dX9_codeOf_34 : decode cX9_codeOf 34 = .ok (.iload_n 1, 1) := by decide +kernel
theorem dX9_codeOf_35 : decode cX9_codeOf 35 = .ok (.iadd, 1) := by decide +kernel
theorem dX9_codeOf_36 : decode cX9_codeOf 36 = .ok (.bipush 10, 2) := by decide +kernel
theorem dX9_codeOf_38 : decode cX9_codeOf 38 = .ok (.isub, 1) := by decide +kernel
theorem dX9_codeOf_39 : decode cX9_codeOf 39 = .ok (.goto 23, 3) := by decide +kernel
theorem dX9_codeOf_42 : decode cX9_codeOf 42 = .ok (.iload_n 1, 1) := by decide +kernel
theorem dX9_codeOf_43 : decode cX9_codeOf 43 = .ok (.bipush 24, 2) := by decide +kernel
theorem dX9_codeOf_45 : decode cX9_codeOf 45 = .ok (.if_icmp .ge 14, 3) := by decide +kernel
theorem dX9_codeOf_48 : decode cX9_codeOf 48 = .ok (.sipush 300, 3) := by decide +kernel
theorem dX9_codeOf_51 : decode cX9_codeOf 51 = .ok (.iload_n 1, 1) := by decide +kernel
theorem dX9_codeOf_52 : decode cX9_codeOf 52 = .ok (.iadd, 1) := by decide +kernel
theorem dX9_codeOf_53 : decode cX9_codeOf 53 = .ok (.bipush 17, 2) := by decide +kernel
theorem dX9_codeOf_55 : decode cX9_codeOf 55 = .ok (.isub, 1) := by decide +kernel
theorem dX9_codeOf_56 : decode cX9_codeOf 56 = .ok (.goto 6, 3) := by decide +kernel
theorem dX9_codeOf_59 : decode cX9_codeOf 59 = .ok (.sipush 500, 3) := by decide +kernel
theorem dX9_codeOf_62 : decode cX9_codeOf 62 = .ok (.ireturn, 1) := by decide +kernel
theorem dX9_cutsAt_0 : decode cX9_cutsAt 0 = .ok (.lconst 0, 1) := by decide +kernel
theorem dX9_cutsAt_1 : decode cX9_cutsAt 1 = .ok (.lstore_n 2, 1) := by decide +kernel
theorem dX9_cutsAt_2 : decode cX9_cutsAt 2 = .ok (.iconst 0, 1) := by decide +kernel
theorem dX9_cutsAt_3 : decode cX9_cutsAt 3 = .ok (.istore 4, 2) := by decide +kernel
theorem dX9_cutsAt_5 : decode cX9_cutsAt 5 = .ok (.iload 4, 2) := by decide +kernel
theorem dX9_cutsAt_7 : decode cX9_cutsAt 7 = .ok (.aload_n 0, 1) := by decide +kernel
theorem dX9_cutsAt_8 : decode cX9_cutsAt 8 = .ok (.iconst 3, 1) := by decide +kernel
theorem dX9_cutsAt_9 : decode cX9_cutsAt 9 = .ok (.invokevirtual 179, 3) := by decide +kernel
theorem dX9_cutsAt_12 : decode cX9_cutsAt 12 = .ok (.if_icmp .ge 34, 3) := by decide +kernel
theorem dX9_cutsAt_15 : decode cX9_cutsAt 15 = .ok (.lload_n 2, 1) := by decide +kernel
theorem dX9_cutsAt_16 : decode cX9_cutsAt 16 = .ok (.aload_n 0, 1) := by decide +kernel
theorem dX9_cutsAt_17 : decode cX9_cutsAt 17 = .ok (.iload 4, 2) := by decide +kernel
theorem dX9_cutsAt_19 : decode cX9_cutsAt 19 = .ok (.iload_n 1, 1) := by decide +kernel
theorem dX9_cutsAt_20 : decode cX9_cutsAt 20 = .ok (.invokevirtual 261, 3) := by decide +kernel
theorem dX9_cutsAt_23 : decode cX9_cutsAt 23 = .ok (.ifCond .eq 14, 3) := by decide +kernel
theorem dX9_cutsAt_26 : decode cX9_cutsAt 26 = .ok (.aload_n 0, 1) := by decide +kernel
theorem dX9_cutsAt_27 : decode cX9_cutsAt 27 = .ok (.getfield 37, 3) := by decide +kernel
theorem dX9_cutsAt_30 : decode cX9_cutsAt 30 = .ok (.iload 4, 2) := by decide +kernel
theorem dX9_cutsAt_32 : decode cX9_cutsAt 32 = .ok (.iaload, 1) := by decide +kernel
theorem dX9_cutsAt_33 : decode cX9_cutsAt 33 = .ok (.i2l, 1) := by decide +kernel
theorem dX9_cutsAt_34 : decode cX9_cutsAt 34 = .ok (.goto 4, 3) := by decide +kernel
theorem dX9_cutsAt_37 : decode cX9_cutsAt 37 = .ok (.lconst 0, 1) := by decide +kernel
theorem dX9_cutsAt_38 : decode cX9_cutsAt 38 = .ok (.ladd, 1) := by decide +kernel
theorem dX9_cutsAt_39 : decode cX9_cutsAt 39 = .ok (.lstore_n 2, 1) := by decide +kernel
theorem dX9_cutsAt_40 : decode cX9_cutsAt 40 = .ok (.iinc 4 1, 3) := by decide +kernel
theorem dX9_cutsAt_43 : decode cX9_cutsAt 43 = .ok (.goto (-38), 3) := by decide +kernel
theorem dX9_cutsAt_46 : decode cX9_cutsAt 46 = .ok (.lload_n 2, 1) := by decide +kernel
theorem dX9_cutsAt_47 : decode cX9_cutsAt 47 = .ok (.aload_n 0, 1) := by decide +kernel
theorem dX9_cutsAt_48 : decode cX9_cutsAt 48 = .ok (.getfield 33, 3) := by decide +kernel
theorem dX9_cutsAt_51 : decode cX9_cutsAt 51 = .ok (.iload_n 1, 1) := by decide +kernel
theorem dX9_cutsAt_52 : decode cX9_cutsAt 52 = .ok (.iaload, 1) := by decide +kernel
theorem dX9_cutsAt_53 : decode cX9_cutsAt 53 = .ok (.i2l, 1) := by decide +kernel
theorem dX9_cutsAt_54 : decode cX9_cutsAt 54 = .ok (.lcmp, 1) := by decide +kernel
theorem dX9_cutsAt_55 : decode cX9_cutsAt 55 = .ok (.ifCond .gt 4, 3) := by decide +kernel
theorem dX9_cutsAt_58 : decode cX9_cutsAt 58 = .ok (.return_, 1) := by decide +kernel
theorem dX9_cutsAt_59 : decode cX9_cutsAt 59 = .ok (.aload_n 0, 1) := by decide +kernel
theorem dX9_cutsAt_60 : decode cX9_cutsAt 60 = .ok (.getfield 33, 3) := by decide +kernel
theorem dX9_cutsAt_63 : decode cX9_cutsAt 63 = .ok (.iload_n 1, 1) := by decide +kernel
theorem dX9_cutsAt_64 : decode cX9_cutsAt 64 = .ok (.iaload, 1) := by decide +kernel
theorem dX9_cutsAt_65 : decode cX9_cutsAt 65 = .ok (.i2l, 1) := by decide +kernel
theorem dX9_cutsAt_66 : decode cX9_cutsAt 66 = .ok (.lstore 4, 2) := by decide +kernel
theorem dX9_cutsAt_68 : decode cX9_cutsAt 68 = .ok (.iconst 0, 1) := by decide +kernel
theorem dX9_cutsAt_69 : decode cX9_cutsAt 69 = .ok (.istore 6, 2) := by decide +kernel
theorem dX9_cutsAt_71 : decode cX9_cutsAt 71 = .ok (.iload 6, 2) := by decide +kernel
theorem dX9_cutsAt_73 : decode cX9_cutsAt 73 = .ok (.aload_n 0, 1) := by decide +kernel
theorem dX9_cutsAt_74 : decode cX9_cutsAt 74 = .ok (.iconst 3, 1) := by decide +kernel
theorem dX9_cutsAt_75 : decode cX9_cutsAt 75 = .ok (.invokevirtual 179, 3) := by decide +kernel
theorem dX9_cutsAt_78 : decode cX9_cutsAt 78 = .ok (.if_icmp .ge 46, 3) := by decide +kernel
theorem dX9_cutsAt_81 : decode cX9_cutsAt 81 = .ok (.lload 4, 2) := by decide +kernel
theorem dX9_cutsAt_83 : decode cX9_cutsAt 83 = .ok (.aload_n 0, 1) := by decide +kernel
theorem dX9_cutsAt_84 : decode cX9_cutsAt 84 = .ok (.iload 6, 2) := by decide +kernel
theorem dX9_cutsAt_86 : decode cX9_cutsAt 86 = .ok (.iload_n 1, 1) := by decide +kernel
theorem dX9_cutsAt_87 : decode cX9_cutsAt 87 = .ok (.invokevirtual 261, 3) := by decide +kernel
theorem dX9_cutsAt_90 : decode cX9_cutsAt 90 = .ok (.ifCond .eq 24, 3) := by decide +kernel
theorem dX9_cutsAt_93 : decode cX9_cutsAt 93 = .ok (.aload_n 0, 1) := by decide +kernel
theorem dX9_cutsAt_94 : decode cX9_cutsAt 94 = .ok (.getfield 37, 3) := by decide +kernel
theorem dX9_cutsAt_97 : decode cX9_cutsAt 97 = .ok (.iload 6, 2) := by decide +kernel
theorem dX9_cutsAt_99 : decode cX9_cutsAt 99 = .ok (.iaload, 1) := by decide +kernel
theorem dX9_cutsAt_100 : decode cX9_cutsAt 100 = .ok (.i2l, 1) := by decide +kernel
theorem dX9_cutsAt_101 : decode cX9_cutsAt 101 = .ok (.aload_n 0, 1) := by decide +kernel
theorem dX9_cutsAt_102 : decode cX9_cutsAt 102 = .ok (.getfield 33, 3) := by decide +kernel
theorem dX9_cutsAt_105 : decode cX9_cutsAt 105 = .ok (.iload_n 1, 1) := by decide +kernel
theorem dX9_cutsAt_106 : decode cX9_cutsAt 106 = .ok (.iaload, 1) := by decide +kernel
theorem dX9_cutsAt_107 : decode cX9_cutsAt 107 = .ok (.i2l, 1) := by decide +kernel
theorem dX9_cutsAt_108 : decode cX9_cutsAt 108 = .ok (.lmul, 1) := by decide +kernel
theorem dX9_cutsAt_109 : decode cX9_cutsAt 109 = .ok (.lload_n 2, 1) := by decide +kernel
theorem dX9_cutsAt_110 : decode cX9_cutsAt 110 = .ok (.ldiv, 1) := by decide +kernel
theorem dX9_cutsAt_111 : decode cX9_cutsAt 111 = .ok (.goto 4, 3) := by decide +kernel
theorem dX9_cutsAt_114 : decode cX9_cutsAt 114 = .ok (.lconst 0, 1) := by decide +kernel
theorem dX9_cutsAt_115 : decode cX9_cutsAt 115 = .ok (.lsub, 1) := by decide +kernel
theorem dX9_cutsAt_116 : decode cX9_cutsAt 116 = .ok (.lstore 4, 2) := by decide +kernel
theorem dX9_cutsAt_118 : decode cX9_cutsAt 118 = .ok (.iinc 6 1, 3) := by decide +kernel
theorem dX9_cutsAt_121 : decode cX9_cutsAt 121 = .ok (.goto (-50), 3) := by decide +kernel
theorem dX9_cutsAt_124 : decode cX9_cutsAt 124 = .ok (.iconst 0, 1) := by decide +kernel
theorem dX9_cutsAt_125 : decode cX9_cutsAt 125 = .ok (.istore 6, 2) := by decide +kernel
theorem dX9_cutsAt_127 : decode cX9_cutsAt 127 = .ok (.iload 6, 2) := by decide +kernel
theorem dX9_cutsAt_129 : decode cX9_cutsAt 129 = .ok (.aload_n 0, 1) := by decide +kernel
theorem dX9_cutsAt_130 : decode cX9_cutsAt 130 = .ok (.iconst 3, 1) := by decide +kernel
theorem dX9_cutsAt_131 : decode cX9_cutsAt 131 = .ok (.invokevirtual 179, 3) := by decide +kernel
theorem dX9_cutsAt_134 : decode cX9_cutsAt 134 = .ok (.if_icmp .ge 116, 3) := by decide +kernel
theorem dX9_cutsAt_137 : decode cX9_cutsAt 137 = .ok (.aload_n 0, 1) := by decide +kernel
theorem dX9_cutsAt_138 : decode cX9_cutsAt 138 = .ok (.iload 6, 2) := by decide +kernel
theorem dX9_cutsAt_140 : decode cX9_cutsAt 140 = .ok (.iload_n 1, 1) := by decide +kernel
theorem dX9_cutsAt_141 : decode cX9_cutsAt 141 = .ok (.invokevirtual 261, 3) := by decide +kernel
theorem dX9_cutsAt_144 : decode cX9_cutsAt 144 = .ok (.ifCond .ne 6, 3) := by decide +kernel
theorem dX9_cutsAt_147 : decode cX9_cutsAt 147 = .ok (.goto 97, 3) := by decide +kernel
theorem dX9_cutsAt_150 : decode cX9_cutsAt 150 = .ok (.aload_n 0, 1) := by decide +kernel
theorem dX9_cutsAt_151 : decode cX9_cutsAt 151 = .ok (.getfield 37, 3) := by decide +kernel
theorem dX9_cutsAt_154 : decode cX9_cutsAt 154 = .ok (.iload 6, 2) := by decide +kernel
theorem dX9_cutsAt_156 : decode cX9_cutsAt 156 = .ok (.iaload, 1) := by decide +kernel
theorem dX9_cutsAt_157 : decode cX9_cutsAt 157 = .ok (.i2l, 1) := by decide +kernel
theorem dX9_cutsAt_158 : decode cX9_cutsAt 158 = .ok (.aload_n 0, 1) := by decide +kernel
theorem dX9_cutsAt_159 : decode cX9_cutsAt 159 = .ok (.getfield 33, 3) := by decide +kernel
theorem dX9_cutsAt_162 : decode cX9_cutsAt 162 = .ok (.iload_n 1, 1) := by decide +kernel
theorem dX9_cutsAt_163 : decode cX9_cutsAt 163 = .ok (.iaload, 1) := by decide +kernel
theorem dX9_cutsAt_164 : decode cX9_cutsAt 164 = .ok (.i2l, 1) := by decide +kernel
theorem dX9_cutsAt_165 : decode cX9_cutsAt 165 = .ok (.lmul, 1) := by decide +kernel
theorem dX9_cutsAt_166 : decode cX9_cutsAt 166 = .ok (.lload_n 2, 1) := by decide +kernel
theorem dX9_cutsAt_167 : decode cX9_cutsAt 167 = .ok (.ldiv, 1) := by decide +kernel
theorem dX9_cutsAt_168 : decode cX9_cutsAt 168 = .ok (.l2i, 1) := by decide +kernel
theorem dX9_cutsAt_169 : decode cX9_cutsAt 169 = .ok (.istore 7, 2) := by decide +kernel
theorem dX9_cutsAt_171 : decode cX9_cutsAt 171 = .ok (.iload 7, 2) := by decide +kernel
theorem dX9_cutsAt_173 : decode cX9_cutsAt 173 = .ok (.aload_n 0, 1) := by decide +kernel
theorem dX9_cutsAt_174 : decode cX9_cutsAt 174 = .ok (.getfield 37, 3) := by decide +kernel
theorem dX9_cutsAt_177 : decode cX9_cutsAt 177 = .ok (.iload 6, 2) := by decide +kernel
theorem dX9_cutsAt_179 : decode cX9_cutsAt 179 = .ok (.iaload, 1) := by decide +kernel
theorem dX9_cutsAt_180 : decode cX9_cutsAt 180 = .ok (.if_icmp .ge 19, 3) := by decide +kernel
theorem dX9_cutsAt_183 : decode cX9_cutsAt 183 = .ok (.lload 4, 2) := by decide +kernel
theorem dX9_cutsAt_185 : decode cX9_cutsAt 185 = .ok (.lconst 0, 1) := by decide +kernel
theorem dX9_cutsAt_186 : decode cX9_cutsAt 186 = .ok (.lcmp, 1) := by decide +kernel
theorem dX9_cutsAt_187 : decode cX9_cutsAt 187 = .ok (.ifCond .le 12, 3) := by decide +kernel
theorem dX9_cutsAt_190 : decode cX9_cutsAt 190 = .ok (.iinc 7 1, 3) := by decide +kernel
theorem dX9_cutsAt_193 : decode cX9_cutsAt 193 = .ok (.lload 4, 2) := by decide +kernel
theorem dX9_cutsAt_195 : decode cX9_cutsAt 195 = .ok (.lconst 1, 1) := by decide +kernel
theorem dX9_cutsAt_196 : decode cX9_cutsAt 196 = .ok (.lsub, 1) := by decide +kernel
theorem dX9_cutsAt_197 : decode cX9_cutsAt 197 = .ok (.lstore 4, 2) := by decide +kernel
theorem dX9_cutsAt_199 : decode cX9_cutsAt 199 = .ok (.iload 7, 2) := by decide +kernel
theorem dX9_cutsAt_201 : decode cX9_cutsAt 201 = .ok (.aload_n 0, 1) := by decide +kernel
theorem dX9_cutsAt_202 : decode cX9_cutsAt 202 = .ok (.getfield 37, 3) := by decide +kernel
theorem dX9_cutsAt_205 : decode cX9_cutsAt 205 = .ok (.iload 6, 2) := by decide +kernel
theorem dX9_cutsAt_207 : decode cX9_cutsAt 207 = .ok (.iaload, 1) := by decide +kernel
theorem dX9_cutsAt_208 : decode cX9_cutsAt 208 = .ok (.if_icmp .ge 27, 3) := by decide +kernel
theorem dX9_cutsAt_211 : decode cX9_cutsAt 211 = .ok (.aload_n 0, 1) := by decide +kernel
theorem dX9_cutsAt_212 : decode cX9_cutsAt 212 = .ok (.getfield 46, 3) := by decide +kernel
theorem dX9_cutsAt_215 : decode cX9_cutsAt 215 = .ok (.iload 6, 2) := by decide +kernel
theorem dX9_cutsAt_217 : decode cX9_cutsAt 217 = .ok (.iaload, 1) := by decide +kernel
theorem dX9_cutsAt_218 : decode cX9_cutsAt 218 = .ok (.bipush (-2), 2) := by decide +kernel
theorem dX9_cutsAt_220 : decode cX9_cutsAt 220 = .ok (.if_icmp .ne 15, 3) := by decide +kernel
theorem dX9_cutsAt_223 : decode cX9_cutsAt 223 = .ok (.aload_n 0, 1) := by decide +kernel
theorem dX9_cutsAt_224 : decode cX9_cutsAt 224 = .ok (.getfield 46, 3) := by decide +kernel
theorem dX9_cutsAt_227 : decode cX9_cutsAt 227 = .ok (.iload 6, 2) := by decide +kernel
theorem dX9_cutsAt_229 : decode cX9_cutsAt 229 = .ok (.aload_n 0, 1) := by decide +kernel
theorem dX9_cutsAt_230 : decode cX9_cutsAt 230 = .ok (.iload_n 1, 1) := by decide +kernel
theorem dX9_cutsAt_231 : decode cX9_cutsAt 231 = .ok (.invokevirtual 264, 3) := by decide +kernel
theorem dX9_cutsAt_234 : decode cX9_cutsAt 234 = .ok (.iastore, 1) := by decide +kernel
theorem dX9_cutsAt_235 : decode cX9_cutsAt 235 = .ok (.aload_n 0, 1) := by decide +kernel
theorem dX9_cutsAt_236 : decode cX9_cutsAt 236 = .ok (.getfield 37, 3) := by decide +kernel
theorem dX9_cutsAt_239 : decode cX9_cutsAt 239 = .ok (.iload 6, 2) := by decide +kernel
theorem dX9_cutsAt_241 : decode cX9_cutsAt 241 = .ok (.iload 7, 2) := by decide +kernel
theorem dX9_cutsAt_243 : decode cX9_cutsAt 243 = .ok (.iastore, 1) := by decide +kernel
theorem dX9_cutsAt_244 : decode cX9_cutsAt 244 = .ok (.iinc 6 1, 3) := by decide +kernel
theorem dX9_cutsAt_247 : decode cX9_cutsAt 247 = .ok (.goto (-120), 3) := by decide +kernel
theorem dX9_cutsAt_250 : decode cX9_cutsAt 250 = .ok (.return_, 1) := by decide +kernel
theorem dX9_goesOverPoints_0 : decode cX9_goesOverPoints 0 = .ok (.iconst 0, 1) := by decide +kernel
theorem dX9_goesOverPoints_1 : decode cX9_goesOverPoints 1 = .ok (.istore_n 2, 1) := by decide +kernel
theorem dX9_goesOverPoints_2 : decode cX9_goesOverPoints 2 = .ok (.iload_n 2, 1) := by decide +kernel
theorem dX9_goesOverPoints_3 : decode cX9_goesOverPoints 3 = .ok (.aload_n 0, 1) := by decide +kernel
theorem dX9_goesOverPoints_4 : decode cX9_goesOverPoints 4 = .ok (.iconst 1, 1) := by decide +kernel
theorem dX9_goesOverPoints_5 : decode cX9_goesOverPoints 5 = .ok (.invokevirtual 179, 3) := by decide +kernel
theorem dX9_goesOverPoints_8 : decode cX9_goesOverPoints 8 = .ok (.if_icmp .ge 24, 3) := by decide +kernel
theorem dX9_goesOverPoints_11 : decode cX9_goesOverPoints 11 = .ok (.aload_n 0, 1) := by decide +kernel
theorem dX9_goesOverPoints_12 : decode cX9_goesOverPoints 12 = .ok (.iload_n 2, 1) := by decide +kernel
theorem dX9_goesOverPoints_13 : decode cX9_goesOverPoints 13 = .ok (.iconst 1, 1) := by decide +kernel
theorem dX9_goesOverPoints_14 : decode cX9_goesOverPoints 14 = .ok (.invokevirtual 189, 3) := by decide +kernel
theorem dX9_goesOverPoints_17 : decode cX9_goesOverPoints 17 = .ok (.iload_n 1, 1) := by decide +kernel
theorem dX9_goesOverPoints_18 : decode cX9_goesOverPoints 18 = .ok (.if_icmp .ne 8, 3) := by decide +kernel
theorem dX9_goesOverPoints_21 : decode cX9_goesOverPoints 21 = .ok (.aload_n 0, 1) := by decide +kernel
theorem dX9_goesOverPoints_22 : decode cX9_goesOverPoints 22 = .ok (.iload_n 2, 1) := by decide +kernel
theorem dX9_goesOverPoints_23 : decode cX9_goesOverPoints 23 = .ok (.invokevirtual 267, 3) := by decide +kernel
theorem dX9_goesOverPoints_26 : decode cX9_goesOverPoints 26 = .ok (.iinc 2 1, 3) := by decide +kernel
theorem dX9_goesOverPoints_29 : decode cX9_goesOverPoints 29 = .ok (.goto (-27), 3) := by decide +kernel
theorem dX9_goesOverPoints_32 : decode cX9_goesOverPoints 32 = .ok (.return_, 1) := by decide +kernel
theorem dX9_classGoes_0 : decode cX9_classGoes 0 = .ok (.aload_n 0, 1) := by decide +kernel
theorem dX9_classGoes_1 : decode cX9_classGoes 1 = .ok (.iconst 1, 1) := by decide +kernel
theorem dX9_classGoes_2 : decode cX9_classGoes 2 = .ok (.invokevirtual 270, 3) := by decide +kernel
theorem dX9_classGoes_5 : decode cX9_classGoes 5 = .ok (.iconst 0, 1) := by decide +kernel
theorem dX9_classGoes_6 : decode cX9_classGoes 6 = .ok (.istore_n 1, 1) := by decide +kernel
theorem dX9_classGoes_7 : decode cX9_classGoes 7 = .ok (.iload_n 1, 1) := by decide +kernel
theorem dX9_classGoes_8 : decode cX9_classGoes 8 = .ok (.iconst 1, 1) := by decide +kernel
theorem dX9_classGoes_9 : decode cX9_classGoes 9 = .ok (.iadd, 1) := by decide +kernel
theorem dX9_classGoes_10 : decode cX9_classGoes 10 = .ok (.aload_n 0, 1) := by decide +kernel
theorem dX9_classGoes_11 : decode cX9_classGoes 11 = .ok (.iconst 0, 1) := by decide +kernel
theorem dX9_classGoes_12 : decode cX9_classGoes 12 = .ok (.invokevirtual 179, 3) := by decide +kernel
theorem dX9_classGoes_15 : decode cX9_classGoes 15 = .ok (.if_icmp .ge 17, 3) := by decide +kernel
theorem dX9_classGoes_18 : decode cX9_classGoes 18 = .ok (.aload_n 0, 1) := by decide +kernel
theorem dX9_classGoes_19 : decode cX9_classGoes 19 = .ok (.bipush 10, 2) := by decide +kernel
theorem dX9_classGoes_21 : decode cX9_classGoes 21 = .ok (.iload_n 1, 1) := by decide +kernel
theorem dX9_classGoes_22 : decode cX9_classGoes 22 = .ok (.iadd, 1) := by decide +kernel
theorem dX9_classGoes_23 : decode cX9_classGoes 23 = .ok (.invokevirtual 267, 3) := by decide +kernel
theorem dX9_classGoes_26 : decode cX9_classGoes 26 = .ok (.iinc 1 1, 3) := by decide +kernel
theorem dX9_classGoes_29 : decode cX9_classGoes 29 = .ok (.goto (-22), 3) := by decide +kernel
theorem dX9_classGoes_32 : decode cX9_classGoes 32 = .ok (.iconst 0, 1) := by decide +kernel
theorem dX9_classGoes_33 : decode cX9_classGoes 33 = .ok (.istore_n 1, 1) := by decide +kernel
theorem dX9_classGoes_34 : decode cX9_classGoes 34 = .ok (.iload_n 1, 1) := by decide +kernel
theorem dX9_classGoes_35 : decode cX9_classGoes 35 = .ok (.iconst 1, 1) := by decide +kernel
theorem dX9_classGoes_36 : decode cX9_classGoes 36 = .ok (.iadd, 1) := by decide +kernel
theorem dX9_classGoes_37 : decode cX9_classGoes 37 = .ok (.aload_n 0, 1) := by decide +kernel
theorem dX9_classGoes_38 : decode cX9_classGoes 38 = .ok (.iconst 0, 1) := by decide +kernel
theorem dX9_classGoes_39 : decode cX9_classGoes 39 = .ok (.invokevirtual 179, 3) := by decide +kernel
theorem dX9_classGoes_42 : decode cX9_classGoes 42 = .ok (.if_icmp .ge 17, 3) := by decide +kernel
theorem dX9_classGoes_45 : decode cX9_classGoes 45 = .ok (.aload_n 0, 1) := by decide +kernel
theorem dX9_classGoes_46 : decode cX9_classGoes 46 = .ok (.bipush 17, 2) := by decide +kernel
theorem dX9_classGoes_48 : decode cX9_classGoes 48 = .ok (.iload_n 1, 1) := by decide +kernel
theorem dX9_classGoes_49 : decode cX9_classGoes 49 = .ok (.iadd, 1) := by decide +kernel
theorem dX9_classGoes_50 : decode cX9_classGoes 50 = .ok (.invokevirtual 267, 3) := by decide +kernel
theorem dX9_classGoes_53 : decode cX9_classGoes 53 = .ok (.iinc 1 1, 3) := by decide +kernel
theorem dX9_classGoes_56 : decode cX9_classGoes 56 = .ok (.goto (-22), 3) := by decide +kernel
theorem dX9_classGoes_59 : decode cX9_classGoes 59 = .ok (.aload_n 0, 1) := by decide +kernel
theorem dX9_classGoes_60 : decode cX9_classGoes 60 = .ok (.iconst 0, 1) := by decide +kernel
theorem dX9_classGoes_61 : decode cX9_classGoes 61 = .ok (.invokevirtual 270, 3) := by decide +kernel
theorem dX9_classGoes_64 : decode cX9_classGoes 64 = .ok (.iconst 0, 1) := by decide +kernel
theorem dX9_classGoes_65 : decode cX9_classGoes 65 = .ok (.istore_n 1, 1) := by decide +kernel
theorem dX9_classGoes_66 : decode cX9_classGoes 66 = .ok (.iload_n 1, 1) := by decide +kernel
theorem dX9_classGoes_67 : decode cX9_classGoes 67 = .ok (.aload_n 0, 1) := by decide +kernel
theorem dX9_classGoes_68 : decode cX9_classGoes 68 = .ok (.iconst 2, 1) := by decide +kernel
theorem dX9_classGoes_69 : decode cX9_classGoes 69 = .ok (.invokevirtual 179, 3) := by decide +kernel
theorem dX9_classGoes_72 : decode cX9_classGoes 72 = .ok (.if_icmp .ge 25, 3) := by decide +kernel
theorem dX9_classGoes_75 : decode cX9_classGoes 75 = .ok (.aload_n 0, 1) := by decide +kernel
theorem dX9_classGoes_76 : decode cX9_classGoes 76 = .ok (.bipush 24, 2) := by decide +kernel
theorem dX9_classGoes_78 : decode cX9_classGoes 78 = .ok (.iload_n 1, 1) := by decide +kernel
theorem dX9_classGoes_79 : decode cX9_classGoes 79 = .ok (.iadd, 1) := by decide +kernel
theorem dX9_classGoes_80 : decode cX9_classGoes 80 = .ok (.invokevirtual 267, 3) := by decide +kernel
theorem dX9_classGoes_83 : decode cX9_classGoes 83 = .ok (.aload_n 0, 1) := by decide +kernel
theorem dX9_classGoes_84 : decode cX9_classGoes 84 = .ok (.bipush 30, 2) := by decide +kernel
theorem dX9_classGoes_86 : decode cX9_classGoes 86 = .ok (.iload_n 1, 1) := by decide +kernel
theorem dX9_classGoes_87 : decode cX9_classGoes 87 = .ok (.iadd, 1) := by decide +kernel
theorem dX9_classGoes_88 : decode cX9_classGoes 88 = .ok (.invokevirtual 267, 3) := by decide +kernel
theorem dX9_classGoes_91 : decode cX9_classGoes 91 = .ok (.iinc 1 1, 3) := by decide +kernel
theorem dX9_classGoes_94 : decode cX9_classGoes 94 = .ok (.goto (-28), 3) := by decide +kernel
theorem dX9_classGoes_97 : decode cX9_classGoes 97 = .ok (.iconst 0, 1) := by decide +kernel
theorem dX9_classGoes_98 : decode cX9_classGoes 98 = .ok (.istore_n 1, 1) := by decide +kernel
theorem dX9_classGoes_99 : decode cX9_classGoes 99 = .ok (.iload_n 1, 1) := by decide +kernel
theorem dX9_classGoes_100 : decode cX9_classGoes 100 = .ok (.aload_n 0, 1) := by decide +kernel
theorem dX9_classGoes_101 : decode cX9_classGoes 101 = .ok (.iconst 3, 1) := by decide +kernel
theorem dX9_classGoes_102 : decode cX9_classGoes 102 = .ok (.invokevirtual 179, 3) := by decide +kernel
theorem dX9_classGoes_105 : decode cX9_classGoes 105 = .ok (.if_icmp .ge 66, 3) := by decide +kernel
theorem dX9_classGoes_108 : decode cX9_classGoes 108 = .ok (.aload_n 0, 1) := by decide +kernel
theorem dX9_classGoes_109 : decode cX9_classGoes 109 = .ok (.getfield 43, 3) := by decide +kernel
theorem dX9_classGoes_112 : decode cX9_classGoes 112 = .ok (.iload_n 1, 1) := by decide +kernel
theorem dX9_classGoes_113 : decode cX9_classGoes 113 = .ok (.dup2, 1) := by decide +kernel
theorem dX9_classGoes_114 : decode cX9_classGoes 114 = .ok (.iaload, 1) := by decide +kernel
theorem dX9_classGoes_115 : decode cX9_classGoes 115 = .ok (.aload_n 0, 1) := by decide +kernel
theorem dX9_classGoes_116 : decode cX9_classGoes 116 = .ok (.getfield 37, 3) := by decide +kernel
theorem dX9_classGoes_119 : decode cX9_classGoes 119 = .ok (.iload_n 1, 1) := by decide +kernel
theorem dX9_classGoes_120 : decode cX9_classGoes 120 = .ok (.iaload, 1) := by decide +kernel
theorem dX9_classGoes_121 : decode cX9_classGoes 121 = .ok (.iadd, 1) := by decide +kernel
theorem dX9_classGoes_122 : decode cX9_classGoes 122 = .ok (.iastore, 1) := by decide +kernel
theorem dX9_classGoes_123 : decode cX9_classGoes 123 = .ok (.iconst 0, 1) := by decide +kernel
theorem dX9_classGoes_124 : decode cX9_classGoes 124 = .ok (.istore_n 2, 1) := by decide +kernel
theorem dX9_classGoes_125 : decode cX9_classGoes 125 = .ok (.iload_n 2, 1) := by decide +kernel
theorem dX9_classGoes_126 : decode cX9_classGoes 126 = .ok (.bipush 36, 2) := by decide +kernel
theorem dX9_classGoes_128 : decode cX9_classGoes 128 = .ok (.if_icmp .ge 37, 3) := by decide +kernel
theorem dX9_classGoes_131 : decode cX9_classGoes 131 = .ok (.aload_n 0, 1) := by decide +kernel
theorem dX9_classGoes_132 : decode cX9_classGoes 132 = .ok (.getfield 33, 3) := by decide +kernel
theorem dX9_classGoes_135 : decode cX9_classGoes 135 = .ok (.iload_n 2, 1) := by decide +kernel
theorem dX9_classGoes_136 : decode cX9_classGoes 136 = .ok (.dup2, 1) := by decide +kernel
theorem dX9_classGoes_137 : decode cX9_classGoes 137 = .ok (.iaload, 1) := by decide +kernel
theorem dX9_classGoes_138 : decode cX9_classGoes 138 = .ok (.aload_n 0, 1) := by decide +kernel
theorem dX9_classGoes_139 : decode cX9_classGoes 139 = .ok (.iload_n 1, 1) := by decide +kernel
theorem dX9_classGoes_140 : decode cX9_classGoes 140 = .ok (.iload_n 2, 1) := by decide +kernel
theorem dX9_classGoes_141 : decode cX9_classGoes 141 = .ok (.invokevirtual 261, 3) := by decide +kernel
theorem dX9_classGoes_144 : decode cX9_classGoes 144 = .ok (.ifCond .eq 12, 3) := by decide +kernel
theorem dX9_classGoes_147 : decode cX9_classGoes 147 = .ok (.aload_n 0, 1) := by decide +kernel
theorem dX9_classGoes_148 : decode cX9_classGoes 148 = .ok (.getfield 37, 3) := by decide +kernel
theorem dX9_classGoes_151 : decode cX9_classGoes 151 = .ok (.iload_n 1, 1) := by decide +kernel
theorem dX9_classGoes_152 : decode cX9_classGoes 152 = .ok (.iaload, 1) := by decide +kernel
theorem dX9_classGoes_153 : decode cX9_classGoes 153 = .ok (.goto 4, 3) := by decide +kernel
theorem dX9_classGoes_156 : decode cX9_classGoes 156 = .ok (.iconst 0, 1) := by decide +kernel
theorem dX9_classGoes_157 : decode cX9_classGoes 157 = .ok (.isub, 1) := by decide +kernel
theorem dX9_classGoes_158 : decode cX9_classGoes 158 = .ok (.iastore, 1) := by decide +kernel
theorem dX9_classGoes_159 : decode cX9_classGoes 159 = .ok (.iinc 2 1, 3) := by decide +kernel
theorem dX9_classGoes_162 : decode cX9_classGoes 162 = .ok (.goto (-37), 3) := by decide +kernel
theorem dX9_classGoes_165 : decode cX9_classGoes 165 = .ok (.iinc 1 1, 3) := by decide +kernel
theorem dX9_classGoes_168 : decode cX9_classGoes 168 = .ok (.goto (-69), 3) := by decide +kernel
theorem dX9_classGoes_171 : decode cX9_classGoes 171 = .ok (.return_, 1) := by decide +kernel
theorem dX9_begins_0 : decode cX9_begins 0 = .ok (.aload_n 0, 1) := by decide +kernel
theorem dX9_begins_1 : decode cX9_begins 1 = .ok (.invokevirtual 273, 3) := by decide +kernel
theorem dX9_begins_4 : decode cX9_begins 4 = .ok (.iconst 0, 1) := by decide +kernel
theorem dX9_begins_5 : decode cX9_begins 5 = .ok (.istore_n 1, 1) := by decide +kernel
theorem dX9_begins_6 : decode cX9_begins 6 = .ok (.iload_n 1, 1) := by decide +kernel
theorem dX9_begins_7 : decode cX9_begins 7 = .ok (.bipush 16, 2) := by decide +kernel
theorem dX9_begins_9 : decode cX9_begins 9 = .ok (.if_icmp .ge 31, 3) := by decide +kernel
theorem dX9_begins_12 : decode cX9_begins 12 = .ok (.aload_n 0, 1) := by decide +kernel
theorem dX9_begins_13 : decode cX9_begins 13 = .ok (.getfield 43, 3) := by decide +kernel
theorem dX9_begins_16 : decode cX9_begins 16 = .ok (.iload_n 1, 1) := by decide +kernel
theorem dX9_begins_17 : decode cX9_begins 17 = .ok (.iconst 0, 1) := by decide +kernel
theorem dX9_begins_18 : decode cX9_begins 18 = .ok (.iastore, 1) := by decide +kernel
theorem dX9_begins_19 : decode cX9_begins 19 = .ok (.aload_n 0, 1) := by decide +kernel
theorem dX9_begins_20 : decode cX9_begins 20 = .ok (.getfield 46, 3) := by decide +kernel
theorem dX9_begins_23 : decode cX9_begins 23 = .ok (.iload_n 1, 1) := by decide +kernel
theorem dX9_begins_24 : decode cX9_begins 24 = .ok (.bipush (-2), 2) := by decide +kernel
theorem dX9_begins_26 : decode cX9_begins 26 = .ok (.iastore, 1) := by decide +kernel
theorem dX9_begins_27 : decode cX9_begins 27 = .ok (.aload_n 0, 1) := by decide +kernel
theorem dX9_begins_28 : decode cX9_begins 28 = .ok (.getfield 40, 3) := by decide +kernel
theorem dX9_begins_31 : decode cX9_begins 31 = .ok (.iload_n 1, 1) := by decide +kernel
theorem dX9_begins_32 : decode cX9_begins 32 = .ok (.iconst 0, 1) := by decide +kernel
theorem dX9_begins_33 : decode cX9_begins 33 = .ok (.iastore, 1) := by decide +kernel
theorem dX9_begins_34 : decode cX9_begins 34 = .ok (.iinc 1 1, 3) := by decide +kernel
theorem dX9_begins_37 : decode cX9_begins 37 = .ok (.goto (-31), 3) := by decide +kernel
theorem dX9_begins_40 : decode cX9_begins 40 = .ok (.return_, 1) := by decide +kernel
theorem dX9_laysFirm_0 : decode cX9_laysFirm 0 = .ok (.iconst 0, 1) := by decide +kernel
theorem dX9_laysFirm_1 : decode cX9_laysFirm 1 = .ok (.istore_n 1, 1) := by decide +kernel
theorem dX9_laysFirm_2 : decode cX9_laysFirm 2 = .ok (.iload_n 1, 1) := by decide +kernel
theorem dX9_laysFirm_3 : decode cX9_laysFirm 3 = .ok (.aload_n 0, 1) := by decide +kernel
theorem dX9_laysFirm_4 : decode cX9_laysFirm 4 = .ok (.iconst 2, 1) := by decide +kernel
theorem dX9_laysFirm_5 : decode cX9_laysFirm 5 = .ok (.invokevirtual 179, 3) := by decide +kernel
theorem dX9_laysFirm_8 : decode cX9_laysFirm 8 = .ok (.if_icmp .ge 72, 3) := by decide +kernel
theorem dX9_laysFirm_11 : decode cX9_laysFirm 11 = .ok (.aload_n 0, 1) := by decide +kernel
theorem dX9_laysFirm_12 : decode cX9_laysFirm 12 = .ok (.iload_n 1, 1) := by decide +kernel
theorem dX9_laysFirm_13 : decode cX9_laysFirm 13 = .ok (.iconst 0, 1) := by decide +kernel
theorem dX9_laysFirm_14 : decode cX9_laysFirm 14 = .ok (.invokevirtual 237, 3) := by decide +kernel
theorem dX9_laysFirm_17 : decode cX9_laysFirm 17 = .ok (.l2i, 1) := by decide +kernel
theorem dX9_laysFirm_18 : decode cX9_laysFirm 18 = .ok (.istore_n 2, 1) := by decide +kernel
theorem dX9_laysFirm_19 : decode cX9_laysFirm 19 = .ok (.iconst 0, 1) := by decide +kernel
theorem dX9_laysFirm_20 : decode cX9_laysFirm 20 = .ok (.istore_n 3, 1) := by decide +kernel
theorem dX9_laysFirm_21 : decode cX9_laysFirm 21 = .ok (.iload_n 3, 1) := by decide +kernel
theorem dX9_laysFirm_22 : decode cX9_laysFirm 22 = .ok (.aload_n 0, 1) := by decide +kernel
theorem dX9_laysFirm_23 : decode cX9_laysFirm 23 = .ok (.iconst 3, 1) := by decide +kernel
theorem dX9_laysFirm_24 : decode cX9_laysFirm 24 = .ok (.invokevirtual 179, 3) := by decide +kernel
theorem dX9_laysFirm_27 : decode cX9_laysFirm 27 = .ok (.if_icmp .ge 47, 3) := by decide +kernel
theorem dX9_laysFirm_30 : decode cX9_laysFirm 30 = .ok (.aload_n 0, 1) := by decide +kernel
theorem dX9_laysFirm_31 : decode cX9_laysFirm 31 = .ok (.iload_n 3, 1) := by decide +kernel
theorem dX9_laysFirm_32 : decode cX9_laysFirm 32 = .ok (.iconst 0, 1) := by decide +kernel
theorem dX9_laysFirm_33 : decode cX9_laysFirm 33 = .ok (.invokevirtual 259, 3) := by decide +kernel
theorem dX9_laysFirm_36 : decode cX9_laysFirm 36 = .ok (.iload_n 1, 1) := by decide +kernel
theorem dX9_laysFirm_37 : decode cX9_laysFirm 37 = .ok (.if_icmp .eq 6, 3) := by decide +kernel
theorem dX9_laysFirm_40 : decode cX9_laysFirm 40 = .ok (.goto 28, 3) := by decide +kernel
theorem dX9_laysFirm_43 : decode cX9_laysFirm 43 = .ok (.aload_n 0, 1) := by decide +kernel
theorem dX9_laysFirm_44 : decode cX9_laysFirm 44 = .ok (.getfield 49, 3) := by decide +kernel
theorem dX9_laysFirm_47 : decode cX9_laysFirm 47 = .ok (.iload_n 3, 1) := by decide +kernel
theorem dX9_laysFirm_48 : decode cX9_laysFirm 48 = .ok (.iload_n 2, 1) := by decide +kernel
theorem dX9_laysFirm_49 : decode cX9_laysFirm 49 = .ok (.aload_n 0, 1) := by decide +kernel
theorem dX9_laysFirm_50 : decode cX9_laysFirm 50 = .ok (.iload_n 3, 1) := by decide +kernel
theorem dX9_laysFirm_51 : decode cX9_laysFirm 51 = .ok (.iconst 3, 1) := by decide +kernel
theorem dX9_laysFirm_52 : decode cX9_laysFirm 52 = .ok (.invokevirtual 259, 3) := by decide +kernel
theorem dX9_laysFirm_55 : decode cX9_laysFirm 55 = .ok (.invokestatic 106, 3) := by decide +kernel
theorem dX9_laysFirm_58 : decode cX9_laysFirm 58 = .ok (.iastore, 1) := by decide +kernel
theorem dX9_laysFirm_59 : decode cX9_laysFirm 59 = .ok (.iload_n 2, 1) := by decide +kernel
theorem dX9_laysFirm_60 : decode cX9_laysFirm 60 = .ok (.aload_n 0, 1) := by decide +kernel
theorem dX9_laysFirm_61 : decode cX9_laysFirm 61 = .ok (.getfield 49, 3) := by decide +kernel
theorem dX9_laysFirm_64 : decode cX9_laysFirm 64 = .ok (.iload_n 3, 1) := by decide +kernel
theorem dX9_laysFirm_65 : decode cX9_laysFirm 65 = .ok (.iaload, 1) := by decide +kernel
theorem dX9_laysFirm_66 : decode cX9_laysFirm 66 = .ok (.isub, 1) := by decide +kernel
theorem dX9_laysFirm_67 : decode cX9_laysFirm 67 = .ok (.istore_n 2, 1) := by decide +kernel
theorem dX9_laysFirm_68 : decode cX9_laysFirm 68 = .ok (.iinc 3 1, 3) := by decide +kernel
theorem dX9_laysFirm_71 : decode cX9_laysFirm 71 = .ok (.goto (-50), 3) := by decide +kernel
theorem dX9_laysFirm_74 : decode cX9_laysFirm 74 = .ok (.iinc 1 1, 3) := by decide +kernel
theorem dX9_laysFirm_77 : decode cX9_laysFirm 77 = .ok (.goto (-75), 3) := by decide +kernel
theorem dX9_laysFirm_80 : decode cX9_laysFirm 80 = .ok (.return_, 1) := by decide +kernel
theorem dX9_schedules_0 : decode cX9_schedules 0 = .ok (.aload_n 0, 1) := by decide +kernel
theorem dX9_schedules_1 : decode cX9_schedules 1 = .ok (.invokevirtual 276, 3) := by decide +kernel
theorem dX9_schedules_4 : decode cX9_schedules 4 = .ok (.aload_n 0, 1) := by decide +kernel
theorem dX9_schedules_5 : decode cX9_schedules 5 = .ok (.invokevirtual 279, 3) := by decide +kernel
theorem dX9_schedules_8 : decode cX9_schedules 8 = .ok (.iconst 0, 1) := by decide +kernel
theorem dX9_schedules_9 : decode cX9_schedules 9 = .ok (.istore_n 1, 1) := by decide +kernel
theorem dX9_schedules_10 : decode cX9_schedules 10 = .ok (.iload_n 1, 1) := by decide +kernel
theorem dX9_schedules_11 : decode cX9_schedules 11 = .ok (.aload_n 0, 1) := by decide +kernel
theorem dX9_schedules_12 : decode cX9_schedules 12 = .ok (.iconst 3, 1) := by decide +kernel
theorem dX9_schedules_13 : decode cX9_schedules 13 = .ok (.invokevirtual 179, 3) := by decide +kernel
theorem dX9_schedules_16 : decode cX9_schedules 16 = .ok (.if_icmp .ge 21, 3) := by decide +kernel
theorem dX9_schedules_19 : decode cX9_schedules 19 = .ok (.aload_n 0, 1) := by decide +kernel
theorem dX9_schedules_20 : decode cX9_schedules 20 = .ok (.getfield 37, 3) := by decide +kernel
theorem dX9_schedules_23 : decode cX9_schedules 23 = .ok (.iload_n 1, 1) := by decide +kernel
theorem dX9_schedules_24 : decode cX9_schedules 24 = .ok (.aload_n 0, 1) := by decide +kernel
theorem dX9_schedules_25 : decode cX9_schedules 25 = .ok (.getfield 49, 3) := by decide +kernel
theorem dX9_schedules_28 : decode cX9_schedules 28 = .ok (.iload_n 1, 1) := by decide +kernel
theorem dX9_schedules_29 : decode cX9_schedules 29 = .ok (.iaload, 1) := by decide +kernel
theorem dX9_schedules_30 : decode cX9_schedules 30 = .ok (.iastore, 1) := by decide +kernel
theorem dX9_schedules_31 : decode cX9_schedules 31 = .ok (.iinc 1 1, 3) := by decide +kernel
theorem dX9_schedules_34 : decode cX9_schedules 34 = .ok (.goto (-24), 3) := by decide +kernel
theorem dX9_schedules_37 : decode cX9_schedules 37 = .ok (.aload_n 0, 1) := by decide +kernel
theorem dX9_schedules_38 : decode cX9_schedules 38 = .ok (.invokevirtual 282, 3) := by decide +kernel
theorem dX9_schedules_41 : decode cX9_schedules 41 = .ok (.iconst 0, 1) := by decide +kernel
theorem dX9_schedules_42 : decode cX9_schedules 42 = .ok (.istore_n 1, 1) := by decide +kernel
theorem dX9_schedules_43 : decode cX9_schedules 43 = .ok (.iload_n 1, 1) := by decide +kernel
theorem dX9_schedules_44 : decode cX9_schedules 44 = .ok (.aload_n 0, 1) := by decide +kernel
theorem dX9_schedules_45 : decode cX9_schedules 45 = .ok (.iconst 3, 1) := by decide +kernel
theorem dX9_schedules_46 : decode cX9_schedules 46 = .ok (.invokevirtual 179, 3) := by decide +kernel
theorem dX9_schedules_49 : decode cX9_schedules 49 = .ok (.if_icmp .ge 21, 3) := by decide +kernel
theorem dX9_schedules_52 : decode cX9_schedules 52 = .ok (.aload_n 0, 1) := by decide +kernel
theorem dX9_schedules_53 : decode cX9_schedules 53 = .ok (.getfield 40, 3) := by decide +kernel
theorem dX9_schedules_56 : decode cX9_schedules 56 = .ok (.iload_n 1, 1) := by decide +kernel
theorem dX9_schedules_57 : decode cX9_schedules 57 = .ok (.aload_n 0, 1) := by decide +kernel
theorem dX9_schedules_58 : decode cX9_schedules 58 = .ok (.getfield 37, 3) := by decide +kernel
theorem dX9_schedules_61 : decode cX9_schedules 61 = .ok (.iload_n 1, 1) := by decide +kernel
theorem dX9_schedules_62 : decode cX9_schedules 62 = .ok (.iaload, 1) := by decide +kernel
theorem dX9_schedules_63 : decode cX9_schedules 63 = .ok (.iastore, 1) := by decide +kernel
theorem dX9_schedules_64 : decode cX9_schedules 64 = .ok (.iinc 1 1, 3) := by decide +kernel
theorem dX9_schedules_67 : decode cX9_schedules 67 = .ok (.goto (-24), 3) := by decide +kernel
theorem dX9_schedules_70 : decode cX9_schedules 70 = .ok (.iconst 1, 1) := by decide +kernel
theorem dX9_schedules_71 : decode cX9_schedules 71 = .ok (.istore_n 1, 1) := by decide +kernel
theorem dX9_schedules_72 : decode cX9_schedules 72 = .ok (.iload_n 1, 1) := by decide +kernel
theorem dX9_schedules_73 : decode cX9_schedules 73 = .ok (.bipush 9, 2) := by decide +kernel
theorem dX9_schedules_75 : decode cX9_schedules 75 = .ok (.if_icmp .gt 70, 3) := by decide +kernel
theorem dX9_schedules_78 : decode cX9_schedules 78 = .ok (.iconst 0, 1) := by decide +kernel
theorem dX9_schedules_79 : decode cX9_schedules 79 = .ok (.istore_n 2, 1) := by decide +kernel
theorem dX9_schedules_80 : decode cX9_schedules 80 = .ok (.iload_n 2, 1) := by decide +kernel
theorem dX9_schedules_81 : decode cX9_schedules 81 = .ok (.aload_n 0, 1) := by decide +kernel
theorem dX9_schedules_82 : decode cX9_schedules 82 = .ok (.iconst 3, 1) := by decide +kernel
theorem dX9_schedules_83 : decode cX9_schedules 83 = .ok (.invokevirtual 179, 3) := by decide +kernel
theorem dX9_schedules_86 : decode cX9_schedules 86 = .ok (.if_icmp .ge 49, 3) := by decide +kernel
theorem dX9_schedules_89 : decode cX9_schedules 89 = .ok (.aload_n 0, 1) := by decide +kernel
theorem dX9_schedules_90 : decode cX9_schedules 90 = .ok (.getfield 37, 3) := by decide +kernel
theorem dX9_schedules_93 : decode cX9_schedules 93 = .ok (.iload_n 2, 1) := by decide +kernel
theorem dX9_schedules_94 : decode cX9_schedules 94 = .ok (.aload_n 0, 1) := by decide +kernel
theorem dX9_schedules_95 : decode cX9_schedules 95 = .ok (.aload_n 0, 1) := by decide +kernel
theorem dX9_schedules_96 : decode cX9_schedules 96 = .ok (.iload_n 2, 1) := by decide +kernel
theorem dX9_schedules_97 : decode cX9_schedules 97 = .ok (.iconst 0, 1) := by decide +kernel
theorem dX9_schedules_98 : decode cX9_schedules 98 = .ok (.invokevirtual 259, 3) := by decide +kernel
theorem dX9_schedules_101 : decode cX9_schedules 101 = .ok (.iconst 1, 1) := by decide +kernel
theorem dX9_schedules_102 : decode cX9_schedules 102 = .ok (.invokevirtual 237, 3) := by decide +kernel
theorem dX9_schedules_105 : decode cX9_schedules 105 = .ok (.iload_n 1, 1) := by decide +kernel
theorem dX9_schedules_106 : decode cX9_schedules 106 = .ok (.i2l, 1) := by decide +kernel
theorem dX9_schedules_107 : decode cX9_schedules 107 = .ok (.lcmp, 1) := by decide +kernel
theorem dX9_schedules_108 : decode cX9_schedules 108 = .ok (.ifCond .ne 19, 3) := by decide +kernel
theorem dX9_schedules_111 : decode cX9_schedules 111 = .ok (.aload_n 0, 1) := by decide +kernel
theorem dX9_schedules_112 : decode cX9_schedules 112 = .ok (.iload_n 2, 1) := by decide +kernel
theorem dX9_schedules_113 : decode cX9_schedules 113 = .ok (.iconst 3, 1) := by decide +kernel
theorem dX9_schedules_114 : decode cX9_schedules 114 = .ok (.invokevirtual 259, 3) := by decide +kernel
theorem dX9_schedules_117 : decode cX9_schedules 117 = .ok (.aload_n 0, 1) := by decide +kernel
theorem dX9_schedules_118 : decode cX9_schedules 118 = .ok (.getfield 49, 3) := by decide +kernel
theorem dX9_schedules_121 : decode cX9_schedules 121 = .ok (.iload_n 2, 1) := by decide +kernel
theorem dX9_schedules_122 : decode cX9_schedules 122 = .ok (.iaload, 1) := by decide +kernel
theorem dX9_schedules_123 : decode cX9_schedules 123 = .ok (.isub, 1) := by decide +kernel
theorem dX9_schedules_124 : decode cX9_schedules 124 = .ok (.goto 4, 3) := by decide +kernel
theorem dX9_schedules_127 : decode cX9_schedules 127 = .ok (.iconst 0, 1) := by decide +kernel
theorem dX9_schedules_128 : decode cX9_schedules 128 = .ok (.iastore, 1) := by decide +kernel
theorem dX9_schedules_129 : decode cX9_schedules 129 = .ok (.iinc 2 1, 3) := by decide +kernel
theorem dX9_schedules_132 : decode cX9_schedules 132 = .ok (.goto (-52), 3) := by decide +kernel
theorem dX9_schedules_135 : decode cX9_schedules 135 = .ok (.aload_n 0, 1) := by decide +kernel
theorem dX9_schedules_136 : decode cX9_schedules 136 = .ok (.invokevirtual 282, 3) := by decide +kernel
theorem dX9_schedules_139 : decode cX9_schedules 139 = .ok (.iinc 1 1, 3) := by decide +kernel
theorem dX9_schedules_142 : decode cX9_schedules 142 = .ok (.goto (-70), 3) := by decide +kernel
theorem dX9_schedules_145 : decode cX9_schedules 145 = .ok (.return_, 1) := by decide +kernel
theorem dX9_allPlanned_0 : decode cX9_allPlanned 0 = .ok (.iconst 0, 1) := by decide +kernel
theorem dX9_allPlanned_1 : decode cX9_allPlanned 1 = .ok (.istore_n 1, 1) := by decide +kernel
theorem dX9_allPlanned_2 : decode cX9_allPlanned 2 = .ok (.iconst 0, 1) := by decide +kernel
theorem dX9_allPlanned_3 : decode cX9_allPlanned 3 = .ok (.istore_n 2, 1) := by decide +kernel
theorem dX9_allPlanned_4 : decode cX9_allPlanned 4 = .ok (.iload_n 2, 1) := by decide +kernel
theorem dX9_allPlanned_5 : decode cX9_allPlanned 5 = .ok (.aload_n 0, 1) := by decide +kernel
theorem dX9_allPlanned_6 : decode cX9_allPlanned 6 = .ok (.iconst 3, 1) := by decide +kernel
theorem dX9_allPlanned_7 : decode cX9_allPlanned 7 = .ok (.invokevirtual 179, 3) := by decide +kernel
theorem dX9_allPlanned_10 : decode cX9_allPlanned 10 = .ok (.if_icmp .ge 18, 3) := by decide +kernel
theorem dX9_allPlanned_13 : decode cX9_allPlanned 13 = .ok (.iload_n 1, 1) := by decide +kernel
theorem dX9_allPlanned_14 : decode cX9_allPlanned 14 = .ok (.aload_n 0, 1) := by decide +kernel
theorem dX9_allPlanned_15 : decode cX9_allPlanned 15 = .ok (.getfield 43, 3) := by decide +kernel
theorem dX9_allPlanned_18 : decode cX9_allPlanned 18 = .ok (.iload_n 2, 1) := by decide +kernel
theorem dX9_allPlanned_19 : decode cX9_allPlanned 19 = .ok (.iaload, 1) := by decide +kernel
theorem dX9_allPlanned_20 : decode cX9_allPlanned 20 = .ok (.iadd, 1) := by decide +kernel
theorem dX9_allPlanned_21 : decode cX9_allPlanned 21 = .ok (.istore_n 1, 1) := by decide +kernel
theorem dX9_allPlanned_22 : decode cX9_allPlanned 22 = .ok (.iinc 2 1, 3) := by decide +kernel
theorem dX9_allPlanned_25 : decode cX9_allPlanned 25 = .ok (.goto (-21), 3) := by decide +kernel
theorem dX9_allPlanned_28 : decode cX9_allPlanned 28 = .ok (.iload_n 1, 1) := by decide +kernel
theorem dX9_allPlanned_29 : decode cX9_allPlanned 29 = .ok (.ireturn, 1) := by decide +kernel
theorem dX9_behind_0 : decode cX9_behind 0 = .ok (.iload_n 2, 1) := by decide +kernel
theorem dX9_behind_1 : decode cX9_behind 1 = .ok (.iload_n 2, 1) := by decide +kernel
theorem dX9_behind_2 : decode cX9_behind 2 = .ok (.i2l, 1) := by decide +kernel
theorem dX9_behind_3 : decode cX9_behind 3 = .ok (.aload_n 0, 1) := by decide +kernel
theorem dX9_behind_4 : decode cX9_behind 4 = .ok (.iload_n 1, 1) := by decide +kernel
theorem dX9_behind_5 : decode cX9_behind 5 = .ok (.iconst 1, 1) := by decide +kernel
theorem dX9_behind_6 : decode cX9_behind 6 = .ok (.invokevirtual 256, 3) := by decide +kernel
theorem dX9_behind_9 : decode cX9_behind 9 = .ok (.i2l, 1) := by decide +kernel
theorem dX9_behind_10 : decode cX9_behind 10 = .ok (.lmul, 1) := by decide +kernel
theorem dX9_behind_11 : decode cX9_behind 11 = .ok (.ldc2_w 285, 3) := by decide +kernel
theorem dX9_behind_14 : decode cX9_behind 14 = .ok (.ldiv, 1) := by decide +kernel
theorem dX9_behind_15 : decode cX9_behind 15 = .ok (.l2i, 1) := by decide +kernel
theorem dX9_behind_16 : decode cX9_behind 16 = .ok (.isub, 1) := by decide +kernel
theorem dX9_behind_17 : decode cX9_behind 17 = .ok (.ireturn, 1) := by decide +kernel
theorem dX9_leftOver_0 : decode cX9_leftOver 0 = .ok (.iload_n 3, 1) := by decide +kernel
theorem dX9_leftOver_1 : decode cX9_leftOver 1 = .ok (.istore 4, 2) := by decide +kernel
theorem dX9_leftOver_3 : decode cX9_leftOver 3 = .ok (.iload_n 1, 1) := by decide +kernel
theorem dX9_leftOver_4 : decode cX9_leftOver 4 = .ok (.istore 5, 2) := by decide +kernel
theorem dX9_leftOver_6 : decode cX9_leftOver 6 = .ok (.iload 5, 2) := by decide +kernel
theorem dX9_leftOver_8 : decode cX9_leftOver 8 = .ok (.iload_n 2, 1) := by decide +kernel
theorem dX9_leftOver_9 : decode cX9_leftOver 9 = .ok (.if_icmp .ge 19, 3) := by decide +kernel
theorem dX9_leftOver_12 : decode cX9_leftOver 12 = .ok (.aload_n 0, 1) := by decide +kernel
theorem dX9_leftOver_13 : decode cX9_leftOver 13 = .ok (.iload 5, 2) := by decide +kernel
theorem dX9_leftOver_15 : decode cX9_leftOver 15 = .ok (.iload 4, 2) := by decide +kernel
theorem dX9_leftOver_17 : decode cX9_leftOver 17 = .ok (.invokevirtual 287, 3) := by decide +kernel
theorem dX9_leftOver_20 : decode cX9_leftOver 20 = .ok (.istore 4, 2) := by decide +kernel
theorem dX9_leftOver_22 : decode cX9_leftOver 22 = .ok (.iinc 5 1, 3) := by decide +kernel
theorem dX9_leftOver_25 : decode cX9_leftOver 25 = .ok (.goto (-19), 3) := by decide +kernel
theorem dX9_leftOver_28 : decode cX9_leftOver 28 = .ok (.iload_n 1, 1) := by decide +kernel
theorem dX9_leftOver_29 : decode cX9_leftOver 29 = .ok (.iconst 1, 1) := by decide +kernel
theorem dX9_leftOver_30 : decode cX9_leftOver 30 = .ok (.isub, 1) := by decide +kernel
theorem dX9_leftOver_31 : decode cX9_leftOver 31 = .ok (.istore 5, 2) := by decide +kernel
theorem dX9_leftOver_33 : decode cX9_leftOver 33 = .ok (.iload 5, 2) := by decide +kernel
theorem dX9_leftOver_35 : decode cX9_leftOver 35 = .ok (.iload_n 2, 1) := by decide +kernel
theorem dX9_leftOver_36 : decode cX9_leftOver 36 = .ok (.if_icmp .lt 19, 3) := by decide +kernel
theorem dX9_leftOver_39 : decode cX9_leftOver 39 = .ok (.aload_n 0, 1) := by decide +kernel
theorem dX9_leftOver_40 : decode cX9_leftOver 40 = .ok (.iload 5, 2) := by decide +kernel
theorem dX9_leftOver_42 : decode cX9_leftOver 42 = .ok (.iload 4, 2) := by decide +kernel
theorem dX9_leftOver_44 : decode cX9_leftOver 44 = .ok (.invokevirtual 287, 3) := by decide +kernel
theorem dX9_leftOver_47 : decode cX9_leftOver 47 = .ok (.istore 4, 2) := by decide +kernel
theorem dX9_leftOver_49 : decode cX9_leftOver 49 = .ok (.iinc 5 (-1), 3) := by decide +kernel
theorem dX9_leftOver_52 : decode cX9_leftOver 52 = .ok (.goto (-19), 3) := by decide +kernel
theorem dX9_leftOver_55 : decode cX9_leftOver 55 = .ok (.iload 4, 2) := by decide +kernel
theorem dX9_leftOver_57 : decode cX9_leftOver 57 = .ok (.ireturn, 1) := by decide +kernel
theorem dX9_delivered_0 : decode cX9_delivered 0 = .ok (.aload_n 0, 1) := by decide +kernel
theorem dX9_delivered_1 : decode cX9_delivered 1 = .ok (.iload_n 1, 1) := by decide +kernel
theorem dX9_delivered_2 : decode cX9_delivered 2 = .ok (.iconst 1, 1) := by decide +kernel
theorem dX9_delivered_3 : decode cX9_delivered 3 = .ok (.invokevirtual 259, 3) := by decide +kernel
theorem dX9_delivered_6 : decode cX9_delivered 6 = .ok (.istore_n 2, 1) := by decide +kernel
theorem dX9_delivered_7 : decode cX9_delivered 7 = .ok (.aload_n 0, 1) := by decide +kernel
theorem dX9_delivered_8 : decode cX9_delivered 8 = .ok (.iload_n 1, 1) := by decide +kernel
theorem dX9_delivered_9 : decode cX9_delivered 9 = .ok (.iconst 2, 1) := by decide +kernel
theorem dX9_delivered_10 : decode cX9_delivered 10 = .ok (.invokevirtual 259, 3) := by decide +kernel
theorem dX9_delivered_13 : decode cX9_delivered 13 = .ok (.istore_n 3, 1) := by decide +kernel
theorem dX9_delivered_14 : decode cX9_delivered 14 = .ok (.iload_n 2, 1) := by decide +kernel
theorem dX9_delivered_15 : decode cX9_delivered 15 = .ok (.iconst (-1), 1) := by decide +kernel
theorem dX9_delivered_16 : decode cX9_delivered 16 = .ok (.if_icmp .eq 8, 3) := by decide +kernel
theorem dX9_delivered_19 : decode cX9_delivered 19 = .ok (.iload_n 3, 1) := by decide +kernel
theorem dX9_delivered_20 : decode cX9_delivered 20 = .ok (.iconst (-1), 1) := by decide +kernel
theorem dX9_delivered_21 : decode cX9_delivered 21 = .ok (.if_icmp .ne 12, 3) := by decide +kernel
theorem dX9_delivered_24 : decode cX9_delivered 24 = .ok (.aload_n 0, 1) := by decide +kernel
theorem dX9_delivered_25 : decode cX9_delivered 25 = .ok (.getfield 43, 3) := by decide +kernel
theorem dX9_delivered_28 : decode cX9_delivered 28 = .ok (.iload_n 1, 1) := by decide +kernel
theorem dX9_delivered_29 : decode cX9_delivered 29 = .ok (.iaload, 1) := by decide +kernel
theorem dX9_delivered_30 : decode cX9_delivered 30 = .ok (.goto 25, 3) := by decide +kernel
theorem dX9_delivered_33 : decode cX9_delivered 33 = .ok (.aload_n 0, 1) := by decide +kernel
theorem dX9_delivered_34 : decode cX9_delivered 34 = .ok (.aload_n 0, 1) := by decide +kernel
theorem dX9_delivered_35 : decode cX9_delivered 35 = .ok (.iload_n 2, 1) := by decide +kernel
theorem dX9_delivered_36 : decode cX9_delivered 36 = .ok (.iconst 0, 1) := by decide +kernel
theorem dX9_delivered_37 : decode cX9_delivered 37 = .ok (.invokevirtual 189, 3) := by decide +kernel
theorem dX9_delivered_40 : decode cX9_delivered 40 = .ok (.aload_n 0, 1) := by decide +kernel
theorem dX9_delivered_41 : decode cX9_delivered 41 = .ok (.iload_n 3, 1) := by decide +kernel
theorem dX9_delivered_42 : decode cX9_delivered 42 = .ok (.iconst 0, 1) := by decide +kernel
theorem dX9_delivered_43 : decode cX9_delivered 43 = .ok (.invokevirtual 189, 3) := by decide +kernel
theorem dX9_delivered_46 : decode cX9_delivered 46 = .ok (.aload_n 0, 1) := by decide +kernel
theorem dX9_delivered_47 : decode cX9_delivered 47 = .ok (.getfield 43, 3) := by decide +kernel
theorem dX9_delivered_50 : decode cX9_delivered 50 = .ok (.iload_n 1, 1) := by decide +kernel
theorem dX9_delivered_51 : decode cX9_delivered 51 = .ok (.iaload, 1) := by decide +kernel
theorem dX9_delivered_52 : decode cX9_delivered 52 = .ok (.invokevirtual 290, 3) := by decide +kernel
theorem dX9_delivered_55 : decode cX9_delivered 55 = .ok (.ireturn, 1) := by decide +kernel
theorem dX9_swung_0 : decode cX9_swung 0 = .ok (.lload_n 0, 1) := by decide +kernel
theorem dX9_swung_1 : decode cX9_swung 1 = .ok (.bipush 100, 2) := by decide +kernel
theorem dX9_swung_3 : decode cX9_swung 3 = .ok (.iload_n 2, 1) := by decide +kernel
theorem dX9_swung_4 : decode cX9_swung 4 = .ok (.iadd, 1) := by decide +kernel
theorem dX9_swung_5 : decode cX9_swung 5 = .ok (.i2l, 1) := by decide +kernel
theorem dX9_swung_6 : decode cX9_swung 6 = .ok (.lmul, 1) := by decide +kernel
theorem dX9_swung_7 : decode cX9_swung 7 = .ok (.ldc2_w 293, 3) := by decide +kernel
theorem dX9_swung_10 : decode cX9_swung 10 = .ok (.ldiv, 1) := by decide +kernel
theorem dX9_swung_11 : decode cX9_swung 11 = .ok (.lreturn, 1) := by decide +kernel
theorem dX9_dayOf_0 : decode cX9_dayOf 0 = .ok (.aload_n 0, 1) := by decide +kernel
theorem dX9_dayOf_1 : decode cX9_dayOf 1 = .ok (.iload_n 1, 1) := by decide +kernel
theorem dX9_dayOf_2 : decode cX9_dayOf 2 = .ok (.iconst 0, 1) := by decide +kernel
theorem dX9_dayOf_3 : decode cX9_dayOf 3 = .ok (.invokevirtual 259, 3) := by decide +kernel
theorem dX9_dayOf_6 : decode cX9_dayOf 6 = .ok (.istore_n 2, 1) := by decide +kernel
theorem dX9_dayOf_7 : decode cX9_dayOf 7 = .ok (.aload_n 0, 1) := by decide +kernel
theorem dX9_dayOf_8 : decode cX9_dayOf 8 = .ok (.iload_n 1, 1) := by decide +kernel
theorem dX9_dayOf_9 : decode cX9_dayOf 9 = .ok (.iconst 1, 1) := by decide +kernel
theorem dX9_dayOf_10 : decode cX9_dayOf 10 = .ok (.invokevirtual 259, 3) := by decide +kernel
theorem dX9_dayOf_13 : decode cX9_dayOf 13 = .ok (.istore_n 3, 1) := by decide +kernel
theorem dX9_dayOf_14 : decode cX9_dayOf 14 = .ok (.aload_n 0, 1) := by decide +kernel
theorem dX9_dayOf_15 : decode cX9_dayOf 15 = .ok (.iload_n 1, 1) := by decide +kernel
theorem dX9_dayOf_16 : decode cX9_dayOf 16 = .ok (.iconst 2, 1) := by decide +kernel
theorem dX9_dayOf_17 : decode cX9_dayOf 17 = .ok (.invokevirtual 259, 3) := by decide +kernel
theorem dX9_dayOf_20 : decode cX9_dayOf 20 = .ok (.istore 4, 2) := by decide +kernel
theorem dX9_dayOf_22 : decode cX9_dayOf 22 = .ok (.iload_n 3, 1) := by decide +kernel
theorem dX9_dayOf_23 : decode cX9_dayOf 23 = .ok (.iconst (-1), 1) := by decide +kernel
theorem dX9_dayOf_24 : decode cX9_dayOf 24 = .ok (.if_icmp .ne 7, 3) := by decide +kernel
theorem dX9_dayOf_27 : decode cX9_dayOf 27 = .ok (.lconst 0, 1) := by decide +kernel
theorem dX9_dayOf_28 : decode cX9_dayOf 28 = .ok (.goto 19, 3) := by decide +kernel
theorem dX9_dayOf_31 : decode cX9_dayOf 31 = .ok (.aload_n 0, 1) := by decide +kernel
theorem dX9_dayOf_32 : decode cX9_dayOf 32 = .ok (.getfield 43, 3) := by decide +kernel
theorem dX9_dayOf_35 : decode cX9_dayOf 35 = .ok (.iload_n 1, 1) := by decide +kernel
theorem dX9_dayOf_36 : decode cX9_dayOf 36 = .ok (.iaload, 1) := by decide +kernel
theorem dX9_dayOf_37 : decode cX9_dayOf 37 = .ok (.i2l, 1) := by decide +kernel
theorem dX9_dayOf_38 : decode cX9_dayOf 38 = .ok (.aload_n 0, 1) := by decide +kernel
theorem dX9_dayOf_39 : decode cX9_dayOf 39 = .ok (.iload_n 3, 1) := by decide +kernel
theorem dX9_dayOf_40 : decode cX9_dayOf 40 = .ok (.iconst 3, 1) := by decide +kernel
theorem dX9_dayOf_41 : decode cX9_dayOf 41 = .ok (.invokevirtual 189, 3) := by decide +kernel
theorem dX9_dayOf_44 : decode cX9_dayOf 44 = .ok (.invokestatic 295, 3) := by decide +kernel
theorem dX9_dayOf_47 : decode cX9_dayOf 47 = .ok (.lstore 5, 2) := by decide +kernel
theorem dX9_dayOf_49 : decode cX9_dayOf 49 = .ok (.iload 4, 2) := by decide +kernel
theorem dX9_dayOf_51 : decode cX9_dayOf 51 = .ok (.iconst (-1), 1) := by decide +kernel
theorem dX9_dayOf_52 : decode cX9_dayOf 52 = .ok (.if_icmp .ne 7, 3) := by decide +kernel
theorem dX9_dayOf_55 : decode cX9_dayOf 55 = .ok (.lconst 0, 1) := by decide +kernel
theorem dX9_dayOf_56 : decode cX9_dayOf 56 = .ok (.goto 19, 3) := by decide +kernel
theorem dX9_dayOf_59 : decode cX9_dayOf 59 = .ok (.aload_n 0, 1) := by decide +kernel
theorem dX9_dayOf_60 : decode cX9_dayOf 60 = .ok (.iload_n 1, 1) := by decide +kernel
theorem dX9_dayOf_61 : decode cX9_dayOf 61 = .ok (.invokevirtual 299, 3) := by decide +kernel
theorem dX9_dayOf_64 : decode cX9_dayOf 64 = .ok (.i2l, 1) := by decide +kernel
theorem dX9_dayOf_65 : decode cX9_dayOf 65 = .ok (.aload_n 0, 1) := by decide +kernel
theorem dX9_dayOf_66 : decode cX9_dayOf 66 = .ok (.iload 4, 2) := by decide +kernel
theorem dX9_dayOf_68 : decode cX9_dayOf 68 = .ok (.iconst 3, 1) := by decide +kernel
theorem dX9_dayOf_69 : decode cX9_dayOf 69 = .ok (.invokevirtual 189, 3) := by decide +kernel
theorem dX9_dayOf_72 : decode cX9_dayOf 72 = .ok (.invokestatic 295, 3) := by decide +kernel
theorem dX9_dayOf_75 : decode cX9_dayOf 75 = .ok (.lstore 7, 2) := by decide +kernel
theorem dX9_dayOf_77 : decode cX9_dayOf 77 = .ok (.aload_n 0, 1) := by decide +kernel
theorem dX9_dayOf_78 : decode cX9_dayOf 78 = .ok (.getfield 43, 3) := by decide +kernel
theorem dX9_dayOf_81 : decode cX9_dayOf 81 = .ok (.iload_n 1, 1) := by decide +kernel
theorem dX9_dayOf_82 : decode cX9_dayOf 82 = .ok (.iaload, 1) := by decide +kernel
theorem dX9_dayOf_83 : decode cX9_dayOf 83 = .ok (.aload_n 0, 1) := by decide +kernel
theorem dX9_dayOf_84 : decode cX9_dayOf 84 = .ok (.iload_n 1, 1) := by decide +kernel
theorem dX9_dayOf_85 : decode cX9_dayOf 85 = .ok (.invokevirtual 299, 3) := by decide +kernel
theorem dX9_dayOf_88 : decode cX9_dayOf 88 = .ok (.isub, 1) := by decide +kernel
theorem dX9_dayOf_89 : decode cX9_dayOf 89 = .ok (.i2l, 1) := by decide +kernel
theorem dX9_dayOf_90 : decode cX9_dayOf 90 = .ok (.lstore 9, 2) := by decide +kernel
theorem dX9_dayOf_92 : decode cX9_dayOf 92 = .ok (.iload_n 3, 1) := by decide +kernel
theorem dX9_dayOf_93 : decode cX9_dayOf 93 = .ok (.iconst (-1), 1) := by decide +kernel
theorem dX9_dayOf_94 : decode cX9_dayOf 94 = .ok (.if_icmp .ne 13, 3) := by decide +kernel
theorem dX9_dayOf_97 : decode cX9_dayOf 97 = .ok (.aload_n 0, 1) := by decide +kernel
theorem dX9_dayOf_98 : decode cX9_dayOf 98 = .ok (.getfield 43, 3) := by decide +kernel
theorem dX9_dayOf_101 : decode cX9_dayOf 101 = .ok (.iload_n 1, 1) := by decide +kernel
theorem dX9_dayOf_102 : decode cX9_dayOf 102 = .ok (.iaload, 1) := by decide +kernel
theorem dX9_dayOf_103 : decode cX9_dayOf 103 = .ok (.i2l, 1) := by decide +kernel
theorem dX9_dayOf_104 : decode cX9_dayOf 104 = .ok (.goto 21, 3) := by decide +kernel
theorem dX9_dayOf_107 : decode cX9_dayOf 107 = .ok (.iload 4, 2) := by decide +kernel
theorem dX9_dayOf_109 : decode cX9_dayOf 109 = .ok (.iconst (-1), 1) := by decide +kernel
theorem dX9_dayOf_110 : decode cX9_dayOf 110 = .ok (.if_icmp .ne 14, 3) := by decide +kernel
theorem dX9_dayOf_113 : decode cX9_dayOf 113 = .ok (.aload_n 0, 1) := by decide +kernel
theorem dX9_dayOf_114 : decode cX9_dayOf 114 = .ok (.getfield 43, 3) := by decide +kernel
theorem dX9_dayOf_117 : decode cX9_dayOf 117 = .ok (.iload_n 1, 1) := by decide +kernel
theorem dX9_dayOf_118 : decode cX9_dayOf 118 = .ok (.iaload, 1) := by decide +kernel
theorem dX9_dayOf_119 : decode cX9_dayOf 119 = .ok (.ineg, 1) := by decide +kernel
theorem dX9_dayOf_120 : decode cX9_dayOf 120 = .ok (.i2l, 1) := by decide +kernel
theorem dX9_dayOf_121 : decode cX9_dayOf 121 = .ok (.goto 4, 3) := by decide +kernel
theorem dX9_dayOf_124 : decode cX9_dayOf 124 = .ok (.lconst 0, 1) := by decide +kernel
theorem dX9_dayOf_125 : decode cX9_dayOf 125 = .ok (.lstore 11, 2) := by decide +kernel
theorem dX9_dayOf_127 : decode cX9_dayOf 127 = .ok (.aload_n 0, 1) := by decide +kernel
theorem dX9_dayOf_128 : decode cX9_dayOf 128 = .ok (.getfield 9, 3) := by decide +kernel
theorem dX9_dayOf_131 : decode cX9_dayOf 131 = .ok (.bipush 66, 2) := by decide +kernel
theorem dX9_dayOf_133 : decode cX9_dayOf 133 = .ok (.bipush 7, 2) := by decide +kernel
theorem dX9_dayOf_135 : decode cX9_dayOf 135 = .ok (.iload_n 2, 1) := by decide +kernel
theorem dX9_dayOf_136 : decode cX9_dayOf 136 = .ok (.imul, 1) := by decide +kernel
theorem dX9_dayOf_137 : decode cX9_dayOf 137 = .ok (.iadd, 1) := by decide +kernel
theorem dX9_dayOf_138 : decode cX9_dayOf 138 = .ok (.iconst 4, 1) := by decide +kernel
theorem dX9_dayOf_139 : decode cX9_dayOf 139 = .ok (.iadd, 1) := by decide +kernel
theorem dX9_dayOf_140 : decode cX9_dayOf 140 = .ok (.dup2, 1) := by decide +kernel
theorem dX9_dayOf_141 : decode cX9_dayOf 141 = .ok (.laload, 1) := by decide +kernel
theorem dX9_dayOf_142 : decode cX9_dayOf 142 = .ok (.lload 5, 2) := by decide +kernel
theorem dX9_dayOf_144 : decode cX9_dayOf 144 = .ok (.lload 9, 2) := by decide +kernel
theorem dX9_dayOf_146 : decode cX9_dayOf 146 = .ok (.lsub, 1) := by decide +kernel
theorem dX9_dayOf_147 : decode cX9_dayOf 147 = .ok (.lload 7, 2) := by decide +kernel
theorem dX9_dayOf_149 : decode cX9_dayOf 149 = .ok (.lsub, 1) := by decide +kernel
theorem dX9_dayOf_150 : decode cX9_dayOf 150 = .ok (.lload 11, 2) := by decide +kernel
theorem dX9_dayOf_152 : decode cX9_dayOf 152 = .ok (.ladd, 1) := by decide +kernel
theorem dX9_dayOf_153 : decode cX9_dayOf 153 = .ok (.ladd, 1) := by decide +kernel
theorem dX9_dayOf_154 : decode cX9_dayOf 154 = .ok (.lastore, 1) := by decide +kernel
theorem dX9_dayOf_155 : decode cX9_dayOf 155 = .ok (.aload_n 0, 1) := by decide +kernel
theorem dX9_dayOf_156 : decode cX9_dayOf 156 = .ok (.getfield 9, 3) := by decide +kernel
theorem dX9_dayOf_159 : decode cX9_dayOf 159 = .ok (.bipush 66, 2) := by decide +kernel
theorem dX9_dayOf_161 : decode cX9_dayOf 161 = .ok (.bipush 7, 2) := by decide +kernel
theorem dX9_dayOf_163 : decode cX9_dayOf 163 = .ok (.iload_n 2, 1) := by decide +kernel
theorem dX9_dayOf_164 : decode cX9_dayOf 164 = .ok (.imul, 1) := by decide +kernel
theorem dX9_dayOf_165 : decode cX9_dayOf 165 = .ok (.iadd, 1) := by decide +kernel
theorem dX9_dayOf_166 : decode cX9_dayOf 166 = .ok (.iconst 5, 1) := by decide +kernel
theorem dX9_dayOf_167 : decode cX9_dayOf 167 = .ok (.iadd, 1) := by decide +kernel
theorem dX9_dayOf_168 : decode cX9_dayOf 168 = .ok (.dup2, 1) := by decide +kernel
theorem dX9_dayOf_169 : decode cX9_dayOf 169 = .ok (.laload, 1) := by decide +kernel
theorem dX9_dayOf_170 : decode cX9_dayOf 170 = .ok (.lload 11, 2) := by decide +kernel
theorem dX9_dayOf_172 : decode cX9_dayOf 172 = .ok (.lsub, 1) := by decide +kernel
theorem dX9_dayOf_173 : decode cX9_dayOf 173 = .ok (.lastore, 1) := by decide +kernel
theorem dX9_dayOf_174 : decode cX9_dayOf 174 = .ok (.aload_n 0, 1) := by decide +kernel
theorem dX9_dayOf_175 : decode cX9_dayOf 175 = .ok (.getfield 9, 3) := by decide +kernel
theorem dX9_dayOf_178 : decode cX9_dayOf 178 = .ok (.bipush 7, 2) := by decide +kernel
theorem dX9_dayOf_180 : decode cX9_dayOf 180 = .ok (.dup2, 1) := by decide +kernel
theorem dX9_dayOf_181 : decode cX9_dayOf 181 = .ok (.laload, 1) := by decide +kernel
theorem dX9_dayOf_182 : decode cX9_dayOf 182 = .ok (.lload 5, 2) := by decide +kernel
theorem dX9_dayOf_184 : decode cX9_dayOf 184 = .ok (.ladd, 1) := by decide +kernel
theorem dX9_dayOf_185 : decode cX9_dayOf 185 = .ok (.lastore, 1) := by decide +kernel
theorem dX9_dayOf_186 : decode cX9_dayOf 186 = .ok (.aload_n 0, 1) := by decide +kernel
theorem dX9_dayOf_187 : decode cX9_dayOf 187 = .ok (.getfield 9, 3) := by decide +kernel
theorem dX9_dayOf_190 : decode cX9_dayOf 190 = .ok (.bipush 8, 2) := by decide +kernel
theorem dX9_dayOf_192 : decode cX9_dayOf 192 = .ok (.dup2, 1) := by decide +kernel
theorem dX9_dayOf_193 : decode cX9_dayOf 193 = .ok (.laload, 1) := by decide +kernel
theorem dX9_dayOf_194 : decode cX9_dayOf 194 = .ok (.lload 7, 2) := by decide +kernel
theorem dX9_dayOf_196 : decode cX9_dayOf 196 = .ok (.ladd, 1) := by decide +kernel
theorem dX9_dayOf_197 : decode cX9_dayOf 197 = .ok (.lastore, 1) := by decide +kernel
theorem dX9_dayOf_198 : decode cX9_dayOf 198 = .ok (.aload_n 0, 1) := by decide +kernel
theorem dX9_dayOf_199 : decode cX9_dayOf 199 = .ok (.getfield 9, 3) := by decide +kernel
theorem dX9_dayOf_202 : decode cX9_dayOf 202 = .ok (.bipush 9, 2) := by decide +kernel
theorem dX9_dayOf_204 : decode cX9_dayOf 204 = .ok (.dup2, 1) := by decide +kernel
theorem dX9_dayOf_205 : decode cX9_dayOf 205 = .ok (.laload, 1) := by decide +kernel
theorem dX9_dayOf_206 : decode cX9_dayOf 206 = .ok (.lload 9, 2) := by decide +kernel
theorem dX9_dayOf_208 : decode cX9_dayOf 208 = .ok (.ladd, 1) := by decide +kernel
theorem dX9_dayOf_209 : decode cX9_dayOf 209 = .ok (.lastore, 1) := by decide +kernel
theorem dX9_dayOf_210 : decode cX9_dayOf 210 = .ok (.return_, 1) := by decide +kernel
theorem dX9_dayGoes_0 : decode cX9_dayGoes 0 = .ok (.aload_n 0, 1) := by decide +kernel
theorem dX9_dayGoes_1 : decode cX9_dayGoes 1 = .ok (.invokevirtual 302, 3) := by decide +kernel
theorem dX9_dayGoes_4 : decode cX9_dayGoes 4 = .ok (.aload_n 0, 1) := by decide +kernel
theorem dX9_dayGoes_5 : decode cX9_dayGoes 5 = .ok (.invokevirtual 305, 3) := by decide +kernel
theorem dX9_dayGoes_8 : decode cX9_dayGoes 8 = .ok (.istore_n 1, 1) := by decide +kernel
theorem dX9_dayGoes_9 : decode cX9_dayGoes 9 = .ok (.iconst 0, 1) := by decide +kernel
theorem dX9_dayGoes_10 : decode cX9_dayGoes 10 = .ok (.istore_n 2, 1) := by decide +kernel
theorem dX9_dayGoes_11 : decode cX9_dayGoes 11 = .ok (.iload_n 2, 1) := by decide +kernel
theorem dX9_dayGoes_12 : decode cX9_dayGoes 12 = .ok (.aload_n 0, 1) := by decide +kernel
theorem dX9_dayGoes_13 : decode cX9_dayGoes 13 = .ok (.iconst 3, 1) := by decide +kernel
theorem dX9_dayGoes_14 : decode cX9_dayGoes 14 = .ok (.invokevirtual 179, 3) := by decide +kernel
theorem dX9_dayGoes_17 : decode cX9_dayGoes 17 = .ok (.if_icmp .ge 14, 3) := by decide +kernel
theorem dX9_dayGoes_20 : decode cX9_dayGoes 20 = .ok (.aload_n 0, 1) := by decide +kernel
theorem dX9_dayGoes_21 : decode cX9_dayGoes 21 = .ok (.iload_n 2, 1) := by decide +kernel
theorem dX9_dayGoes_22 : decode cX9_dayGoes 22 = .ok (.invokevirtual 308, 3) := by decide +kernel
theorem dX9_dayGoes_25 : decode cX9_dayGoes 25 = .ok (.iinc 2 1, 3) := by decide +kernel
theorem dX9_dayGoes_28 : decode cX9_dayGoes 28 = .ok (.goto (-17), 3) := by decide +kernel
theorem dX9_dayGoes_31 : decode cX9_dayGoes 31 = .ok (.aload_n 0, 1) := by decide +kernel
theorem dX9_dayGoes_32 : decode cX9_dayGoes 32 = .ok (.getfield 9, 3) := by decide +kernel
theorem dX9_dayGoes_35 : decode cX9_dayGoes 35 = .ok (.iconst 4, 1) := by decide +kernel
theorem dX9_dayGoes_36 : decode cX9_dayGoes 36 = .ok (.dup2, 1) := by decide +kernel
theorem dX9_dayGoes_37 : decode cX9_dayGoes 37 = .ok (.laload, 1) := by decide +kernel
theorem dX9_dayGoes_38 : decode cX9_dayGoes 38 = .ok (.lconst 1, 1) := by decide +kernel
theorem dX9_dayGoes_39 : decode cX9_dayGoes 39 = .ok (.ladd, 1) := by decide +kernel
theorem dX9_dayGoes_40 : decode cX9_dayGoes 40 = .ok (.lastore, 1) := by decide +kernel
theorem dX9_dayGoes_41 : decode cX9_dayGoes 41 = .ok (.iload_n 1, 1) := by decide +kernel
theorem dX9_dayGoes_42 : decode cX9_dayGoes 42 = .ok (.ireturn, 1) := by decide +kernel
theorem dX9_logs_0 : decode cX9_logs 0 = .ok (.aload_n 0, 1) := by decide +kernel
theorem dX9_logs_1 : decode cX9_logs 1 = .ok (.getfield 9, 3) := by decide +kernel
theorem dX9_logs_4 : decode cX9_logs 4 = .ok (.bipush 11, 2) := by decide +kernel
theorem dX9_logs_6 : decode cX9_logs 6 = .ok (.laload, 1) := by decide +kernel
theorem dX9_logs_7 : decode cX9_logs 7 = .ok (.ldc2_w 311, 3) := by decide +kernel
theorem dX9_logs_10 : decode cX9_logs 10 = .ok (.lcmp, 1) := by decide +kernel
theorem dX9_logs_11 : decode cX9_logs 11 = .ok (.ifCond .ge 14, 3) := by decide +kernel
theorem dX9_logs_14 : decode cX9_logs 14 = .ok (.aload_n 0, 1) := by decide +kernel
theorem dX9_logs_15 : decode cX9_logs 15 = .ok (.getfield 9, 3) := by decide +kernel
theorem dX9_logs_18 : decode cX9_logs 18 = .ok (.bipush 11, 2) := by decide +kernel
theorem dX9_logs_20 : decode cX9_logs 20 = .ok (.dup2, 1) := by decide +kernel
theorem dX9_logs_21 : decode cX9_logs 21 = .ok (.laload, 1) := by decide +kernel
theorem dX9_logs_22 : decode cX9_logs 22 = .ok (.lconst 1, 1) := by decide +kernel
theorem dX9_logs_23 : decode cX9_logs 23 = .ok (.ladd, 1) := by decide +kernel
theorem dX9_logs_24 : decode cX9_logs 24 = .ok (.lastore, 1) := by decide +kernel
theorem dX9_logs_25 : decode cX9_logs 25 = .ok (.sipush 219, 3) := by decide +kernel
theorem dX9_logs_28 : decode cX9_logs 28 = .ok (.istore_n 1, 1) := by decide +kernel
theorem dX9_logs_29 : decode cX9_logs 29 = .ok (.iload_n 1, 1) := by decide +kernel
theorem dX9_logs_30 : decode cX9_logs 30 = .ok (.sipush 178, 3) := by decide +kernel
theorem dX9_logs_33 : decode cX9_logs 33 = .ok (.if_icmp .lt 24, 3) := by decide +kernel
theorem dX9_logs_36 : decode cX9_logs 36 = .ok (.aload_n 0, 1) := by decide +kernel
theorem dX9_logs_37 : decode cX9_logs 37 = .ok (.getfield 9, 3) := by decide +kernel
theorem dX9_logs_40 : decode cX9_logs 40 = .ok (.iload_n 1, 1) := by decide +kernel
theorem dX9_logs_41 : decode cX9_logs 41 = .ok (.aload_n 0, 1) := by decide +kernel
theorem dX9_logs_42 : decode cX9_logs 42 = .ok (.getfield 9, 3) := by decide +kernel
theorem dX9_logs_45 : decode cX9_logs 45 = .ok (.iload_n 1, 1) := by decide +kernel
theorem dX9_logs_46 : decode cX9_logs 46 = .ok (.bipush 6, 2) := by decide +kernel
theorem dX9_logs_48 : decode cX9_logs 48 = .ok (.isub, 1) := by decide +kernel
theorem dX9_logs_49 : decode cX9_logs 49 = .ok (.laload, 1) := by decide +kernel
theorem dX9_logs_50 : decode cX9_logs 50 = .ok (.lastore, 1) := by decide +kernel
theorem dX9_logs_51 : decode cX9_logs 51 = .ok (.iinc 1 (-1), 3) := by decide +kernel
theorem dX9_logs_54 : decode cX9_logs 54 = .ok (.goto (-25), 3) := by decide +kernel
theorem dX9_logs_57 : decode cX9_logs 57 = .ok (.iconst 0, 1) := by decide +kernel
theorem dX9_logs_58 : decode cX9_logs 58 = .ok (.istore_n 1, 1) := by decide +kernel
theorem dX9_logs_59 : decode cX9_logs 59 = .ok (.iload_n 1, 1) := by decide +kernel
theorem dX9_logs_60 : decode cX9_logs 60 = .ok (.bipush 6, 2) := by decide +kernel
theorem dX9_logs_62 : decode cX9_logs 62 = .ok (.if_icmp .ge 25, 3) := by decide +kernel
theorem dX9_logs_65 : decode cX9_logs 65 = .ok (.aload_n 0, 1) := by decide +kernel
theorem dX9_logs_66 : decode cX9_logs 66 = .ok (.getfield 9, 3) := by decide +kernel
theorem dX9_logs_69 : decode cX9_logs 69 = .ok (.sipush 172, 3) := by decide +kernel
theorem dX9_logs_72 : decode cX9_logs 72 = .ok (.iload_n 1, 1) := by decide +kernel
theorem dX9_logs_73 : decode cX9_logs 73 = .ok (.iadd, 1) := by decide +kernel
theorem dX9_logs_74 : decode cX9_logs 74 = .ok (.aload_n 0, 1) := by decide +kernel
theorem dX9_logs_75 : decode cX9_logs 75 = .ok (.iload_n 1, 1) := by decide +kernel
theorem dX9_logs_76 : decode cX9_logs 76 = .ok (.iconst 4, 1) := by decide +kernel
theorem dX9_logs_77 : decode cX9_logs 77 = .ok (.invokevirtual 237, 3) := by decide +kernel
theorem dX9_logs_80 : decode cX9_logs 80 = .ok (.lastore, 1) := by decide +kernel
theorem dX9_logs_81 : decode cX9_logs 81 = .ok (.iinc 1 1, 3) := by decide +kernel
theorem dX9_logs_84 : decode cX9_logs 84 = .ok (.goto (-25), 3) := by decide +kernel
theorem dX9_logs_87 : decode cX9_logs 87 = .ok (.return_, 1) := by decide +kernel
theorem dX9_areBalances_0 : decode cX9_areBalances 0 = .ok (.iconst 1, 1) := by decide +kernel
theorem dX9_areBalances_1 : decode cX9_areBalances 1 = .ok (.istore_n 1, 1) := by decide +kernel
theorem dX9_areBalances_2 : decode cX9_areBalances 2 = .ok (.iconst 0, 1) := by decide +kernel
theorem dX9_areBalances_3 : decode cX9_areBalances 3 = .ok (.istore_n 2, 1) := by decide +kernel
theorem dX9_areBalances_4 : decode cX9_areBalances 4 = .ok (.iload_n 2, 1) := by decide +kernel
theorem dX9_areBalances_5 : decode cX9_areBalances 5 = .ok (.aload_n 0, 1) := by decide +kernel
theorem dX9_areBalances_6 : decode cX9_areBalances 6 = .ok (.iconst 2, 1) := by decide +kernel
theorem dX9_areBalances_7 : decode cX9_areBalances 7 = .ok (.invokevirtual 179, 3) := by decide +kernel
theorem dX9_areBalances_10 : decode cX9_areBalances 10 = .ok (.if_icmp .ge 35, 3) := by decide +kernel
theorem dX9_areBalances_13 : decode cX9_areBalances 13 = .ok (.iload_n 1, 1) := by decide +kernel
theorem dX9_areBalances_14 : decode cX9_areBalances 14 = .ok (.ifCond .eq 23, 3) := by decide +kernel
theorem dX9_areBalances_17 : decode cX9_areBalances 17 = .ok (.aload_n 0, 1) := by decide +kernel
theorem dX9_areBalances_18 : decode cX9_areBalances 18 = .ok (.iload_n 2, 1) := by decide +kernel
theorem dX9_areBalances_19 : decode cX9_areBalances 19 = .ok (.iconst 4, 1) := by decide +kernel
theorem dX9_areBalances_20 : decode cX9_areBalances 20 = .ok (.invokevirtual 237, 3) := by decide +kernel
theorem dX9_areBalances_23 : decode cX9_areBalances 23 = .ok (.invokestatic 241, 3) := by decide +kernel
theorem dX9_areBalances_26 : decode cX9_areBalances 26 = .ok (.ldc2_w 313, 3) := by decide +kernel
theorem dX9_areBalances_29 : decode cX9_areBalances 29 = .ok (.lcmp, 1) := by decide +kernel
theorem dX9_areBalances_30 : decode cX9_areBalances 30 = .ok (.ifCond .gt 7, 3) := by decide +kernel
theorem dX9_areBalances_33 : decode cX9_areBalances 33 = .ok (.iconst 1, 1) := by decide +kernel
theorem dX9_areBalances_34 : decode cX9_areBalances 34 = .ok (.goto 4, 3) := by decide +kernel
theorem dX9_areBalances_37 : decode cX9_areBalances 37 = .ok (.iconst 0, 1) := by decide +kernel
theorem dX9_areBalances_38 : decode cX9_areBalances 38 = .ok (.istore_n 1, 1) := by decide +kernel
theorem dX9_areBalances_39 : decode cX9_areBalances 39 = .ok (.iinc 2 1, 3) := by decide +kernel
theorem dX9_areBalances_42 : decode cX9_areBalances 42 = .ok (.goto (-38), 3) := by decide +kernel
theorem dX9_areBalances_45 : decode cX9_areBalances 45 = .ok (.iload_n 1, 1) := by decide +kernel
theorem dX9_areBalances_46 : decode cX9_areBalances 46 = .ok (.ireturn, 1) := by decide +kernel
theorem dX9_day_0 : decode cX9_day 0 = .ok (.aload_n 0, 1) := by decide +kernel
theorem dX9_day_1 : decode cX9_day 1 = .ok (.invokevirtual 315, 3) := by decide +kernel
theorem dX9_day_4 : decode cX9_day 4 = .ok (.ifCond .ne 5, 3) := by decide +kernel
theorem dX9_day_7 : decode cX9_day 7 = .ok (.iconst (-1), 1) := by decide +kernel
theorem dX9_day_8 : decode cX9_day 8 = .ok (.ireturn, 1) := by decide +kernel
theorem dX9_day_9 : decode cX9_day 9 = .ok (.aload_n 0, 1) := by decide +kernel
theorem dX9_day_10 : decode cX9_day 10 = .ok (.getfield 9, 3) := by decide +kernel
theorem dX9_day_13 : decode cX9_day 13 = .ok (.iconst 4, 1) := by decide +kernel
theorem dX9_day_14 : decode cX9_day 14 = .ok (.laload, 1) := by decide +kernel
theorem dX9_day_15 : decode cX9_day 15 = .ok (.ldc2_w 318, 3) := by decide +kernel
theorem dX9_day_18 : decode cX9_day 18 = .ok (.lcmp, 1) := by decide +kernel
theorem dX9_day_19 : decode cX9_day 19 = .ok (.ifCond .ne 6, 3) := by decide +kernel
theorem dX9_day_22 : decode cX9_day 22 = .ok (.bipush (-2), 2) := by decide +kernel
theorem dX9_day_24 : decode cX9_day 24 = .ok (.ireturn, 1) := by decide +kernel
theorem dX9_day_25 : decode cX9_day 25 = .ok (.aload_n 0, 1) := by decide +kernel
theorem dX9_day_26 : decode cX9_day 26 = .ok (.getfield 9, 3) := by decide +kernel
theorem dX9_day_29 : decode cX9_day 29 = .ok (.iconst 0, 1) := by decide +kernel
theorem dX9_day_30 : decode cX9_day 30 = .ok (.aload_n 0, 1) := by decide +kernel
theorem dX9_day_31 : decode cX9_day 31 = .ok (.getfield 16, 3) := by decide +kernel
theorem dX9_day_34 : decode cX9_day 34 = .ok (.iconst 0, 1) := by decide +kernel
theorem dX9_day_35 : decode cX9_day 35 = .ok (.invokestatic 172, 3) := by decide +kernel
theorem dX9_day_38 : decode cX9_day 38 = .ok (.aload_n 0, 1) := by decide +kernel
theorem dX9_day_39 : decode cX9_day 39 = .ok (.invokevirtual 320, 3) := by decide +kernel
theorem dX9_day_42 : decode cX9_day 42 = .ok (.istore_n 1, 1) := by decide +kernel
theorem dX9_day_43 : decode cX9_day 43 = .ok (.aload_n 0, 1) := by decide +kernel
theorem dX9_day_44 : decode cX9_day 44 = .ok (.invokevirtual 323, 3) := by decide +kernel
theorem dX9_day_47 : decode cX9_day 47 = .ok (.istore_n 2, 1) := by decide +kernel
theorem dX9_day_48 : decode cX9_day 48 = .ok (.aload_n 0, 1) := by decide +kernel
theorem dX9_day_49 : decode cX9_day 49 = .ok (.getfield 16, 3) := by decide +kernel
theorem dX9_day_52 : decode cX9_day 52 = .ok (.iconst 0, 1) := by decide +kernel
theorem dX9_day_53 : decode cX9_day 53 = .ok (.aload_n 0, 1) := by decide +kernel
theorem dX9_day_54 : decode cX9_day 54 = .ok (.getfield 9, 3) := by decide +kernel
theorem dX9_day_57 : decode cX9_day 57 = .ok (.iconst 0, 1) := by decide +kernel
theorem dX9_day_58 : decode cX9_day 58 = .ok (.invokestatic 172, 3) := by decide +kernel
theorem dX9_day_61 : decode cX9_day 61 = .ok (.iload_n 2, 1) := by decide +kernel
theorem dX9_day_62 : decode cX9_day 62 = .ok (.ifCond .ne 6, 3) := by decide +kernel
theorem dX9_day_65 : decode cX9_day 65 = .ok (.bipush (-3), 2) := by decide +kernel
theorem dX9_day_67 : decode cX9_day 67 = .ok (.ireturn, 1) := by decide +kernel
theorem dX9_day_68 : decode cX9_day 68 = .ok (.aload_n 0, 1) := by decide +kernel
theorem dX9_day_69 : decode cX9_day 69 = .ok (.invokevirtual 206, 3) := by decide +kernel
theorem dX9_day_72 : decode cX9_day 72 = .ok (.aload_n 0, 1) := by decide +kernel
theorem dX9_day_73 : decode cX9_day 73 = .ok (.invokevirtual 320, 3) := by decide +kernel
theorem dX9_day_76 : decode cX9_day 76 = .ok (.istore_n 1, 1) := by decide +kernel
theorem dX9_day_77 : decode cX9_day 77 = .ok (.aload_n 0, 1) := by decide +kernel
theorem dX9_day_78 : decode cX9_day 78 = .ok (.invokevirtual 326, 3) := by decide +kernel
theorem dX9_day_81 : decode cX9_day 81 = .ok (.iload_n 1, 1) := by decide +kernel
theorem dX9_day_82 : decode cX9_day 82 = .ok (.ireturn, 1) := by decide +kernel
theorem dX9_overOf_0 : decode cX9_overOf 0 = .ok (.aload_n 0, 1) := by decide +kernel
theorem dX9_overOf_1 : decode cX9_overOf 1 = .ok (.iload_n 1, 1) := by decide +kernel
theorem dX9_overOf_2 : decode cX9_overOf 2 = .ok (.iconst 4, 1) := by decide +kernel
theorem dX9_overOf_3 : decode cX9_overOf 3 = .ok (.invokevirtual 237, 3) := by decide +kernel
theorem dX9_overOf_6 : decode cX9_overOf 6 = .ok (.lstore_n 2, 1) := by decide +kernel
theorem dX9_overOf_7 : decode cX9_overOf 7 = .ok (.aload_n 0, 1) := by decide +kernel
theorem dX9_overOf_8 : decode cX9_overOf 8 = .ok (.iload_n 1, 1) := by decide +kernel
theorem dX9_overOf_9 : decode cX9_overOf 9 = .ok (.iconst 2, 1) := by decide +kernel
theorem dX9_overOf_10 : decode cX9_overOf 10 = .ok (.invokevirtual 237, 3) := by decide +kernel
theorem dX9_overOf_13 : decode cX9_overOf 13 = .ok (.lstore 4, 2) := by decide +kernel
theorem dX9_overOf_15 : decode cX9_overOf 15 = .ok (.lload_n 2, 1) := by decide +kernel
theorem dX9_overOf_16 : decode cX9_overOf 16 = .ok (.lload 4, 2) := by decide +kernel
theorem dX9_overOf_18 : decode cX9_overOf 18 = .ok (.lcmp, 1) := by decide +kernel
theorem dX9_overOf_19 : decode cX9_overOf 19 = .ok (.ifCond .le 10, 3) := by decide +kernel
theorem dX9_overOf_22 : decode cX9_overOf 22 = .ok (.lload_n 2, 1) := by decide +kernel
theorem dX9_overOf_23 : decode cX9_overOf 23 = .ok (.lload 4, 2) := by decide +kernel
theorem dX9_overOf_25 : decode cX9_overOf 25 = .ok (.lsub, 1) := by decide +kernel
theorem dX9_overOf_26 : decode cX9_overOf 26 = .ok (.goto 19, 3) := by decide +kernel
theorem dX9_overOf_29 : decode cX9_overOf 29 = .ok (.lload_n 2, 1) := by decide +kernel
theorem dX9_overOf_30 : decode cX9_overOf 30 = .ok (.lload 4, 2) := by decide +kernel
theorem dX9_overOf_32 : decode cX9_overOf 32 = .ok (.lneg, 1) := by decide +kernel
theorem dX9_overOf_33 : decode cX9_overOf 33 = .ok (.lcmp, 1) := by decide +kernel
theorem dX9_overOf_34 : decode cX9_overOf 34 = .ok (.ifCond .ge 10, 3) := by decide +kernel
theorem dX9_overOf_37 : decode cX9_overOf 37 = .ok (.lload_n 2, 1) := by decide +kernel
theorem dX9_overOf_38 : decode cX9_overOf 38 = .ok (.lload 4, 2) := by decide +kernel
theorem dX9_overOf_40 : decode cX9_overOf 40 = .ok (.ladd, 1) := by decide +kernel
theorem dX9_overOf_41 : decode cX9_overOf 41 = .ok (.goto 4, 3) := by decide +kernel
theorem dX9_overOf_44 : decode cX9_overOf 44 = .ok (.lconst 0, 1) := by decide +kernel
theorem dX9_overOf_45 : decode cX9_overOf 45 = .ok (.lreturn, 1) := by decide +kernel
theorem dX9_owedBy_0 : decode cX9_owedBy 0 = .ok (.aload_n 0, 1) := by decide +kernel
theorem dX9_owedBy_1 : decode cX9_owedBy 1 = .ok (.iload_n 1, 1) := by decide +kernel
theorem dX9_owedBy_2 : decode cX9_owedBy 2 = .ok (.invokevirtual 329, 3) := by decide +kernel
theorem dX9_owedBy_5 : decode cX9_owedBy 5 = .ok (.lstore_n 2, 1) := by decide +kernel
theorem dX9_owedBy_6 : decode cX9_owedBy 6 = .ok (.lload_n 2, 1) := by decide +kernel
theorem dX9_owedBy_7 : decode cX9_owedBy 7 = .ok (.lconst 0, 1) := by decide +kernel
theorem dX9_owedBy_8 : decode cX9_owedBy 8 = .ok (.lcmp, 1) := by decide +kernel
theorem dX9_owedBy_9 : decode cX9_owedBy 9 = .ok (.ifCond .ge 29, 3) := by decide +kernel
theorem dX9_owedBy_12 : decode cX9_owedBy 12 = .ok (.lload_n 2, 1) := by decide +kernel
theorem dX9_owedBy_13 : decode cX9_owedBy 13 = .ok (.lneg, 1) := by decide +kernel
theorem dX9_owedBy_14 : decode cX9_owedBy 14 = .ok (.aload_n 0, 1) := by decide +kernel
theorem dX9_owedBy_15 : decode cX9_owedBy 15 = .ok (.getfield 9, 3) := by decide +kernel
theorem dX9_owedBy_18 : decode cX9_owedBy 18 = .ok (.iconst 5, 1) := by decide +kernel
theorem dX9_owedBy_19 : decode cX9_owedBy 19 = .ok (.laload, 1) := by decide +kernel
theorem dX9_owedBy_20 : decode cX9_owedBy 20 = .ok (.lmul, 1) := by decide +kernel
theorem dX9_owedBy_21 : decode cX9_owedBy 21 = .ok (.ldc2_w 293, 3) := by decide +kernel
theorem dX9_owedBy_24 : decode cX9_owedBy 24 = .ok (.aload_n 0, 1) := by decide +kernel
theorem dX9_owedBy_25 : decode cX9_owedBy 25 = .ok (.getfield 9, 3) := by decide +kernel
theorem dX9_owedBy_28 : decode cX9_owedBy 28 = .ok (.bipush 6, 2) := by decide +kernel
theorem dX9_owedBy_30 : decode cX9_owedBy 30 = .ok (.laload, 1) := by decide +kernel
theorem dX9_owedBy_31 : decode cX9_owedBy 31 = .ok (.ladd, 1) := by decide +kernel
theorem dX9_owedBy_32 : decode cX9_owedBy 32 = .ok (.lmul, 1) := by decide +kernel
theorem dX9_owedBy_33 : decode cX9_owedBy 33 = .ok (.ldc2_w 293, 3) := by decide +kernel
theorem dX9_owedBy_36 : decode cX9_owedBy 36 = .ok (.ldiv, 1) := by decide +kernel
theorem dX9_owedBy_37 : decode cX9_owedBy 37 = .ok (.lreturn, 1) := by decide +kernel
theorem dX9_owedBy_38 : decode cX9_owedBy 38 = .ok (.lload_n 2, 1) := by decide +kernel
theorem dX9_owedBy_39 : decode cX9_owedBy 39 = .ok (.aload_n 0, 1) := by decide +kernel
theorem dX9_owedBy_40 : decode cX9_owedBy 40 = .ok (.getfield 9, 3) := by decide +kernel
theorem dX9_owedBy_43 : decode cX9_owedBy 43 = .ok (.iconst 5, 1) := by decide +kernel
theorem dX9_owedBy_44 : decode cX9_owedBy 44 = .ok (.laload, 1) := by decide +kernel
theorem dX9_owedBy_45 : decode cX9_owedBy 45 = .ok (.lmul, 1) := by decide +kernel
theorem dX9_owedBy_46 : decode cX9_owedBy 46 = .ok (.ldc2_w 293, 3) := by decide +kernel
theorem dX9_owedBy_49 : decode cX9_owedBy 49 = .ok (.aload_n 0, 1) := by decide +kernel
theorem dX9_owedBy_50 : decode cX9_owedBy 50 = .ok (.getfield 9, 3) := by decide +kernel
theorem dX9_owedBy_53 : decode cX9_owedBy 53 = .ok (.bipush 6, 2) := by decide +kernel
theorem dX9_owedBy_55 : decode cX9_owedBy 55 = .ok (.laload, 1) := by decide +kernel
theorem dX9_owedBy_56 : decode cX9_owedBy 56 = .ok (.lsub, 1) := by decide +kernel
theorem dX9_owedBy_57 : decode cX9_owedBy 57 = .ok (.lmul, 1) := by decide +kernel
theorem dX9_owedBy_58 : decode cX9_owedBy 58 = .ok (.ldc2_w 293, 3) := by decide +kernel
theorem dX9_owedBy_61 : decode cX9_owedBy 61 = .ok (.ldiv, 1) := by decide +kernel
theorem dX9_owedBy_62 : decode cX9_owedBy 62 = .ok (.lneg, 1) := by decide +kernel
theorem dX9_owedBy_63 : decode cX9_owedBy 63 = .ok (.lreturn, 1) := by decide +kernel
theorem dX9_close_0 : decode cX9_close 0 = .ok (.aload_n 0, 1) := by decide +kernel
theorem dX9_close_1 : decode cX9_close 1 = .ok (.invokevirtual 315, 3) := by decide +kernel
theorem dX9_close_4 : decode cX9_close 4 = .ok (.ifCond .ne 5, 3) := by decide +kernel
theorem dX9_close_7 : decode cX9_close 7 = .ok (.iconst (-1), 1) := by decide +kernel
theorem dX9_close_8 : decode cX9_close 8 = .ok (.ireturn, 1) := by decide +kernel
theorem dX9_close_9 : decode cX9_close 9 = .ok (.iconst 0, 1) := by decide +kernel
theorem dX9_close_10 : decode cX9_close 10 = .ok (.istore_n 1, 1) := by decide +kernel
theorem dX9_close_11 : decode cX9_close 11 = .ok (.iconst 0, 1) := by decide +kernel
theorem dX9_close_12 : decode cX9_close 12 = .ok (.istore_n 2, 1) := by decide +kernel
theorem dX9_close_13 : decode cX9_close 13 = .ok (.iload_n 2, 1) := by decide +kernel
theorem dX9_close_14 : decode cX9_close 14 = .ok (.aload_n 0, 1) := by decide +kernel
theorem dX9_close_15 : decode cX9_close 15 = .ok (.iconst 2, 1) := by decide +kernel
theorem dX9_close_16 : decode cX9_close 16 = .ok (.invokevirtual 179, 3) := by decide +kernel
theorem dX9_close_19 : decode cX9_close 19 = .ok (.if_icmp .ge 30, 3) := by decide +kernel
theorem dX9_close_22 : decode cX9_close 22 = .ok (.iload_n 1, 1) := by decide +kernel
theorem dX9_close_23 : decode cX9_close 23 = .ok (.aload_n 0, 1) := by decide +kernel
theorem dX9_close_24 : decode cX9_close 24 = .ok (.iload_n 2, 1) := by decide +kernel
theorem dX9_close_25 : decode cX9_close 25 = .ok (.invokevirtual 329, 3) := by decide +kernel
theorem dX9_close_28 : decode cX9_close 28 = .ok (.lconst 0, 1) := by decide +kernel
theorem dX9_close_29 : decode cX9_close 29 = .ok (.lcmp, 1) := by decide +kernel
theorem dX9_close_30 : decode cX9_close 30 = .ok (.ifCond .eq 7, 3) := by decide +kernel
theorem dX9_close_33 : decode cX9_close 33 = .ok (.iconst 1, 1) := by decide +kernel
theorem dX9_close_34 : decode cX9_close 34 = .ok (.goto 4, 3) := by decide +kernel
theorem dX9_close_37 : decode cX9_close 37 = .ok (.iconst 0, 1) := by decide +kernel
theorem dX9_close_38 : decode cX9_close 38 = .ok (.invokestatic 118, 3) := by decide +kernel
theorem dX9_close_41 : decode cX9_close 41 = .ok (.iadd, 1) := by decide +kernel
theorem dX9_close_42 : decode cX9_close 42 = .ok (.istore_n 1, 1) := by decide +kernel
theorem dX9_close_43 : decode cX9_close 43 = .ok (.iinc 2 1, 3) := by decide +kernel
theorem dX9_close_46 : decode cX9_close 46 = .ok (.goto (-33), 3) := by decide +kernel
theorem dX9_close_49 : decode cX9_close 49 = .ok (.iload_n 1, 1) := by decide +kernel
theorem dX9_close_50 : decode cX9_close 50 = .ok (.ifCond .ne 6, 3) := by decide +kernel
theorem dX9_close_53 : decode cX9_close 53 = .ok (.bipush (-2), 2) := by decide +kernel
theorem dX9_close_55 : decode cX9_close 55 = .ok (.ireturn, 1) := by decide +kernel
theorem dX9_close_56 : decode cX9_close 56 = .ok (.aload_n 0, 1) := by decide +kernel
theorem dX9_close_57 : decode cX9_close 57 = .ok (.invokevirtual 206, 3) := by decide +kernel
theorem dX9_close_60 : decode cX9_close 60 = .ok (.iconst 0, 1) := by decide +kernel
theorem dX9_close_61 : decode cX9_close 61 = .ok (.istore_n 2, 1) := by decide +kernel
theorem dX9_close_62 : decode cX9_close 62 = .ok (.iload_n 2, 1) := by decide +kernel
theorem dX9_close_63 : decode cX9_close 63 = .ok (.aload_n 0, 1) := by decide +kernel
theorem dX9_close_64 : decode cX9_close 64 = .ok (.iconst 2, 1) := by decide +kernel
theorem dX9_close_65 : decode cX9_close 65 = .ok (.invokevirtual 179, 3) := by decide +kernel
theorem dX9_close_68 : decode cX9_close 68 = .ok (.if_icmp .ge 67, 3) := by decide +kernel
theorem dX9_close_71 : decode cX9_close 71 = .ok (.aload_n 0, 1) := by decide +kernel
theorem dX9_close_72 : decode cX9_close 72 = .ok (.iload_n 2, 1) := by decide +kernel
theorem dX9_close_73 : decode cX9_close 73 = .ok (.invokevirtual 329, 3) := by decide +kernel
theorem dX9_close_76 : decode cX9_close 76 = .ok (.lstore_n 3, 1) := by decide +kernel
theorem dX9_close_77 : decode cX9_close 77 = .ok (.aload_n 0, 1) := by decide +kernel
theorem dX9_close_78 : decode cX9_close 78 = .ok (.getfield 9, 3) := by decide +kernel
theorem dX9_close_81 : decode cX9_close 81 = .ok (.bipush 66, 2) := by decide +kernel
theorem dX9_close_83 : decode cX9_close 83 = .ok (.bipush 7, 2) := by decide +kernel
theorem dX9_close_85 : decode cX9_close 85 = .ok (.iload_n 2, 1) := by decide +kernel
theorem dX9_close_86 : decode cX9_close 86 = .ok (.imul, 1) := by decide +kernel
theorem dX9_close_87 : decode cX9_close 87 = .ok (.iadd, 1) := by decide +kernel
theorem dX9_close_88 : decode cX9_close 88 = .ok (.bipush 6, 2) := by decide +kernel
theorem dX9_close_90 : decode cX9_close 90 = .ok (.iadd, 1) := by decide +kernel
theorem dX9_close_91 : decode cX9_close 91 = .ok (.dup2, 1) := by decide +kernel
theorem dX9_close_92 : decode cX9_close 92 = .ok (.laload, 1) := by decide +kernel
theorem dX9_close_93 : decode cX9_close 93 = .ok (.aload_n 0, 1) := by decide +kernel
theorem dX9_close_94 : decode cX9_close 94 = .ok (.iload_n 2, 1) := by decide +kernel
theorem dX9_close_95 : decode cX9_close 95 = .ok (.invokevirtual 333, 3) := by decide +kernel
theorem dX9_close_98 : decode cX9_close 98 = .ok (.ladd, 1) := by decide +kernel
theorem dX9_close_99 : decode cX9_close 99 = .ok (.lastore, 1) := by decide +kernel
theorem dX9_close_100 : decode cX9_close 100 = .ok (.aload_n 0, 1) := by decide +kernel
theorem dX9_close_101 : decode cX9_close 101 = .ok (.getfield 9, 3) := by decide +kernel
theorem dX9_close_104 : decode cX9_close 104 = .ok (.bipush 66, 2) := by decide +kernel
theorem dX9_close_106 : decode cX9_close 106 = .ok (.bipush 7, 2) := by decide +kernel
theorem dX9_close_108 : decode cX9_close 108 = .ok (.iload_n 2, 1) := by decide +kernel
theorem dX9_close_109 : decode cX9_close 109 = .ok (.imul, 1) := by decide +kernel
theorem dX9_close_110 : decode cX9_close 110 = .ok (.iadd, 1) := by decide +kernel
theorem dX9_close_111 : decode cX9_close 111 = .ok (.iconst 4, 1) := by decide +kernel
theorem dX9_close_112 : decode cX9_close 112 = .ok (.iadd, 1) := by decide +kernel
theorem dX9_close_113 : decode cX9_close 113 = .ok (.dup2, 1) := by decide +kernel
theorem dX9_close_114 : decode cX9_close 114 = .ok (.laload, 1) := by decide +kernel
theorem dX9_close_115 : decode cX9_close 115 = .ok (.lload_n 3, 1) := by decide +kernel
theorem dX9_close_116 : decode cX9_close 116 = .ok (.lsub, 1) := by decide +kernel
theorem dX9_close_117 : decode cX9_close 117 = .ok (.lastore, 1) := by decide +kernel
theorem dX9_close_118 : decode cX9_close 118 = .ok (.aload_n 0, 1) := by decide +kernel
theorem dX9_close_119 : decode cX9_close 119 = .ok (.getfield 9, 3) := by decide +kernel
theorem dX9_close_122 : decode cX9_close 122 = .ok (.bipush 10, 2) := by decide +kernel
theorem dX9_close_124 : decode cX9_close 124 = .ok (.dup2, 1) := by decide +kernel
theorem dX9_close_125 : decode cX9_close 125 = .ok (.laload, 1) := by decide +kernel
theorem dX9_close_126 : decode cX9_close 126 = .ok (.lload_n 3, 1) := by decide +kernel
theorem dX9_close_127 : decode cX9_close 127 = .ok (.ladd, 1) := by decide +kernel
theorem dX9_close_128 : decode cX9_close 128 = .ok (.lastore, 1) := by decide +kernel
theorem dX9_close_129 : decode cX9_close 129 = .ok (.iinc 2 1, 3) := by decide +kernel
theorem dX9_close_132 : decode cX9_close 132 = .ok (.goto (-70), 3) := by decide +kernel
theorem dX9_close_135 : decode cX9_close 135 = .ok (.iload_n 1, 1) := by decide +kernel
theorem dX9_close_136 : decode cX9_close 136 = .ok (.ireturn, 1) := by decide +kernel
theorem dX9_cash_0 : decode cX9_cash 0 = .ok (.aload_n 0, 1) := by decide +kernel
theorem dX9_cash_1 : decode cX9_cash 1 = .ok (.iload_n 1, 1) := by decide +kernel
theorem dX9_cash_2 : decode cX9_cash 2 = .ok (.invokevirtual 199, 3) := by decide +kernel
theorem dX9_cash_5 : decode cX9_cash 5 = .ok (.ifCond .eq 13, 3) := by decide +kernel
theorem dX9_cash_8 : decode cX9_cash 8 = .ok (.iload_n 2, 1) := by decide +kernel
theorem dX9_cash_9 : decode cX9_cash 9 = .ok (.i2l, 1) := by decide +kernel
theorem dX9_cash_10 : decode cX9_cash 10 = .ok (.lconst 0, 1) := by decide +kernel
theorem dX9_cash_11 : decode cX9_cash 11 = .ok (.lconst 1, 1) := by decide +kernel
theorem dX9_cash_12 : decode cX9_cash 12 = .ok (.invokestatic 81, 3) := by decide +kernel
theorem dX9_cash_15 : decode cX9_cash 15 = .ok (.ifCond .ne 7, 3) := by decide +kernel
theorem dX9_cash_18 : decode cX9_cash 18 = .ok (.ldc2_w 336, 3) := by decide +kernel
theorem dX9_cash_21 : decode cX9_cash 21 = .ok (.lreturn, 1) := by decide +kernel
theorem dX9_cash_22 : decode cX9_cash 22 = .ok (.iload_n 2, 1) := by decide +kernel
theorem dX9_cash_23 : decode cX9_cash 23 = .ok (.ifCond .ne 11, 3) := by decide +kernel
theorem dX9_cash_26 : decode cX9_cash 26 = .ok (.aload_n 0, 1) := by decide +kernel
theorem dX9_cash_27 : decode cX9_cash 27 = .ok (.iload_n 1, 1) := by decide +kernel
theorem dX9_cash_28 : decode cX9_cash 28 = .ok (.invokevirtual 329, 3) := by decide +kernel
theorem dX9_cash_31 : decode cX9_cash 31 = .ok (.goto 8, 3) := by decide +kernel
theorem dX9_cash_34 : decode cX9_cash 34 = .ok (.aload_n 0, 1) := by decide +kernel
theorem dX9_cash_35 : decode cX9_cash 35 = .ok (.iload_n 1, 1) := by decide +kernel
theorem dX9_cash_36 : decode cX9_cash 36 = .ok (.invokevirtual 333, 3) := by decide +kernel
theorem dX9_cash_39 : decode cX9_cash 39 = .ok (.lreturn, 1) := by decide +kernel
theorem dX9_point_0 : decode cX9_point 0 = .ok (.aload_n 0, 1) := by decide +kernel
theorem dX9_point_1 : decode cX9_point 1 = .ok (.iload_n 1, 1) := by decide +kernel
theorem dX9_point_2 : decode cX9_point 2 = .ok (.invokevirtual 185, 3) := by decide +kernel
theorem dX9_point_5 : decode cX9_point 5 = .ok (.ifCond .ne 5, 3) := by decide +kernel
theorem dX9_point_8 : decode cX9_point 8 = .ok (.iconst (-1), 1) := by decide +kernel
theorem dX9_point_9 : decode cX9_point 9 = .ok (.ireturn, 1) := by decide +kernel
theorem dX9_point_10 : decode cX9_point 10 = .ok (.iload_n 2, 1) := by decide +kernel
theorem dX9_point_11 : decode cX9_point 11 = .ok (.tableswitch 61 0 4 #[33, 33, 33, 40, 50], 33) := by decide +kernel
theorem dX9_point_44 : decode cX9_point 44 = .ok (.aload_n 0, 1) := by decide +kernel
theorem dX9_point_45 : decode cX9_point 45 = .ok (.iload_n 1, 1) := by decide +kernel
theorem dX9_point_46 : decode cX9_point 46 = .ok (.iload_n 2, 1) := by decide +kernel
theorem dX9_point_47 : decode cX9_point 47 = .ok (.invokevirtual 189, 3) := by decide +kernel
theorem dX9_point_50 : decode cX9_point 50 = .ok (.ireturn, 1) := by decide +kernel
theorem dX9_point_51 : decode cX9_point 51 = .ok (.aload_n 0, 1) := by decide +kernel
theorem dX9_point_52 : decode cX9_point 52 = .ok (.iload_n 1, 1) := by decide +kernel
theorem dX9_point_53 : decode cX9_point 53 = .ok (.iconst 3, 1) := by decide +kernel
theorem dX9_point_54 : decode cX9_point 54 = .ok (.invokevirtual 189, 3) := by decide +kernel
theorem dX9_point_57 : decode cX9_point 57 = .ok (.bipush 100, 2) := by decide +kernel
theorem dX9_point_59 : decode cX9_point 59 = .ok (.iadd, 1) := by decide +kernel
theorem dX9_point_60 : decode cX9_point 60 = .ok (.ireturn, 1) := by decide +kernel
theorem dX9_point_61 : decode cX9_point 61 = .ok (.aload_n 0, 1) := by decide +kernel
theorem dX9_point_62 : decode cX9_point 62 = .ok (.invokevirtual 302, 3) := by decide +kernel
theorem dX9_point_65 : decode cX9_point 65 = .ok (.aload_n 0, 1) := by decide +kernel
theorem dX9_point_66 : decode cX9_point 66 = .ok (.getfield 33, 3) := by decide +kernel
theorem dX9_point_69 : decode cX9_point 69 = .ok (.iload_n 1, 1) := by decide +kernel
theorem dX9_point_70 : decode cX9_point 70 = .ok (.iaload, 1) := by decide +kernel
theorem dX9_point_71 : decode cX9_point 71 = .ok (.ireturn, 1) := by decide +kernel
theorem dX9_point_72 : decode cX9_point 72 = .ok (.iconst (-1), 1) := by decide +kernel
theorem dX9_point_73 : decode cX9_point 73 = .ok (.ireturn, 1) := by decide +kernel
theorem dX9_segment_0 : decode cX9_segment 0 = .ok (.aload_n 0, 1) := by decide +kernel
theorem dX9_segment_1 : decode cX9_segment 1 = .ok (.iload_n 1, 1) := by decide +kernel
theorem dX9_segment_2 : decode cX9_segment 2 = .ok (.invokevirtual 192, 3) := by decide +kernel
theorem dX9_segment_5 : decode cX9_segment 5 = .ok (.ifCond .eq 15, 3) := by decide +kernel
theorem dX9_segment_8 : decode cX9_segment 8 = .ok (.iload_n 2, 1) := by decide +kernel
theorem dX9_segment_9 : decode cX9_segment 9 = .ok (.i2l, 1) := by decide +kernel
theorem dX9_segment_10 : decode cX9_segment 10 = .ok (.lconst 0, 1) := by decide +kernel
theorem dX9_segment_11 : decode cX9_segment 11 = .ok (.ldc2_w 233, 3) := by decide +kernel
theorem dX9_segment_14 : decode cX9_segment 14 = .ok (.invokestatic 81, 3) := by decide +kernel
theorem dX9_segment_17 : decode cX9_segment 17 = .ok (.ifCond .ne 5, 3) := by decide +kernel
theorem dX9_segment_20 : decode cX9_segment 20 = .ok (.iconst (-1), 1) := by decide +kernel
theorem dX9_segment_21 : decode cX9_segment 21 = .ok (.ireturn, 1) := by decide +kernel
theorem dX9_segment_22 : decode cX9_segment 22 = .ok (.aload_n 0, 1) := by decide +kernel
theorem dX9_segment_23 : decode cX9_segment 23 = .ok (.invokevirtual 302, 3) := by decide +kernel
theorem dX9_segment_26 : decode cX9_segment 26 = .ok (.iload_n 2, 1) := by decide +kernel
theorem dX9_segment_27 : decode cX9_segment 27 = .ok (.iconst 2, 1) := by decide +kernel
theorem dX9_segment_28 : decode cX9_segment 28 = .ok (.if_icmp .ge 12, 3) := by decide +kernel
theorem dX9_segment_31 : decode cX9_segment 31 = .ok (.aload_n 0, 1) := by decide +kernel
theorem dX9_segment_32 : decode cX9_segment 32 = .ok (.iload_n 1, 1) := by decide +kernel
theorem dX9_segment_33 : decode cX9_segment 33 = .ok (.iload_n 2, 1) := by decide +kernel
theorem dX9_segment_34 : decode cX9_segment 34 = .ok (.invokevirtual 256, 3) := by decide +kernel
theorem dX9_segment_37 : decode cX9_segment 37 = .ok (.goto 29, 3) := by decide +kernel
theorem dX9_segment_40 : decode cX9_segment 40 = .ok (.iload_n 2, 1) := by decide +kernel
theorem dX9_segment_41 : decode cX9_segment 41 = .ok (.iconst 2, 1) := by decide +kernel
theorem dX9_segment_42 : decode cX9_segment 42 = .ok (.if_icmp .ne 15, 3) := by decide +kernel
theorem dX9_segment_45 : decode cX9_segment 45 = .ok (.aload_n 0, 1) := by decide +kernel
theorem dX9_segment_46 : decode cX9_segment 46 = .ok (.getfield 33, 3) := by decide +kernel
theorem dX9_segment_49 : decode cX9_segment 49 = .ok (.bipush 10, 2) := by decide +kernel
theorem dX9_segment_51 : decode cX9_segment 51 = .ok (.iload_n 1, 1) := by decide +kernel
theorem dX9_segment_52 : decode cX9_segment 52 = .ok (.iadd, 1) := by decide +kernel
theorem dX9_segment_53 : decode cX9_segment 53 = .ok (.iaload, 1) := by decide +kernel
theorem dX9_segment_54 : decode cX9_segment 54 = .ok (.goto 12, 3) := by decide +kernel
theorem dX9_segment_57 : decode cX9_segment 57 = .ok (.aload_n 0, 1) := by decide +kernel
theorem dX9_segment_58 : decode cX9_segment 58 = .ok (.getfield 33, 3) := by decide +kernel
theorem dX9_segment_61 : decode cX9_segment 61 = .ok (.bipush 17, 2) := by decide +kernel
theorem dX9_segment_63 : decode cX9_segment 63 = .ok (.iload_n 1, 1) := by decide +kernel
theorem dX9_segment_64 : decode cX9_segment 64 = .ok (.iadd, 1) := by decide +kernel
theorem dX9_segment_65 : decode cX9_segment 65 = .ok (.iaload, 1) := by decide +kernel
theorem dX9_segment_66 : decode cX9_segment 66 = .ok (.ireturn, 1) := by decide +kernel
theorem dX9_shipper_0 : decode cX9_shipper 0 = .ok (.aload_n 0, 1) := by decide +kernel
theorem dX9_shipper_1 : decode cX9_shipper 1 = .ok (.iload_n 1, 1) := by decide +kernel
theorem dX9_shipper_2 : decode cX9_shipper 2 = .ok (.invokevirtual 199, 3) := by decide +kernel
theorem dX9_shipper_5 : decode cX9_shipper 5 = .ok (.ifCond .eq 24, 3) := by decide +kernel
theorem dX9_shipper_8 : decode cX9_shipper 8 = .ok (.iload_n 2, 1) := by decide +kernel
theorem dX9_shipper_9 : decode cX9_shipper 9 = .ok (.i2l, 1) := by decide +kernel
theorem dX9_shipper_10 : decode cX9_shipper 10 = .ok (.lconst 0, 1) := by decide +kernel
theorem dX9_shipper_11 : decode cX9_shipper 11 = .ok (.ldc2_w 338, 3) := by decide +kernel
theorem dX9_shipper_14 : decode cX9_shipper 14 = .ok (.invokestatic 81, 3) := by decide +kernel
theorem dX9_shipper_17 : decode cX9_shipper 17 = .ok (.ifCond .eq 12, 3) := by decide +kernel
theorem dX9_shipper_20 : decode cX9_shipper 20 = .ok (.aload_n 0, 1) := by decide +kernel
theorem dX9_shipper_21 : decode cX9_shipper 21 = .ok (.iload_n 1, 1) := by decide +kernel
theorem dX9_shipper_22 : decode cX9_shipper 22 = .ok (.iload_n 2, 1) := by decide +kernel
theorem dX9_shipper_23 : decode cX9_shipper 23 = .ok (.invokevirtual 237, 3) := by decide +kernel
theorem dX9_shipper_26 : decode cX9_shipper 26 = .ok (.goto 6, 3) := by decide +kernel
theorem dX9_shipper_29 : decode cX9_shipper 29 = .ok (.ldc2_w 336, 3) := by decide +kernel
theorem dX9_shipper_32 : decode cX9_shipper 32 = .ok (.lreturn, 1) := by decide +kernel
theorem dX9_nomination_0 : decode cX9_nomination 0 = .ok (.aload_n 0, 1) := by decide +kernel
theorem dX9_nomination_1 : decode cX9_nomination 1 = .ok (.iload_n 1, 1) := by decide +kernel
theorem dX9_nomination_2 : decode cX9_nomination 2 = .ok (.invokevirtual 213, 3) := by decide +kernel
theorem dX9_nomination_5 : decode cX9_nomination 5 = .ok (.ifCond .eq 24, 3) := by decide +kernel
theorem dX9_nomination_8 : decode cX9_nomination 8 = .ok (.iload_n 2, 1) := by decide +kernel
theorem dX9_nomination_9 : decode cX9_nomination 9 = .ok (.i2l, 1) := by decide +kernel
theorem dX9_nomination_10 : decode cX9_nomination 10 = .ok (.lconst 0, 1) := by decide +kernel
theorem dX9_nomination_11 : decode cX9_nomination 11 = .ok (.ldc2_w 233, 3) := by decide +kernel
theorem dX9_nomination_14 : decode cX9_nomination 14 = .ok (.invokestatic 81, 3) := by decide +kernel
theorem dX9_nomination_17 : decode cX9_nomination 17 = .ok (.ifCond .eq 12, 3) := by decide +kernel
theorem dX9_nomination_20 : decode cX9_nomination 20 = .ok (.aload_n 0, 1) := by decide +kernel
theorem dX9_nomination_21 : decode cX9_nomination 21 = .ok (.iload_n 1, 1) := by decide +kernel
theorem dX9_nomination_22 : decode cX9_nomination 22 = .ok (.iload_n 2, 1) := by decide +kernel
theorem dX9_nomination_23 : decode cX9_nomination 23 = .ok (.invokevirtual 259, 3) := by decide +kernel
theorem dX9_nomination_26 : decode cX9_nomination 26 = .ok (.goto 5, 3) := by decide +kernel
theorem dX9_nomination_29 : decode cX9_nomination 29 = .ok (.bipush (-2), 2) := by decide +kernel
theorem dX9_nomination_31 : decode cX9_nomination 31 = .ok (.ireturn, 1) := by decide +kernel
theorem dX9_plan_0 : decode cX9_plan 0 = .ok (.aload_n 0, 1) := by decide +kernel
theorem dX9_plan_1 : decode cX9_plan 1 = .ok (.iload_n 1, 1) := by decide +kernel
theorem dX9_plan_2 : decode cX9_plan 2 = .ok (.invokevirtual 213, 3) := by decide +kernel
theorem dX9_plan_5 : decode cX9_plan 5 = .ok (.ifCond .ne 5, 3) := by decide +kernel
theorem dX9_plan_8 : decode cX9_plan 8 = .ok (.iconst (-1), 1) := by decide +kernel
theorem dX9_plan_9 : decode cX9_plan 9 = .ok (.ireturn, 1) := by decide +kernel
theorem dX9_plan_10 : decode cX9_plan 10 = .ok (.aload_n 0, 1) := by decide +kernel
theorem dX9_plan_11 : decode cX9_plan 11 = .ok (.invokevirtual 302, 3) := by decide +kernel
theorem dX9_plan_14 : decode cX9_plan 14 = .ok (.iload_n 2, 1) := by decide +kernel
theorem dX9_plan_15 : decode cX9_plan 15 = .ok (.tableswitch 80 0 4 #[33, 40, 47, 53, 66], 33) := by decide +kernel
theorem dX9_plan_48 : decode cX9_plan 48 = .ok (.aload_n 0, 1) := by decide +kernel
theorem dX9_plan_49 : decode cX9_plan 49 = .ok (.getfield 43, 3) := by decide +kernel
theorem dX9_plan_52 : decode cX9_plan 52 = .ok (.iload_n 1, 1) := by decide +kernel
theorem dX9_plan_53 : decode cX9_plan 53 = .ok (.iaload, 1) := by decide +kernel
theorem dX9_plan_54 : decode cX9_plan 54 = .ok (.ireturn, 1) := by decide +kernel
theorem dX9_plan_55 : decode cX9_plan 55 = .ok (.aload_n 0, 1) := by decide +kernel
theorem dX9_plan_56 : decode cX9_plan 56 = .ok (.getfield 40, 3) := by decide +kernel
theorem dX9_plan_59 : decode cX9_plan 59 = .ok (.iload_n 1, 1) := by decide +kernel
theorem dX9_plan_60 : decode cX9_plan 60 = .ok (.iaload, 1) := by decide +kernel
theorem dX9_plan_61 : decode cX9_plan 61 = .ok (.ireturn, 1) := by decide +kernel
theorem dX9_plan_62 : decode cX9_plan 62 = .ok (.aload_n 0, 1) := by decide +kernel
theorem dX9_plan_63 : decode cX9_plan 63 = .ok (.iload_n 1, 1) := by decide +kernel
theorem dX9_plan_64 : decode cX9_plan 64 = .ok (.invokevirtual 299, 3) := by decide +kernel
theorem dX9_plan_67 : decode cX9_plan 67 = .ok (.ireturn, 1) := by decide +kernel
theorem dX9_plan_68 : decode cX9_plan 68 = .ok (.aload_n 0, 1) := by decide +kernel
theorem dX9_plan_69 : decode cX9_plan 69 = .ok (.getfield 43, 3) := by decide +kernel
theorem dX9_plan_72 : decode cX9_plan 72 = .ok (.iload_n 1, 1) := by decide +kernel
theorem dX9_plan_73 : decode cX9_plan 73 = .ok (.iaload, 1) := by decide +kernel
theorem dX9_plan_74 : decode cX9_plan 74 = .ok (.aload_n 0, 1) := by decide +kernel
theorem dX9_plan_75 : decode cX9_plan 75 = .ok (.iload_n 1, 1) := by decide +kernel
theorem dX9_plan_76 : decode cX9_plan 76 = .ok (.invokevirtual 299, 3) := by decide +kernel
theorem dX9_plan_79 : decode cX9_plan 79 = .ok (.isub, 1) := by decide +kernel
theorem dX9_plan_80 : decode cX9_plan 80 = .ok (.ireturn, 1) := by decide +kernel
theorem dX9_plan_81 : decode cX9_plan 81 = .ok (.aload_n 0, 1) := by decide +kernel
theorem dX9_plan_82 : decode cX9_plan 82 = .ok (.iload_n 1, 1) := by decide +kernel
theorem dX9_plan_83 : decode cX9_plan 83 = .ok (.iconst 3, 1) := by decide +kernel
theorem dX9_plan_84 : decode cX9_plan 84 = .ok (.invokevirtual 259, 3) := by decide +kernel
theorem dX9_plan_87 : decode cX9_plan 87 = .ok (.aload_n 0, 1) := by decide +kernel
theorem dX9_plan_88 : decode cX9_plan 88 = .ok (.getfield 43, 3) := by decide +kernel
theorem dX9_plan_91 : decode cX9_plan 91 = .ok (.iload_n 1, 1) := by decide +kernel
theorem dX9_plan_92 : decode cX9_plan 92 = .ok (.iaload, 1) := by decide +kernel
theorem dX9_plan_93 : decode cX9_plan 93 = .ok (.isub, 1) := by decide +kernel
theorem dX9_plan_94 : decode cX9_plan 94 = .ok (.ireturn, 1) := by decide +kernel
theorem dX9_plan_95 : decode cX9_plan 95 = .ok (.iconst (-1), 1) := by decide +kernel
theorem dX9_plan_96 : decode cX9_plan 96 = .ok (.ireturn, 1) := by decide +kernel
theorem dX9_cause_0 : decode cX9_cause 0 = .ok (.aload_n 0, 1) := by decide +kernel
theorem dX9_cause_1 : decode cX9_cause 1 = .ok (.iload_n 1, 1) := by decide +kernel
theorem dX9_cause_2 : decode cX9_cause 2 = .ok (.invokevirtual 213, 3) := by decide +kernel
theorem dX9_cause_5 : decode cX9_cause 5 = .ok (.ifCond .ne 5, 3) := by decide +kernel
theorem dX9_cause_8 : decode cX9_cause 8 = .ok (.iconst (-1), 1) := by decide +kernel
theorem dX9_cause_9 : decode cX9_cause 9 = .ok (.ireturn, 1) := by decide +kernel
theorem dX9_cause_10 : decode cX9_cause 10 = .ok (.aload_n 0, 1) := by decide +kernel
theorem dX9_cause_11 : decode cX9_cause 11 = .ok (.invokevirtual 302, 3) := by decide +kernel
theorem dX9_cause_14 : decode cX9_cause 14 = .ok (.aload_n 0, 1) := by decide +kernel
theorem dX9_cause_15 : decode cX9_cause 15 = .ok (.getfield 46, 3) := by decide +kernel
theorem dX9_cause_18 : decode cX9_cause 18 = .ok (.iload_n 1, 1) := by decide +kernel
theorem dX9_cause_19 : decode cX9_cause 19 = .ok (.iaload, 1) := by decide +kernel
theorem dX9_cause_20 : decode cX9_cause 20 = .ok (.ireturn, 1) := by decide +kernel
theorem dX9_isStop_0 : decode cX9_isStop 0 = .ok (.iload_n 1, 1) := by decide +kernel
theorem dX9_isStop_1 : decode cX9_isStop 1 = .ok (.bipush 10, 2) := by decide +kernel
theorem dX9_isStop_3 : decode cX9_isStop 3 = .ok (.if_icmp .ge 11, 3) := by decide +kernel
theorem dX9_isStop_6 : decode cX9_isStop 6 = .ok (.aload_n 0, 1) := by decide +kernel
theorem dX9_isStop_7 : decode cX9_isStop 7 = .ok (.iload_n 1, 1) := by decide +kernel
theorem dX9_isStop_8 : decode cX9_isStop 8 = .ok (.invokevirtual 185, 3) := by decide +kernel
theorem dX9_isStop_11 : decode cX9_isStop 11 = .ok (.goto 24, 3) := by decide +kernel
theorem dX9_isStop_14 : decode cX9_isStop 14 = .ok (.aload_n 0, 1) := by decide +kernel
theorem dX9_isStop_15 : decode cX9_isStop 15 = .ok (.iload_n 1, 1) := by decide +kernel
theorem dX9_isStop_16 : decode cX9_isStop 16 = .ok (.bipush 17, 2) := by decide +kernel
theorem dX9_isStop_18 : decode cX9_isStop 18 = .ok (.if_icmp .ge 10, 3) := by decide +kernel
theorem dX9_isStop_21 : decode cX9_isStop 21 = .ok (.iload_n 1, 1) := by decide +kernel
theorem dX9_isStop_22 : decode cX9_isStop 22 = .ok (.bipush 10, 2) := by decide +kernel
theorem dX9_isStop_24 : decode cX9_isStop 24 = .ok (.isub, 1) := by decide +kernel
theorem dX9_isStop_25 : decode cX9_isStop 25 = .ok (.goto 7, 3) := by decide +kernel
theorem dX9_isStop_28 : decode cX9_isStop 28 = .ok (.iload_n 1, 1) := by decide +kernel
theorem dX9_isStop_29 : decode cX9_isStop 29 = .ok (.bipush 17, 2) := by decide +kernel
theorem dX9_isStop_31 : decode cX9_isStop 31 = .ok (.isub, 1) := by decide +kernel
theorem dX9_isStop_32 : decode cX9_isStop 32 = .ok (.invokevirtual 192, 3) := by decide +kernel
theorem dX9_isStop_35 : decode cX9_isStop 35 = .ok (.ireturn, 1) := by decide +kernel
theorem dX9_tight_0 : decode cX9_tight 0 = .ok (.aload_n 0, 1) := by decide +kernel
theorem dX9_tight_1 : decode cX9_tight 1 = .ok (.invokevirtual 315, 3) := by decide +kernel
theorem dX9_tight_4 : decode cX9_tight 4 = .ok (.ifCond .eq 8, 3) := by decide +kernel
theorem dX9_tight_7 : decode cX9_tight 7 = .ok (.iload_n 1, 1) := by decide +kernel
theorem dX9_tight_8 : decode cX9_tight 8 = .ok (.iconst (-1), 1) := by decide +kernel
theorem dX9_tight_9 : decode cX9_tight 9 = .ok (.if_icmp .ge 5, 3) := by decide +kernel
theorem dX9_tight_12 : decode cX9_tight 12 = .ok (.iconst (-1), 1) := by decide +kernel
theorem dX9_tight_13 : decode cX9_tight 13 = .ok (.ireturn, 1) := by decide +kernel
theorem dX9_tight_14 : decode cX9_tight 14 = .ok (.aload_n 0, 1) := by decide +kernel
theorem dX9_tight_15 : decode cX9_tight 15 = .ok (.invokevirtual 302, 3) := by decide +kernel
theorem dX9_tight_18 : decode cX9_tight 18 = .ok (.iconst 0, 1) := by decide +kernel
theorem dX9_tight_19 : decode cX9_tight 19 = .ok (.istore_n 2, 1) := by decide +kernel
theorem dX9_tight_20 : decode cX9_tight 20 = .ok (.iconst 0, 1) := by decide +kernel
theorem dX9_tight_21 : decode cX9_tight 21 = .ok (.istore_n 3, 1) := by decide +kernel
theorem dX9_tight_22 : decode cX9_tight 22 = .ok (.iload_n 3, 1) := by decide +kernel
theorem dX9_tight_23 : decode cX9_tight 23 = .ok (.bipush 24, 2) := by decide +kernel
theorem dX9_tight_25 : decode cX9_tight 25 = .ok (.if_icmp .ge 76, 3) := by decide +kernel
theorem dX9_tight_28 : decode cX9_tight 28 = .ok (.aload_n 0, 1) := by decide +kernel
theorem dX9_tight_29 : decode cX9_tight 29 = .ok (.iload_n 3, 1) := by decide +kernel
theorem dX9_tight_30 : decode cX9_tight 30 = .ok (.invokevirtual 340, 3) := by decide +kernel
theorem dX9_tight_33 : decode cX9_tight 33 = .ok (.ifCond .eq 62, 3) := by decide +kernel
theorem dX9_tight_36 : decode cX9_tight 36 = .ok (.aload_n 0, 1) := by decide +kernel
theorem dX9_tight_37 : decode cX9_tight 37 = .ok (.getfield 33, 3) := by decide +kernel
theorem dX9_tight_40 : decode cX9_tight 40 = .ok (.iload_n 3, 1) := by decide +kernel
theorem dX9_tight_41 : decode cX9_tight 41 = .ok (.iaload, 1) := by decide +kernel
theorem dX9_tight_42 : decode cX9_tight 42 = .ok (.ifCond .le 6, 3) := by decide +kernel
theorem dX9_tight_45 : decode cX9_tight 45 = .ok (.goto 50, 3) := by decide +kernel
theorem dX9_tight_48 : decode cX9_tight 48 = .ok (.iload_n 2, 1) := by decide +kernel
theorem dX9_tight_49 : decode cX9_tight 49 = .ok (.iload_n 1, 1) := by decide +kernel
theorem dX9_tight_50 : decode cX9_tight 50 = .ok (.if_icmp .ne 42, 3) := by decide +kernel
theorem dX9_tight_53 : decode cX9_tight 53 = .ok (.iload_n 3, 1) := by decide +kernel
theorem dX9_tight_54 : decode cX9_tight 54 = .ok (.bipush 10, 2) := by decide +kernel
theorem dX9_tight_56 : decode cX9_tight 56 = .ok (.if_icmp .ge 10, 3) := by decide +kernel
theorem dX9_tight_59 : decode cX9_tight 59 = .ok (.bipush 100, 2) := by decide +kernel
theorem dX9_tight_61 : decode cX9_tight 61 = .ok (.iload_n 3, 1) := by decide +kernel
theorem dX9_tight_62 : decode cX9_tight 62 = .ok (.iadd, 1) := by decide +kernel
theorem dX9_tight_63 : decode cX9_tight 63 = .ok (.goto 28, 3) := by decide +kernel
theorem dX9_tight_66 : decode cX9_tight 66 = .ok (.iload_n 3, 1) := by decide +kernel
theorem dX9_tight_67 : decode cX9_tight 67 = .ok (.bipush 17, 2) := by decide +kernel
theorem dX9_tight_69 : decode cX9_tight 69 = .ok (.if_icmp .ge 14, 3) := by decide +kernel
theorem dX9_tight_72 : decode cX9_tight 72 = .ok (.sipush 200, 3) := by decide +kernel
theorem dX9_tight_75 : decode cX9_tight 75 = .ok (.iload_n 3, 1) := by decide +kernel
theorem dX9_tight_76 : decode cX9_tight 76 = .ok (.iadd, 1) := by decide +kernel
theorem dX9_tight_77 : decode cX9_tight 77 = .ok (.bipush 10, 2) := by decide +kernel
theorem dX9_tight_79 : decode cX9_tight 79 = .ok (.isub, 1) := by decide +kernel
theorem dX9_tight_80 : decode cX9_tight 80 = .ok (.goto 11, 3) := by decide +kernel
theorem dX9_tight_83 : decode cX9_tight 83 = .ok (.sipush 300, 3) := by decide +kernel
theorem dX9_tight_86 : decode cX9_tight 86 = .ok (.iload_n 3, 1) := by decide +kernel
theorem dX9_tight_87 : decode cX9_tight 87 = .ok (.iadd, 1) := by decide +kernel
theorem dX9_tight_88 : decode cX9_tight 88 = .ok (.bipush 17, 2) := by decide +kernel
theorem dX9_tight_90 : decode cX9_tight 90 = .ok (.isub, 1) := by decide +kernel
theorem dX9_tight_91 : decode cX9_tight 91 = .ok (.ireturn, 1) := by decide +kernel
theorem dX9_tight_92 : decode cX9_tight 92 = .ok (.iinc 2 1, 3) := by decide +kernel
theorem dX9_tight_95 : decode cX9_tight 95 = .ok (.iinc 3 1, 3) := by decide +kernel
theorem dX9_tight_98 : decode cX9_tight 98 = .ok (.goto (-76), 3) := by decide +kernel
theorem dX9_tight_101 : decode cX9_tight 101 = .ok (.iload_n 1, 1) := by decide +kernel
theorem dX9_tight_102 : decode cX9_tight 102 = .ok (.iconst (-1), 1) := by decide +kernel
theorem dX9_tight_103 : decode cX9_tight 103 = .ok (.if_icmp .ne 7, 3) := by decide +kernel
theorem dX9_tight_106 : decode cX9_tight 106 = .ok (.iload_n 2, 1) := by decide +kernel
theorem dX9_tight_107 : decode cX9_tight 107 = .ok (.goto 5, 3) := by decide +kernel
theorem dX9_tight_110 : decode cX9_tight 110 = .ok (.bipush (-2), 2) := by decide +kernel
theorem dX9_tight_112 : decode cX9_tight 112 = .ok (.ireturn, 1) := by decide +kernel
theorem dX9_flow_0 : decode cX9_flow 0 = .ok (.aload_n 0, 1) := by decide +kernel
theorem dX9_flow_1 : decode cX9_flow 1 = .ok (.iload_n 1, 1) := by decide +kernel
theorem dX9_flow_2 : decode cX9_flow 2 = .ok (.invokevirtual 192, 3) := by decide +kernel
theorem dX9_flow_5 : decode cX9_flow 5 = .ok (.ifCond .ne 5, 3) := by decide +kernel
theorem dX9_flow_8 : decode cX9_flow 8 = .ok (.iconst (-1), 1) := by decide +kernel
theorem dX9_flow_9 : decode cX9_flow 9 = .ok (.ireturn, 1) := by decide +kernel
theorem dX9_flow_10 : decode cX9_flow 10 = .ok (.aload_n 0, 1) := by decide +kernel
theorem dX9_flow_11 : decode cX9_flow 11 = .ok (.invokevirtual 302, 3) := by decide +kernel
theorem dX9_flow_14 : decode cX9_flow 14 = .ok (.iconst 0, 1) := by decide +kernel
theorem dX9_flow_15 : decode cX9_flow 15 = .ok (.istore_n 3, 1) := by decide +kernel
theorem dX9_flow_16 : decode cX9_flow 16 = .ok (.iconst 0, 1) := by decide +kernel
theorem dX9_flow_17 : decode cX9_flow 17 = .ok (.istore 4, 2) := by decide +kernel
theorem dX9_flow_19 : decode cX9_flow 19 = .ok (.iload 4, 2) := by decide +kernel
theorem dX9_flow_21 : decode cX9_flow 21 = .ok (.aload_n 0, 1) := by decide +kernel
theorem dX9_flow_22 : decode cX9_flow 22 = .ok (.iconst 3, 1) := by decide +kernel
theorem dX9_flow_23 : decode cX9_flow 23 = .ok (.invokevirtual 179, 3) := by decide +kernel
theorem dX9_flow_26 : decode cX9_flow 26 = .ok (.if_icmp .ge 45, 3) := by decide +kernel
theorem dX9_flow_29 : decode cX9_flow 29 = .ok (.iload_n 3, 1) := by decide +kernel
theorem dX9_flow_30 : decode cX9_flow 30 = .ok (.aload_n 0, 1) := by decide +kernel
theorem dX9_flow_31 : decode cX9_flow 31 = .ok (.iload 4, 2) := by decide +kernel
theorem dX9_flow_33 : decode cX9_flow 33 = .ok (.iload_n 2, 1) := by decide +kernel
theorem dX9_flow_34 : decode cX9_flow 34 = .ok (.ifCond .eq 8, 3) := by decide +kernel
theorem dX9_flow_37 : decode cX9_flow 37 = .ok (.bipush 17, 2) := by decide +kernel
theorem dX9_flow_39 : decode cX9_flow 39 = .ok (.goto 5, 3) := by decide +kernel
theorem dX9_flow_42 : decode cX9_flow 42 = .ok (.bipush 10, 2) := by decide +kernel
theorem dX9_flow_44 : decode cX9_flow 44 = .ok (.iload_n 1, 1) := by decide +kernel
theorem dX9_flow_45 : decode cX9_flow 45 = .ok (.iadd, 1) := by decide +kernel
theorem dX9_flow_46 : decode cX9_flow 46 = .ok (.invokevirtual 261, 3) := by decide +kernel
theorem dX9_flow_49 : decode cX9_flow 49 = .ok (.ifCond .eq 13, 3) := by decide +kernel
theorem dX9_flow_52 : decode cX9_flow 52 = .ok (.aload_n 0, 1) := by decide +kernel
theorem dX9_flow_53 : decode cX9_flow 53 = .ok (.getfield 43, 3) := by decide +kernel
theorem dX9_flow_56 : decode cX9_flow 56 = .ok (.iload 4, 2) := by decide +kernel
theorem dX9_flow_58 : decode cX9_flow 58 = .ok (.iaload, 1) := by decide +kernel
theorem dX9_flow_59 : decode cX9_flow 59 = .ok (.goto 4, 3) := by decide +kernel
theorem dX9_flow_62 : decode cX9_flow 62 = .ok (.iconst 0, 1) := by decide +kernel
theorem dX9_flow_63 : decode cX9_flow 63 = .ok (.iadd, 1) := by decide +kernel
theorem dX9_flow_64 : decode cX9_flow 64 = .ok (.istore_n 3, 1) := by decide +kernel
theorem dX9_flow_65 : decode cX9_flow 65 = .ok (.iinc 4 1, 3) := by decide +kernel
theorem dX9_flow_68 : decode cX9_flow 68 = .ok (.goto (-49), 3) := by decide +kernel
theorem dX9_flow_71 : decode cX9_flow 71 = .ok (.iload_n 3, 1) := by decide +kernel
theorem dX9_flow_72 : decode cX9_flow 72 = .ok (.ireturn, 1) := by decide +kernel
theorem dX9_leaves_0 : decode cX9_leaves 0 = .ok (.aload_n 0, 1) := by decide +kernel
theorem dX9_leaves_1 : decode cX9_leaves 1 = .ok (.iload_n 1, 1) := by decide +kernel
theorem dX9_leaves_2 : decode cX9_leaves 2 = .ok (.invokevirtual 253, 3) := by decide +kernel
theorem dX9_leaves_5 : decode cX9_leaves 5 = .ok (.ifCond .eq 33, 3) := by decide +kernel
theorem dX9_leaves_8 : decode cX9_leaves 8 = .ok (.aload_n 0, 1) := by decide +kernel
theorem dX9_leaves_9 : decode cX9_leaves 9 = .ok (.iload_n 2, 1) := by decide +kernel
theorem dX9_leaves_10 : decode cX9_leaves 10 = .ok (.invokevirtual 253, 3) := by decide +kernel
theorem dX9_leaves_13 : decode cX9_leaves 13 = .ok (.ifCond .eq 25, 3) := by decide +kernel
theorem dX9_leaves_16 : decode cX9_leaves 16 = .ok (.iload_n 3, 1) := by decide +kernel
theorem dX9_leaves_17 : decode cX9_leaves 17 = .ok (.i2l, 1) := by decide +kernel
theorem dX9_leaves_18 : decode cX9_leaves 18 = .ok (.lconst 0, 1) := by decide +kernel
theorem dX9_leaves_19 : decode cX9_leaves 19 = .ok (.ldc2_w 343, 3) := by decide +kernel
theorem dX9_leaves_22 : decode cX9_leaves 22 = .ok (.invokestatic 81, 3) := by decide +kernel
theorem dX9_leaves_25 : decode cX9_leaves 25 = .ok (.ifCond .eq 13, 3) := by decide +kernel
theorem dX9_leaves_28 : decode cX9_leaves 28 = .ok (.aload_n 0, 1) := by decide +kernel
theorem dX9_leaves_29 : decode cX9_leaves 29 = .ok (.iload_n 1, 1) := by decide +kernel
theorem dX9_leaves_30 : decode cX9_leaves 30 = .ok (.iload_n 2, 1) := by decide +kernel
theorem dX9_leaves_31 : decode cX9_leaves 31 = .ok (.iload_n 3, 1) := by decide +kernel
theorem dX9_leaves_32 : decode cX9_leaves 32 = .ok (.invokevirtual 290, 3) := by decide +kernel
theorem dX9_leaves_35 : decode cX9_leaves 35 = .ok (.goto 4, 3) := by decide +kernel
theorem dX9_leaves_38 : decode cX9_leaves 38 = .ok (.iconst (-1), 1) := by decide +kernel
theorem dX9_leaves_39 : decode cX9_leaves 39 = .ok (.ireturn, 1) := by decide +kernel
theorem dX9_neededFor_0 : decode cX9_neededFor 0 = .ok (.aload_n 0, 1) := by decide +kernel
theorem dX9_neededFor_1 : decode cX9_neededFor 1 = .ok (.iload_n 1, 1) := by decide +kernel
theorem dX9_neededFor_2 : decode cX9_neededFor 2 = .ok (.iload_n 2, 1) := by decide +kernel
theorem dX9_neededFor_3 : decode cX9_neededFor 3 = .ok (.ldc_w 345, 3) := by decide +kernel
theorem dX9_neededFor_6 : decode cX9_neededFor 6 = .ok (.invokevirtual 290, 3) := by decide +kernel
theorem dX9_neededFor_9 : decode cX9_neededFor 9 = .ok (.iload_n 3, 1) := by decide +kernel
theorem dX9_neededFor_10 : decode cX9_neededFor 10 = .ok (.if_icmp .ge 6, 3) := by decide +kernel
theorem dX9_neededFor_13 : decode cX9_neededFor 13 = .ok (.bipush (-2), 2) := by decide +kernel
theorem dX9_neededFor_15 : decode cX9_neededFor 15 = .ok (.ireturn, 1) := by decide +kernel
theorem dX9_neededFor_16 : decode cX9_neededFor 16 = .ok (.iconst 0, 1) := by decide +kernel
theorem dX9_neededFor_17 : decode cX9_neededFor 17 = .ok (.istore 4, 2) := by decide +kernel
theorem dX9_neededFor_19 : decode cX9_neededFor 19 = .ok (.ldc_w 345, 3) := by decide +kernel
theorem dX9_neededFor_22 : decode cX9_neededFor 22 = .ok (.istore 5, 2) := by decide +kernel
theorem dX9_neededFor_24 : decode cX9_neededFor 24 = .ok (.iload 4, 2) := by decide +kernel
theorem dX9_neededFor_26 : decode cX9_neededFor 26 = .ok (.iload 5, 2) := by decide +kernel
theorem dX9_neededFor_28 : decode cX9_neededFor 28 = .ok (.if_icmp .ge 40, 3) := by decide +kernel
theorem dX9_neededFor_31 : decode cX9_neededFor 31 = .ok (.iload 4, 2) := by decide +kernel
theorem dX9_neededFor_33 : decode cX9_neededFor 33 = .ok (.iload 5, 2) := by decide +kernel
theorem dX9_neededFor_35 : decode cX9_neededFor 35 = .ok (.iadd, 1) := by decide +kernel
theorem dX9_neededFor_36 : decode cX9_neededFor 36 = .ok (.iconst 2, 1) := by decide +kernel
theorem dX9_neededFor_37 : decode cX9_neededFor 37 = .ok (.idiv, 1) := by decide +kernel
theorem dX9_neededFor_38 : decode cX9_neededFor 38 = .ok (.istore 6, 2) := by decide +kernel
theorem dX9_neededFor_40 : decode cX9_neededFor 40 = .ok (.aload_n 0, 1) := by decide +kernel
theorem dX9_neededFor_41 : decode cX9_neededFor 41 = .ok (.iload_n 1, 1) := by decide +kernel
theorem dX9_neededFor_42 : decode cX9_neededFor 42 = .ok (.iload_n 2, 1) := by decide +kernel
theorem dX9_neededFor_43 : decode cX9_neededFor 43 = .ok (.iload 6, 2) := by decide +kernel
theorem dX9_neededFor_45 : decode cX9_neededFor 45 = .ok (.invokevirtual 290, 3) := by decide +kernel
theorem dX9_neededFor_48 : decode cX9_neededFor 48 = .ok (.iload_n 3, 1) := by decide +kernel
theorem dX9_neededFor_49 : decode cX9_neededFor 49 = .ok (.if_icmp .lt 10, 3) := by decide +kernel
theorem dX9_neededFor_52 : decode cX9_neededFor 52 = .ok (.iload 6, 2) := by decide +kernel
theorem dX9_neededFor_54 : decode cX9_neededFor 54 = .ok (.istore 5, 2) := by decide +kernel
theorem dX9_neededFor_56 : decode cX9_neededFor 56 = .ok (.goto 9, 3) := by decide +kernel
theorem dX9_neededFor_59 : decode cX9_neededFor 59 = .ok (.iload 6, 2) := by decide +kernel
theorem dX9_neededFor_61 : decode cX9_neededFor 61 = .ok (.iconst 1, 1) := by decide +kernel
theorem dX9_neededFor_62 : decode cX9_neededFor 62 = .ok (.iadd, 1) := by decide +kernel
theorem dX9_neededFor_63 : decode cX9_neededFor 63 = .ok (.istore 4, 2) := by decide +kernel
theorem dX9_neededFor_65 : decode cX9_neededFor 65 = .ok (.goto (-41), 3) := by decide +kernel
theorem dX9_neededFor_68 : decode cX9_neededFor 68 = .ok (.iload 4, 2) := by decide +kernel
theorem dX9_neededFor_70 : decode cX9_neededFor 70 = .ok (.ireturn, 1) := by decide +kernel
theorem dX9_needs_0 : decode cX9_needs 0 = .ok (.aload_n 0, 1) := by decide +kernel
theorem dX9_needs_1 : decode cX9_needs 1 = .ok (.iload_n 1, 1) := by decide +kernel
theorem dX9_needs_2 : decode cX9_needs 2 = .ok (.invokevirtual 253, 3) := by decide +kernel
theorem dX9_needs_5 : decode cX9_needs 5 = .ok (.ifCond .eq 33, 3) := by decide +kernel
theorem dX9_needs_8 : decode cX9_needs 8 = .ok (.aload_n 0, 1) := by decide +kernel
theorem dX9_needs_9 : decode cX9_needs 9 = .ok (.iload_n 2, 1) := by decide +kernel
theorem dX9_needs_10 : decode cX9_needs 10 = .ok (.invokevirtual 253, 3) := by decide +kernel
theorem dX9_needs_13 : decode cX9_needs 13 = .ok (.ifCond .eq 25, 3) := by decide +kernel
theorem dX9_needs_16 : decode cX9_needs 16 = .ok (.iload_n 3, 1) := by decide +kernel
theorem dX9_needs_17 : decode cX9_needs 17 = .ok (.i2l, 1) := by decide +kernel
theorem dX9_needs_18 : decode cX9_needs 18 = .ok (.lconst 0, 1) := by decide +kernel
theorem dX9_needs_19 : decode cX9_needs 19 = .ok (.ldc2_w 343, 3) := by decide +kernel
theorem dX9_needs_22 : decode cX9_needs 22 = .ok (.invokestatic 81, 3) := by decide +kernel
theorem dX9_needs_25 : decode cX9_needs 25 = .ok (.ifCond .eq 13, 3) := by decide +kernel
theorem dX9_needs_28 : decode cX9_needs 28 = .ok (.aload_n 0, 1) := by decide +kernel
theorem dX9_needs_29 : decode cX9_needs 29 = .ok (.iload_n 1, 1) := by decide +kernel
theorem dX9_needs_30 : decode cX9_needs 30 = .ok (.iload_n 2, 1) := by decide +kernel
theorem dX9_needs_31 : decode cX9_needs 31 = .ok (.iload_n 3, 1) := by decide +kernel
theorem dX9_needs_32 : decode cX9_needs 32 = .ok (.invokevirtual 346, 3) := by decide +kernel
theorem dX9_needs_35 : decode cX9_needs 35 = .ok (.goto 4, 3) := by decide +kernel
theorem dX9_needs_38 : decode cX9_needs 38 = .ok (.iconst (-1), 1) := by decide +kernel
theorem dX9_needs_39 : decode cX9_needs 39 = .ok (.ireturn, 1) := by decide +kernel
theorem dX9_nearest_0 : decode cX9_nearest 0 = .ok (.aload_n 0, 1) := by decide +kernel
theorem dX9_nearest_1 : decode cX9_nearest 1 = .ok (.iload_n 1, 1) := by decide +kernel
theorem dX9_nearest_2 : decode cX9_nearest 2 = .ok (.iconst 0, 1) := by decide +kernel
theorem dX9_nearest_3 : decode cX9_nearest 3 = .ok (.invokevirtual 195, 3) := by decide +kernel
theorem dX9_nearest_6 : decode cX9_nearest 6 = .ok (.ifCond .eq 25, 3) := by decide +kernel
theorem dX9_nearest_9 : decode cX9_nearest 9 = .ok (.iload_n 2, 1) := by decide +kernel
theorem dX9_nearest_10 : decode cX9_nearest 10 = .ok (.i2l, 1) := by decide +kernel
theorem dX9_nearest_11 : decode cX9_nearest 11 = .ok (.lconst 0, 1) := by decide +kernel
theorem dX9_nearest_12 : decode cX9_nearest 12 = .ok (.ldc2_w 167, 3) := by decide +kernel
theorem dX9_nearest_15 : decode cX9_nearest 15 = .ok (.invokestatic 81, 3) := by decide +kernel
theorem dX9_nearest_18 : decode cX9_nearest 18 = .ok (.ifCond .eq 13, 3) := by decide +kernel
theorem dX9_nearest_21 : decode cX9_nearest 21 = .ok (.iload_n 3, 1) := by decide +kernel
theorem dX9_nearest_22 : decode cX9_nearest 22 = .ok (.i2l, 1) := by decide +kernel
theorem dX9_nearest_23 : decode cX9_nearest 23 = .ok (.lconst 0, 1) := by decide +kernel
theorem dX9_nearest_24 : decode cX9_nearest 24 = .ok (.lconst 1, 1) := by decide +kernel
theorem dX9_nearest_25 : decode cX9_nearest 25 = .ok (.invokestatic 81, 3) := by decide +kernel
theorem dX9_nearest_28 : decode cX9_nearest 28 = .ok (.ifCond .ne 5, 3) := by decide +kernel
theorem dX9_nearest_31 : decode cX9_nearest 31 = .ok (.iconst (-1), 1) := by decide +kernel
theorem dX9_nearest_32 : decode cX9_nearest 32 = .ok (.ireturn, 1) := by decide +kernel
theorem dX9_nearest_33 : decode cX9_nearest 33 = .ok (.bipush (-2), 2) := by decide +kernel
theorem dX9_nearest_35 : decode cX9_nearest 35 = .ok (.istore 4, 2) := by decide +kernel
theorem dX9_nearest_37 : decode cX9_nearest 37 = .ok (.bipush (-2), 2) := by decide +kernel
theorem dX9_nearest_39 : decode cX9_nearest 39 = .ok (.istore 5, 2) := by decide +kernel
theorem dX9_nearest_41 : decode cX9_nearest 41 = .ok (.iconst 0, 1) := by decide +kernel
theorem dX9_nearest_42 : decode cX9_nearest 42 = .ok (.istore 6, 2) := by decide +kernel
theorem dX9_nearest_44 : decode cX9_nearest 44 = .ok (.iload 6, 2) := by decide +kernel
theorem dX9_nearest_46 : decode cX9_nearest 46 = .ok (.aload_n 0, 1) := by decide +kernel
theorem dX9_nearest_47 : decode cX9_nearest 47 = .ok (.iconst 1, 1) := by decide +kernel
theorem dX9_nearest_48 : decode cX9_nearest 48 = .ok (.invokevirtual 179, 3) := by decide +kernel
theorem dX9_nearest_51 : decode cX9_nearest 51 = .ok (.if_icmp .ge 74, 3) := by decide +kernel
theorem dX9_nearest_54 : decode cX9_nearest 54 = .ok (.aload_n 0, 1) := by decide +kernel
theorem dX9_nearest_55 : decode cX9_nearest 55 = .ok (.iload 6, 2) := by decide +kernel
theorem dX9_nearest_57 : decode cX9_nearest 57 = .ok (.iconst 1, 1) := by decide +kernel
theorem dX9_nearest_58 : decode cX9_nearest 58 = .ok (.invokevirtual 189, 3) := by decide +kernel
theorem dX9_nearest_61 : decode cX9_nearest 61 = .ok (.ifCond .ne 6, 3) := by decide +kernel
theorem dX9_nearest_64 : decode cX9_nearest 64 = .ok (.goto 55, 3) := by decide +kernel
theorem dX9_nearest_67 : decode cX9_nearest 67 = .ok (.aload_n 0, 1) := by decide +kernel
theorem dX9_nearest_68 : decode cX9_nearest 68 = .ok (.aload_n 0, 1) := by decide +kernel
theorem dX9_nearest_69 : decode cX9_nearest 69 = .ok (.iload 6, 2) := by decide +kernel
theorem dX9_nearest_71 : decode cX9_nearest 71 = .ok (.iconst 0, 1) := by decide +kernel
theorem dX9_nearest_72 : decode cX9_nearest 72 = .ok (.invokevirtual 189, 3) := by decide +kernel
theorem dX9_nearest_75 : decode cX9_nearest 75 = .ok (.aload_n 0, 1) := by decide +kernel
theorem dX9_nearest_76 : decode cX9_nearest 76 = .ok (.iload_n 1, 1) := by decide +kernel
theorem dX9_nearest_77 : decode cX9_nearest 77 = .ok (.iconst 0, 1) := by decide +kernel
theorem dX9_nearest_78 : decode cX9_nearest 78 = .ok (.invokevirtual 189, 3) := by decide +kernel
theorem dX9_nearest_81 : decode cX9_nearest 81 = .ok (.iload_n 2, 1) := by decide +kernel
theorem dX9_nearest_82 : decode cX9_nearest 82 = .ok (.invokevirtual 346, 3) := by decide +kernel
theorem dX9_nearest_85 : decode cX9_nearest 85 = .ok (.istore 7, 2) := by decide +kernel
theorem dX9_nearest_87 : decode cX9_nearest 87 = .ok (.iload 7, 2) := by decide +kernel
theorem dX9_nearest_89 : decode cX9_nearest 89 = .ok (.bipush (-2), 2) := by decide +kernel
theorem dX9_nearest_91 : decode cX9_nearest 91 = .ok (.if_icmp .eq 28, 3) := by decide +kernel
theorem dX9_nearest_94 : decode cX9_nearest 94 = .ok (.iload 4, 2) := by decide +kernel
theorem dX9_nearest_96 : decode cX9_nearest 96 = .ok (.bipush (-2), 2) := by decide +kernel
theorem dX9_nearest_98 : decode cX9_nearest 98 = .ok (.if_icmp .eq 13, 3) := by decide +kernel
theorem dX9_nearest_101 : decode cX9_nearest 101 = .ok (.iload 7, 2) := by decide +kernel
theorem dX9_nearest_103 : decode cX9_nearest 103 = .ok (.iload 5, 2) := by decide +kernel
theorem dX9_nearest_105 : decode cX9_nearest 105 = .ok (.if_icmp .lt 6, 3) := by decide +kernel
theorem dX9_nearest_108 : decode cX9_nearest 108 = .ok (.goto 11, 3) := by decide +kernel
theorem dX9_nearest_111 : decode cX9_nearest 111 = .ok (.iload 6, 2) := by decide +kernel
theorem dX9_nearest_113 : decode cX9_nearest 113 = .ok (.istore 4, 2) := by decide +kernel
theorem dX9_nearest_115 : decode cX9_nearest 115 = .ok (.iload 7, 2) := by decide +kernel
theorem dX9_nearest_117 : decode cX9_nearest 117 = .ok (.istore 5, 2) := by decide +kernel
theorem dX9_nearest_119 : decode cX9_nearest 119 = .ok (.iinc 6 1, 3) := by decide +kernel
theorem dX9_nearest_122 : decode cX9_nearest 122 = .ok (.goto (-78), 3) := by decide +kernel
theorem dX9_nearest_125 : decode cX9_nearest 125 = .ok (.iload_n 3, 1) := by decide +kernel
theorem dX9_nearest_126 : decode cX9_nearest 126 = .ok (.ifCond .ne 8, 3) := by decide +kernel
theorem dX9_nearest_129 : decode cX9_nearest 129 = .ok (.iload 4, 2) := by decide +kernel
theorem dX9_nearest_131 : decode cX9_nearest 131 = .ok (.goto 5, 3) := by decide +kernel
theorem dX9_nearest_134 : decode cX9_nearest 134 = .ok (.iload 5, 2) := by decide +kernel
theorem dX9_nearest_136 : decode cX9_nearest 136 = .ok (.ireturn, 1) := by decide +kernel
theorem dX9_laysAside_0 : decode cX9_laysAside 0 = .ok (.aload_n 0, 1) := by decide +kernel
theorem dX9_laysAside_1 : decode cX9_laysAside 1 = .ok (.getfield 9, 3) := by decide +kernel
theorem dX9_laysAside_4 : decode cX9_laysAside 4 = .ok (.iconst 0, 1) := by decide +kernel
theorem dX9_laysAside_5 : decode cX9_laysAside 5 = .ok (.aload_n 0, 1) := by decide +kernel
theorem dX9_laysAside_6 : decode cX9_laysAside 6 = .ok (.getfield 16, 3) := by decide +kernel
theorem dX9_laysAside_9 : decode cX9_laysAside 9 = .ok (.iconst 0, 1) := by decide +kernel
theorem dX9_laysAside_10 : decode cX9_laysAside 10 = .ok (.invokestatic 172, 3) := by decide +kernel
theorem dX9_laysAside_13 : decode cX9_laysAside 13 = .ok (.return_, 1) := by decide +kernel
theorem dX9_laysBack_0 : decode cX9_laysBack 0 = .ok (.aload_n 0, 1) := by decide +kernel
theorem dX9_laysBack_1 : decode cX9_laysBack 1 = .ok (.getfield 16, 3) := by decide +kernel
theorem dX9_laysBack_4 : decode cX9_laysBack 4 = .ok (.iconst 0, 1) := by decide +kernel
theorem dX9_laysBack_5 : decode cX9_laysBack 5 = .ok (.aload_n 0, 1) := by decide +kernel
theorem dX9_laysBack_6 : decode cX9_laysBack 6 = .ok (.getfield 9, 3) := by decide +kernel
theorem dX9_laysBack_9 : decode cX9_laysBack 9 = .ok (.iconst 0, 1) := by decide +kernel
theorem dX9_laysBack_10 : decode cX9_laysBack 10 = .ok (.invokestatic 172, 3) := by decide +kernel
theorem dX9_laysBack_13 : decode cX9_laysBack 13 = .ok (.return_, 1) := by decide +kernel
theorem dX9_more_0 : decode cX9_more 0 = .ok (.aload_n 0, 1) := by decide +kernel
theorem dX9_more_1 : decode cX9_more 1 = .ok (.iload_n 1, 1) := by decide +kernel
theorem dX9_more_2 : decode cX9_more 2 = .ok (.iload_n 2, 1) := by decide +kernel
theorem dX9_more_3 : decode cX9_more 3 = .ok (.iload_n 3, 1) := by decide +kernel
theorem dX9_more_4 : decode cX9_more 4 = .ok (.iload 4, 2) := by decide +kernel
theorem dX9_more_6 : decode cX9_more 6 = .ok (.invokevirtual 202, 3) := by decide +kernel
theorem dX9_more_9 : decode cX9_more 9 = .ok (.ifCond .ne 5, 3) := by decide +kernel
theorem dX9_more_12 : decode cX9_more 12 = .ok (.iconst (-1), 1) := by decide +kernel
theorem dX9_more_13 : decode cX9_more 13 = .ok (.ireturn, 1) := by decide +kernel
theorem dX9_more_14 : decode cX9_more 14 = .ok (.aload_n 0, 1) := by decide +kernel
theorem dX9_more_15 : decode cX9_more 15 = .ok (.iconst 3, 1) := by decide +kernel
theorem dX9_more_16 : decode cX9_more 16 = .ok (.invokevirtual 179, 3) := by decide +kernel
theorem dX9_more_19 : decode cX9_more 19 = .ok (.bipush 16, 2) := by decide +kernel
theorem dX9_more_21 : decode cX9_more 21 = .ok (.if_icmp .ne 6, 3) := by decide +kernel
theorem dX9_more_24 : decode cX9_more 24 = .ok (.bipush (-2), 2) := by decide +kernel
theorem dX9_more_26 : decode cX9_more 26 = .ok (.ireturn, 1) := by decide +kernel
theorem dX9_more_27 : decode cX9_more 27 = .ok (.aload_n 0, 1) := by decide +kernel
theorem dX9_more_28 : decode cX9_more 28 = .ok (.invokevirtual 349, 3) := by decide +kernel
theorem dX9_more_31 : decode cX9_more 31 = .ok (.aload_n 0, 1) := by decide +kernel
theorem dX9_more_32 : decode cX9_more 32 = .ok (.iload_n 1, 1) := by decide +kernel
theorem dX9_more_33 : decode cX9_more 33 = .ok (.iload_n 2, 1) := by decide +kernel
theorem dX9_more_34 : decode cX9_more 34 = .ok (.iload_n 3, 1) := by decide +kernel
theorem dX9_more_35 : decode cX9_more 35 = .ok (.iload 4, 2) := by decide +kernel
theorem dX9_more_37 : decode cX9_more 37 = .ok (.invokevirtual 209, 3) := by decide +kernel
theorem dX9_more_40 : decode cX9_more 40 = .ok (.aload_n 0, 1) := by decide +kernel
theorem dX9_more_41 : decode cX9_more 41 = .ok (.invokevirtual 302, 3) := by decide +kernel
theorem dX9_more_44 : decode cX9_more 44 = .ok (.aload_n 0, 1) := by decide +kernel
theorem dX9_more_45 : decode cX9_more 45 = .ok (.getfield 43, 3) := by decide +kernel
theorem dX9_more_48 : decode cX9_more 48 = .ok (.aload_n 0, 1) := by decide +kernel
theorem dX9_more_49 : decode cX9_more 49 = .ok (.iconst 3, 1) := by decide +kernel
theorem dX9_more_50 : decode cX9_more 50 = .ok (.invokevirtual 179, 3) := by decide +kernel
theorem dX9_more_53 : decode cX9_more 53 = .ok (.iconst 1, 1) := by decide +kernel
theorem dX9_more_54 : decode cX9_more 54 = .ok (.isub, 1) := by decide +kernel
theorem dX9_more_55 : decode cX9_more 55 = .ok (.iaload, 1) := by decide +kernel
theorem dX9_more_56 : decode cX9_more 56 = .ok (.istore 5, 2) := by decide +kernel
theorem dX9_more_58 : decode cX9_more 58 = .ok (.aload_n 0, 1) := by decide +kernel
theorem dX9_more_59 : decode cX9_more 59 = .ok (.invokevirtual 352, 3) := by decide +kernel
theorem dX9_more_62 : decode cX9_more 62 = .ok (.iload 5, 2) := by decide +kernel
theorem dX9_more_64 : decode cX9_more 64 = .ok (.ireturn, 1) := by decide +kernel
theorem dX9_gain_0 : decode cX9_gain 0 = .ok (.aload_n 0, 1) := by decide +kernel
theorem dX9_gain_1 : decode cX9_gain 1 = .ok (.iload_n 1, 1) := by decide +kernel
theorem dX9_gain_2 : decode cX9_gain 2 = .ok (.invokevirtual 213, 3) := by decide +kernel
theorem dX9_gain_5 : decode cX9_gain 5 = .ok (.ifCond .ne 5, 3) := by decide +kernel
theorem dX9_gain_8 : decode cX9_gain 8 = .ok (.iconst (-1), 1) := by decide +kernel
theorem dX9_gain_9 : decode cX9_gain 9 = .ok (.ireturn, 1) := by decide +kernel
theorem dX9_gain_10 : decode cX9_gain 10 = .ok (.aload_n 0, 1) := by decide +kernel
theorem dX9_gain_11 : decode cX9_gain 11 = .ok (.invokevirtual 302, 3) := by decide +kernel
theorem dX9_gain_14 : decode cX9_gain 14 = .ok (.aload_n 0, 1) := by decide +kernel
theorem dX9_gain_15 : decode cX9_gain 15 = .ok (.invokevirtual 305, 3) := by decide +kernel
theorem dX9_gain_18 : decode cX9_gain 18 = .ok (.aload_n 0, 1) := by decide +kernel
theorem dX9_gain_19 : decode cX9_gain 19 = .ok (.getfield 43, 3) := by decide +kernel
theorem dX9_gain_22 : decode cX9_gain 22 = .ok (.iload_n 1, 1) := by decide +kernel
theorem dX9_gain_23 : decode cX9_gain 23 = .ok (.iaload, 1) := by decide +kernel
theorem dX9_gain_24 : decode cX9_gain 24 = .ok (.isub, 1) := by decide +kernel
theorem dX9_gain_25 : decode cX9_gain 25 = .ok (.istore_n 2, 1) := by decide +kernel
theorem dX9_gain_26 : decode cX9_gain 26 = .ok (.aload_n 0, 1) := by decide +kernel
theorem dX9_gain_27 : decode cX9_gain 27 = .ok (.invokevirtual 349, 3) := by decide +kernel
theorem dX9_gain_30 : decode cX9_gain 30 = .ok (.aload_n 0, 1) := by decide +kernel
theorem dX9_gain_31 : decode cX9_gain 31 = .ok (.iload_n 1, 1) := by decide +kernel
theorem dX9_gain_32 : decode cX9_gain 32 = .ok (.invokevirtual 220, 3) := by decide +kernel
theorem dX9_gain_35 : decode cX9_gain 35 = .ok (.aload_n 0, 1) := by decide +kernel
theorem dX9_gain_36 : decode cX9_gain 36 = .ok (.invokevirtual 302, 3) := by decide +kernel
theorem dX9_gain_39 : decode cX9_gain 39 = .ok (.aload_n 0, 1) := by decide +kernel
theorem dX9_gain_40 : decode cX9_gain 40 = .ok (.invokevirtual 305, 3) := by decide +kernel
theorem dX9_gain_43 : decode cX9_gain 43 = .ok (.iload_n 2, 1) := by decide +kernel
theorem dX9_gain_44 : decode cX9_gain 44 = .ok (.isub, 1) := by decide +kernel
theorem dX9_gain_45 : decode cX9_gain 45 = .ok (.istore_n 3, 1) := by decide +kernel
theorem dX9_gain_46 : decode cX9_gain 46 = .ok (.aload_n 0, 1) := by decide +kernel
theorem dX9_gain_47 : decode cX9_gain 47 = .ok (.invokevirtual 352, 3) := by decide +kernel
theorem dX9_gain_50 : decode cX9_gain 50 = .ok (.iload_n 3, 1) := by decide +kernel
theorem dX9_gain_51 : decode cX9_gain 51 = .ok (.ldc 105, 2) := by decide +kernel
theorem dX9_gain_53 : decode cX9_gain 53 = .ok (.iadd, 1) := by decide +kernel
theorem dX9_gain_54 : decode cX9_gain 54 = .ok (.ireturn, 1) := by decide +kernel
theorem dX9_widen_0 : decode cX9_widen 0 = .ok (.aload_n 0, 1) := by decide +kernel
theorem dX9_widen_1 : decode cX9_widen 1 = .ok (.iload_n 1, 1) := by decide +kernel
theorem dX9_widen_2 : decode cX9_widen 2 = .ok (.iload_n 2, 1) := by decide +kernel
theorem dX9_widen_3 : decode cX9_widen 3 = .ok (.invokevirtual 223, 3) := by decide +kernel
theorem dX9_widen_6 : decode cX9_widen 6 = .ok (.ifCond .eq 15, 3) := by decide +kernel
theorem dX9_widen_9 : decode cX9_widen 9 = .ok (.iload_n 3, 1) := by decide +kernel
theorem dX9_widen_10 : decode cX9_widen 10 = .ok (.i2l, 1) := by decide +kernel
theorem dX9_widen_11 : decode cX9_widen 11 = .ok (.lconst 0, 1) := by decide +kernel
theorem dX9_widen_12 : decode cX9_widen 12 = .ok (.ldc2_w 167, 3) := by decide +kernel
theorem dX9_widen_15 : decode cX9_widen 15 = .ok (.invokestatic 81, 3) := by decide +kernel
theorem dX9_widen_18 : decode cX9_widen 18 = .ok (.ifCond .ne 5, 3) := by decide +kernel
theorem dX9_widen_21 : decode cX9_widen 21 = .ok (.iconst (-1), 1) := by decide +kernel
theorem dX9_widen_22 : decode cX9_widen 22 = .ok (.ireturn, 1) := by decide +kernel
theorem dX9_widen_23 : decode cX9_widen 23 = .ok (.aload_n 0, 1) := by decide +kernel
theorem dX9_widen_24 : decode cX9_widen 24 = .ok (.invokevirtual 302, 3) := by decide +kernel
theorem dX9_widen_27 : decode cX9_widen 27 = .ok (.aload_n 0, 1) := by decide +kernel
theorem dX9_widen_28 : decode cX9_widen 28 = .ok (.invokevirtual 305, 3) := by decide +kernel
theorem dX9_widen_31 : decode cX9_widen 31 = .ok (.istore 4, 2) := by decide +kernel
theorem dX9_widen_33 : decode cX9_widen 33 = .ok (.aload_n 0, 1) := by decide +kernel
theorem dX9_widen_34 : decode cX9_widen 34 = .ok (.invokevirtual 349, 3) := by decide +kernel
theorem dX9_widen_37 : decode cX9_widen 37 = .ok (.aload_n 0, 1) := by decide +kernel
theorem dX9_widen_38 : decode cX9_widen 38 = .ok (.getfield 9, 3) := by decide +kernel
theorem dX9_widen_41 : decode cX9_widen 41 = .ok (.iload_n 1, 1) := by decide +kernel
theorem dX9_widen_42 : decode cX9_widen 42 = .ok (.iload_n 2, 1) := by decide +kernel
theorem dX9_widen_43 : decode cX9_widen 43 = .ok (.invokestatic 226, 3) := by decide +kernel
theorem dX9_widen_46 : decode cX9_widen 46 = .ok (.iload_n 3, 1) := by decide +kernel
theorem dX9_widen_47 : decode cX9_widen 47 = .ok (.i2l, 1) := by decide +kernel
theorem dX9_widen_48 : decode cX9_widen 48 = .ok (.lastore, 1) := by decide +kernel
theorem dX9_widen_49 : decode cX9_widen 49 = .ok (.aload_n 0, 1) := by decide +kernel
theorem dX9_widen_50 : decode cX9_widen 50 = .ok (.invokevirtual 302, 3) := by decide +kernel
theorem dX9_widen_53 : decode cX9_widen 53 = .ok (.aload_n 0, 1) := by decide +kernel
theorem dX9_widen_54 : decode cX9_widen 54 = .ok (.invokevirtual 305, 3) := by decide +kernel
theorem dX9_widen_57 : decode cX9_widen 57 = .ok (.iload 4, 2) := by decide +kernel
theorem dX9_widen_59 : decode cX9_widen 59 = .ok (.isub, 1) := by decide +kernel
theorem dX9_widen_60 : decode cX9_widen 60 = .ok (.istore 5, 2) := by decide +kernel
theorem dX9_widen_62 : decode cX9_widen 62 = .ok (.aload_n 0, 1) := by decide +kernel
theorem dX9_widen_63 : decode cX9_widen 63 = .ok (.invokevirtual 352, 3) := by decide +kernel
theorem dX9_widen_66 : decode cX9_widen 66 = .ok (.iload 5, 2) := by decide +kernel
theorem dX9_widen_68 : decode cX9_widen 68 = .ok (.ldc 105, 2) := by decide +kernel
theorem dX9_widen_70 : decode cX9_widen 70 = .ok (.iadd, 1) := by decide +kernel
theorem dX9_widen_71 : decode cX9_widen 71 = .ok (.ireturn, 1) := by decide +kernel
theorem dX9_ahead_0 : decode cX9_ahead 0 = .ok (.aload_n 0, 1) := by decide +kernel
theorem dX9_ahead_1 : decode cX9_ahead 1 = .ok (.iload_n 1, 1) := by decide +kernel
theorem dX9_ahead_2 : decode cX9_ahead 2 = .ok (.invokevirtual 199, 3) := by decide +kernel
theorem dX9_ahead_5 : decode cX9_ahead 5 = .ok (.ifCond .eq 15, 3) := by decide +kernel
theorem dX9_ahead_8 : decode cX9_ahead 8 = .ok (.iload_n 2, 1) := by decide +kernel
theorem dX9_ahead_9 : decode cX9_ahead 9 = .ok (.i2l, 1) := by decide +kernel
theorem dX9_ahead_10 : decode cX9_ahead 10 = .ok (.lconst 0, 1) := by decide +kernel
theorem dX9_ahead_11 : decode cX9_ahead 11 = .ok (.ldc2_w 231, 3) := by decide +kernel
theorem dX9_ahead_14 : decode cX9_ahead 14 = .ok (.invokestatic 81, 3) := by decide +kernel
theorem dX9_ahead_17 : decode cX9_ahead 17 = .ok (.ifCond .ne 7, 3) := by decide +kernel
theorem dX9_ahead_20 : decode cX9_ahead 20 = .ok (.ldc2_w 336, 3) := by decide +kernel
theorem dX9_ahead_23 : decode cX9_ahead 23 = .ok (.lreturn, 1) := by decide +kernel
theorem dX9_ahead_24 : decode cX9_ahead 24 = .ok (.aload_n 0, 1) := by decide +kernel
theorem dX9_ahead_25 : decode cX9_ahead 25 = .ok (.invokevirtual 349, 3) := by decide +kernel
theorem dX9_ahead_28 : decode cX9_ahead 28 = .ok (.iconst 0, 1) := by decide +kernel
theorem dX9_ahead_29 : decode cX9_ahead 29 = .ok (.istore_n 3, 1) := by decide +kernel
theorem dX9_ahead_30 : decode cX9_ahead 30 = .ok (.iload_n 3, 1) := by decide +kernel
theorem dX9_ahead_31 : decode cX9_ahead 31 = .ok (.iload_n 2, 1) := by decide +kernel
theorem dX9_ahead_32 : decode cX9_ahead 32 = .ok (.if_icmp .ge 15, 3) := by decide +kernel
theorem dX9_ahead_35 : decode cX9_ahead 35 = .ok (.aload_n 0, 1) := by decide +kernel
theorem dX9_ahead_36 : decode cX9_ahead 36 = .ok (.invokevirtual 320, 3) := by decide +kernel
theorem dX9_ahead_39 : decode cX9_ahead 39 = .ok (.istore 4, 2) := by decide +kernel
theorem dX9_ahead_41 : decode cX9_ahead 41 = .ok (.iinc 3 1, 3) := by decide +kernel
theorem dX9_ahead_44 : decode cX9_ahead 44 = .ok (.goto (-14), 3) := by decide +kernel
theorem dX9_ahead_47 : decode cX9_ahead 47 = .ok (.aload_n 0, 1) := by decide +kernel
theorem dX9_ahead_48 : decode cX9_ahead 48 = .ok (.iload_n 1, 1) := by decide +kernel
theorem dX9_ahead_49 : decode cX9_ahead 49 = .ok (.iconst 4, 1) := by decide +kernel
theorem dX9_ahead_50 : decode cX9_ahead 50 = .ok (.invokevirtual 237, 3) := by decide +kernel
theorem dX9_ahead_53 : decode cX9_ahead 53 = .ok (.lstore_n 3, 1) := by decide +kernel
theorem dX9_ahead_54 : decode cX9_ahead 54 = .ok (.aload_n 0, 1) := by decide +kernel
theorem dX9_ahead_55 : decode cX9_ahead 55 = .ok (.invokevirtual 352, 3) := by decide +kernel
theorem dX9_ahead_58 : decode cX9_ahead 58 = .ok (.lload_n 3, 1) := by decide +kernel
theorem dX9_ahead_59 : decode cX9_ahead 59 = .ok (.lreturn, 1) := by decide +kernel
theorem dX9_first_0 : decode cX9_first 0 = .ok (.aload_n 0, 1) := by decide +kernel
theorem dX9_first_1 : decode cX9_first 1 = .ok (.iload_n 1, 1) := by decide +kernel
theorem dX9_first_2 : decode cX9_first 2 = .ok (.invokevirtual 199, 3) := by decide +kernel
theorem dX9_first_5 : decode cX9_first 5 = .ok (.ifCond .ne 5, 3) := by decide +kernel
theorem dX9_first_8 : decode cX9_first 8 = .ok (.iconst (-1), 1) := by decide +kernel
theorem dX9_first_9 : decode cX9_first 9 = .ok (.ireturn, 1) := by decide +kernel
theorem dX9_first_10 : decode cX9_first 10 = .ok (.aload_n 0, 1) := by decide +kernel
theorem dX9_first_11 : decode cX9_first 11 = .ok (.invokevirtual 349, 3) := by decide +kernel
theorem dX9_first_14 : decode cX9_first 14 = .ok (.bipush (-2), 2) := by decide +kernel
theorem dX9_first_16 : decode cX9_first 16 = .ok (.istore_n 2, 1) := by decide +kernel
theorem dX9_first_17 : decode cX9_first 17 = .ok (.iconst 0, 1) := by decide +kernel
theorem dX9_first_18 : decode cX9_first 18 = .ok (.istore_n 3, 1) := by decide +kernel
theorem dX9_first_19 : decode cX9_first 19 = .ok (.iload_n 3, 1) := by decide +kernel
theorem dX9_first_20 : decode cX9_first 20 = .ok (.bipush 99, 2) := by decide +kernel
theorem dX9_first_22 : decode cX9_first 22 = .ok (.if_icmp .gt 33, 3) := by decide +kernel
theorem dX9_first_25 : decode cX9_first 25 = .ok (.iload_n 2, 1) := by decide +kernel
theorem dX9_first_26 : decode cX9_first 26 = .ok (.bipush (-2), 2) := by decide +kernel
theorem dX9_first_28 : decode cX9_first 28 = .ok (.if_icmp .ne 27, 3) := by decide +kernel
theorem dX9_first_31 : decode cX9_first 31 = .ok (.aload_n 0, 1) := by decide +kernel
theorem dX9_first_32 : decode cX9_first 32 = .ok (.iload_n 1, 1) := by decide +kernel
theorem dX9_first_33 : decode cX9_first 33 = .ok (.invokevirtual 329, 3) := by decide +kernel
theorem dX9_first_36 : decode cX9_first 36 = .ok (.lconst 0, 1) := by decide +kernel
theorem dX9_first_37 : decode cX9_first 37 = .ok (.lcmp, 1) := by decide +kernel
theorem dX9_first_38 : decode cX9_first 38 = .ok (.ifCond .eq 5, 3) := by decide +kernel
theorem dX9_first_41 : decode cX9_first 41 = .ok (.iload_n 3, 1) := by decide +kernel
theorem dX9_first_42 : decode cX9_first 42 = .ok (.istore_n 2, 1) := by decide +kernel
theorem dX9_first_43 : decode cX9_first 43 = .ok (.aload_n 0, 1) := by decide +kernel
theorem dX9_first_44 : decode cX9_first 44 = .ok (.invokevirtual 320, 3) := by decide +kernel
theorem dX9_first_47 : decode cX9_first 47 = .ok (.istore 4, 2) := by decide +kernel
theorem dX9_first_49 : decode cX9_first 49 = .ok (.iinc 3 1, 3) := by decide +kernel
theorem dX9_first_52 : decode cX9_first 52 = .ok (.goto (-33), 3) := by decide +kernel
theorem dX9_first_55 : decode cX9_first 55 = .ok (.aload_n 0, 1) := by decide +kernel
theorem dX9_first_56 : decode cX9_first 56 = .ok (.invokevirtual 352, 3) := by decide +kernel
theorem dX9_first_59 : decode cX9_first 59 = .ok (.iload_n 2, 1) := by decide +kernel
theorem dX9_first_60 : decode cX9_first 60 = .ok (.ireturn, 1) := by decide +kernel
theorem dX9_fair_0 : decode cX9_fair 0 = .ok (.aload_n 0, 1) := by decide +kernel
theorem dX9_fair_1 : decode cX9_fair 1 = .ok (.iload_n 1, 1) := by decide +kernel
theorem dX9_fair_2 : decode cX9_fair 2 = .ok (.invokevirtual 213, 3) := by decide +kernel
theorem dX9_fair_5 : decode cX9_fair 5 = .ok (.ifCond .ne 5, 3) := by decide +kernel
theorem dX9_fair_8 : decode cX9_fair 8 = .ok (.iconst (-1), 1) := by decide +kernel
theorem dX9_fair_9 : decode cX9_fair 9 = .ok (.ireturn, 1) := by decide +kernel
theorem dX9_fair_10 : decode cX9_fair 10 = .ok (.aload_n 0, 1) := by decide +kernel
theorem dX9_fair_11 : decode cX9_fair 11 = .ok (.invokevirtual 276, 3) := by decide +kernel
theorem dX9_fair_14 : decode cX9_fair 14 = .ok (.iconst 0, 1) := by decide +kernel
theorem dX9_fair_15 : decode cX9_fair 15 = .ok (.istore_n 2, 1) := by decide +kernel
theorem dX9_fair_16 : decode cX9_fair 16 = .ok (.iload_n 2, 1) := by decide +kernel
theorem dX9_fair_17 : decode cX9_fair 17 = .ok (.aload_n 0, 1) := by decide +kernel
theorem dX9_fair_18 : decode cX9_fair 18 = .ok (.iconst 3, 1) := by decide +kernel
theorem dX9_fair_19 : decode cX9_fair 19 = .ok (.invokevirtual 179, 3) := by decide +kernel
theorem dX9_fair_22 : decode cX9_fair 22 = .ok (.if_icmp .ge 21, 3) := by decide +kernel
theorem dX9_fair_25 : decode cX9_fair 25 = .ok (.aload_n 0, 1) := by decide +kernel
theorem dX9_fair_26 : decode cX9_fair 26 = .ok (.getfield 37, 3) := by decide +kernel
theorem dX9_fair_29 : decode cX9_fair 29 = .ok (.iload_n 2, 1) := by decide +kernel
theorem dX9_fair_30 : decode cX9_fair 30 = .ok (.aload_n 0, 1) := by decide +kernel
theorem dX9_fair_31 : decode cX9_fair 31 = .ok (.iload_n 2, 1) := by decide +kernel
theorem dX9_fair_32 : decode cX9_fair 32 = .ok (.iconst 3, 1) := by decide +kernel
theorem dX9_fair_33 : decode cX9_fair 33 = .ok (.invokevirtual 259, 3) := by decide +kernel
theorem dX9_fair_36 : decode cX9_fair 36 = .ok (.iastore, 1) := by decide +kernel
theorem dX9_fair_37 : decode cX9_fair 37 = .ok (.iinc 2 1, 3) := by decide +kernel
theorem dX9_fair_40 : decode cX9_fair 40 = .ok (.goto (-24), 3) := by decide +kernel
theorem dX9_fair_43 : decode cX9_fair 43 = .ok (.aload_n 0, 1) := by decide +kernel
theorem dX9_fair_44 : decode cX9_fair 44 = .ok (.invokevirtual 282, 3) := by decide +kernel
theorem dX9_fair_47 : decode cX9_fair 47 = .ok (.aload_n 0, 1) := by decide +kernel
theorem dX9_fair_48 : decode cX9_fair 48 = .ok (.getfield 43, 3) := by decide +kernel
theorem dX9_fair_51 : decode cX9_fair 51 = .ok (.iload_n 1, 1) := by decide +kernel
theorem dX9_fair_52 : decode cX9_fair 52 = .ok (.iaload, 1) := by decide +kernel
theorem dX9_fair_53 : decode cX9_fair 53 = .ok (.ireturn, 1) := by decide +kernel
theorem dX9_alone_0 : decode cX9_alone 0 = .ok (.aload_n 0, 1) := by decide +kernel
theorem dX9_alone_1 : decode cX9_alone 1 = .ok (.iload_n 1, 1) := by decide +kernel
theorem dX9_alone_2 : decode cX9_alone 2 = .ok (.invokevirtual 213, 3) := by decide +kernel
theorem dX9_alone_5 : decode cX9_alone 5 = .ok (.ifCond .ne 5, 3) := by decide +kernel
theorem dX9_alone_8 : decode cX9_alone 8 = .ok (.iconst (-1), 1) := by decide +kernel
theorem dX9_alone_9 : decode cX9_alone 9 = .ok (.ireturn, 1) := by decide +kernel
theorem dX9_alone_10 : decode cX9_alone 10 = .ok (.aload_n 0, 1) := by decide +kernel
theorem dX9_alone_11 : decode cX9_alone 11 = .ok (.invokevirtual 349, 3) := by decide +kernel
theorem dX9_alone_14 : decode cX9_alone 14 = .ok (.iconst 0, 1) := by decide +kernel
theorem dX9_alone_15 : decode cX9_alone 15 = .ok (.istore_n 2, 1) := by decide +kernel
theorem dX9_alone_16 : decode cX9_alone 16 = .ok (.iload_n 2, 1) := by decide +kernel
theorem dX9_alone_17 : decode cX9_alone 17 = .ok (.aload_n 0, 1) := by decide +kernel
theorem dX9_alone_18 : decode cX9_alone 18 = .ok (.iconst 3, 1) := by decide +kernel
theorem dX9_alone_19 : decode cX9_alone 19 = .ok (.invokevirtual 179, 3) := by decide +kernel
theorem dX9_alone_22 : decode cX9_alone 22 = .ok (.if_icmp .ge 28, 3) := by decide +kernel
theorem dX9_alone_25 : decode cX9_alone 25 = .ok (.iload_n 2, 1) := by decide +kernel
theorem dX9_alone_26 : decode cX9_alone 26 = .ok (.iload_n 1, 1) := by decide +kernel
theorem dX9_alone_27 : decode cX9_alone 27 = .ok (.if_icmp .eq 17, 3) := by decide +kernel
theorem dX9_alone_30 : decode cX9_alone 30 = .ok (.aload_n 0, 1) := by decide +kernel
theorem dX9_alone_31 : decode cX9_alone 31 = .ok (.getfield 9, 3) := by decide +kernel
theorem dX9_alone_34 : decode cX9_alone 34 = .ok (.bipush 108, 2) := by decide +kernel
theorem dX9_alone_36 : decode cX9_alone 36 = .ok (.iconst 4, 1) := by decide +kernel
theorem dX9_alone_37 : decode cX9_alone 37 = .ok (.iload_n 2, 1) := by decide +kernel
theorem dX9_alone_38 : decode cX9_alone 38 = .ok (.imul, 1) := by decide +kernel
theorem dX9_alone_39 : decode cX9_alone 39 = .ok (.iadd, 1) := by decide +kernel
theorem dX9_alone_40 : decode cX9_alone 40 = .ok (.iconst 3, 1) := by decide +kernel
theorem dX9_alone_41 : decode cX9_alone 41 = .ok (.iadd, 1) := by decide +kernel
theorem dX9_alone_42 : decode cX9_alone 42 = .ok (.lconst 0, 1) := by decide +kernel
theorem dX9_alone_43 : decode cX9_alone 43 = .ok (.lastore, 1) := by decide +kernel
theorem dX9_alone_44 : decode cX9_alone 44 = .ok (.iinc 2 1, 3) := by decide +kernel
theorem dX9_alone_47 : decode cX9_alone 47 = .ok (.goto (-31), 3) := by decide +kernel
theorem dX9_alone_50 : decode cX9_alone 50 = .ok (.aload_n 0, 1) := by decide +kernel
theorem dX9_alone_51 : decode cX9_alone 51 = .ok (.invokevirtual 302, 3) := by decide +kernel
theorem dX9_alone_54 : decode cX9_alone 54 = .ok (.aload_n 0, 1) := by decide +kernel
theorem dX9_alone_55 : decode cX9_alone 55 = .ok (.getfield 43, 3) := by decide +kernel
theorem dX9_alone_58 : decode cX9_alone 58 = .ok (.iload_n 1, 1) := by decide +kernel
theorem dX9_alone_59 : decode cX9_alone 59 = .ok (.iaload, 1) := by decide +kernel
theorem dX9_alone_60 : decode cX9_alone 60 = .ok (.istore_n 2, 1) := by decide +kernel
theorem dX9_alone_61 : decode cX9_alone 61 = .ok (.aload_n 0, 1) := by decide +kernel
theorem dX9_alone_62 : decode cX9_alone 62 = .ok (.invokevirtual 352, 3) := by decide +kernel
theorem dX9_alone_65 : decode cX9_alone 65 = .ok (.iload_n 2, 1) := by decide +kernel
theorem dX9_alone_66 : decode cX9_alone 66 = .ok (.ireturn, 1) := by decide +kernel
theorem dX9_log_0 : decode cX9_log 0 = .ok (.iload_n 1, 1) := by decide +kernel
theorem dX9_log_1 : decode cX9_log 1 = .ok (.i2l, 1) := by decide +kernel
theorem dX9_log_2 : decode cX9_log 2 = .ok (.lconst 0, 1) := by decide +kernel
theorem dX9_log_3 : decode cX9_log 3 = .ok (.aload_n 0, 1) := by decide +kernel
theorem dX9_log_4 : decode cX9_log 4 = .ok (.getfield 9, 3) := by decide +kernel
theorem dX9_log_7 : decode cX9_log 7 = .ok (.bipush 11, 2) := by decide +kernel
theorem dX9_log_9 : decode cX9_log 9 = .ok (.laload, 1) := by decide +kernel
theorem dX9_log_10 : decode cX9_log 10 = .ok (.lconst 1, 1) := by decide +kernel
theorem dX9_log_11 : decode cX9_log 11 = .ok (.lsub, 1) := by decide +kernel
theorem dX9_log_12 : decode cX9_log 12 = .ok (.invokestatic 81, 3) := by decide +kernel
theorem dX9_log_15 : decode cX9_log 15 = .ok (.ifCond .eq 30, 3) := by decide +kernel
theorem dX9_log_18 : decode cX9_log 18 = .ok (.aload_n 0, 1) := by decide +kernel
theorem dX9_log_19 : decode cX9_log 19 = .ok (.iload_n 2, 1) := by decide +kernel
theorem dX9_log_20 : decode cX9_log 20 = .ok (.invokevirtual 199, 3) := by decide +kernel
theorem dX9_log_23 : decode cX9_log 23 = .ok (.ifCond .eq 22, 3) := by decide +kernel
theorem dX9_log_26 : decode cX9_log 26 = .ok (.aload_n 0, 1) := by decide +kernel
theorem dX9_log_27 : decode cX9_log 27 = .ok (.getfield 9, 3) := by decide +kernel
theorem dX9_log_30 : decode cX9_log 30 = .ok (.sipush 172, 3) := by decide +kernel
theorem dX9_log_33 : decode cX9_log 33 = .ok (.bipush 6, 2) := by decide +kernel
theorem dX9_log_35 : decode cX9_log 35 = .ok (.iload_n 1, 1) := by decide +kernel
theorem dX9_log_36 : decode cX9_log 36 = .ok (.imul, 1) := by decide +kernel
theorem dX9_log_37 : decode cX9_log 37 = .ok (.iadd, 1) := by decide +kernel
theorem dX9_log_38 : decode cX9_log 38 = .ok (.iload_n 2, 1) := by decide +kernel
theorem dX9_log_39 : decode cX9_log 39 = .ok (.iadd, 1) := by decide +kernel
theorem dX9_log_40 : decode cX9_log 40 = .ok (.laload, 1) := by decide +kernel
theorem dX9_log_41 : decode cX9_log 41 = .ok (.l2i, 1) := by decide +kernel
theorem dX9_log_42 : decode cX9_log 42 = .ok (.goto 6, 3) := by decide +kernel
theorem dX9_log_45 : decode cX9_log 45 = .ok (.ldc_w 355, 3) := by decide +kernel
theorem dX9_log_48 : decode cX9_log 48 = .ok (.ireturn, 1) := by decide +kernel
theorem dX9_order_0 : decode cX9_order 0 = .ok (.iconst 0, 1) := by decide +kernel
theorem dX9_order_1 : decode cX9_order 1 = .ok (.istore_n 2, 1) := by decide +kernel
theorem dX9_order_2 : decode cX9_order 2 = .ok (.iload_n 2, 1) := by decide +kernel
theorem dX9_order_3 : decode cX9_order 3 = .ok (.aload_n 0, 1) := by decide +kernel
theorem dX9_order_4 : decode cX9_order 4 = .ok (.iconst 2, 1) := by decide +kernel
theorem dX9_order_5 : decode cX9_order 5 = .ok (.invokevirtual 179, 3) := by decide +kernel
theorem dX9_order_8 : decode cX9_order 8 = .ok (.if_icmp .ge 88, 3) := by decide +kernel
theorem dX9_order_11 : decode cX9_order 11 = .ok (.iconst 0, 1) := by decide +kernel
theorem dX9_order_12 : decode cX9_order 12 = .ok (.istore_n 3, 1) := by decide +kernel
theorem dX9_order_13 : decode cX9_order 13 = .ok (.iconst 0, 1) := by decide +kernel
theorem dX9_order_14 : decode cX9_order 14 = .ok (.istore 4, 2) := by decide +kernel
theorem dX9_order_16 : decode cX9_order 16 = .ok (.iload 4, 2) := by decide +kernel
theorem dX9_order_18 : decode cX9_order 18 = .ok (.aload_n 0, 1) := by decide +kernel
theorem dX9_order_19 : decode cX9_order 19 = .ok (.iconst 2, 1) := by decide +kernel
theorem dX9_order_20 : decode cX9_order 20 = .ok (.invokevirtual 179, 3) := by decide +kernel
theorem dX9_order_23 : decode cX9_order 23 = .ok (.if_icmp .ge 60, 3) := by decide +kernel
theorem dX9_order_26 : decode cX9_order 26 = .ok (.iload_n 3, 1) := by decide +kernel
theorem dX9_order_27 : decode cX9_order 27 = .ok (.aload_n 0, 1) := by decide +kernel
theorem dX9_order_28 : decode cX9_order 28 = .ok (.iload 4, 2) := by decide +kernel
theorem dX9_order_30 : decode cX9_order 30 = .ok (.iconst 1, 1) := by decide +kernel
theorem dX9_order_31 : decode cX9_order 31 = .ok (.invokevirtual 237, 3) := by decide +kernel
theorem dX9_order_34 : decode cX9_order 34 = .ok (.aload_n 0, 1) := by decide +kernel
theorem dX9_order_35 : decode cX9_order 35 = .ok (.iload_n 2, 1) := by decide +kernel
theorem dX9_order_36 : decode cX9_order 36 = .ok (.iconst 1, 1) := by decide +kernel
theorem dX9_order_37 : decode cX9_order 37 = .ok (.invokevirtual 237, 3) := by decide +kernel
theorem dX9_order_40 : decode cX9_order 40 = .ok (.lcmp, 1) := by decide +kernel
theorem dX9_order_41 : decode cX9_order 41 = .ok (.ifCond .lt 26, 3) := by decide +kernel
theorem dX9_order_44 : decode cX9_order 44 = .ok (.aload_n 0, 1) := by decide +kernel
theorem dX9_order_45 : decode cX9_order 45 = .ok (.iload 4, 2) := by decide +kernel
theorem dX9_order_47 : decode cX9_order 47 = .ok (.iconst 1, 1) := by decide +kernel
theorem dX9_order_48 : decode cX9_order 48 = .ok (.invokevirtual 237, 3) := by decide +kernel
theorem dX9_order_51 : decode cX9_order 51 = .ok (.aload_n 0, 1) := by decide +kernel
theorem dX9_order_52 : decode cX9_order 52 = .ok (.iload_n 2, 1) := by decide +kernel
theorem dX9_order_53 : decode cX9_order 53 = .ok (.iconst 1, 1) := by decide +kernel
theorem dX9_order_54 : decode cX9_order 54 = .ok (.invokevirtual 237, 3) := by decide +kernel
theorem dX9_order_57 : decode cX9_order 57 = .ok (.lcmp, 1) := by decide +kernel
theorem dX9_order_58 : decode cX9_order 58 = .ok (.ifCond .ne 13, 3) := by decide +kernel
theorem dX9_order_61 : decode cX9_order 61 = .ok (.iload 4, 2) := by decide +kernel
theorem dX9_order_63 : decode cX9_order 63 = .ok (.iload_n 2, 1) := by decide +kernel
theorem dX9_order_64 : decode cX9_order 64 = .ok (.if_icmp .ge 7, 3) := by decide +kernel
theorem dX9_order_67 : decode cX9_order 67 = .ok (.iconst 1, 1) := by decide +kernel
theorem dX9_order_68 : decode cX9_order 68 = .ok (.goto 4, 3) := by decide +kernel
theorem dX9_order_71 : decode cX9_order 71 = .ok (.iconst 0, 1) := by decide +kernel
theorem dX9_order_72 : decode cX9_order 72 = .ok (.invokestatic 118, 3) := by decide +kernel
theorem dX9_order_75 : decode cX9_order 75 = .ok (.iadd, 1) := by decide +kernel
theorem dX9_order_76 : decode cX9_order 76 = .ok (.istore_n 3, 1) := by decide +kernel
theorem dX9_order_77 : decode cX9_order 77 = .ok (.iinc 4 1, 3) := by decide +kernel
theorem dX9_order_80 : decode cX9_order 80 = .ok (.goto (-64), 3) := by decide +kernel
theorem dX9_order_83 : decode cX9_order 83 = .ok (.iload_n 3, 1) := by decide +kernel
theorem dX9_order_84 : decode cX9_order 84 = .ok (.iload_n 1, 1) := by decide +kernel
theorem dX9_order_85 : decode cX9_order 85 = .ok (.if_icmp .ne 5, 3) := by decide +kernel
theorem dX9_order_88 : decode cX9_order 88 = .ok (.iload_n 2, 1) := by decide +kernel
theorem dX9_order_89 : decode cX9_order 89 = .ok (.ireturn, 1) := by decide +kernel
theorem dX9_order_90 : decode cX9_order 90 = .ok (.iinc 2 1, 3) := by decide +kernel
theorem dX9_order_93 : decode cX9_order 93 = .ok (.goto (-91), 3) := by decide +kernel
theorem dX9_order_96 : decode cX9_order 96 = .ok (.iconst (-1), 1) := by decide +kernel
theorem dX9_order_97 : decode cX9_order 97 = .ok (.ireturn, 1) := by decide +kernel
theorem dX9_blame_0 : decode cX9_blame 0 = .ok (.aload_n 0, 1) := by decide +kernel
theorem dX9_blame_1 : decode cX9_blame 1 = .ok (.invokevirtual 315, 3) := by decide +kernel
theorem dX9_blame_4 : decode cX9_blame 4 = .ok (.ifCond .ne 5, 3) := by decide +kernel
theorem dX9_blame_7 : decode cX9_blame 7 = .ok (.iconst (-1), 1) := by decide +kernel
theorem dX9_blame_8 : decode cX9_blame 8 = .ok (.ireturn, 1) := by decide +kernel
theorem dX9_blame_9 : decode cX9_blame 9 = .ok (.aload_n 0, 1) := by decide +kernel
theorem dX9_blame_10 : decode cX9_blame 10 = .ok (.invokevirtual 302, 3) := by decide +kernel
theorem dX9_blame_13 : decode cX9_blame 13 = .ok (.iconst 0, 1) := by decide +kernel
theorem dX9_blame_14 : decode cX9_blame 14 = .ok (.istore_n 2, 1) := by decide +kernel
theorem dX9_blame_15 : decode cX9_blame 15 = .ok (.iconst 0, 1) := by decide +kernel
theorem dX9_blame_16 : decode cX9_blame 16 = .ok (.istore_n 3, 1) := by decide +kernel
theorem dX9_blame_17 : decode cX9_blame 17 = .ok (.iload_n 3, 1) := by decide +kernel
theorem dX9_blame_18 : decode cX9_blame 18 = .ok (.aload_n 0, 1) := by decide +kernel
theorem dX9_blame_19 : decode cX9_blame 19 = .ok (.iconst 3, 1) := by decide +kernel
theorem dX9_blame_20 : decode cX9_blame 20 = .ok (.invokevirtual 179, 3) := by decide +kernel
theorem dX9_blame_23 : decode cX9_blame 23 = .ok (.if_icmp .ge 29, 3) := by decide +kernel
theorem dX9_blame_26 : decode cX9_blame 26 = .ok (.iload_n 2, 1) := by decide +kernel
theorem dX9_blame_27 : decode cX9_blame 27 = .ok (.aload_n 0, 1) := by decide +kernel
theorem dX9_blame_28 : decode cX9_blame 28 = .ok (.getfield 46, 3) := by decide +kernel
theorem dX9_blame_31 : decode cX9_blame 31 = .ok (.iload_n 3, 1) := by decide +kernel
theorem dX9_blame_32 : decode cX9_blame 32 = .ok (.iaload, 1) := by decide +kernel
theorem dX9_blame_33 : decode cX9_blame 33 = .ok (.iload_n 1, 1) := by decide +kernel
theorem dX9_blame_34 : decode cX9_blame 34 = .ok (.if_icmp .ne 9, 3) := by decide +kernel
theorem dX9_blame_37 : decode cX9_blame 37 = .ok (.iconst 1, 1) := by decide +kernel
theorem dX9_blame_38 : decode cX9_blame 38 = .ok (.iload_n 3, 1) := by decide +kernel
theorem dX9_blame_39 : decode cX9_blame 39 = .ok (.ishl, 1) := by decide +kernel
theorem dX9_blame_40 : decode cX9_blame 40 = .ok (.goto 4, 3) := by decide +kernel
theorem dX9_blame_43 : decode cX9_blame 43 = .ok (.iconst 0, 1) := by decide +kernel
theorem dX9_blame_44 : decode cX9_blame 44 = .ok (.ior, 1) := by decide +kernel
theorem dX9_blame_45 : decode cX9_blame 45 = .ok (.istore_n 2, 1) := by decide +kernel
theorem dX9_blame_46 : decode cX9_blame 46 = .ok (.iinc 3 1, 3) := by decide +kernel
theorem dX9_blame_49 : decode cX9_blame 49 = .ok (.goto (-32), 3) := by decide +kernel
theorem dX9_blame_52 : decode cX9_blame 52 = .ok (.iload_n 2, 1) := by decide +kernel
theorem dX9_blame_53 : decode cX9_blame 53 = .ok (.ireturn, 1) := by decide +kernel
theorem dX9_nominated_0 : decode cX9_nominated 0 = .ok (.lconst 0, 1) := by decide +kernel
theorem dX9_nominated_1 : decode cX9_nominated 1 = .ok (.lstore_n 2, 1) := by decide +kernel
theorem dX9_nominated_2 : decode cX9_nominated 2 = .ok (.iconst 0, 1) := by decide +kernel
theorem dX9_nominated_3 : decode cX9_nominated 3 = .ok (.istore 4, 2) := by decide +kernel
theorem dX9_nominated_5 : decode cX9_nominated 5 = .ok (.iload 4, 2) := by decide +kernel
theorem dX9_nominated_7 : decode cX9_nominated 7 = .ok (.aload_n 0, 1) := by decide +kernel
theorem dX9_nominated_8 : decode cX9_nominated 8 = .ok (.iconst 3, 1) := by decide +kernel
theorem dX9_nominated_9 : decode cX9_nominated 9 = .ok (.invokevirtual 179, 3) := by decide +kernel
theorem dX9_nominated_12 : decode cX9_nominated 12 = .ok (.if_icmp .ge 40, 3) := by decide +kernel
theorem dX9_nominated_15 : decode cX9_nominated 15 = .ok (.lload_n 2, 1) := by decide +kernel
theorem dX9_nominated_16 : decode cX9_nominated 16 = .ok (.iload_n 1, 1) := by decide +kernel
theorem dX9_nominated_17 : decode cX9_nominated 17 = .ok (.iconst (-1), 1) := by decide +kernel
theorem dX9_nominated_18 : decode cX9_nominated 18 = .ok (.if_icmp .eq 14, 3) := by decide +kernel
theorem dX9_nominated_21 : decode cX9_nominated 21 = .ok (.aload_n 0, 1) := by decide +kernel
theorem dX9_nominated_22 : decode cX9_nominated 22 = .ok (.iload 4, 2) := by decide +kernel
theorem dX9_nominated_24 : decode cX9_nominated 24 = .ok (.iconst 0, 1) := by decide +kernel
theorem dX9_nominated_25 : decode cX9_nominated 25 = .ok (.invokevirtual 259, 3) := by decide +kernel
theorem dX9_nominated_28 : decode cX9_nominated 28 = .ok (.iload_n 1, 1) := by decide +kernel
theorem dX9_nominated_29 : decode cX9_nominated 29 = .ok (.if_icmp .ne 14, 3) := by decide +kernel
theorem dX9_nominated_32 : decode cX9_nominated 32 = .ok (.aload_n 0, 1) := by decide +kernel
theorem dX9_nominated_33 : decode cX9_nominated 33 = .ok (.iload 4, 2) := by decide +kernel
theorem dX9_nominated_35 : decode cX9_nominated 35 = .ok (.iconst 3, 1) := by decide +kernel
theorem dX9_nominated_36 : decode cX9_nominated 36 = .ok (.invokevirtual 259, 3) := by decide +kernel
theorem dX9_nominated_39 : decode cX9_nominated 39 = .ok (.i2l, 1) := by decide +kernel
theorem dX9_nominated_40 : decode cX9_nominated 40 = .ok (.goto 4, 3) := by decide +kernel
theorem dX9_nominated_43 : decode cX9_nominated 43 = .ok (.lconst 0, 1) := by decide +kernel
theorem dX9_nominated_44 : decode cX9_nominated 44 = .ok (.ladd, 1) := by decide +kernel
theorem dX9_nominated_45 : decode cX9_nominated 45 = .ok (.lstore_n 2, 1) := by decide +kernel
theorem dX9_nominated_46 : decode cX9_nominated 46 = .ok (.iinc 4 1, 3) := by decide +kernel
theorem dX9_nominated_49 : decode cX9_nominated 49 = .ok (.goto (-44), 3) := by decide +kernel
theorem dX9_nominated_52 : decode cX9_nominated 52 = .ok (.lload_n 2, 1) := by decide +kernel
theorem dX9_nominated_53 : decode cX9_nominated 53 = .ok (.lreturn, 1) := by decide +kernel
theorem dX9_partOf_0 : decode cX9_partOf 0 = .ok (.lconst 0, 1) := by decide +kernel
theorem dX9_partOf_1 : decode cX9_partOf 1 = .ok (.lstore_n 2, 1) := by decide +kernel
theorem dX9_partOf_2 : decode cX9_partOf 2 = .ok (.iconst 0, 1) := by decide +kernel
theorem dX9_partOf_3 : decode cX9_partOf 3 = .ok (.istore 4, 2) := by decide +kernel
theorem dX9_partOf_5 : decode cX9_partOf 5 = .ok (.iload 4, 2) := by decide +kernel
theorem dX9_partOf_7 : decode cX9_partOf 7 = .ok (.aload_n 0, 1) := by decide +kernel
theorem dX9_partOf_8 : decode cX9_partOf 8 = .ok (.iconst 3, 1) := by decide +kernel
theorem dX9_partOf_9 : decode cX9_partOf 9 = .ok (.invokevirtual 179, 3) := by decide +kernel
theorem dX9_partOf_12 : decode cX9_partOf 12 = .ok (.if_icmp .ge 40, 3) := by decide +kernel
theorem dX9_partOf_15 : decode cX9_partOf 15 = .ok (.lload_n 2, 1) := by decide +kernel
theorem dX9_partOf_16 : decode cX9_partOf 16 = .ok (.iload_n 1, 1) := by decide +kernel
theorem dX9_partOf_17 : decode cX9_partOf 17 = .ok (.iconst (-1), 1) := by decide +kernel
theorem dX9_partOf_18 : decode cX9_partOf 18 = .ok (.if_icmp .eq 14, 3) := by decide +kernel
theorem dX9_partOf_21 : decode cX9_partOf 21 = .ok (.aload_n 0, 1) := by decide +kernel
theorem dX9_partOf_22 : decode cX9_partOf 22 = .ok (.iload 4, 2) := by decide +kernel
theorem dX9_partOf_24 : decode cX9_partOf 24 = .ok (.iconst 0, 1) := by decide +kernel
theorem dX9_partOf_25 : decode cX9_partOf 25 = .ok (.invokevirtual 259, 3) := by decide +kernel
theorem dX9_partOf_28 : decode cX9_partOf 28 = .ok (.iload_n 1, 1) := by decide +kernel
theorem dX9_partOf_29 : decode cX9_partOf 29 = .ok (.if_icmp .ne 14, 3) := by decide +kernel
theorem dX9_partOf_32 : decode cX9_partOf 32 = .ok (.aload_n 0, 1) := by decide +kernel
theorem dX9_partOf_33 : decode cX9_partOf 33 = .ok (.getfield 43, 3) := by decide +kernel
theorem dX9_partOf_36 : decode cX9_partOf 36 = .ok (.iload 4, 2) := by decide +kernel
theorem dX9_partOf_38 : decode cX9_partOf 38 = .ok (.iaload, 1) := by decide +kernel
theorem dX9_partOf_39 : decode cX9_partOf 39 = .ok (.i2l, 1) := by decide +kernel
theorem dX9_partOf_40 : decode cX9_partOf 40 = .ok (.goto 4, 3) := by decide +kernel
theorem dX9_partOf_43 : decode cX9_partOf 43 = .ok (.lconst 0, 1) := by decide +kernel
theorem dX9_partOf_44 : decode cX9_partOf 44 = .ok (.ladd, 1) := by decide +kernel
theorem dX9_partOf_45 : decode cX9_partOf 45 = .ok (.lstore_n 2, 1) := by decide +kernel
theorem dX9_partOf_46 : decode cX9_partOf 46 = .ok (.iinc 4 1, 3) := by decide +kernel
theorem dX9_partOf_49 : decode cX9_partOf 49 = .ok (.goto (-44), 3) := by decide +kernel
theorem dX9_partOf_52 : decode cX9_partOf 52 = .ok (.aload_n 0, 1) := by decide +kernel
theorem dX9_partOf_53 : decode cX9_partOf 53 = .ok (.iload_n 1, 1) := by decide +kernel
theorem dX9_partOf_54 : decode cX9_partOf 54 = .ok (.invokevirtual 356, 3) := by decide +kernel
theorem dX9_partOf_57 : decode cX9_partOf 57 = .ok (.lstore 4, 2) := by decide +kernel
theorem dX9_partOf_59 : decode cX9_partOf 59 = .ok (.lload 4, 2) := by decide +kernel
theorem dX9_partOf_61 : decode cX9_partOf 61 = .ok (.lconst 0, 1) := by decide +kernel
theorem dX9_partOf_62 : decode cX9_partOf 62 = .ok (.lcmp, 1) := by decide +kernel
theorem dX9_partOf_63 : decode cX9_partOf 63 = .ok (.ifCond .ne 9, 3) := by decide +kernel
theorem dX9_partOf_66 : decode cX9_partOf 66 = .ok (.sipush 1000, 3) := by decide +kernel
theorem dX9_partOf_69 : decode cX9_partOf 69 = .ok (.goto 12, 3) := by decide +kernel
theorem dX9_partOf_72 : decode cX9_partOf 72 = .ok (.ldc2_w 285, 3) := by decide +kernel
theorem dX9_partOf_75 : decode cX9_partOf 75 = .ok (.lload_n 2, 1) := by decide +kernel
theorem dX9_partOf_76 : decode cX9_partOf 76 = .ok (.lmul, 1) := by decide +kernel
theorem dX9_partOf_77 : decode cX9_partOf 77 = .ok (.lload 4, 2) := by decide +kernel
theorem dX9_partOf_79 : decode cX9_partOf 79 = .ok (.ldiv, 1) := by decide +kernel
theorem dX9_partOf_80 : decode cX9_partOf 80 = .ok (.l2i, 1) := by decide +kernel
theorem dX9_partOf_81 : decode cX9_partOf 81 = .ok (.ireturn, 1) := by decide +kernel
theorem dX9_part_0 : decode cX9_part 0 = .ok (.aload_n 0, 1) := by decide +kernel
theorem dX9_part_1 : decode cX9_part 1 = .ok (.invokevirtual 315, 3) := by decide +kernel
theorem dX9_part_4 : decode cX9_part 4 = .ok (.ifCond .eq 16, 3) := by decide +kernel
theorem dX9_part_7 : decode cX9_part 7 = .ok (.iload_n 1, 1) := by decide +kernel
theorem dX9_part_8 : decode cX9_part 8 = .ok (.iconst (-1), 1) := by decide +kernel
theorem dX9_part_9 : decode cX9_part 9 = .ok (.if_icmp .eq 13, 3) := by decide +kernel
theorem dX9_part_12 : decode cX9_part 12 = .ok (.aload_n 0, 1) := by decide +kernel
theorem dX9_part_13 : decode cX9_part 13 = .ok (.iload_n 1, 1) := by decide +kernel
theorem dX9_part_14 : decode cX9_part 14 = .ok (.invokevirtual 199, 3) := by decide +kernel
theorem dX9_part_17 : decode cX9_part 17 = .ok (.ifCond .ne 5, 3) := by decide +kernel
theorem dX9_part_20 : decode cX9_part 20 = .ok (.iconst (-1), 1) := by decide +kernel
theorem dX9_part_21 : decode cX9_part 21 = .ok (.ireturn, 1) := by decide +kernel
theorem dX9_part_22 : decode cX9_part 22 = .ok (.aload_n 0, 1) := by decide +kernel
theorem dX9_part_23 : decode cX9_part 23 = .ok (.invokevirtual 302, 3) := by decide +kernel
theorem dX9_part_26 : decode cX9_part 26 = .ok (.aload_n 0, 1) := by decide +kernel
theorem dX9_part_27 : decode cX9_part 27 = .ok (.iload_n 1, 1) := by decide +kernel
theorem dX9_part_28 : decode cX9_part 28 = .ok (.invokevirtual 359, 3) := by decide +kernel
theorem dX9_part_31 : decode cX9_part 31 = .ok (.ireturn, 1) := by decide +kernel
theorem dX9_worst_0 : decode cX9_worst 0 = .ok (.aload_n 0, 1) := by decide +kernel
theorem dX9_worst_1 : decode cX9_worst 1 = .ok (.invokevirtual 315, 3) := by decide +kernel
theorem dX9_worst_4 : decode cX9_worst 4 = .ok (.ifCond .ne 5, 3) := by decide +kernel
theorem dX9_worst_7 : decode cX9_worst 7 = .ok (.iconst (-1), 1) := by decide +kernel
theorem dX9_worst_8 : decode cX9_worst 8 = .ok (.ireturn, 1) := by decide +kernel
theorem dX9_worst_9 : decode cX9_worst 9 = .ok (.aload_n 0, 1) := by decide +kernel
theorem dX9_worst_10 : decode cX9_worst 10 = .ok (.invokevirtual 302, 3) := by decide +kernel
theorem dX9_worst_13 : decode cX9_worst 13 = .ok (.bipush (-2), 2) := by decide +kernel
theorem dX9_worst_15 : decode cX9_worst 15 = .ok (.istore_n 1, 1) := by decide +kernel
theorem dX9_worst_16 : decode cX9_worst 16 = .ok (.iconst 0, 1) := by decide +kernel
theorem dX9_worst_17 : decode cX9_worst 17 = .ok (.istore_n 2, 1) := by decide +kernel
theorem dX9_worst_18 : decode cX9_worst 18 = .ok (.iload_n 2, 1) := by decide +kernel
theorem dX9_worst_19 : decode cX9_worst 19 = .ok (.aload_n 0, 1) := by decide +kernel
theorem dX9_worst_20 : decode cX9_worst 20 = .ok (.iconst 2, 1) := by decide +kernel
theorem dX9_worst_21 : decode cX9_worst 21 = .ok (.invokevirtual 179, 3) := by decide +kernel
theorem dX9_worst_24 : decode cX9_worst 24 = .ok (.if_icmp .ge 40, 3) := by decide +kernel
theorem dX9_worst_27 : decode cX9_worst 27 = .ok (.aload_n 0, 1) := by decide +kernel
theorem dX9_worst_28 : decode cX9_worst 28 = .ok (.iload_n 2, 1) := by decide +kernel
theorem dX9_worst_29 : decode cX9_worst 29 = .ok (.invokevirtual 356, 3) := by decide +kernel
theorem dX9_worst_32 : decode cX9_worst 32 = .ok (.lconst 0, 1) := by decide +kernel
theorem dX9_worst_33 : decode cX9_worst 33 = .ok (.lcmp, 1) := by decide +kernel
theorem dX9_worst_34 : decode cX9_worst 34 = .ok (.ifCond .le 24, 3) := by decide +kernel
theorem dX9_worst_37 : decode cX9_worst 37 = .ok (.iload_n 1, 1) := by decide +kernel
theorem dX9_worst_38 : decode cX9_worst 38 = .ok (.bipush (-2), 2) := by decide +kernel
theorem dX9_worst_40 : decode cX9_worst 40 = .ok (.if_icmp .eq 16, 3) := by decide +kernel
theorem dX9_worst_43 : decode cX9_worst 43 = .ok (.aload_n 0, 1) := by decide +kernel
theorem dX9_worst_44 : decode cX9_worst 44 = .ok (.iload_n 2, 1) := by decide +kernel
theorem dX9_worst_45 : decode cX9_worst 45 = .ok (.invokevirtual 359, 3) := by decide +kernel
theorem dX9_worst_48 : decode cX9_worst 48 = .ok (.aload_n 0, 1) := by decide +kernel
theorem dX9_worst_49 : decode cX9_worst 49 = .ok (.iload_n 1, 1) := by decide +kernel
theorem dX9_worst_50 : decode cX9_worst 50 = .ok (.invokevirtual 359, 3) := by decide +kernel
theorem dX9_worst_53 : decode cX9_worst 53 = .ok (.if_icmp .ge 5, 3) := by decide +kernel
theorem dX9_worst_56 : decode cX9_worst 56 = .ok (.iload_n 2, 1) := by decide +kernel
theorem dX9_worst_57 : decode cX9_worst 57 = .ok (.istore_n 1, 1) := by decide +kernel
theorem dX9_worst_58 : decode cX9_worst 58 = .ok (.iinc 2 1, 3) := by decide +kernel
theorem dX9_worst_61 : decode cX9_worst 61 = .ok (.goto (-43), 3) := by decide +kernel
theorem dX9_worst_64 : decode cX9_worst 64 = .ok (.iload_n 1, 1) := by decide +kernel
theorem dX9_worst_65 : decode cX9_worst 65 = .ok (.ireturn, 1) := by decide +kernel
theorem dX9_firstBalance_0 : decode cX9_firstBalance 0 = .ok (.iconst 0, 1) := by decide +kernel
theorem dX9_firstBalance_1 : decode cX9_firstBalance 1 = .ok (.istore_n 2, 1) := by decide +kernel
theorem dX9_firstBalance_2 : decode cX9_firstBalance 2 = .ok (.iload_n 2, 1) := by decide +kernel
theorem dX9_firstBalance_3 : decode cX9_firstBalance 3 = .ok (.aload_n 0, 1) := by decide +kernel
theorem dX9_firstBalance_4 : decode cX9_firstBalance 4 = .ok (.iconst 2, 1) := by decide +kernel
theorem dX9_firstBalance_5 : decode cX9_firstBalance 5 = .ok (.invokevirtual 179, 3) := by decide +kernel
theorem dX9_firstBalance_8 : decode cX9_firstBalance 8 = .ok (.if_icmp .ge 25, 3) := by decide +kernel
theorem dX9_firstBalance_11 : decode cX9_firstBalance 11 = .ok (.iload_n 1, 1) := by decide +kernel
theorem dX9_firstBalance_12 : decode cX9_firstBalance 12 = .ok (.i2l, 1) := by decide +kernel
theorem dX9_firstBalance_13 : decode cX9_firstBalance 13 = .ok (.aload_n 0, 1) := by decide +kernel
theorem dX9_firstBalance_14 : decode cX9_firstBalance 14 = .ok (.iload_n 2, 1) := by decide +kernel
theorem dX9_firstBalance_15 : decode cX9_firstBalance 15 = .ok (.iconst 4, 1) := by decide +kernel
theorem dX9_firstBalance_16 : decode cX9_firstBalance 16 = .ok (.invokevirtual 237, 3) := by decide +kernel
theorem dX9_firstBalance_19 : decode cX9_firstBalance 19 = .ok (.lmul, 1) := by decide +kernel
theorem dX9_firstBalance_20 : decode cX9_firstBalance 20 = .ok (.lconst 0, 1) := by decide +kernel
theorem dX9_firstBalance_21 : decode cX9_firstBalance 21 = .ok (.lcmp, 1) := by decide +kernel
theorem dX9_firstBalance_22 : decode cX9_firstBalance 22 = .ok (.ifCond .le 5, 3) := by decide +kernel
theorem dX9_firstBalance_25 : decode cX9_firstBalance 25 = .ok (.iload_n 2, 1) := by decide +kernel
theorem dX9_firstBalance_26 : decode cX9_firstBalance 26 = .ok (.ireturn, 1) := by decide +kernel
theorem dX9_firstBalance_27 : decode cX9_firstBalance 27 = .ok (.iinc 2 1, 3) := by decide +kernel
theorem dX9_firstBalance_30 : decode cX9_firstBalance 30 = .ok (.goto (-28), 3) := by decide +kernel
theorem dX9_firstBalance_33 : decode cX9_firstBalance 33 = .ok (.iconst (-1), 1) := by decide +kernel
theorem dX9_firstBalance_34 : decode cX9_firstBalance 34 = .ok (.ireturn, 1) := by decide +kernel
theorem dX9_net_0 : decode cX9_net 0 = .ok (.aload_n 0, 1) := by decide +kernel
theorem dX9_net_1 : decode cX9_net 1 = .ok (.invokevirtual 315, 3) := by decide +kernel
theorem dX9_net_4 : decode cX9_net 4 = .ok (.ifCond .eq 30, 3) := by decide +kernel
theorem dX9_net_7 : decode cX9_net 7 = .ok (.iload_n 1, 1) := by decide +kernel
theorem dX9_net_8 : decode cX9_net 8 = .ok (.iconst (-1), 1) := by decide +kernel
theorem dX9_net_9 : decode cX9_net 9 = .ok (.if_icmp .lt 25, 3) := by decide +kernel
theorem dX9_net_12 : decode cX9_net 12 = .ok (.iload_n 2, 1) := by decide +kernel
theorem dX9_net_13 : decode cX9_net 13 = .ok (.i2l, 1) := by decide +kernel
theorem dX9_net_14 : decode cX9_net 14 = .ok (.lconst 0, 1) := by decide +kernel
theorem dX9_net_15 : decode cX9_net 15 = .ok (.ldc2_w 183, 3) := by decide +kernel
theorem dX9_net_18 : decode cX9_net 18 = .ok (.invokestatic 81, 3) := by decide +kernel
theorem dX9_net_21 : decode cX9_net 21 = .ok (.ifCond .eq 13, 3) := by decide +kernel
theorem dX9_net_24 : decode cX9_net 24 = .ok (.iload_n 1, 1) := by decide +kernel
theorem dX9_net_25 : decode cX9_net 25 = .ok (.iconst (-1), 1) := by decide +kernel
theorem dX9_net_26 : decode cX9_net 26 = .ok (.if_icmp .ne 10, 3) := by decide +kernel
theorem dX9_net_29 : decode cX9_net 29 = .ok (.iload_n 2, 1) := by decide +kernel
theorem dX9_net_30 : decode cX9_net 30 = .ok (.iconst 1, 1) := by decide +kernel
theorem dX9_net_31 : decode cX9_net 31 = .ok (.if_icmp .ne 5, 3) := by decide +kernel
theorem dX9_net_34 : decode cX9_net 34 = .ok (.iconst (-1), 1) := by decide +kernel
theorem dX9_net_35 : decode cX9_net 35 = .ok (.ireturn, 1) := by decide +kernel
theorem dX9_net_36 : decode cX9_net 36 = .ok (.aload_n 0, 1) := by decide +kernel
theorem dX9_net_37 : decode cX9_net 37 = .ok (.invokevirtual 349, 3) := by decide +kernel
theorem dX9_net_40 : decode cX9_net 40 = .ok (.iconst 0, 1) := by decide +kernel
theorem dX9_net_41 : decode cX9_net 41 = .ok (.istore_n 3, 1) := by decide +kernel
theorem dX9_net_42 : decode cX9_net 42 = .ok (.lconst 0, 1) := by decide +kernel
theorem dX9_net_43 : decode cX9_net 43 = .ok (.lstore 4, 2) := by decide +kernel
theorem dX9_net_45 : decode cX9_net 45 = .ok (.bipush (-2), 2) := by decide +kernel
theorem dX9_net_47 : decode cX9_net 47 = .ok (.istore 6, 2) := by decide +kernel
theorem dX9_net_49 : decode cX9_net 49 = .ok (.aload_n 0, 1) := by decide +kernel
theorem dX9_net_50 : decode cX9_net 50 = .ok (.iconst 1, 1) := by decide +kernel
theorem dX9_net_51 : decode cX9_net 51 = .ok (.invokevirtual 362, 3) := by decide +kernel
theorem dX9_net_54 : decode cX9_net 54 = .ok (.istore 7, 2) := by decide +kernel
theorem dX9_net_56 : decode cX9_net 56 = .ok (.aload_n 0, 1) := by decide +kernel
theorem dX9_net_57 : decode cX9_net 57 = .ok (.iconst (-1), 1) := by decide +kernel
theorem dX9_net_58 : decode cX9_net 58 = .ok (.invokevirtual 362, 3) := by decide +kernel
theorem dX9_net_61 : decode cX9_net 61 = .ok (.istore 8, 2) := by decide +kernel
theorem dX9_net_63 : decode cX9_net 63 = .ok (.iload 7, 2) := by decide +kernel
theorem dX9_net_65 : decode cX9_net 65 = .ok (.iconst (-1), 1) := by decide +kernel
theorem dX9_net_66 : decode cX9_net 66 = .ok (.if_icmp .eq 96, 3) := by decide +kernel
theorem dX9_net_69 : decode cX9_net 69 = .ok (.iload 8, 2) := by decide +kernel
theorem dX9_net_71 : decode cX9_net 71 = .ok (.iconst (-1), 1) := by decide +kernel
theorem dX9_net_72 : decode cX9_net 72 = .ok (.if_icmp .eq 90, 3) := by decide +kernel
theorem dX9_net_75 : decode cX9_net 75 = .ok (.aload_n 0, 1) := by decide +kernel
theorem dX9_net_76 : decode cX9_net 76 = .ok (.iload 7, 2) := by decide +kernel
theorem dX9_net_78 : decode cX9_net 78 = .ok (.iconst 4, 1) := by decide +kernel
theorem dX9_net_79 : decode cX9_net 79 = .ok (.invokevirtual 237, 3) := by decide +kernel
theorem dX9_net_82 : decode cX9_net 82 = .ok (.aload_n 0, 1) := by decide +kernel
theorem dX9_net_83 : decode cX9_net 83 = .ok (.iload 8, 2) := by decide +kernel
theorem dX9_net_85 : decode cX9_net 85 = .ok (.iconst 4, 1) := by decide +kernel
theorem dX9_net_86 : decode cX9_net 86 = .ok (.invokevirtual 237, 3) := by decide +kernel
theorem dX9_net_89 : decode cX9_net 89 = .ok (.lneg, 1) := by decide +kernel
theorem dX9_net_90 : decode cX9_net 90 = .ok (.invokestatic 365, 3) := by decide +kernel
theorem dX9_net_93 : decode cX9_net 93 = .ok (.lstore 9, 2) := by decide +kernel
theorem dX9_net_95 : decode cX9_net 95 = .ok (.iload_n 3, 1) := by decide +kernel
theorem dX9_net_96 : decode cX9_net 96 = .ok (.iload_n 1, 1) := by decide +kernel
theorem dX9_net_97 : decode cX9_net 97 = .ok (.if_icmp .ne 27, 3) := by decide +kernel
theorem dX9_net_100 : decode cX9_net 100 = .ok (.iload_n 2, 1) := by decide +kernel
theorem dX9_net_101 : decode cX9_net 101 = .ok (.ifCond .ne 8, 3) := by decide +kernel
theorem dX9_net_104 : decode cX9_net 104 = .ok (.iload 7, 2) := by decide +kernel
theorem dX9_net_106 : decode cX9_net 106 = .ok (.goto 16, 3) := by decide +kernel
theorem dX9_net_109 : decode cX9_net 109 = .ok (.iload_n 2, 1) := by decide +kernel
theorem dX9_net_110 : decode cX9_net 110 = .ok (.iconst 1, 1) := by decide +kernel
theorem dX9_net_111 : decode cX9_net 111 = .ok (.if_icmp .ne 8, 3) := by decide +kernel
theorem dX9_net_114 : decode cX9_net 114 = .ok (.iload 8, 2) := by decide +kernel
theorem dX9_net_116 : decode cX9_net 116 = .ok (.goto 6, 3) := by decide +kernel
theorem dX9_net_119 : decode cX9_net 119 = .ok (.lload 9, 2) := by decide +kernel
theorem dX9_net_121 : decode cX9_net 121 = .ok (.l2i, 1) := by decide +kernel
theorem dX9_net_122 : decode cX9_net 122 = .ok (.istore 6, 2) := by decide +kernel
theorem dX9_net_124 : decode cX9_net 124 = .ok (.aload_n 0, 1) := by decide +kernel
theorem dX9_net_125 : decode cX9_net 125 = .ok (.iload 7, 2) := by decide +kernel
theorem dX9_net_127 : decode cX9_net 127 = .ok (.iload 8, 2) := by decide +kernel
theorem dX9_net_129 : decode cX9_net 129 = .ok (.iconst 4, 1) := by decide +kernel
theorem dX9_net_130 : decode cX9_net 130 = .ok (.lload 9, 2) := by decide +kernel
theorem dX9_net_132 : decode cX9_net 132 = .ok (.invokevirtual 249, 3) := by decide +kernel
theorem dX9_net_135 : decode cX9_net 135 = .ok (.iinc 3 1, 3) := by decide +kernel
theorem dX9_net_138 : decode cX9_net 138 = .ok (.lload 4, 2) := by decide +kernel
theorem dX9_net_140 : decode cX9_net 140 = .ok (.lload 9, 2) := by decide +kernel
theorem dX9_net_142 : decode cX9_net 142 = .ok (.ladd, 1) := by decide +kernel
theorem dX9_net_143 : decode cX9_net 143 = .ok (.lstore 4, 2) := by decide +kernel
theorem dX9_net_145 : decode cX9_net 145 = .ok (.aload_n 0, 1) := by decide +kernel
theorem dX9_net_146 : decode cX9_net 146 = .ok (.iconst 1, 1) := by decide +kernel
theorem dX9_net_147 : decode cX9_net 147 = .ok (.invokevirtual 362, 3) := by decide +kernel
theorem dX9_net_150 : decode cX9_net 150 = .ok (.istore 7, 2) := by decide +kernel
theorem dX9_net_152 : decode cX9_net 152 = .ok (.aload_n 0, 1) := by decide +kernel
theorem dX9_net_153 : decode cX9_net 153 = .ok (.iconst (-1), 1) := by decide +kernel
theorem dX9_net_154 : decode cX9_net 154 = .ok (.invokevirtual 362, 3) := by decide +kernel
theorem dX9_net_157 : decode cX9_net 157 = .ok (.istore 8, 2) := by decide +kernel
theorem dX9_net_159 : decode cX9_net 159 = .ok (.goto (-96), 3) := by decide +kernel
theorem dX9_net_162 : decode cX9_net 162 = .ok (.aload_n 0, 1) := by decide +kernel
theorem dX9_net_163 : decode cX9_net 163 = .ok (.invokevirtual 352, 3) := by decide +kernel
theorem dX9_net_166 : decode cX9_net 166 = .ok (.iload_n 1, 1) := by decide +kernel
theorem dX9_net_167 : decode cX9_net 167 = .ok (.iconst (-1), 1) := by decide +kernel
theorem dX9_net_168 : decode cX9_net 168 = .ok (.if_icmp .eq 8, 3) := by decide +kernel
theorem dX9_net_171 : decode cX9_net 171 = .ok (.iload 6, 2) := by decide +kernel
theorem dX9_net_173 : decode cX9_net 173 = .ok (.goto 14, 3) := by decide +kernel
theorem dX9_net_176 : decode cX9_net 176 = .ok (.iload_n 2, 1) := by decide +kernel
theorem dX9_net_177 : decode cX9_net 177 = .ok (.ifCond .ne 7, 3) := by decide +kernel
theorem dX9_net_180 : decode cX9_net 180 = .ok (.iload_n 3, 1) := by decide +kernel
theorem dX9_net_181 : decode cX9_net 181 = .ok (.goto 6, 3) := by decide +kernel
theorem dX9_net_184 : decode cX9_net 184 = .ok (.lload 4, 2) := by decide +kernel
theorem dX9_net_186 : decode cX9_net 186 = .ok (.l2i, 1) := by decide +kernel
theorem dX9_net_187 : decode cX9_net 187 = .ok (.ireturn, 1) := by decide +kernel
theorem dX9_total_0 : decode cX9_total 0 = .ok (.aload_n 0, 1) := by decide +kernel
theorem dX9_total_1 : decode cX9_total 1 = .ok (.invokevirtual 315, 3) := by decide +kernel
theorem dX9_total_4 : decode cX9_total 4 = .ok (.ifCond .eq 15, 3) := by decide +kernel
theorem dX9_total_7 : decode cX9_total 7 = .ok (.iload_n 1, 1) := by decide +kernel
theorem dX9_total_8 : decode cX9_total 8 = .ok (.i2l, 1) := by decide +kernel
theorem dX9_total_9 : decode cX9_total 9 = .ok (.lconst 0, 1) := by decide +kernel
theorem dX9_total_10 : decode cX9_total 10 = .ok (.ldc2_w 368, 3) := by decide +kernel
theorem dX9_total_13 : decode cX9_total 13 = .ok (.invokestatic 81, 3) := by decide +kernel
theorem dX9_total_16 : decode cX9_total 16 = .ok (.ifCond .ne 7, 3) := by decide +kernel
theorem dX9_total_19 : decode cX9_total 19 = .ok (.ldc2_w 370, 3) := by decide +kernel
theorem dX9_total_22 : decode cX9_total 22 = .ok (.lreturn, 1) := by decide +kernel
theorem dX9_total_23 : decode cX9_total 23 = .ok (.iload_n 1, 1) := by decide +kernel
theorem dX9_total_24 : decode cX9_total 24 = .ok (.iconst 4, 1) := by decide +kernel
theorem dX9_total_25 : decode cX9_total 25 = .ok (.if_icmp .ge 13, 3) := by decide +kernel
theorem dX9_total_28 : decode cX9_total 28 = .ok (.aload_n 0, 1) := by decide +kernel
theorem dX9_total_29 : decode cX9_total 29 = .ok (.getfield 9, 3) := by decide +kernel
theorem dX9_total_32 : decode cX9_total 32 = .ok (.bipush 7, 2) := by decide +kernel
theorem dX9_total_34 : decode cX9_total 34 = .ok (.iload_n 1, 1) := by decide +kernel
theorem dX9_total_35 : decode cX9_total 35 = .ok (.iadd, 1) := by decide +kernel
theorem dX9_total_36 : decode cX9_total 36 = .ok (.laload, 1) := by decide +kernel
theorem dX9_total_37 : decode cX9_total 37 = .ok (.lreturn, 1) := by decide +kernel
theorem dX9_total_38 : decode cX9_total 38 = .ok (.lconst 0, 1) := by decide +kernel
theorem dX9_total_39 : decode cX9_total 39 = .ok (.lstore_n 2, 1) := by decide +kernel
theorem dX9_total_40 : decode cX9_total 40 = .ok (.iconst 0, 1) := by decide +kernel
theorem dX9_total_41 : decode cX9_total 41 = .ok (.istore 4, 2) := by decide +kernel
theorem dX9_total_43 : decode cX9_total 43 = .ok (.iload 4, 2) := by decide +kernel
theorem dX9_total_45 : decode cX9_total 45 = .ok (.aload_n 0, 1) := by decide +kernel
theorem dX9_total_46 : decode cX9_total 46 = .ok (.iconst 2, 1) := by decide +kernel
theorem dX9_total_47 : decode cX9_total 47 = .ok (.invokevirtual 179, 3) := by decide +kernel
theorem dX9_total_50 : decode cX9_total 50 = .ok (.if_icmp .ge 27, 3) := by decide +kernel
theorem dX9_total_53 : decode cX9_total 53 = .ok (.lload_n 2, 1) := by decide +kernel
theorem dX9_total_54 : decode cX9_total 54 = .ok (.aload_n 0, 1) := by decide +kernel
theorem dX9_total_55 : decode cX9_total 55 = .ok (.iload 4, 2) := by decide +kernel
theorem dX9_total_57 : decode cX9_total 57 = .ok (.iconst 4, 1) := by decide +kernel
theorem dX9_total_58 : decode cX9_total 58 = .ok (.invokevirtual 237, 3) := by decide +kernel
theorem dX9_total_61 : decode cX9_total 61 = .ok (.aload_n 0, 1) := by decide +kernel
theorem dX9_total_62 : decode cX9_total 62 = .ok (.iload 4, 2) := by decide +kernel
theorem dX9_total_64 : decode cX9_total 64 = .ok (.iconst 5, 1) := by decide +kernel
theorem dX9_total_65 : decode cX9_total 65 = .ok (.invokevirtual 237, 3) := by decide +kernel
theorem dX9_total_68 : decode cX9_total 68 = .ok (.ladd, 1) := by decide +kernel
theorem dX9_total_69 : decode cX9_total 69 = .ok (.ladd, 1) := by decide +kernel
theorem dX9_total_70 : decode cX9_total 70 = .ok (.lstore_n 2, 1) := by decide +kernel
theorem dX9_total_71 : decode cX9_total 71 = .ok (.iinc 4 1, 3) := by decide +kernel
theorem dX9_total_74 : decode cX9_total 74 = .ok (.goto (-31), 3) := by decide +kernel
theorem dX9_total_77 : decode cX9_total 77 = .ok (.lload_n 2, 1) := by decide +kernel
theorem dX9_total_78 : decode cX9_total 78 = .ok (.lreturn, 1) := by decide +kernel
theorem dX9_price_0 : decode cX9_price 0 = .ok (.aload_n 0, 1) := by decide +kernel
theorem dX9_price_1 : decode cX9_price 1 = .ok (.invokevirtual 315, 3) := by decide +kernel
theorem dX9_price_4 : decode cX9_price 4 = .ok (.ifCond .eq 23, 3) := by decide +kernel
theorem dX9_price_7 : decode cX9_price 7 = .ok (.iload_n 1, 1) := by decide +kernel
theorem dX9_price_8 : decode cX9_price 8 = .ok (.i2l, 1) := by decide +kernel
theorem dX9_price_9 : decode cX9_price 9 = .ok (.lconst 0, 1) := by decide +kernel
theorem dX9_price_10 : decode cX9_price 10 = .ok (.lconst 1, 1) := by decide +kernel
theorem dX9_price_11 : decode cX9_price 11 = .ok (.invokestatic 81, 3) := by decide +kernel
theorem dX9_price_14 : decode cX9_price 14 = .ok (.ifCond .eq 13, 3) := by decide +kernel
theorem dX9_price_17 : decode cX9_price 17 = .ok (.aload_n 0, 1) := by decide +kernel
theorem dX9_price_18 : decode cX9_price 18 = .ok (.iconst 5, 1) := by decide +kernel
theorem dX9_price_19 : decode cX9_price 19 = .ok (.iload_n 1, 1) := by decide +kernel
theorem dX9_price_20 : decode cX9_price 20 = .ok (.iadd, 1) := by decide +kernel
theorem dX9_price_21 : decode cX9_price 21 = .ok (.invokevirtual 179, 3) := by decide +kernel
theorem dX9_price_24 : decode cX9_price 24 = .ok (.goto 4, 3) := by decide +kernel
theorem dX9_price_27 : decode cX9_price 27 = .ok (.iconst (-1), 1) := by decide +kernel
theorem dX9_price_28 : decode cX9_price 28 = .ok (.ireturn, 1) := by decide +kernel
theorem dX9_writes_0 : decode cX9_writes 0 = .ok (.aload_n 0, 1) := by decide +kernel
theorem dX9_writes_1 : decode cX9_writes 1 = .ok (.getfield 372, 3) := by decide +kernel
theorem dX9_writes_4 : decode cX9_writes 4 = .ok (.aload_n 0, 1) := by decide +kernel
theorem dX9_writes_5 : decode cX9_writes 5 = .ok (.getfield 375, 3) := by decide +kernel
theorem dX9_writes_8 : decode cX9_writes 8 = .ok (.if_icmp .ne 8, 3) := by decide +kernel
theorem dX9_writes_11 : decode cX9_writes 11 = .ok (.aload_n 0, 1) := by decide +kernel
theorem dX9_writes_12 : decode cX9_writes 12 = .ok (.iload_n 1, 1) := by decide +kernel
theorem dX9_writes_13 : decode cX9_writes 13 = .ok (.putfield 378, 3) := by decide +kernel
theorem dX9_writes_16 : decode cX9_writes 16 = .ok (.aload_n 0, 1) := by decide +kernel
theorem dX9_writes_17 : decode cX9_writes 17 = .ok (.dup, 1) := by decide +kernel
theorem dX9_writes_18 : decode cX9_writes 18 = .ok (.getfield 372, 3) := by decide +kernel
theorem dX9_writes_21 : decode cX9_writes 21 = .ok (.iconst 1, 1) := by decide +kernel
theorem dX9_writes_22 : decode cX9_writes 22 = .ok (.iadd, 1) := by decide +kernel
theorem dX9_writes_23 : decode cX9_writes 23 = .ok (.putfield 372, 3) := by decide +kernel
theorem dX9_writes_26 : decode cX9_writes 26 = .ok (.return_, 1) := by decide +kernel
theorem dX9_writesWord_0 : decode cX9_writesWord 0 = .ok (.iconst 0, 1) := by decide +kernel
theorem dX9_writesWord_1 : decode cX9_writesWord 1 = .ok (.istore_n 2, 1) := by decide +kernel
theorem dX9_writesWord_2 : decode cX9_writesWord 2 = .ok (.iload_n 2, 1) := by decide +kernel
theorem dX9_writesWord_3 : decode cX9_writesWord 3 = .ok (.aload_n 1, 1) := by decide +kernel
theorem dX9_writesWord_4 : decode cX9_writesWord 4 = .ok (.invokevirtual 85, 3) := by decide +kernel
theorem dX9_writesWord_7 : decode cX9_writesWord 7 = .ok (.if_icmp .ge 18, 3) := by decide +kernel
theorem dX9_writesWord_10 : decode cX9_writesWord 10 = .ok (.aload_n 0, 1) := by decide +kernel
theorem dX9_writesWord_11 : decode cX9_writesWord 11 = .ok (.aload_n 1, 1) := by decide +kernel
theorem dX9_writesWord_12 : decode cX9_writesWord 12 = .ok (.iload_n 2, 1) := by decide +kernel
theorem dX9_writesWord_13 : decode cX9_writesWord 13 = .ok (.invokevirtual 90, 3) := by decide +kernel
theorem dX9_writesWord_16 : decode cX9_writesWord 16 = .ok (.invokevirtual 381, 3) := by decide +kernel
theorem dX9_writesWord_19 : decode cX9_writesWord 19 = .ok (.iinc 2 1, 3) := by decide +kernel
theorem dX9_writesWord_22 : decode cX9_writesWord 22 = .ok (.goto (-20), 3) := by decide +kernel
theorem dX9_writesWord_25 : decode cX9_writesWord 25 = .ok (.return_, 1) := by decide +kernel
theorem dX9_writesDigits_0 : decode cX9_writesDigits 0 = .ok (.iload_n 1, 1) := by decide +kernel
theorem dX9_writesDigits_1 : decode cX9_writesDigits 1 = .ok (.bipush 9, 2) := by decide +kernel
theorem dX9_writesDigits_3 : decode cX9_writesDigits 3 = .ok (.if_icmp .le 11, 3) := by decide +kernel
theorem dX9_writesDigits_6 : decode cX9_writesDigits 6 = .ok (.aload_n 0, 1) := by decide +kernel
theorem dX9_writesDigits_7 : decode cX9_writesDigits 7 = .ok (.iload_n 1, 1) := by decide +kernel
theorem dX9_writesDigits_8 : decode cX9_writesDigits 8 = .ok (.bipush 10, 2) := by decide +kernel
theorem dX9_writesDigits_10 : decode cX9_writesDigits 10 = .ok (.idiv, 1) := by decide +kernel
theorem dX9_writesDigits_11 : decode cX9_writesDigits 11 = .ok (.invokevirtual 384, 3) := by decide +kernel
theorem dX9_writesDigits_14 : decode cX9_writesDigits 14 = .ok (.aload_n 0, 1) := by decide +kernel
theorem dX9_writesDigits_15 : decode cX9_writesDigits 15 = .ok (.bipush 48, 2) := by decide +kernel
theorem dX9_writesDigits_17 : decode cX9_writesDigits 17 = .ok (.iload_n 1, 1) := by decide +kernel
theorem dX9_writesDigits_18 : decode cX9_writesDigits 18 = .ok (.bipush 10, 2) := by decide +kernel
theorem dX9_writesDigits_20 : decode cX9_writesDigits 20 = .ok (.irem, 1) := by decide +kernel
theorem dX9_writesDigits_21 : decode cX9_writesDigits 21 = .ok (.iadd, 1) := by decide +kernel
theorem dX9_writesDigits_22 : decode cX9_writesDigits 22 = .ok (.invokevirtual 381, 3) := by decide +kernel
theorem dX9_writesDigits_25 : decode cX9_writesDigits 25 = .ok (.return_, 1) := by decide +kernel
theorem dX9_writesNumber_0 : decode cX9_writesNumber 0 = .ok (.aload_n 0, 1) := by decide +kernel
theorem dX9_writesNumber_1 : decode cX9_writesNumber 1 = .ok (.bipush 32, 2) := by decide +kernel
theorem dX9_writesNumber_3 : decode cX9_writesNumber 3 = .ok (.invokevirtual 381, 3) := by decide +kernel
theorem dX9_writesNumber_6 : decode cX9_writesNumber 6 = .ok (.aload_n 0, 1) := by decide +kernel
theorem dX9_writesNumber_7 : decode cX9_writesNumber 7 = .ok (.iload_n 1, 1) := by decide +kernel
theorem dX9_writesNumber_8 : decode cX9_writesNumber 8 = .ok (.invokevirtual 384, 3) := by decide +kernel
theorem dX9_writesNumber_11 : decode cX9_writesNumber 11 = .ok (.return_, 1) := by decide +kernel
theorem dX9_writesNomination_0 : decode cX9_writesNomination 0 = .ok (.aload_n 0, 1) := by decide +kernel
theorem dX9_writesNomination_1 : decode cX9_writesNomination 1 = .ok (.iload_n 1, 1) := by decide +kernel
theorem dX9_writesNomination_2 : decode cX9_writesNomination 2 = .ok (.iconst 2, 1) := by decide +kernel
theorem dX9_writesNomination_3 : decode cX9_writesNomination 3 = .ok (.invokevirtual 259, 3) := by decide +kernel
theorem dX9_writesNomination_6 : decode cX9_writesNomination 6 = .ok (.iconst (-1), 1) := by decide +kernel
theorem dX9_writesNomination_7 : decode cX9_writesNomination 7 = .ok (.if_icmp .ne 7, 3) := by decide +kernel
theorem dX9_writesNomination_10 : decode cX9_writesNomination 10 = .ok (.iconst 1, 1) := by decide +kernel
theorem dX9_writesNomination_11 : decode cX9_writesNomination 11 = .ok (.goto 4, 3) := by decide +kernel
theorem dX9_writesNomination_14 : decode cX9_writesNomination 14 = .ok (.iconst 0, 1) := by decide +kernel
theorem dX9_writesNomination_15 : decode cX9_writesNomination 15 = .ok (.istore_n 2, 1) := by decide +kernel
theorem dX9_writesNomination_16 : decode cX9_writesNomination 16 = .ok (.aload_n 0, 1) := by decide +kernel
theorem dX9_writesNomination_17 : decode cX9_writesNomination 17 = .ok (.iload_n 1, 1) := by decide +kernel
theorem dX9_writesNomination_18 : decode cX9_writesNomination 18 = .ok (.iconst 1, 1) := by decide +kernel
theorem dX9_writesNomination_19 : decode cX9_writesNomination 19 = .ok (.invokevirtual 259, 3) := by decide +kernel
theorem dX9_writesNomination_22 : decode cX9_writesNomination 22 = .ok (.iconst (-1), 1) := by decide +kernel
theorem dX9_writesNomination_23 : decode cX9_writesNomination 23 = .ok (.if_icmp .ne 7, 3) := by decide +kernel
theorem dX9_writesNomination_26 : decode cX9_writesNomination 26 = .ok (.iconst 1, 1) := by decide +kernel
theorem dX9_writesNomination_27 : decode cX9_writesNomination 27 = .ok (.goto 4, 3) := by decide +kernel
theorem dX9_writesNomination_30 : decode cX9_writesNomination 30 = .ok (.iconst 0, 1) := by decide +kernel
theorem dX9_writesNomination_31 : decode cX9_writesNomination 31 = .ok (.istore_n 3, 1) := by decide +kernel
theorem dX9_writesNomination_32 : decode cX9_writesNomination 32 = .ok (.aload_n 0, 1) := by decide +kernel
theorem dX9_writesNomination_33 : decode cX9_writesNomination 33 = .ok (.iload_n 2, 1) := by decide +kernel
theorem dX9_writesNomination_34 : decode cX9_writesNomination 34 = .ok (.ifCond .eq 9, 3) := by decide +kernel
theorem dX9_writesNomination_37 : decode cX9_writesNomination 37 = .ok (.ldc_w 387, 3) := by decide +kernel
theorem dX9_writesNomination_40 : decode cX9_writesNomination 40 = .ok (.goto 16, 3) := by decide +kernel
theorem dX9_writesNomination_43 : decode cX9_writesNomination 43 = .ok (.iload_n 3, 1) := by decide +kernel
theorem dX9_writesNomination_44 : decode cX9_writesNomination 44 = .ok (.ifCond .eq 9, 3) := by decide +kernel
theorem dX9_writesNomination_47 : decode cX9_writesNomination 47 = .ok (.ldc_w 389, 3) := by decide +kernel
theorem dX9_writesNomination_50 : decode cX9_writesNomination 50 = .ok (.goto 6, 3) := by decide +kernel
theorem dX9_writesNomination_53 : decode cX9_writesNomination 53 = .ok (.ldc_w 391, 3) := by decide +kernel
theorem dX9_writesNomination_56 : decode cX9_writesNomination 56 = .ok (.invokevirtual 393, 3) := by decide +kernel
theorem dX9_writesNomination_59 : decode cX9_writesNomination 59 = .ok (.iconst 0, 1) := by decide +kernel
theorem dX9_writesNomination_60 : decode cX9_writesNomination 60 = .ok (.istore 4, 2) := by decide +kernel
theorem dX9_writesNomination_62 : decode cX9_writesNomination 62 = .ok (.iload 4, 2) := by decide +kernel
theorem dX9_writesNomination_64 : decode cX9_writesNomination 64 = .ok (.iconst 4, 1) := by decide +kernel
theorem dX9_writesNomination_65 : decode cX9_writesNomination 65 = .ok (.if_icmp .ge 37, 3) := by decide +kernel
theorem dX9_writesNomination_68 : decode cX9_writesNomination 68 = .ok (.aload_n 0, 1) := by decide +kernel
theorem dX9_writesNomination_69 : decode cX9_writesNomination 69 = .ok (.iload_n 1, 1) := by decide +kernel
theorem dX9_writesNomination_70 : decode cX9_writesNomination 70 = .ok (.iload 4, 2) := by decide +kernel
theorem dX9_writesNomination_72 : decode cX9_writesNomination 72 = .ok (.invokevirtual 259, 3) := by decide +kernel
theorem dX9_writesNomination_75 : decode cX9_writesNomination 75 = .ok (.iconst (-1), 1) := by decide +kernel
theorem dX9_writesNomination_76 : decode cX9_writesNomination 76 = .ok (.if_icmp .ne 9, 3) := by decide +kernel
theorem dX9_writesNomination_79 : decode cX9_writesNomination 79 = .ok (.iload 4, 2) := by decide +kernel
theorem dX9_writesNomination_81 : decode cX9_writesNomination 81 = .ok (.iconst 3, 1) := by decide +kernel
theorem dX9_writesNomination_82 : decode cX9_writesNomination 82 = .ok (.if_icmp .ne 14, 3) := by decide +kernel
theorem dX9_writesNomination_85 : decode cX9_writesNomination 85 = .ok (.aload_n 0, 1) := by decide +kernel
theorem dX9_writesNomination_86 : decode cX9_writesNomination 86 = .ok (.aload_n 0, 1) := by decide +kernel
theorem dX9_writesNomination_87 : decode cX9_writesNomination 87 = .ok (.iload_n 1, 1) := by decide +kernel
theorem dX9_writesNomination_88 : decode cX9_writesNomination 88 = .ok (.iload 4, 2) := by decide +kernel
theorem dX9_writesNomination_90 : decode cX9_writesNomination 90 = .ok (.invokevirtual 259, 3) := by decide +kernel
theorem dX9_writesNomination_93 : decode cX9_writesNomination 93 = .ok (.invokevirtual 397, 3) := by decide +kernel
theorem dX9_writesNomination_96 : decode cX9_writesNomination 96 = .ok (.iinc 4 1, 3) := by decide +kernel
theorem dX9_writesNomination_99 : decode cX9_writesNomination 99 = .ok (.goto (-37), 3) := by decide +kernel
theorem dX9_writesNomination_102 : decode cX9_writesNomination 102 = .ok (.return_, 1) := by decide +kernel
theorem dX9_writesAll_0 : decode cX9_writesAll 0 = .ok (.aload_n 0, 1) := by decide +kernel
theorem dX9_writesAll_1 : decode cX9_writesAll 1 = .ok (.ldc 165, 2) := by decide +kernel
theorem dX9_writesAll_3 : decode cX9_writesAll 3 = .ok (.invokevirtual 393, 3) := by decide +kernel
theorem dX9_writesAll_6 : decode cX9_writesAll 6 = .ok (.aload_n 0, 1) := by decide +kernel
theorem dX9_writesAll_7 : decode cX9_writesAll 7 = .ok (.aload_n 0, 1) := by decide +kernel
theorem dX9_writesAll_8 : decode cX9_writesAll 8 = .ok (.iconst 0, 1) := by decide +kernel
theorem dX9_writesAll_9 : decode cX9_writesAll 9 = .ok (.invokevirtual 179, 3) := by decide +kernel
theorem dX9_writesAll_12 : decode cX9_writesAll 12 = .ok (.invokevirtual 397, 3) := by decide +kernel
theorem dX9_writesAll_15 : decode cX9_writesAll 15 = .ok (.iconst 0, 1) := by decide +kernel
theorem dX9_writesAll_16 : decode cX9_writesAll 16 = .ok (.istore_n 1, 1) := by decide +kernel
theorem dX9_writesAll_17 : decode cX9_writesAll 17 = .ok (.iload_n 1, 1) := by decide +kernel
theorem dX9_writesAll_18 : decode cX9_writesAll 18 = .ok (.iconst 1, 1) := by decide +kernel
theorem dX9_writesAll_19 : decode cX9_writesAll 19 = .ok (.iadd, 1) := by decide +kernel
theorem dX9_writesAll_20 : decode cX9_writesAll 20 = .ok (.aload_n 0, 1) := by decide +kernel
theorem dX9_writesAll_21 : decode cX9_writesAll 21 = .ok (.iconst 0, 1) := by decide +kernel
theorem dX9_writesAll_22 : decode cX9_writesAll 22 = .ok (.invokevirtual 179, 3) := by decide +kernel
theorem dX9_writesAll_25 : decode cX9_writesAll 25 = .ok (.if_icmp .ge 41, 3) := by decide +kernel
theorem dX9_writesAll_28 : decode cX9_writesAll 28 = .ok (.aload_n 0, 1) := by decide +kernel
theorem dX9_writesAll_29 : decode cX9_writesAll 29 = .ok (.ldc_w 400, 3) := by decide +kernel
theorem dX9_writesAll_32 : decode cX9_writesAll 32 = .ok (.invokevirtual 393, 3) := by decide +kernel
theorem dX9_writesAll_35 : decode cX9_writesAll 35 = .ok (.aload_n 0, 1) := by decide +kernel
theorem dX9_writesAll_36 : decode cX9_writesAll 36 = .ok (.iload_n 1, 1) := by decide +kernel
theorem dX9_writesAll_37 : decode cX9_writesAll 37 = .ok (.invokevirtual 397, 3) := by decide +kernel
theorem dX9_writesAll_40 : decode cX9_writesAll 40 = .ok (.aload_n 0, 1) := by decide +kernel
theorem dX9_writesAll_41 : decode cX9_writesAll 41 = .ok (.aload_n 0, 1) := by decide +kernel
theorem dX9_writesAll_42 : decode cX9_writesAll 42 = .ok (.iload_n 1, 1) := by decide +kernel
theorem dX9_writesAll_43 : decode cX9_writesAll 43 = .ok (.iconst 0, 1) := by decide +kernel
theorem dX9_writesAll_44 : decode cX9_writesAll 44 = .ok (.invokevirtual 256, 3) := by decide +kernel
theorem dX9_writesAll_47 : decode cX9_writesAll 47 = .ok (.invokevirtual 397, 3) := by decide +kernel
theorem dX9_writesAll_50 : decode cX9_writesAll 50 = .ok (.aload_n 0, 1) := by decide +kernel
theorem dX9_writesAll_51 : decode cX9_writesAll 51 = .ok (.aload_n 0, 1) := by decide +kernel
theorem dX9_writesAll_52 : decode cX9_writesAll 52 = .ok (.iload_n 1, 1) := by decide +kernel
theorem dX9_writesAll_53 : decode cX9_writesAll 53 = .ok (.iconst 1, 1) := by decide +kernel
theorem dX9_writesAll_54 : decode cX9_writesAll 54 = .ok (.invokevirtual 256, 3) := by decide +kernel
theorem dX9_writesAll_57 : decode cX9_writesAll 57 = .ok (.invokevirtual 397, 3) := by decide +kernel
theorem dX9_writesAll_60 : decode cX9_writesAll 60 = .ok (.iinc 1 1, 3) := by decide +kernel
theorem dX9_writesAll_63 : decode cX9_writesAll 63 = .ok (.goto (-46), 3) := by decide +kernel
theorem dX9_writesAll_66 : decode cX9_writesAll 66 = .ok (.iconst 0, 1) := by decide +kernel
theorem dX9_writesAll_67 : decode cX9_writesAll 67 = .ok (.istore_n 1, 1) := by decide +kernel
theorem dX9_writesAll_68 : decode cX9_writesAll 68 = .ok (.iload_n 1, 1) := by decide +kernel
theorem dX9_writesAll_69 : decode cX9_writesAll 69 = .ok (.aload_n 0, 1) := by decide +kernel
theorem dX9_writesAll_70 : decode cX9_writesAll 70 = .ok (.iconst 1, 1) := by decide +kernel
theorem dX9_writesAll_71 : decode cX9_writesAll 71 = .ok (.invokevirtual 179, 3) := by decide +kernel
theorem dX9_writesAll_74 : decode cX9_writesAll 74 = .ok (.if_icmp .ge 52, 3) := by decide +kernel
theorem dX9_writesAll_77 : decode cX9_writesAll 77 = .ok (.aload_n 0, 1) := by decide +kernel
theorem dX9_writesAll_78 : decode cX9_writesAll 78 = .ok (.aload_n 0, 1) := by decide +kernel
theorem dX9_writesAll_79 : decode cX9_writesAll 79 = .ok (.iload_n 1, 1) := by decide +kernel
theorem dX9_writesAll_80 : decode cX9_writesAll 80 = .ok (.iconst 1, 1) := by decide +kernel
theorem dX9_writesAll_81 : decode cX9_writesAll 81 = .ok (.invokevirtual 189, 3) := by decide +kernel
theorem dX9_writesAll_84 : decode cX9_writesAll 84 = .ok (.iconst 1, 1) := by decide +kernel
theorem dX9_writesAll_85 : decode cX9_writesAll 85 = .ok (.if_icmp .ne 9, 3) := by decide +kernel
theorem dX9_writesAll_88 : decode cX9_writesAll 88 = .ok (.ldc_w 402, 3) := by decide +kernel
theorem dX9_writesAll_91 : decode cX9_writesAll 91 = .ok (.goto 6, 3) := by decide +kernel
theorem dX9_writesAll_94 : decode cX9_writesAll 94 = .ok (.ldc_w 404, 3) := by decide +kernel
theorem dX9_writesAll_97 : decode cX9_writesAll 97 = .ok (.invokevirtual 393, 3) := by decide +kernel
theorem dX9_writesAll_100 : decode cX9_writesAll 100 = .ok (.aload_n 0, 1) := by decide +kernel
theorem dX9_writesAll_101 : decode cX9_writesAll 101 = .ok (.aload_n 0, 1) := by decide +kernel
theorem dX9_writesAll_102 : decode cX9_writesAll 102 = .ok (.iload_n 1, 1) := by decide +kernel
theorem dX9_writesAll_103 : decode cX9_writesAll 103 = .ok (.iconst 0, 1) := by decide +kernel
theorem dX9_writesAll_104 : decode cX9_writesAll 104 = .ok (.invokevirtual 189, 3) := by decide +kernel
theorem dX9_writesAll_107 : decode cX9_writesAll 107 = .ok (.invokevirtual 397, 3) := by decide +kernel
theorem dX9_writesAll_110 : decode cX9_writesAll 110 = .ok (.aload_n 0, 1) := by decide +kernel
theorem dX9_writesAll_111 : decode cX9_writesAll 111 = .ok (.aload_n 0, 1) := by decide +kernel
theorem dX9_writesAll_112 : decode cX9_writesAll 112 = .ok (.iload_n 1, 1) := by decide +kernel
theorem dX9_writesAll_113 : decode cX9_writesAll 113 = .ok (.iconst 2, 1) := by decide +kernel
theorem dX9_writesAll_114 : decode cX9_writesAll 114 = .ok (.invokevirtual 189, 3) := by decide +kernel
theorem dX9_writesAll_117 : decode cX9_writesAll 117 = .ok (.invokevirtual 397, 3) := by decide +kernel
theorem dX9_writesAll_120 : decode cX9_writesAll 120 = .ok (.iinc 1 1, 3) := by decide +kernel
theorem dX9_writesAll_123 : decode cX9_writesAll 123 = .ok (.goto (-55), 3) := by decide +kernel
theorem dX9_writesAll_126 : decode cX9_writesAll 126 = .ok (.iconst 0, 1) := by decide +kernel
theorem dX9_writesAll_127 : decode cX9_writesAll 127 = .ok (.istore_n 1, 1) := by decide +kernel
theorem dX9_writesAll_128 : decode cX9_writesAll 128 = .ok (.iload_n 1, 1) := by decide +kernel
theorem dX9_writesAll_129 : decode cX9_writesAll 129 = .ok (.aload_n 0, 1) := by decide +kernel
theorem dX9_writesAll_130 : decode cX9_writesAll 130 = .ok (.iconst 2, 1) := by decide +kernel
theorem dX9_writesAll_131 : decode cX9_writesAll 131 = .ok (.invokevirtual 179, 3) := by decide +kernel
theorem dX9_writesAll_134 : decode cX9_writesAll 134 = .ok (.if_icmp .ge 40, 3) := by decide +kernel
theorem dX9_writesAll_137 : decode cX9_writesAll 137 = .ok (.aload_n 0, 1) := by decide +kernel
theorem dX9_writesAll_138 : decode cX9_writesAll 138 = .ok (.ldc_w 406, 3) := by decide +kernel
theorem dX9_writesAll_141 : decode cX9_writesAll 141 = .ok (.invokevirtual 393, 3) := by decide +kernel
theorem dX9_writesAll_144 : decode cX9_writesAll 144 = .ok (.iconst 0, 1) := by decide +kernel
theorem dX9_writesAll_145 : decode cX9_writesAll 145 = .ok (.istore_n 2, 1) := by decide +kernel
theorem dX9_writesAll_146 : decode cX9_writesAll 146 = .ok (.iload_n 2, 1) := by decide +kernel
theorem dX9_writesAll_147 : decode cX9_writesAll 147 = .ok (.iconst 4, 1) := by decide +kernel
theorem dX9_writesAll_148 : decode cX9_writesAll 148 = .ok (.if_icmp .ge 20, 3) := by decide +kernel
theorem dX9_writesAll_151 : decode cX9_writesAll 151 = .ok (.aload_n 0, 1) := by decide +kernel
theorem dX9_writesAll_152 : decode cX9_writesAll 152 = .ok (.aload_n 0, 1) := by decide +kernel
theorem dX9_writesAll_153 : decode cX9_writesAll 153 = .ok (.iload_n 1, 1) := by decide +kernel
theorem dX9_writesAll_154 : decode cX9_writesAll 154 = .ok (.iload_n 2, 1) := by decide +kernel
theorem dX9_writesAll_155 : decode cX9_writesAll 155 = .ok (.invokevirtual 237, 3) := by decide +kernel
theorem dX9_writesAll_158 : decode cX9_writesAll 158 = .ok (.l2i, 1) := by decide +kernel
theorem dX9_writesAll_159 : decode cX9_writesAll 159 = .ok (.invokevirtual 397, 3) := by decide +kernel
theorem dX9_writesAll_162 : decode cX9_writesAll 162 = .ok (.iinc 2 1, 3) := by decide +kernel
theorem dX9_writesAll_165 : decode cX9_writesAll 165 = .ok (.goto (-19), 3) := by decide +kernel
theorem dX9_writesAll_168 : decode cX9_writesAll 168 = .ok (.iinc 1 1, 3) := by decide +kernel
theorem dX9_writesAll_171 : decode cX9_writesAll 171 = .ok (.goto (-43), 3) := by decide +kernel
theorem dX9_writesAll_174 : decode cX9_writesAll 174 = .ok (.iconst 0, 1) := by decide +kernel
theorem dX9_writesAll_175 : decode cX9_writesAll 175 = .ok (.istore_n 1, 1) := by decide +kernel
theorem dX9_writesAll_176 : decode cX9_writesAll 176 = .ok (.iload_n 1, 1) := by decide +kernel
theorem dX9_writesAll_177 : decode cX9_writesAll 177 = .ok (.aload_n 0, 1) := by decide +kernel
theorem dX9_writesAll_178 : decode cX9_writesAll 178 = .ok (.iconst 3, 1) := by decide +kernel
theorem dX9_writesAll_179 : decode cX9_writesAll 179 = .ok (.invokevirtual 179, 3) := by decide +kernel
theorem dX9_writesAll_182 : decode cX9_writesAll 182 = .ok (.if_icmp .ge 14, 3) := by decide +kernel
theorem dX9_writesAll_185 : decode cX9_writesAll 185 = .ok (.aload_n 0, 1) := by decide +kernel
theorem dX9_writesAll_186 : decode cX9_writesAll 186 = .ok (.iload_n 1, 1) := by decide +kernel
theorem dX9_writesAll_187 : decode cX9_writesAll 187 = .ok (.invokevirtual 408, 3) := by decide +kernel
theorem dX9_writesAll_190 : decode cX9_writesAll 190 = .ok (.iinc 1 1, 3) := by decide +kernel
theorem dX9_writesAll_193 : decode cX9_writesAll 193 = .ok (.goto (-17), 3) := by decide +kernel
theorem dX9_writesAll_196 : decode cX9_writesAll 196 = .ok (.aload_n 0, 1) := by decide +kernel
theorem dX9_writesAll_197 : decode cX9_writesAll 197 = .ok (.ldc_w 411, 3) := by decide +kernel
theorem dX9_writesAll_200 : decode cX9_writesAll 200 = .ok (.invokevirtual 393, 3) := by decide +kernel
theorem dX9_writesAll_203 : decode cX9_writesAll 203 = .ok (.aload_n 0, 1) := by decide +kernel
theorem dX9_writesAll_204 : decode cX9_writesAll 204 = .ok (.aload_n 0, 1) := by decide +kernel
theorem dX9_writesAll_205 : decode cX9_writesAll 205 = .ok (.iconst 5, 1) := by decide +kernel
theorem dX9_writesAll_206 : decode cX9_writesAll 206 = .ok (.invokevirtual 179, 3) := by decide +kernel
theorem dX9_writesAll_209 : decode cX9_writesAll 209 = .ok (.invokevirtual 397, 3) := by decide +kernel
theorem dX9_writesAll_212 : decode cX9_writesAll 212 = .ok (.aload_n 0, 1) := by decide +kernel
theorem dX9_writesAll_213 : decode cX9_writesAll 213 = .ok (.aload_n 0, 1) := by decide +kernel
theorem dX9_writesAll_214 : decode cX9_writesAll 214 = .ok (.bipush 6, 2) := by decide +kernel
theorem dX9_writesAll_216 : decode cX9_writesAll 216 = .ok (.invokevirtual 179, 3) := by decide +kernel
theorem dX9_writesAll_219 : decode cX9_writesAll 219 = .ok (.invokevirtual 397, 3) := by decide +kernel
theorem dX9_writesAll_222 : decode cX9_writesAll 222 = .ok (.return_, 1) := by decide +kernel
theorem dX9_letter_0 : decode cX9_letter 0 = .ok (.iload_n 1, 1) := by decide +kernel
theorem dX9_letter_1 : decode cX9_letter 1 = .ok (.iconst (-1), 1) := by decide +kernel
theorem dX9_letter_2 : decode cX9_letter 2 = .ok (.if_icmp .ge 5, 3) := by decide +kernel
theorem dX9_letter_5 : decode cX9_letter 5 = .ok (.iconst (-1), 1) := by decide +kernel
theorem dX9_letter_6 : decode cX9_letter 6 = .ok (.ireturn, 1) := by decide +kernel
theorem dX9_letter_7 : decode cX9_letter 7 = .ok (.aload_n 0, 1) := by decide +kernel
theorem dX9_letter_8 : decode cX9_letter 8 = .ok (.iconst 0, 1) := by decide +kernel
theorem dX9_letter_9 : decode cX9_letter 9 = .ok (.putfield 372, 3) := by decide +kernel
theorem dX9_letter_12 : decode cX9_letter 12 = .ok (.aload_n 0, 1) := by decide +kernel
theorem dX9_letter_13 : decode cX9_letter 13 = .ok (.iload_n 1, 1) := by decide +kernel
theorem dX9_letter_14 : decode cX9_letter 14 = .ok (.putfield 375, 3) := by decide +kernel
theorem dX9_letter_17 : decode cX9_letter 17 = .ok (.aload_n 0, 1) := by decide +kernel
theorem dX9_letter_18 : decode cX9_letter 18 = .ok (.invokevirtual 315, 3) := by decide +kernel
theorem dX9_letter_21 : decode cX9_letter 21 = .ok (.ifCond .eq 7, 3) := by decide +kernel
theorem dX9_letter_24 : decode cX9_letter 24 = .ok (.aload_n 0, 1) := by decide +kernel
theorem dX9_letter_25 : decode cX9_letter 25 = .ok (.invokevirtual 413, 3) := by decide +kernel
theorem dX9_letter_28 : decode cX9_letter 28 = .ok (.iload_n 1, 1) := by decide +kernel
theorem dX9_letter_29 : decode cX9_letter 29 = .ok (.iconst (-1), 1) := by decide +kernel
theorem dX9_letter_30 : decode cX9_letter 30 = .ok (.if_icmp .ne 10, 3) := by decide +kernel
theorem dX9_letter_33 : decode cX9_letter 33 = .ok (.aload_n 0, 1) := by decide +kernel
theorem dX9_letter_34 : decode cX9_letter 34 = .ok (.getfield 372, 3) := by decide +kernel
theorem dX9_letter_37 : decode cX9_letter 37 = .ok (.goto 20, 3) := by decide +kernel
theorem dX9_letter_40 : decode cX9_letter 40 = .ok (.iload_n 1, 1) := by decide +kernel
theorem dX9_letter_41 : decode cX9_letter 41 = .ok (.aload_n 0, 1) := by decide +kernel
theorem dX9_letter_42 : decode cX9_letter 42 = .ok (.getfield 372, 3) := by decide +kernel
theorem dX9_letter_45 : decode cX9_letter 45 = .ok (.if_icmp .ge 10, 3) := by decide +kernel
theorem dX9_letter_48 : decode cX9_letter 48 = .ok (.aload_n 0, 1) := by decide +kernel
theorem dX9_letter_49 : decode cX9_letter 49 = .ok (.getfield 378, 3) := by decide +kernel
theorem dX9_letter_52 : decode cX9_letter 52 = .ok (.goto 5, 3) := by decide +kernel
theorem dX9_letter_55 : decode cX9_letter 55 = .ok (.bipush (-2), 2) := by decide +kernel
theorem dX9_letter_57 : decode cX9_letter 57 = .ok (.ireturn, 1) := by decide +kernel
theorem dX9_count_0 : decode cX9_count 0 = .ok (.iload_n 1, 1) := by decide +kernel
theorem dX9_count_1 : decode cX9_count 1 = .ok (.tableswitch 109 0 7 #[47, 53, 59, 65, 71, 77, 82, 87], 47) := by decide +kernel
theorem dX9_count_48 : decode cX9_count 48 = .ok (.aload_n 0, 1) := by decide +kernel
theorem dX9_count_49 : decode cX9_count 49 = .ok (.iconst 0, 1) := by decide +kernel
theorem dX9_count_50 : decode cX9_count 50 = .ok (.invokevirtual 179, 3) := by decide +kernel
theorem dX9_count_53 : decode cX9_count 53 = .ok (.ireturn, 1) := by decide +kernel
theorem dX9_count_54 : decode cX9_count 54 = .ok (.aload_n 0, 1) := by decide +kernel
theorem dX9_count_55 : decode cX9_count 55 = .ok (.iconst 1, 1) := by decide +kernel
theorem dX9_count_56 : decode cX9_count 56 = .ok (.invokevirtual 179, 3) := by decide +kernel
theorem dX9_count_59 : decode cX9_count 59 = .ok (.ireturn, 1) := by decide +kernel
theorem dX9_count_60 : decode cX9_count 60 = .ok (.aload_n 0, 1) := by decide +kernel
theorem dX9_count_61 : decode cX9_count 61 = .ok (.iconst 2, 1) := by decide +kernel
theorem dX9_count_62 : decode cX9_count 62 = .ok (.invokevirtual 179, 3) := by decide +kernel
theorem dX9_count_65 : decode cX9_count 65 = .ok (.ireturn, 1) := by decide +kernel
theorem dX9_count_66 : decode cX9_count 66 = .ok (.aload_n 0, 1) := by decide +kernel
theorem dX9_count_67 : decode cX9_count 67 = .ok (.iconst 3, 1) := by decide +kernel
theorem dX9_count_68 : decode cX9_count 68 = .ok (.invokevirtual 179, 3) := by decide +kernel
theorem dX9_count_71 : decode cX9_count 71 = .ok (.ireturn, 1) := by decide +kernel
theorem dX9_count_72 : decode cX9_count 72 = .ok (.aload_n 0, 1) := by decide +kernel
theorem dX9_count_73 : decode cX9_count 73 = .ok (.iconst 4, 1) := by decide +kernel
theorem dX9_count_74 : decode cX9_count 74 = .ok (.invokevirtual 179, 3) := by decide +kernel
theorem dX9_count_77 : decode cX9_count 77 = .ok (.ireturn, 1) := by decide +kernel
theorem dX9_count_78 : decode cX9_count 78 = .ok (.aload_n 0, 1) := by decide +kernel
theorem dX9_count_79 : decode cX9_count 79 = .ok (.getfield 176, 3) := by decide +kernel
theorem dX9_count_82 : decode cX9_count 82 = .ok (.ireturn, 1) := by decide +kernel
theorem dX9_count_83 : decode cX9_count 83 = .ok (.aload_n 0, 1) := by decide +kernel
theorem dX9_count_84 : decode cX9_count 84 = .ok (.getfield 52, 3) := by decide +kernel
theorem dX9_count_87 : decode cX9_count 87 = .ok (.ireturn, 1) := by decide +kernel
theorem dX9_count_88 : decode cX9_count 88 = .ok (.aload_n 0, 1) := by decide +kernel
theorem dX9_count_89 : decode cX9_count 89 = .ok (.getfield 25, 3) := by decide +kernel
theorem dX9_count_92 : decode cX9_count 92 = .ok (.iconst 0, 1) := by decide +kernel
theorem dX9_count_93 : decode cX9_count 93 = .ok (.baload, 1) := by decide +kernel
theorem dX9_count_94 : decode cX9_count 94 = .ok (.invokestatic 118, 3) := by decide +kernel
theorem dX9_count_97 : decode cX9_count 97 = .ok (.aload_n 0, 1) := by decide +kernel
theorem dX9_count_98 : decode cX9_count 98 = .ok (.getfield 25, 3) := by decide +kernel
theorem dX9_count_101 : decode cX9_count 101 = .ok (.iconst 1, 1) := by decide +kernel
theorem dX9_count_102 : decode cX9_count 102 = .ok (.baload, 1) := by decide +kernel
theorem dX9_count_103 : decode cX9_count 103 = .ok (.invokestatic 118, 3) := by decide +kernel
theorem dX9_count_106 : decode cX9_count 106 = .ok (.iconst 1, 1) := by decide +kernel
theorem dX9_count_107 : decode cX9_count 107 = .ok (.ishl, 1) := by decide +kernel
theorem dX9_count_108 : decode cX9_count 108 = .ok (.ior, 1) := by decide +kernel
theorem dX9_count_109 : decode cX9_count 109 = .ok (.ireturn, 1) := by decide +kernel
theorem dX9_count_110 : decode cX9_count 110 = .ok (.iconst (-1), 1) := by decide +kernel
theorem dX9_count_111 : decode cX9_count 111 = .ok (.ireturn, 1) := by decide +kernel
