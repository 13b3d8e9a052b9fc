theorem dX0_init_0 : decode cX0_init 0 = .ok (.aload_n 0, 1) := by decide +kernel
theorem dX0_init_1 : decode cX0_init 1 = .ok (.invokespecial 3, 3) := by decide +kernel
theorem dX0_init_4 : decode cX0_init 4 = .ok (.aload_n 0, 1) := by decide +kernel
theorem dX0_init_5 : decode cX0_init 5 = .ok (.bipush 10, 2) := by decide +kernel
theorem dX0_init_7 : decode cX0_init 7 = .ok (.anewarray 9, 3) := by decide +kernel
theorem dX0_init_10 : decode cX0_init 10 = .ok (.putfield 11, 3) := by decide +kernel
theorem dX0_init_13 : decode cX0_init 13 = .ok (.aload_n 0, 1) := by decide +kernel
theorem dX0_init_14 : decode cX0_init 14 = .ok (.iconst 0, 1) := by decide +kernel
theorem dX0_init_15 : decode cX0_init 15 = .ok (.putfield 17, 3) := by decide +kernel
theorem dX0_init_18 : decode cX0_init 18 = .ok (.aload_n 0, 1) := by decide +kernel
theorem dX0_init_19 : decode cX0_init 19 = .ok (.iconst 0, 1) := by decide +kernel
theorem dX0_init_20 : decode cX0_init 20 = .ok (.putfield 21, 3) := by decide +kernel
theorem dX0_init_23 : decode cX0_init 23 = .ok (.iconst 0, 1) := by decide +kernel
theorem dX0_init_24 : decode cX0_init 24 = .ok (.istore_n 1, 1) := by decide +kernel
theorem dX0_init_25 : decode cX0_init 25 = .ok (.iload_n 1, 1) := by decide +kernel
theorem dX0_init_26 : decode cX0_init 26 = .ok (.bipush 10, 2) := by decide +kernel
theorem dX0_init_28 : decode cX0_init 28 = .ok (.if_icmp .ge 22, 3) := by decide +kernel
theorem dX0_init_31 : decode cX0_init 31 = .ok (.aload_n 0, 1) := by decide +kernel
theorem dX0_init_32 : decode cX0_init 32 = .ok (.getfield 11, 3) := by decide +kernel
theorem dX0_init_35 : decode cX0_init 35 = .ok (.iload_n 1, 1) := by decide +kernel
theorem dX0_init_36 : decode cX0_init 36 = .ok (.new 9, 3) := by decide +kernel
theorem dX0_init_39 : decode cX0_init 39 = .ok (.dup, 1) := by decide +kernel
theorem dX0_init_40 : decode cX0_init 40 = .ok (.invokespecial 24, 3) := by decide +kernel
theorem dX0_init_43 : decode cX0_init 43 = .ok (.aastore, 1) := by decide +kernel
theorem dX0_init_44 : decode cX0_init 44 = .ok (.iinc 1 1, 3) := by decide +kernel
theorem dX0_init_47 : decode cX0_init 47 = .ok (.goto (-22), 3) := by decide +kernel
theorem dX0_init_50 : decode cX0_init 50 = .ok (.return_, 1) := by decide +kernel
theorem dX0_remember_0 : decode cX0_remember 0 = .ok (.aload_n 0, 1) := by decide +kernel
theorem dX0_remember_1 : decode cX0_remember 1 = .ok (.getfield 11, 3) := by decide +kernel
theorem dX0_remember_4 : decode cX0_remember 4 = .ok (.aload_n 0, 1) := by decide +kernel
theorem dX0_remember_5 : decode cX0_remember 5 = .ok (.getfield 17, 3) := by decide +kernel
theorem dX0_remember_8 : decode cX0_remember 8 = .ok (.aaload, 1) := by decide +kernel
theorem dX0_remember_9 : decode cX0_remember 9 = .ok (.aload_n 1, 1) := by decide +kernel
theorem dX0_remember_10 : decode cX0_remember 10 = .ok (.invokevirtual 25, 3) := by decide +kernel
theorem dX0_remember_13 : decode cX0_remember 13 = .ok (.aload_n 0, 1) := by decide +kernel
theorem dX0_remember_14 : decode cX0_remember 14 = .ok (.aload_n 0, 1) := by decide +kernel
theorem dX0_remember_15 : decode cX0_remember 15 = .ok (.getfield 17, 3) := by decide +kernel
theorem dX0_remember_18 : decode cX0_remember 18 = .ok (.iconst 1, 1) := by decide +kernel
theorem dX0_remember_19 : decode cX0_remember 19 = .ok (.iadd, 1) := by decide +kernel
theorem dX0_remember_20 : decode cX0_remember 20 = .ok (.bipush 10, 2) := by decide +kernel
theorem dX0_remember_22 : decode cX0_remember 22 = .ok (.irem, 1) := by decide +kernel
theorem dX0_remember_23 : decode cX0_remember 23 = .ok (.putfield 17, 3) := by decide +kernel
theorem dX0_remember_26 : decode cX0_remember 26 = .ok (.aload_n 0, 1) := by decide +kernel
theorem dX0_remember_27 : decode cX0_remember 27 = .ok (.aload_n 0, 1) := by decide +kernel
theorem dX0_remember_28 : decode cX0_remember 28 = .ok (.getfield 21, 3) := by decide +kernel
theorem dX0_remember_31 : decode cX0_remember 31 = .ok (.iconst 1, 1) := by decide +kernel
theorem dX0_remember_32 : decode cX0_remember 32 = .ok (.iadd, 1) := by decide +kernel
theorem dX0_remember_33 : decode cX0_remember 33 = .ok (.bipush 10, 2) := by decide +kernel
theorem dX0_remember_35 : decode cX0_remember 35 = .ok (.invokestatic 29, 3) := by decide +kernel
theorem dX0_remember_38 : decode cX0_remember 38 = .ok (.putfield 21, 3) := by decide +kernel
theorem dX0_remember_41 : decode cX0_remember 41 = .ok (.return_, 1) := by decide +kernel
theorem dX0_restore_0 : decode cX0_restore 0 = .ok (.aload_n 0, 1) := by decide +kernel
theorem dX0_restore_1 : decode cX0_restore 1 = .ok (.getfield 21, 3) := by decide +kernel
theorem dX0_restore_4 : decode cX0_restore 4 = .ok (.ifCond .ne 4, 3) := by decide +kernel
theorem dX0_restore_7 : decode cX0_restore 7 = .ok (.return_, 1) := by decide +kernel
theorem dX0_restore_8 : decode cX0_restore 8 = .ok (.aload_n 0, 1) := by decide +kernel
theorem dX0_restore_9 : decode cX0_restore 9 = .ok (.aload_n 0, 1) := by decide +kernel
theorem dX0_restore_10 : decode cX0_restore 10 = .ok (.getfield 17, 3) := by decide +kernel
theorem dX0_restore_13 : decode cX0_restore 13 = .ok (.bipush 10, 2) := by decide +kernel
theorem dX0_restore_15 : decode cX0_restore 15 = .ok (.iadd, 1) := by decide +kernel
theorem dX0_restore_16 : decode cX0_restore 16 = .ok (.iconst 1, 1) := by decide +kernel
theorem dX0_restore_17 : decode cX0_restore 17 = .ok (.isub, 1) := by decide +kernel
theorem dX0_restore_18 : decode cX0_restore 18 = .ok (.bipush 10, 2) := by decide +kernel
theorem dX0_restore_20 : decode cX0_restore 20 = .ok (.irem, 1) := by decide +kernel
theorem dX0_restore_21 : decode cX0_restore 21 = .ok (.putfield 17, 3) := by decide +kernel
theorem dX0_restore_24 : decode cX0_restore 24 = .ok (.aload_n 1, 1) := by decide +kernel
theorem dX0_restore_25 : decode cX0_restore 25 = .ok (.aload_n 0, 1) := by decide +kernel
theorem dX0_restore_26 : decode cX0_restore 26 = .ok (.getfield 11, 3) := by decide +kernel
theorem dX0_restore_29 : decode cX0_restore 29 = .ok (.aload_n 0, 1) := by decide +kernel
theorem dX0_restore_30 : decode cX0_restore 30 = .ok (.getfield 17, 3) := by decide +kernel
theorem dX0_restore_33 : decode cX0_restore 33 = .ok (.aaload, 1) := by decide +kernel
theorem dX0_restore_34 : decode cX0_restore 34 = .ok (.invokevirtual 25, 3) := by decide +kernel
theorem dX0_restore_37 : decode cX0_restore 37 = .ok (.aload_n 0, 1) := by decide +kernel
theorem dX0_restore_38 : decode cX0_restore 38 = .ok (.dup, 1) := by decide +kernel
theorem dX0_restore_39 : decode cX0_restore 39 = .ok (.getfield 21, 3) := by decide +kernel
theorem dX0_restore_42 : decode cX0_restore 42 = .ok (.iconst 1, 1) := by decide +kernel
theorem dX0_restore_43 : decode cX0_restore 43 = .ok (.isub, 1) := by decide +kernel
theorem dX0_restore_44 : decode cX0_restore 44 = .ok (.putfield 21, 3) := by decide +kernel
theorem dX0_restore_47 : decode cX0_restore 47 = .ok (.return_, 1) := by decide +kernel
theorem dX0_forget_0 : decode cX0_forget 0 = .ok (.aload_n 0, 1) := by decide +kernel
theorem dX0_forget_1 : decode cX0_forget 1 = .ok (.iconst 0, 1) := by decide +kernel
theorem dX0_forget_2 : decode cX0_forget 2 = .ok (.putfield 21, 3) := by decide +kernel
theorem dX0_forget_5 : decode cX0_forget 5 = .ok (.return_, 1) := by decide +kernel
theorem dX1_init_0 : decode cX1_init 0 = .ok (.aload_n 0, 1) := by decide +kernel
theorem dX1_init_1 : decode cX1_init 1 = .ok (.invokespecial 3, 3) := by decide +kernel
theorem dX1_init_4 : decode cX1_init 4 = .ok (.aload_n 0, 1) := by decide +kernel
theorem dX1_init_5 : decode cX1_init 5 = .ok (.bipush 6, 2) := by decide +kernel
theorem dX1_init_7 : decode cX1_init 7 = .ok (.newarray .int, 2) := by decide +kernel
theorem dX1_init_9 : decode cX1_init 9 = .ok (.putfield 9, 3) := by decide +kernel
theorem dX1_init_12 : decode cX1_init 12 = .ok (.aload_n 0, 1) := by decide +kernel
theorem dX1_init_13 : decode cX1_init 13 = .ok (.bipush 18, 2) := by decide +kernel
theorem dX1_init_15 : decode cX1_init 15 = .ok (.newarray .int, 2) := by decide +kernel
theorem dX1_init_17 : decode cX1_init 17 = .ok (.putfield 15, 3) := by decide +kernel
theorem dX1_init_20 : decode cX1_init 20 = .ok (.aload_n 0, 1) := by decide +kernel
theorem dX1_init_21 : decode cX1_init 21 = .ok (.iconst 0, 1) := by decide +kernel
theorem dX1_init_22 : decode cX1_init 22 = .ok (.putfield 18, 3) := by decide +kernel
theorem dX1_init_25 : decode cX1_init 25 = .ok (.return_, 1) := by decide +kernel
theorem dX1_settle_0 : decode cX1_settle 0 = .ok (.aload_n 0, 1) := by decide +kernel
theorem dX1_settle_1 : decode cX1_settle 1 = .ok (.iconst 0, 1) := by decide +kernel
theorem dX1_settle_2 : decode cX1_settle 2 = .ok (.putfield 18, 3) := by decide +kernel
theorem dX1_settle_5 : decode cX1_settle 5 = .ok (.aload_n 0, 1) := by decide +kernel
theorem dX1_settle_6 : decode cX1_settle 6 = .ok (.getfield 9, 3) := by decide +kernel
theorem dX1_settle_9 : decode cX1_settle 9 = .ok (.iconst 0, 1) := by decide +kernel
theorem dX1_settle_10 : decode cX1_settle 10 = .ok (.invokestatic 22, 3) := by decide +kernel
theorem dX1_settle_13 : decode cX1_settle 13 = .ok (.iconst 0, 1) := by decide +kernel
theorem dX1_settle_14 : decode cX1_settle 14 = .ok (.istore_n 2, 1) := by decide +kernel
theorem dX1_settle_15 : decode cX1_settle 15 = .ok (.iload_n 2, 1) := by decide +kernel
theorem dX1_settle_16 : decode cX1_settle 16 = .ok (.aload_n 1, 1) := by decide +kernel
theorem dX1_settle_17 : decode cX1_settle 17 = .ok (.getfield 28, 3) := by decide +kernel
theorem dX1_settle_20 : decode cX1_settle 20 = .ok (.getfield 34, 3) := by decide +kernel
theorem dX1_settle_23 : decode cX1_settle 23 = .ok (.if_icmp .ge 24, 3) := by decide +kernel
theorem dX1_settle_26 : decode cX1_settle 26 = .ok (.aload_n 0, 1) := by decide +kernel
theorem dX1_settle_27 : decode cX1_settle 27 = .ok (.getfield 9, 3) := by decide +kernel
theorem dX1_settle_30 : decode cX1_settle 30 = .ok (.iload_n 2, 1) := by decide +kernel
theorem dX1_settle_31 : decode cX1_settle 31 = .ok (.aload_n 1, 1) := by decide +kernel
theorem dX1_settle_32 : decode cX1_settle 32 = .ok (.getfield 28, 3) := by decide +kernel
theorem dX1_settle_35 : decode cX1_settle 35 = .ok (.iload_n 2, 1) := by decide +kernel
theorem dX1_settle_36 : decode cX1_settle 36 = .ok (.iconst 4, 1) := by decide +kernel
theorem dX1_settle_37 : decode cX1_settle 37 = .ok (.invokevirtual 39, 3) := by decide +kernel
theorem dX1_settle_40 : decode cX1_settle 40 = .ok (.iastore, 1) := by decide +kernel
theorem dX1_settle_41 : decode cX1_settle 41 = .ok (.iinc 2 1, 3) := by decide +kernel
theorem dX1_settle_44 : decode cX1_settle 44 = .ok (.goto (-29), 3) := by decide +kernel
theorem dX1_settle_47 : decode cX1_settle 47 = .ok (.iconst 0, 1) := by decide +kernel
theorem dX1_settle_48 : decode cX1_settle 48 = .ok (.istore_n 2, 1) := by decide +kernel
theorem dX1_settle_49 : decode cX1_settle 49 = .ok (.iload_n 2, 1) := by decide +kernel
theorem dX1_settle_50 : decode cX1_settle 50 = .ok (.bipush 6, 2) := by decide +kernel
theorem dX1_settle_52 : decode cX1_settle 52 = .ok (.if_icmp .ge 58, 3) := by decide +kernel
theorem dX1_settle_55 : decode cX1_settle 55 = .ok (.aload_n 0, 1) := by decide +kernel
theorem dX1_settle_56 : decode cX1_settle 56 = .ok (.iconst 1, 1) := by decide +kernel
theorem dX1_settle_57 : decode cX1_settle 57 = .ok (.invokevirtual 43, 3) := by decide +kernel
theorem dX1_settle_60 : decode cX1_settle 60 = .ok (.istore_n 3, 1) := by decide +kernel
theorem dX1_settle_61 : decode cX1_settle 61 = .ok (.aload_n 0, 1) := by decide +kernel
theorem dX1_settle_62 : decode cX1_settle 62 = .ok (.iconst (-1), 1) := by decide +kernel
theorem dX1_settle_63 : decode cX1_settle 63 = .ok (.invokevirtual 43, 3) := by decide +kernel
theorem dX1_settle_66 : decode cX1_settle 66 = .ok (.istore 4, 2) := by decide +kernel
theorem dX1_settle_68 : decode cX1_settle 68 = .ok (.iload_n 3, 1) := by decide +kernel
theorem dX1_settle_69 : decode cX1_settle 69 = .ok (.iconst (-1), 1) := by decide +kernel
theorem dX1_settle_70 : decode cX1_settle 70 = .ok (.if_icmp .eq 9, 3) := by decide +kernel
theorem dX1_settle_73 : decode cX1_settle 73 = .ok (.iload 4, 2) := by decide +kernel
theorem dX1_settle_75 : decode cX1_settle 75 = .ok (.iconst (-1), 1) := by decide +kernel
theorem dX1_settle_76 : decode cX1_settle 76 = .ok (.if_icmp .ne 4, 3) := by decide +kernel
theorem dX1_settle_79 : decode cX1_settle 79 = .ok (.return_, 1) := by decide +kernel
theorem dX1_settle_80 : decode cX1_settle 80 = .ok (.aload_n 0, 1) := by decide +kernel
theorem dX1_settle_81 : decode cX1_settle 81 = .ok (.iload_n 3, 1) := by decide +kernel
theorem dX1_settle_82 : decode cX1_settle 82 = .ok (.iload 4, 2) := by decide +kernel
theorem dX1_settle_84 : decode cX1_settle 84 = .ok (.aload_n 0, 1) := by decide +kernel
theorem dX1_settle_85 : decode cX1_settle 85 = .ok (.getfield 9, 3) := by decide +kernel
theorem dX1_settle_88 : decode cX1_settle 88 = .ok (.iload_n 3, 1) := by decide +kernel
theorem dX1_settle_89 : decode cX1_settle 89 = .ok (.iaload, 1) := by decide +kernel
theorem dX1_settle_90 : decode cX1_settle 90 = .ok (.aload_n 0, 1) := by decide +kernel
theorem dX1_settle_91 : decode cX1_settle 91 = .ok (.getfield 9, 3) := by decide +kernel
theorem dX1_settle_94 : decode cX1_settle 94 = .ok (.iload 4, 2) := by decide +kernel
theorem dX1_settle_96 : decode cX1_settle 96 = .ok (.iaload, 1) := by decide +kernel
theorem dX1_settle_97 : decode cX1_settle 97 = .ok (.ineg, 1) := by decide +kernel
theorem dX1_settle_98 : decode cX1_settle 98 = .ok (.invokestatic 47, 3) := by decide +kernel
theorem dX1_settle_101 : decode cX1_settle 101 = .ok (.invokevirtual 52, 3) := by decide +kernel
theorem dX1_settle_104 : decode cX1_settle 104 = .ok (.iinc 2 1, 3) := by decide +kernel
theorem dX1_settle_107 : decode cX1_settle 107 = .ok (.goto (-58), 3) := by decide +kernel
theorem dX1_settle_110 : decode cX1_settle 110 = .ok (.return_, 1) := by decide +kernel
theorem dX1_firstOf_0 : decode cX1_firstOf 0 = .ok (.iconst 0, 1) := by decide +kernel
theorem dX1_firstOf_1 : decode cX1_firstOf 1 = .ok (.istore_n 2, 1) := by decide +kernel
theorem dX1_firstOf_2 : decode cX1_firstOf 2 = .ok (.iload_n 2, 1) := by decide +kernel
theorem dX1_firstOf_3 : decode cX1_firstOf 3 = .ok (.bipush 6, 2) := by decide +kernel
theorem dX1_firstOf_5 : decode cX1_firstOf 5 = .ok (.if_icmp .ge 24, 3) := by decide +kernel
theorem dX1_firstOf_8 : decode cX1_firstOf 8 = .ok (.aload_n 0, 1) := by decide +kernel
theorem dX1_firstOf_9 : decode cX1_firstOf 9 = .ok (.getfield 9, 3) := by decide +kernel
theorem dX1_firstOf_12 : decode cX1_firstOf 12 = .ok (.iload_n 2, 1) := by decide +kernel
theorem dX1_firstOf_13 : decode cX1_firstOf 13 = .ok (.iaload, 1) := by decide +kernel
theorem dX1_firstOf_14 : decode cX1_firstOf 14 = .ok (.invokestatic 56, 3) := by decide +kernel
theorem dX1_firstOf_17 : decode cX1_firstOf 17 = .ok (.iload_n 1, 1) := by decide +kernel
theorem dX1_firstOf_18 : decode cX1_firstOf 18 = .ok (.if_icmp .ne 5, 3) := by decide +kernel
theorem dX1_firstOf_21 : decode cX1_firstOf 21 = .ok (.iload_n 2, 1) := by decide +kernel
theorem dX1_firstOf_22 : decode cX1_firstOf 22 = .ok (.ireturn, 1) := by decide +kernel
theorem dX1_firstOf_23 : decode cX1_firstOf 23 = .ok (.iinc 2 1, 3) := by decide +kernel
theorem dX1_firstOf_26 : decode cX1_firstOf 26 = .ok (.goto (-24), 3) := by decide +kernel
theorem dX1_firstOf_29 : decode cX1_firstOf 29 = .ok (.iconst (-1), 1) := by decide +kernel
theorem dX1_firstOf_30 : decode cX1_firstOf 30 = .ok (.ireturn, 1) := by decide +kernel
theorem dX1_note_0 : decode cX1_note 0 = .ok (.aload_n 0, 1) := by decide +kernel
theorem dX1_note_1 : decode cX1_note 1 = .ok (.getfield 9, 3) := by decide +kernel
theorem dX1_note_4 : decode cX1_note 4 = .ok (.iload_n 1, 1) := by decide +kernel
theorem dX1_note_5 : decode cX1_note 5 = .ok (.dup2, 1) := by decide +kernel
theorem dX1_note_6 : decode cX1_note 6 = .ok (.iaload, 1) := by decide +kernel
theorem dX1_note_7 : decode cX1_note 7 = .ok (.iload_n 3, 1) := by decide +kernel
theorem dX1_note_8 : decode cX1_note 8 = .ok (.isub, 1) := by decide +kernel
theorem dX1_note_9 : decode cX1_note 9 = .ok (.iastore, 1) := by decide +kernel
theorem dX1_note_10 : decode cX1_note 10 = .ok (.aload_n 0, 1) := by decide +kernel
theorem dX1_note_11 : decode cX1_note 11 = .ok (.getfield 9, 3) := by decide +kernel
theorem dX1_note_14 : decode cX1_note 14 = .ok (.iload_n 2, 1) := by decide +kernel
theorem dX1_note_15 : decode cX1_note 15 = .ok (.dup2, 1) := by decide +kernel
theorem dX1_note_16 : decode cX1_note 16 = .ok (.iaload, 1) := by decide +kernel
theorem dX1_note_17 : decode cX1_note 17 = .ok (.iload_n 3, 1) := by decide +kernel
theorem dX1_note_18 : decode cX1_note 18 = .ok (.iadd, 1) := by decide +kernel
theorem dX1_note_19 : decode cX1_note 19 = .ok (.iastore, 1) := by decide +kernel
theorem dX1_note_20 : decode cX1_note 20 = .ok (.aload_n 0, 1) := by decide +kernel
theorem dX1_note_21 : decode cX1_note 21 = .ok (.getfield 15, 3) := by decide +kernel
theorem dX1_note_24 : decode cX1_note 24 = .ok (.aload_n 0, 1) := by decide +kernel
theorem dX1_note_25 : decode cX1_note 25 = .ok (.getfield 18, 3) := by decide +kernel
theorem dX1_note_28 : decode cX1_note 28 = .ok (.iconst 3, 1) := by decide +kernel
theorem dX1_note_29 : decode cX1_note 29 = .ok (.imul, 1) := by decide +kernel
theorem dX1_note_30 : decode cX1_note 30 = .ok (.iconst 0, 1) := by decide +kernel
theorem dX1_note_31 : decode cX1_note 31 = .ok (.iadd, 1) := by decide +kernel
theorem dX1_note_32 : decode cX1_note 32 = .ok (.iload_n 1, 1) := by decide +kernel
theorem dX1_note_33 : decode cX1_note 33 = .ok (.iastore, 1) := by decide +kernel
theorem dX1_note_34 : decode cX1_note 34 = .ok (.aload_n 0, 1) := by decide +kernel
theorem dX1_note_35 : decode cX1_note 35 = .ok (.getfield 15, 3) := by decide +kernel
theorem dX1_note_38 : decode cX1_note 38 = .ok (.aload_n 0, 1) := by decide +kernel
theorem dX1_note_39 : decode cX1_note 39 = .ok (.getfield 18, 3) := by decide +kernel
theorem dX1_note_42 : decode cX1_note 42 = .ok (.iconst 3, 1) := by decide +kernel
theorem dX1_note_43 : decode cX1_note 43 = .ok (.imul, 1) := by decide +kernel
theorem dX1_note_44 : decode cX1_note 44 = .ok (.iconst 1, 1) := by decide +kernel
theorem dX1_note_45 : decode cX1_note 45 = .ok (.iadd, 1) := by decide +kernel
theorem dX1_note_46 : decode cX1_note 46 = .ok (.iload_n 2, 1) := by decide +kernel
theorem dX1_note_47 : decode cX1_note 47 = .ok (.iastore, 1) := by decide +kernel
theorem dX1_note_48 : decode cX1_note 48 = .ok (.aload_n 0, 1) := by decide +kernel
theorem dX1_note_49 : decode cX1_note 49 = .ok (.getfield 15, 3) := by decide +kernel
theorem dX1_note_52 : decode cX1_note 52 = .ok (.aload_n 0, 1) := by decide +kernel
theorem dX1_note_53 : decode cX1_note 53 = .ok (.getfield 18, 3) := by decide +kernel
theorem dX1_note_56 : decode cX1_note 56 = .ok (.iconst 3, 1) := by decide +kernel
theorem dX1_note_57 : decode cX1_note 57 = .ok (.imul, 1) := by decide +kernel
theorem dX1_note_58 : decode cX1_note 58 = .ok (.iconst 2, 1) := by decide +kernel
theorem dX1_note_59 : decode cX1_note 59 = .ok (.iadd, 1) := by decide +kernel
theorem dX1_note_60 : decode cX1_note 60 = .ok (.iload_n 3, 1) := by decide +kernel
theorem dX1_note_61 : decode cX1_note 61 = .ok (.iastore, 1) := by decide +kernel
theorem dX1_note_62 : decode cX1_note 62 = .ok (.aload_n 0, 1) := by decide +kernel
theorem dX1_note_63 : decode cX1_note 63 = .ok (.dup, 1) := by decide +kernel
theorem dX1_note_64 : decode cX1_note 64 = .ok (.getfield 18, 3) := by decide +kernel
theorem dX1_note_67 : decode cX1_note 67 = .ok (.iconst 1, 1) := by decide +kernel
theorem dX1_note_68 : decode cX1_note 68 = .ok (.iadd, 1) := by decide +kernel
theorem dX1_note_69 : decode cX1_note 69 = .ok (.putfield 18, 3) := by decide +kernel
theorem dX1_note_72 : decode cX1_note 72 = .ok (.return_, 1) := by decide +kernel
theorem dX1_tradeAt_0 : decode cX1_tradeAt 0 = .ok (.iload_n 1, 1) := by decide +kernel
theorem dX1_tradeAt_1 : decode cX1_tradeAt 1 = .ok (.iconst 0, 1) := by decide +kernel
theorem dX1_tradeAt_2 : decode cX1_tradeAt 2 = .ok (.aload_n 0, 1) := by decide +kernel
theorem dX1_tradeAt_3 : decode cX1_tradeAt 3 = .ok (.getfield 18, 3) := by decide +kernel
theorem dX1_tradeAt_6 : decode cX1_tradeAt 6 = .ok (.iconst 1, 1) := by decide +kernel
theorem dX1_tradeAt_7 : decode cX1_tradeAt 7 = .ok (.isub, 1) := by decide +kernel
theorem dX1_tradeAt_8 : decode cX1_tradeAt 8 = .ok (.invokestatic 61, 3) := by decide +kernel
theorem dX1_tradeAt_11 : decode cX1_tradeAt 11 = .ok (.ifCond .eq 12, 3) := by decide +kernel
theorem dX1_tradeAt_14 : decode cX1_tradeAt 14 = .ok (.iload_n 2, 1) := by decide +kernel
theorem dX1_tradeAt_15 : decode cX1_tradeAt 15 = .ok (.iconst 0, 1) := by decide +kernel
theorem dX1_tradeAt_16 : decode cX1_tradeAt 16 = .ok (.iconst 2, 1) := by decide +kernel
theorem dX1_tradeAt_17 : decode cX1_tradeAt 17 = .ok (.invokestatic 61, 3) := by decide +kernel
theorem dX1_tradeAt_20 : decode cX1_tradeAt 20 = .ok (.ifCond .ne 5, 3) := by decide +kernel
theorem dX1_tradeAt_23 : decode cX1_tradeAt 23 = .ok (.iconst (-1), 1) := by decide +kernel
theorem dX1_tradeAt_24 : decode cX1_tradeAt 24 = .ok (.ireturn, 1) := by decide +kernel
theorem dX1_tradeAt_25 : decode cX1_tradeAt 25 = .ok (.aload_n 0, 1) := by decide +kernel
theorem dX1_tradeAt_26 : decode cX1_tradeAt 26 = .ok (.getfield 15, 3) := by decide +kernel
theorem dX1_tradeAt_29 : decode cX1_tradeAt 29 = .ok (.iload_n 1, 1) := by decide +kernel
theorem dX1_tradeAt_30 : decode cX1_tradeAt 30 = .ok (.iconst 3, 1) := by decide +kernel
theorem dX1_tradeAt_31 : decode cX1_tradeAt 31 = .ok (.imul, 1) := by decide +kernel
theorem dX1_tradeAt_32 : decode cX1_tradeAt 32 = .ok (.iload_n 2, 1) := by decide +kernel
theorem dX1_tradeAt_33 : decode cX1_tradeAt 33 = .ok (.iadd, 1) := by decide +kernel
theorem dX1_tradeAt_34 : decode cX1_tradeAt 34 = .ok (.iaload, 1) := by decide +kernel
theorem dX1_tradeAt_35 : decode cX1_tradeAt 35 = .ok (.ireturn, 1) := by decide +kernel
theorem dX1_together_0 : decode cX1_together 0 = .ok (.iconst 0, 1) := by decide +kernel
theorem dX1_together_1 : decode cX1_together 1 = .ok (.istore_n 1, 1) := by decide +kernel
theorem dX1_together_2 : decode cX1_together 2 = .ok (.iconst 0, 1) := by decide +kernel
theorem dX1_together_3 : decode cX1_together 3 = .ok (.istore_n 2, 1) := by decide +kernel
theorem dX1_together_4 : decode cX1_together 4 = .ok (.iload_n 2, 1) := by decide +kernel
theorem dX1_together_5 : decode cX1_together 5 = .ok (.aload_n 0, 1) := by decide +kernel
theorem dX1_together_6 : decode cX1_together 6 = .ok (.getfield 18, 3) := by decide +kernel
theorem dX1_together_9 : decode cX1_together 9 = .ok (.if_icmp .ge 18, 3) := by decide +kernel
theorem dX1_together_12 : decode cX1_together 12 = .ok (.iload_n 1, 1) := by decide +kernel
theorem dX1_together_13 : decode cX1_together 13 = .ok (.aload_n 0, 1) := by decide +kernel
theorem dX1_together_14 : decode cX1_together 14 = .ok (.iload_n 2, 1) := by decide +kernel
theorem dX1_together_15 : decode cX1_together 15 = .ok (.iconst 2, 1) := by decide +kernel
theorem dX1_together_16 : decode cX1_together 16 = .ok (.invokevirtual 65, 3) := by decide +kernel
theorem dX1_together_19 : decode cX1_together 19 = .ok (.iadd, 1) := by decide +kernel
theorem dX1_together_20 : decode cX1_together 20 = .ok (.istore_n 1, 1) := by decide +kernel
theorem dX1_together_21 : decode cX1_together 21 = .ok (.iinc 2 1, 3) := by decide +kernel
theorem dX1_together_24 : decode cX1_together 24 = .ok (.goto (-20), 3) := by decide +kernel
theorem dX1_together_27 : decode cX1_together 27 = .ok (.iload_n 1, 1) := by decide +kernel
theorem dX1_together_28 : decode cX1_together 28 = .ok (.ireturn, 1) := by decide +kernel
theorem dX2_init_0 : decode cX2_init 0 = .ok (.aload_n 0, 1) := by decide +kernel
theorem dX2_init_1 : decode cX2_init 1 = .ok (.invokespecial 3, 3) := by decide +kernel
theorem dX2_init_4 : decode cX2_init 4 = .ok (.aload_n 0, 1) := by decide +kernel
theorem dX2_init_5 : decode cX2_init 5 = .ok (.iconst 0, 1) := by decide +kernel
theorem dX2_init_6 : decode cX2_init 6 = .ok (.putfield 9, 3) := by decide +kernel
theorem dX2_init_9 : decode cX2_init 9 = .ok (.aload_n 0, 1) := by decide +kernel
theorem dX2_init_10 : decode cX2_init 10 = .ok (.iconst 0, 1) := by decide +kernel
theorem dX2_init_11 : decode cX2_init 11 = .ok (.putfield 15, 3) := by decide +kernel
theorem dX2_init_14 : decode cX2_init 14 = .ok (.aload_n 0, 1) := by decide +kernel
theorem dX2_init_15 : decode cX2_init 15 = .ok (.iconst 0, 1) := by decide +kernel
theorem dX2_init_16 : decode cX2_init 16 = .ok (.putfield 18, 3) := by decide +kernel
theorem dX2_init_19 : decode cX2_init 19 = .ok (.aload_n 0, 1) := by decide +kernel
theorem dX2_init_20 : decode cX2_init 20 = .ok (.iconst 0, 1) := by decide +kernel
theorem dX2_init_21 : decode cX2_init 21 = .ok (.putfield 21, 3) := by decide +kernel
theorem dX2_init_24 : decode cX2_init 24 = .ok (.aload_n 0, 1) := by decide +kernel
theorem dX2_init_25 : decode cX2_init 25 = .ok (.new 24, 3) := by decide +kernel
theorem dX2_init_28 : decode cX2_init 28 = .ok (.dup, 1) := by decide +kernel
theorem dX2_init_29 : decode cX2_init 29 = .ok (.iconst 2, 1) := by decide +kernel
theorem dX2_init_30 : decode cX2_init 30 = .ok (.bipush 7, 2) := by decide +kernel
theorem dX2_init_32 : decode cX2_init 32 = .ok (.invokespecial 26, 3) := by decide +kernel
theorem dX2_init_35 : decode cX2_init 35 = .ok (.putfield 29, 3) := by decide +kernel
theorem dX2_init_38 : decode cX2_init 38 = .ok (.aload_n 0, 1) := by decide +kernel
theorem dX2_init_39 : decode cX2_init 39 = .ok (.new 24, 3) := by decide +kernel
theorem dX2_init_42 : decode cX2_init 42 = .ok (.dup, 1) := by decide +kernel
theorem dX2_init_43 : decode cX2_init 43 = .ok (.iconst 4, 1) := by decide +kernel
theorem dX2_init_44 : decode cX2_init 44 = .ok (.bipush 10, 2) := by decide +kernel
theorem dX2_init_46 : decode cX2_init 46 = .ok (.invokespecial 26, 3) := by decide +kernel
theorem dX2_init_49 : decode cX2_init 49 = .ok (.putfield 33, 3) := by decide +kernel
theorem dX2_init_52 : decode cX2_init 52 = .ok (.aload_n 0, 1) := by decide +kernel
theorem dX2_init_53 : decode cX2_init 53 = .ok (.new 24, 3) := by decide +kernel
theorem dX2_init_56 : decode cX2_init 56 = .ok (.dup, 1) := by decide +kernel
theorem dX2_init_57 : decode cX2_init 57 = .ok (.bipush 6, 2) := by decide +kernel
theorem dX2_init_59 : decode cX2_init 59 = .ok (.bipush 6, 2) := by decide +kernel
theorem dX2_init_61 : decode cX2_init 61 = .ok (.invokespecial 26, 3) := by decide +kernel
theorem dX2_init_64 : decode cX2_init 64 = .ok (.putfield 36, 3) := by decide +kernel
theorem dX2_init_67 : decode cX2_init 67 = .ok (.aload_n 0, 1) := by decide +kernel
theorem dX2_init_68 : decode cX2_init 68 = .ok (.new 24, 3) := by decide +kernel
theorem dX2_init_71 : decode cX2_init 71 = .ok (.dup, 1) := by decide +kernel
theorem dX2_init_72 : decode cX2_init 72 = .ok (.iconst 4, 1) := by decide +kernel
theorem dX2_init_73 : decode cX2_init 73 = .ok (.bipush 16, 2) := by decide +kernel
theorem dX2_init_75 : decode cX2_init 75 = .ok (.invokespecial 26, 3) := by decide +kernel
theorem dX2_init_78 : decode cX2_init 78 = .ok (.putfield 39, 3) := by decide +kernel
theorem dX2_init_81 : decode cX2_init 81 = .ok (.aload_n 0, 1) := by decide +kernel
theorem dX2_init_82 : decode cX2_init 82 = .ok (.bipush 6, 2) := by decide +kernel
theorem dX2_init_84 : decode cX2_init 84 = .ok (.newarray .long, 2) := by decide +kernel
theorem dX2_init_86 : decode cX2_init 86 = .ok (.putfield 42, 3) := by decide +kernel
theorem dX2_init_89 : decode cX2_init 89 = .ok (.aload_n 0, 1) := by decide +kernel
theorem dX2_init_90 : decode cX2_init 90 = .ok (.iconst 4, 1) := by decide +kernel
theorem dX2_init_91 : decode cX2_init 91 = .ok (.newarray .long, 2) := by decide +kernel
theorem dX2_init_93 : decode cX2_init 93 = .ok (.putfield 46, 3) := by decide +kernel
theorem dX2_init_96 : decode cX2_init 96 = .ok (.aload_n 0, 1) := by decide +kernel
theorem dX2_init_97 : decode cX2_init 97 = .ok (.bipush 48, 2) := by decide +kernel
theorem dX2_init_99 : decode cX2_init 99 = .ok (.newarray .int, 2) := by decide +kernel
theorem dX2_init_101 : decode cX2_init 101 = .ok (.putfield 49, 3) := by decide +kernel
theorem dX2_init_104 : decode cX2_init 104 = .ok (.return_, 1) := by decide +kernel
theorem dX2_clear_0 : decode cX2_clear 0 = .ok (.aload_n 0, 1) := by decide +kernel
theorem dX2_clear_1 : decode cX2_clear 1 = .ok (.iconst 0, 1) := by decide +kernel
theorem dX2_clear_2 : decode cX2_clear 2 = .ok (.putfield 9, 3) := by decide +kernel
theorem dX2_clear_5 : decode cX2_clear 5 = .ok (.aload_n 0, 1) := by decide +kernel
theorem dX2_clear_6 : decode cX2_clear 6 = .ok (.iconst 0, 1) := by decide +kernel
theorem dX2_clear_7 : decode cX2_clear 7 = .ok (.putfield 15, 3) := by decide +kernel
theorem dX2_clear_10 : decode cX2_clear 10 = .ok (.aload_n 0, 1) := by decide +kernel
theorem dX2_clear_11 : decode cX2_clear 11 = .ok (.iconst 0, 1) := by decide +kernel
theorem dX2_clear_12 : decode cX2_clear 12 = .ok (.putfield 18, 3) := by decide +kernel
theorem dX2_clear_15 : decode cX2_clear 15 = .ok (.aload_n 0, 1) := by decide +kernel
theorem dX2_clear_16 : decode cX2_clear 16 = .ok (.iconst 0, 1) := by decide +kernel
theorem dX2_clear_17 : decode cX2_clear 17 = .ok (.putfield 21, 3) := by decide +kernel
theorem dX2_clear_20 : decode cX2_clear 20 = .ok (.aload_n 0, 1) := by decide +kernel
theorem dX2_clear_21 : decode cX2_clear 21 = .ok (.getfield 29, 3) := by decide +kernel
theorem dX2_clear_24 : decode cX2_clear 24 = .ok (.iconst 0, 1) := by decide +kernel
theorem dX2_clear_25 : decode cX2_clear 25 = .ok (.putfield 53, 3) := by decide +kernel
theorem dX2_clear_28 : decode cX2_clear 28 = .ok (.aload_n 0, 1) := by decide +kernel
theorem dX2_clear_29 : decode cX2_clear 29 = .ok (.getfield 33, 3) := by decide +kernel
theorem dX2_clear_32 : decode cX2_clear 32 = .ok (.iconst 0, 1) := by decide +kernel
theorem dX2_clear_33 : decode cX2_clear 33 = .ok (.putfield 53, 3) := by decide +kernel
theorem dX2_clear_36 : decode cX2_clear 36 = .ok (.aload_n 0, 1) := by decide +kernel
theorem dX2_clear_37 : decode cX2_clear 37 = .ok (.getfield 36, 3) := by decide +kernel
theorem dX2_clear_40 : decode cX2_clear 40 = .ok (.iconst 0, 1) := by decide +kernel
theorem dX2_clear_41 : decode cX2_clear 41 = .ok (.putfield 53, 3) := by decide +kernel
theorem dX2_clear_44 : decode cX2_clear 44 = .ok (.aload_n 0, 1) := by decide +kernel
theorem dX2_clear_45 : decode cX2_clear 45 = .ok (.getfield 39, 3) := by decide +kernel
theorem dX2_clear_48 : decode cX2_clear 48 = .ok (.iconst 0, 1) := by decide +kernel
theorem dX2_clear_49 : decode cX2_clear 49 = .ok (.putfield 53, 3) := by decide +kernel
theorem dX2_clear_52 : decode cX2_clear 52 = .ok (.aload_n 0, 1) := by decide +kernel
theorem dX2_clear_53 : decode cX2_clear 53 = .ok (.getfield 42, 3) := by decide +kernel
theorem dX2_clear_56 : decode cX2_clear 56 = .ok (.lconst 0, 1) := by decide +kernel
theorem dX2_clear_57 : decode cX2_clear 57 = .ok (.invokestatic 56, 3) := by decide +kernel
theorem dX2_clear_60 : decode cX2_clear 60 = .ok (.aload_n 0, 1) := by decide +kernel
theorem dX2_clear_61 : decode cX2_clear 61 = .ok (.getfield 46, 3) := by decide +kernel
theorem dX2_clear_64 : decode cX2_clear 64 = .ok (.lconst 0, 1) := by decide +kernel
theorem dX2_clear_65 : decode cX2_clear 65 = .ok (.invokestatic 56, 3) := by decide +kernel
theorem dX2_clear_68 : decode cX2_clear 68 = .ok (.aload_n 0, 1) := by decide +kernel
theorem dX2_clear_69 : decode cX2_clear 69 = .ok (.getfield 49, 3) := by decide +kernel
theorem dX2_clear_72 : decode cX2_clear 72 = .ok (.iconst 0, 1) := by decide +kernel
theorem dX2_clear_73 : decode cX2_clear 73 = .ok (.invokestatic 62, 3) := by decide +kernel
theorem dX2_clear_76 : decode cX2_clear 76 = .ok (.return_, 1) := by decide +kernel
theorem dX2_become_0 : decode cX2_become 0 = .ok (.aload_n 0, 1) := by decide +kernel
theorem dX2_become_1 : decode cX2_become 1 = .ok (.aload_n 1, 1) := by decide +kernel
theorem dX2_become_2 : decode cX2_become 2 = .ok (.getfield 9, 3) := by decide +kernel
theorem dX2_become_5 : decode cX2_become 5 = .ok (.putfield 9, 3) := by decide +kernel
theorem dX2_become_8 : decode cX2_become 8 = .ok (.aload_n 0, 1) := by decide +kernel
theorem dX2_become_9 : decode cX2_become 9 = .ok (.aload_n 1, 1) := by decide +kernel
theorem dX2_become_10 : decode cX2_become 10 = .ok (.getfield 15, 3) := by decide +kernel
theorem dX2_become_13 : decode cX2_become 13 = .ok (.putfield 15, 3) := by decide +kernel
theorem dX2_become_16 : decode cX2_become 16 = .ok (.aload_n 0, 1) := by decide +kernel
theorem dX2_become_17 : decode cX2_become 17 = .ok (.aload_n 1, 1) := by decide +kernel
theorem dX2_become_18 : decode cX2_become 18 = .ok (.getfield 18, 3) := by decide +kernel
theorem dX2_become_21 : decode cX2_become 21 = .ok (.putfield 18, 3) := by decide +kernel
theorem dX2_become_24 : decode cX2_become 24 = .ok (.aload_n 0, 1) := by decide +kernel
theorem dX2_become_25 : decode cX2_become 25 = .ok (.aload_n 1, 1) := by decide +kernel
theorem dX2_become_26 : decode cX2_become 26 = .ok (.getfield 21, 3) := by decide +kernel
theorem dX2_become_29 : decode cX2_become 29 = .ok (.putfield 21, 3) := by decide +kernel
theorem dX2_become_32 : decode cX2_become 32 = .ok (.aload_n 0, 1) := by decide +kernel
theorem dX2_become_33 : decode cX2_become 33 = .ok (.getfield 29, 3) := by decide +kernel
theorem dX2_become_36 : decode cX2_become 36 = .ok (.aload_n 1, 1) := by decide +kernel
theorem dX2_become_37 : decode cX2_become 37 = .ok (.getfield 29, 3) := by decide +kernel
theorem dX2_become_40 : decode cX2_become 40 = .ok (.invokevirtual 65, 3) := by decide +kernel
theorem dX2_become_43 : decode cX2_become 43 = .ok (.aload_n 0, 1) := by decide +kernel
theorem dX2_become_44 : decode cX2_become 44 = .ok (.getfield 33, 3) := by decide +kernel
theorem dX2_become_47 : decode cX2_become 47 = .ok (.aload_n 1, 1) := by decide +kernel
theorem dX2_become_48 : decode cX2_become 48 = .ok (.getfield 33, 3) := by decide +kernel
theorem dX2_become_51 : decode cX2_become 51 = .ok (.invokevirtual 65, 3) := by decide +kernel
theorem dX2_become_54 : decode cX2_become 54 = .ok (.aload_n 0, 1) := by decide +kernel
theorem dX2_become_55 : decode cX2_become 55 = .ok (.getfield 36, 3) := by decide +kernel
theorem dX2_become_58 : decode cX2_become 58 = .ok (.aload_n 1, 1) := by decide +kernel
theorem dX2_become_59 : decode cX2_become 59 = .ok (.getfield 36, 3) := by decide +kernel
theorem dX2_become_62 : decode cX2_become 62 = .ok (.invokevirtual 65, 3) := by decide +kernel
theorem dX2_become_65 : decode cX2_become 65 = .ok (.aload_n 0, 1) := by decide +kernel
theorem dX2_become_66 : decode cX2_become 66 = .ok (.getfield 39, 3) := by decide +kernel
theorem dX2_become_69 : decode cX2_become 69 = .ok (.aload_n 1, 1) := by decide +kernel
theorem dX2_become_70 : decode cX2_become 70 = .ok (.getfield 39, 3) := by decide +kernel
theorem dX2_become_73 : decode cX2_become 73 = .ok (.invokevirtual 65, 3) := by decide +kernel
theorem dX2_become_76 : decode cX2_become 76 = .ok (.aload_n 1, 1) := by decide +kernel
theorem dX2_become_77 : decode cX2_become 77 = .ok (.getfield 42, 3) := by decide +kernel
theorem dX2_become_80 : decode cX2_become 80 = .ok (.iconst 0, 1) := by decide +kernel
theorem dX2_become_81 : decode cX2_become 81 = .ok (.aload_n 0, 1) := by decide +kernel
theorem dX2_become_82 : decode cX2_become 82 = .ok (.getfield 42, 3) := by decide +kernel
theorem dX2_become_85 : decode cX2_become 85 = .ok (.iconst 0, 1) := by decide +kernel
theorem dX2_become_86 : decode cX2_become 86 = .ok (.bipush 6, 2) := by decide +kernel
theorem dX2_become_88 : decode cX2_become 88 = .ok (.invokestatic 69, 3) := by decide +kernel
theorem dX2_become_91 : decode cX2_become 91 = .ok (.aload_n 1, 1) := by decide +kernel
theorem dX2_become_92 : decode cX2_become 92 = .ok (.getfield 46, 3) := by decide +kernel
theorem dX2_become_95 : decode cX2_become 95 = .ok (.iconst 0, 1) := by decide +kernel
theorem dX2_become_96 : decode cX2_become 96 = .ok (.aload_n 0, 1) := by decide +kernel
theorem dX2_become_97 : decode cX2_become 97 = .ok (.getfield 46, 3) := by decide +kernel
theorem dX2_become_100 : decode cX2_become 100 = .ok (.iconst 0, 1) := by decide +kernel
theorem dX2_become_101 : decode cX2_become 101 = .ok (.iconst 4, 1) := by decide +kernel
theorem dX2_become_102 : decode cX2_become 102 = .ok (.invokestatic 69, 3) := by decide +kernel
theorem dX2_become_105 : decode cX2_become 105 = .ok (.aload_n 1, 1) := by decide +kernel
theorem dX2_become_106 : decode cX2_become 106 = .ok (.getfield 49, 3) := by decide +kernel
theorem dX2_become_109 : decode cX2_become 109 = .ok (.iconst 0, 1) := by decide +kernel
theorem dX2_become_110 : decode cX2_become 110 = .ok (.aload_n 0, 1) := by decide +kernel
theorem dX2_become_111 : decode cX2_become 111 = .ok (.getfield 49, 3) := by decide +kernel
theorem dX2_become_114 : decode cX2_become 114 = .ok (.iconst 0, 1) := by decide +kernel
theorem dX2_become_115 : decode cX2_become 115 = .ok (.bipush 48, 2) := by decide +kernel
theorem dX2_become_117 : decode cX2_become 117 = .ok (.invokestatic 69, 3) := by decide +kernel
theorem dX2_become_120 : decode cX2_become 120 = .ok (.return_, 1) := by decide +kernel
theorem dX2_isThere_0 : decode cX2_isThere 0 = .ok (.aload_n 0, 1) := by decide +kernel
theorem dX2_isThere_1 : decode cX2_isThere 1 = .ok (.getfield 9, 3) := by decide +kernel
theorem dX2_isThere_4 : decode cX2_isThere 4 = .ok (.ifCond .le 7, 3) := by decide +kernel
theorem dX2_isThere_7 : decode cX2_isThere 7 = .ok (.iconst 1, 1) := by decide +kernel
theorem dX2_isThere_8 : decode cX2_isThere 8 = .ok (.goto 4, 3) := by decide +kernel
theorem dX2_isThere_11 : decode cX2_isThere 11 = .ok (.iconst 0, 1) := by decide +kernel
theorem dX2_isThere_12 : decode cX2_isThere 12 = .ok (.ireturn, 1) := by decide +kernel
theorem dX2_hasHub_0 : decode cX2_hasHub 0 = .ok (.iload_n 1, 1) := by decide +kernel
theorem dX2_hasHub_1 : decode cX2_hasHub 1 = .ok (.ifCond .lt 15, 3) := by decide +kernel
theorem dX2_hasHub_4 : decode cX2_hasHub 4 = .ok (.iload_n 1, 1) := by decide +kernel
theorem dX2_hasHub_5 : decode cX2_hasHub 5 = .ok (.aload_n 0, 1) := by decide +kernel
theorem dX2_hasHub_6 : decode cX2_hasHub 6 = .ok (.getfield 9, 3) := by decide +kernel
theorem dX2_hasHub_9 : decode cX2_hasHub 9 = .ok (.if_icmp .ge 7, 3) := by decide +kernel
theorem dX2_hasHub_12 : decode cX2_hasHub 12 = .ok (.iconst 1, 1) := by decide +kernel
theorem dX2_hasHub_13 : decode cX2_hasHub 13 = .ok (.goto 4, 3) := by decide +kernel
theorem dX2_hasHub_16 : decode cX2_hasHub 16 = .ok (.iconst 0, 1) := by decide +kernel
theorem dX2_hasHub_17 : decode cX2_hasHub 17 = .ok (.ireturn, 1) := by decide +kernel
theorem dX2_isIn_0 : decode cX2_isIn 0 = .ok (.aload_n 0, 1) := by decide +kernel
theorem dX2_isIn_1 : decode cX2_isIn 1 = .ok (.getfield 33, 3) := by decide +kernel
theorem dX2_isIn_4 : decode cX2_isIn 4 = .ok (.iload_n 1, 1) := by decide +kernel
theorem dX2_isIn_5 : decode cX2_isIn 5 = .ok (.invokevirtual 75, 3) := by decide +kernel
theorem dX2_isIn_8 : decode cX2_isIn 8 = .ok (.ifCond .eq 20, 3) := by decide +kernel
theorem dX2_isIn_11 : decode cX2_isIn 11 = .ok (.aload_n 0, 1) := by decide +kernel
theorem dX2_isIn_12 : decode cX2_isIn 12 = .ok (.getfield 33, 3) := by decide +kernel
theorem dX2_isIn_15 : decode cX2_isIn 15 = .ok (.iload_n 1, 1) := by decide +kernel
theorem dX2_isIn_16 : decode cX2_isIn 16 = .ok (.iconst 1, 1) := by decide +kernel
theorem dX2_isIn_17 : decode cX2_isIn 17 = .ok (.invokevirtual 79, 3) := by decide +kernel
theorem dX2_isIn_20 : decode cX2_isIn 20 = .ok (.iconst 1, 1) := by decide +kernel
theorem dX2_isIn_21 : decode cX2_isIn 21 = .ok (.if_icmp .ne 7, 3) := by decide +kernel
theorem dX2_isIn_24 : decode cX2_isIn 24 = .ok (.iconst 1, 1) := by decide +kernel
theorem dX2_isIn_25 : decode cX2_isIn 25 = .ok (.goto 4, 3) := by decide +kernel
theorem dX2_isIn_28 : decode cX2_isIn 28 = .ok (.iconst 0, 1) := by decide +kernel
theorem dX2_isIn_29 : decode cX2_isIn 29 = .ok (.ireturn, 1) := by decide +kernel
theorem dX2_isOut_0 : decode cX2_isOut 0 = .ok (.aload_n 0, 1) := by decide +kernel
theorem dX2_isOut_1 : decode cX2_isOut 1 = .ok (.getfield 33, 3) := by decide +kernel
theorem dX2_isOut_4 : decode cX2_isOut 4 = .ok (.iload_n 1, 1) := by decide +kernel
theorem dX2_isOut_5 : decode cX2_isOut 5 = .ok (.invokevirtual 75, 3) := by decide +kernel
theorem dX2_isOut_8 : decode cX2_isOut 8 = .ok (.ifCond .eq 19, 3) := by decide +kernel
theorem dX2_isOut_11 : decode cX2_isOut 11 = .ok (.aload_n 0, 1) := by decide +kernel
theorem dX2_isOut_12 : decode cX2_isOut 12 = .ok (.getfield 33, 3) := by decide +kernel
theorem dX2_isOut_15 : decode cX2_isOut 15 = .ok (.iload_n 1, 1) := by decide +kernel
theorem dX2_isOut_16 : decode cX2_isOut 16 = .ok (.iconst 1, 1) := by decide +kernel
theorem dX2_isOut_17 : decode cX2_isOut 17 = .ok (.invokevirtual 79, 3) := by decide +kernel
theorem dX2_isOut_20 : decode cX2_isOut 20 = .ok (.ifCond .ne 7, 3) := by decide +kernel
theorem dX2_isOut_23 : decode cX2_isOut 23 = .ok (.iconst 1, 1) := by decide +kernel
theorem dX2_isOut_24 : decode cX2_isOut 24 = .ok (.goto 4, 3) := by decide +kernel
theorem dX2_isOut_27 : decode cX2_isOut 27 = .ok (.iconst 0, 1) := by decide +kernel
theorem dX2_isOut_28 : decode cX2_isOut 28 = .ok (.ireturn, 1) := by decide +kernel
theorem dX2_hubOf_0 : decode cX2_hubOf 0 = .ok (.aload_n 0, 1) := by decide +kernel
theorem dX2_hubOf_1 : decode cX2_hubOf 1 = .ok (.getfield 33, 3) := by decide +kernel
theorem dX2_hubOf_4 : decode cX2_hubOf 4 = .ok (.iload_n 1, 1) := by decide +kernel
theorem dX2_hubOf_5 : decode cX2_hubOf 5 = .ok (.iconst 0, 1) := by decide +kernel
theorem dX2_hubOf_6 : decode cX2_hubOf 6 = .ok (.invokevirtual 79, 3) := by decide +kernel
theorem dX2_hubOf_9 : decode cX2_hubOf 9 = .ok (.ireturn, 1) := by decide +kernel
theorem dX2_hasCap_0 : decode cX2_hasCap 0 = .ok (.iload_n 1, 1) := by decide +kernel
theorem dX2_hasCap_1 : decode cX2_hasCap 1 = .ok (.ifCond .ne 14, 3) := by decide +kernel
theorem dX2_hasCap_4 : decode cX2_hasCap 4 = .ok (.aload_n 0, 1) := by decide +kernel
theorem dX2_hasCap_5 : decode cX2_hasCap 5 = .ok (.getfield 33, 3) := by decide +kernel
theorem dX2_hasCap_8 : decode cX2_hasCap 8 = .ok (.iload_n 2, 1) := by decide +kernel
theorem dX2_hasCap_9 : decode cX2_hasCap 9 = .ok (.invokevirtual 75, 3) := by decide +kernel
theorem dX2_hasCap_12 : decode cX2_hasCap 12 = .ok (.ifCond .ne 19, 3) := by decide +kernel
theorem dX2_hasCap_15 : decode cX2_hasCap 15 = .ok (.iload_n 1, 1) := by decide +kernel
theorem dX2_hasCap_16 : decode cX2_hasCap 16 = .ok (.iconst 1, 1) := by decide +kernel
theorem dX2_hasCap_17 : decode cX2_hasCap 17 = .ok (.if_icmp .ne 18, 3) := by decide +kernel
theorem dX2_hasCap_20 : decode cX2_hasCap 20 = .ok (.aload_n 0, 1) := by decide +kernel
theorem dX2_hasCap_21 : decode cX2_hasCap 21 = .ok (.getfield 29, 3) := by decide +kernel
theorem dX2_hasCap_24 : decode cX2_hasCap 24 = .ok (.iload_n 2, 1) := by decide +kernel
theorem dX2_hasCap_25 : decode cX2_hasCap 25 = .ok (.invokevirtual 75, 3) := by decide +kernel
theorem dX2_hasCap_28 : decode cX2_hasCap 28 = .ok (.ifCond .eq 7, 3) := by decide +kernel
theorem dX2_hasCap_31 : decode cX2_hasCap 31 = .ok (.iconst 1, 1) := by decide +kernel
theorem dX2_hasCap_32 : decode cX2_hasCap 32 = .ok (.goto 4, 3) := by decide +kernel
theorem dX2_hasCap_35 : decode cX2_hasCap 35 = .ok (.iconst 0, 1) := by decide +kernel
theorem dX2_hasCap_36 : decode cX2_hasCap 36 = .ok (.ireturn, 1) := by decide +kernel
theorem dX2_capOf_0 : decode cX2_capOf 0 = .ok (.iload_n 1, 1) := by decide +kernel
theorem dX2_capOf_1 : decode cX2_capOf 1 = .ok (.ifCond .ne 15, 3) := by decide +kernel
theorem dX2_capOf_4 : decode cX2_capOf 4 = .ok (.aload_n 0, 1) := by decide +kernel
theorem dX2_capOf_5 : decode cX2_capOf 5 = .ok (.getfield 33, 3) := by decide +kernel
theorem dX2_capOf_8 : decode cX2_capOf 8 = .ok (.iload_n 2, 1) := by decide +kernel
theorem dX2_capOf_9 : decode cX2_capOf 9 = .ok (.iconst 2, 1) := by decide +kernel
theorem dX2_capOf_10 : decode cX2_capOf 10 = .ok (.invokevirtual 79, 3) := by decide +kernel
theorem dX2_capOf_13 : decode cX2_capOf 13 = .ok (.goto 12, 3) := by decide +kernel
theorem dX2_capOf_16 : decode cX2_capOf 16 = .ok (.aload_n 0, 1) := by decide +kernel
theorem dX2_capOf_17 : decode cX2_capOf 17 = .ok (.getfield 29, 3) := by decide +kernel
theorem dX2_capOf_20 : decode cX2_capOf 20 = .ok (.iload_n 2, 1) := by decide +kernel
theorem dX2_capOf_21 : decode cX2_capOf 21 = .ok (.iconst 0, 1) := by decide +kernel
theorem dX2_capOf_22 : decode cX2_capOf 22 = .ok (.invokevirtual 79, 3) := by decide +kernel
theorem dX2_capOf_25 : decode cX2_capOf 25 = .ok (.ireturn, 1) := by decide +kernel
theorem dX2_putCap_0 : decode cX2_putCap 0 = .ok (.iload_n 1, 1) := by decide +kernel
theorem dX2_putCap_1 : decode cX2_putCap 1 = .ok (.ifCond .ne 16, 3) := by decide +kernel
theorem dX2_putCap_4 : decode cX2_putCap 4 = .ok (.aload_n 0, 1) := by decide +kernel
theorem dX2_putCap_5 : decode cX2_putCap 5 = .ok (.getfield 33, 3) := by decide +kernel
theorem dX2_putCap_8 : decode cX2_putCap 8 = .ok (.iload_n 2, 1) := by decide +kernel
theorem dX2_putCap_9 : decode cX2_putCap 9 = .ok (.iconst 2, 1) := by decide +kernel
theorem dX2_putCap_10 : decode cX2_putCap 10 = .ok (.iload_n 3, 1) := by decide +kernel
theorem dX2_putCap_11 : decode cX2_putCap 11 = .ok (.invokevirtual 83, 3) := by decide +kernel
theorem dX2_putCap_14 : decode cX2_putCap 14 = .ok (.goto 13, 3) := by decide +kernel
theorem dX2_putCap_17 : decode cX2_putCap 17 = .ok (.aload_n 0, 1) := by decide +kernel
theorem dX2_putCap_18 : decode cX2_putCap 18 = .ok (.getfield 29, 3) := by decide +kernel
theorem dX2_putCap_21 : decode cX2_putCap 21 = .ok (.iload_n 2, 1) := by decide +kernel
theorem dX2_putCap_22 : decode cX2_putCap 22 = .ok (.iconst 0, 1) := by decide +kernel
theorem dX2_putCap_23 : decode cX2_putCap 23 = .ok (.iload_n 3, 1) := by decide +kernel
theorem dX2_putCap_24 : decode cX2_putCap 24 = .ok (.invokevirtual 83, 3) := by decide +kernel
theorem dX2_putCap_27 : decode cX2_putCap 27 = .ok (.return_, 1) := by decide +kernel
theorem dX2_allows_0 : decode cX2_allows 0 = .ok (.aload_n 0, 1) := by decide +kernel
theorem dX2_allows_1 : decode cX2_allows 1 = .ok (.getfield 36, 3) := by decide +kernel
theorem dX2_allows_4 : decode cX2_allows 4 = .ok (.iload_n 1, 1) := by decide +kernel
theorem dX2_allows_5 : decode cX2_allows 5 = .ok (.invokevirtual 75, 3) := by decide +kernel
theorem dX2_allows_8 : decode cX2_allows 8 = .ok (.ifCond .eq 55, 3) := by decide +kernel
theorem dX2_allows_11 : decode cX2_allows 11 = .ok (.iload_n 2, 1) := by decide +kernel
theorem dX2_allows_12 : decode cX2_allows 12 = .ok (.iconst (-1), 1) := by decide +kernel
theorem dX2_allows_13 : decode cX2_allows 13 = .ok (.if_icmp .eq 11, 3) := by decide +kernel
theorem dX2_allows_16 : decode cX2_allows 16 = .ok (.aload_n 0, 1) := by decide +kernel
theorem dX2_allows_17 : decode cX2_allows 17 = .ok (.iload_n 2, 1) := by decide +kernel
theorem dX2_allows_18 : decode cX2_allows 18 = .ok (.invokevirtual 87, 3) := by decide +kernel
theorem dX2_allows_21 : decode cX2_allows 21 = .ok (.ifCond .eq 42, 3) := by decide +kernel
theorem dX2_allows_24 : decode cX2_allows 24 = .ok (.iload_n 3, 1) := by decide +kernel
theorem dX2_allows_25 : decode cX2_allows 25 = .ok (.iconst (-1), 1) := by decide +kernel
theorem dX2_allows_26 : decode cX2_allows 26 = .ok (.if_icmp .eq 11, 3) := by decide +kernel
theorem dX2_allows_29 : decode cX2_allows 29 = .ok (.aload_n 0, 1) := by decide +kernel
theorem dX2_allows_30 : decode cX2_allows 30 = .ok (.iload_n 3, 1) := by decide +kernel
theorem dX2_allows_31 : decode cX2_allows 31 = .ok (.invokevirtual 90, 3) := by decide +kernel
theorem dX2_allows_34 : decode cX2_allows 34 = .ok (.ifCond .eq 29, 3) := by decide +kernel
theorem dX2_allows_37 : decode cX2_allows 37 = .ok (.iload_n 2, 1) := by decide +kernel
theorem dX2_allows_38 : decode cX2_allows 38 = .ok (.iconst (-1), 1) := by decide +kernel
theorem dX2_allows_39 : decode cX2_allows 39 = .ok (.if_icmp .ne 8, 3) := by decide +kernel
theorem dX2_allows_42 : decode cX2_allows 42 = .ok (.iload_n 3, 1) := by decide +kernel
theorem dX2_allows_43 : decode cX2_allows 43 = .ok (.iconst (-1), 1) := by decide +kernel
theorem dX2_allows_44 : decode cX2_allows 44 = .ok (.if_icmp .eq 19, 3) := by decide +kernel
theorem dX2_allows_47 : decode cX2_allows 47 = .ok (.iload 4, 2) := by decide +kernel
theorem dX2_allows_49 : decode cX2_allows 49 = .ok (.iconst 1, 1) := by decide +kernel
theorem dX2_allows_50 : decode cX2_allows 50 = .ok (.sipush 9999, 3) := by decide +kernel
theorem dX2_allows_53 : decode cX2_allows 53 = .ok (.invokestatic 93, 3) := by decide +kernel
theorem dX2_allows_56 : decode cX2_allows 56 = .ok (.ifCond .eq 7, 3) := by decide +kernel
theorem dX2_allows_59 : decode cX2_allows 59 = .ok (.iconst 1, 1) := by decide +kernel
theorem dX2_allows_60 : decode cX2_allows 60 = .ok (.goto 4, 3) := by decide +kernel
theorem dX2_allows_63 : decode cX2_allows 63 = .ok (.iconst 0, 1) := by decide +kernel
theorem dX2_allows_64 : decode cX2_allows 64 = .ok (.ireturn, 1) := by decide +kernel
theorem dX2_addNomination_0 : decode cX2_addNomination 0 = .ok (.aload_n 0, 1) := by decide +kernel
theorem dX2_addNomination_1 : decode cX2_addNomination 1 = .ok (.getfield 39, 3) := by decide +kernel
theorem dX2_addNomination_4 : decode cX2_addNomination 4 = .ok (.invokevirtual 97, 3) := by decide +kernel
theorem dX2_addNomination_7 : decode cX2_addNomination 7 = .ok (.istore 5, 2) := by decide +kernel
theorem dX2_addNomination_9 : decode cX2_addNomination 9 = .ok (.aload_n 0, 1) := by decide +kernel
theorem dX2_addNomination_10 : decode cX2_addNomination 10 = .ok (.getfield 39, 3) := by decide +kernel
theorem dX2_addNomination_13 : decode cX2_addNomination 13 = .ok (.iload 5, 2) := by decide +kernel
theorem dX2_addNomination_15 : decode cX2_addNomination 15 = .ok (.iconst 0, 1) := by decide +kernel
theorem dX2_addNomination_16 : decode cX2_addNomination 16 = .ok (.iload_n 1, 1) := by decide +kernel
theorem dX2_addNomination_17 : decode cX2_addNomination 17 = .ok (.invokevirtual 83, 3) := by decide +kernel
theorem dX2_addNomination_20 : decode cX2_addNomination 20 = .ok (.aload_n 0, 1) := by decide +kernel
theorem dX2_addNomination_21 : decode cX2_addNomination 21 = .ok (.getfield 39, 3) := by decide +kernel
theorem dX2_addNomination_24 : decode cX2_addNomination 24 = .ok (.iload 5, 2) := by decide +kernel
theorem dX2_addNomination_26 : decode cX2_addNomination 26 = .ok (.iconst 1, 1) := by decide +kernel
theorem dX2_addNomination_27 : decode cX2_addNomination 27 = .ok (.iload_n 2, 1) := by decide +kernel
theorem dX2_addNomination_28 : decode cX2_addNomination 28 = .ok (.invokevirtual 83, 3) := by decide +kernel
theorem dX2_addNomination_31 : decode cX2_addNomination 31 = .ok (.aload_n 0, 1) := by decide +kernel
theorem dX2_addNomination_32 : decode cX2_addNomination 32 = .ok (.getfield 39, 3) := by decide +kernel
theorem dX2_addNomination_35 : decode cX2_addNomination 35 = .ok (.iload 5, 2) := by decide +kernel
theorem dX2_addNomination_37 : decode cX2_addNomination 37 = .ok (.iconst 2, 1) := by decide +kernel
theorem dX2_addNomination_38 : decode cX2_addNomination 38 = .ok (.iload_n 3, 1) := by decide +kernel
theorem dX2_addNomination_39 : decode cX2_addNomination 39 = .ok (.invokevirtual 83, 3) := by decide +kernel
theorem dX2_addNomination_42 : decode cX2_addNomination 42 = .ok (.aload_n 0, 1) := by decide +kernel
theorem dX2_addNomination_43 : decode cX2_addNomination 43 = .ok (.getfield 39, 3) := by decide +kernel
theorem dX2_addNomination_46 : decode cX2_addNomination 46 = .ok (.iload 5, 2) := by decide +kernel
theorem dX2_addNomination_48 : decode cX2_addNomination 48 = .ok (.iconst 3, 1) := by decide +kernel
theorem dX2_addNomination_49 : decode cX2_addNomination 49 = .ok (.iload 4, 2) := by decide +kernel
theorem dX2_addNomination_51 : decode cX2_addNomination 51 = .ok (.invokevirtual 83, 3) := by decide +kernel
theorem dX2_addNomination_54 : decode cX2_addNomination 54 = .ok (.iload 5, 2) := by decide +kernel
theorem dX2_addNomination_56 : decode cX2_addNomination 56 = .ok (.ireturn, 1) := by decide +kernel
theorem dX2_shipperOf_0 : decode cX2_shipperOf 0 = .ok (.aload_n 0, 1) := by decide +kernel
theorem dX2_shipperOf_1 : decode cX2_shipperOf 1 = .ok (.getfield 39, 3) := by decide +kernel
theorem dX2_shipperOf_4 : decode cX2_shipperOf 4 = .ok (.iload_n 1, 1) := by decide +kernel
theorem dX2_shipperOf_5 : decode cX2_shipperOf 5 = .ok (.iconst 0, 1) := by decide +kernel
theorem dX2_shipperOf_6 : decode cX2_shipperOf 6 = .ok (.invokevirtual 79, 3) := by decide +kernel
theorem dX2_shipperOf_9 : decode cX2_shipperOf 9 = .ok (.ireturn, 1) := by decide +kernel
theorem dX2_goesAlong_0 : decode cX2_goesAlong 0 = .ok (.aload_n 0, 1) := by decide +kernel
theorem dX2_goesAlong_1 : decode cX2_goesAlong 1 = .ok (.getfield 39, 3) := by decide +kernel
theorem dX2_goesAlong_4 : decode cX2_goesAlong 4 = .ok (.iload_n 1, 1) := by decide +kernel
theorem dX2_goesAlong_5 : decode cX2_goesAlong 5 = .ok (.iconst 1, 1) := by decide +kernel
theorem dX2_goesAlong_6 : decode cX2_goesAlong 6 = .ok (.invokevirtual 79, 3) := by decide +kernel
theorem dX2_goesAlong_9 : decode cX2_goesAlong 9 = .ok (.iconst (-1), 1) := by decide +kernel
theorem dX2_goesAlong_10 : decode cX2_goesAlong 10 = .ok (.if_icmp .eq 20, 3) := by decide +kernel
theorem dX2_goesAlong_13 : decode cX2_goesAlong 13 = .ok (.aload_n 0, 1) := by decide +kernel
theorem dX2_goesAlong_14 : decode cX2_goesAlong 14 = .ok (.getfield 39, 3) := by decide +kernel
theorem dX2_goesAlong_17 : decode cX2_goesAlong 17 = .ok (.iload_n 1, 1) := by decide +kernel
theorem dX2_goesAlong_18 : decode cX2_goesAlong 18 = .ok (.iconst 2, 1) := by decide +kernel
theorem dX2_goesAlong_19 : decode cX2_goesAlong 19 = .ok (.invokevirtual 79, 3) := by decide +kernel
theorem dX2_goesAlong_22 : decode cX2_goesAlong 22 = .ok (.iconst (-1), 1) := by decide +kernel
theorem dX2_goesAlong_23 : decode cX2_goesAlong 23 = .ok (.if_icmp .eq 7, 3) := by decide +kernel
theorem dX2_goesAlong_26 : decode cX2_goesAlong 26 = .ok (.iconst 1, 1) := by decide +kernel
theorem dX2_goesAlong_27 : decode cX2_goesAlong 27 = .ok (.goto 4, 3) := by decide +kernel
theorem dX2_goesAlong_30 : decode cX2_goesAlong 30 = .ok (.iconst 0, 1) := by decide +kernel
theorem dX2_goesAlong_31 : decode cX2_goesAlong 31 = .ok (.ireturn, 1) := by decide +kernel
theorem dX2_nominatedBy_0 : decode cX2_nominatedBy 0 = .ok (.iconst 0, 1) := by decide +kernel
theorem dX2_nominatedBy_1 : decode cX2_nominatedBy 1 = .ok (.istore_n 2, 1) := by decide +kernel
theorem dX2_nominatedBy_2 : decode cX2_nominatedBy 2 = .ok (.iconst 0, 1) := by decide +kernel
theorem dX2_nominatedBy_3 : decode cX2_nominatedBy 3 = .ok (.istore_n 3, 1) := by decide +kernel
theorem dX2_nominatedBy_4 : decode cX2_nominatedBy 4 = .ok (.iload_n 3, 1) := by decide +kernel
theorem dX2_nominatedBy_5 : decode cX2_nominatedBy 5 = .ok (.aload_n 0, 1) := by decide +kernel
theorem dX2_nominatedBy_6 : decode cX2_nominatedBy 6 = .ok (.getfield 39, 3) := by decide +kernel
theorem dX2_nominatedBy_9 : decode cX2_nominatedBy 9 = .ok (.getfield 53, 3) := by decide +kernel
theorem dX2_nominatedBy_12 : decode cX2_nominatedBy 12 = .ok (.if_icmp .ge 35, 3) := by decide +kernel
theorem dX2_nominatedBy_15 : decode cX2_nominatedBy 15 = .ok (.iload_n 1, 1) := by decide +kernel
theorem dX2_nominatedBy_16 : decode cX2_nominatedBy 16 = .ok (.iconst (-1), 1) := by decide +kernel
theorem dX2_nominatedBy_17 : decode cX2_nominatedBy 17 = .ok (.if_icmp .eq 12, 3) := by decide +kernel
theorem dX2_nominatedBy_20 : decode cX2_nominatedBy 20 = .ok (.aload_n 0, 1) := by decide +kernel
theorem dX2_nominatedBy_21 : decode cX2_nominatedBy 21 = .ok (.iload_n 3, 1) := by decide +kernel
theorem dX2_nominatedBy_22 : decode cX2_nominatedBy 22 = .ok (.invokevirtual 101, 3) := by decide +kernel
theorem dX2_nominatedBy_25 : decode cX2_nominatedBy 25 = .ok (.iload_n 1, 1) := by decide +kernel
theorem dX2_nominatedBy_26 : decode cX2_nominatedBy 26 = .ok (.if_icmp .ne 15, 3) := by decide +kernel
theorem dX2_nominatedBy_29 : decode cX2_nominatedBy 29 = .ok (.iload_n 2, 1) := by decide +kernel
theorem dX2_nominatedBy_30 : decode cX2_nominatedBy 30 = .ok (.aload_n 0, 1) := by decide +kernel
theorem dX2_nominatedBy_31 : decode cX2_nominatedBy 31 = .ok (.getfield 39, 3) := by decide +kernel
theorem dX2_nominatedBy_34 : decode cX2_nominatedBy 34 = .ok (.iload_n 3, 1) := by decide +kernel
theorem dX2_nominatedBy_35 : decode cX2_nominatedBy 35 = .ok (.iconst 3, 1) := by decide +kernel
theorem dX2_nominatedBy_36 : decode cX2_nominatedBy 36 = .ok (.invokevirtual 79, 3) := by decide +kernel
theorem dX2_nominatedBy_39 : decode cX2_nominatedBy 39 = .ok (.iadd, 1) := by decide +kernel
theorem dX2_nominatedBy_40 : decode cX2_nominatedBy 40 = .ok (.istore_n 2, 1) := by decide +kernel
theorem dX2_nominatedBy_41 : decode cX2_nominatedBy 41 = .ok (.iinc 3 1, 3) := by decide +kernel
theorem dX2_nominatedBy_44 : decode cX2_nominatedBy 44 = .ok (.goto (-40), 3) := by decide +kernel
theorem dX2_nominatedBy_47 : decode cX2_nominatedBy 47 = .ok (.iload_n 2, 1) := by decide +kernel
theorem dX2_nominatedBy_48 : decode cX2_nominatedBy 48 = .ok (.ireturn, 1) := by decide +kernel
theorem dX2_canPark_0 : decode cX2_canPark 0 = .ok (.aload_n 0, 1) := by decide +kernel
theorem dX2_canPark_1 : decode cX2_canPark 1 = .ok (.getfield 36, 3) := by decide +kernel
theorem dX2_canPark_4 : decode cX2_canPark 4 = .ok (.iload_n 1, 1) := by decide +kernel
theorem dX2_canPark_5 : decode cX2_canPark 5 = .ok (.iconst 5, 1) := by decide +kernel
theorem dX2_canPark_6 : decode cX2_canPark 6 = .ok (.invokevirtual 79, 3) := by decide +kernel
theorem dX2_canPark_9 : decode cX2_canPark 9 = .ok (.iload_n 2, 1) := by decide +kernel
theorem dX2_canPark_10 : decode cX2_canPark 10 = .ok (.iadd, 1) := by decide +kernel
theorem dX2_canPark_11 : decode cX2_canPark 11 = .ok (.aload_n 0, 1) := by decide +kernel
theorem dX2_canPark_12 : decode cX2_canPark 12 = .ok (.getfield 36, 3) := by decide +kernel
theorem dX2_canPark_15 : decode cX2_canPark 15 = .ok (.iload_n 1, 1) := by decide +kernel
theorem dX2_canPark_16 : decode cX2_canPark 16 = .ok (.iconst 3, 1) := by decide +kernel
theorem dX2_canPark_17 : decode cX2_canPark 17 = .ok (.invokevirtual 79, 3) := by decide +kernel
theorem dX2_canPark_20 : decode cX2_canPark 20 = .ok (.if_icmp .gt 7, 3) := by decide +kernel
theorem dX2_canPark_23 : decode cX2_canPark 23 = .ok (.iconst 1, 1) := by decide +kernel
theorem dX2_canPark_24 : decode cX2_canPark 24 = .ok (.goto 4, 3) := by decide +kernel
theorem dX2_canPark_27 : decode cX2_canPark 27 = .ok (.iconst 0, 1) := by decide +kernel
theorem dX2_canPark_28 : decode cX2_canPark 28 = .ok (.ireturn, 1) := by decide +kernel
theorem dX2_leftOver_0 : decode cX2_leftOver 0 = .ok (.iload_n 3, 1) := by decide +kernel
theorem dX2_leftOver_1 : decode cX2_leftOver 1 = .ok (.istore 4, 2) := by decide +kernel
theorem dX2_leftOver_3 : decode cX2_leftOver 3 = .ok (.iload_n 1, 1) := by decide +kernel
theorem dX2_leftOver_4 : decode cX2_leftOver 4 = .ok (.istore 5, 2) := by decide +kernel
theorem dX2_leftOver_6 : decode cX2_leftOver 6 = .ok (.iload 5, 2) := by decide +kernel
theorem dX2_leftOver_8 : decode cX2_leftOver 8 = .ok (.iload_n 2, 1) := by decide +kernel
theorem dX2_leftOver_9 : decode cX2_leftOver 9 = .ok (.if_icmp .ge 31, 3) := by decide +kernel
theorem dX2_leftOver_12 : decode cX2_leftOver 12 = .ok (.iload 4, 2) := by decide +kernel
theorem dX2_leftOver_14 : decode cX2_leftOver 14 = .ok (.iload 4, 2) := by decide +kernel
theorem dX2_leftOver_16 : decode cX2_leftOver 16 = .ok (.aload_n 0, 1) := by decide +kernel
theorem dX2_leftOver_17 : decode cX2_leftOver 17 = .ok (.getfield 29, 3) := by decide +kernel
theorem dX2_leftOver_20 : decode cX2_leftOver 20 = .ok (.iload 5, 2) := by decide +kernel
theorem dX2_leftOver_22 : decode cX2_leftOver 22 = .ok (.iconst 1, 1) := by decide +kernel
theorem dX2_leftOver_23 : decode cX2_leftOver 23 = .ok (.invokevirtual 79, 3) := by decide +kernel
theorem dX2_leftOver_26 : decode cX2_leftOver 26 = .ok (.imul, 1) := by decide +kernel
theorem dX2_leftOver_27 : decode cX2_leftOver 27 = .ok (.sipush 1000, 3) := by decide +kernel
theorem dX2_leftOver_30 : decode cX2_leftOver 30 = .ok (.idiv, 1) := by decide +kernel
theorem dX2_leftOver_31 : decode cX2_leftOver 31 = .ok (.isub, 1) := by decide +kernel
theorem dX2_leftOver_32 : decode cX2_leftOver 32 = .ok (.istore 4, 2) := by decide +kernel
theorem dX2_leftOver_34 : decode cX2_leftOver 34 = .ok (.iinc 5 1, 3) := by decide +kernel
theorem dX2_leftOver_37 : decode cX2_leftOver 37 = .ok (.goto (-31), 3) := by decide +kernel
theorem dX2_leftOver_40 : decode cX2_leftOver 40 = .ok (.iload_n 1, 1) := by decide +kernel
theorem dX2_leftOver_41 : decode cX2_leftOver 41 = .ok (.iconst 1, 1) := by decide +kernel
theorem dX2_leftOver_42 : decode cX2_leftOver 42 = .ok (.isub, 1) := by decide +kernel
theorem dX2_leftOver_43 : decode cX2_leftOver 43 = .ok (.istore 5, 2) := by decide +kernel
theorem dX2_leftOver_45 : decode cX2_leftOver 45 = .ok (.iload 5, 2) := by decide +kernel
theorem dX2_leftOver_47 : decode cX2_leftOver 47 = .ok (.iload_n 2, 1) := by decide +kernel
theorem dX2_leftOver_48 : decode cX2_leftOver 48 = .ok (.if_icmp .lt 31, 3) := by decide +kernel
theorem dX2_leftOver_51 : decode cX2_leftOver 51 = .ok (.iload 4, 2) := by decide +kernel
theorem dX2_leftOver_53 : decode cX2_leftOver 53 = .ok (.iload 4, 2) := by decide +kernel
theorem dX2_leftOver_55 : decode cX2_leftOver 55 = .ok (.aload_n 0, 1) := by decide +kernel
theorem dX2_leftOver_56 : decode cX2_leftOver 56 = .ok (.getfield 29, 3) := by decide +kernel
theorem dX2_leftOver_59 : decode cX2_leftOver 59 = .ok (.iload 5, 2) := by decide +kernel
theorem dX2_leftOver_61 : decode cX2_leftOver 61 = .ok (.iconst 1, 1) := by decide +kernel
theorem dX2_leftOver_62 : decode cX2_leftOver 62 = .ok (.invokevirtual 79, 3) := by decide +kernel
theorem dX2_leftOver_65 : decode cX2_leftOver 65 = .ok (.imul, 1) := by decide +kernel
theorem dX2_leftOver_66 : decode cX2_leftOver 66 = .ok (.sipush 1000, 3) := by decide +kernel
theorem dX2_leftOver_69 : decode cX2_leftOver 69 = .ok (.idiv, 1) := by decide +kernel
theorem dX2_leftOver_70 : decode cX2_leftOver 70 = .ok (.isub, 1) := by decide +kernel
theorem dX2_leftOver_71 : decode cX2_leftOver 71 = .ok (.istore 4, 2) := by decide +kernel
theorem dX2_leftOver_73 : decode cX2_leftOver 73 = .ok (.iinc 5 (-1), 3) := by decide +kernel
theorem dX2_leftOver_76 : decode cX2_leftOver 76 = .ok (.goto (-31), 3) := by decide +kernel
theorem dX2_leftOver_79 : decode cX2_leftOver 79 = .ok (.iload 4, 2) := by decide +kernel
theorem dX2_leftOver_81 : decode cX2_leftOver 81 = .ok (.ireturn, 1) := by decide +kernel
theorem dX2_leastFor_0 : decode cX2_leastFor 0 = .ok (.iconst (-1), 1) := by decide +kernel
theorem dX2_leastFor_1 : decode cX2_leastFor 1 = .ok (.istore 4, 2) := by decide +kernel
theorem dX2_leastFor_3 : decode cX2_leastFor 3 = .ok (.ldc 105, 2) := by decide +kernel
theorem dX2_leastFor_5 : decode cX2_leastFor 5 = .ok (.istore 5, 2) := by decide +kernel
theorem dX2_leastFor_7 : decode cX2_leastFor 7 = .ok (.iload 5, 2) := by decide +kernel
theorem dX2_leastFor_9 : decode cX2_leastFor 9 = .ok (.ifCond .le 42, 3) := by decide +kernel
theorem dX2_leastFor_12 : decode cX2_leastFor 12 = .ok (.iload 4, 2) := by decide +kernel
theorem dX2_leastFor_14 : decode cX2_leastFor 14 = .ok (.iload 5, 2) := by decide +kernel
theorem dX2_leastFor_16 : decode cX2_leastFor 16 = .ok (.iadd, 1) := by decide +kernel
theorem dX2_leastFor_17 : decode cX2_leastFor 17 = .ok (.istore 6, 2) := by decide +kernel
theorem dX2_leastFor_19 : decode cX2_leastFor 19 = .ok (.iload 6, 2) := by decide +kernel
theorem dX2_leastFor_21 : decode cX2_leastFor 21 = .ok (.ldc 106, 2) := by decide +kernel
theorem dX2_leastFor_23 : decode cX2_leastFor 23 = .ok (.if_icmp .gt 19, 3) := by decide +kernel
theorem dX2_leastFor_26 : decode cX2_leastFor 26 = .ok (.aload_n 0, 1) := by decide +kernel
theorem dX2_leastFor_27 : decode cX2_leastFor 27 = .ok (.iload_n 1, 1) := by decide +kernel
theorem dX2_leastFor_28 : decode cX2_leastFor 28 = .ok (.iload_n 2, 1) := by decide +kernel
theorem dX2_leastFor_29 : decode cX2_leastFor 29 = .ok (.iload 6, 2) := by decide +kernel
theorem dX2_leastFor_31 : decode cX2_leastFor 31 = .ok (.invokevirtual 107, 3) := by decide +kernel
theorem dX2_leastFor_34 : decode cX2_leastFor 34 = .ok (.iload_n 3, 1) := by decide +kernel
theorem dX2_leastFor_35 : decode cX2_leastFor 35 = .ok (.if_icmp .ge 7, 3) := by decide +kernel
theorem dX2_leastFor_38 : decode cX2_leastFor 38 = .ok (.iload 6, 2) := by decide +kernel
theorem dX2_leastFor_40 : decode cX2_leastFor 40 = .ok (.istore 4, 2) := by decide +kernel
theorem dX2_leastFor_42 : decode cX2_leastFor 42 = .ok (.iload 5, 2) := by decide +kernel
theorem dX2_leastFor_44 : decode cX2_leastFor 44 = .ok (.iconst 1, 1) := by decide +kernel
theorem dX2_leastFor_45 : decode cX2_leastFor 45 = .ok (.ishr, 1) := by decide +kernel
theorem dX2_leastFor_46 : decode cX2_leastFor 46 = .ok (.istore 5, 2) := by decide +kernel
theorem dX2_leastFor_48 : decode cX2_leastFor 48 = .ok (.goto (-41), 3) := by decide +kernel
theorem dX2_leastFor_51 : decode cX2_leastFor 51 = .ok (.iload 4, 2) := by decide +kernel
theorem dX2_leastFor_53 : decode cX2_leastFor 53 = .ok (.ldc 106, 2) := by decide +kernel
theorem dX2_leastFor_55 : decode cX2_leastFor 55 = .ok (.if_icmp .ge 10, 3) := by decide +kernel
theorem dX2_leastFor_58 : decode cX2_leastFor 58 = .ok (.iload 4, 2) := by decide +kernel
theorem dX2_leastFor_60 : decode cX2_leastFor 60 = .ok (.iconst 1, 1) := by decide +kernel
theorem dX2_leastFor_61 : decode cX2_leastFor 61 = .ok (.iadd, 1) := by decide +kernel
theorem dX2_leastFor_62 : decode cX2_leastFor 62 = .ok (.goto 5, 3) := by decide +kernel
theorem dX2_leastFor_65 : decode cX2_leastFor 65 = .ok (.bipush (-2), 2) := by decide +kernel
theorem dX2_leastFor_67 : decode cX2_leastFor 67 = .ok (.ireturn, 1) := by decide +kernel
theorem dX2_delivered_0 : decode cX2_delivered 0 = .ok (.aload_n 0, 1) := by decide +kernel
theorem dX2_delivered_1 : decode cX2_delivered 1 = .ok (.iload_n 1, 1) := by decide +kernel
theorem dX2_delivered_2 : decode cX2_delivered 2 = .ok (.invokevirtual 111, 3) := by decide +kernel
theorem dX2_delivered_5 : decode cX2_delivered 5 = .ok (.ifCond .ne 5, 3) := by decide +kernel
theorem dX2_delivered_8 : decode cX2_delivered 8 = .ok (.iload_n 2, 1) := by decide +kernel
theorem dX2_delivered_9 : decode cX2_delivered 9 = .ok (.ireturn, 1) := by decide +kernel
theorem dX2_delivered_10 : decode cX2_delivered 10 = .ok (.aload_n 0, 1) := by decide +kernel
theorem dX2_delivered_11 : decode cX2_delivered 11 = .ok (.aload_n 0, 1) := by decide +kernel
theorem dX2_delivered_12 : decode cX2_delivered 12 = .ok (.getfield 39, 3) := by decide +kernel
theorem dX2_delivered_15 : decode cX2_delivered 15 = .ok (.iload_n 1, 1) := by decide +kernel
theorem dX2_delivered_16 : decode cX2_delivered 16 = .ok (.iconst 1, 1) := by decide +kernel
theorem dX2_delivered_17 : decode cX2_delivered 17 = .ok (.invokevirtual 79, 3) := by decide +kernel
theorem dX2_delivered_20 : decode cX2_delivered 20 = .ok (.invokevirtual 114, 3) := by decide +kernel
theorem dX2_delivered_23 : decode cX2_delivered 23 = .ok (.istore_n 3, 1) := by decide +kernel
theorem dX2_delivered_24 : decode cX2_delivered 24 = .ok (.aload_n 0, 1) := by decide +kernel
theorem dX2_delivered_25 : decode cX2_delivered 25 = .ok (.aload_n 0, 1) := by decide +kernel
theorem dX2_delivered_26 : decode cX2_delivered 26 = .ok (.getfield 39, 3) := by decide +kernel
theorem dX2_delivered_29 : decode cX2_delivered 29 = .ok (.iload_n 1, 1) := by decide +kernel
theorem dX2_delivered_30 : decode cX2_delivered 30 = .ok (.iconst 2, 1) := by decide +kernel
theorem dX2_delivered_31 : decode cX2_delivered 31 = .ok (.invokevirtual 79, 3) := by decide +kernel
theorem dX2_delivered_34 : decode cX2_delivered 34 = .ok (.invokevirtual 114, 3) := by decide +kernel
theorem dX2_delivered_37 : decode cX2_delivered 37 = .ok (.istore 4, 2) := by decide +kernel
theorem dX2_delivered_39 : decode cX2_delivered 39 = .ok (.aload_n 0, 1) := by decide +kernel
theorem dX2_delivered_40 : decode cX2_delivered 40 = .ok (.iload_n 3, 1) := by decide +kernel
theorem dX2_delivered_41 : decode cX2_delivered 41 = .ok (.iload 4, 2) := by decide +kernel
theorem dX2_delivered_43 : decode cX2_delivered 43 = .ok (.iload_n 2, 1) := by decide +kernel
theorem dX2_delivered_44 : decode cX2_delivered 44 = .ok (.invokevirtual 107, 3) := by decide +kernel
theorem dX2_delivered_47 : decode cX2_delivered 47 = .ok (.ireturn, 1) := by decide +kernel
theorem dX2_swung_0 : decode cX2_swung 0 = .ok (.iload_n 1, 1) := by decide +kernel
theorem dX2_swung_1 : decode cX2_swung 1 = .ok (.bipush 100, 2) := by decide +kernel
theorem dX2_swung_3 : decode cX2_swung 3 = .ok (.aload_n 0, 1) := by decide +kernel
theorem dX2_swung_4 : decode cX2_swung 4 = .ok (.getfield 33, 3) := by decide +kernel
theorem dX2_swung_7 : decode cX2_swung 7 = .ok (.iload_n 2, 1) := by decide +kernel
theorem dX2_swung_8 : decode cX2_swung 8 = .ok (.iconst 3, 1) := by decide +kernel
theorem dX2_swung_9 : decode cX2_swung 9 = .ok (.invokevirtual 79, 3) := by decide +kernel
theorem dX2_swung_12 : decode cX2_swung 12 = .ok (.iadd, 1) := by decide +kernel
theorem dX2_swung_13 : decode cX2_swung 13 = .ok (.imul, 1) := by decide +kernel
theorem dX2_swung_14 : decode cX2_swung 14 = .ok (.bipush 100, 2) := by decide +kernel
theorem dX2_swung_16 : decode cX2_swung 16 = .ok (.idiv, 1) := by decide +kernel
theorem dX2_swung_17 : decode cX2_swung 17 = .ok (.ireturn, 1) := by decide +kernel
theorem dX2_passDay_0 : decode cX2_passDay 0 = .ok (.iconst 0, 1) := by decide +kernel
theorem dX2_passDay_1 : decode cX2_passDay 1 = .ok (.istore_n 2, 1) := by decide +kernel
theorem dX2_passDay_2 : decode cX2_passDay 2 = .ok (.iconst 0, 1) := by decide +kernel
theorem dX2_passDay_3 : decode cX2_passDay 3 = .ok (.istore_n 3, 1) := by decide +kernel
theorem dX2_passDay_4 : decode cX2_passDay 4 = .ok (.iload_n 3, 1) := by decide +kernel
theorem dX2_passDay_5 : decode cX2_passDay 5 = .ok (.aload_n 0, 1) := by decide +kernel
theorem dX2_passDay_6 : decode cX2_passDay 6 = .ok (.getfield 39, 3) := by decide +kernel
theorem dX2_passDay_9 : decode cX2_passDay 9 = .ok (.getfield 53, 3) := by decide +kernel
theorem dX2_passDay_12 : decode cX2_passDay 12 = .ok (.if_icmp .ge 45, 3) := by decide +kernel
theorem dX2_passDay_15 : decode cX2_passDay 15 = .ok (.aload_n 1, 1) := by decide +kernel
theorem dX2_passDay_16 : decode cX2_passDay 16 = .ok (.getfield 117, 3) := by decide +kernel
theorem dX2_passDay_19 : decode cX2_passDay 19 = .ok (.iload_n 3, 1) := by decide +kernel
theorem dX2_passDay_20 : decode cX2_passDay 20 = .ok (.iaload, 1) := by decide +kernel
theorem dX2_passDay_21 : decode cX2_passDay 21 = .ok (.istore 4, 2) := by decide +kernel
theorem dX2_passDay_23 : decode cX2_passDay 23 = .ok (.aload_n 0, 1) := by decide +kernel
theorem dX2_passDay_24 : decode cX2_passDay 24 = .ok (.iload_n 3, 1) := by decide +kernel
theorem dX2_passDay_25 : decode cX2_passDay 25 = .ok (.iload 4, 2) := by decide +kernel
theorem dX2_passDay_27 : decode cX2_passDay 27 = .ok (.invokevirtual 122, 3) := by decide +kernel
theorem dX2_passDay_30 : decode cX2_passDay 30 = .ok (.iload_n 2, 1) := by decide +kernel
theorem dX2_passDay_31 : decode cX2_passDay 31 = .ok (.iload 4, 2) := by decide +kernel
theorem dX2_passDay_33 : decode cX2_passDay 33 = .ok (.ifCond .le 15, 3) := by decide +kernel
theorem dX2_passDay_36 : decode cX2_passDay 36 = .ok (.aload_n 0, 1) := by decide +kernel
theorem dX2_passDay_37 : decode cX2_passDay 37 = .ok (.iload_n 3, 1) := by decide +kernel
theorem dX2_passDay_38 : decode cX2_passDay 38 = .ok (.invokevirtual 111, 3) := by decide +kernel
theorem dX2_passDay_41 : decode cX2_passDay 41 = .ok (.ifCond .ne 7, 3) := by decide +kernel
theorem dX2_passDay_44 : decode cX2_passDay 44 = .ok (.iconst 1, 1) := by decide +kernel
theorem dX2_passDay_45 : decode cX2_passDay 45 = .ok (.goto 4, 3) := by decide +kernel
theorem dX2_passDay_48 : decode cX2_passDay 48 = .ok (.iconst 0, 1) := by decide +kernel
theorem dX2_passDay_49 : decode cX2_passDay 49 = .ok (.ior, 1) := by decide +kernel
theorem dX2_passDay_50 : decode cX2_passDay 50 = .ok (.istore_n 2, 1) := by decide +kernel
theorem dX2_passDay_51 : decode cX2_passDay 51 = .ok (.iinc 3 1, 3) := by decide +kernel
theorem dX2_passDay_54 : decode cX2_passDay 54 = .ok (.goto (-50), 3) := by decide +kernel
theorem dX2_passDay_57 : decode cX2_passDay 57 = .ok (.aload_n 0, 1) := by decide +kernel
theorem dX2_passDay_58 : decode cX2_passDay 58 = .ok (.getfield 49, 3) := by decide +kernel
theorem dX2_passDay_61 : decode cX2_passDay 61 = .ok (.iconst 0, 1) := by decide +kernel
theorem dX2_passDay_62 : decode cX2_passDay 62 = .ok (.aload_n 0, 1) := by decide +kernel
theorem dX2_passDay_63 : decode cX2_passDay 63 = .ok (.getfield 49, 3) := by decide +kernel
theorem dX2_passDay_66 : decode cX2_passDay 66 = .ok (.bipush 6, 2) := by decide +kernel
theorem dX2_passDay_68 : decode cX2_passDay 68 = .ok (.bipush 42, 2) := by decide +kernel
theorem dX2_passDay_70 : decode cX2_passDay 70 = .ok (.invokestatic 69, 3) := by decide +kernel
theorem dX2_passDay_73 : decode cX2_passDay 73 = .ok (.iconst 0, 1) := by decide +kernel
theorem dX2_passDay_74 : decode cX2_passDay 74 = .ok (.istore_n 3, 1) := by decide +kernel
theorem dX2_passDay_75 : decode cX2_passDay 75 = .ok (.iload_n 3, 1) := by decide +kernel
theorem dX2_passDay_76 : decode cX2_passDay 76 = .ok (.aload_n 0, 1) := by decide +kernel
theorem dX2_passDay_77 : decode cX2_passDay 77 = .ok (.getfield 36, 3) := by decide +kernel
theorem dX2_passDay_80 : decode cX2_passDay 80 = .ok (.getfield 53, 3) := by decide +kernel
theorem dX2_passDay_83 : decode cX2_passDay 83 = .ok (.if_icmp .ge 24, 3) := by decide +kernel
theorem dX2_passDay_86 : decode cX2_passDay 86 = .ok (.aload_n 0, 1) := by decide +kernel
theorem dX2_passDay_87 : decode cX2_passDay 87 = .ok (.getfield 49, 3) := by decide +kernel
theorem dX2_passDay_90 : decode cX2_passDay 90 = .ok (.iload_n 3, 1) := by decide +kernel
theorem dX2_passDay_91 : decode cX2_passDay 91 = .ok (.aload_n 0, 1) := by decide +kernel
theorem dX2_passDay_92 : decode cX2_passDay 92 = .ok (.getfield 36, 3) := by decide +kernel
theorem dX2_passDay_95 : decode cX2_passDay 95 = .ok (.iload_n 3, 1) := by decide +kernel
theorem dX2_passDay_96 : decode cX2_passDay 96 = .ok (.iconst 4, 1) := by decide +kernel
theorem dX2_passDay_97 : decode cX2_passDay 97 = .ok (.invokevirtual 79, 3) := by decide +kernel
theorem dX2_passDay_100 : decode cX2_passDay 100 = .ok (.iastore, 1) := by decide +kernel
theorem dX2_passDay_101 : decode cX2_passDay 101 = .ok (.iinc 3 1, 3) := by decide +kernel
theorem dX2_passDay_104 : decode cX2_passDay 104 = .ok (.goto (-29), 3) := by decide +kernel
theorem dX2_passDay_107 : decode cX2_passDay 107 = .ok (.aload_n 0, 1) := by decide +kernel
theorem dX2_passDay_108 : decode cX2_passDay 108 = .ok (.dup, 1) := by decide +kernel
theorem dX2_passDay_109 : decode cX2_passDay 109 = .ok (.getfield 21, 3) := by decide +kernel
theorem dX2_passDay_112 : decode cX2_passDay 112 = .ok (.iconst 1, 1) := by decide +kernel
theorem dX2_passDay_113 : decode cX2_passDay 113 = .ok (.iadd, 1) := by decide +kernel
theorem dX2_passDay_114 : decode cX2_passDay 114 = .ok (.putfield 21, 3) := by decide +kernel
theorem dX2_passDay_117 : decode cX2_passDay 117 = .ok (.iload_n 2, 1) := by decide +kernel
theorem dX2_passDay_118 : decode cX2_passDay 118 = .ok (.ireturn, 1) := by decide +kernel
theorem dX2_bookNomination_0 : decode cX2_bookNomination 0 = .ok (.aload_n 0, 1) := by decide +kernel
theorem dX2_bookNomination_1 : decode cX2_bookNomination 1 = .ok (.iload_n 1, 1) := by decide +kernel
theorem dX2_bookNomination_2 : decode cX2_bookNomination 2 = .ok (.invokevirtual 101, 3) := by decide +kernel
theorem dX2_bookNomination_5 : decode cX2_bookNomination 5 = .ok (.istore_n 3, 1) := by decide +kernel
theorem dX2_bookNomination_6 : decode cX2_bookNomination 6 = .ok (.aload_n 0, 1) := by decide +kernel
theorem dX2_bookNomination_7 : decode cX2_bookNomination 7 = .ok (.getfield 39, 3) := by decide +kernel
theorem dX2_bookNomination_10 : decode cX2_bookNomination 10 = .ok (.iload_n 1, 1) := by decide +kernel
theorem dX2_bookNomination_11 : decode cX2_bookNomination 11 = .ok (.iconst 1, 1) := by decide +kernel
theorem dX2_bookNomination_12 : decode cX2_bookNomination 12 = .ok (.invokevirtual 79, 3) := by decide +kernel
theorem dX2_bookNomination_15 : decode cX2_bookNomination 15 = .ok (.istore 4, 2) := by decide +kernel
theorem dX2_bookNomination_17 : decode cX2_bookNomination 17 = .ok (.aload_n 0, 1) := by decide +kernel
theorem dX2_bookNomination_18 : decode cX2_bookNomination 18 = .ok (.getfield 39, 3) := by decide +kernel
theorem dX2_bookNomination_21 : decode cX2_bookNomination 21 = .ok (.iload_n 1, 1) := by decide +kernel
theorem dX2_bookNomination_22 : decode cX2_bookNomination 22 = .ok (.iconst 2, 1) := by decide +kernel
theorem dX2_bookNomination_23 : decode cX2_bookNomination 23 = .ok (.invokevirtual 79, 3) := by decide +kernel
theorem dX2_bookNomination_26 : decode cX2_bookNomination 26 = .ok (.istore 5, 2) := by decide +kernel
theorem dX2_bookNomination_28 : decode cX2_bookNomination 28 = .ok (.aload_n 0, 1) := by decide +kernel
theorem dX2_bookNomination_29 : decode cX2_bookNomination 29 = .ok (.iload_n 1, 1) := by decide +kernel
theorem dX2_bookNomination_30 : decode cX2_bookNomination 30 = .ok (.iload_n 2, 1) := by decide +kernel
theorem dX2_bookNomination_31 : decode cX2_bookNomination 31 = .ok (.invokevirtual 125, 3) := by decide +kernel
theorem dX2_bookNomination_34 : decode cX2_bookNomination 34 = .ok (.istore 6, 2) := by decide +kernel
theorem dX2_bookNomination_36 : decode cX2_bookNomination 36 = .ok (.iload 4, 2) := by decide +kernel
theorem dX2_bookNomination_38 : decode cX2_bookNomination 38 = .ok (.iconst (-1), 1) := by decide +kernel
theorem dX2_bookNomination_39 : decode cX2_bookNomination 39 = .ok (.if_icmp .ne 7, 3) := by decide +kernel
theorem dX2_bookNomination_42 : decode cX2_bookNomination 42 = .ok (.iconst 0, 1) := by decide +kernel
theorem dX2_bookNomination_43 : decode cX2_bookNomination 43 = .ok (.goto 10, 3) := by decide +kernel
theorem dX2_bookNomination_46 : decode cX2_bookNomination 46 = .ok (.aload_n 0, 1) := by decide +kernel
theorem dX2_bookNomination_47 : decode cX2_bookNomination 47 = .ok (.iload_n 2, 1) := by decide +kernel
theorem dX2_bookNomination_48 : decode cX2_bookNomination 48 = .ok (.iload 4, 2) := by decide +kernel
theorem dX2_bookNomination_50 : decode cX2_bookNomination 50 = .ok (.invokevirtual 128, 3) := by decide +kernel
theorem dX2_bookNomination_53 : decode cX2_bookNomination 53 = .ok (.istore 7, 2) := by decide +kernel
theorem dX2_bookNomination_55 : decode cX2_bookNomination 55 = .ok (.iload 5, 2) := by decide +kernel
theorem dX2_bookNomination_57 : decode cX2_bookNomination 57 = .ok (.iconst (-1), 1) := by decide +kernel
theorem dX2_bookNomination_58 : decode cX2_bookNomination 58 = .ok (.if_icmp .ne 7, 3) := by decide +kernel
theorem dX2_bookNomination_61 : decode cX2_bookNomination 61 = .ok (.iconst 0, 1) := by decide +kernel
theorem dX2_bookNomination_62 : decode cX2_bookNomination 62 = .ok (.goto 11, 3) := by decide +kernel
theorem dX2_bookNomination_65 : decode cX2_bookNomination 65 = .ok (.aload_n 0, 1) := by decide +kernel
theorem dX2_bookNomination_66 : decode cX2_bookNomination 66 = .ok (.iload 6, 2) := by decide +kernel
theorem dX2_bookNomination_68 : decode cX2_bookNomination 68 = .ok (.iload 5, 2) := by decide +kernel
theorem dX2_bookNomination_70 : decode cX2_bookNomination 70 = .ok (.invokevirtual 128, 3) := by decide +kernel
theorem dX2_bookNomination_73 : decode cX2_bookNomination 73 = .ok (.istore 8, 2) := by decide +kernel
theorem dX2_bookNomination_75 : decode cX2_bookNomination 75 = .ok (.iload_n 2, 1) := by decide +kernel
theorem dX2_bookNomination_76 : decode cX2_bookNomination 76 = .ok (.iload 6, 2) := by decide +kernel
theorem dX2_bookNomination_78 : decode cX2_bookNomination 78 = .ok (.isub, 1) := by decide +kernel
theorem dX2_bookNomination_79 : decode cX2_bookNomination 79 = .ok (.istore 9, 2) := by decide +kernel
theorem dX2_bookNomination_81 : decode cX2_bookNomination 81 = .ok (.iconst 0, 1) := by decide +kernel
theorem dX2_bookNomination_82 : decode cX2_bookNomination 82 = .ok (.istore 10, 2) := by decide +kernel
theorem dX2_bookNomination_84 : decode cX2_bookNomination 84 = .ok (.iload 5, 2) := by decide +kernel
theorem dX2_bookNomination_86 : decode cX2_bookNomination 86 = .ok (.iconst (-1), 1) := by decide +kernel
theorem dX2_bookNomination_87 : decode cX2_bookNomination 87 = .ok (.if_icmp .ne 9, 3) := by decide +kernel
theorem dX2_bookNomination_90 : decode cX2_bookNomination 90 = .ok (.iload_n 2, 1) := by decide +kernel
theorem dX2_bookNomination_91 : decode cX2_bookNomination 91 = .ok (.istore 10, 2) := by decide +kernel
theorem dX2_bookNomination_93 : decode cX2_bookNomination 93 = .ok (.goto 13, 3) := by decide +kernel
theorem dX2_bookNomination_96 : decode cX2_bookNomination 96 = .ok (.iload 4, 2) := by decide +kernel
theorem dX2_bookNomination_98 : decode cX2_bookNomination 98 = .ok (.iconst (-1), 1) := by decide +kernel
theorem dX2_bookNomination_99 : decode cX2_bookNomination 99 = .ok (.if_icmp .ne 7, 3) := by decide +kernel
theorem dX2_bookNomination_102 : decode cX2_bookNomination 102 = .ok (.iload_n 2, 1) := by decide +kernel
theorem dX2_bookNomination_103 : decode cX2_bookNomination 103 = .ok (.ineg, 1) := by decide +kernel
theorem dX2_bookNomination_104 : decode cX2_bookNomination 104 = .ok (.istore 10, 2) := by decide +kernel
theorem dX2_bookNomination_106 : decode cX2_bookNomination 106 = .ok (.aload_n 0, 1) := by decide +kernel
theorem dX2_bookNomination_107 : decode cX2_bookNomination 107 = .ok (.getfield 36, 3) := by decide +kernel
theorem dX2_bookNomination_110 : decode cX2_bookNomination 110 = .ok (.iload_n 3, 1) := by decide +kernel
theorem dX2_bookNomination_111 : decode cX2_bookNomination 111 = .ok (.iconst 4, 1) := by decide +kernel
theorem dX2_bookNomination_112 : decode cX2_bookNomination 112 = .ok (.iload 7, 2) := by decide +kernel
theorem dX2_bookNomination_114 : decode cX2_bookNomination 114 = .ok (.iload 9, 2) := by decide +kernel
theorem dX2_bookNomination_116 : decode cX2_bookNomination 116 = .ok (.isub, 1) := by decide +kernel
theorem dX2_bookNomination_117 : decode cX2_bookNomination 117 = .ok (.iload 8, 2) := by decide +kernel
theorem dX2_bookNomination_119 : decode cX2_bookNomination 119 = .ok (.isub, 1) := by decide +kernel
theorem dX2_bookNomination_120 : decode cX2_bookNomination 120 = .ok (.iload 10, 2) := by decide +kernel
theorem dX2_bookNomination_122 : decode cX2_bookNomination 122 = .ok (.isub, 1) := by decide +kernel
theorem dX2_bookNomination_123 : decode cX2_bookNomination 123 = .ok (.invokevirtual 131, 3) := by decide +kernel
theorem dX2_bookNomination_126 : decode cX2_bookNomination 126 = .ok (.aload_n 0, 1) := by decide +kernel
theorem dX2_bookNomination_127 : decode cX2_bookNomination 127 = .ok (.getfield 36, 3) := by decide +kernel
theorem dX2_bookNomination_130 : decode cX2_bookNomination 130 = .ok (.iload_n 3, 1) := by decide +kernel
theorem dX2_bookNomination_131 : decode cX2_bookNomination 131 = .ok (.iconst 5, 1) := by decide +kernel
theorem dX2_bookNomination_132 : decode cX2_bookNomination 132 = .ok (.iload 10, 2) := by decide +kernel
theorem dX2_bookNomination_134 : decode cX2_bookNomination 134 = .ok (.invokevirtual 131, 3) := by decide +kernel
theorem dX2_bookNomination_137 : decode cX2_bookNomination 137 = .ok (.aload_n 0, 1) := by decide +kernel
theorem dX2_bookNomination_138 : decode cX2_bookNomination 138 = .ok (.getfield 46, 3) := by decide +kernel
theorem dX2_bookNomination_141 : decode cX2_bookNomination 141 = .ok (.iconst 0, 1) := by decide +kernel
theorem dX2_bookNomination_142 : decode cX2_bookNomination 142 = .ok (.dup2, 1) := by decide +kernel
theorem dX2_bookNomination_143 : decode cX2_bookNomination 143 = .ok (.laload, 1) := by decide +kernel
theorem dX2_bookNomination_144 : decode cX2_bookNomination 144 = .ok (.iload 7, 2) := by decide +kernel
theorem dX2_bookNomination_146 : decode cX2_bookNomination 146 = .ok (.i2l, 1) := by decide +kernel
theorem dX2_bookNomination_147 : decode cX2_bookNomination 147 = .ok (.ladd, 1) := by decide +kernel
theorem dX2_bookNomination_148 : decode cX2_bookNomination 148 = .ok (.lastore, 1) := by decide +kernel
theorem dX2_bookNomination_149 : decode cX2_bookNomination 149 = .ok (.aload_n 0, 1) := by decide +kernel
theorem dX2_bookNomination_150 : decode cX2_bookNomination 150 = .ok (.getfield 46, 3) := by decide +kernel
theorem dX2_bookNomination_153 : decode cX2_bookNomination 153 = .ok (.iconst 1, 1) := by decide +kernel
theorem dX2_bookNomination_154 : decode cX2_bookNomination 154 = .ok (.dup2, 1) := by decide +kernel
theorem dX2_bookNomination_155 : decode cX2_bookNomination 155 = .ok (.laload, 1) := by decide +kernel
theorem dX2_bookNomination_156 : decode cX2_bookNomination 156 = .ok (.iload 8, 2) := by decide +kernel
theorem dX2_bookNomination_158 : decode cX2_bookNomination 158 = .ok (.i2l, 1) := by decide +kernel
theorem dX2_bookNomination_159 : decode cX2_bookNomination 159 = .ok (.ladd, 1) := by decide +kernel
theorem dX2_bookNomination_160 : decode cX2_bookNomination 160 = .ok (.lastore, 1) := by decide +kernel
theorem dX2_bookNomination_161 : decode cX2_bookNomination 161 = .ok (.aload_n 0, 1) := by decide +kernel
theorem dX2_bookNomination_162 : decode cX2_bookNomination 162 = .ok (.getfield 46, 3) := by decide +kernel
theorem dX2_bookNomination_165 : decode cX2_bookNomination 165 = .ok (.iconst 2, 1) := by decide +kernel
theorem dX2_bookNomination_166 : decode cX2_bookNomination 166 = .ok (.dup2, 1) := by decide +kernel
theorem dX2_bookNomination_167 : decode cX2_bookNomination 167 = .ok (.laload, 1) := by decide +kernel
theorem dX2_bookNomination_168 : decode cX2_bookNomination 168 = .ok (.iload 9, 2) := by decide +kernel
theorem dX2_bookNomination_170 : decode cX2_bookNomination 170 = .ok (.i2l, 1) := by decide +kernel
theorem dX2_bookNomination_171 : decode cX2_bookNomination 171 = .ok (.ladd, 1) := by decide +kernel
theorem dX2_bookNomination_172 : decode cX2_bookNomination 172 = .ok (.lastore, 1) := by decide +kernel
theorem dX2_bookNomination_173 : decode cX2_bookNomination 173 = .ok (.return_, 1) := by decide +kernel
theorem dX2_logged_0 : decode cX2_logged 0 = .ok (.aload_n 0, 1) := by decide +kernel
theorem dX2_logged_1 : decode cX2_logged 1 = .ok (.getfield 21, 3) := by decide +kernel
theorem dX2_logged_4 : decode cX2_logged 4 = .ok (.bipush 8, 2) := by decide +kernel
theorem dX2_logged_6 : decode cX2_logged 6 = .ok (.invokestatic 134, 3) := by decide +kernel
theorem dX2_logged_9 : decode cX2_logged 9 = .ok (.ireturn, 1) := by decide +kernel
theorem dX2_loggedBalance_0 : decode cX2_loggedBalance 0 = .ok (.iload_n 1, 1) := by decide +kernel
theorem dX2_loggedBalance_1 : decode cX2_loggedBalance 1 = .ok (.iconst 0, 1) := by decide +kernel
theorem dX2_loggedBalance_2 : decode cX2_loggedBalance 2 = .ok (.bipush 7, 2) := by decide +kernel
theorem dX2_loggedBalance_4 : decode cX2_loggedBalance 4 = .ok (.invokestatic 93, 3) := by decide +kernel
theorem dX2_loggedBalance_7 : decode cX2_loggedBalance 7 = .ok (.ifCond .eq 12, 3) := by decide +kernel
theorem dX2_loggedBalance_10 : decode cX2_loggedBalance 10 = .ok (.iload_n 2, 1) := by decide +kernel
theorem dX2_loggedBalance_11 : decode cX2_loggedBalance 11 = .ok (.iconst 0, 1) := by decide +kernel
theorem dX2_loggedBalance_12 : decode cX2_loggedBalance 12 = .ok (.iconst 5, 1) := by decide +kernel
theorem dX2_loggedBalance_13 : decode cX2_loggedBalance 13 = .ok (.invokestatic 93, 3) := by decide +kernel
theorem dX2_loggedBalance_16 : decode cX2_loggedBalance 16 = .ok (.ifCond .ne 6, 3) := by decide +kernel
theorem dX2_loggedBalance_19 : decode cX2_loggedBalance 19 = .ok (.ldc 139, 2) := by decide +kernel
theorem dX2_loggedBalance_21 : decode cX2_loggedBalance 21 = .ok (.ireturn, 1) := by decide +kernel
theorem dX2_loggedBalance_22 : decode cX2_loggedBalance 22 = .ok (.aload_n 0, 1) := by decide +kernel
theorem dX2_loggedBalance_23 : decode cX2_loggedBalance 23 = .ok (.getfield 49, 3) := by decide +kernel
theorem dX2_loggedBalance_26 : decode cX2_loggedBalance 26 = .ok (.iload_n 1, 1) := by decide +kernel
theorem dX2_loggedBalance_27 : decode cX2_loggedBalance 27 = .ok (.bipush 6, 2) := by decide +kernel
theorem dX2_loggedBalance_29 : decode cX2_loggedBalance 29 = .ok (.imul, 1) := by decide +kernel
theorem dX2_loggedBalance_30 : decode cX2_loggedBalance 30 = .ok (.iload_n 2, 1) := by decide +kernel
theorem dX2_loggedBalance_31 : decode cX2_loggedBalance 31 = .ok (.iadd, 1) := by decide +kernel
theorem dX2_loggedBalance_32 : decode cX2_loggedBalance 32 = .ok (.iaload, 1) := by decide +kernel
theorem dX2_loggedBalance_33 : decode cX2_loggedBalance 33 = .ok (.ireturn, 1) := by decide +kernel
theorem dX2_balancesFit_0 : decode cX2_balancesFit 0 = .ok (.iconst 0, 1) := by decide +kernel
theorem dX2_balancesFit_1 : decode cX2_balancesFit 1 = .ok (.istore_n 1, 1) := by decide +kernel
theorem dX2_balancesFit_2 : decode cX2_balancesFit 2 = .ok (.iload_n 1, 1) := by decide +kernel
theorem dX2_balancesFit_3 : decode cX2_balancesFit 3 = .ok (.aload_n 0, 1) := by decide +kernel
theorem dX2_balancesFit_4 : decode cX2_balancesFit 4 = .ok (.getfield 36, 3) := by decide +kernel
theorem dX2_balancesFit_7 : decode cX2_balancesFit 7 = .ok (.getfield 53, 3) := by decide +kernel
theorem dX2_balancesFit_10 : decode cX2_balancesFit 10 = .ok (.if_icmp .ge 28, 3) := by decide +kernel
theorem dX2_balancesFit_13 : decode cX2_balancesFit 13 = .ok (.aload_n 0, 1) := by decide +kernel
theorem dX2_balancesFit_14 : decode cX2_balancesFit 14 = .ok (.getfield 36, 3) := by decide +kernel
theorem dX2_balancesFit_17 : decode cX2_balancesFit 17 = .ok (.iload_n 1, 1) := by decide +kernel
theorem dX2_balancesFit_18 : decode cX2_balancesFit 18 = .ok (.iconst 4, 1) := by decide +kernel
theorem dX2_balancesFit_19 : decode cX2_balancesFit 19 = .ok (.invokevirtual 79, 3) := by decide +kernel
theorem dX2_balancesFit_22 : decode cX2_balancesFit 22 = .ok (.invokestatic 140, 3) := by decide +kernel
theorem dX2_balancesFit_25 : decode cX2_balancesFit 25 = .ok (.ldc 143, 2) := by decide +kernel
theorem dX2_balancesFit_27 : decode cX2_balancesFit 27 = .ok (.if_icmp .le 5, 3) := by decide +kernel
theorem dX2_balancesFit_30 : decode cX2_balancesFit 30 = .ok (.iconst 0, 1) := by decide +kernel
theorem dX2_balancesFit_31 : decode cX2_balancesFit 31 = .ok (.ireturn, 1) := by decide +kernel
theorem dX2_balancesFit_32 : decode cX2_balancesFit 32 = .ok (.iinc 1 1, 3) := by decide +kernel
theorem dX2_balancesFit_35 : decode cX2_balancesFit 35 = .ok (.goto (-33), 3) := by decide +kernel
theorem dX2_balancesFit_38 : decode cX2_balancesFit 38 = .ok (.iconst 1, 1) := by decide +kernel
theorem dX2_balancesFit_39 : decode cX2_balancesFit 39 = .ok (.ireturn, 1) := by decide +kernel
theorem dX2_over_0 : decode cX2_over 0 = .ok (.aload_n 0, 1) := by decide +kernel
theorem dX2_over_1 : decode cX2_over 1 = .ok (.getfield 36, 3) := by decide +kernel
theorem dX2_over_4 : decode cX2_over 4 = .ok (.iload_n 1, 1) := by decide +kernel
theorem dX2_over_5 : decode cX2_over 5 = .ok (.iconst 4, 1) := by decide +kernel
theorem dX2_over_6 : decode cX2_over 6 = .ok (.invokevirtual 79, 3) := by decide +kernel
theorem dX2_over_9 : decode cX2_over 9 = .ok (.istore_n 2, 1) := by decide +kernel
theorem dX2_over_10 : decode cX2_over 10 = .ok (.aload_n 0, 1) := by decide +kernel
theorem dX2_over_11 : decode cX2_over 11 = .ok (.getfield 36, 3) := by decide +kernel
theorem dX2_over_14 : decode cX2_over 14 = .ok (.iload_n 1, 1) := by decide +kernel
theorem dX2_over_15 : decode cX2_over 15 = .ok (.iconst 2, 1) := by decide +kernel
theorem dX2_over_16 : decode cX2_over 16 = .ok (.invokevirtual 79, 3) := by decide +kernel
theorem dX2_over_19 : decode cX2_over 19 = .ok (.istore_n 3, 1) := by decide +kernel
theorem dX2_over_20 : decode cX2_over 20 = .ok (.iload_n 2, 1) := by decide +kernel
theorem dX2_over_21 : decode cX2_over 21 = .ok (.iload_n 3, 1) := by decide +kernel
theorem dX2_over_22 : decode cX2_over 22 = .ok (.if_icmp .le 7, 3) := by decide +kernel
theorem dX2_over_25 : decode cX2_over 25 = .ok (.iload_n 2, 1) := by decide +kernel
theorem dX2_over_26 : decode cX2_over 26 = .ok (.iload_n 3, 1) := by decide +kernel
theorem dX2_over_27 : decode cX2_over 27 = .ok (.isub, 1) := by decide +kernel
theorem dX2_over_28 : decode cX2_over 28 = .ok (.ireturn, 1) := by decide +kernel
theorem dX2_over_29 : decode cX2_over 29 = .ok (.iload_n 2, 1) := by decide +kernel
theorem dX2_over_30 : decode cX2_over 30 = .ok (.iload_n 3, 1) := by decide +kernel
theorem dX2_over_31 : decode cX2_over 31 = .ok (.ineg, 1) := by decide +kernel
theorem dX2_over_32 : decode cX2_over 32 = .ok (.if_icmp .ge 9, 3) := by decide +kernel
theorem dX2_over_35 : decode cX2_over 35 = .ok (.iload_n 2, 1) := by decide +kernel
theorem dX2_over_36 : decode cX2_over 36 = .ok (.iload_n 3, 1) := by decide +kernel
theorem dX2_over_37 : decode cX2_over 37 = .ok (.iadd, 1) := by decide +kernel
theorem dX2_over_38 : decode cX2_over 38 = .ok (.goto 4, 3) := by decide +kernel
theorem dX2_over_41 : decode cX2_over 41 = .ok (.iconst 0, 1) := by decide +kernel
theorem dX2_over_42 : decode cX2_over 42 = .ok (.ireturn, 1) := by decide +kernel
theorem dX2_dueFor_0 : decode cX2_dueFor 0 = .ok (.aload_n 0, 1) := by decide +kernel
theorem dX2_dueFor_1 : decode cX2_dueFor 1 = .ok (.iload_n 1, 1) := by decide +kernel
theorem dX2_dueFor_2 : decode cX2_dueFor 2 = .ok (.invokevirtual 144, 3) := by decide +kernel
theorem dX2_dueFor_5 : decode cX2_dueFor 5 = .ok (.i2l, 1) := by decide +kernel
theorem dX2_dueFor_6 : decode cX2_dueFor 6 = .ok (.lstore_n 2, 1) := by decide +kernel
theorem dX2_dueFor_7 : decode cX2_dueFor 7 = .ok (.lload_n 2, 1) := by decide +kernel
theorem dX2_dueFor_8 : decode cX2_dueFor 8 = .ok (.lconst 0, 1) := by decide +kernel
theorem dX2_dueFor_9 : decode cX2_dueFor 9 = .ok (.lcmp, 1) := by decide +kernel
theorem dX2_dueFor_10 : decode cX2_dueFor 10 = .ok (.ifCond .ge 25, 3) := by decide +kernel
theorem dX2_dueFor_13 : decode cX2_dueFor 13 = .ok (.lload_n 2, 1) := by decide +kernel
theorem dX2_dueFor_14 : decode cX2_dueFor 14 = .ok (.lneg, 1) := by decide +kernel
theorem dX2_dueFor_15 : decode cX2_dueFor 15 = .ok (.aload_n 0, 1) := by decide +kernel
theorem dX2_dueFor_16 : decode cX2_dueFor 16 = .ok (.getfield 15, 3) := by decide +kernel
theorem dX2_dueFor_19 : decode cX2_dueFor 19 = .ok (.i2l, 1) := by decide +kernel
theorem dX2_dueFor_20 : decode cX2_dueFor 20 = .ok (.lmul, 1) := by decide +kernel
theorem dX2_dueFor_21 : decode cX2_dueFor 21 = .ok (.bipush 100, 2) := by decide +kernel
theorem dX2_dueFor_23 : decode cX2_dueFor 23 = .ok (.aload_n 0, 1) := by decide +kernel
theorem dX2_dueFor_24 : decode cX2_dueFor 24 = .ok (.getfield 18, 3) := by decide +kernel
theorem dX2_dueFor_27 : decode cX2_dueFor 27 = .ok (.iadd, 1) := by decide +kernel
theorem dX2_dueFor_28 : decode cX2_dueFor 28 = .ok (.i2l, 1) := by decide +kernel
theorem dX2_dueFor_29 : decode cX2_dueFor 29 = .ok (.lmul, 1) := by decide +kernel
theorem dX2_dueFor_30 : decode cX2_dueFor 30 = .ok (.ldc2_w 147, 3) := by decide +kernel
theorem dX2_dueFor_33 : decode cX2_dueFor 33 = .ok (.ldiv, 1) := by decide +kernel
theorem dX2_dueFor_34 : decode cX2_dueFor 34 = .ok (.lreturn, 1) := by decide +kernel
theorem dX2_dueFor_35 : decode cX2_dueFor 35 = .ok (.lload_n 2, 1) := by decide +kernel
theorem dX2_dueFor_36 : decode cX2_dueFor 36 = .ok (.aload_n 0, 1) := by decide +kernel
theorem dX2_dueFor_37 : decode cX2_dueFor 37 = .ok (.getfield 15, 3) := by decide +kernel
theorem dX2_dueFor_40 : decode cX2_dueFor 40 = .ok (.i2l, 1) := by decide +kernel
theorem dX2_dueFor_41 : decode cX2_dueFor 41 = .ok (.lmul, 1) := by decide +kernel
theorem dX2_dueFor_42 : decode cX2_dueFor 42 = .ok (.bipush 100, 2) := by decide +kernel
theorem dX2_dueFor_44 : decode cX2_dueFor 44 = .ok (.aload_n 0, 1) := by decide +kernel
theorem dX2_dueFor_45 : decode cX2_dueFor 45 = .ok (.getfield 18, 3) := by decide +kernel
theorem dX2_dueFor_48 : decode cX2_dueFor 48 = .ok (.isub, 1) := by decide +kernel
theorem dX2_dueFor_49 : decode cX2_dueFor 49 = .ok (.i2l, 1) := by decide +kernel
theorem dX2_dueFor_50 : decode cX2_dueFor 50 = .ok (.lmul, 1) := by decide +kernel
theorem dX2_dueFor_51 : decode cX2_dueFor 51 = .ok (.ldc2_w 147, 3) := by decide +kernel
theorem dX2_dueFor_54 : decode cX2_dueFor 54 = .ok (.ldiv, 1) := by decide +kernel
theorem dX2_dueFor_55 : decode cX2_dueFor 55 = .ok (.lneg, 1) := by decide +kernel
theorem dX2_dueFor_56 : decode cX2_dueFor 56 = .ok (.lreturn, 1) := by decide +kernel
theorem dX2_howManyOver_0 : decode cX2_howManyOver 0 = .ok (.iconst 0, 1) := by decide +kernel
theorem dX2_howManyOver_1 : decode cX2_howManyOver 1 = .ok (.istore_n 1, 1) := by decide +kernel
theorem dX2_howManyOver_2 : decode cX2_howManyOver 2 = .ok (.iconst 0, 1) := by decide +kernel
theorem dX2_howManyOver_3 : decode cX2_howManyOver 3 = .ok (.istore_n 2, 1) := by decide +kernel
theorem dX2_howManyOver_4 : decode cX2_howManyOver 4 = .ok (.iload_n 2, 1) := by decide +kernel
theorem dX2_howManyOver_5 : decode cX2_howManyOver 5 = .ok (.aload_n 0, 1) := by decide +kernel
theorem dX2_howManyOver_6 : decode cX2_howManyOver 6 = .ok (.getfield 36, 3) := by decide +kernel
theorem dX2_howManyOver_9 : decode cX2_howManyOver 9 = .ok (.getfield 53, 3) := by decide +kernel
theorem dX2_howManyOver_12 : decode cX2_howManyOver 12 = .ok (.if_icmp .ge 20, 3) := by decide +kernel
theorem dX2_howManyOver_15 : decode cX2_howManyOver 15 = .ok (.aload_n 0, 1) := by decide +kernel
theorem dX2_howManyOver_16 : decode cX2_howManyOver 16 = .ok (.iload_n 2, 1) := by decide +kernel
theorem dX2_howManyOver_17 : decode cX2_howManyOver 17 = .ok (.invokevirtual 144, 3) := by decide +kernel
theorem dX2_howManyOver_20 : decode cX2_howManyOver 20 = .ok (.ifCond .eq 6, 3) := by decide +kernel
theorem dX2_howManyOver_23 : decode cX2_howManyOver 23 = .ok (.iinc 1 1, 3) := by decide +kernel
theorem dX2_howManyOver_26 : decode cX2_howManyOver 26 = .ok (.iinc 2 1, 3) := by decide +kernel
theorem dX2_howManyOver_29 : decode cX2_howManyOver 29 = .ok (.goto (-25), 3) := by decide +kernel
theorem dX2_howManyOver_32 : decode cX2_howManyOver 32 = .ok (.iload_n 1, 1) := by decide +kernel
theorem dX2_howManyOver_33 : decode cX2_howManyOver 33 = .ok (.ireturn, 1) := by decide +kernel
theorem dX2_cashAll_0 : decode cX2_cashAll 0 = .ok (.iconst 0, 1) := by decide +kernel
theorem dX2_cashAll_1 : decode cX2_cashAll 1 = .ok (.istore_n 1, 1) := by decide +kernel
theorem dX2_cashAll_2 : decode cX2_cashAll 2 = .ok (.iload_n 1, 1) := by decide +kernel
theorem dX2_cashAll_3 : decode cX2_cashAll 3 = .ok (.aload_n 0, 1) := by decide +kernel
theorem dX2_cashAll_4 : decode cX2_cashAll 4 = .ok (.getfield 36, 3) := by decide +kernel
theorem dX2_cashAll_7 : decode cX2_cashAll 7 = .ok (.getfield 53, 3) := by decide +kernel
theorem dX2_cashAll_10 : decode cX2_cashAll 10 = .ok (.if_icmp .ge 51, 3) := by decide +kernel
theorem dX2_cashAll_13 : decode cX2_cashAll 13 = .ok (.aload_n 0, 1) := by decide +kernel
theorem dX2_cashAll_14 : decode cX2_cashAll 14 = .ok (.iload_n 1, 1) := by decide +kernel
theorem dX2_cashAll_15 : decode cX2_cashAll 15 = .ok (.invokevirtual 144, 3) := by decide +kernel
theorem dX2_cashAll_18 : decode cX2_cashAll 18 = .ok (.istore_n 2, 1) := by decide +kernel
theorem dX2_cashAll_19 : decode cX2_cashAll 19 = .ok (.aload_n 0, 1) := by decide +kernel
theorem dX2_cashAll_20 : decode cX2_cashAll 20 = .ok (.getfield 42, 3) := by decide +kernel
theorem dX2_cashAll_23 : decode cX2_cashAll 23 = .ok (.iload_n 1, 1) := by decide +kernel
theorem dX2_cashAll_24 : decode cX2_cashAll 24 = .ok (.dup2, 1) := by decide +kernel
theorem dX2_cashAll_25 : decode cX2_cashAll 25 = .ok (.laload, 1) := by decide +kernel
theorem dX2_cashAll_26 : decode cX2_cashAll 26 = .ok (.aload_n 0, 1) := by decide +kernel
theorem dX2_cashAll_27 : decode cX2_cashAll 27 = .ok (.iload_n 1, 1) := by decide +kernel
theorem dX2_cashAll_28 : decode cX2_cashAll 28 = .ok (.invokevirtual 149, 3) := by decide +kernel
theorem dX2_cashAll_31 : decode cX2_cashAll 31 = .ok (.ladd, 1) := by decide +kernel
theorem dX2_cashAll_32 : decode cX2_cashAll 32 = .ok (.lastore, 1) := by decide +kernel
theorem dX2_cashAll_33 : decode cX2_cashAll 33 = .ok (.aload_n 0, 1) := by decide +kernel
theorem dX2_cashAll_34 : decode cX2_cashAll 34 = .ok (.getfield 46, 3) := by decide +kernel
theorem dX2_cashAll_37 : decode cX2_cashAll 37 = .ok (.iconst 3, 1) := by decide +kernel
theorem dX2_cashAll_38 : decode cX2_cashAll 38 = .ok (.dup2, 1) := by decide +kernel
theorem dX2_cashAll_39 : decode cX2_cashAll 39 = .ok (.laload, 1) := by decide +kernel
theorem dX2_cashAll_40 : decode cX2_cashAll 40 = .ok (.iload_n 2, 1) := by decide +kernel
theorem dX2_cashAll_41 : decode cX2_cashAll 41 = .ok (.i2l, 1) := by decide +kernel
theorem dX2_cashAll_42 : decode cX2_cashAll 42 = .ok (.ladd, 1) := by decide +kernel
theorem dX2_cashAll_43 : decode cX2_cashAll 43 = .ok (.lastore, 1) := by decide +kernel
theorem dX2_cashAll_44 : decode cX2_cashAll 44 = .ok (.aload_n 0, 1) := by decide +kernel
theorem dX2_cashAll_45 : decode cX2_cashAll 45 = .ok (.getfield 36, 3) := by decide +kernel
theorem dX2_cashAll_48 : decode cX2_cashAll 48 = .ok (.iload_n 1, 1) := by decide +kernel
theorem dX2_cashAll_49 : decode cX2_cashAll 49 = .ok (.iconst 4, 1) := by decide +kernel
theorem dX2_cashAll_50 : decode cX2_cashAll 50 = .ok (.iload_n 2, 1) := by decide +kernel
theorem dX2_cashAll_51 : decode cX2_cashAll 51 = .ok (.ineg, 1) := by decide +kernel
theorem dX2_cashAll_52 : decode cX2_cashAll 52 = .ok (.invokevirtual 131, 3) := by decide +kernel
theorem dX2_cashAll_55 : decode cX2_cashAll 55 = .ok (.iinc 1 1, 3) := by decide +kernel
theorem dX2_cashAll_58 : decode cX2_cashAll 58 = .ok (.goto (-56), 3) := by decide +kernel
theorem dX2_cashAll_61 : decode cX2_cashAll 61 = .ok (.return_, 1) := by decide +kernel
theorem dX2_inBooks_0 : decode cX2_inBooks 0 = .ok (.lconst 0, 1) := by decide +kernel
theorem dX2_inBooks_1 : decode cX2_inBooks 1 = .ok (.lstore_n 1, 1) := by decide +kernel
theorem dX2_inBooks_2 : decode cX2_inBooks 2 = .ok (.iconst 0, 1) := by decide +kernel
theorem dX2_inBooks_3 : decode cX2_inBooks 3 = .ok (.istore_n 3, 1) := by decide +kernel
theorem dX2_inBooks_4 : decode cX2_inBooks 4 = .ok (.iload_n 3, 1) := by decide +kernel
theorem dX2_inBooks_5 : decode cX2_inBooks 5 = .ok (.aload_n 0, 1) := by decide +kernel
theorem dX2_inBooks_6 : decode cX2_inBooks 6 = .ok (.getfield 36, 3) := by decide +kernel
theorem dX2_inBooks_9 : decode cX2_inBooks 9 = .ok (.getfield 53, 3) := by decide +kernel
theorem dX2_inBooks_12 : decode cX2_inBooks 12 = .ok (.if_icmp .ge 32, 3) := by decide +kernel
theorem dX2_inBooks_15 : decode cX2_inBooks 15 = .ok (.lload_n 1, 1) := by decide +kernel
theorem dX2_inBooks_16 : decode cX2_inBooks 16 = .ok (.aload_n 0, 1) := by decide +kernel
theorem dX2_inBooks_17 : decode cX2_inBooks 17 = .ok (.getfield 36, 3) := by decide +kernel
theorem dX2_inBooks_20 : decode cX2_inBooks 20 = .ok (.iload_n 3, 1) := by decide +kernel
theorem dX2_inBooks_21 : decode cX2_inBooks 21 = .ok (.iconst 4, 1) := by decide +kernel
theorem dX2_inBooks_22 : decode cX2_inBooks 22 = .ok (.invokevirtual 79, 3) := by decide +kernel
theorem dX2_inBooks_25 : decode cX2_inBooks 25 = .ok (.aload_n 0, 1) := by decide +kernel
theorem dX2_inBooks_26 : decode cX2_inBooks 26 = .ok (.getfield 36, 3) := by decide +kernel
theorem dX2_inBooks_29 : decode cX2_inBooks 29 = .ok (.iload_n 3, 1) := by decide +kernel
theorem dX2_inBooks_30 : decode cX2_inBooks 30 = .ok (.iconst 5, 1) := by decide +kernel
theorem dX2_inBooks_31 : decode cX2_inBooks 31 = .ok (.invokevirtual 79, 3) := by decide +kernel
theorem dX2_inBooks_34 : decode cX2_inBooks 34 = .ok (.iadd, 1) := by decide +kernel
theorem dX2_inBooks_35 : decode cX2_inBooks 35 = .ok (.i2l, 1) := by decide +kernel
theorem dX2_inBooks_36 : decode cX2_inBooks 36 = .ok (.ladd, 1) := by decide +kernel
theorem dX2_inBooks_37 : decode cX2_inBooks 37 = .ok (.lstore_n 1, 1) := by decide +kernel
theorem dX2_inBooks_38 : decode cX2_inBooks 38 = .ok (.iinc 3 1, 3) := by decide +kernel
theorem dX2_inBooks_41 : decode cX2_inBooks 41 = .ok (.goto (-37), 3) := by decide +kernel
theorem dX2_inBooks_44 : decode cX2_inBooks 44 = .ok (.lload_n 1, 1) := by decide +kernel
theorem dX2_inBooks_45 : decode cX2_inBooks 45 = .ok (.lreturn, 1) := by decide +kernel
theorem dX3_init_0 : decode cX3_init 0 = .ok (.aload_n 0, 1) := by decide +kernel
theorem dX3_init_1 : decode cX3_init 1 = .ok (.invokespecial 3, 3) := by decide +kernel
theorem dX3_init_4 : decode cX3_init 4 = .ok (.aload_n 0, 1) := by decide +kernel
theorem dX3_init_5 : decode cX3_init 5 = .ok (.new 9, 3) := by decide +kernel
theorem dX3_init_8 : decode cX3_init 8 = .ok (.dup, 1) := by decide +kernel
theorem dX3_init_9 : decode cX3_init 9 = .ok (.invokespecial 11, 3) := by decide +kernel
theorem dX3_init_12 : decode cX3_init 12 = .ok (.putfield 12, 3) := by decide +kernel
theorem dX3_init_15 : decode cX3_init 15 = .ok (.aload_n 0, 1) := by decide +kernel
theorem dX3_init_16 : decode cX3_init 16 = .ok (.new 18, 3) := by decide +kernel
theorem dX3_init_19 : decode cX3_init 19 = .ok (.dup, 1) := by decide +kernel
theorem dX3_init_20 : decode cX3_init 20 = .ok (.invokespecial 20, 3) := by decide +kernel
theorem dX3_init_23 : decode cX3_init 23 = .ok (.putfield 21, 3) := by decide +kernel
theorem dX3_init_26 : decode cX3_init 26 = .ok (.aload_n 0, 1) := by decide +kernel
theorem dX3_init_27 : decode cX3_init 27 = .ok (.iconst 0, 1) := by decide +kernel
theorem dX3_init_28 : decode cX3_init 28 = .ok (.putfield 25, 3) := by decide +kernel
theorem dX3_init_31 : decode cX3_init 31 = .ok (.aload_n 0, 1) := by decide +kernel
theorem dX3_init_32 : decode cX3_init 32 = .ok (.iconst 0, 1) := by decide +kernel
theorem dX3_init_33 : decode cX3_init 33 = .ok (.putfield 29, 3) := by decide +kernel
theorem dX3_init_36 : decode cX3_init 36 = .ok (.aload_n 0, 1) := by decide +kernel
theorem dX3_init_37 : decode cX3_init 37 = .ok (.iconst 0, 1) := by decide +kernel
theorem dX3_init_38 : decode cX3_init 38 = .ok (.putfield 32, 3) := by decide +kernel
theorem dX3_init_41 : decode cX3_init 41 = .ok (.aload_n 0, 1) := by decide +kernel
theorem dX3_init_42 : decode cX3_init 42 = .ok (.iconst 0, 1) := by decide +kernel
theorem dX3_init_43 : decode cX3_init 43 = .ok (.putfield 35, 3) := by decide +kernel
theorem dX3_init_46 : decode cX3_init 46 = .ok (.return_, 1) := by decide +kernel
theorem dX3_read_0 : decode cX3_read 0 = .ok (.aload_n 0, 1) := by decide +kernel
theorem dX3_read_1 : decode cX3_read 1 = .ok (.iconst 0, 1) := by decide +kernel
theorem dX3_read_2 : decode cX3_read 2 = .ok (.putfield 25, 3) := by decide +kernel
theorem dX3_read_5 : decode cX3_read 5 = .ok (.aload_n 0, 1) := by decide +kernel
theorem dX3_read_6 : decode cX3_read 6 = .ok (.iconst 0, 1) := by decide +kernel
theorem dX3_read_7 : decode cX3_read 7 = .ok (.putfield 35, 3) := by decide +kernel
theorem dX3_read_10 : decode cX3_read 10 = .ok (.aload_n 0, 1) := by decide +kernel
theorem dX3_read_11 : decode cX3_read 11 = .ok (.getfield 21, 3) := by decide +kernel
theorem dX3_read_14 : decode cX3_read 14 = .ok (.invokevirtual 38, 3) := by decide +kernel
theorem dX3_read_17 : decode cX3_read 17 = .ok (.aload_n 0, 1) := by decide +kernel
theorem dX3_read_18 : decode cX3_read 18 = .ok (.invokevirtual 41, 3) := by decide +kernel
theorem dX3_read_21 : decode cX3_read 21 = .ok (.aload_n 0, 1) := by decide +kernel
theorem dX3_read_22 : decode cX3_read 22 = .ok (.invokevirtual 44, 3) := by decide +kernel
theorem dX3_read_25 : decode cX3_read 25 = .ok (.iconst 0, 1) := by decide +kernel
theorem dX3_read_26 : decode cX3_read 26 = .ok (.istore_n 1, 1) := by decide +kernel
theorem dX3_read_27 : decode cX3_read 27 = .ok (.iload_n 1, 1) := by decide +kernel
theorem dX3_read_28 : decode cX3_read 28 = .ok (.sipush 400, 3) := by decide +kernel
theorem dX3_read_31 : decode cX3_read 31 = .ok (.if_icmp .ge 42, 3) := by decide +kernel
theorem dX3_read_34 : decode cX3_read 34 = .ok (.aload_n 0, 1) := by decide +kernel
theorem dX3_read_35 : decode cX3_read 35 = .ok (.getfield 35, 3) := by decide +kernel
theorem dX3_read_38 : decode cX3_read 38 = .ok (.ifCond .ne 35, 3) := by decide +kernel
theorem dX3_read_41 : decode cX3_read 41 = .ok (.aload_n 0, 1) := by decide +kernel
theorem dX3_read_42 : decode cX3_read 42 = .ok (.getfield 25, 3) := by decide +kernel
theorem dX3_read_45 : decode cX3_read 45 = .ok (.aload_n 0, 1) := by decide +kernel
theorem dX3_read_46 : decode cX3_read 46 = .ok (.getfield 12, 3) := by decide +kernel
theorem dX3_read_49 : decode cX3_read 49 = .ok (.getfield 47, 3) := by decide +kernel
theorem dX3_read_52 : decode cX3_read 52 = .ok (.if_icmp .ge 21, 3) := by decide +kernel
theorem dX3_read_55 : decode cX3_read 55 = .ok (.aload_n 0, 1) := by decide +kernel
theorem dX3_read_56 : decode cX3_read 56 = .ok (.invokevirtual 50, 3) := by decide +kernel
theorem dX3_read_59 : decode cX3_read 59 = .ok (.aload_n 0, 1) := by decide +kernel
theorem dX3_read_60 : decode cX3_read 60 = .ok (.invokevirtual 53, 3) := by decide +kernel
theorem dX3_read_63 : decode cX3_read 63 = .ok (.aload_n 0, 1) := by decide +kernel
theorem dX3_read_64 : decode cX3_read 64 = .ok (.invokevirtual 44, 3) := by decide +kernel
theorem dX3_read_67 : decode cX3_read 67 = .ok (.iinc 1 1, 3) := by decide +kernel
theorem dX3_read_70 : decode cX3_read 70 = .ok (.goto (-43), 3) := by decide +kernel
theorem dX3_read_73 : decode cX3_read 73 = .ok (.aload_n 0, 1) := by decide +kernel
theorem dX3_read_74 : decode cX3_read 74 = .ok (.getfield 35, 3) := by decide +kernel
theorem dX3_read_77 : decode cX3_read 77 = .ok (.ireturn, 1) := by decide +kernel
theorem dX3_fail_0 : decode cX3_fail 0 = .ok (.aload_n 0, 1) := by decide +kernel
theorem dX3_fail_1 : decode cX3_fail 1 = .ok (.getfield 35, 3) := by decide +kernel
theorem dX3_fail_4 : decode cX3_fail 4 = .ok (.ifCond .ne 13, 3) := by decide +kernel
theorem dX3_fail_7 : decode cX3_fail 7 = .ok (.aload_n 0, 1) := by decide +kernel
theorem dX3_fail_8 : decode cX3_fail 8 = .ok (.bipush 8, 2) := by decide +kernel
theorem dX3_fail_10 : decode cX3_fail 10 = .ok (.iload_n 1, 1) := by decide +kernel
theorem dX3_fail_11 : decode cX3_fail 11 = .ok (.imul, 1) := by decide +kernel
theorem dX3_fail_12 : decode cX3_fail 12 = .ok (.iload_n 2, 1) := by decide +kernel
theorem dX3_fail_13 : decode cX3_fail 13 = .ok (.iadd, 1) := by decide +kernel
theorem dX3_fail_14 : decode cX3_fail 14 = .ok (.putfield 35, 3) := by decide +kernel
theorem dX3_fail_17 : decode cX3_fail 17 = .ok (.return_, 1) := by decide +kernel
theorem dX3_skipBlanks_0 : decode cX3_skipBlanks 0 = .ok (.aload_n 0, 1) := by decide +kernel
theorem dX3_skipBlanks_1 : decode cX3_skipBlanks 1 = .ok (.getfield 25, 3) := by decide +kernel
theorem dX3_skipBlanks_4 : decode cX3_skipBlanks 4 = .ok (.aload_n 0, 1) := by decide +kernel
theorem dX3_skipBlanks_5 : decode cX3_skipBlanks 5 = .ok (.getfield 12, 3) := by decide +kernel
theorem dX3_skipBlanks_8 : decode cX3_skipBlanks 8 = .ok (.getfield 47, 3) := by decide +kernel
theorem dX3_skipBlanks_11 : decode cX3_skipBlanks 11 = .ok (.if_icmp .ge 32, 3) := by decide +kernel
theorem dX3_skipBlanks_14 : decode cX3_skipBlanks 14 = .ok (.aload_n 0, 1) := by decide +kernel
theorem dX3_skipBlanks_15 : decode cX3_skipBlanks 15 = .ok (.getfield 12, 3) := by decide +kernel
theorem dX3_skipBlanks_18 : decode cX3_skipBlanks 18 = .ok (.aload_n 0, 1) := by decide +kernel
theorem dX3_skipBlanks_19 : decode cX3_skipBlanks 19 = .ok (.getfield 25, 3) := by decide +kernel
theorem dX3_skipBlanks_22 : decode cX3_skipBlanks 22 = .ok (.invokevirtual 56, 3) := by decide +kernel
theorem dX3_skipBlanks_25 : decode cX3_skipBlanks 25 = .ok (.bipush 32, 2) := by decide +kernel
theorem dX3_skipBlanks_27 : decode cX3_skipBlanks 27 = .ok (.if_icmp .ne 16, 3) := by decide +kernel
theorem dX3_skipBlanks_30 : decode cX3_skipBlanks 30 = .ok (.aload_n 0, 1) := by decide +kernel
theorem dX3_skipBlanks_31 : decode cX3_skipBlanks 31 = .ok (.dup, 1) := by decide +kernel
theorem dX3_skipBlanks_32 : decode cX3_skipBlanks 32 = .ok (.getfield 25, 3) := by decide +kernel
theorem dX3_skipBlanks_35 : decode cX3_skipBlanks 35 = .ok (.iconst 1, 1) := by decide +kernel
theorem dX3_skipBlanks_36 : decode cX3_skipBlanks 36 = .ok (.iadd, 1) := by decide +kernel
theorem dX3_skipBlanks_37 : decode cX3_skipBlanks 37 = .ok (.putfield 25, 3) := by decide +kernel
theorem dX3_skipBlanks_40 : decode cX3_skipBlanks 40 = .ok (.goto (-40), 3) := by decide +kernel
theorem dX3_skipBlanks_43 : decode cX3_skipBlanks 43 = .ok (.return_, 1) := by decide +kernel
theorem dX3_readWord_0 : decode cX3_readWord 0 = .ok (.aload_n 0, 1) := by decide +kernel
theorem dX3_readWord_1 : decode cX3_readWord 1 = .ok (.invokevirtual 44, 3) := by decide +kernel
theorem dX3_readWord_4 : decode cX3_readWord 4 = .ok (.aload_n 0, 1) := by decide +kernel
theorem dX3_readWord_5 : decode cX3_readWord 5 = .ok (.aload_n 0, 1) := by decide +kernel
theorem dX3_readWord_6 : decode cX3_readWord 6 = .ok (.getfield 25, 3) := by decide +kernel
theorem dX3_readWord_9 : decode cX3_readWord 9 = .ok (.putfield 29, 3) := by decide +kernel
theorem dX3_readWord_12 : decode cX3_readWord 12 = .ok (.aload_n 0, 1) := by decide +kernel
theorem dX3_readWord_13 : decode cX3_readWord 13 = .ok (.getfield 25, 3) := by decide +kernel
theorem dX3_readWord_16 : decode cX3_readWord 16 = .ok (.aload_n 0, 1) := by decide +kernel
theorem dX3_readWord_17 : decode cX3_readWord 17 = .ok (.getfield 12, 3) := by decide +kernel
theorem dX3_readWord_20 : decode cX3_readWord 20 = .ok (.getfield 47, 3) := by decide +kernel
theorem dX3_readWord_23 : decode cX3_readWord 23 = .ok (.if_icmp .ge 48, 3) := by decide +kernel
theorem dX3_readWord_26 : decode cX3_readWord 26 = .ok (.aload_n 0, 1) := by decide +kernel
theorem dX3_readWord_27 : decode cX3_readWord 27 = .ok (.getfield 12, 3) := by decide +kernel
theorem dX3_readWord_30 : decode cX3_readWord 30 = .ok (.aload_n 0, 1) := by decide +kernel
theorem dX3_readWord_31 : decode cX3_readWord 31 = .ok (.getfield 25, 3) := by decide +kernel
theorem dX3_readWord_34 : decode cX3_readWord 34 = .ok (.invokevirtual 56, 3) := by decide +kernel
theorem dX3_readWord_37 : decode cX3_readWord 37 = .ok (.bipush 97, 2) := by decide +kernel
theorem dX3_readWord_39 : decode cX3_readWord 39 = .ok (.if_icmp .lt 32, 3) := by decide +kernel
theorem dX3_readWord_42 : decode cX3_readWord 42 = .ok (.aload_n 0, 1) := by decide +kernel
theorem dX3_readWord_43 : decode cX3_readWord 43 = .ok (.getfield 12, 3) := by decide +kernel
theorem dX3_readWord_46 : decode cX3_readWord 46 = .ok (.aload_n 0, 1) := by decide +kernel
theorem dX3_readWord_47 : decode cX3_readWord 47 = .ok (.getfield 25, 3) := by decide +kernel
theorem dX3_readWord_50 : decode cX3_readWord 50 = .ok (.invokevirtual 56, 3) := by decide +kernel
theorem dX3_readWord_53 : decode cX3_readWord 53 = .ok (.bipush 122, 2) := by decide +kernel
theorem dX3_readWord_55 : decode cX3_readWord 55 = .ok (.if_icmp .gt 16, 3) := by decide +kernel
theorem dX3_readWord_58 : decode cX3_readWord 58 = .ok (.aload_n 0, 1) := by decide +kernel
theorem dX3_readWord_59 : decode cX3_readWord 59 = .ok (.dup, 1) := by decide +kernel
theorem dX3_readWord_60 : decode cX3_readWord 60 = .ok (.getfield 25, 3) := by decide +kernel
theorem dX3_readWord_63 : decode cX3_readWord 63 = .ok (.iconst 1, 1) := by decide +kernel
theorem dX3_readWord_64 : decode cX3_readWord 64 = .ok (.iadd, 1) := by decide +kernel
theorem dX3_readWord_65 : decode cX3_readWord 65 = .ok (.putfield 25, 3) := by decide +kernel
theorem dX3_readWord_68 : decode cX3_readWord 68 = .ok (.goto (-56), 3) := by decide +kernel
theorem dX3_readWord_71 : decode cX3_readWord 71 = .ok (.return_, 1) := by decide +kernel
theorem dX3_wordIs_0 : decode cX3_wordIs 0 = .ok (.aload_n 0, 1) := by decide +kernel
theorem dX3_wordIs_1 : decode cX3_wordIs 1 = .ok (.getfield 25, 3) := by decide +kernel
theorem dX3_wordIs_4 : decode cX3_wordIs 4 = .ok (.aload_n 0, 1) := by decide +kernel
theorem dX3_wordIs_5 : decode cX3_wordIs 5 = .ok (.getfield 29, 3) := by decide +kernel
theorem dX3_wordIs_8 : decode cX3_wordIs 8 = .ok (.isub, 1) := by decide +kernel
theorem dX3_wordIs_9 : decode cX3_wordIs 9 = .ok (.aload_n 1, 1) := by decide +kernel
theorem dX3_wordIs_10 : decode cX3_wordIs 10 = .ok (.invokevirtual 59, 3) := by decide +kernel
theorem dX3_wordIs_13 : decode cX3_wordIs 13 = .ok (.if_icmp .eq 5, 3) := by decide +kernel
theorem dX3_wordIs_16 : decode cX3_wordIs 16 = .ok (.iconst 0, 1) := by decide +kernel
theorem dX3_wordIs_17 : decode cX3_wordIs 17 = .ok (.ireturn, 1) := by decide +kernel
theorem dX3_wordIs_18 : decode cX3_wordIs 18 = .ok (.iconst 0, 1) := by decide +kernel
theorem dX3_wordIs_19 : decode cX3_wordIs 19 = .ok (.istore_n 2, 1) := by decide +kernel
theorem dX3_wordIs_20 : decode cX3_wordIs 20 = .ok (.iload_n 2, 1) := by decide +kernel
theorem dX3_wordIs_21 : decode cX3_wordIs 21 = .ok (.aload_n 1, 1) := by decide +kernel
theorem dX3_wordIs_22 : decode cX3_wordIs 22 = .ok (.invokevirtual 59, 3) := by decide +kernel
theorem dX3_wordIs_25 : decode cX3_wordIs 25 = .ok (.if_icmp .ge 32, 3) := by decide +kernel
theorem dX3_wordIs_28 : decode cX3_wordIs 28 = .ok (.aload_n 0, 1) := by decide +kernel
theorem dX3_wordIs_29 : decode cX3_wordIs 29 = .ok (.getfield 12, 3) := by decide +kernel
theorem dX3_wordIs_32 : decode cX3_wordIs 32 = .ok (.aload_n 0, 1) := by decide +kernel
theorem dX3_wordIs_33 : decode cX3_wordIs 33 = .ok (.getfield 29, 3) := by decide +kernel
theorem dX3_wordIs_36 : decode cX3_wordIs 36 = .ok (.iload_n 2, 1) := by decide +kernel
theorem dX3_wordIs_37 : decode cX3_wordIs 37 = .ok (.iadd, 1) := by decide +kernel
theorem dX3_wordIs_38 : decode cX3_wordIs 38 = .ok (.invokevirtual 56, 3) := by decide +kernel
theorem dX3_wordIs_41 : decode cX3_wordIs 41 = .ok (.aload_n 1, 1) := by decide +kernel
theorem dX3_wordIs_42 : decode cX3_wordIs 42 = .ok (.iload_n 2, 1) := by decide +kernel
theorem dX3_wordIs_43 : decode cX3_wordIs 43 = .ok (.invokevirtual 64, 3) := by decide +kernel
theorem dX3_wordIs_46 : decode cX3_wordIs 46 = .ok (.if_icmp .eq 5, 3) := by decide +kernel
theorem dX3_wordIs_49 : decode cX3_wordIs 49 = .ok (.iconst 0, 1) := by decide +kernel
theorem dX3_wordIs_50 : decode cX3_wordIs 50 = .ok (.ireturn, 1) := by decide +kernel
theorem dX3_wordIs_51 : decode cX3_wordIs 51 = .ok (.iinc 2 1, 3) := by decide +kernel
theorem dX3_wordIs_54 : decode cX3_wordIs 54 = .ok (.goto (-34), 3) := by decide +kernel
theorem dX3_wordIs_57 : decode cX3_wordIs 57 = .ok (.iconst 1, 1) := by decide +kernel
theorem dX3_wordIs_58 : decode cX3_wordIs 58 = .ok (.ireturn, 1) := by decide +kernel
theorem dX3_isDigit_0 : decode cX3_isDigit 0 = .ok (.iload_n 0, 1) := by decide +kernel
theorem dX3_isDigit_1 : decode cX3_isDigit 1 = .ok (.bipush 48, 2) := by decide +kernel
theorem dX3_isDigit_3 : decode cX3_isDigit 3 = .ok (.if_icmp .lt 13, 3) := by decide +kernel
theorem dX3_isDigit_6 : decode cX3_isDigit 6 = .ok (.iload_n 0, 1) := by decide +kernel
theorem dX3_isDigit_7 : decode cX3_isDigit 7 = .ok (.bipush 57, 2) := by decide +kernel
theorem dX3_isDigit_9 : decode cX3_isDigit 9 = .ok (.if_icmp .gt 7, 3) := by decide +kernel
theorem dX3_isDigit_12 : decode cX3_isDigit 12 = .ok (.iconst 1, 1) := by decide +kernel
theorem dX3_isDigit_13 : decode cX3_isDigit 13 = .ok (.goto 4, 3) := by decide +kernel
theorem dX3_isDigit_16 : decode cX3_isDigit 16 = .ok (.iconst 0, 1) := by decide +kernel
theorem dX3_isDigit_17 : decode cX3_isDigit 17 = .ok (.ireturn, 1) := by decide +kernel
theorem dX3_readNumber_0 : decode cX3_readNumber 0 = .ok (.aload_n 0, 1) := by decide +kernel
theorem dX3_readNumber_1 : decode cX3_readNumber 1 = .ok (.invokevirtual 44, 3) := by decide +kernel
theorem dX3_readNumber_4 : decode cX3_readNumber 4 = .ok (.aload_n 0, 1) := by decide +kernel
theorem dX3_readNumber_5 : decode cX3_readNumber 5 = .ok (.getfield 12, 3) := by decide +kernel
theorem dX3_readNumber_8 : decode cX3_readNumber 8 = .ok (.aload_n 0, 1) := by decide +kernel
theorem dX3_readNumber_9 : decode cX3_readNumber 9 = .ok (.getfield 25, 3) := by decide +kernel
theorem dX3_readNumber_12 : decode cX3_readNumber 12 = .ok (.invokevirtual 56, 3) := by decide +kernel
theorem dX3_readNumber_15 : decode cX3_readNumber 15 = .ok (.invokestatic 68, 3) := by decide +kernel
theorem dX3_readNumber_18 : decode cX3_readNumber 18 = .ok (.ifCond .ne 14, 3) := by decide +kernel
theorem dX3_readNumber_21 : decode cX3_readNumber 21 = .ok (.aload_n 0, 1) := by decide +kernel
theorem dX3_readNumber_22 : decode cX3_readNumber 22 = .ok (.aload_n 0, 1) := by decide +kernel
theorem dX3_readNumber_23 : decode cX3_readNumber 23 = .ok (.getfield 25, 3) := by decide +kernel
theorem dX3_readNumber_26 : decode cX3_readNumber 26 = .ok (.iconst 1, 1) := by decide +kernel
theorem dX3_readNumber_27 : decode cX3_readNumber 27 = .ok (.invokevirtual 72, 3) := by decide +kernel
theorem dX3_readNumber_30 : decode cX3_readNumber 30 = .ok (.iload_n 1, 1) := by decide +kernel
theorem dX3_readNumber_31 : decode cX3_readNumber 31 = .ok (.ireturn, 1) := by decide +kernel
theorem dX3_readNumber_32 : decode cX3_readNumber 32 = .ok (.aload_n 0, 1) := by decide +kernel
theorem dX3_readNumber_33 : decode cX3_readNumber 33 = .ok (.aload_n 0, 1) := by decide +kernel
theorem dX3_readNumber_34 : decode cX3_readNumber 34 = .ok (.getfield 25, 3) := by decide +kernel
theorem dX3_readNumber_37 : decode cX3_readNumber 37 = .ok (.putfield 32, 3) := by decide +kernel
theorem dX3_readNumber_40 : decode cX3_readNumber 40 = .ok (.iconst 0, 1) := by decide +kernel
theorem dX3_readNumber_41 : decode cX3_readNumber 41 = .ok (.istore_n 3, 1) := by decide +kernel
theorem dX3_readNumber_42 : decode cX3_readNumber 42 = .ok (.aload_n 0, 1) := by decide +kernel
theorem dX3_readNumber_43 : decode cX3_readNumber 43 = .ok (.getfield 25, 3) := by decide +kernel
theorem dX3_readNumber_46 : decode cX3_readNumber 46 = .ok (.aload_n 0, 1) := by decide +kernel
theorem dX3_readNumber_47 : decode cX3_readNumber 47 = .ok (.getfield 12, 3) := by decide +kernel
theorem dX3_readNumber_50 : decode cX3_readNumber 50 = .ok (.getfield 47, 3) := by decide +kernel
theorem dX3_readNumber_53 : decode cX3_readNumber 53 = .ok (.if_icmp .ge 58, 3) := by decide +kernel
theorem dX3_readNumber_56 : decode cX3_readNumber 56 = .ok (.aload_n 0, 1) := by decide +kernel
theorem dX3_readNumber_57 : decode cX3_readNumber 57 = .ok (.getfield 12, 3) := by decide +kernel
theorem dX3_readNumber_60 : decode cX3_readNumber 60 = .ok (.aload_n 0, 1) := by decide +kernel
theorem dX3_readNumber_61 : decode cX3_readNumber 61 = .ok (.getfield 25, 3) := by decide +kernel
theorem dX3_readNumber_64 : decode cX3_readNumber 64 = .ok (.invokevirtual 56, 3) := by decide +kernel
theorem dX3_readNumber_67 : decode cX3_readNumber 67 = .ok (.invokestatic 68, 3) := by decide +kernel
theorem dX3_readNumber_70 : decode cX3_readNumber 70 = .ok (.ifCond .eq 41, 3) := by decide +kernel
theorem dX3_readNumber_73 : decode cX3_readNumber 73 = .ok (.iload_n 3, 1) := by decide +kernel
theorem dX3_readNumber_74 : decode cX3_readNumber 74 = .ok (.bipush 10, 2) := by decide +kernel
theorem dX3_readNumber_76 : decode cX3_readNumber 76 = .ok (.imul, 1) := by decide +kernel
theorem dX3_readNumber_77 : decode cX3_readNumber 77 = .ok (.aload_n 0, 1) := by decide +kernel
theorem dX3_readNumber_78 : decode cX3_readNumber 78 = .ok (.getfield 12, 3) := by decide +kernel
theorem dX3_readNumber_81 : decode cX3_readNumber 81 = .ok (.aload_n 0, 1) := by decide +kernel
theorem dX3_readNumber_82 : decode cX3_readNumber 82 = .ok (.getfield 25, 3) := by decide +kernel
theorem dX3_readNumber_85 : decode cX3_readNumber 85 = .ok (.invokevirtual 56, 3) := by decide +kernel
theorem dX3_readNumber_88 : decode cX3_readNumber 88 = .ok (.iadd, 1) := by decide +kernel
theorem dX3_readNumber_89 : decode cX3_readNumber 89 = .ok (.bipush 48, 2) := by decide +kernel
theorem dX3_readNumber_91 : decode cX3_readNumber 91 = .ok (.isub, 1) := by decide +kernel
theorem dX3_readNumber_92 : decode cX3_readNumber 92 = .ok (.ldc 76, 2) := by decide +kernel
theorem dX3_readNumber_94 : decode cX3_readNumber 94 = .ok (.invokestatic 77, 3) := by decide +kernel
theorem dX3_readNumber_97 : decode cX3_readNumber 97 = .ok (.istore_n 3, 1) := by decide +kernel
theorem dX3_readNumber_98 : decode cX3_readNumber 98 = .ok (.aload_n 0, 1) := by decide +kernel
theorem dX3_readNumber_99 : decode cX3_readNumber 99 = .ok (.dup, 1) := by decide +kernel
theorem dX3_readNumber_100 : decode cX3_readNumber 100 = .ok (.getfield 25, 3) := by decide +kernel
theorem dX3_readNumber_103 : decode cX3_readNumber 103 = .ok (.iconst 1, 1) := by decide +kernel
theorem dX3_readNumber_104 : decode cX3_readNumber 104 = .ok (.iadd, 1) := by decide +kernel
theorem dX3_readNumber_105 : decode cX3_readNumber 105 = .ok (.putfield 25, 3) := by decide +kernel
theorem dX3_readNumber_108 : decode cX3_readNumber 108 = .ok (.goto (-66), 3) := by decide +kernel
theorem dX3_readNumber_111 : decode cX3_readNumber 111 = .ok (.aload_n 0, 1) := by decide +kernel
theorem dX3_readNumber_112 : decode cX3_readNumber 112 = .ok (.iload_n 3, 1) := by decide +kernel
theorem dX3_readNumber_113 : decode cX3_readNumber 113 = .ok (.iload_n 1, 1) := by decide +kernel
theorem dX3_readNumber_114 : decode cX3_readNumber 114 = .ok (.iload_n 2, 1) := by decide +kernel
theorem dX3_readNumber_115 : decode cX3_readNumber 115 = .ok (.invokestatic 83, 3) := by decide +kernel
theorem dX3_readNumber_118 : decode cX3_readNumber 118 = .ok (.invokevirtual 87, 3) := by decide +kernel
theorem dX3_readNumber_121 : decode cX3_readNumber 121 = .ok (.iload_n 3, 1) := by decide +kernel
theorem dX3_readNumber_122 : decode cX3_readNumber 122 = .ok (.ireturn, 1) := by decide +kernel
theorem dX3_mustBe_0 : decode cX3_mustBe 0 = .ok (.iload_n 1, 1) := by decide +kernel
theorem dX3_mustBe_1 : decode cX3_mustBe 1 = .ok (.ifCond .ne 12, 3) := by decide +kernel
theorem dX3_mustBe_4 : decode cX3_mustBe 4 = .ok (.aload_n 0, 1) := by decide +kernel
theorem dX3_mustBe_5 : decode cX3_mustBe 5 = .ok (.aload_n 0, 1) := by decide +kernel
theorem dX3_mustBe_6 : decode cX3_mustBe 6 = .ok (.getfield 32, 3) := by decide +kernel
theorem dX3_mustBe_9 : decode cX3_mustBe 9 = .ok (.iconst 2, 1) := by decide +kernel
theorem dX3_mustBe_10 : decode cX3_mustBe 10 = .ok (.invokevirtual 72, 3) := by decide +kernel
theorem dX3_mustBe_13 : decode cX3_mustBe 13 = .ok (.return_, 1) := by decide +kernel
theorem dX3_readHubs_0 : decode cX3_readHubs 0 = .ok (.aload_n 0, 1) := by decide +kernel
theorem dX3_readHubs_1 : decode cX3_readHubs 1 = .ok (.invokevirtual 91, 3) := by decide +kernel
theorem dX3_readHubs_4 : decode cX3_readHubs 4 = .ok (.aload_n 0, 1) := by decide +kernel
theorem dX3_readHubs_5 : decode cX3_readHubs 5 = .ok (.ldc 94, 2) := by decide +kernel
theorem dX3_readHubs_7 : decode cX3_readHubs 7 = .ok (.invokevirtual 96, 3) := by decide +kernel
theorem dX3_readHubs_10 : decode cX3_readHubs 10 = .ok (.ifCond .ne 12, 3) := by decide +kernel
theorem dX3_readHubs_13 : decode cX3_readHubs 13 = .ok (.aload_n 0, 1) := by decide +kernel
theorem dX3_readHubs_14 : decode cX3_readHubs 14 = .ok (.aload_n 0, 1) := by decide +kernel
theorem dX3_readHubs_15 : decode cX3_readHubs 15 = .ok (.getfield 29, 3) := by decide +kernel
theorem dX3_readHubs_18 : decode cX3_readHubs 18 = .ok (.iconst 1, 1) := by decide +kernel
theorem dX3_readHubs_19 : decode cX3_readHubs 19 = .ok (.invokevirtual 72, 3) := by decide +kernel
theorem dX3_readHubs_22 : decode cX3_readHubs 22 = .ok (.aload_n 0, 1) := by decide +kernel
theorem dX3_readHubs_23 : decode cX3_readHubs 23 = .ok (.iconst 2, 1) := by decide +kernel
theorem dX3_readHubs_24 : decode cX3_readHubs 24 = .ok (.bipush 8, 2) := by decide +kernel
theorem dX3_readHubs_26 : decode cX3_readHubs 26 = .ok (.invokevirtual 100, 3) := by decide +kernel
theorem dX3_readHubs_29 : decode cX3_readHubs 29 = .ok (.istore_n 1, 1) := by decide +kernel
theorem dX3_readHubs_30 : decode cX3_readHubs 30 = .ok (.aload_n 0, 1) := by decide +kernel
theorem dX3_readHubs_31 : decode cX3_readHubs 31 = .ok (.getfield 35, 3) := by decide +kernel
theorem dX3_readHubs_34 : decode cX3_readHubs 34 = .ok (.ifCond .eq 4, 3) := by decide +kernel
theorem dX3_readHubs_37 : decode cX3_readHubs 37 = .ok (.return_, 1) := by decide +kernel
theorem dX3_readHubs_38 : decode cX3_readHubs 38 = .ok (.aload_n 0, 1) := by decide +kernel
theorem dX3_readHubs_39 : decode cX3_readHubs 39 = .ok (.getfield 21, 3) := by decide +kernel
theorem dX3_readHubs_42 : decode cX3_readHubs 42 = .ok (.iload_n 1, 1) := by decide +kernel
theorem dX3_readHubs_43 : decode cX3_readHubs 43 = .ok (.putfield 103, 3) := by decide +kernel
theorem dX3_readHubs_46 : decode cX3_readHubs 46 = .ok (.iconst 0, 1) := by decide +kernel
theorem dX3_readHubs_47 : decode cX3_readHubs 47 = .ok (.istore_n 2, 1) := by decide +kernel
theorem dX3_readHubs_48 : decode cX3_readHubs 48 = .ok (.iload_n 2, 1) := by decide +kernel
theorem dX3_readHubs_49 : decode cX3_readHubs 49 = .ok (.iload_n 1, 1) := by decide +kernel
theorem dX3_readHubs_50 : decode cX3_readHubs 50 = .ok (.iconst 1, 1) := by decide +kernel
theorem dX3_readHubs_51 : decode cX3_readHubs 51 = .ok (.isub, 1) := by decide +kernel
theorem dX3_readHubs_52 : decode cX3_readHubs 52 = .ok (.if_icmp .ge 33, 3) := by decide +kernel
theorem dX3_readHubs_55 : decode cX3_readHubs 55 = .ok (.aload_n 0, 1) := by decide +kernel
theorem dX3_readHubs_56 : decode cX3_readHubs 56 = .ok (.getfield 21, 3) := by decide +kernel
theorem dX3_readHubs_59 : decode cX3_readHubs 59 = .ok (.getfield 105, 3) := by decide +kernel
theorem dX3_readHubs_62 : decode cX3_readHubs 62 = .ok (.aload_n 0, 1) := by decide +kernel
theorem dX3_readHubs_63 : decode cX3_readHubs 63 = .ok (.getfield 21, 3) := by decide +kernel
theorem dX3_readHubs_66 : decode cX3_readHubs 66 = .ok (.getfield 105, 3) := by decide +kernel
theorem dX3_readHubs_69 : decode cX3_readHubs 69 = .ok (.invokevirtual 109, 3) := by decide +kernel
theorem dX3_readHubs_72 : decode cX3_readHubs 72 = .ok (.iconst 0, 1) := by decide +kernel
theorem dX3_readHubs_73 : decode cX3_readHubs 73 = .ok (.sipush 9999, 3) := by decide +kernel
theorem dX3_readHubs_76 : decode cX3_readHubs 76 = .ok (.invokevirtual 114, 3) := by decide +kernel
theorem dX3_readHubs_79 : decode cX3_readHubs 79 = .ok (.iinc 2 1, 3) := by decide +kernel
theorem dX3_readHubs_82 : decode cX3_readHubs 82 = .ok (.goto (-34), 3) := by decide +kernel
theorem dX3_readHubs_85 : decode cX3_readHubs 85 = .ok (.return_, 1) := by decide +kernel
theorem dX3_readMark_0 : decode cX3_readMark 0 = .ok (.aload_n 0, 1) := by decide +kernel
theorem dX3_readMark_1 : decode cX3_readMark 1 = .ok (.getfield 12, 3) := by decide +kernel
theorem dX3_readMark_4 : decode cX3_readMark 4 = .ok (.aload_n 0, 1) := by decide +kernel
theorem dX3_readMark_5 : decode cX3_readMark 5 = .ok (.getfield 25, 3) := by decide +kernel
theorem dX3_readMark_8 : decode cX3_readMark 8 = .ok (.invokevirtual 56, 3) := by decide +kernel
theorem dX3_readMark_11 : decode cX3_readMark 11 = .ok (.bipush 59, 2) := by decide +kernel
theorem dX3_readMark_13 : decode cX3_readMark 13 = .ok (.if_icmp .ne 16, 3) := by decide +kernel
theorem dX3_readMark_16 : decode cX3_readMark 16 = .ok (.aload_n 0, 1) := by decide +kernel
theorem dX3_readMark_17 : decode cX3_readMark 17 = .ok (.dup, 1) := by decide +kernel
theorem dX3_readMark_18 : decode cX3_readMark 18 = .ok (.getfield 25, 3) := by decide +kernel
theorem dX3_readMark_21 : decode cX3_readMark 21 = .ok (.iconst 1, 1) := by decide +kernel
theorem dX3_readMark_22 : decode cX3_readMark 22 = .ok (.iadd, 1) := by decide +kernel
theorem dX3_readMark_23 : decode cX3_readMark 23 = .ok (.putfield 25, 3) := by decide +kernel
theorem dX3_readMark_26 : decode cX3_readMark 26 = .ok (.goto 12, 3) := by decide +kernel
theorem dX3_readMark_29 : decode cX3_readMark 29 = .ok (.aload_n 0, 1) := by decide +kernel
theorem dX3_readMark_30 : decode cX3_readMark 30 = .ok (.aload_n 0, 1) := by decide +kernel
theorem dX3_readMark_31 : decode cX3_readMark 31 = .ok (.getfield 25, 3) := by decide +kernel
theorem dX3_readMark_34 : decode cX3_readMark 34 = .ok (.iconst 1, 1) := by decide +kernel
theorem dX3_readMark_35 : decode cX3_readMark 35 = .ok (.invokevirtual 72, 3) := by decide +kernel
theorem dX3_readMark_38 : decode cX3_readMark 38 = .ok (.return_, 1) := by decide +kernel
theorem dX3_readPart_0 : decode cX3_readPart 0 = .ok (.aload_n 0, 1) := by decide +kernel
theorem dX3_readPart_1 : decode cX3_readPart 1 = .ok (.invokevirtual 91, 3) := by decide +kernel
theorem dX3_readPart_4 : decode cX3_readPart 4 = .ok (.aload_n 0, 1) := by decide +kernel
theorem dX3_readPart_5 : decode cX3_readPart 5 = .ok (.ldc 118, 2) := by decide +kernel
theorem dX3_readPart_7 : decode cX3_readPart 7 = .ok (.invokevirtual 96, 3) := by decide +kernel
theorem dX3_readPart_10 : decode cX3_readPart 10 = .ok (.ifCond .eq 10, 3) := by decide +kernel
theorem dX3_readPart_13 : decode cX3_readPart 13 = .ok (.aload_n 0, 1) := by decide +kernel
theorem dX3_readPart_14 : decode cX3_readPart 14 = .ok (.invokevirtual 120, 3) := by decide +kernel
theorem dX3_readPart_17 : decode cX3_readPart 17 = .ok (.goto 132, 3) := by decide +kernel
theorem dX3_readPart_20 : decode cX3_readPart 20 = .ok (.aload_n 0, 1) := by decide +kernel
theorem dX3_readPart_21 : decode cX3_readPart 21 = .ok (.ldc 123, 2) := by decide +kernel
theorem dX3_readPart_23 : decode cX3_readPart 23 = .ok (.invokevirtual 96, 3) := by decide +kernel
theorem dX3_readPart_26 : decode cX3_readPart 26 = .ok (.ifCond .eq 11, 3) := by decide +kernel
theorem dX3_readPart_29 : decode cX3_readPart 29 = .ok (.aload_n 0, 1) := by decide +kernel
theorem dX3_readPart_30 : decode cX3_readPart 30 = .ok (.iconst 1, 1) := by decide +kernel
theorem dX3_readPart_31 : decode cX3_readPart 31 = .ok (.invokevirtual 125, 3) := by decide +kernel
theorem dX3_readPart_34 : decode cX3_readPart 34 = .ok (.goto 115, 3) := by decide +kernel
theorem dX3_readPart_37 : decode cX3_readPart 37 = .ok (.aload_n 0, 1) := by decide +kernel
theorem dX3_readPart_38 : decode cX3_readPart 38 = .ok (.ldc 129, 2) := by decide +kernel
theorem dX3_readPart_40 : decode cX3_readPart 40 = .ok (.invokevirtual 96, 3) := by decide +kernel
theorem dX3_readPart_43 : decode cX3_readPart 43 = .ok (.ifCond .eq 11, 3) := by decide +kernel
theorem dX3_readPart_46 : decode cX3_readPart 46 = .ok (.aload_n 0, 1) := by decide +kernel
theorem dX3_readPart_47 : decode cX3_readPart 47 = .ok (.iconst 0, 1) := by decide +kernel
theorem dX3_readPart_48 : decode cX3_readPart 48 = .ok (.invokevirtual 125, 3) := by decide +kernel
theorem dX3_readPart_51 : decode cX3_readPart 51 = .ok (.goto 98, 3) := by decide +kernel
theorem dX3_readPart_54 : decode cX3_readPart 54 = .ok (.aload_n 0, 1) := by decide +kernel
theorem dX3_readPart_55 : decode cX3_readPart 55 = .ok (.ldc 131, 2) := by decide +kernel
theorem dX3_readPart_57 : decode cX3_readPart 57 = .ok (.invokevirtual 96, 3) := by decide +kernel
theorem dX3_readPart_60 : decode cX3_readPart 60 = .ok (.ifCond .eq 10, 3) := by decide +kernel
theorem dX3_readPart_63 : decode cX3_readPart 63 = .ok (.aload_n 0, 1) := by decide +kernel
theorem dX3_readPart_64 : decode cX3_readPart 64 = .ok (.invokevirtual 133, 3) := by decide +kernel
theorem dX3_readPart_67 : decode cX3_readPart 67 = .ok (.goto 82, 3) := by decide +kernel
theorem dX3_readPart_70 : decode cX3_readPart 70 = .ok (.aload_n 0, 1) := by decide +kernel
theorem dX3_readPart_71 : decode cX3_readPart 71 = .ok (.ldc 136, 2) := by decide +kernel
theorem dX3_readPart_73 : decode cX3_readPart 73 = .ok (.invokevirtual 96, 3) := by decide +kernel
theorem dX3_readPart_76 : decode cX3_readPart 76 = .ok (.ifCond .eq 12, 3) := by decide +kernel
theorem dX3_readPart_79 : decode cX3_readPart 79 = .ok (.aload_n 0, 1) := by decide +kernel
theorem dX3_readPart_80 : decode cX3_readPart 80 = .ok (.iconst 1, 1) := by decide +kernel
theorem dX3_readPart_81 : decode cX3_readPart 81 = .ok (.iconst 1, 1) := by decide +kernel
theorem dX3_readPart_82 : decode cX3_readPart 82 = .ok (.invokevirtual 138, 3) := by decide +kernel
theorem dX3_readPart_85 : decode cX3_readPart 85 = .ok (.goto 64, 3) := by decide +kernel
theorem dX3_readPart_88 : decode cX3_readPart 88 = .ok (.aload_n 0, 1) := by decide +kernel
theorem dX3_readPart_89 : decode cX3_readPart 89 = .ok (.ldc 142, 2) := by decide +kernel
theorem dX3_readPart_91 : decode cX3_readPart 91 = .ok (.invokevirtual 96, 3) := by decide +kernel
theorem dX3_readPart_94 : decode cX3_readPart 94 = .ok (.ifCond .eq 12, 3) := by decide +kernel
theorem dX3_readPart_97 : decode cX3_readPart 97 = .ok (.aload_n 0, 1) := by decide +kernel
theorem dX3_readPart_98 : decode cX3_readPart 98 = .ok (.iconst 1, 1) := by decide +kernel
theorem dX3_readPart_99 : decode cX3_readPart 99 = .ok (.iconst 0, 1) := by decide +kernel
theorem dX3_readPart_100 : decode cX3_readPart 100 = .ok (.invokevirtual 138, 3) := by decide +kernel
theorem dX3_readPart_103 : decode cX3_readPart 103 = .ok (.goto 46, 3) := by decide +kernel
theorem dX3_readPart_106 : decode cX3_readPart 106 = .ok (.aload_n 0, 1) := by decide +kernel
theorem dX3_readPart_107 : decode cX3_readPart 107 = .ok (.ldc 144, 2) := by decide +kernel
theorem dX3_readPart_109 : decode cX3_readPart 109 = .ok (.invokevirtual 96, 3) := by decide +kernel
theorem dX3_readPart_112 : decode cX3_readPart 112 = .ok (.ifCond .eq 12, 3) := by decide +kernel
theorem dX3_readPart_115 : decode cX3_readPart 115 = .ok (.aload_n 0, 1) := by decide +kernel
theorem dX3_readPart_116 : decode cX3_readPart 116 = .ok (.iconst 0, 1) := by decide +kernel
theorem dX3_readPart_117 : decode cX3_readPart 117 = .ok (.iconst 1, 1) := by decide +kernel
theorem dX3_readPart_118 : decode cX3_readPart 118 = .ok (.invokevirtual 138, 3) := by decide +kernel
theorem dX3_readPart_121 : decode cX3_readPart 121 = .ok (.goto 28, 3) := by decide +kernel
theorem dX3_readPart_124 : decode cX3_readPart 124 = .ok (.aload_n 0, 1) := by decide +kernel
theorem dX3_readPart_125 : decode cX3_readPart 125 = .ok (.ldc 146, 2) := by decide +kernel
theorem dX3_readPart_127 : decode cX3_readPart 127 = .ok (.invokevirtual 96, 3) := by decide +kernel
theorem dX3_readPart_130 : decode cX3_readPart 130 = .ok (.ifCond .eq 10, 3) := by decide +kernel
theorem dX3_readPart_133 : decode cX3_readPart 133 = .ok (.aload_n 0, 1) := by decide +kernel
theorem dX3_readPart_134 : decode cX3_readPart 134 = .ok (.invokevirtual 148, 3) := by decide +kernel
theorem dX3_readPart_137 : decode cX3_readPart 137 = .ok (.goto 12, 3) := by decide +kernel
theorem dX3_readPart_140 : decode cX3_readPart 140 = .ok (.aload_n 0, 1) := by decide +kernel
theorem dX3_readPart_141 : decode cX3_readPart 141 = .ok (.aload_n 0, 1) := by decide +kernel
theorem dX3_readPart_142 : decode cX3_readPart 142 = .ok (.getfield 29, 3) := by decide +kernel
theorem dX3_readPart_145 : decode cX3_readPart 145 = .ok (.iconst 1, 1) := by decide +kernel
theorem dX3_readPart_146 : decode cX3_readPart 146 = .ok (.invokevirtual 72, 3) := by decide +kernel
theorem dX3_readPart_149 : decode cX3_readPart 149 = .ok (.return_, 1) := by decide +kernel
theorem dX3_readSegment_0 : decode cX3_readSegment 0 = .ok (.aload_n 0, 1) := by decide +kernel
theorem dX3_readSegment_1 : decode cX3_readSegment 1 = .ok (.iconst 0, 1) := by decide +kernel
theorem dX3_readSegment_2 : decode cX3_readSegment 2 = .ok (.aload_n 0, 1) := by decide +kernel
theorem dX3_readSegment_3 : decode cX3_readSegment 3 = .ok (.getfield 21, 3) := by decide +kernel
theorem dX3_readSegment_6 : decode cX3_readSegment 6 = .ok (.getfield 105, 3) := by decide +kernel
theorem dX3_readSegment_9 : decode cX3_readSegment 9 = .ok (.getfield 151, 3) := by decide +kernel
theorem dX3_readSegment_12 : decode cX3_readSegment 12 = .ok (.iconst 1, 1) := by decide +kernel
theorem dX3_readSegment_13 : decode cX3_readSegment 13 = .ok (.isub, 1) := by decide +kernel
theorem dX3_readSegment_14 : decode cX3_readSegment 14 = .ok (.invokevirtual 100, 3) := by decide +kernel
theorem dX3_readSegment_17 : decode cX3_readSegment 17 = .ok (.istore_n 1, 1) := by decide +kernel
theorem dX3_readSegment_18 : decode cX3_readSegment 18 = .ok (.aload_n 0, 1) := by decide +kernel
theorem dX3_readSegment_19 : decode cX3_readSegment 19 = .ok (.iconst 0, 1) := by decide +kernel
theorem dX3_readSegment_20 : decode cX3_readSegment 20 = .ok (.sipush 9999, 3) := by decide +kernel
theorem dX3_readSegment_23 : decode cX3_readSegment 23 = .ok (.invokevirtual 100, 3) := by decide +kernel
theorem dX3_readSegment_26 : decode cX3_readSegment 26 = .ok (.istore_n 2, 1) := by decide +kernel
theorem dX3_readSegment_27 : decode cX3_readSegment 27 = .ok (.aload_n 0, 1) := by decide +kernel
theorem dX3_readSegment_28 : decode cX3_readSegment 28 = .ok (.iconst 0, 1) := by decide +kernel
theorem dX3_readSegment_29 : decode cX3_readSegment 29 = .ok (.bipush 50, 2) := by decide +kernel
theorem dX3_readSegment_31 : decode cX3_readSegment 31 = .ok (.invokevirtual 100, 3) := by decide +kernel
theorem dX3_readSegment_34 : decode cX3_readSegment 34 = .ok (.istore_n 3, 1) := by decide +kernel
theorem dX3_readSegment_35 : decode cX3_readSegment 35 = .ok (.aload_n 0, 1) := by decide +kernel
theorem dX3_readSegment_36 : decode cX3_readSegment 36 = .ok (.getfield 35, 3) := by decide +kernel
theorem dX3_readSegment_39 : decode cX3_readSegment 39 = .ok (.ifCond .ne 29, 3) := by decide +kernel
theorem dX3_readSegment_42 : decode cX3_readSegment 42 = .ok (.aload_n 0, 1) := by decide +kernel
theorem dX3_readSegment_43 : decode cX3_readSegment 43 = .ok (.getfield 21, 3) := by decide +kernel
theorem dX3_readSegment_46 : decode cX3_readSegment 46 = .ok (.getfield 105, 3) := by decide +kernel
theorem dX3_readSegment_49 : decode cX3_readSegment 49 = .ok (.iload_n 1, 1) := by decide +kernel
theorem dX3_readSegment_50 : decode cX3_readSegment 50 = .ok (.iconst 0, 1) := by decide +kernel
theorem dX3_readSegment_51 : decode cX3_readSegment 51 = .ok (.iload_n 2, 1) := by decide +kernel
theorem dX3_readSegment_52 : decode cX3_readSegment 52 = .ok (.invokevirtual 114, 3) := by decide +kernel
theorem dX3_readSegment_55 : decode cX3_readSegment 55 = .ok (.aload_n 0, 1) := by decide +kernel
theorem dX3_readSegment_56 : decode cX3_readSegment 56 = .ok (.getfield 21, 3) := by decide +kernel
theorem dX3_readSegment_59 : decode cX3_readSegment 59 = .ok (.getfield 105, 3) := by decide +kernel
theorem dX3_readSegment_62 : decode cX3_readSegment 62 = .ok (.iload_n 1, 1) := by decide +kernel
theorem dX3_readSegment_63 : decode cX3_readSegment 63 = .ok (.iconst 1, 1) := by decide +kernel
theorem dX3_readSegment_64 : decode cX3_readSegment 64 = .ok (.iload_n 3, 1) := by decide +kernel
theorem dX3_readSegment_65 : decode cX3_readSegment 65 = .ok (.invokevirtual 114, 3) := by decide +kernel
theorem dX3_readSegment_68 : decode cX3_readSegment 68 = .ok (.return_, 1) := by decide +kernel
theorem dX3_readPoint_0 : decode cX3_readPoint 0 = .ok (.aload_n 0, 1) := by decide +kernel
theorem dX3_readPoint_1 : decode cX3_readPoint 1 = .ok (.aload_n 0, 1) := by decide +kernel
theorem dX3_readPoint_2 : decode cX3_readPoint 2 = .ok (.getfield 21, 3) := by decide +kernel
theorem dX3_readPoint_5 : decode cX3_readPoint 5 = .ok (.getfield 154, 3) := by decide +kernel
theorem dX3_readPoint_8 : decode cX3_readPoint 8 = .ok (.invokevirtual 157, 3) := by decide +kernel
theorem dX3_readPoint_11 : decode cX3_readPoint 11 = .ok (.aload_n 0, 1) := by decide +kernel
theorem dX3_readPoint_12 : decode cX3_readPoint 12 = .ok (.iconst 0, 1) := by decide +kernel
theorem dX3_readPoint_13 : decode cX3_readPoint 13 = .ok (.aload_n 0, 1) := by decide +kernel
theorem dX3_readPoint_14 : decode cX3_readPoint 14 = .ok (.getfield 21, 3) := by decide +kernel
theorem dX3_readPoint_17 : decode cX3_readPoint 17 = .ok (.getfield 103, 3) := by decide +kernel
theorem dX3_readPoint_20 : decode cX3_readPoint 20 = .ok (.iconst 1, 1) := by decide +kernel
theorem dX3_readPoint_21 : decode cX3_readPoint 21 = .ok (.isub, 1) := by decide +kernel
theorem dX3_readPoint_22 : decode cX3_readPoint 22 = .ok (.invokevirtual 100, 3) := by decide +kernel
theorem dX3_readPoint_25 : decode cX3_readPoint 25 = .ok (.istore_n 2, 1) := by decide +kernel
theorem dX3_readPoint_26 : decode cX3_readPoint 26 = .ok (.aload_n 0, 1) := by decide +kernel
theorem dX3_readPoint_27 : decode cX3_readPoint 27 = .ok (.iconst 0, 1) := by decide +kernel
theorem dX3_readPoint_28 : decode cX3_readPoint 28 = .ok (.sipush 9999, 3) := by decide +kernel
theorem dX3_readPoint_31 : decode cX3_readPoint 31 = .ok (.invokevirtual 100, 3) := by decide +kernel
theorem dX3_readPoint_34 : decode cX3_readPoint 34 = .ok (.istore_n 3, 1) := by decide +kernel
theorem dX3_readPoint_35 : decode cX3_readPoint 35 = .ok (.aload_n 0, 1) := by decide +kernel
theorem dX3_readPoint_36 : decode cX3_readPoint 36 = .ok (.getfield 35, 3) := by decide +kernel
theorem dX3_readPoint_39 : decode cX3_readPoint 39 = .ok (.ifCond .ne 57, 3) := by decide +kernel
theorem dX3_readPoint_42 : decode cX3_readPoint 42 = .ok (.aload_n 0, 1) := by decide +kernel
theorem dX3_readPoint_43 : decode cX3_readPoint 43 = .ok (.getfield 21, 3) := by decide +kernel
theorem dX3_readPoint_46 : decode cX3_readPoint 46 = .ok (.getfield 154, 3) := by decide +kernel
theorem dX3_readPoint_49 : decode cX3_readPoint 49 = .ok (.invokevirtual 109, 3) := by decide +kernel
theorem dX3_readPoint_52 : decode cX3_readPoint 52 = .ok (.istore 4, 2) := by decide +kernel
theorem dX3_readPoint_54 : decode cX3_readPoint 54 = .ok (.aload_n 0, 1) := by decide +kernel
theorem dX3_readPoint_55 : decode cX3_readPoint 55 = .ok (.getfield 21, 3) := by decide +kernel
theorem dX3_readPoint_58 : decode cX3_readPoint 58 = .ok (.getfield 154, 3) := by decide +kernel
theorem dX3_readPoint_61 : decode cX3_readPoint 61 = .ok (.iload 4, 2) := by decide +kernel
theorem dX3_readPoint_63 : decode cX3_readPoint 63 = .ok (.iconst 0, 1) := by decide +kernel
theorem dX3_readPoint_64 : decode cX3_readPoint 64 = .ok (.iload_n 2, 1) := by decide +kernel
theorem dX3_readPoint_65 : decode cX3_readPoint 65 = .ok (.invokevirtual 114, 3) := by decide +kernel
theorem dX3_readPoint_68 : decode cX3_readPoint 68 = .ok (.aload_n 0, 1) := by decide +kernel
theorem dX3_readPoint_69 : decode cX3_readPoint 69 = .ok (.getfield 21, 3) := by decide +kernel
theorem dX3_readPoint_72 : decode cX3_readPoint 72 = .ok (.getfield 154, 3) := by decide +kernel
theorem dX3_readPoint_75 : decode cX3_readPoint 75 = .ok (.iload 4, 2) := by decide +kernel
theorem dX3_readPoint_77 : decode cX3_readPoint 77 = .ok (.iconst 1, 1) := by decide +kernel
theorem dX3_readPoint_78 : decode cX3_readPoint 78 = .ok (.iload_n 1, 1) := by decide +kernel
theorem dX3_readPoint_79 : decode cX3_readPoint 79 = .ok (.invokevirtual 114, 3) := by decide +kernel
theorem dX3_readPoint_82 : decode cX3_readPoint 82 = .ok (.aload_n 0, 1) := by decide +kernel
theorem dX3_readPoint_83 : decode cX3_readPoint 83 = .ok (.getfield 21, 3) := by decide +kernel
theorem dX3_readPoint_86 : decode cX3_readPoint 86 = .ok (.getfield 154, 3) := by decide +kernel
theorem dX3_readPoint_89 : decode cX3_readPoint 89 = .ok (.iload 4, 2) := by decide +kernel
theorem dX3_readPoint_91 : decode cX3_readPoint 91 = .ok (.iconst 2, 1) := by decide +kernel
theorem dX3_readPoint_92 : decode cX3_readPoint 92 = .ok (.iload_n 3, 1) := by decide +kernel
theorem dX3_readPoint_93 : decode cX3_readPoint 93 = .ok (.invokevirtual 114, 3) := by decide +kernel
theorem dX3_readPoint_96 : decode cX3_readPoint 96 = .ok (.return_, 1) := by decide +kernel
theorem dX3_readShipper_0 : decode cX3_readShipper 0 = .ok (.aload_n 0, 1) := by decide +kernel
theorem dX3_readShipper_1 : decode cX3_readShipper 1 = .ok (.aload_n 0, 1) := by decide +kernel
theorem dX3_readShipper_2 : decode cX3_readShipper 2 = .ok (.getfield 21, 3) := by decide +kernel
theorem dX3_readShipper_5 : decode cX3_readShipper 5 = .ok (.getfield 161, 3) := by decide +kernel
theorem dX3_readShipper_8 : decode cX3_readShipper 8 = .ok (.invokevirtual 157, 3) := by decide +kernel
theorem dX3_readShipper_11 : decode cX3_readShipper 11 = .ok (.aload_n 0, 1) := by decide +kernel
theorem dX3_readShipper_12 : decode cX3_readShipper 12 = .ok (.iconst 0, 1) := by decide +kernel
theorem dX3_readShipper_13 : decode cX3_readShipper 13 = .ok (.sipush 9999, 3) := by decide +kernel
theorem dX3_readShipper_16 : decode cX3_readShipper 16 = .ok (.invokevirtual 100, 3) := by decide +kernel
theorem dX3_readShipper_19 : decode cX3_readShipper 19 = .ok (.istore_n 1, 1) := by decide +kernel
theorem dX3_readShipper_20 : decode cX3_readShipper 20 = .ok (.aload_n 0, 1) := by decide +kernel
theorem dX3_readShipper_21 : decode cX3_readShipper 21 = .ok (.iconst 1, 1) := by decide +kernel
theorem dX3_readShipper_22 : decode cX3_readShipper 22 = .ok (.bipush 9, 2) := by decide +kernel
theorem dX3_readShipper_24 : decode cX3_readShipper 24 = .ok (.invokevirtual 100, 3) := by decide +kernel
theorem dX3_readShipper_27 : decode cX3_readShipper 27 = .ok (.istore_n 2, 1) := by decide +kernel
theorem dX3_readShipper_28 : decode cX3_readShipper 28 = .ok (.aload_n 0, 1) := by decide +kernel
theorem dX3_readShipper_29 : decode cX3_readShipper 29 = .ok (.iconst 0, 1) := by decide +kernel
theorem dX3_readShipper_30 : decode cX3_readShipper 30 = .ok (.sipush 9999, 3) := by decide +kernel
theorem dX3_readShipper_33 : decode cX3_readShipper 33 = .ok (.invokevirtual 100, 3) := by decide +kernel
theorem dX3_readShipper_36 : decode cX3_readShipper 36 = .ok (.istore_n 3, 1) := by decide +kernel
theorem dX3_readShipper_37 : decode cX3_readShipper 37 = .ok (.aload_n 0, 1) := by decide +kernel
theorem dX3_readShipper_38 : decode cX3_readShipper 38 = .ok (.iconst 0, 1) := by decide +kernel
theorem dX3_readShipper_39 : decode cX3_readShipper 39 = .ok (.sipush 9999, 3) := by decide +kernel
theorem dX3_readShipper_42 : decode cX3_readShipper 42 = .ok (.invokevirtual 100, 3) := by decide +kernel
theorem dX3_readShipper_45 : decode cX3_readShipper 45 = .ok (.istore 4, 2) := by decide +kernel
theorem dX3_readShipper_47 : decode cX3_readShipper 47 = .ok (.aload_n 0, 1) := by decide +kernel
theorem dX3_readShipper_48 : decode cX3_readShipper 48 = .ok (.getfield 35, 3) := by decide +kernel
theorem dX3_readShipper_51 : decode cX3_readShipper 51 = .ok (.ifCond .ne 72, 3) := by decide +kernel
theorem dX3_readShipper_54 : decode cX3_readShipper 54 = .ok (.aload_n 0, 1) := by decide +kernel
theorem dX3_readShipper_55 : decode cX3_readShipper 55 = .ok (.getfield 21, 3) := by decide +kernel
theorem dX3_readShipper_58 : decode cX3_readShipper 58 = .ok (.getfield 161, 3) := by decide +kernel
theorem dX3_readShipper_61 : decode cX3_readShipper 61 = .ok (.invokevirtual 109, 3) := by decide +kernel
theorem dX3_readShipper_64 : decode cX3_readShipper 64 = .ok (.istore 5, 2) := by decide +kernel
theorem dX3_readShipper_66 : decode cX3_readShipper 66 = .ok (.aload_n 0, 1) := by decide +kernel
theorem dX3_readShipper_67 : decode cX3_readShipper 67 = .ok (.getfield 21, 3) := by decide +kernel
theorem dX3_readShipper_70 : decode cX3_readShipper 70 = .ok (.getfield 161, 3) := by decide +kernel
theorem dX3_readShipper_73 : decode cX3_readShipper 73 = .ok (.iload 5, 2) := by decide +kernel
theorem dX3_readShipper_75 : decode cX3_readShipper 75 = .ok (.iconst 0, 1) := by decide +kernel
theorem dX3_readShipper_76 : decode cX3_readShipper 76 = .ok (.iload_n 1, 1) := by decide +kernel
theorem dX3_readShipper_77 : decode cX3_readShipper 77 = .ok (.invokevirtual 114, 3) := by decide +kernel
theorem dX3_readShipper_80 : decode cX3_readShipper 80 = .ok (.aload_n 0, 1) := by decide +kernel
theorem dX3_readShipper_81 : decode cX3_readShipper 81 = .ok (.getfield 21, 3) := by decide +kernel
theorem dX3_readShipper_84 : decode cX3_readShipper 84 = .ok (.getfield 161, 3) := by decide +kernel
theorem dX3_readShipper_87 : decode cX3_readShipper 87 = .ok (.iload 5, 2) := by decide +kernel
theorem dX3_readShipper_89 : decode cX3_readShipper 89 = .ok (.iconst 1, 1) := by decide +kernel
theorem dX3_readShipper_90 : decode cX3_readShipper 90 = .ok (.iload_n 2, 1) := by decide +kernel
theorem dX3_readShipper_91 : decode cX3_readShipper 91 = .ok (.invokevirtual 114, 3) := by decide +kernel
theorem dX3_readShipper_94 : decode cX3_readShipper 94 = .ok (.aload_n 0, 1) := by decide +kernel
theorem dX3_readShipper_95 : decode cX3_readShipper 95 = .ok (.getfield 21, 3) := by decide +kernel
theorem dX3_readShipper_98 : decode cX3_readShipper 98 = .ok (.getfield 161, 3) := by decide +kernel
theorem dX3_readShipper_101 : decode cX3_readShipper 101 = .ok (.iload 5, 2) := by decide +kernel
theorem dX3_readShipper_103 : decode cX3_readShipper 103 = .ok (.iconst 2, 1) := by decide +kernel
theorem dX3_readShipper_104 : decode cX3_readShipper 104 = .ok (.iload_n 3, 1) := by decide +kernel
theorem dX3_readShipper_105 : decode cX3_readShipper 105 = .ok (.invokevirtual 114, 3) := by decide +kernel
theorem dX3_readShipper_108 : decode cX3_readShipper 108 = .ok (.aload_n 0, 1) := by decide +kernel
theorem dX3_readShipper_109 : decode cX3_readShipper 109 = .ok (.getfield 21, 3) := by decide +kernel
theorem dX3_readShipper_112 : decode cX3_readShipper 112 = .ok (.getfield 161, 3) := by decide +kernel
theorem dX3_readShipper_115 : decode cX3_readShipper 115 = .ok (.iload 5, 2) := by decide +kernel
theorem dX3_readShipper_117 : decode cX3_readShipper 117 = .ok (.iconst 3, 1) := by decide +kernel
theorem dX3_readShipper_118 : decode cX3_readShipper 118 = .ok (.iload 4, 2) := by decide +kernel
theorem dX3_readShipper_120 : decode cX3_readShipper 120 = .ok (.invokevirtual 114, 3) := by decide +kernel
theorem dX3_readShipper_123 : decode cX3_readShipper 123 = .ok (.return_, 1) := by decide +kernel
theorem dX3_readNomination_0 : decode cX3_readNomination 0 = .ok (.aload_n 0, 1) := by decide +kernel
theorem dX3_readNomination_1 : decode cX3_readNomination 1 = .ok (.aload_n 0, 1) := by decide +kernel
theorem dX3_readNomination_2 : decode cX3_readNomination 2 = .ok (.getfield 21, 3) := by decide +kernel
theorem dX3_readNomination_5 : decode cX3_readNomination 5 = .ok (.getfield 164, 3) := by decide +kernel
theorem dX3_readNomination_8 : decode cX3_readNomination 8 = .ok (.invokevirtual 157, 3) := by decide +kernel
theorem dX3_readNomination_11 : decode cX3_readNomination 11 = .ok (.aload_n 0, 1) := by decide +kernel
theorem dX3_readNomination_12 : decode cX3_readNomination 12 = .ok (.iconst 0, 1) := by decide +kernel
theorem dX3_readNomination_13 : decode cX3_readNomination 13 = .ok (.aload_n 0, 1) := by decide +kernel
theorem dX3_readNomination_14 : decode cX3_readNomination 14 = .ok (.getfield 21, 3) := by decide +kernel
theorem dX3_readNomination_17 : decode cX3_readNomination 17 = .ok (.getfield 161, 3) := by decide +kernel
theorem dX3_readNomination_20 : decode cX3_readNomination 20 = .ok (.getfield 151, 3) := by decide +kernel
theorem dX3_readNomination_23 : decode cX3_readNomination 23 = .ok (.iconst 1, 1) := by decide +kernel
theorem dX3_readNomination_24 : decode cX3_readNomination 24 = .ok (.isub, 1) := by decide +kernel
theorem dX3_readNomination_25 : decode cX3_readNomination 25 = .ok (.invokevirtual 100, 3) := by decide +kernel
theorem dX3_readNomination_28 : decode cX3_readNomination 28 = .ok (.istore_n 3, 1) := by decide +kernel
theorem dX3_readNomination_29 : decode cX3_readNomination 29 = .ok (.iconst (-1), 1) := by decide +kernel
theorem dX3_readNomination_30 : decode cX3_readNomination 30 = .ok (.istore 4, 2) := by decide +kernel
theorem dX3_readNomination_32 : decode cX3_readNomination 32 = .ok (.iconst (-1), 1) := by decide +kernel
theorem dX3_readNomination_33 : decode cX3_readNomination 33 = .ok (.istore 5, 2) := by decide +kernel
theorem dX3_readNomination_35 : decode cX3_readNomination 35 = .ok (.iload_n 1, 1) := by decide +kernel
theorem dX3_readNomination_36 : decode cX3_readNomination 36 = .ok (.ifCond .eq 35, 3) := by decide +kernel
theorem dX3_readNomination_39 : decode cX3_readNomination 39 = .ok (.aload_n 0, 1) := by decide +kernel
theorem dX3_readNomination_40 : decode cX3_readNomination 40 = .ok (.iconst 0, 1) := by decide +kernel
theorem dX3_readNomination_41 : decode cX3_readNomination 41 = .ok (.aload_n 0, 1) := by decide +kernel
theorem dX3_readNomination_42 : decode cX3_readNomination 42 = .ok (.getfield 21, 3) := by decide +kernel
theorem dX3_readNomination_45 : decode cX3_readNomination 45 = .ok (.getfield 154, 3) := by decide +kernel
theorem dX3_readNomination_48 : decode cX3_readNomination 48 = .ok (.getfield 151, 3) := by decide +kernel
theorem dX3_readNomination_51 : decode cX3_readNomination 51 = .ok (.iconst 1, 1) := by decide +kernel
theorem dX3_readNomination_52 : decode cX3_readNomination 52 = .ok (.isub, 1) := by decide +kernel
theorem dX3_readNomination_53 : decode cX3_readNomination 53 = .ok (.invokevirtual 100, 3) := by decide +kernel
theorem dX3_readNomination_56 : decode cX3_readNomination 56 = .ok (.istore 4, 2) := by decide +kernel
theorem dX3_readNomination_58 : decode cX3_readNomination 58 = .ok (.aload_n 0, 1) := by decide +kernel
theorem dX3_readNomination_59 : decode cX3_readNomination 59 = .ok (.aload_n 0, 1) := by decide +kernel
theorem dX3_readNomination_60 : decode cX3_readNomination 60 = .ok (.getfield 21, 3) := by decide +kernel
theorem dX3_readNomination_63 : decode cX3_readNomination 63 = .ok (.iload 4, 2) := by decide +kernel
theorem dX3_readNomination_65 : decode cX3_readNomination 65 = .ok (.invokevirtual 167, 3) := by decide +kernel
theorem dX3_readNomination_68 : decode cX3_readNomination 68 = .ok (.invokevirtual 87, 3) := by decide +kernel
theorem dX3_readNomination_71 : decode cX3_readNomination 71 = .ok (.iload_n 2, 1) := by decide +kernel
theorem dX3_readNomination_72 : decode cX3_readNomination 72 = .ok (.ifCond .eq 35, 3) := by decide +kernel
theorem dX3_readNomination_75 : decode cX3_readNomination 75 = .ok (.aload_n 0, 1) := by decide +kernel
theorem dX3_readNomination_76 : decode cX3_readNomination 76 = .ok (.iconst 0, 1) := by decide +kernel
theorem dX3_readNomination_77 : decode cX3_readNomination 77 = .ok (.aload_n 0, 1) := by decide +kernel
theorem dX3_readNomination_78 : decode cX3_readNomination 78 = .ok (.getfield 21, 3) := by decide +kernel
theorem dX3_readNomination_81 : decode cX3_readNomination 81 = .ok (.getfield 154, 3) := by decide +kernel
theorem dX3_readNomination_84 : decode cX3_readNomination 84 = .ok (.getfield 151, 3) := by decide +kernel
theorem dX3_readNomination_87 : decode cX3_readNomination 87 = .ok (.iconst 1, 1) := by decide +kernel
theorem dX3_readNomination_88 : decode cX3_readNomination 88 = .ok (.isub, 1) := by decide +kernel
theorem dX3_readNomination_89 : decode cX3_readNomination 89 = .ok (.invokevirtual 100, 3) := by decide +kernel
theorem dX3_readNomination_92 : decode cX3_readNomination 92 = .ok (.istore 5, 2) := by decide +kernel
theorem dX3_readNomination_94 : decode cX3_readNomination 94 = .ok (.aload_n 0, 1) := by decide +kernel
theorem dX3_readNomination_95 : decode cX3_readNomination 95 = .ok (.aload_n 0, 1) := by decide +kernel
theorem dX3_readNomination_96 : decode cX3_readNomination 96 = .ok (.getfield 21, 3) := by decide +kernel
theorem dX3_readNomination_99 : decode cX3_readNomination 99 = .ok (.iload 5, 2) := by decide +kernel
theorem dX3_readNomination_101 : decode cX3_readNomination 101 = .ok (.invokevirtual 170, 3) := by decide +kernel
theorem dX3_readNomination_104 : decode cX3_readNomination 104 = .ok (.invokevirtual 87, 3) := by decide +kernel
theorem dX3_readNomination_107 : decode cX3_readNomination 107 = .ok (.aload_n 0, 1) := by decide +kernel
theorem dX3_readNomination_108 : decode cX3_readNomination 108 = .ok (.iconst 0, 1) := by decide +kernel
theorem dX3_readNomination_109 : decode cX3_readNomination 109 = .ok (.sipush 9999, 3) := by decide +kernel
theorem dX3_readNomination_112 : decode cX3_readNomination 112 = .ok (.invokevirtual 100, 3) := by decide +kernel
theorem dX3_readNomination_115 : decode cX3_readNomination 115 = .ok (.istore 6, 2) := by decide +kernel
theorem dX3_readNomination_117 : decode cX3_readNomination 117 = .ok (.aload_n 0, 1) := by decide +kernel
theorem dX3_readNomination_118 : decode cX3_readNomination 118 = .ok (.getfield 35, 3) := by decide +kernel
theorem dX3_readNomination_121 : decode cX3_readNomination 121 = .ok (.ifCond .ne 18, 3) := by decide +kernel
theorem dX3_readNomination_124 : decode cX3_readNomination 124 = .ok (.aload_n 0, 1) := by decide +kernel
theorem dX3_readNomination_125 : decode cX3_readNomination 125 = .ok (.getfield 21, 3) := by decide +kernel
theorem dX3_readNomination_128 : decode cX3_readNomination 128 = .ok (.iload_n 3, 1) := by decide +kernel
theorem dX3_readNomination_129 : decode cX3_readNomination 129 = .ok (.iload 4, 2) := by decide +kernel
theorem dX3_readNomination_131 : decode cX3_readNomination 131 = .ok (.iload 5, 2) := by decide +kernel
theorem dX3_readNomination_133 : decode cX3_readNomination 133 = .ok (.iload 6, 2) := by decide +kernel
theorem dX3_readNomination_135 : decode cX3_readNomination 135 = .ok (.invokevirtual 173, 3) := by decide +kernel
theorem dX3_readNomination_138 : decode cX3_readNomination 138 = .ok (.pop, 1) := by decide +kernel
theorem dX3_readNomination_139 : decode cX3_readNomination 139 = .ok (.return_, 1) := by decide +kernel
theorem dX3_readPrice_0 : decode cX3_readPrice 0 = .ok (.aload_n 0, 1) := by decide +kernel
theorem dX3_readPrice_1 : decode cX3_readPrice 1 = .ok (.iconst 0, 1) := by decide +kernel
theorem dX3_readPrice_2 : decode cX3_readPrice 2 = .ok (.sipush 999, 3) := by decide +kernel
theorem dX3_readPrice_5 : decode cX3_readPrice 5 = .ok (.invokevirtual 100, 3) := by decide +kernel
theorem dX3_readPrice_8 : decode cX3_readPrice 8 = .ok (.istore_n 1, 1) := by decide +kernel
theorem dX3_readPrice_9 : decode cX3_readPrice 9 = .ok (.aload_n 0, 1) := by decide +kernel
theorem dX3_readPrice_10 : decode cX3_readPrice 10 = .ok (.iconst 0, 1) := by decide +kernel
theorem dX3_readPrice_11 : decode cX3_readPrice 11 = .ok (.bipush 100, 2) := by decide +kernel
theorem dX3_readPrice_13 : decode cX3_readPrice 13 = .ok (.invokevirtual 100, 3) := by decide +kernel
theorem dX3_readPrice_16 : decode cX3_readPrice 16 = .ok (.istore_n 2, 1) := by decide +kernel
theorem dX3_readPrice_17 : decode cX3_readPrice 17 = .ok (.aload_n 0, 1) := by decide +kernel
theorem dX3_readPrice_18 : decode cX3_readPrice 18 = .ok (.getfield 35, 3) := by decide +kernel
theorem dX3_readPrice_21 : decode cX3_readPrice 21 = .ok (.ifCond .ne 19, 3) := by decide +kernel
theorem dX3_readPrice_24 : decode cX3_readPrice 24 = .ok (.aload_n 0, 1) := by decide +kernel
theorem dX3_readPrice_25 : decode cX3_readPrice 25 = .ok (.getfield 21, 3) := by decide +kernel
theorem dX3_readPrice_28 : decode cX3_readPrice 28 = .ok (.iload_n 1, 1) := by decide +kernel
theorem dX3_readPrice_29 : decode cX3_readPrice 29 = .ok (.putfield 177, 3) := by decide +kernel
theorem dX3_readPrice_32 : decode cX3_readPrice 32 = .ok (.aload_n 0, 1) := by decide +kernel
theorem dX3_readPrice_33 : decode cX3_readPrice 33 = .ok (.getfield 21, 3) := by decide +kernel
theorem dX3_readPrice_36 : decode cX3_readPrice 36 = .ok (.iload_n 2, 1) := by decide +kernel
theorem dX3_readPrice_37 : decode cX3_readPrice 37 = .ok (.putfield 179, 3) := by decide +kernel
theorem dX3_readPrice_40 : decode cX3_readPrice 40 = .ok (.return_, 1) := by decide +kernel
theorem dX3_failIfFull_0 : decode cX3_failIfFull 0 = .ok (.aload_n 1, 1) := by decide +kernel
theorem dX3_failIfFull_1 : decode cX3_failIfFull 1 = .ok (.invokevirtual 182, 3) := by decide +kernel
theorem dX3_failIfFull_4 : decode cX3_failIfFull 4 = .ok (.ifCond .eq 12, 3) := by decide +kernel
theorem dX3_failIfFull_7 : decode cX3_failIfFull 7 = .ok (.aload_n 0, 1) := by decide +kernel
theorem dX3_failIfFull_8 : decode cX3_failIfFull 8 = .ok (.aload_n 0, 1) := by decide +kernel
theorem dX3_failIfFull_9 : decode cX3_failIfFull 9 = .ok (.getfield 29, 3) := by decide +kernel
theorem dX3_failIfFull_12 : decode cX3_failIfFull 12 = .ok (.iconst 3, 1) := by decide +kernel
theorem dX3_failIfFull_13 : decode cX3_failIfFull 13 = .ok (.invokevirtual 72, 3) := by decide +kernel
theorem dX3_failIfFull_16 : decode cX3_failIfFull 16 = .ok (.return_, 1) := by decide +kernel
theorem dX4_init_0 : decode cX4_init 0 = .ok (.aload_n 0, 1) := by decide +kernel
theorem dX4_init_1 : decode cX4_init 1 = .ok (.invokespecial 5, 3) := by decide +kernel
theorem dX4_init_4 : decode cX4_init 4 = .ok (.aload_n 0, 1) := by decide +kernel
theorem dX4_init_5 : decode cX4_init 5 = .ok (.bipush 16, 2) := by decide +kernel
theorem dX4_init_7 : decode cX4_init 7 = .ok (.newarray .int, 2) := by decide +kernel
theorem dX4_init_9 : decode cX4_init 9 = .ok (.putfield 11, 3) := by decide +kernel
theorem dX4_init_12 : decode cX4_init 12 = .ok (.aload_n 0, 1) := by decide +kernel
theorem dX4_init_13 : decode cX4_init 13 = .ok (.bipush 16, 2) := by decide +kernel
theorem dX4_init_15 : decode cX4_init 15 = .ok (.newarray .int, 2) := by decide +kernel
theorem dX4_init_17 : decode cX4_init 17 = .ok (.putfield 15, 3) := by decide +kernel
theorem dX4_init_20 : decode cX4_init 20 = .ok (.aload_n 0, 1) := by decide +kernel
theorem dX4_init_21 : decode cX4_init 21 = .ok (.bipush 16, 2) := by decide +kernel
theorem dX4_init_23 : decode cX4_init 23 = .ok (.newarray .int, 2) := by decide +kernel
theorem dX4_init_25 : decode cX4_init 25 = .ok (.putfield 18, 3) := by decide +kernel
theorem dX4_init_28 : decode cX4_init 28 = .ok (.aload_n 0, 1) := by decide +kernel
theorem dX4_init_29 : decode cX4_init 29 = .ok (.bipush 46, 2) := by decide +kernel
theorem dX4_init_31 : decode cX4_init 31 = .ok (.newarray .int, 2) := by decide +kernel
theorem dX4_init_33 : decode cX4_init 33 = .ok (.putfield 21, 3) := by decide +kernel
theorem dX4_init_36 : decode cX4_init 36 = .ok (.aload_n 0, 1) := by decide +kernel
theorem dX4_init_37 : decode cX4_init 37 = .ok (.bipush 46, 2) := by decide +kernel
theorem dX4_init_39 : decode cX4_init 39 = .ok (.newarray .int, 2) := by decide +kernel
theorem dX4_init_41 : decode cX4_init 41 = .ok (.putfield 24, 3) := by decide +kernel
theorem dX4_init_44 : decode cX4_init 44 = .ok (.aload_n 0, 1) := by decide +kernel
theorem dX4_init_45 : decode cX4_init 45 = .ok (.bipush 16, 2) := by decide +kernel
theorem dX4_init_47 : decode cX4_init 47 = .ok (.newarray .int, 2) := by decide +kernel
theorem dX4_init_49 : decode cX4_init 49 = .ok (.putfield 27, 3) := by decide +kernel
theorem dX4_init_52 : decode cX4_init 52 = .ok (.aload_n 0, 1) := by decide +kernel
theorem dX4_init_53 : decode cX4_init 53 = .ok (.bipush 16, 2) := by decide +kernel
theorem dX4_init_55 : decode cX4_init 55 = .ok (.newarray .int, 2) := by decide +kernel
theorem dX4_init_57 : decode cX4_init 57 = .ok (.putfield 30, 3) := by decide +kernel
theorem dX4_init_60 : decode cX4_init 60 = .ok (.aload_n 0, 1) := by decide +kernel
theorem dX4_init_61 : decode cX4_init 61 = .ok (.bipush 16, 2) := by decide +kernel
theorem dX4_init_63 : decode cX4_init 63 = .ok (.newarray .int, 2) := by decide +kernel
theorem dX4_init_65 : decode cX4_init 65 = .ok (.putfield 33, 3) := by decide +kernel
theorem dX4_init_68 : decode cX4_init 68 = .ok (.aload_n 0, 1) := by decide +kernel
theorem dX4_init_69 : decode cX4_init 69 = .ok (.iconst 0, 1) := by decide +kernel
theorem dX4_init_70 : decode cX4_init 70 = .ok (.putfield 36, 3) := by decide +kernel
theorem dX4_init_73 : decode cX4_init 73 = .ok (.return_, 1) := by decide +kernel
theorem dX4_make_0 : decode cX4_make 0 = .ok (.aload_n 0, 1) := by decide +kernel
theorem dX4_make_1 : decode cX4_make 1 = .ok (.aload_n 1, 1) := by decide +kernel
theorem dX4_make_2 : decode cX4_make 2 = .ok (.invokevirtual 40, 3) := by decide +kernel
theorem dX4_make_5 : decode cX4_make 5 = .ok (.aload_n 0, 1) := by decide +kernel
theorem dX4_make_6 : decode cX4_make 6 = .ok (.aload_n 1, 1) := by decide +kernel
theorem dX4_make_7 : decode cX4_make 7 = .ok (.invokevirtual 44, 3) := by decide +kernel
theorem dX4_make_10 : decode cX4_make 10 = .ok (.iconst 0, 1) := by decide +kernel
theorem dX4_make_11 : decode cX4_make 11 = .ok (.istore_n 2, 1) := by decide +kernel
theorem dX4_make_12 : decode cX4_make 12 = .ok (.iload_n 2, 1) := by decide +kernel
theorem dX4_make_13 : decode cX4_make 13 = .ok (.aload_n 0, 1) := by decide +kernel
theorem dX4_make_14 : decode cX4_make 14 = .ok (.getfield 36, 3) := by decide +kernel
theorem dX4_make_17 : decode cX4_make 17 = .ok (.if_icmp .ge 21, 3) := by decide +kernel
theorem dX4_make_20 : decode cX4_make 20 = .ok (.aload_n 0, 1) := by decide +kernel
theorem dX4_make_21 : decode cX4_make 21 = .ok (.getfield 30, 3) := by decide +kernel
theorem dX4_make_24 : decode cX4_make 24 = .ok (.iload_n 2, 1) := by decide +kernel
theorem dX4_make_25 : decode cX4_make 25 = .ok (.aload_n 0, 1) := by decide +kernel
theorem dX4_make_26 : decode cX4_make 26 = .ok (.getfield 27, 3) := by decide +kernel
theorem dX4_make_29 : decode cX4_make 29 = .ok (.iload_n 2, 1) := by decide +kernel
theorem dX4_make_30 : decode cX4_make 30 = .ok (.iaload, 1) := by decide +kernel
theorem dX4_make_31 : decode cX4_make 31 = .ok (.iastore, 1) := by decide +kernel
theorem dX4_make_32 : decode cX4_make 32 = .ok (.iinc 2 1, 3) := by decide +kernel
theorem dX4_make_35 : decode cX4_make 35 = .ok (.goto (-23), 3) := by decide +kernel
theorem dX4_make_38 : decode cX4_make 38 = .ok (.aload_n 0, 1) := by decide +kernel
theorem dX4_make_39 : decode cX4_make 39 = .ok (.invokevirtual 47, 3) := by decide +kernel
theorem dX4_make_42 : decode cX4_make 42 = .ok (.aload_n 0, 1) := by decide +kernel
theorem dX4_make_43 : decode cX4_make 43 = .ok (.getfield 11, 3) := by decide +kernel
theorem dX4_make_46 : decode cX4_make 46 = .ok (.iconst 0, 1) := by decide +kernel
theorem dX4_make_47 : decode cX4_make 47 = .ok (.aload_n 0, 1) := by decide +kernel
theorem dX4_make_48 : decode cX4_make 48 = .ok (.getfield 15, 3) := by decide +kernel
theorem dX4_make_51 : decode cX4_make 51 = .ok (.iconst 0, 1) := by decide +kernel
theorem dX4_make_52 : decode cX4_make 52 = .ok (.bipush 16, 2) := by decide +kernel
theorem dX4_make_54 : decode cX4_make 54 = .ok (.invokestatic 50, 3) := by decide +kernel
theorem dX4_make_57 : decode cX4_make 57 = .ok (.iconst 1, 1) := by decide +kernel
theorem dX4_make_58 : decode cX4_make 58 = .ok (.istore_n 2, 1) := by decide +kernel
theorem dX4_make_59 : decode cX4_make 59 = .ok (.iload_n 2, 1) := by decide +kernel
theorem dX4_make_60 : decode cX4_make 60 = .ok (.bipush 9, 2) := by decide +kernel
theorem dX4_make_62 : decode cX4_make 62 = .ok (.if_icmp .gt 22, 3) := by decide +kernel
theorem dX4_make_65 : decode cX4_make 65 = .ok (.aload_n 0, 1) := by decide +kernel
theorem dX4_make_66 : decode cX4_make 66 = .ok (.aload_n 1, 1) := by decide +kernel
theorem dX4_make_67 : decode cX4_make 67 = .ok (.iload_n 2, 1) := by decide +kernel
theorem dX4_make_68 : decode cX4_make 68 = .ok (.invokevirtual 56, 3) := by decide +kernel
theorem dX4_make_71 : decode cX4_make 71 = .ok (.ifCond .eq 7, 3) := by decide +kernel
theorem dX4_make_74 : decode cX4_make 74 = .ok (.aload_n 0, 1) := by decide +kernel
theorem dX4_make_75 : decode cX4_make 75 = .ok (.invokevirtual 47, 3) := by decide +kernel
theorem dX4_make_78 : decode cX4_make 78 = .ok (.iinc 2 1, 3) := by decide +kernel
theorem dX4_make_81 : decode cX4_make 81 = .ok (.goto (-22), 3) := by decide +kernel
theorem dX4_make_84 : decode cX4_make 84 = .ok (.return_, 1) := by decide +kernel
theorem dX4_makeOfOneClass_0 : decode cX4_makeOfOneClass 0 = .ok (.aload_n 0, 1) := by decide +kernel
theorem dX4_makeOfOneClass_1 : decode cX4_makeOfOneClass 1 = .ok (.aload_n 1, 1) := by decide +kernel
theorem dX4_makeOfOneClass_2 : decode cX4_makeOfOneClass 2 = .ok (.invokevirtual 40, 3) := by decide +kernel
theorem dX4_makeOfOneClass_5 : decode cX4_makeOfOneClass 5 = .ok (.iconst 0, 1) := by decide +kernel
theorem dX4_makeOfOneClass_6 : decode cX4_makeOfOneClass 6 = .ok (.istore_n 2, 1) := by decide +kernel
theorem dX4_makeOfOneClass_7 : decode cX4_makeOfOneClass 7 = .ok (.iload_n 2, 1) := by decide +kernel
theorem dX4_makeOfOneClass_8 : decode cX4_makeOfOneClass 8 = .ok (.aload_n 0, 1) := by decide +kernel
theorem dX4_makeOfOneClass_9 : decode cX4_makeOfOneClass 9 = .ok (.getfield 36, 3) := by decide +kernel
theorem dX4_makeOfOneClass_12 : decode cX4_makeOfOneClass 12 = .ok (.if_icmp .ge 24, 3) := by decide +kernel
theorem dX4_makeOfOneClass_15 : decode cX4_makeOfOneClass 15 = .ok (.aload_n 0, 1) := by decide +kernel
theorem dX4_makeOfOneClass_16 : decode cX4_makeOfOneClass 16 = .ok (.getfield 30, 3) := by decide +kernel
theorem dX4_makeOfOneClass_19 : decode cX4_makeOfOneClass 19 = .ok (.iload_n 2, 1) := by decide +kernel
theorem dX4_makeOfOneClass_20 : decode cX4_makeOfOneClass 20 = .ok (.aload_n 1, 1) := by decide +kernel
theorem dX4_makeOfOneClass_21 : decode cX4_makeOfOneClass 21 = .ok (.getfield 60, 3) := by decide +kernel
theorem dX4_makeOfOneClass_24 : decode cX4_makeOfOneClass 24 = .ok (.iload_n 2, 1) := by decide +kernel
theorem dX4_makeOfOneClass_25 : decode cX4_makeOfOneClass 25 = .ok (.iconst 3, 1) := by decide +kernel
theorem dX4_makeOfOneClass_26 : decode cX4_makeOfOneClass 26 = .ok (.invokevirtual 66, 3) := by decide +kernel
theorem dX4_makeOfOneClass_29 : decode cX4_makeOfOneClass 29 = .ok (.iastore, 1) := by decide +kernel
theorem dX4_makeOfOneClass_30 : decode cX4_makeOfOneClass 30 = .ok (.iinc 2 1, 3) := by decide +kernel
theorem dX4_makeOfOneClass_33 : decode cX4_makeOfOneClass 33 = .ok (.goto (-26), 3) := by decide +kernel
theorem dX4_makeOfOneClass_36 : decode cX4_makeOfOneClass 36 = .ok (.aload_n 0, 1) := by decide +kernel
theorem dX4_makeOfOneClass_37 : decode cX4_makeOfOneClass 37 = .ok (.invokevirtual 47, 3) := by decide +kernel
theorem dX4_makeOfOneClass_40 : decode cX4_makeOfOneClass 40 = .ok (.return_, 1) := by decide +kernel
theorem dX4_start_0 : decode cX4_start 0 = .ok (.aload_n 0, 1) := by decide +kernel
theorem dX4_start_1 : decode cX4_start 1 = .ok (.aload_n 1, 1) := by decide +kernel
theorem dX4_start_2 : decode cX4_start 2 = .ok (.getfield 60, 3) := by decide +kernel
theorem dX4_start_5 : decode cX4_start 5 = .ok (.getfield 72, 3) := by decide +kernel
theorem dX4_start_8 : decode cX4_start 8 = .ok (.putfield 36, 3) := by decide +kernel
theorem dX4_start_11 : decode cX4_start 11 = .ok (.aload_n 0, 1) := by decide +kernel
theorem dX4_start_12 : decode cX4_start 12 = .ok (.getfield 11, 3) := by decide +kernel
theorem dX4_start_15 : decode cX4_start 15 = .ok (.iconst 0, 1) := by decide +kernel
theorem dX4_start_16 : decode cX4_start 16 = .ok (.invokestatic 75, 3) := by decide +kernel
theorem dX4_start_19 : decode cX4_start 19 = .ok (.aload_n 0, 1) := by decide +kernel
theorem dX4_start_20 : decode cX4_start 20 = .ok (.getfield 15, 3) := by decide +kernel
theorem dX4_start_23 : decode cX4_start 23 = .ok (.iconst 0, 1) := by decide +kernel
theorem dX4_start_24 : decode cX4_start 24 = .ok (.invokestatic 75, 3) := by decide +kernel
theorem dX4_start_27 : decode cX4_start 27 = .ok (.aload_n 0, 1) := by decide +kernel
theorem dX4_start_28 : decode cX4_start 28 = .ok (.getfield 18, 3) := by decide +kernel
theorem dX4_start_31 : decode cX4_start 31 = .ok (.bipush (-2), 2) := by decide +kernel
theorem dX4_start_33 : decode cX4_start 33 = .ok (.invokestatic 75, 3) := by decide +kernel
theorem dX4_start_36 : decode cX4_start 36 = .ok (.aload_n 0, 1) := by decide +kernel
theorem dX4_start_37 : decode cX4_start 37 = .ok (.getfield 21, 3) := by decide +kernel
theorem dX4_start_40 : decode cX4_start 40 = .ok (.iconst 0, 1) := by decide +kernel
theorem dX4_start_41 : decode cX4_start 41 = .ok (.invokestatic 75, 3) := by decide +kernel
theorem dX4_start_44 : decode cX4_start 44 = .ok (.aload_n 0, 1) := by decide +kernel
theorem dX4_start_45 : decode cX4_start 45 = .ok (.getfield 24, 3) := by decide +kernel
theorem dX4_start_48 : decode cX4_start 48 = .ok (.iconst 0, 1) := by decide +kernel
theorem dX4_start_49 : decode cX4_start 49 = .ok (.invokestatic 75, 3) := by decide +kernel
theorem dX4_start_52 : decode cX4_start 52 = .ok (.iconst 0, 1) := by decide +kernel
theorem dX4_start_53 : decode cX4_start 53 = .ok (.istore_n 2, 1) := by decide +kernel
theorem dX4_start_54 : decode cX4_start 54 = .ok (.iload_n 2, 1) := by decide +kernel
theorem dX4_start_55 : decode cX4_start 55 = .ok (.aload_n 1, 1) := by decide +kernel
theorem dX4_start_56 : decode cX4_start 56 = .ok (.getfield 81, 3) := by decide +kernel
theorem dX4_start_59 : decode cX4_start 59 = .ok (.getfield 72, 3) := by decide +kernel
theorem dX4_start_62 : decode cX4_start 62 = .ok (.if_icmp .ge 41, 3) := by decide +kernel
theorem dX4_start_65 : decode cX4_start 65 = .ok (.aload_n 1, 1) := by decide +kernel
theorem dX4_start_66 : decode cX4_start 66 = .ok (.iload_n 2, 1) := by decide +kernel
theorem dX4_start_67 : decode cX4_start 67 = .ok (.invokevirtual 84, 3) := by decide +kernel
theorem dX4_start_70 : decode cX4_start 70 = .ok (.ifCond .eq 7, 3) := by decide +kernel
theorem dX4_start_73 : decode cX4_start 73 = .ok (.iconst 0, 1) := by decide +kernel
theorem dX4_start_74 : decode cX4_start 74 = .ok (.goto 5, 3) := by decide +kernel
theorem dX4_start_77 : decode cX4_start 77 = .ok (.bipush 24, 2) := by decide +kernel
theorem dX4_start_79 : decode cX4_start 79 = .ok (.istore_n 3, 1) := by decide +kernel
theorem dX4_start_80 : decode cX4_start 80 = .ok (.aload_n 0, 1) := by decide +kernel
theorem dX4_start_81 : decode cX4_start 81 = .ok (.getfield 21, 3) := by decide +kernel
theorem dX4_start_84 : decode cX4_start 84 = .ok (.iload_n 3, 1) := by decide +kernel
theorem dX4_start_85 : decode cX4_start 85 = .ok (.iload_n 2, 1) := by decide +kernel
theorem dX4_start_86 : decode cX4_start 86 = .ok (.iadd, 1) := by decide +kernel
theorem dX4_start_87 : decode cX4_start 87 = .ok (.aload_n 1, 1) := by decide +kernel
theorem dX4_start_88 : decode cX4_start 88 = .ok (.getfield 81, 3) := by decide +kernel
theorem dX4_start_91 : decode cX4_start 91 = .ok (.iload_n 2, 1) := by decide +kernel
theorem dX4_start_92 : decode cX4_start 92 = .ok (.iconst 2, 1) := by decide +kernel
theorem dX4_start_93 : decode cX4_start 93 = .ok (.invokevirtual 66, 3) := by decide +kernel
theorem dX4_start_96 : decode cX4_start 96 = .ok (.iastore, 1) := by decide +kernel
theorem dX4_start_97 : decode cX4_start 97 = .ok (.iinc 2 1, 3) := by decide +kernel
theorem dX4_start_100 : decode cX4_start 100 = .ok (.goto (-46), 3) := by decide +kernel
theorem dX4_start_103 : decode cX4_start 103 = .ok (.iconst 0, 1) := by decide +kernel
theorem dX4_start_104 : decode cX4_start 104 = .ok (.istore_n 2, 1) := by decide +kernel
theorem dX4_start_105 : decode cX4_start 105 = .ok (.iload_n 2, 1) := by decide +kernel
theorem dX4_start_106 : decode cX4_start 106 = .ok (.aload_n 1, 1) := by decide +kernel
theorem dX4_start_107 : decode cX4_start 107 = .ok (.getfield 88, 3) := by decide +kernel
theorem dX4_start_110 : decode cX4_start 110 = .ok (.getfield 72, 3) := by decide +kernel
theorem dX4_start_113 : decode cX4_start 113 = .ok (.if_icmp .ge 45, 3) := by decide +kernel
theorem dX4_start_116 : decode cX4_start 116 = .ok (.aload_n 0, 1) := by decide +kernel
theorem dX4_start_117 : decode cX4_start 117 = .ok (.getfield 21, 3) := by decide +kernel
theorem dX4_start_120 : decode cX4_start 120 = .ok (.bipush 10, 2) := by decide +kernel
theorem dX4_start_122 : decode cX4_start 122 = .ok (.iload_n 2, 1) := by decide +kernel
theorem dX4_start_123 : decode cX4_start 123 = .ok (.iadd, 1) := by decide +kernel
theorem dX4_start_124 : decode cX4_start 124 = .ok (.aload_n 1, 1) := by decide +kernel
theorem dX4_start_125 : decode cX4_start 125 = .ok (.getfield 88, 3) := by decide +kernel
theorem dX4_start_128 : decode cX4_start 128 = .ok (.iload_n 2, 1) := by decide +kernel
theorem dX4_start_129 : decode cX4_start 129 = .ok (.iconst 0, 1) := by decide +kernel
theorem dX4_start_130 : decode cX4_start 130 = .ok (.invokevirtual 66, 3) := by decide +kernel
theorem dX4_start_133 : decode cX4_start 133 = .ok (.iastore, 1) := by decide +kernel
theorem dX4_start_134 : decode cX4_start 134 = .ok (.aload_n 0, 1) := by decide +kernel
theorem dX4_start_135 : decode cX4_start 135 = .ok (.getfield 21, 3) := by decide +kernel
theorem dX4_start_138 : decode cX4_start 138 = .ok (.bipush 17, 2) := by decide +kernel
theorem dX4_start_140 : decode cX4_start 140 = .ok (.iload_n 2, 1) := by decide +kernel
theorem dX4_start_141 : decode cX4_start 141 = .ok (.iadd, 1) := by decide +kernel
theorem dX4_start_142 : decode cX4_start 142 = .ok (.aload_n 1, 1) := by decide +kernel
theorem dX4_start_143 : decode cX4_start 143 = .ok (.getfield 88, 3) := by decide +kernel
theorem dX4_start_146 : decode cX4_start 146 = .ok (.iload_n 2, 1) := by decide +kernel
theorem dX4_start_147 : decode cX4_start 147 = .ok (.iconst 0, 1) := by decide +kernel
theorem dX4_start_148 : decode cX4_start 148 = .ok (.invokevirtual 66, 3) := by decide +kernel
theorem dX4_start_151 : decode cX4_start 151 = .ok (.iastore, 1) := by decide +kernel
theorem dX4_start_152 : decode cX4_start 152 = .ok (.iinc 2 1, 3) := by decide +kernel
theorem dX4_start_155 : decode cX4_start 155 = .ok (.goto (-50), 3) := by decide +kernel
theorem dX4_start_158 : decode cX4_start 158 = .ok (.iconst 0, 1) := by decide +kernel
theorem dX4_start_159 : decode cX4_start 159 = .ok (.istore_n 2, 1) := by decide +kernel
theorem dX4_start_160 : decode cX4_start 160 = .ok (.iload_n 2, 1) := by decide +kernel
theorem dX4_start_161 : decode cX4_start 161 = .ok (.aload_n 1, 1) := by decide +kernel
theorem dX4_start_162 : decode cX4_start 162 = .ok (.getfield 91, 3) := by decide +kernel
theorem dX4_start_165 : decode cX4_start 165 = .ok (.getfield 72, 3) := by decide +kernel
theorem dX4_start_168 : decode cX4_start 168 = .ok (.if_icmp .ge 62, 3) := by decide +kernel
theorem dX4_start_171 : decode cX4_start 171 = .ok (.aload_n 1, 1) := by decide +kernel
theorem dX4_start_172 : decode cX4_start 172 = .ok (.getfield 91, 3) := by decide +kernel
theorem dX4_start_175 : decode cX4_start 175 = .ok (.iload_n 2, 1) := by decide +kernel
theorem dX4_start_176 : decode cX4_start 176 = .ok (.iconst 3, 1) := by decide +kernel
theorem dX4_start_177 : decode cX4_start 177 = .ok (.invokevirtual 66, 3) := by decide +kernel
theorem dX4_start_180 : decode cX4_start 180 = .ok (.istore_n 3, 1) := by decide +kernel
theorem dX4_start_181 : decode cX4_start 181 = .ok (.aload_n 1, 1) := by decide +kernel
theorem dX4_start_182 : decode cX4_start 182 = .ok (.getfield 91, 3) := by decide +kernel
theorem dX4_start_185 : decode cX4_start 185 = .ok (.iload_n 2, 1) := by decide +kernel
theorem dX4_start_186 : decode cX4_start 186 = .ok (.iconst 5, 1) := by decide +kernel
theorem dX4_start_187 : decode cX4_start 187 = .ok (.invokevirtual 66, 3) := by decide +kernel
theorem dX4_start_190 : decode cX4_start 190 = .ok (.istore 4, 2) := by decide +kernel
theorem dX4_start_192 : decode cX4_start 192 = .ok (.aload_n 0, 1) := by decide +kernel
theorem dX4_start_193 : decode cX4_start 193 = .ok (.getfield 21, 3) := by decide +kernel
theorem dX4_start_196 : decode cX4_start 196 = .ok (.bipush 34, 2) := by decide +kernel
theorem dX4_start_198 : decode cX4_start 198 = .ok (.iconst 2, 1) := by decide +kernel
theorem dX4_start_199 : decode cX4_start 199 = .ok (.iload_n 2, 1) := by decide +kernel
theorem dX4_start_200 : decode cX4_start 200 = .ok (.imul, 1) := by decide +kernel
theorem dX4_start_201 : decode cX4_start 201 = .ok (.iadd, 1) := by decide +kernel
theorem dX4_start_202 : decode cX4_start 202 = .ok (.iload_n 3, 1) := by decide +kernel
theorem dX4_start_203 : decode cX4_start 203 = .ok (.iload 4, 2) := by decide +kernel
theorem dX4_start_205 : decode cX4_start 205 = .ok (.isub, 1) := by decide +kernel
theorem dX4_start_206 : decode cX4_start 206 = .ok (.iastore, 1) := by decide +kernel
theorem dX4_start_207 : decode cX4_start 207 = .ok (.aload_n 0, 1) := by decide +kernel
theorem dX4_start_208 : decode cX4_start 208 = .ok (.getfield 21, 3) := by decide +kernel
theorem dX4_start_211 : decode cX4_start 211 = .ok (.bipush 34, 2) := by decide +kernel
theorem dX4_start_213 : decode cX4_start 213 = .ok (.iconst 2, 1) := by decide +kernel
theorem dX4_start_214 : decode cX4_start 214 = .ok (.iload_n 2, 1) := by decide +kernel
theorem dX4_start_215 : decode cX4_start 215 = .ok (.imul, 1) := by decide +kernel
theorem dX4_start_216 : decode cX4_start 216 = .ok (.iadd, 1) := by decide +kernel
theorem dX4_start_217 : decode cX4_start 217 = .ok (.iconst 1, 1) := by decide +kernel
theorem dX4_start_218 : decode cX4_start 218 = .ok (.iadd, 1) := by decide +kernel
theorem dX4_start_219 : decode cX4_start 219 = .ok (.iload_n 3, 1) := by decide +kernel
theorem dX4_start_220 : decode cX4_start 220 = .ok (.iload 4, 2) := by decide +kernel
theorem dX4_start_222 : decode cX4_start 222 = .ok (.iadd, 1) := by decide +kernel
theorem dX4_start_223 : decode cX4_start 223 = .ok (.iastore, 1) := by decide +kernel
theorem dX4_start_224 : decode cX4_start 224 = .ok (.iinc 2 1, 3) := by decide +kernel
theorem dX4_start_227 : decode cX4_start 227 = .ok (.goto (-67), 3) := by decide +kernel
theorem dX4_start_230 : decode cX4_start 230 = .ok (.iconst 0, 1) := by decide +kernel
theorem dX4_start_231 : decode cX4_start 231 = .ok (.istore_n 2, 1) := by decide +kernel
theorem dX4_start_232 : decode cX4_start 232 = .ok (.iload_n 2, 1) := by decide +kernel
theorem dX4_start_233 : decode cX4_start 233 = .ok (.aload_n 0, 1) := by decide +kernel
theorem dX4_start_234 : decode cX4_start 234 = .ok (.getfield 36, 3) := by decide +kernel
theorem dX4_start_237 : decode cX4_start 237 = .ok (.if_icmp .ge 15, 3) := by decide +kernel
theorem dX4_start_240 : decode cX4_start 240 = .ok (.aload_n 0, 1) := by decide +kernel
theorem dX4_start_241 : decode cX4_start 241 = .ok (.aload_n 1, 1) := by decide +kernel
theorem dX4_start_242 : decode cX4_start 242 = .ok (.iload_n 2, 1) := by decide +kernel
theorem dX4_start_243 : decode cX4_start 243 = .ok (.invokevirtual 94, 3) := by decide +kernel
theorem dX4_start_246 : decode cX4_start 246 = .ok (.iinc 2 1, 3) := by decide +kernel
theorem dX4_start_249 : decode cX4_start 249 = .ok (.goto (-17), 3) := by decide +kernel
theorem dX4_start_252 : decode cX4_start 252 = .ok (.return_, 1) := by decide +kernel
theorem dX4_markWay_0 : decode cX4_markWay 0 = .ok (.iconst 1, 1) := by decide +kernel
theorem dX4_markWay_1 : decode cX4_markWay 1 = .ok (.iload_n 2, 1) := by decide +kernel
theorem dX4_markWay_2 : decode cX4_markWay 2 = .ok (.ishl, 1) := by decide +kernel
theorem dX4_markWay_3 : decode cX4_markWay 3 = .ok (.istore_n 3, 1) := by decide +kernel
theorem dX4_markWay_4 : decode cX4_markWay 4 = .ok (.aload_n 1, 1) := by decide +kernel
theorem dX4_markWay_5 : decode cX4_markWay 5 = .ok (.getfield 60, 3) := by decide +kernel
theorem dX4_markWay_8 : decode cX4_markWay 8 = .ok (.iload_n 2, 1) := by decide +kernel
theorem dX4_markWay_9 : decode cX4_markWay 9 = .ok (.iconst 1, 1) := by decide +kernel
theorem dX4_markWay_10 : decode cX4_markWay 10 = .ok (.invokevirtual 66, 3) := by decide +kernel
theorem dX4_markWay_13 : decode cX4_markWay 13 = .ok (.istore 4, 2) := by decide +kernel
theorem dX4_markWay_15 : decode cX4_markWay 15 = .ok (.aload_n 1, 1) := by decide +kernel
theorem dX4_markWay_16 : decode cX4_markWay 16 = .ok (.getfield 60, 3) := by decide +kernel
theorem dX4_markWay_19 : decode cX4_markWay 19 = .ok (.iload_n 2, 1) := by decide +kernel
theorem dX4_markWay_20 : decode cX4_markWay 20 = .ok (.iconst 2, 1) := by decide +kernel
theorem dX4_markWay_21 : decode cX4_markWay 21 = .ok (.invokevirtual 66, 3) := by decide +kernel
theorem dX4_markWay_24 : decode cX4_markWay 24 = .ok (.istore 5, 2) := by decide +kernel
theorem dX4_markWay_26 : decode cX4_markWay 26 = .ok (.bipush 34, 2) := by decide +kernel
theorem dX4_markWay_28 : decode cX4_markWay 28 = .ok (.iconst 2, 1) := by decide +kernel
theorem dX4_markWay_29 : decode cX4_markWay 29 = .ok (.aload_n 1, 1) := by decide +kernel
theorem dX4_markWay_30 : decode cX4_markWay 30 = .ok (.iload_n 2, 1) := by decide +kernel
theorem dX4_markWay_31 : decode cX4_markWay 31 = .ok (.invokevirtual 98, 3) := by decide +kernel
theorem dX4_markWay_34 : decode cX4_markWay 34 = .ok (.imul, 1) := by decide +kernel
theorem dX4_markWay_35 : decode cX4_markWay 35 = .ok (.iadd, 1) := by decide +kernel
theorem dX4_markWay_36 : decode cX4_markWay 36 = .ok (.istore 6, 2) := by decide +kernel
theorem dX4_markWay_38 : decode cX4_markWay 38 = .ok (.iload 5, 2) := by decide +kernel
theorem dX4_markWay_40 : decode cX4_markWay 40 = .ok (.iconst (-1), 1) := by decide +kernel
theorem dX4_markWay_41 : decode cX4_markWay 41 = .ok (.if_icmp .ne 22, 3) := by decide +kernel
theorem dX4_markWay_44 : decode cX4_markWay 44 = .ok (.aload_n 0, 1) := by decide +kernel
theorem dX4_markWay_45 : decode cX4_markWay 45 = .ok (.iconst 0, 1) := by decide +kernel
theorem dX4_markWay_46 : decode cX4_markWay 46 = .ok (.iload 4, 2) := by decide +kernel
theorem dX4_markWay_48 : decode cX4_markWay 48 = .ok (.iadd, 1) := by decide +kernel
theorem dX4_markWay_49 : decode cX4_markWay 49 = .ok (.iload_n 3, 1) := by decide +kernel
theorem dX4_markWay_50 : decode cX4_markWay 50 = .ok (.invokevirtual 102, 3) := by decide +kernel
theorem dX4_markWay_53 : decode cX4_markWay 53 = .ok (.aload_n 0, 1) := by decide +kernel
theorem dX4_markWay_54 : decode cX4_markWay 54 = .ok (.iload 6, 2) := by decide +kernel
theorem dX4_markWay_56 : decode cX4_markWay 56 = .ok (.iload_n 3, 1) := by decide +kernel
theorem dX4_markWay_57 : decode cX4_markWay 57 = .ok (.invokevirtual 102, 3) := by decide +kernel
theorem dX4_markWay_60 : decode cX4_markWay 60 = .ok (.goto 67, 3) := by decide +kernel
theorem dX4_markWay_63 : decode cX4_markWay 63 = .ok (.iload 4, 2) := by decide +kernel
theorem dX4_markWay_65 : decode cX4_markWay 65 = .ok (.iconst (-1), 1) := by decide +kernel
theorem dX4_markWay_66 : decode cX4_markWay 66 = .ok (.if_icmp .ne 25, 3) := by decide +kernel
theorem dX4_markWay_69 : decode cX4_markWay 69 = .ok (.aload_n 0, 1) := by decide +kernel
theorem dX4_markWay_70 : decode cX4_markWay 70 = .ok (.bipush 24, 2) := by decide +kernel
theorem dX4_markWay_72 : decode cX4_markWay 72 = .ok (.iload 5, 2) := by decide +kernel
theorem dX4_markWay_74 : decode cX4_markWay 74 = .ok (.iadd, 1) := by decide +kernel
theorem dX4_markWay_75 : decode cX4_markWay 75 = .ok (.iload_n 3, 1) := by decide +kernel
theorem dX4_markWay_76 : decode cX4_markWay 76 = .ok (.invokevirtual 102, 3) := by decide +kernel
theorem dX4_markWay_79 : decode cX4_markWay 79 = .ok (.aload_n 0, 1) := by decide +kernel
theorem dX4_markWay_80 : decode cX4_markWay 80 = .ok (.iload 6, 2) := by decide +kernel
theorem dX4_markWay_82 : decode cX4_markWay 82 = .ok (.iconst 1, 1) := by decide +kernel
theorem dX4_markWay_83 : decode cX4_markWay 83 = .ok (.iadd, 1) := by decide +kernel
theorem dX4_markWay_84 : decode cX4_markWay 84 = .ok (.iload_n 3, 1) := by decide +kernel
theorem dX4_markWay_85 : decode cX4_markWay 85 = .ok (.invokevirtual 102, 3) := by decide +kernel
theorem dX4_markWay_88 : decode cX4_markWay 88 = .ok (.goto 39, 3) := by decide +kernel
theorem dX4_markWay_91 : decode cX4_markWay 91 = .ok (.aload_n 0, 1) := by decide +kernel
theorem dX4_markWay_92 : decode cX4_markWay 92 = .ok (.iconst 0, 1) := by decide +kernel
theorem dX4_markWay_93 : decode cX4_markWay 93 = .ok (.iload 4, 2) := by decide +kernel
theorem dX4_markWay_95 : decode cX4_markWay 95 = .ok (.iadd, 1) := by decide +kernel
theorem dX4_markWay_96 : decode cX4_markWay 96 = .ok (.iload_n 3, 1) := by decide +kernel
theorem dX4_markWay_97 : decode cX4_markWay 97 = .ok (.invokevirtual 102, 3) := by decide +kernel
theorem dX4_markWay_100 : decode cX4_markWay 100 = .ok (.aload_n 0, 1) := by decide +kernel
theorem dX4_markWay_101 : decode cX4_markWay 101 = .ok (.aload_n 1, 1) := by decide +kernel
theorem dX4_markWay_102 : decode cX4_markWay 102 = .ok (.iload 4, 2) := by decide +kernel
theorem dX4_markWay_104 : decode cX4_markWay 104 = .ok (.invokevirtual 106, 3) := by decide +kernel
theorem dX4_markWay_107 : decode cX4_markWay 107 = .ok (.aload_n 1, 1) := by decide +kernel
theorem dX4_markWay_108 : decode cX4_markWay 108 = .ok (.iload 5, 2) := by decide +kernel
theorem dX4_markWay_110 : decode cX4_markWay 110 = .ok (.invokevirtual 106, 3) := by decide +kernel
theorem dX4_markWay_113 : decode cX4_markWay 113 = .ok (.iload_n 3, 1) := by decide +kernel
theorem dX4_markWay_114 : decode cX4_markWay 114 = .ok (.invokevirtual 109, 3) := by decide +kernel
theorem dX4_markWay_117 : decode cX4_markWay 117 = .ok (.aload_n 0, 1) := by decide +kernel
theorem dX4_markWay_118 : decode cX4_markWay 118 = .ok (.bipush 24, 2) := by decide +kernel
theorem dX4_markWay_120 : decode cX4_markWay 120 = .ok (.iload 5, 2) := by decide +kernel
theorem dX4_markWay_122 : decode cX4_markWay 122 = .ok (.iadd, 1) := by decide +kernel
theorem dX4_markWay_123 : decode cX4_markWay 123 = .ok (.iload_n 3, 1) := by decide +kernel
theorem dX4_markWay_124 : decode cX4_markWay 124 = .ok (.invokevirtual 102, 3) := by decide +kernel
theorem dX4_markWay_127 : decode cX4_markWay 127 = .ok (.return_, 1) := by decide +kernel
theorem dX4_markSegments_0 : decode cX4_markSegments 0 = .ok (.iload_n 1, 1) := by decide +kernel
theorem dX4_markSegments_1 : decode cX4_markSegments 1 = .ok (.istore 4, 2) := by decide +kernel
theorem dX4_markSegments_3 : decode cX4_markSegments 3 = .ok (.iload 4, 2) := by decide +kernel
theorem dX4_markSegments_5 : decode cX4_markSegments 5 = .ok (.iload_n 2, 1) := by decide +kernel
theorem dX4_markSegments_6 : decode cX4_markSegments 6 = .ok (.if_icmp .ge 19, 3) := by decide +kernel
theorem dX4_markSegments_9 : decode cX4_markSegments 9 = .ok (.aload_n 0, 1) := by decide +kernel
theorem dX4_markSegments_10 : decode cX4_markSegments 10 = .ok (.bipush 10, 2) := by decide +kernel
theorem dX4_markSegments_12 : decode cX4_markSegments 12 = .ok (.iload 4, 2) := by decide +kernel
theorem dX4_markSegments_14 : decode cX4_markSegments 14 = .ok (.iadd, 1) := by decide +kernel
theorem dX4_markSegments_15 : decode cX4_markSegments 15 = .ok (.iload_n 3, 1) := by decide +kernel
theorem dX4_markSegments_16 : decode cX4_markSegments 16 = .ok (.invokevirtual 102, 3) := by decide +kernel
theorem dX4_markSegments_19 : decode cX4_markSegments 19 = .ok (.iinc 4 1, 3) := by decide +kernel
theorem dX4_markSegments_22 : decode cX4_markSegments 22 = .ok (.goto (-19), 3) := by decide +kernel
theorem dX4_markSegments_25 : decode cX4_markSegments 25 = .ok (.iload_n 2, 1) := by decide +kernel
theorem dX4_markSegments_26 : decode cX4_markSegments 26 = .ok (.istore 4, 2) := by decide +kernel
theorem dX4_markSegments_28 : decode cX4_markSegments 28 = .ok (.iload 4, 2) := by decide +kernel
theorem dX4_markSegments_30 : decode cX4_markSegments 30 = .ok (.iload_n 1, 1) := by decide +kernel
theorem dX4_markSegments_31 : decode cX4_markSegments 31 = .ok (.if_icmp .ge 19, 3) := by decide +kernel
theorem dX4_markSegments_34 : decode cX4_markSegments 34 = .ok (.aload_n 0, 1) := by decide +kernel
theorem dX4_markSegments_35 : decode cX4_markSegments 35 = .ok (.bipush 17, 2) := by decide +kernel
theorem dX4_markSegments_37 : decode cX4_markSegments 37 = .ok (.iload 4, 2) := by decide +kernel
theorem dX4_markSegments_39 : decode cX4_markSegments 39 = .ok (.iadd, 1) := by decide +kernel
theorem dX4_markSegments_40 : decode cX4_markSegments 40 = .ok (.iload_n 3, 1) := by decide +kernel
theorem dX4_markSegments_41 : decode cX4_markSegments 41 = .ok (.invokevirtual 102, 3) := by decide +kernel
theorem dX4_markSegments_44 : decode cX4_markSegments 44 = .ok (.iinc 4 1, 3) := by decide +kernel
theorem dX4_markSegments_47 : decode cX4_markSegments 47 = .ok (.goto (-19), 3) := by decide +kernel
theorem dX4_markSegments_50 : decode cX4_markSegments 50 = .ok (.return_, 1) := by decide +kernel
theorem dX4_mark_0 : decode cX4_mark 0 = .ok (.iload_n 1, 1) := by decide +kernel
theorem dX4_mark_1 : decode cX4_mark 1 = .ok (.ifCond .lt 19, 3) := by decide +kernel
theorem dX4_mark_4 : decode cX4_mark 4 = .ok (.iload_n 1, 1) := by decide +kernel
theorem dX4_mark_5 : decode cX4_mark 5 = .ok (.bipush 46, 2) := by decide +kernel
theorem dX4_mark_7 : decode cX4_mark 7 = .ok (.if_icmp .ge 13, 3) := by decide +kernel
theorem dX4_mark_10 : decode cX4_mark 10 = .ok (.aload_n 0, 1) := by decide +kernel
theorem dX4_mark_11 : decode cX4_mark 11 = .ok (.getfield 24, 3) := by decide +kernel
theorem dX4_mark_14 : decode cX4_mark 14 = .ok (.iload_n 1, 1) := by decide +kernel
theorem dX4_mark_15 : decode cX4_mark 15 = .ok (.dup2, 1) := by decide +kernel
theorem dX4_mark_16 : decode cX4_mark 16 = .ok (.iaload, 1) := by decide +kernel
theorem dX4_mark_17 : decode cX4_mark 17 = .ok (.iload_n 2, 1) := by decide +kernel
theorem dX4_mark_18 : decode cX4_mark 18 = .ok (.ior, 1) := by decide +kernel
theorem dX4_mark_19 : decode cX4_mark 19 = .ok (.iastore, 1) := by decide +kernel
theorem dX4_mark_20 : decode cX4_mark 20 = .ok (.return_, 1) := by decide +kernel
theorem dX4_shareFirm_0 : decode cX4_shareFirm 0 = .ok (.iconst 0, 1) := by decide +kernel
theorem dX4_shareFirm_1 : decode cX4_shareFirm 1 = .ok (.istore_n 2, 1) := by decide +kernel
theorem dX4_shareFirm_2 : decode cX4_shareFirm 2 = .ok (.iload_n 2, 1) := by decide +kernel
theorem dX4_shareFirm_3 : decode cX4_shareFirm 3 = .ok (.aload_n 1, 1) := by decide +kernel
theorem dX4_shareFirm_4 : decode cX4_shareFirm 4 = .ok (.getfield 91, 3) := by decide +kernel
theorem dX4_shareFirm_7 : decode cX4_shareFirm 7 = .ok (.getfield 72, 3) := by decide +kernel
theorem dX4_shareFirm_10 : decode cX4_shareFirm 10 = .ok (.if_icmp .ge 78, 3) := by decide +kernel
theorem dX4_shareFirm_13 : decode cX4_shareFirm 13 = .ok (.aload_n 1, 1) := by decide +kernel
theorem dX4_shareFirm_14 : decode cX4_shareFirm 14 = .ok (.getfield 91, 3) := by decide +kernel
theorem dX4_shareFirm_17 : decode cX4_shareFirm 17 = .ok (.iload_n 2, 1) := by decide +kernel
theorem dX4_shareFirm_18 : decode cX4_shareFirm 18 = .ok (.iconst 0, 1) := by decide +kernel
theorem dX4_shareFirm_19 : decode cX4_shareFirm 19 = .ok (.invokevirtual 66, 3) := by decide +kernel
theorem dX4_shareFirm_22 : decode cX4_shareFirm 22 = .ok (.istore_n 3, 1) := by decide +kernel
theorem dX4_shareFirm_23 : decode cX4_shareFirm 23 = .ok (.iconst 0, 1) := by decide +kernel
theorem dX4_shareFirm_24 : decode cX4_shareFirm 24 = .ok (.istore 4, 2) := by decide +kernel
theorem dX4_shareFirm_26 : decode cX4_shareFirm 26 = .ok (.iload 4, 2) := by decide +kernel
theorem dX4_shareFirm_28 : decode cX4_shareFirm 28 = .ok (.aload_n 0, 1) := by decide +kernel
theorem dX4_shareFirm_29 : decode cX4_shareFirm 29 = .ok (.getfield 36, 3) := by decide +kernel
theorem dX4_shareFirm_32 : decode cX4_shareFirm 32 = .ok (.if_icmp .ge 50, 3) := by decide +kernel
theorem dX4_shareFirm_35 : decode cX4_shareFirm 35 = .ok (.aload_n 1, 1) := by decide +kernel
theorem dX4_shareFirm_36 : decode cX4_shareFirm 36 = .ok (.iload 4, 2) := by decide +kernel
theorem dX4_shareFirm_38 : decode cX4_shareFirm 38 = .ok (.invokevirtual 98, 3) := by decide +kernel
theorem dX4_shareFirm_41 : decode cX4_shareFirm 41 = .ok (.iload_n 2, 1) := by decide +kernel
theorem dX4_shareFirm_42 : decode cX4_shareFirm 42 = .ok (.if_icmp .ne 34, 3) := by decide +kernel
theorem dX4_shareFirm_45 : decode cX4_shareFirm 45 = .ok (.aload_n 0, 1) := by decide +kernel
theorem dX4_shareFirm_46 : decode cX4_shareFirm 46 = .ok (.getfield 27, 3) := by decide +kernel
theorem dX4_shareFirm_49 : decode cX4_shareFirm 49 = .ok (.iload 4, 2) := by decide +kernel
theorem dX4_shareFirm_51 : decode cX4_shareFirm 51 = .ok (.aload_n 1, 1) := by decide +kernel
theorem dX4_shareFirm_52 : decode cX4_shareFirm 52 = .ok (.getfield 60, 3) := by decide +kernel
theorem dX4_shareFirm_55 : decode cX4_shareFirm 55 = .ok (.iload 4, 2) := by decide +kernel
theorem dX4_shareFirm_57 : decode cX4_shareFirm 57 = .ok (.iconst 3, 1) := by decide +kernel
theorem dX4_shareFirm_58 : decode cX4_shareFirm 58 = .ok (.invokevirtual 66, 3) := by decide +kernel
theorem dX4_shareFirm_61 : decode cX4_shareFirm 61 = .ok (.iload_n 3, 1) := by decide +kernel
theorem dX4_shareFirm_62 : decode cX4_shareFirm 62 = .ok (.invokestatic 113, 3) := by decide +kernel
theorem dX4_shareFirm_65 : decode cX4_shareFirm 65 = .ok (.iastore, 1) := by decide +kernel
theorem dX4_shareFirm_66 : decode cX4_shareFirm 66 = .ok (.iload_n 3, 1) := by decide +kernel
theorem dX4_shareFirm_67 : decode cX4_shareFirm 67 = .ok (.aload_n 0, 1) := by decide +kernel
theorem dX4_shareFirm_68 : decode cX4_shareFirm 68 = .ok (.getfield 27, 3) := by decide +kernel
theorem dX4_shareFirm_71 : decode cX4_shareFirm 71 = .ok (.iload 4, 2) := by decide +kernel
theorem dX4_shareFirm_73 : decode cX4_shareFirm 73 = .ok (.iaload, 1) := by decide +kernel
theorem dX4_shareFirm_74 : decode cX4_shareFirm 74 = .ok (.isub, 1) := by decide +kernel
theorem dX4_shareFirm_75 : decode cX4_shareFirm 75 = .ok (.istore_n 3, 1) := by decide +kernel
theorem dX4_shareFirm_76 : decode cX4_shareFirm 76 = .ok (.iinc 4 1, 3) := by decide +kernel
theorem dX4_shareFirm_79 : decode cX4_shareFirm 79 = .ok (.goto (-53), 3) := by decide +kernel
theorem dX4_shareFirm_82 : decode cX4_shareFirm 82 = .ok (.iinc 2 1, 3) := by decide +kernel
theorem dX4_shareFirm_85 : decode cX4_shareFirm 85 = .ok (.goto (-83), 3) := by decide +kernel
theorem dX4_shareFirm_88 : decode cX4_shareFirm 88 = .ok (.return_, 1) := by decide +kernel
theorem dX4_askRank_0 : decode cX4_askRank 0 = .ok (.iconst 0, 1) := by decide +kernel
theorem dX4_askRank_1 : decode cX4_askRank 1 = .ok (.istore_n 3, 1) := by decide +kernel
theorem dX4_askRank_2 : decode cX4_askRank 2 = .ok (.iconst 0, 1) := by decide +kernel
theorem dX4_askRank_3 : decode cX4_askRank 3 = .ok (.istore 4, 2) := by decide +kernel
theorem dX4_askRank_5 : decode cX4_askRank 5 = .ok (.iload 4, 2) := by decide +kernel
theorem dX4_askRank_7 : decode cX4_askRank 7 = .ok (.aload_n 0, 1) := by decide +kernel
theorem dX4_askRank_8 : decode cX4_askRank 8 = .ok (.getfield 36, 3) := by decide +kernel
theorem dX4_askRank_11 : decode cX4_askRank 11 = .ok (.if_icmp .ge 86, 3) := by decide +kernel
theorem dX4_askRank_14 : decode cX4_askRank 14 = .ok (.aload_n 1, 1) := by decide +kernel
theorem dX4_askRank_15 : decode cX4_askRank 15 = .ok (.getfield 91, 3) := by decide +kernel
theorem dX4_askRank_18 : decode cX4_askRank 18 = .ok (.aload_n 1, 1) := by decide +kernel
theorem dX4_askRank_19 : decode cX4_askRank 19 = .ok (.iload 4, 2) := by decide +kernel
theorem dX4_askRank_21 : decode cX4_askRank 21 = .ok (.invokevirtual 98, 3) := by decide +kernel
theorem dX4_askRank_24 : decode cX4_askRank 24 = .ok (.iconst 1, 1) := by decide +kernel
theorem dX4_askRank_25 : decode cX4_askRank 25 = .ok (.invokevirtual 66, 3) := by decide +kernel
theorem dX4_askRank_28 : decode cX4_askRank 28 = .ok (.iload_n 2, 1) := by decide +kernel
theorem dX4_askRank_29 : decode cX4_askRank 29 = .ok (.if_icmp .ne 7, 3) := by decide +kernel
theorem dX4_askRank_32 : decode cX4_askRank 32 = .ok (.iconst 1, 1) := by decide +kernel
theorem dX4_askRank_33 : decode cX4_askRank 33 = .ok (.goto 4, 3) := by decide +kernel
theorem dX4_askRank_36 : decode cX4_askRank 36 = .ok (.iconst 0, 1) := by decide +kernel
theorem dX4_askRank_37 : decode cX4_askRank 37 = .ok (.istore 5, 2) := by decide +kernel
theorem dX4_askRank_39 : decode cX4_askRank 39 = .ok (.aload_n 0, 1) := by decide +kernel
theorem dX4_askRank_40 : decode cX4_askRank 40 = .ok (.getfield 30, 3) := by decide +kernel
theorem dX4_askRank_43 : decode cX4_askRank 43 = .ok (.iload 4, 2) := by decide +kernel
theorem dX4_askRank_45 : decode cX4_askRank 45 = .ok (.iload 5, 2) := by decide +kernel
theorem dX4_askRank_47 : decode cX4_askRank 47 = .ok (.ifCond .eq 24, 3) := by decide +kernel
theorem dX4_askRank_50 : decode cX4_askRank 50 = .ok (.aload_n 1, 1) := by decide +kernel
theorem dX4_askRank_51 : decode cX4_askRank 51 = .ok (.getfield 60, 3) := by decide +kernel
theorem dX4_askRank_54 : decode cX4_askRank 54 = .ok (.iload 4, 2) := by decide +kernel
theorem dX4_askRank_56 : decode cX4_askRank 56 = .ok (.iconst 3, 1) := by decide +kernel
theorem dX4_askRank_57 : decode cX4_askRank 57 = .ok (.invokevirtual 66, 3) := by decide +kernel
theorem dX4_askRank_60 : decode cX4_askRank 60 = .ok (.aload_n 0, 1) := by decide +kernel
theorem dX4_askRank_61 : decode cX4_askRank 61 = .ok (.getfield 27, 3) := by decide +kernel
theorem dX4_askRank_64 : decode cX4_askRank 64 = .ok (.iload 4, 2) := by decide +kernel
theorem dX4_askRank_66 : decode cX4_askRank 66 = .ok (.iaload, 1) := by decide +kernel
theorem dX4_askRank_67 : decode cX4_askRank 67 = .ok (.isub, 1) := by decide +kernel
theorem dX4_askRank_68 : decode cX4_askRank 68 = .ok (.goto 4, 3) := by decide +kernel
theorem dX4_askRank_71 : decode cX4_askRank 71 = .ok (.iconst 0, 1) := by decide +kernel
theorem dX4_askRank_72 : decode cX4_askRank 72 = .ok (.iastore, 1) := by decide +kernel
theorem dX4_askRank_73 : decode cX4_askRank 73 = .ok (.iload_n 3, 1) := by decide +kernel
theorem dX4_askRank_74 : decode cX4_askRank 74 = .ok (.aload_n 0, 1) := by decide +kernel
theorem dX4_askRank_75 : decode cX4_askRank 75 = .ok (.getfield 30, 3) := by decide +kernel
theorem dX4_askRank_78 : decode cX4_askRank 78 = .ok (.iload 4, 2) := by decide +kernel
theorem dX4_askRank_80 : decode cX4_askRank 80 = .ok (.iaload, 1) := by decide +kernel
theorem dX4_askRank_81 : decode cX4_askRank 81 = .ok (.ifCond .le 7, 3) := by decide +kernel
theorem dX4_askRank_84 : decode cX4_askRank 84 = .ok (.iconst 1, 1) := by decide +kernel
theorem dX4_askRank_85 : decode cX4_askRank 85 = .ok (.goto 4, 3) := by decide +kernel
theorem dX4_askRank_88 : decode cX4_askRank 88 = .ok (.iconst 0, 1) := by decide +kernel
theorem dX4_askRank_89 : decode cX4_askRank 89 = .ok (.ior, 1) := by decide +kernel
theorem dX4_askRank_90 : decode cX4_askRank 90 = .ok (.istore_n 3, 1) := by decide +kernel
theorem dX4_askRank_91 : decode cX4_askRank 91 = .ok (.iinc 4 1, 3) := by decide +kernel
theorem dX4_askRank_94 : decode cX4_askRank 94 = .ok (.goto (-89), 3) := by decide +kernel
theorem dX4_askRank_97 : decode cX4_askRank 97 = .ok (.iload_n 3, 1) := by decide +kernel
theorem dX4_askRank_98 : decode cX4_askRank 98 = .ok (.ireturn, 1) := by decide +kernel
theorem dX4_serve_0 : decode cX4_serve 0 = .ok (.iconst 0, 1) := by decide +kernel
theorem dX4_serve_1 : decode cX4_serve 1 = .ok (.istore_n 1, 1) := by decide +kernel
theorem dX4_serve_2 : decode cX4_serve 2 = .ok (.iload_n 1, 1) := by decide +kernel
theorem dX4_serve_3 : decode cX4_serve 3 = .ok (.bipush 46, 2) := by decide +kernel
theorem dX4_serve_5 : decode cX4_serve 5 = .ok (.if_icmp .ge 14, 3) := by decide +kernel
theorem dX4_serve_8 : decode cX4_serve 8 = .ok (.aload_n 0, 1) := by decide +kernel
theorem dX4_serve_9 : decode cX4_serve 9 = .ok (.iload_n 1, 1) := by decide +kernel
theorem dX4_serve_10 : decode cX4_serve 10 = .ok (.invokevirtual 118, 3) := by decide +kernel
theorem dX4_serve_13 : decode cX4_serve 13 = .ok (.iinc 1 1, 3) := by decide +kernel
theorem dX4_serve_16 : decode cX4_serve 16 = .ok (.goto (-14), 3) := by decide +kernel
theorem dX4_serve_19 : decode cX4_serve 19 = .ok (.iconst 0, 1) := by decide +kernel
theorem dX4_serve_20 : decode cX4_serve 20 = .ok (.istore_n 1, 1) := by decide +kernel
theorem dX4_serve_21 : decode cX4_serve 21 = .ok (.iload_n 1, 1) := by decide +kernel
theorem dX4_serve_22 : decode cX4_serve 22 = .ok (.bipush 46, 2) := by decide +kernel
theorem dX4_serve_24 : decode cX4_serve 24 = .ok (.if_icmp .ge 28, 3) := by decide +kernel
theorem dX4_serve_27 : decode cX4_serve 27 = .ok (.aload_n 0, 1) := by decide +kernel
theorem dX4_serve_28 : decode cX4_serve 28 = .ok (.getfield 21, 3) := by decide +kernel
theorem dX4_serve_31 : decode cX4_serve 31 = .ok (.iload_n 1, 1) := by decide +kernel
theorem dX4_serve_32 : decode cX4_serve 32 = .ok (.dup2, 1) := by decide +kernel
theorem dX4_serve_33 : decode cX4_serve 33 = .ok (.iaload, 1) := by decide +kernel
theorem dX4_serve_34 : decode cX4_serve 34 = .ok (.aload_n 0, 1) := by decide +kernel
theorem dX4_serve_35 : decode cX4_serve 35 = .ok (.aload_n 0, 1) := by decide +kernel
theorem dX4_serve_36 : decode cX4_serve 36 = .ok (.getfield 24, 3) := by decide +kernel
theorem dX4_serve_39 : decode cX4_serve 39 = .ok (.iload_n 1, 1) := by decide +kernel
theorem dX4_serve_40 : decode cX4_serve 40 = .ok (.iaload, 1) := by decide +kernel
theorem dX4_serve_41 : decode cX4_serve 41 = .ok (.invokevirtual 122, 3) := by decide +kernel
theorem dX4_serve_44 : decode cX4_serve 44 = .ok (.isub, 1) := by decide +kernel
theorem dX4_serve_45 : decode cX4_serve 45 = .ok (.iastore, 1) := by decide +kernel
theorem dX4_serve_46 : decode cX4_serve 46 = .ok (.iinc 1 1, 3) := by decide +kernel
theorem dX4_serve_49 : decode cX4_serve 49 = .ok (.goto (-28), 3) := by decide +kernel
theorem dX4_serve_52 : decode cX4_serve 52 = .ok (.iconst 0, 1) := by decide +kernel
theorem dX4_serve_53 : decode cX4_serve 53 = .ok (.istore_n 1, 1) := by decide +kernel
theorem dX4_serve_54 : decode cX4_serve 54 = .ok (.iload_n 1, 1) := by decide +kernel
theorem dX4_serve_55 : decode cX4_serve 55 = .ok (.aload_n 0, 1) := by decide +kernel
theorem dX4_serve_56 : decode cX4_serve 56 = .ok (.getfield 36, 3) := by decide +kernel
theorem dX4_serve_59 : decode cX4_serve 59 = .ok (.if_icmp .ge 24, 3) := by decide +kernel
theorem dX4_serve_62 : decode cX4_serve 62 = .ok (.aload_n 0, 1) := by decide +kernel
theorem dX4_serve_63 : decode cX4_serve 63 = .ok (.getfield 11, 3) := by decide +kernel
theorem dX4_serve_66 : decode cX4_serve 66 = .ok (.iload_n 1, 1) := by decide +kernel
theorem dX4_serve_67 : decode cX4_serve 67 = .ok (.dup2, 1) := by decide +kernel
theorem dX4_serve_68 : decode cX4_serve 68 = .ok (.iaload, 1) := by decide +kernel
theorem dX4_serve_69 : decode cX4_serve 69 = .ok (.aload_n 0, 1) := by decide +kernel
theorem dX4_serve_70 : decode cX4_serve 70 = .ok (.getfield 30, 3) := by decide +kernel
theorem dX4_serve_73 : decode cX4_serve 73 = .ok (.iload_n 1, 1) := by decide +kernel
theorem dX4_serve_74 : decode cX4_serve 74 = .ok (.iaload, 1) := by decide +kernel
theorem dX4_serve_75 : decode cX4_serve 75 = .ok (.iadd, 1) := by decide +kernel
theorem dX4_serve_76 : decode cX4_serve 76 = .ok (.iastore, 1) := by decide +kernel
theorem dX4_serve_77 : decode cX4_serve 77 = .ok (.iinc 1 1, 3) := by decide +kernel
theorem dX4_serve_80 : decode cX4_serve 80 = .ok (.goto (-26), 3) := by decide +kernel
theorem dX4_serve_83 : decode cX4_serve 83 = .ok (.return_, 1) := by decide +kernel
theorem dX4_together_0 : decode cX4_together 0 = .ok (.iconst 0, 1) := by decide +kernel
theorem dX4_together_1 : decode cX4_together 1 = .ok (.istore_n 2, 1) := by decide +kernel
theorem dX4_together_2 : decode cX4_together 2 = .ok (.iconst 0, 1) := by decide +kernel
theorem dX4_together_3 : decode cX4_together 3 = .ok (.istore_n 3, 1) := by decide +kernel
theorem dX4_together_4 : decode cX4_together 4 = .ok (.iload_n 1, 1) := by decide +kernel
theorem dX4_together_5 : decode cX4_together 5 = .ok (.ifCond .eq 34, 3) := by decide +kernel
theorem dX4_together_8 : decode cX4_together 8 = .ok (.iload_n 3, 1) := by decide +kernel
theorem dX4_together_9 : decode cX4_together 9 = .ok (.aload_n 0, 1) := by decide +kernel
theorem dX4_together_10 : decode cX4_together 10 = .ok (.getfield 36, 3) := by decide +kernel
theorem dX4_together_13 : decode cX4_together 13 = .ok (.if_icmp .ge 26, 3) := by decide +kernel
theorem dX4_together_16 : decode cX4_together 16 = .ok (.iload_n 1, 1) := by decide +kernel
theorem dX4_together_17 : decode cX4_together 17 = .ok (.iconst 1, 1) := by decide +kernel
theorem dX4_together_18 : decode cX4_together 18 = .ok (.iload_n 3, 1) := by decide +kernel
theorem dX4_together_19 : decode cX4_together 19 = .ok (.ishl, 1) := by decide +kernel
theorem dX4_together_20 : decode cX4_together 20 = .ok (.iand, 1) := by decide +kernel
theorem dX4_together_21 : decode cX4_together 21 = .ok (.ifCond .eq 12, 3) := by decide +kernel
theorem dX4_together_24 : decode cX4_together 24 = .ok (.iload_n 2, 1) := by decide +kernel
theorem dX4_together_25 : decode cX4_together 25 = .ok (.aload_n 0, 1) := by decide +kernel
theorem dX4_together_26 : decode cX4_together 26 = .ok (.getfield 30, 3) := by decide +kernel
theorem dX4_together_29 : decode cX4_together 29 = .ok (.iload_n 3, 1) := by decide +kernel
theorem dX4_together_30 : decode cX4_together 30 = .ok (.iaload, 1) := by decide +kernel
theorem dX4_together_31 : decode cX4_together 31 = .ok (.iadd, 1) := by decide +kernel
theorem dX4_together_32 : decode cX4_together 32 = .ok (.istore_n 2, 1) := by decide +kernel
theorem dX4_together_33 : decode cX4_together 33 = .ok (.iinc 3 1, 3) := by decide +kernel
theorem dX4_together_36 : decode cX4_together 36 = .ok (.goto (-32), 3) := by decide +kernel
theorem dX4_together_39 : decode cX4_together 39 = .ok (.iload_n 2, 1) := by decide +kernel
theorem dX4_together_40 : decode cX4_together 40 = .ok (.ireturn, 1) := by decide +kernel
theorem dX4_squeeze_0 : decode cX4_squeeze 0 = .ok (.aload_n 0, 1) := by decide +kernel
theorem dX4_squeeze_1 : decode cX4_squeeze 1 = .ok (.getfield 24, 3) := by decide +kernel
theorem dX4_squeeze_4 : decode cX4_squeeze 4 = .ok (.iload_n 1, 1) := by decide +kernel
theorem dX4_squeeze_5 : decode cX4_squeeze 5 = .ok (.iaload, 1) := by decide +kernel
theorem dX4_squeeze_6 : decode cX4_squeeze 6 = .ok (.istore_n 2, 1) := by decide +kernel
theorem dX4_squeeze_7 : decode cX4_squeeze 7 = .ok (.aload_n 0, 1) := by decide +kernel
theorem dX4_squeeze_8 : decode cX4_squeeze 8 = .ok (.iload_n 2, 1) := by decide +kernel
theorem dX4_squeeze_9 : decode cX4_squeeze 9 = .ok (.invokevirtual 122, 3) := by decide +kernel
theorem dX4_squeeze_12 : decode cX4_squeeze 12 = .ok (.istore_n 3, 1) := by decide +kernel
theorem dX4_squeeze_13 : decode cX4_squeeze 13 = .ok (.iload_n 3, 1) := by decide +kernel
theorem dX4_squeeze_14 : decode cX4_squeeze 14 = .ok (.ifCond .le 13, 3) := by decide +kernel
theorem dX4_squeeze_17 : decode cX4_squeeze 17 = .ok (.iload_n 3, 1) := by decide +kernel
theorem dX4_squeeze_18 : decode cX4_squeeze 18 = .ok (.aload_n 0, 1) := by decide +kernel
theorem dX4_squeeze_19 : decode cX4_squeeze 19 = .ok (.getfield 21, 3) := by decide +kernel
theorem dX4_squeeze_22 : decode cX4_squeeze 22 = .ok (.iload_n 1, 1) := by decide +kernel
theorem dX4_squeeze_23 : decode cX4_squeeze 23 = .ok (.iaload, 1) := by decide +kernel
theorem dX4_squeeze_24 : decode cX4_squeeze 24 = .ok (.if_icmp .gt 4, 3) := by decide +kernel
theorem dX4_squeeze_27 : decode cX4_squeeze 27 = .ok (.return_, 1) := by decide +kernel
theorem dX4_squeeze_28 : decode cX4_squeeze 28 = .ok (.aload_n 0, 1) := by decide +kernel
theorem dX4_squeeze_29 : decode cX4_squeeze 29 = .ok (.getfield 21, 3) := by decide +kernel
theorem dX4_squeeze_32 : decode cX4_squeeze 32 = .ok (.iload_n 1, 1) := by decide +kernel
theorem dX4_squeeze_33 : decode cX4_squeeze 33 = .ok (.iaload, 1) := by decide +kernel
theorem dX4_squeeze_34 : decode cX4_squeeze 34 = .ok (.istore 4, 2) := by decide +kernel
theorem dX4_squeeze_36 : decode cX4_squeeze 36 = .ok (.iconst 0, 1) := by decide +kernel
theorem dX4_squeeze_37 : decode cX4_squeeze 37 = .ok (.istore 5, 2) := by decide +kernel
theorem dX4_squeeze_39 : decode cX4_squeeze 39 = .ok (.iload 5, 2) := by decide +kernel
theorem dX4_squeeze_41 : decode cX4_squeeze 41 = .ok (.aload_n 0, 1) := by decide +kernel
theorem dX4_squeeze_42 : decode cX4_squeeze 42 = .ok (.getfield 36, 3) := by decide +kernel
theorem dX4_squeeze_45 : decode cX4_squeeze 45 = .ok (.if_icmp .ge 67, 3) := by decide +kernel
theorem dX4_squeeze_48 : decode cX4_squeeze 48 = .ok (.aload_n 0, 1) := by decide +kernel
theorem dX4_squeeze_49 : decode cX4_squeeze 49 = .ok (.getfield 33, 3) := by decide +kernel
theorem dX4_squeeze_52 : decode cX4_squeeze 52 = .ok (.iload 5, 2) := by decide +kernel
theorem dX4_squeeze_54 : decode cX4_squeeze 54 = .ok (.aload_n 0, 1) := by decide +kernel
theorem dX4_squeeze_55 : decode cX4_squeeze 55 = .ok (.getfield 30, 3) := by decide +kernel
theorem dX4_squeeze_58 : decode cX4_squeeze 58 = .ok (.iload 5, 2) := by decide +kernel
theorem dX4_squeeze_60 : decode cX4_squeeze 60 = .ok (.iaload, 1) := by decide +kernel
theorem dX4_squeeze_61 : decode cX4_squeeze 61 = .ok (.iastore, 1) := by decide +kernel
theorem dX4_squeeze_62 : decode cX4_squeeze 62 = .ok (.iload_n 2, 1) := by decide +kernel
theorem dX4_squeeze_63 : decode cX4_squeeze 63 = .ok (.iconst 1, 1) := by decide +kernel
theorem dX4_squeeze_64 : decode cX4_squeeze 64 = .ok (.iload 5, 2) := by decide +kernel
theorem dX4_squeeze_66 : decode cX4_squeeze 66 = .ok (.ishl, 1) := by decide +kernel
theorem dX4_squeeze_67 : decode cX4_squeeze 67 = .ok (.iand, 1) := by decide +kernel
theorem dX4_squeeze_68 : decode cX4_squeeze 68 = .ok (.ifCond .eq 38, 3) := by decide +kernel
theorem dX4_squeeze_71 : decode cX4_squeeze 71 = .ok (.aload_n 0, 1) := by decide +kernel
theorem dX4_squeeze_72 : decode cX4_squeeze 72 = .ok (.getfield 30, 3) := by decide +kernel
theorem dX4_squeeze_75 : decode cX4_squeeze 75 = .ok (.iload 5, 2) := by decide +kernel
theorem dX4_squeeze_77 : decode cX4_squeeze 77 = .ok (.aload_n 0, 1) := by decide +kernel
theorem dX4_squeeze_78 : decode cX4_squeeze 78 = .ok (.getfield 33, 3) := by decide +kernel
theorem dX4_squeeze_81 : decode cX4_squeeze 81 = .ok (.iload 5, 2) := by decide +kernel
theorem dX4_squeeze_83 : decode cX4_squeeze 83 = .ok (.iaload, 1) := by decide +kernel
theorem dX4_squeeze_84 : decode cX4_squeeze 84 = .ok (.aload_n 0, 1) := by decide +kernel
theorem dX4_squeeze_85 : decode cX4_squeeze 85 = .ok (.getfield 21, 3) := by decide +kernel
theorem dX4_squeeze_88 : decode cX4_squeeze 88 = .ok (.iload_n 1, 1) := by decide +kernel
theorem dX4_squeeze_89 : decode cX4_squeeze 89 = .ok (.iaload, 1) := by decide +kernel
theorem dX4_squeeze_90 : decode cX4_squeeze 90 = .ok (.imul, 1) := by decide +kernel
theorem dX4_squeeze_91 : decode cX4_squeeze 91 = .ok (.iload_n 3, 1) := by decide +kernel
theorem dX4_squeeze_92 : decode cX4_squeeze 92 = .ok (.idiv, 1) := by decide +kernel
theorem dX4_squeeze_93 : decode cX4_squeeze 93 = .ok (.iastore, 1) := by decide +kernel
theorem dX4_squeeze_94 : decode cX4_squeeze 94 = .ok (.iload 4, 2) := by decide +kernel
theorem dX4_squeeze_96 : decode cX4_squeeze 96 = .ok (.aload_n 0, 1) := by decide +kernel
theorem dX4_squeeze_97 : decode cX4_squeeze 97 = .ok (.getfield 30, 3) := by decide +kernel
theorem dX4_squeeze_100 : decode cX4_squeeze 100 = .ok (.iload 5, 2) := by decide +kernel
theorem dX4_squeeze_102 : decode cX4_squeeze 102 = .ok (.iaload, 1) := by decide +kernel
theorem dX4_squeeze_103 : decode cX4_squeeze 103 = .ok (.isub, 1) := by decide +kernel
theorem dX4_squeeze_104 : decode cX4_squeeze 104 = .ok (.istore 4, 2) := by decide +kernel
theorem dX4_squeeze_106 : decode cX4_squeeze 106 = .ok (.iinc 5 1, 3) := by decide +kernel
theorem dX4_squeeze_109 : decode cX4_squeeze 109 = .ok (.goto (-70), 3) := by decide +kernel
theorem dX4_squeeze_112 : decode cX4_squeeze 112 = .ok (.iconst 0, 1) := by decide +kernel
theorem dX4_squeeze_113 : decode cX4_squeeze 113 = .ok (.istore 5, 2) := by decide +kernel
theorem dX4_squeeze_115 : decode cX4_squeeze 115 = .ok (.iload 5, 2) := by decide +kernel
theorem dX4_squeeze_117 : decode cX4_squeeze 117 = .ok (.aload_n 0, 1) := by decide +kernel
theorem dX4_squeeze_118 : decode cX4_squeeze 118 = .ok (.getfield 36, 3) := by decide +kernel
theorem dX4_squeeze_121 : decode cX4_squeeze 121 = .ok (.if_icmp .ge 85, 3) := by decide +kernel
theorem dX4_squeeze_124 : decode cX4_squeeze 124 = .ok (.iload 4, 2) := by decide +kernel
theorem dX4_squeeze_126 : decode cX4_squeeze 126 = .ok (.ifCond .le 34, 3) := by decide +kernel
theorem dX4_squeeze_129 : decode cX4_squeeze 129 = .ok (.aload_n 0, 1) := by decide +kernel
theorem dX4_squeeze_130 : decode cX4_squeeze 130 = .ok (.getfield 30, 3) := by decide +kernel
theorem dX4_squeeze_133 : decode cX4_squeeze 133 = .ok (.iload 5, 2) := by decide +kernel
theorem dX4_squeeze_135 : decode cX4_squeeze 135 = .ok (.iaload, 1) := by decide +kernel
theorem dX4_squeeze_136 : decode cX4_squeeze 136 = .ok (.aload_n 0, 1) := by decide +kernel
theorem dX4_squeeze_137 : decode cX4_squeeze 137 = .ok (.getfield 33, 3) := by decide +kernel
theorem dX4_squeeze_140 : decode cX4_squeeze 140 = .ok (.iload 5, 2) := by decide +kernel
theorem dX4_squeeze_142 : decode cX4_squeeze 142 = .ok (.iaload, 1) := by decide +kernel
theorem dX4_squeeze_143 : decode cX4_squeeze 143 = .ok (.if_icmp .ge 17, 3) := by decide +kernel
theorem dX4_squeeze_146 : decode cX4_squeeze 146 = .ok (.aload_n 0, 1) := by decide +kernel
theorem dX4_squeeze_147 : decode cX4_squeeze 147 = .ok (.getfield 30, 3) := by decide +kernel
theorem dX4_squeeze_150 : decode cX4_squeeze 150 = .ok (.iload 5, 2) := by decide +kernel
theorem dX4_squeeze_152 : decode cX4_squeeze 152 = .ok (.dup2, 1) := by decide +kernel
theorem dX4_squeeze_153 : decode cX4_squeeze 153 = .ok (.iaload, 1) := by decide +kernel
theorem dX4_squeeze_154 : decode cX4_squeeze 154 = .ok (.iconst 1, 1) := by decide +kernel
theorem dX4_squeeze_155 : decode cX4_squeeze 155 = .ok (.iadd, 1) := by decide +kernel
theorem dX4_squeeze_156 : decode cX4_squeeze 156 = .ok (.iastore, 1) := by decide +kernel
theorem dX4_squeeze_157 : decode cX4_squeeze 157 = .ok (.iinc 4 (-1), 3) := by decide +kernel
theorem dX4_squeeze_160 : decode cX4_squeeze 160 = .ok (.aload_n 0, 1) := by decide +kernel
theorem dX4_squeeze_161 : decode cX4_squeeze 161 = .ok (.getfield 30, 3) := by decide +kernel
theorem dX4_squeeze_164 : decode cX4_squeeze 164 = .ok (.iload 5, 2) := by decide +kernel
theorem dX4_squeeze_166 : decode cX4_squeeze 166 = .ok (.iaload, 1) := by decide +kernel
theorem dX4_squeeze_167 : decode cX4_squeeze 167 = .ok (.aload_n 0, 1) := by decide +kernel
theorem dX4_squeeze_168 : decode cX4_squeeze 168 = .ok (.getfield 33, 3) := by decide +kernel
theorem dX4_squeeze_171 : decode cX4_squeeze 171 = .ok (.iload 5, 2) := by decide +kernel
theorem dX4_squeeze_173 : decode cX4_squeeze 173 = .ok (.iaload, 1) := by decide +kernel
theorem dX4_squeeze_174 : decode cX4_squeeze 174 = .ok (.if_icmp .ge 26, 3) := by decide +kernel
theorem dX4_squeeze_177 : decode cX4_squeeze 177 = .ok (.aload_n 0, 1) := by decide +kernel
theorem dX4_squeeze_178 : decode cX4_squeeze 178 = .ok (.getfield 18, 3) := by decide +kernel
theorem dX4_squeeze_181 : decode cX4_squeeze 181 = .ok (.iload 5, 2) := by decide +kernel
theorem dX4_squeeze_183 : decode cX4_squeeze 183 = .ok (.iaload, 1) := by decide +kernel
theorem dX4_squeeze_184 : decode cX4_squeeze 184 = .ok (.bipush (-2), 2) := by decide +kernel
theorem dX4_squeeze_186 : decode cX4_squeeze 186 = .ok (.if_icmp .ne 14, 3) := by decide +kernel
theorem dX4_squeeze_189 : decode cX4_squeeze 189 = .ok (.aload_n 0, 1) := by decide +kernel
theorem dX4_squeeze_190 : decode cX4_squeeze 190 = .ok (.getfield 18, 3) := by decide +kernel
theorem dX4_squeeze_193 : decode cX4_squeeze 193 = .ok (.iload 5, 2) := by decide +kernel
theorem dX4_squeeze_195 : decode cX4_squeeze 195 = .ok (.iload_n 1, 1) := by decide +kernel
theorem dX4_squeeze_196 : decode cX4_squeeze 196 = .ok (.invokestatic 125, 3) := by decide +kernel
theorem dX4_squeeze_199 : decode cX4_squeeze 199 = .ok (.iastore, 1) := by decide +kernel
theorem dX4_squeeze_200 : decode cX4_squeeze 200 = .ok (.iinc 5 1, 3) := by decide +kernel
theorem dX4_squeeze_203 : decode cX4_squeeze 203 = .ok (.goto (-88), 3) := by decide +kernel
theorem dX4_squeeze_206 : decode cX4_squeeze 206 = .ok (.return_, 1) := by decide +kernel
theorem dX4_codeOf_0 : decode cX4_codeOf 0 = .ok (.iload_n 0, 1) := by decide +kernel
theorem dX4_codeOf_1 : decode cX4_codeOf 1 = .ok (.bipush 10, 2) := by decide +kernel
theorem dX4_codeOf_3 : decode cX4_codeOf 3 = .ok (.if_icmp .ge 6, 3) := by decide +kernel
theorem dX4_codeOf_6 : decode cX4_codeOf 6 = .ok (.bipush 100, 2) := by decide +kernel
theorem dX4_codeOf_8 : decode cX4_codeOf 8 = .ok (.ireturn, 1) := by decide +kernel
theorem dX4_codeOf_9 : decode cX4_codeOf 9 = .ok (.iload_n 0, 1) := by decide +kernel
theorem dX4_codeOf_10 : decode cX4_codeOf 10 = .ok (.bipush 17, 2) := by decide +kernel
theorem dX4_codeOf_12 : decode cX4_codeOf 12 = .ok (.if_icmp .ge 12, 3) := by decide +kernel
theorem dX4_codeOf_15 : decode cX4_codeOf 15 = .ok (.sipush 200, 3) := by decide +kernel
theorem dX4_codeOf_18 : decode cX4_codeOf 18 = .ok (.iload_n 0, 1) := by decide +kernel
theorem dX4_codeOf_19 : decode cX4_codeOf 19 = .ok (.iadd, 1) := by decide +kernel
theorem dX4_codeOf_20 : decode cX4_codeOf 20 = .ok (.bipush 10, 2) := by decide +kernel
theorem dX4_codeOf_22 : decode cX4_codeOf 22 = .ok (.isub, 1) := by decide +kernel
theorem dX4_codeOf_23 : decode cX4_codeOf 23 = .ok (.ireturn, 1) := by decide +kernel
theorem dX4_codeOf_24 : decode cX4_codeOf 24 = .ok (.iload_n 0, 1) := by decide +kernel
theorem dX4_codeOf_25 : decode cX4_codeOf 25 = .ok (.bipush 24, 2) := by decide +kernel
theorem dX4_codeOf_27 : decode cX4_codeOf 27 = .ok (.if_icmp .ge 12, 3) := by decide +kernel
theorem dX4_codeOf_30 : decode cX4_codeOf 30 = .ok (.sipush 300, 3) := by decide +kernel
theorem dX4_codeOf_33 : decode cX4_codeOf 33 = .ok (.iload_n 0, 1) := by decide +kernel
theorem dX4_codeOf_34 : decode cX4_codeOf 34 = .ok (.iadd, 1) := by decide +kernel
theorem dX4_codeOf_35 : decode cX4_codeOf 35 = .ok (.bipush 17, 2) := by decide +kernel
theorem dX4_codeOf_37 : decode cX4_codeOf 37 = .ok (.isub, 1) := by decide +kernel
theorem dX4_codeOf_38 : decode cX4_codeOf 38 = .ok (.ireturn, 1) := by decide +kernel
theorem dX4_codeOf_39 : decode cX4_codeOf 39 = .ok (.iload_n 0, 1) := by decide +kernel
theorem dX4_codeOf_40 : decode cX4_codeOf 40 = .ok (.bipush 34, 2) := by decide +kernel
theorem dX4_codeOf_42 : decode cX4_codeOf 42 = .ok (.if_icmp .ge 9, 3) := by decide +kernel
theorem dX4_codeOf_45 : decode cX4_codeOf 45 = .ok (.sipush 400, 3) := by decide +kernel
theorem dX4_codeOf_48 : decode cX4_codeOf 48 = .ok (.goto 6, 3) := by decide +kernel
theorem dX4_codeOf_51 : decode cX4_codeOf 51 = .ok (.sipush 500, 3) := by decide +kernel
theorem dX4_codeOf_54 : decode cX4_codeOf 54 = .ok (.ireturn, 1) := by decide +kernel
theorem dX4_of_0 : decode cX4_of 0 = .ok (.iload_n 1, 1) := by decide +kernel
theorem dX4_of_1 : decode cX4_of 1 = .ok (.iconst 0, 1) := by decide +kernel
theorem dX4_of_2 : decode cX4_of 2 = .ok (.bipush 15, 2) := by decide +kernel
theorem dX4_of_4 : decode cX4_of 4 = .ok (.invokestatic 128, 3) := by decide +kernel
theorem dX4_of_7 : decode cX4_of 7 = .ok (.ifCond .eq 12, 3) := by decide +kernel
theorem dX4_of_10 : decode cX4_of 10 = .ok (.aload_n 0, 1) := by decide +kernel
theorem dX4_of_11 : decode cX4_of 11 = .ok (.getfield 11, 3) := by decide +kernel
theorem dX4_of_14 : decode cX4_of 14 = .ok (.iload_n 1, 1) := by decide +kernel
theorem dX4_of_15 : decode cX4_of 15 = .ok (.iaload, 1) := by decide +kernel
theorem dX4_of_16 : decode cX4_of 16 = .ok (.goto 4, 3) := by decide +kernel
theorem dX4_of_19 : decode cX4_of 19 = .ok (.iconst (-1), 1) := by decide +kernel
theorem dX4_of_20 : decode cX4_of 20 = .ok (.ireturn, 1) := by decide +kernel
theorem dX4_inAll_0 : decode cX4_inAll 0 = .ok (.iconst 0, 1) := by decide +kernel
theorem dX4_inAll_1 : decode cX4_inAll 1 = .ok (.istore_n 1, 1) := by decide +kernel
theorem dX4_inAll_2 : decode cX4_inAll 2 = .ok (.iconst 0, 1) := by decide +kernel
theorem dX4_inAll_3 : decode cX4_inAll 3 = .ok (.istore_n 2, 1) := by decide +kernel
theorem dX4_inAll_4 : decode cX4_inAll 4 = .ok (.iload_n 2, 1) := by decide +kernel
theorem dX4_inAll_5 : decode cX4_inAll 5 = .ok (.aload_n 0, 1) := by decide +kernel
theorem dX4_inAll_6 : decode cX4_inAll 6 = .ok (.getfield 36, 3) := by decide +kernel
theorem dX4_inAll_9 : decode cX4_inAll 9 = .ok (.if_icmp .ge 18, 3) := by decide +kernel
theorem dX4_inAll_12 : decode cX4_inAll 12 = .ok (.iload_n 1, 1) := by decide +kernel
theorem dX4_inAll_13 : decode cX4_inAll 13 = .ok (.aload_n 0, 1) := by decide +kernel
theorem dX4_inAll_14 : decode cX4_inAll 14 = .ok (.getfield 11, 3) := by decide +kernel
theorem dX4_inAll_17 : decode cX4_inAll 17 = .ok (.iload_n 2, 1) := by decide +kernel
theorem dX4_inAll_18 : decode cX4_inAll 18 = .ok (.iaload, 1) := by decide +kernel
theorem dX4_inAll_19 : decode cX4_inAll 19 = .ok (.iadd, 1) := by decide +kernel
theorem dX4_inAll_20 : decode cX4_inAll 20 = .ok (.istore_n 1, 1) := by decide +kernel
theorem dX4_inAll_21 : decode cX4_inAll 21 = .ok (.iinc 2 1, 3) := by decide +kernel
theorem dX4_inAll_24 : decode cX4_inAll 24 = .ok (.goto (-20), 3) := by decide +kernel
theorem dX4_inAll_27 : decode cX4_inAll 27 = .ok (.iload_n 1, 1) := by decide +kernel
theorem dX4_inAll_28 : decode cX4_inAll 28 = .ok (.ireturn, 1) := by decide +kernel
theorem dX4_leftAt_0 : decode cX4_leftAt 0 = .ok (.iload_n 1, 1) := by decide +kernel
theorem dX4_leftAt_1 : decode cX4_leftAt 1 = .ok (.iconst 0, 1) := by decide +kernel
theorem dX4_leftAt_2 : decode cX4_leftAt 2 = .ok (.bipush 45, 2) := by decide +kernel
theorem dX4_leftAt_4 : decode cX4_leftAt 4 = .ok (.invokestatic 128, 3) := by decide +kernel
theorem dX4_leftAt_7 : decode cX4_leftAt 7 = .ok (.ifCond .eq 12, 3) := by decide +kernel
theorem dX4_leftAt_10 : decode cX4_leftAt 10 = .ok (.aload_n 0, 1) := by decide +kernel
theorem dX4_leftAt_11 : decode cX4_leftAt 11 = .ok (.getfield 21, 3) := by decide +kernel
theorem dX4_leftAt_14 : decode cX4_leftAt 14 = .ok (.iload_n 1, 1) := by decide +kernel
theorem dX4_leftAt_15 : decode cX4_leftAt 15 = .ok (.iaload, 1) := by decide +kernel
theorem dX4_leftAt_16 : decode cX4_leftAt 16 = .ok (.goto 4, 3) := by decide +kernel
theorem dX4_leftAt_19 : decode cX4_leftAt 19 = .ok (.iconst (-1), 1) := by decide +kernel
theorem dX4_leftAt_20 : decode cX4_leftAt 20 = .ok (.ireturn, 1) := by decide +kernel
theorem dX4_leftAtPoint_0 : decode cX4_leftAtPoint 0 = .ok (.aload_n 0, 1) := by decide +kernel
theorem dX4_leftAtPoint_1 : decode cX4_leftAtPoint 1 = .ok (.aload_n 1, 1) := by decide +kernel
theorem dX4_leftAtPoint_2 : decode cX4_leftAtPoint 2 = .ok (.iload_n 2, 1) := by decide +kernel
theorem dX4_leftAtPoint_3 : decode cX4_leftAtPoint 3 = .ok (.invokevirtual 84, 3) := by decide +kernel
theorem dX4_leftAtPoint_6 : decode cX4_leftAtPoint 6 = .ok (.ifCond .eq 7, 3) := by decide +kernel
theorem dX4_leftAtPoint_9 : decode cX4_leftAtPoint 9 = .ok (.iconst 0, 1) := by decide +kernel
theorem dX4_leftAtPoint_10 : decode cX4_leftAtPoint 10 = .ok (.goto 5, 3) := by decide +kernel
theorem dX4_leftAtPoint_13 : decode cX4_leftAtPoint 13 = .ok (.bipush 24, 2) := by decide +kernel
theorem dX4_leftAtPoint_15 : decode cX4_leftAtPoint 15 = .ok (.iload_n 2, 1) := by decide +kernel
theorem dX4_leftAtPoint_16 : decode cX4_leftAtPoint 16 = .ok (.iadd, 1) := by decide +kernel
theorem dX4_leftAtPoint_17 : decode cX4_leftAtPoint 17 = .ok (.invokevirtual 132, 3) := by decide +kernel
theorem dX4_leftAtPoint_20 : decode cX4_leftAtPoint 20 = .ok (.ireturn, 1) := by decide +kernel
theorem dX4_leftUp_0 : decode cX4_leftUp 0 = .ok (.aload_n 0, 1) := by decide +kernel
theorem dX4_leftUp_1 : decode cX4_leftUp 1 = .ok (.bipush 10, 2) := by decide +kernel
theorem dX4_leftUp_3 : decode cX4_leftUp 3 = .ok (.iload_n 1, 1) := by decide +kernel
theorem dX4_leftUp_4 : decode cX4_leftUp 4 = .ok (.iadd, 1) := by decide +kernel
theorem dX4_leftUp_5 : decode cX4_leftUp 5 = .ok (.invokevirtual 132, 3) := by decide +kernel
theorem dX4_leftUp_8 : decode cX4_leftUp 8 = .ok (.ireturn, 1) := by decide +kernel
theorem dX4_leftDown_0 : decode cX4_leftDown 0 = .ok (.aload_n 0, 1) := by decide +kernel
theorem dX4_leftDown_1 : decode cX4_leftDown 1 = .ok (.bipush 17, 2) := by decide +kernel
theorem dX4_leftDown_3 : decode cX4_leftDown 3 = .ok (.iload_n 1, 1) := by decide +kernel
theorem dX4_leftDown_4 : decode cX4_leftDown 4 = .ok (.iadd, 1) := by decide +kernel
theorem dX4_leftDown_5 : decode cX4_leftDown 5 = .ok (.invokevirtual 132, 3) := by decide +kernel
theorem dX4_leftDown_8 : decode cX4_leftDown 8 = .ok (.ireturn, 1) := by decide +kernel
theorem dX4_tightStop_0 : decode cX4_tightStop 0 = .ok (.iconst 0, 1) := by decide +kernel
theorem dX4_tightStop_1 : decode cX4_tightStop 1 = .ok (.istore_n 3, 1) := by decide +kernel
theorem dX4_tightStop_2 : decode cX4_tightStop 2 = .ok (.iconst 0, 1) := by decide +kernel
theorem dX4_tightStop_3 : decode cX4_tightStop 3 = .ok (.istore 4, 2) := by decide +kernel
theorem dX4_tightStop_5 : decode cX4_tightStop 5 = .ok (.iload 4, 2) := by decide +kernel
theorem dX4_tightStop_7 : decode cX4_tightStop 7 = .ok (.aload_n 1, 1) := by decide +kernel
theorem dX4_tightStop_8 : decode cX4_tightStop 8 = .ok (.getfield 81, 3) := by decide +kernel
theorem dX4_tightStop_11 : decode cX4_tightStop 11 = .ok (.getfield 72, 3) := by decide +kernel
theorem dX4_tightStop_14 : decode cX4_tightStop 14 = .ok (.if_icmp .ge 33, 3) := by decide +kernel
theorem dX4_tightStop_17 : decode cX4_tightStop 17 = .ok (.aload_n 0, 1) := by decide +kernel
theorem dX4_tightStop_18 : decode cX4_tightStop 18 = .ok (.aload_n 1, 1) := by decide +kernel
theorem dX4_tightStop_19 : decode cX4_tightStop 19 = .ok (.iload 4, 2) := by decide +kernel
theorem dX4_tightStop_21 : decode cX4_tightStop 21 = .ok (.invokevirtual 135, 3) := by decide +kernel
theorem dX4_tightStop_24 : decode cX4_tightStop 24 = .ok (.ifCond .ne 17, 3) := by decide +kernel
theorem dX4_tightStop_27 : decode cX4_tightStop 27 = .ok (.iload_n 3, 1) := by decide +kernel
theorem dX4_tightStop_28 : decode cX4_tightStop 28 = .ok (.iinc 3 1, 3) := by decide +kernel
theorem dX4_tightStop_31 : decode cX4_tightStop 31 = .ok (.iload_n 2, 1) := by decide +kernel
theorem dX4_tightStop_32 : decode cX4_tightStop 32 = .ok (.if_icmp .ne 9, 3) := by decide +kernel
theorem dX4_tightStop_35 : decode cX4_tightStop 35 = .ok (.bipush 100, 2) := by decide +kernel
theorem dX4_tightStop_37 : decode cX4_tightStop 37 = .ok (.iload 4, 2) := by decide +kernel
theorem dX4_tightStop_39 : decode cX4_tightStop 39 = .ok (.iadd, 1) := by decide +kernel
theorem dX4_tightStop_40 : decode cX4_tightStop 40 = .ok (.ireturn, 1) := by decide +kernel
theorem dX4_tightStop_41 : decode cX4_tightStop 41 = .ok (.iinc 4 1, 3) := by decide +kernel
theorem dX4_tightStop_44 : decode cX4_tightStop 44 = .ok (.goto (-39), 3) := by decide +kernel
theorem dX4_tightStop_47 : decode cX4_tightStop 47 = .ok (.iconst 0, 1) := by decide +kernel
theorem dX4_tightStop_48 : decode cX4_tightStop 48 = .ok (.istore 4, 2) := by decide +kernel
theorem dX4_tightStop_50 : decode cX4_tightStop 50 = .ok (.iload 4, 2) := by decide +kernel
theorem dX4_tightStop_52 : decode cX4_tightStop 52 = .ok (.aload_n 1, 1) := by decide +kernel
theorem dX4_tightStop_53 : decode cX4_tightStop 53 = .ok (.getfield 88, 3) := by decide +kernel
theorem dX4_tightStop_56 : decode cX4_tightStop 56 = .ok (.getfield 72, 3) := by decide +kernel
theorem dX4_tightStop_59 : decode cX4_tightStop 59 = .ok (.if_icmp .ge 33, 3) := by decide +kernel
theorem dX4_tightStop_62 : decode cX4_tightStop 62 = .ok (.aload_n 0, 1) := by decide +kernel
theorem dX4_tightStop_63 : decode cX4_tightStop 63 = .ok (.iload 4, 2) := by decide +kernel
theorem dX4_tightStop_65 : decode cX4_tightStop 65 = .ok (.invokevirtual 139, 3) := by decide +kernel
theorem dX4_tightStop_68 : decode cX4_tightStop 68 = .ok (.ifCond .ne 18, 3) := by decide +kernel
theorem dX4_tightStop_71 : decode cX4_tightStop 71 = .ok (.iload_n 3, 1) := by decide +kernel
theorem dX4_tightStop_72 : decode cX4_tightStop 72 = .ok (.iinc 3 1, 3) := by decide +kernel
theorem dX4_tightStop_75 : decode cX4_tightStop 75 = .ok (.iload_n 2, 1) := by decide +kernel
theorem dX4_tightStop_76 : decode cX4_tightStop 76 = .ok (.if_icmp .ne 10, 3) := by decide +kernel
theorem dX4_tightStop_79 : decode cX4_tightStop 79 = .ok (.sipush 200, 3) := by decide +kernel
theorem dX4_tightStop_82 : decode cX4_tightStop 82 = .ok (.iload 4, 2) := by decide +kernel
theorem dX4_tightStop_84 : decode cX4_tightStop 84 = .ok (.iadd, 1) := by decide +kernel
theorem dX4_tightStop_85 : decode cX4_tightStop 85 = .ok (.ireturn, 1) := by decide +kernel
theorem dX4_tightStop_86 : decode cX4_tightStop 86 = .ok (.iinc 4 1, 3) := by decide +kernel
theorem dX4_tightStop_89 : decode cX4_tightStop 89 = .ok (.goto (-39), 3) := by decide +kernel
theorem dX4_tightStop_92 : decode cX4_tightStop 92 = .ok (.iconst 0, 1) := by decide +kernel
theorem dX4_tightStop_93 : decode cX4_tightStop 93 = .ok (.istore 4, 2) := by decide +kernel
theorem dX4_tightStop_95 : decode cX4_tightStop 95 = .ok (.iload 4, 2) := by decide +kernel
theorem dX4_tightStop_97 : decode cX4_tightStop 97 = .ok (.aload_n 1, 1) := by decide +kernel
theorem dX4_tightStop_98 : decode cX4_tightStop 98 = .ok (.getfield 88, 3) := by decide +kernel
theorem dX4_tightStop_101 : decode cX4_tightStop 101 = .ok (.getfield 72, 3) := by decide +kernel
theorem dX4_tightStop_104 : decode cX4_tightStop 104 = .ok (.if_icmp .ge 33, 3) := by decide +kernel
theorem dX4_tightStop_107 : decode cX4_tightStop 107 = .ok (.aload_n 0, 1) := by decide +kernel
theorem dX4_tightStop_108 : decode cX4_tightStop 108 = .ok (.iload 4, 2) := by decide +kernel
theorem dX4_tightStop_110 : decode cX4_tightStop 110 = .ok (.invokevirtual 142, 3) := by decide +kernel
theorem dX4_tightStop_113 : decode cX4_tightStop 113 = .ok (.ifCond .ne 18, 3) := by decide +kernel
theorem dX4_tightStop_116 : decode cX4_tightStop 116 = .ok (.iload_n 3, 1) := by decide +kernel
theorem dX4_tightStop_117 : decode cX4_tightStop 117 = .ok (.iinc 3 1, 3) := by decide +kernel
theorem dX4_tightStop_120 : decode cX4_tightStop 120 = .ok (.iload_n 2, 1) := by decide +kernel
theorem dX4_tightStop_121 : decode cX4_tightStop 121 = .ok (.if_icmp .ne 10, 3) := by decide +kernel
theorem dX4_tightStop_124 : decode cX4_tightStop 124 = .ok (.sipush 300, 3) := by decide +kernel
theorem dX4_tightStop_127 : decode cX4_tightStop 127 = .ok (.iload 4, 2) := by decide +kernel
theorem dX4_tightStop_129 : decode cX4_tightStop 129 = .ok (.iadd, 1) := by decide +kernel
theorem dX4_tightStop_130 : decode cX4_tightStop 130 = .ok (.ireturn, 1) := by decide +kernel
theorem dX4_tightStop_131 : decode cX4_tightStop 131 = .ok (.iinc 4 1, 3) := by decide +kernel
theorem dX4_tightStop_134 : decode cX4_tightStop 134 = .ok (.goto (-39), 3) := by decide +kernel
theorem dX4_tightStop_137 : decode cX4_tightStop 137 = .ok (.iload_n 2, 1) := by decide +kernel
theorem dX4_tightStop_138 : decode cX4_tightStop 138 = .ok (.iconst (-1), 1) := by decide +kernel
theorem dX4_tightStop_139 : decode cX4_tightStop 139 = .ok (.if_icmp .ne 7, 3) := by decide +kernel
theorem dX4_tightStop_142 : decode cX4_tightStop 142 = .ok (.iload_n 3, 1) := by decide +kernel
theorem dX4_tightStop_143 : decode cX4_tightStop 143 = .ok (.goto 5, 3) := by decide +kernel
theorem dX4_tightStop_146 : decode cX4_tightStop 146 = .ok (.bipush (-2), 2) := by decide +kernel
theorem dX4_tightStop_148 : decode cX4_tightStop 148 = .ok (.ireturn, 1) := by decide +kernel
theorem dX4_share_0 : decode cX4_share 0 = .ok (.aload_n 1, 1) := by decide +kernel
theorem dX4_share_1 : decode cX4_share 1 = .ok (.iload_n 2, 1) := by decide +kernel
theorem dX4_share_2 : decode cX4_share 2 = .ok (.invokevirtual 145, 3) := by decide +kernel
theorem dX4_share_5 : decode cX4_share 5 = .ok (.istore_n 3, 1) := by decide +kernel
theorem dX4_share_6 : decode cX4_share 6 = .ok (.iload_n 3, 1) := by decide +kernel
theorem dX4_share_7 : decode cX4_share 7 = .ok (.ifCond .gt 7, 3) := by decide +kernel
theorem dX4_share_10 : decode cX4_share 10 = .ok (.sipush 1000, 3) := by decide +kernel
theorem dX4_share_13 : decode cX4_share 13 = .ok (.ireturn, 1) := by decide +kernel
theorem dX4_share_14 : decode cX4_share 14 = .ok (.iconst 0, 1) := by decide +kernel
theorem dX4_share_15 : decode cX4_share 15 = .ok (.istore 4, 2) := by decide +kernel
theorem dX4_share_17 : decode cX4_share 17 = .ok (.iconst 0, 1) := by decide +kernel
theorem dX4_share_18 : decode cX4_share 18 = .ok (.istore 5, 2) := by decide +kernel
theorem dX4_share_20 : decode cX4_share 20 = .ok (.iload 5, 2) := by decide +kernel
theorem dX4_share_22 : decode cX4_share 22 = .ok (.aload_n 0, 1) := by decide +kernel
theorem dX4_share_23 : decode cX4_share 23 = .ok (.getfield 36, 3) := by decide +kernel
theorem dX4_share_26 : decode cX4_share 26 = .ok (.if_icmp .ge 36, 3) := by decide +kernel
theorem dX4_share_29 : decode cX4_share 29 = .ok (.iload_n 2, 1) := by decide +kernel
theorem dX4_share_30 : decode cX4_share 30 = .ok (.iconst (-1), 1) := by decide +kernel
theorem dX4_share_31 : decode cX4_share 31 = .ok (.if_icmp .eq 13, 3) := by decide +kernel
theorem dX4_share_34 : decode cX4_share 34 = .ok (.aload_n 1, 1) := by decide +kernel
theorem dX4_share_35 : decode cX4_share 35 = .ok (.iload 5, 2) := by decide +kernel
theorem dX4_share_37 : decode cX4_share 37 = .ok (.invokevirtual 98, 3) := by decide +kernel
theorem dX4_share_40 : decode cX4_share 40 = .ok (.iload_n 2, 1) := by decide +kernel
theorem dX4_share_41 : decode cX4_share 41 = .ok (.if_icmp .ne 15, 3) := by decide +kernel
theorem dX4_share_44 : decode cX4_share 44 = .ok (.iload 4, 2) := by decide +kernel
theorem dX4_share_46 : decode cX4_share 46 = .ok (.aload_n 0, 1) := by decide +kernel
theorem dX4_share_47 : decode cX4_share 47 = .ok (.getfield 11, 3) := by decide +kernel
theorem dX4_share_50 : decode cX4_share 50 = .ok (.iload 5, 2) := by decide +kernel
theorem dX4_share_52 : decode cX4_share 52 = .ok (.iaload, 1) := by decide +kernel
theorem dX4_share_53 : decode cX4_share 53 = .ok (.iadd, 1) := by decide +kernel
theorem dX4_share_54 : decode cX4_share 54 = .ok (.istore 4, 2) := by decide +kernel
theorem dX4_share_56 : decode cX4_share 56 = .ok (.iinc 5 1, 3) := by decide +kernel
theorem dX4_share_59 : decode cX4_share 59 = .ok (.goto (-39), 3) := by decide +kernel
theorem dX4_share_62 : decode cX4_share 62 = .ok (.iload 4, 2) := by decide +kernel
theorem dX4_share_64 : decode cX4_share 64 = .ok (.sipush 1000, 3) := by decide +kernel
theorem dX4_share_67 : decode cX4_share 67 = .ok (.imul, 1) := by decide +kernel
theorem dX4_share_68 : decode cX4_share 68 = .ok (.iload_n 3, 1) := by decide +kernel
theorem dX4_share_69 : decode cX4_share 69 = .ok (.idiv, 1) := by decide +kernel
theorem dX4_share_70 : decode cX4_share 70 = .ok (.ireturn, 1) := by decide +kernel
theorem dX5_init_0 : decode cX5_init 0 = .ok (.aload_n 0, 1) := by decide +kernel
theorem dX5_init_1 : decode cX5_init 1 = .ok (.invokespecial 3, 3) := by decide +kernel
theorem dX5_init_4 : decode cX5_init 4 = .ok (.aload_n 0, 1) := by decide +kernel
theorem dX5_init_5 : decode cX5_init 5 = .ok (.iconst 0, 1) := by decide +kernel
theorem dX5_init_6 : decode cX5_init 6 = .ok (.putfield 9, 3) := by decide +kernel
theorem dX5_init_9 : decode cX5_init 9 = .ok (.aload_n 0, 1) := by decide +kernel
theorem dX5_init_10 : decode cX5_init 10 = .ok (.iload_n 1, 1) := by decide +kernel
theorem dX5_init_11 : decode cX5_init 11 = .ok (.iconst 0, 1) := by decide +kernel
theorem dX5_init_12 : decode cX5_init 12 = .ok (.invokestatic 15, 3) := by decide +kernel
theorem dX5_init_15 : decode cX5_init 15 = .ok (.putfield 21, 3) := by decide +kernel
theorem dX5_init_18 : decode cX5_init 18 = .ok (.aload_n 0, 1) := by decide +kernel
theorem dX5_init_19 : decode cX5_init 19 = .ok (.iload_n 2, 1) := by decide +kernel
theorem dX5_init_20 : decode cX5_init 20 = .ok (.iconst 0, 1) := by decide +kernel
theorem dX5_init_21 : decode cX5_init 21 = .ok (.invokestatic 15, 3) := by decide +kernel
theorem dX5_init_24 : decode cX5_init 24 = .ok (.putfield 24, 3) := by decide +kernel
theorem dX5_init_27 : decode cX5_init 27 = .ok (.aload_n 0, 1) := by decide +kernel
theorem dX5_init_28 : decode cX5_init 28 = .ok (.aload_n 0, 1) := by decide +kernel
theorem dX5_init_29 : decode cX5_init 29 = .ok (.getfield 21, 3) := by decide +kernel
theorem dX5_init_32 : decode cX5_init 32 = .ok (.aload_n 0, 1) := by decide +kernel
theorem dX5_init_33 : decode cX5_init 33 = .ok (.getfield 24, 3) := by decide +kernel
theorem dX5_init_36 : decode cX5_init 36 = .ok (.imul, 1) := by decide +kernel
theorem dX5_init_37 : decode cX5_init 37 = .ok (.newarray .int, 2) := by decide +kernel
theorem dX5_init_39 : decode cX5_init 39 = .ok (.putfield 27, 3) := by decide +kernel
theorem dX5_init_42 : decode cX5_init 42 = .ok (.return_, 1) := by decide +kernel
theorem dX5_has_0 : decode cX5_has 0 = .ok (.iload_n 1, 1) := by decide +kernel
theorem dX5_has_1 : decode cX5_has 1 = .ok (.ifCond .lt 15, 3) := by decide +kernel
theorem dX5_has_4 : decode cX5_has 4 = .ok (.iload_n 1, 1) := by decide +kernel
theorem dX5_has_5 : decode cX5_has 5 = .ok (.aload_n 0, 1) := by decide +kernel
theorem dX5_has_6 : decode cX5_has 6 = .ok (.getfield 9, 3) := by decide +kernel
theorem dX5_has_9 : decode cX5_has 9 = .ok (.if_icmp .ge 7, 3) := by decide +kernel
theorem dX5_has_12 : decode cX5_has 12 = .ok (.iconst 1, 1) := by decide +kernel
theorem dX5_has_13 : decode cX5_has 13 = .ok (.goto 4, 3) := by decide +kernel
theorem dX5_has_16 : decode cX5_has 16 = .ok (.iconst 0, 1) := by decide +kernel
theorem dX5_has_17 : decode cX5_has 17 = .ok (.ireturn, 1) := by decide +kernel
theorem dX5_isFull_0 : decode cX5_isFull 0 = .ok (.aload_n 0, 1) := by decide +kernel
theorem dX5_isFull_1 : decode cX5_isFull 1 = .ok (.getfield 9, 3) := by decide +kernel
theorem dX5_isFull_4 : decode cX5_isFull 4 = .ok (.aload_n 0, 1) := by decide +kernel
theorem dX5_isFull_5 : decode cX5_isFull 5 = .ok (.getfield 24, 3) := by decide +kernel
theorem dX5_isFull_8 : decode cX5_isFull 8 = .ok (.if_icmp .lt 7, 3) := by decide +kernel
theorem dX5_isFull_11 : decode cX5_isFull 11 = .ok (.iconst 1, 1) := by decide +kernel
theorem dX5_isFull_12 : decode cX5_isFull 12 = .ok (.goto 4, 3) := by decide +kernel
theorem dX5_isFull_15 : decode cX5_isFull 15 = .ok (.iconst 0, 1) := by decide +kernel
theorem dX5_isFull_16 : decode cX5_isFull 16 = .ok (.ireturn, 1) := by decide +kernel
theorem dX5_at_0 : decode cX5_at 0 = .ok (.iload_n 1, 1) := by decide +kernel
theorem dX5_at_1 : decode cX5_at 1 = .ok (.ifCond .lt 23, 3) := by decide +kernel
theorem dX5_at_4 : decode cX5_at 4 = .ok (.iload_n 1, 1) := by decide +kernel
theorem dX5_at_5 : decode cX5_at 5 = .ok (.aload_n 0, 1) := by decide +kernel
theorem dX5_at_6 : decode cX5_at 6 = .ok (.getfield 9, 3) := by decide +kernel
theorem dX5_at_9 : decode cX5_at 9 = .ok (.if_icmp .ge 15, 3) := by decide +kernel
theorem dX5_at_12 : decode cX5_at 12 = .ok (.iload_n 2, 1) := by decide +kernel
theorem dX5_at_13 : decode cX5_at 13 = .ok (.ifCond .lt 11, 3) := by decide +kernel
theorem dX5_at_16 : decode cX5_at 16 = .ok (.iload_n 2, 1) := by decide +kernel
theorem dX5_at_17 : decode cX5_at 17 = .ok (.aload_n 0, 1) := by decide +kernel
theorem dX5_at_18 : decode cX5_at 18 = .ok (.getfield 21, 3) := by decide +kernel
theorem dX5_at_21 : decode cX5_at 21 = .ok (.if_icmp .lt 5, 3) := by decide +kernel
theorem dX5_at_24 : decode cX5_at 24 = .ok (.iconst (-1), 1) := by decide +kernel
theorem dX5_at_25 : decode cX5_at 25 = .ok (.ireturn, 1) := by decide +kernel
theorem dX5_at_26 : decode cX5_at 26 = .ok (.aload_n 0, 1) := by decide +kernel
theorem dX5_at_27 : decode cX5_at 27 = .ok (.getfield 27, 3) := by decide +kernel
theorem dX5_at_30 : decode cX5_at 30 = .ok (.iload_n 1, 1) := by decide +kernel
theorem dX5_at_31 : decode cX5_at 31 = .ok (.aload_n 0, 1) := by decide +kernel
theorem dX5_at_32 : decode cX5_at 32 = .ok (.getfield 21, 3) := by decide +kernel
theorem dX5_at_35 : decode cX5_at 35 = .ok (.imul, 1) := by decide +kernel
theorem dX5_at_36 : decode cX5_at 36 = .ok (.iload_n 2, 1) := by decide +kernel
theorem dX5_at_37 : decode cX5_at 37 = .ok (.iadd, 1) := by decide +kernel
theorem dX5_at_38 : decode cX5_at 38 = .ok (.iaload, 1) := by decide +kernel
theorem dX5_at_39 : decode cX5_at 39 = .ok (.ireturn, 1) := by decide +kernel
theorem dX5_put_0 : decode cX5_put 0 = .ok (.iload_n 1, 1) := by decide +kernel
theorem dX5_put_1 : decode cX5_put 1 = .ok (.ifCond .lt 37, 3) := by decide +kernel
theorem dX5_put_4 : decode cX5_put 4 = .ok (.iload_n 1, 1) := by decide +kernel
theorem dX5_put_5 : decode cX5_put 5 = .ok (.aload_n 0, 1) := by decide +kernel
theorem dX5_put_6 : decode cX5_put 6 = .ok (.getfield 9, 3) := by decide +kernel
theorem dX5_put_9 : decode cX5_put 9 = .ok (.if_icmp .ge 29, 3) := by decide +kernel
theorem dX5_put_12 : decode cX5_put 12 = .ok (.iload_n 2, 1) := by decide +kernel
theorem dX5_put_13 : decode cX5_put 13 = .ok (.ifCond .lt 25, 3) := by decide +kernel
theorem dX5_put_16 : decode cX5_put 16 = .ok (.iload_n 2, 1) := by decide +kernel
theorem dX5_put_17 : decode cX5_put 17 = .ok (.aload_n 0, 1) := by decide +kernel
theorem dX5_put_18 : decode cX5_put 18 = .ok (.getfield 21, 3) := by decide +kernel
theorem dX5_put_21 : decode cX5_put 21 = .ok (.if_icmp .ge 17, 3) := by decide +kernel
theorem dX5_put_24 : decode cX5_put 24 = .ok (.aload_n 0, 1) := by decide +kernel
theorem dX5_put_25 : decode cX5_put 25 = .ok (.getfield 27, 3) := by decide +kernel
theorem dX5_put_28 : decode cX5_put 28 = .ok (.iload_n 1, 1) := by decide +kernel
theorem dX5_put_29 : decode cX5_put 29 = .ok (.aload_n 0, 1) := by decide +kernel
theorem dX5_put_30 : decode cX5_put 30 = .ok (.getfield 21, 3) := by decide +kernel
theorem dX5_put_33 : decode cX5_put 33 = .ok (.imul, 1) := by decide +kernel
theorem dX5_put_34 : decode cX5_put 34 = .ok (.iload_n 2, 1) := by decide +kernel
theorem dX5_put_35 : decode cX5_put 35 = .ok (.iadd, 1) := by decide +kernel
theorem dX5_put_36 : decode cX5_put 36 = .ok (.iload_n 3, 1) := by decide +kernel
theorem dX5_put_37 : decode cX5_put 37 = .ok (.iastore, 1) := by decide +kernel
theorem dX5_put_38 : decode cX5_put 38 = .ok (.return_, 1) := by decide +kernel
theorem dX5_raise_0 : decode cX5_raise 0 = .ok (.aload_n 0, 1) := by decide +kernel
theorem dX5_raise_1 : decode cX5_raise 1 = .ok (.iload_n 1, 1) := by decide +kernel
theorem dX5_raise_2 : decode cX5_raise 2 = .ok (.iload_n 2, 1) := by decide +kernel
theorem dX5_raise_3 : decode cX5_raise 3 = .ok (.aload_n 0, 1) := by decide +kernel
theorem dX5_raise_4 : decode cX5_raise 4 = .ok (.iload_n 1, 1) := by decide +kernel
theorem dX5_raise_5 : decode cX5_raise 5 = .ok (.iload_n 2, 1) := by decide +kernel
theorem dX5_raise_6 : decode cX5_raise 6 = .ok (.invokevirtual 31, 3) := by decide +kernel
theorem dX5_raise_9 : decode cX5_raise 9 = .ok (.iload_n 3, 1) := by decide +kernel
theorem dX5_raise_10 : decode cX5_raise 10 = .ok (.iadd, 1) := by decide +kernel
theorem dX5_raise_11 : decode cX5_raise 11 = .ok (.invokevirtual 34, 3) := by decide +kernel
theorem dX5_raise_14 : decode cX5_raise 14 = .ok (.return_, 1) := by decide +kernel
theorem dX5_add_0 : decode cX5_add 0 = .ok (.aload_n 0, 1) := by decide +kernel
theorem dX5_add_1 : decode cX5_add 1 = .ok (.invokevirtual 38, 3) := by decide +kernel
theorem dX5_add_4 : decode cX5_add 4 = .ok (.ifCond .eq 5, 3) := by decide +kernel
theorem dX5_add_7 : decode cX5_add 7 = .ok (.iconst (-1), 1) := by decide +kernel
theorem dX5_add_8 : decode cX5_add 8 = .ok (.ireturn, 1) := by decide +kernel
theorem dX5_add_9 : decode cX5_add 9 = .ok (.aload_n 0, 1) := by decide +kernel
theorem dX5_add_10 : decode cX5_add 10 = .ok (.dup, 1) := by decide +kernel
theorem dX5_add_11 : decode cX5_add 11 = .ok (.getfield 9, 3) := by decide +kernel
theorem dX5_add_14 : decode cX5_add 14 = .ok (.iconst 1, 1) := by decide +kernel
theorem dX5_add_15 : decode cX5_add 15 = .ok (.iadd, 1) := by decide +kernel
theorem dX5_add_16 : decode cX5_add 16 = .ok (.putfield 9, 3) := by decide +kernel
theorem dX5_add_19 : decode cX5_add 19 = .ok (.iconst 0, 1) := by decide +kernel
theorem dX5_add_20 : decode cX5_add 20 = .ok (.istore_n 1, 1) := by decide +kernel
theorem dX5_add_21 : decode cX5_add 21 = .ok (.iload_n 1, 1) := by decide +kernel
theorem dX5_add_22 : decode cX5_add 22 = .ok (.aload_n 0, 1) := by decide +kernel
theorem dX5_add_23 : decode cX5_add 23 = .ok (.getfield 21, 3) := by decide +kernel
theorem dX5_add_26 : decode cX5_add 26 = .ok (.if_icmp .ge 21, 3) := by decide +kernel
theorem dX5_add_29 : decode cX5_add 29 = .ok (.aload_n 0, 1) := by decide +kernel
theorem dX5_add_30 : decode cX5_add 30 = .ok (.aload_n 0, 1) := by decide +kernel
theorem dX5_add_31 : decode cX5_add 31 = .ok (.getfield 9, 3) := by decide +kernel
theorem dX5_add_34 : decode cX5_add 34 = .ok (.iconst 1, 1) := by decide +kernel
theorem dX5_add_35 : decode cX5_add 35 = .ok (.isub, 1) := by decide +kernel
theorem dX5_add_36 : decode cX5_add 36 = .ok (.iload_n 1, 1) := by decide +kernel
theorem dX5_add_37 : decode cX5_add 37 = .ok (.iconst 0, 1) := by decide +kernel
theorem dX5_add_38 : decode cX5_add 38 = .ok (.invokevirtual 34, 3) := by decide +kernel
theorem dX5_add_41 : decode cX5_add 41 = .ok (.iinc 1 1, 3) := by decide +kernel
theorem dX5_add_44 : decode cX5_add 44 = .ok (.goto (-23), 3) := by decide +kernel
theorem dX5_add_47 : decode cX5_add 47 = .ok (.aload_n 0, 1) := by decide +kernel
theorem dX5_add_48 : decode cX5_add 48 = .ok (.getfield 9, 3) := by decide +kernel
theorem dX5_add_51 : decode cX5_add 51 = .ok (.iconst 1, 1) := by decide +kernel
theorem dX5_add_52 : decode cX5_add 52 = .ok (.isub, 1) := by decide +kernel
theorem dX5_add_53 : decode cX5_add 53 = .ok (.ireturn, 1) := by decide +kernel
theorem dX5_drop_0 : decode cX5_drop 0 = .ok (.aload_n 0, 1) := by decide +kernel
theorem dX5_drop_1 : decode cX5_drop 1 = .ok (.iload_n 1, 1) := by decide +kernel
theorem dX5_drop_2 : decode cX5_drop 2 = .ok (.invokevirtual 42, 3) := by decide +kernel
theorem dX5_drop_5 : decode cX5_drop 5 = .ok (.ifCond .ne 4, 3) := by decide +kernel
theorem dX5_drop_8 : decode cX5_drop 8 = .ok (.return_, 1) := by decide +kernel
theorem dX5_drop_9 : decode cX5_drop 9 = .ok (.iload_n 1, 1) := by decide +kernel
theorem dX5_drop_10 : decode cX5_drop 10 = .ok (.iconst 1, 1) := by decide +kernel
theorem dX5_drop_11 : decode cX5_drop 11 = .ok (.iadd, 1) := by decide +kernel
theorem dX5_drop_12 : decode cX5_drop 12 = .ok (.istore_n 2, 1) := by decide +kernel
theorem dX5_drop_13 : decode cX5_drop 13 = .ok (.iload_n 2, 1) := by decide +kernel
theorem dX5_drop_14 : decode cX5_drop 14 = .ok (.aload_n 0, 1) := by decide +kernel
theorem dX5_drop_15 : decode cX5_drop 15 = .ok (.getfield 9, 3) := by decide +kernel
theorem dX5_drop_18 : decode cX5_drop 18 = .ok (.if_icmp .ge 39, 3) := by decide +kernel
theorem dX5_drop_21 : decode cX5_drop 21 = .ok (.iconst 0, 1) := by decide +kernel
theorem dX5_drop_22 : decode cX5_drop 22 = .ok (.istore_n 3, 1) := by decide +kernel
theorem dX5_drop_23 : decode cX5_drop 23 = .ok (.iload_n 3, 1) := by decide +kernel
theorem dX5_drop_24 : decode cX5_drop 24 = .ok (.aload_n 0, 1) := by decide +kernel
theorem dX5_drop_25 : decode cX5_drop 25 = .ok (.getfield 21, 3) := by decide +kernel
theorem dX5_drop_28 : decode cX5_drop 28 = .ok (.if_icmp .ge 23, 3) := by decide +kernel
theorem dX5_drop_31 : decode cX5_drop 31 = .ok (.aload_n 0, 1) := by decide +kernel
theorem dX5_drop_32 : decode cX5_drop 32 = .ok (.iload_n 2, 1) := by decide +kernel
theorem dX5_drop_33 : decode cX5_drop 33 = .ok (.iconst 1, 1) := by decide +kernel
theorem dX5_drop_34 : decode cX5_drop 34 = .ok (.isub, 1) := by decide +kernel
theorem dX5_drop_35 : decode cX5_drop 35 = .ok (.iload_n 3, 1) := by decide +kernel
theorem dX5_drop_36 : decode cX5_drop 36 = .ok (.aload_n 0, 1) := by decide +kernel
theorem dX5_drop_37 : decode cX5_drop 37 = .ok (.iload_n 2, 1) := by decide +kernel
theorem dX5_drop_38 : decode cX5_drop 38 = .ok (.iload_n 3, 1) := by decide +kernel
theorem dX5_drop_39 : decode cX5_drop 39 = .ok (.invokevirtual 31, 3) := by decide +kernel
theorem dX5_drop_42 : decode cX5_drop 42 = .ok (.invokevirtual 34, 3) := by decide +kernel
theorem dX5_drop_45 : decode cX5_drop 45 = .ok (.iinc 3 1, 3) := by decide +kernel
theorem dX5_drop_48 : decode cX5_drop 48 = .ok (.goto (-25), 3) := by decide +kernel
theorem dX5_drop_51 : decode cX5_drop 51 = .ok (.iinc 2 1, 3) := by decide +kernel
theorem dX5_drop_54 : decode cX5_drop 54 = .ok (.goto (-41), 3) := by decide +kernel
theorem dX5_drop_57 : decode cX5_drop 57 = .ok (.aload_n 0, 1) := by decide +kernel
theorem dX5_drop_58 : decode cX5_drop 58 = .ok (.dup, 1) := by decide +kernel
theorem dX5_drop_59 : decode cX5_drop 59 = .ok (.getfield 9, 3) := by decide +kernel
theorem dX5_drop_62 : decode cX5_drop 62 = .ok (.iconst 1, 1) := by decide +kernel
theorem dX5_drop_63 : decode cX5_drop 63 = .ok (.isub, 1) := by decide +kernel
theorem dX5_drop_64 : decode cX5_drop 64 = .ok (.putfield 9, 3) := by decide +kernel
theorem dX5_drop_67 : decode cX5_drop 67 = .ok (.return_, 1) := by decide +kernel
theorem dX5_become_0 : decode cX5_become 0 = .ok (.aload_n 0, 1) := by decide +kernel
theorem dX5_become_1 : decode cX5_become 1 = .ok (.aload_n 1, 1) := by decide +kernel
theorem dX5_become_2 : decode cX5_become 2 = .ok (.getfield 9, 3) := by decide +kernel
theorem dX5_become_5 : decode cX5_become 5 = .ok (.aload_n 0, 1) := by decide +kernel
theorem dX5_become_6 : decode cX5_become 6 = .ok (.getfield 24, 3) := by decide +kernel
theorem dX5_become_9 : decode cX5_become 9 = .ok (.invokestatic 46, 3) := by decide +kernel
theorem dX5_become_12 : decode cX5_become 12 = .ok (.putfield 9, 3) := by decide +kernel
theorem dX5_become_15 : decode cX5_become 15 = .ok (.aload_n 1, 1) := by decide +kernel
theorem dX5_become_16 : decode cX5_become 16 = .ok (.getfield 27, 3) := by decide +kernel
theorem dX5_become_19 : decode cX5_become 19 = .ok (.iconst 0, 1) := by decide +kernel
theorem dX5_become_20 : decode cX5_become 20 = .ok (.aload_n 0, 1) := by decide +kernel
theorem dX5_become_21 : decode cX5_become 21 = .ok (.getfield 27, 3) := by decide +kernel
theorem dX5_become_24 : decode cX5_become 24 = .ok (.iconst 0, 1) := by decide +kernel
theorem dX5_become_25 : decode cX5_become 25 = .ok (.aload_n 1, 1) := by decide +kernel
theorem dX5_become_26 : decode cX5_become 26 = .ok (.getfield 27, 3) := by decide +kernel
theorem dX5_become_29 : decode cX5_become 29 = .ok (.arraylength, 1) := by decide +kernel
theorem dX5_become_30 : decode cX5_become 30 = .ok (.aload_n 0, 1) := by decide +kernel
theorem dX5_become_31 : decode cX5_become 31 = .ok (.getfield 27, 3) := by decide +kernel
theorem dX5_become_34 : decode cX5_become 34 = .ok (.arraylength, 1) := by decide +kernel
theorem dX5_become_35 : decode cX5_become 35 = .ok (.invokestatic 46, 3) := by decide +kernel
theorem dX5_become_38 : decode cX5_become 38 = .ok (.invokestatic 49, 3) := by decide +kernel
theorem dX5_become_41 : decode cX5_become 41 = .ok (.return_, 1) := by decide +kernel
theorem dX6_init_0 : decode cX6_init 0 = .ok (.aload_n 0, 1) := by decide +kernel
theorem dX6_init_1 : decode cX6_init 1 = .ok (.invokespecial 3, 3) := by decide +kernel
theorem dX6_init_4 : decode cX6_init 4 = .ok (.aload_n 0, 1) := by decide +kernel
theorem dX6_init_5 : decode cX6_init 5 = .ok (.sipush 400, 3) := by decide +kernel
theorem dX6_init_8 : decode cX6_init 8 = .ok (.newarray .byte, 2) := by decide +kernel
theorem dX6_init_10 : decode cX6_init 10 = .ok (.putfield 9, 3) := by decide +kernel
theorem dX6_init_13 : decode cX6_init 13 = .ok (.aload_n 0, 1) := by decide +kernel
theorem dX6_init_14 : decode cX6_init 14 = .ok (.iconst 0, 1) := by decide +kernel
theorem dX6_init_15 : decode cX6_init 15 = .ok (.putfield 15, 3) := by decide +kernel
theorem dX6_init_18 : decode cX6_init 18 = .ok (.return_, 1) := by decide +kernel
theorem dX6_hasRoom_0 : decode cX6_hasRoom 0 = .ok (.aload_n 0, 1) := by decide +kernel
theorem dX6_hasRoom_1 : decode cX6_hasRoom 1 = .ok (.getfield 15, 3) := by decide +kernel
theorem dX6_hasRoom_4 : decode cX6_hasRoom 4 = .ok (.bipush 20, 2) := by decide +kernel
theorem dX6_hasRoom_6 : decode cX6_hasRoom 6 = .ok (.iadd, 1) := by decide +kernel
theorem dX6_hasRoom_7 : decode cX6_hasRoom 7 = .ok (.sipush 400, 3) := by decide +kernel
theorem dX6_hasRoom_10 : decode cX6_hasRoom 10 = .ok (.if_icmp .gt 7, 3) := by decide +kernel
theorem dX6_hasRoom_13 : decode cX6_hasRoom 13 = .ok (.iconst 1, 1) := by decide +kernel
theorem dX6_hasRoom_14 : decode cX6_hasRoom 14 = .ok (.goto 4, 3) := by decide +kernel
theorem dX6_hasRoom_17 : decode cX6_hasRoom 17 = .ok (.iconst 0, 1) := by decide +kernel
theorem dX6_hasRoom_18 : decode cX6_hasRoom 18 = .ok (.ireturn, 1) := by decide +kernel
theorem dX6_append_0 : decode cX6_append 0 = .ok (.bipush 24, 2) := by decide +kernel
theorem dX6_append_2 : decode cX6_append 2 = .ok (.istore_n 2, 1) := by decide +kernel
theorem dX6_append_3 : decode cX6_append 3 = .ok (.iload_n 2, 1) := by decide +kernel
theorem dX6_append_4 : decode cX6_append 4 = .ok (.ifCond .lt 42, 3) := by decide +kernel
theorem dX6_append_7 : decode cX6_append 7 = .ok (.aload_n 0, 1) := by decide +kernel
theorem dX6_append_8 : decode cX6_append 8 = .ok (.getfield 15, 3) := by decide +kernel
theorem dX6_append_11 : decode cX6_append 11 = .ok (.sipush 400, 3) := by decide +kernel
theorem dX6_append_14 : decode cX6_append 14 = .ok (.if_icmp .ge 26, 3) := by decide +kernel
theorem dX6_append_17 : decode cX6_append 17 = .ok (.aload_n 0, 1) := by decide +kernel
theorem dX6_append_18 : decode cX6_append 18 = .ok (.getfield 9, 3) := by decide +kernel
theorem dX6_append_21 : decode cX6_append 21 = .ok (.aload_n 0, 1) := by decide +kernel
theorem dX6_append_22 : decode cX6_append 22 = .ok (.getfield 15, 3) := by decide +kernel
theorem dX6_append_25 : decode cX6_append 25 = .ok (.iload_n 1, 1) := by decide +kernel
theorem dX6_append_26 : decode cX6_append 26 = .ok (.iload_n 2, 1) := by decide +kernel
theorem dX6_append_27 : decode cX6_append 27 = .ok (.ishr, 1) := by decide +kernel
theorem dX6_append_28 : decode cX6_append 28 = .ok (.i2b, 1) := by decide +kernel
theorem dX6_append_29 : decode cX6_append 29 = .ok (.bastore, 1) := by decide +kernel
theorem dX6_append_30 : decode cX6_append 30 = .ok (.aload_n 0, 1) := by decide +kernel
theorem dX6_append_31 : decode cX6_append 31 = .ok (.dup, 1) := by decide +kernel
theorem dX6_append_32 : decode cX6_append 32 = .ok (.getfield 15, 3) := by decide +kernel
theorem dX6_append_35 : decode cX6_append 35 = .ok (.iconst 1, 1) := by decide +kernel
theorem dX6_append_36 : decode cX6_append 36 = .ok (.iadd, 1) := by decide +kernel
theorem dX6_append_37 : decode cX6_append 37 = .ok (.putfield 15, 3) := by decide +kernel
theorem dX6_append_40 : decode cX6_append 40 = .ok (.iinc 2 (-8), 3) := by decide +kernel
theorem dX6_append_43 : decode cX6_append 43 = .ok (.goto (-40), 3) := by decide +kernel
theorem dX6_append_46 : decode cX6_append 46 = .ok (.return_, 1) := by decide +kernel
theorem dX6_at_0 : decode cX6_at 0 = .ok (.iload_n 1, 1) := by decide +kernel
theorem dX6_at_1 : decode cX6_at 1 = .ok (.ifCond .lt 31, 3) := by decide +kernel
theorem dX6_at_4 : decode cX6_at 4 = .ok (.iload_n 1, 1) := by decide +kernel
theorem dX6_at_5 : decode cX6_at 5 = .ok (.aload_n 0, 1) := by decide +kernel
theorem dX6_at_6 : decode cX6_at 6 = .ok (.getfield 15, 3) := by decide +kernel
theorem dX6_at_9 : decode cX6_at 9 = .ok (.if_icmp .ge 23, 3) := by decide +kernel
theorem dX6_at_12 : decode cX6_at 12 = .ok (.iload_n 1, 1) := by decide +kernel
theorem dX6_at_13 : decode cX6_at 13 = .ok (.sipush 400, 3) := by decide +kernel
theorem dX6_at_16 : decode cX6_at 16 = .ok (.if_icmp .ge 16, 3) := by decide +kernel
theorem dX6_at_19 : decode cX6_at 19 = .ok (.aload_n 0, 1) := by decide +kernel
theorem dX6_at_20 : decode cX6_at 20 = .ok (.getfield 9, 3) := by decide +kernel
theorem dX6_at_23 : decode cX6_at 23 = .ok (.iload_n 1, 1) := by decide +kernel
theorem dX6_at_24 : decode cX6_at 24 = .ok (.baload, 1) := by decide +kernel
theorem dX6_at_25 : decode cX6_at 25 = .ok (.sipush 255, 3) := by decide +kernel
theorem dX6_at_28 : decode cX6_at 28 = .ok (.iand, 1) := by decide +kernel
theorem dX6_at_29 : decode cX6_at 29 = .ok (.goto 4, 3) := by decide +kernel
theorem dX6_at_32 : decode cX6_at 32 = .ok (.iconst (-1), 1) := by decide +kernel
theorem dX6_at_33 : decode cX6_at 33 = .ok (.ireturn, 1) := by decide +kernel
theorem dX7_init_0 : decode cX7_init 0 = .ok (.aload_n 0, 1) := by decide +kernel
theorem dX7_init_1 : decode cX7_init 1 = .ok (.invokespecial 3, 3) := by decide +kernel
theorem dX7_init_4 : decode cX7_init 4 = .ok (.aload_n 0, 1) := by decide +kernel
theorem dX7_init_5 : decode cX7_init 5 = .ok (.new 9, 3) := by decide +kernel
theorem dX7_init_8 : decode cX7_init 8 = .ok (.dup, 1) := by decide +kernel
theorem dX7_init_9 : decode cX7_init 9 = .ok (.invokespecial 11, 3) := by decide +kernel
theorem dX7_init_12 : decode cX7_init 12 = .ok (.putfield 12, 3) := by decide +kernel
theorem dX7_init_15 : decode cX7_init 15 = .ok (.return_, 1) := by decide +kernel
theorem dX7_write_0 : decode cX7_write 0 = .ok (.aload_n 0, 1) := by decide +kernel
theorem dX7_write_1 : decode cX7_write 1 = .ok (.getfield 12, 3) := by decide +kernel
theorem dX7_write_4 : decode cX7_write 4 = .ok (.iconst 0, 1) := by decide +kernel
theorem dX7_write_5 : decode cX7_write 5 = .ok (.invokevirtual 18, 3) := by decide +kernel
theorem dX7_write_8 : decode cX7_write 8 = .ok (.aload_n 1, 1) := by decide +kernel
theorem dX7_write_9 : decode cX7_write 9 = .ok (.invokevirtual 22, 3) := by decide +kernel
theorem dX7_write_12 : decode cX7_write 12 = .ok (.ifCond .ne 4, 3) := by decide +kernel
theorem dX7_write_15 : decode cX7_write 15 = .ok (.return_, 1) := by decide +kernel
theorem dX7_write_16 : decode cX7_write 16 = .ok (.aload_n 0, 1) := by decide +kernel
theorem dX7_write_17 : decode cX7_write 17 = .ok (.getfield 12, 3) := by decide +kernel
theorem dX7_write_20 : decode cX7_write 20 = .ok (.ldc 28, 2) := by decide +kernel
theorem dX7_write_22 : decode cX7_write 22 = .ok (.invokevirtual 30, 3) := by decide +kernel
theorem dX7_write_25 : decode cX7_write 25 = .ok (.pop, 1) := by decide +kernel
theorem dX7_write_26 : decode cX7_write 26 = .ok (.aload_n 0, 1) := by decide +kernel
theorem dX7_write_27 : decode cX7_write 27 = .ok (.aload_n 1, 1) := by decide +kernel
theorem dX7_write_28 : decode cX7_write 28 = .ok (.getfield 34, 3) := by decide +kernel
theorem dX7_write_31 : decode cX7_write 31 = .ok (.invokevirtual 37, 3) := by decide +kernel
theorem dX7_write_34 : decode cX7_write 34 = .ok (.aload_n 0, 1) := by decide +kernel
theorem dX7_write_35 : decode cX7_write 35 = .ok (.aload_n 1, 1) := by decide +kernel
theorem dX7_write_36 : decode cX7_write 36 = .ok (.invokevirtual 40, 3) := by decide +kernel
theorem dX7_write_39 : decode cX7_write 39 = .ok (.aload_n 0, 1) := by decide +kernel
theorem dX7_write_40 : decode cX7_write 40 = .ok (.aload_n 1, 1) := by decide +kernel
theorem dX7_write_41 : decode cX7_write 41 = .ok (.invokevirtual 44, 3) := by decide +kernel
theorem dX7_write_44 : decode cX7_write 44 = .ok (.aload_n 0, 1) := by decide +kernel
theorem dX7_write_45 : decode cX7_write 45 = .ok (.aload_n 1, 1) := by decide +kernel
theorem dX7_write_46 : decode cX7_write 46 = .ok (.invokevirtual 47, 3) := by decide +kernel
theorem dX7_write_49 : decode cX7_write 49 = .ok (.aload_n 0, 1) := by decide +kernel
theorem dX7_write_50 : decode cX7_write 50 = .ok (.aload_n 1, 1) := by decide +kernel
theorem dX7_write_51 : decode cX7_write 51 = .ok (.invokevirtual 50, 3) := by decide +kernel
theorem dX7_write_54 : decode cX7_write 54 = .ok (.aload_n 0, 1) := by decide +kernel
theorem dX7_write_55 : decode cX7_write 55 = .ok (.ldc 53, 2) := by decide +kernel
theorem dX7_write_57 : decode cX7_write 57 = .ok (.invokevirtual 55, 3) := by decide +kernel
theorem dX7_write_60 : decode cX7_write 60 = .ok (.aload_n 0, 1) := by decide +kernel
theorem dX7_write_61 : decode cX7_write 61 = .ok (.aload_n 1, 1) := by decide +kernel
theorem dX7_write_62 : decode cX7_write 62 = .ok (.getfield 59, 3) := by decide +kernel
theorem dX7_write_65 : decode cX7_write 65 = .ok (.invokevirtual 37, 3) := by decide +kernel
theorem dX7_write_68 : decode cX7_write 68 = .ok (.aload_n 0, 1) := by decide +kernel
theorem dX7_write_69 : decode cX7_write 69 = .ok (.aload_n 1, 1) := by decide +kernel
theorem dX7_write_70 : decode cX7_write 70 = .ok (.getfield 61, 3) := by decide +kernel
theorem dX7_write_73 : decode cX7_write 73 = .ok (.invokevirtual 37, 3) := by decide +kernel
theorem dX7_write_76 : decode cX7_write 76 = .ok (.return_, 1) := by decide +kernel
theorem dX7_putWord_0 : decode cX7_putWord 0 = .ok (.aload_n 0, 1) := by decide +kernel
theorem dX7_putWord_1 : decode cX7_putWord 1 = .ok (.getfield 12, 3) := by decide +kernel
theorem dX7_putWord_4 : decode cX7_putWord 4 = .ok (.bipush 59, 2) := by decide +kernel
theorem dX7_putWord_6 : decode cX7_putWord 6 = .ok (.invokevirtual 64, 3) := by decide +kernel
theorem dX7_putWord_9 : decode cX7_putWord 9 = .ok (.pop, 1) := by decide +kernel
theorem dX7_putWord_10 : decode cX7_putWord 10 = .ok (.aload_n 0, 1) := by decide +kernel
theorem dX7_putWord_11 : decode cX7_putWord 11 = .ok (.getfield 12, 3) := by decide +kernel
theorem dX7_putWord_14 : decode cX7_putWord 14 = .ok (.aload_n 1, 1) := by decide +kernel
theorem dX7_putWord_15 : decode cX7_putWord 15 = .ok (.invokevirtual 30, 3) := by decide +kernel
theorem dX7_putWord_18 : decode cX7_putWord 18 = .ok (.pop, 1) := by decide +kernel
theorem dX7_putWord_19 : decode cX7_putWord 19 = .ok (.return_, 1) := by decide +kernel
theorem dX7_putNumber_0 : decode cX7_putNumber 0 = .ok (.aload_n 0, 1) := by decide +kernel
theorem dX7_putNumber_1 : decode cX7_putNumber 1 = .ok (.getfield 12, 3) := by decide +kernel
theorem dX7_putNumber_4 : decode cX7_putNumber 4 = .ok (.bipush 32, 2) := by decide +kernel
theorem dX7_putNumber_6 : decode cX7_putNumber 6 = .ok (.invokevirtual 64, 3) := by decide +kernel
theorem dX7_putNumber_9 : decode cX7_putNumber 9 = .ok (.pop, 1) := by decide +kernel
theorem dX7_putNumber_10 : decode cX7_putNumber 10 = .ok (.aload_n 0, 1) := by decide +kernel
theorem dX7_putNumber_11 : decode cX7_putNumber 11 = .ok (.getfield 12, 3) := by decide +kernel
theorem dX7_putNumber_14 : decode cX7_putNumber 14 = .ok (.iload_n 1, 1) := by decide +kernel
theorem dX7_putNumber_15 : decode cX7_putNumber 15 = .ok (.invokevirtual 67, 3) := by decide +kernel
theorem dX7_putNumber_18 : decode cX7_putNumber 18 = .ok (.pop, 1) := by decide +kernel
theorem dX7_putNumber_19 : decode cX7_putNumber 19 = .ok (.return_, 1) := by decide +kernel
theorem dX7_putSegments_0 : decode cX7_putSegments 0 = .ok (.iconst 0, 1) := by decide +kernel
theorem dX7_putSegments_1 : decode cX7_putSegments 1 = .ok (.istore_n 2, 1) := by decide +kernel
theorem dX7_putSegments_2 : decode cX7_putSegments 2 = .ok (.iload_n 2, 1) := by decide +kernel
theorem dX7_putSegments_3 : decode cX7_putSegments 3 = .ok (.aload_n 1, 1) := by decide +kernel
theorem dX7_putSegments_4 : decode cX7_putSegments 4 = .ok (.getfield 70, 3) := by decide +kernel
theorem dX7_putSegments_7 : decode cX7_putSegments 7 = .ok (.getfield 74, 3) := by decide +kernel
theorem dX7_putSegments_10 : decode cX7_putSegments 10 = .ok (.if_icmp .ge 46, 3) := by decide +kernel
theorem dX7_putSegments_13 : decode cX7_putSegments 13 = .ok (.aload_n 0, 1) := by decide +kernel
theorem dX7_putSegments_14 : decode cX7_putSegments 14 = .ok (.ldc 79, 2) := by decide +kernel
theorem dX7_putSegments_16 : decode cX7_putSegments 16 = .ok (.invokevirtual 55, 3) := by decide +kernel
theorem dX7_putSegments_19 : decode cX7_putSegments 19 = .ok (.aload_n 0, 1) := by decide +kernel
theorem dX7_putSegments_20 : decode cX7_putSegments 20 = .ok (.iload_n 2, 1) := by decide +kernel
theorem dX7_putSegments_21 : decode cX7_putSegments 21 = .ok (.invokevirtual 37, 3) := by decide +kernel
theorem dX7_putSegments_24 : decode cX7_putSegments 24 = .ok (.aload_n 0, 1) := by decide +kernel
theorem dX7_putSegments_25 : decode cX7_putSegments 25 = .ok (.aload_n 1, 1) := by decide +kernel
theorem dX7_putSegments_26 : decode cX7_putSegments 26 = .ok (.getfield 70, 3) := by decide +kernel
theorem dX7_putSegments_29 : decode cX7_putSegments 29 = .ok (.iload_n 2, 1) := by decide +kernel
theorem dX7_putSegments_30 : decode cX7_putSegments 30 = .ok (.iconst 0, 1) := by decide +kernel
theorem dX7_putSegments_31 : decode cX7_putSegments 31 = .ok (.invokevirtual 81, 3) := by decide +kernel
theorem dX7_putSegments_34 : decode cX7_putSegments 34 = .ok (.invokevirtual 37, 3) := by decide +kernel
theorem dX7_putSegments_37 : decode cX7_putSegments 37 = .ok (.aload_n 0, 1) := by decide +kernel
theorem dX7_putSegments_38 : decode cX7_putSegments 38 = .ok (.aload_n 1, 1) := by decide +kernel
theorem dX7_putSegments_39 : decode cX7_putSegments 39 = .ok (.getfield 70, 3) := by decide +kernel
theorem dX7_putSegments_42 : decode cX7_putSegments 42 = .ok (.iload_n 2, 1) := by decide +kernel
theorem dX7_putSegments_43 : decode cX7_putSegments 43 = .ok (.iconst 1, 1) := by decide +kernel
theorem dX7_putSegments_44 : decode cX7_putSegments 44 = .ok (.invokevirtual 81, 3) := by decide +kernel
theorem dX7_putSegments_47 : decode cX7_putSegments 47 = .ok (.invokevirtual 37, 3) := by decide +kernel
theorem dX7_putSegments_50 : decode cX7_putSegments 50 = .ok (.iinc 2 1, 3) := by decide +kernel
theorem dX7_putSegments_53 : decode cX7_putSegments 53 = .ok (.goto (-51), 3) := by decide +kernel
theorem dX7_putSegments_56 : decode cX7_putSegments 56 = .ok (.return_, 1) := by decide +kernel
theorem dX7_putPoints_0 : decode cX7_putPoints 0 = .ok (.iconst 0, 1) := by decide +kernel
theorem dX7_putPoints_1 : decode cX7_putPoints 1 = .ok (.istore_n 2, 1) := by decide +kernel
theorem dX7_putPoints_2 : decode cX7_putPoints 2 = .ok (.iload_n 2, 1) := by decide +kernel
theorem dX7_putPoints_3 : decode cX7_putPoints 3 = .ok (.aload_n 1, 1) := by decide +kernel
theorem dX7_putPoints_4 : decode cX7_putPoints 4 = .ok (.getfield 85, 3) := by decide +kernel
theorem dX7_putPoints_7 : decode cX7_putPoints 7 = .ok (.getfield 74, 3) := by decide +kernel
theorem dX7_putPoints_10 : decode cX7_putPoints 10 = .ok (.if_icmp .ge 50, 3) := by decide +kernel
theorem dX7_putPoints_13 : decode cX7_putPoints 13 = .ok (.aload_n 0, 1) := by decide +kernel
theorem dX7_putPoints_14 : decode cX7_putPoints 14 = .ok (.aload_n 1, 1) := by decide +kernel
theorem dX7_putPoints_15 : decode cX7_putPoints 15 = .ok (.iload_n 2, 1) := by decide +kernel
theorem dX7_putPoints_16 : decode cX7_putPoints 16 = .ok (.invokevirtual 88, 3) := by decide +kernel
theorem dX7_putPoints_19 : decode cX7_putPoints 19 = .ok (.ifCond .eq 8, 3) := by decide +kernel
theorem dX7_putPoints_22 : decode cX7_putPoints 22 = .ok (.ldc 92, 2) := by decide +kernel
theorem dX7_putPoints_24 : decode cX7_putPoints 24 = .ok (.goto 5, 3) := by decide +kernel
theorem dX7_putPoints_27 : decode cX7_putPoints 27 = .ok (.ldc 94, 2) := by decide +kernel
theorem dX7_putPoints_29 : decode cX7_putPoints 29 = .ok (.invokevirtual 55, 3) := by decide +kernel
theorem dX7_putPoints_32 : decode cX7_putPoints 32 = .ok (.aload_n 0, 1) := by decide +kernel
theorem dX7_putPoints_33 : decode cX7_putPoints 33 = .ok (.aload_n 1, 1) := by decide +kernel
theorem dX7_putPoints_34 : decode cX7_putPoints 34 = .ok (.iload_n 2, 1) := by decide +kernel
theorem dX7_putPoints_35 : decode cX7_putPoints 35 = .ok (.invokevirtual 96, 3) := by decide +kernel
theorem dX7_putPoints_38 : decode cX7_putPoints 38 = .ok (.invokevirtual 37, 3) := by decide +kernel
theorem dX7_putPoints_41 : decode cX7_putPoints 41 = .ok (.aload_n 0, 1) := by decide +kernel
theorem dX7_putPoints_42 : decode cX7_putPoints 42 = .ok (.aload_n 1, 1) := by decide +kernel
theorem dX7_putPoints_43 : decode cX7_putPoints 43 = .ok (.getfield 85, 3) := by decide +kernel
theorem dX7_putPoints_46 : decode cX7_putPoints 46 = .ok (.iload_n 2, 1) := by decide +kernel
theorem dX7_putPoints_47 : decode cX7_putPoints 47 = .ok (.iconst 2, 1) := by decide +kernel
theorem dX7_putPoints_48 : decode cX7_putPoints 48 = .ok (.invokevirtual 81, 3) := by decide +kernel
theorem dX7_putPoints_51 : decode cX7_putPoints 51 = .ok (.invokevirtual 37, 3) := by decide +kernel
theorem dX7_putPoints_54 : decode cX7_putPoints 54 = .ok (.iinc 2 1, 3) := by decide +kernel
theorem dX7_putPoints_57 : decode cX7_putPoints 57 = .ok (.goto (-55), 3) := by decide +kernel
theorem dX7_putPoints_60 : decode cX7_putPoints 60 = .ok (.return_, 1) := by decide +kernel
theorem dX7_putShippers_0 : decode cX7_putShippers 0 = .ok (.iconst 0, 1) := by decide +kernel
theorem dX7_putShippers_1 : decode cX7_putShippers 1 = .ok (.istore_n 2, 1) := by decide +kernel
theorem dX7_putShippers_2 : decode cX7_putShippers 2 = .ok (.iload_n 2, 1) := by decide +kernel
theorem dX7_putShippers_3 : decode cX7_putShippers 3 = .ok (.aload_n 1, 1) := by decide +kernel
theorem dX7_putShippers_4 : decode cX7_putShippers 4 = .ok (.getfield 100, 3) := by decide +kernel
theorem dX7_putShippers_7 : decode cX7_putShippers 7 = .ok (.getfield 74, 3) := by decide +kernel
theorem dX7_putShippers_10 : decode cX7_putShippers 10 = .ok (.if_icmp .ge 41, 3) := by decide +kernel
theorem dX7_putShippers_13 : decode cX7_putShippers 13 = .ok (.aload_n 0, 1) := by decide +kernel
theorem dX7_putShippers_14 : decode cX7_putShippers 14 = .ok (.ldc 103, 2) := by decide +kernel
theorem dX7_putShippers_16 : decode cX7_putShippers 16 = .ok (.invokevirtual 55, 3) := by decide +kernel
theorem dX7_putShippers_19 : decode cX7_putShippers 19 = .ok (.iconst 0, 1) := by decide +kernel
theorem dX7_putShippers_20 : decode cX7_putShippers 20 = .ok (.istore_n 3, 1) := by decide +kernel
theorem dX7_putShippers_21 : decode cX7_putShippers 21 = .ok (.iload_n 3, 1) := by decide +kernel
theorem dX7_putShippers_22 : decode cX7_putShippers 22 = .ok (.iconst 3, 1) := by decide +kernel
theorem dX7_putShippers_23 : decode cX7_putShippers 23 = .ok (.if_icmp .gt 22, 3) := by decide +kernel
theorem dX7_putShippers_26 : decode cX7_putShippers 26 = .ok (.aload_n 0, 1) := by decide +kernel
theorem dX7_putShippers_27 : decode cX7_putShippers 27 = .ok (.aload_n 1, 1) := by decide +kernel
theorem dX7_putShippers_28 : decode cX7_putShippers 28 = .ok (.getfield 100, 3) := by decide +kernel
theorem dX7_putShippers_31 : decode cX7_putShippers 31 = .ok (.iload_n 2, 1) := by decide +kernel
theorem dX7_putShippers_32 : decode cX7_putShippers 32 = .ok (.iload_n 3, 1) := by decide +kernel
theorem dX7_putShippers_33 : decode cX7_putShippers 33 = .ok (.invokevirtual 81, 3) := by decide +kernel
theorem dX7_putShippers_36 : decode cX7_putShippers 36 = .ok (.invokevirtual 37, 3) := by decide +kernel
theorem dX7_putShippers_39 : decode cX7_putShippers 39 = .ok (.iinc 3 1, 3) := by decide +kernel
theorem dX7_putShippers_42 : decode cX7_putShippers 42 = .ok (.goto (-21), 3) := by decide +kernel
theorem dX7_putShippers_45 : decode cX7_putShippers 45 = .ok (.iinc 2 1, 3) := by decide +kernel
theorem dX7_putShippers_48 : decode cX7_putShippers 48 = .ok (.goto (-46), 3) := by decide +kernel
theorem dX7_putShippers_51 : decode cX7_putShippers 51 = .ok (.return_, 1) := by decide +kernel
theorem dX7_putNominations_0 : decode cX7_putNominations 0 = .ok (.iconst 0, 1) := by decide +kernel
theorem dX7_putNominations_1 : decode cX7_putNominations 1 = .ok (.istore_n 2, 1) := by decide +kernel
theorem dX7_putNominations_2 : decode cX7_putNominations 2 = .ok (.iload_n 2, 1) := by decide +kernel
theorem dX7_putNominations_3 : decode cX7_putNominations 3 = .ok (.aload_n 1, 1) := by decide +kernel
theorem dX7_putNominations_4 : decode cX7_putNominations 4 = .ok (.getfield 105, 3) := by decide +kernel
theorem dX7_putNominations_7 : decode cX7_putNominations 7 = .ok (.getfield 74, 3) := by decide +kernel
theorem dX7_putNominations_10 : decode cX7_putNominations 10 = .ok (.if_icmp .ge 107, 3) := by decide +kernel
theorem dX7_putNominations_13 : decode cX7_putNominations 13 = .ok (.aload_n 1, 1) := by decide +kernel
theorem dX7_putNominations_14 : decode cX7_putNominations 14 = .ok (.getfield 105, 3) := by decide +kernel
theorem dX7_putNominations_17 : decode cX7_putNominations 17 = .ok (.iload_n 2, 1) := by decide +kernel
theorem dX7_putNominations_18 : decode cX7_putNominations 18 = .ok (.iconst 1, 1) := by decide +kernel
theorem dX7_putNominations_19 : decode cX7_putNominations 19 = .ok (.invokevirtual 81, 3) := by decide +kernel
theorem dX7_putNominations_22 : decode cX7_putNominations 22 = .ok (.istore_n 3, 1) := by decide +kernel
theorem dX7_putNominations_23 : decode cX7_putNominations 23 = .ok (.aload_n 1, 1) := by decide +kernel
theorem dX7_putNominations_24 : decode cX7_putNominations 24 = .ok (.getfield 105, 3) := by decide +kernel
theorem dX7_putNominations_27 : decode cX7_putNominations 27 = .ok (.iload_n 2, 1) := by decide +kernel
theorem dX7_putNominations_28 : decode cX7_putNominations 28 = .ok (.iconst 2, 1) := by decide +kernel
theorem dX7_putNominations_29 : decode cX7_putNominations 29 = .ok (.invokevirtual 81, 3) := by decide +kernel
theorem dX7_putNominations_32 : decode cX7_putNominations 32 = .ok (.istore 4, 2) := by decide +kernel
theorem dX7_putNominations_34 : decode cX7_putNominations 34 = .ok (.iload_n 3, 1) := by decide +kernel
theorem dX7_putNominations_35 : decode cX7_putNominations 35 = .ok (.iconst (-1), 1) := by decide +kernel
theorem dX7_putNominations_36 : decode cX7_putNominations 36 = .ok (.if_icmp .ne 8, 3) := by decide +kernel
theorem dX7_putNominations_39 : decode cX7_putNominations 39 = .ok (.ldc 108, 2) := by decide +kernel
theorem dX7_putNominations_41 : decode cX7_putNominations 41 = .ok (.goto 5, 3) := by decide +kernel
theorem dX7_putNominations_44 : decode cX7_putNominations 44 = .ok (.ldc 110, 2) := by decide +kernel
theorem dX7_putNominations_46 : decode cX7_putNominations 46 = .ok (.astore 5, 2) := by decide +kernel
theorem dX7_putNominations_48 : decode cX7_putNominations 48 = .ok (.aload_n 0, 1) := by decide +kernel
theorem dX7_putNominations_49 : decode cX7_putNominations 49 = .ok (.aload_n 1, 1) := by decide +kernel
theorem dX7_putNominations_50 : decode cX7_putNominations 50 = .ok (.iload_n 2, 1) := by decide +kernel
theorem dX7_putNominations_51 : decode cX7_putNominations 51 = .ok (.invokevirtual 112, 3) := by decide +kernel
theorem dX7_putNominations_54 : decode cX7_putNominations 54 = .ok (.ifCond .eq 8, 3) := by decide +kernel
theorem dX7_putNominations_57 : decode cX7_putNominations 57 = .ok (.ldc 115, 2) := by decide +kernel
theorem dX7_putNominations_59 : decode cX7_putNominations 59 = .ok (.goto 5, 3) := by decide +kernel
theorem dX7_putNominations_62 : decode cX7_putNominations 62 = .ok (.aload 5, 2) := by decide +kernel
theorem dX7_putNominations_64 : decode cX7_putNominations 64 = .ok (.invokevirtual 55, 3) := by decide +kernel
theorem dX7_putNominations_67 : decode cX7_putNominations 67 = .ok (.aload_n 0, 1) := by decide +kernel
theorem dX7_putNominations_68 : decode cX7_putNominations 68 = .ok (.aload_n 1, 1) := by decide +kernel
theorem dX7_putNominations_69 : decode cX7_putNominations 69 = .ok (.iload_n 2, 1) := by decide +kernel
theorem dX7_putNominations_70 : decode cX7_putNominations 70 = .ok (.invokevirtual 117, 3) := by decide +kernel
theorem dX7_putNominations_73 : decode cX7_putNominations 73 = .ok (.invokevirtual 37, 3) := by decide +kernel
theorem dX7_putNominations_76 : decode cX7_putNominations 76 = .ok (.iload_n 3, 1) := by decide +kernel
theorem dX7_putNominations_77 : decode cX7_putNominations 77 = .ok (.iconst (-1), 1) := by decide +kernel
theorem dX7_putNominations_78 : decode cX7_putNominations 78 = .ok (.if_icmp .eq 8, 3) := by decide +kernel
theorem dX7_putNominations_81 : decode cX7_putNominations 81 = .ok (.aload_n 0, 1) := by decide +kernel
theorem dX7_putNominations_82 : decode cX7_putNominations 82 = .ok (.iload_n 3, 1) := by decide +kernel
theorem dX7_putNominations_83 : decode cX7_putNominations 83 = .ok (.invokevirtual 37, 3) := by decide +kernel
theorem dX7_putNominations_86 : decode cX7_putNominations 86 = .ok (.iload 4, 2) := by decide +kernel
theorem dX7_putNominations_88 : decode cX7_putNominations 88 = .ok (.iconst (-1), 1) := by decide +kernel
theorem dX7_putNominations_89 : decode cX7_putNominations 89 = .ok (.if_icmp .eq 9, 3) := by decide +kernel
theorem dX7_putNominations_92 : decode cX7_putNominations 92 = .ok (.aload_n 0, 1) := by decide +kernel
theorem dX7_putNominations_93 : decode cX7_putNominations 93 = .ok (.iload 4, 2) := by decide +kernel
theorem dX7_putNominations_95 : decode cX7_putNominations 95 = .ok (.invokevirtual 37, 3) := by decide +kernel
theorem dX7_putNominations_98 : decode cX7_putNominations 98 = .ok (.aload_n 0, 1) := by decide +kernel
theorem dX7_putNominations_99 : decode cX7_putNominations 99 = .ok (.aload_n 1, 1) := by decide +kernel
theorem dX7_putNominations_100 : decode cX7_putNominations 100 = .ok (.getfield 105, 3) := by decide +kernel
theorem dX7_putNominations_103 : decode cX7_putNominations 103 = .ok (.iload_n 2, 1) := by decide +kernel
theorem dX7_putNominations_104 : decode cX7_putNominations 104 = .ok (.iconst 3, 1) := by decide +kernel
theorem dX7_putNominations_105 : decode cX7_putNominations 105 = .ok (.invokevirtual 81, 3) := by decide +kernel
theorem dX7_putNominations_108 : decode cX7_putNominations 108 = .ok (.invokevirtual 37, 3) := by decide +kernel
theorem dX7_putNominations_111 : decode cX7_putNominations 111 = .ok (.iinc 2 1, 3) := by decide +kernel
theorem dX7_putNominations_114 : decode cX7_putNominations 114 = .ok (.goto (-112), 3) := by decide +kernel
theorem dX7_putNominations_117 : decode cX7_putNominations 117 = .ok (.return_, 1) := by decide +kernel
theorem dX8_init_0 : decode cX8_init 0 = .ok (.aload_n 0, 1) := by decide +kernel
theorem dX8_init_1 : decode cX8_init 1 = .ok (.invokespecial 3, 3) := by decide +kernel
theorem dX8_init_4 : decode cX8_init 4 = .ok (.aload_n 0, 1) := by decide +kernel
theorem dX8_init_5 : decode cX8_init 5 = .ok (.new 9, 3) := by decide +kernel
theorem dX8_init_8 : decode cX8_init 8 = .ok (.dup, 1) := by decide +kernel
theorem dX8_init_9 : decode cX8_init 9 = .ok (.invokespecial 11, 3) := by decide +kernel
theorem dX8_init_12 : decode cX8_init 12 = .ok (.putfield 12, 3) := by decide +kernel
theorem dX8_init_15 : decode cX8_init 15 = .ok (.aload_n 0, 1) := by decide +kernel
theorem dX8_init_16 : decode cX8_init 16 = .ok (.new 9, 3) := by decide +kernel
theorem dX8_init_19 : decode cX8_init 19 = .ok (.dup, 1) := by decide +kernel
theorem dX8_init_20 : decode cX8_init 20 = .ok (.invokespecial 11, 3) := by decide +kernel
theorem dX8_init_23 : decode cX8_init 23 = .ok (.putfield 16, 3) := by decide +kernel
theorem dX8_init_26 : decode cX8_init 26 = .ok (.aload_n 0, 1) := by decide +kernel
theorem dX8_init_27 : decode cX8_init 27 = .ok (.new 19, 3) := by decide +kernel
theorem dX8_init_30 : decode cX8_init 30 = .ok (.dup, 1) := by decide +kernel
theorem dX8_init_31 : decode cX8_init 31 = .ok (.invokespecial 21, 3) := by decide +kernel
theorem dX8_init_34 : decode cX8_init 34 = .ok (.putfield 22, 3) := by decide +kernel
theorem dX8_init_37 : decode cX8_init 37 = .ok (.aload_n 0, 1) := by decide +kernel
theorem dX8_init_38 : decode cX8_init 38 = .ok (.new 26, 3) := by decide +kernel
theorem dX8_init_41 : decode cX8_init 41 = .ok (.dup, 1) := by decide +kernel
theorem dX8_init_42 : decode cX8_init 42 = .ok (.invokespecial 28, 3) := by decide +kernel
theorem dX8_init_45 : decode cX8_init 45 = .ok (.putfield 29, 3) := by decide +kernel
theorem dX8_init_48 : decode cX8_init 48 = .ok (.aload_n 0, 1) := by decide +kernel
theorem dX8_init_49 : decode cX8_init 49 = .ok (.iconst 2, 1) := by decide +kernel
theorem dX8_init_50 : decode cX8_init 50 = .ok (.anewarray 9, 3) := by decide +kernel
theorem dX8_init_53 : decode cX8_init 53 = .ok (.dup, 1) := by decide +kernel
theorem dX8_init_54 : decode cX8_init 54 = .ok (.iconst 0, 1) := by decide +kernel
theorem dX8_init_55 : decode cX8_init 55 = .ok (.new 9, 3) := by decide +kernel
theorem dX8_init_58 : decode cX8_init 58 = .ok (.dup, 1) := by decide +kernel
theorem dX8_init_59 : decode cX8_init 59 = .ok (.invokespecial 11, 3) := by decide +kernel
theorem dX8_init_62 : decode cX8_init 62 = .ok (.aastore, 1) := by decide +kernel
theorem dX8_init_63 : decode cX8_init 63 = .ok (.dup, 1) := by decide +kernel
theorem dX8_init_64 : decode cX8_init 64 = .ok (.iconst 1, 1) := by decide +kernel
theorem dX8_init_65 : decode cX8_init 65 = .ok (.new 9, 3) := by decide +kernel
theorem dX8_init_68 : decode cX8_init 68 = .ok (.dup, 1) := by decide +kernel
theorem dX8_init_69 : decode cX8_init 69 = .ok (.invokespecial 11, 3) := by decide +kernel
theorem dX8_init_72 : decode cX8_init 72 = .ok (.aastore, 1) := by decide +kernel
theorem dX8_init_73 : decode cX8_init 73 = .ok (.putfield 33, 3) := by decide +kernel
theorem dX8_init_76 : decode cX8_init 76 = .ok (.aload_n 0, 1) := by decide +kernel
theorem dX8_init_77 : decode cX8_init 77 = .ok (.iconst 0, 1) := by decide +kernel
theorem dX8_init_78 : decode cX8_init 78 = .ok (.putfield 37, 3) := by decide +kernel
theorem dX8_init_81 : decode cX8_init 81 = .ok (.aload_n 0, 1) := by decide +kernel
theorem dX8_init_82 : decode cX8_init 82 = .ok (.new 41, 3) := by decide +kernel
theorem dX8_init_85 : decode cX8_init 85 = .ok (.dup, 1) := by decide +kernel
theorem dX8_init_86 : decode cX8_init 86 = .ok (.invokespecial 43, 3) := by decide +kernel
theorem dX8_init_89 : decode cX8_init 89 = .ok (.putfield 44, 3) := by decide +kernel
theorem dX8_init_92 : decode cX8_init 92 = .ok (.aload_n 0, 1) := by decide +kernel
theorem dX8_init_93 : decode cX8_init 93 = .ok (.new 48, 3) := by decide +kernel
theorem dX8_init_96 : decode cX8_init 96 = .ok (.dup, 1) := by decide +kernel
theorem dX8_init_97 : decode cX8_init 97 = .ok (.invokespecial 50, 3) := by decide +kernel
theorem dX8_init_100 : decode cX8_init 100 = .ok (.putfield 51, 3) := by decide +kernel
theorem dX8_init_103 : decode cX8_init 103 = .ok (.aload_n 0, 1) := by decide +kernel
theorem dX8_init_104 : decode cX8_init 104 = .ok (.new 55, 3) := by decide +kernel
theorem dX8_init_107 : decode cX8_init 107 = .ok (.dup, 1) := by decide +kernel
theorem dX8_init_108 : decode cX8_init 108 = .ok (.invokespecial 57, 3) := by decide +kernel
theorem dX8_init_111 : decode cX8_init 111 = .ok (.putfield 58, 3) := by decide +kernel
theorem dX8_init_114 : decode cX8_init 114 = .ok (.return_, 1) := by decide +kernel
theorem dX8_feed_0 : decode cX8_feed 0 = .ok (.aload_n 0, 1) := by decide +kernel
theorem dX8_feed_1 : decode cX8_feed 1 = .ok (.getfield 44, 3) := by decide +kernel
theorem dX8_feed_4 : decode cX8_feed 4 = .ok (.getfield 62, 3) := by decide +kernel
theorem dX8_feed_7 : decode cX8_feed 7 = .ok (.astore 6, 2) := by decide +kernel
theorem dX8_feed_9 : decode cX8_feed 9 = .ok (.aload 6, 2) := by decide +kernel
theorem dX8_feed_11 : decode cX8_feed 11 = .ok (.invokevirtual 66, 3) := by decide +kernel
theorem dX8_feed_14 : decode cX8_feed 14 = .ok (.ifCond .ne 5, 3) := by decide +kernel
theorem dX8_feed_17 : decode cX8_feed 17 = .ok (.iconst (-1), 1) := by decide +kernel
theorem dX8_feed_18 : decode cX8_feed 18 = .ok (.ireturn, 1) := by decide +kernel
theorem dX8_feed_19 : decode cX8_feed 19 = .ok (.aload 6, 2) := by decide +kernel
theorem dX8_feed_21 : decode cX8_feed 21 = .ok (.iload_n 1, 1) := by decide +kernel
theorem dX8_feed_22 : decode cX8_feed 22 = .ok (.invokevirtual 72, 3) := by decide +kernel
theorem dX8_feed_25 : decode cX8_feed 25 = .ok (.aload 6, 2) := by decide +kernel
theorem dX8_feed_27 : decode cX8_feed 27 = .ok (.iload_n 2, 1) := by decide +kernel
theorem dX8_feed_28 : decode cX8_feed 28 = .ok (.invokevirtual 72, 3) := by decide +kernel
theorem dX8_feed_31 : decode cX8_feed 31 = .ok (.aload 6, 2) := by decide +kernel
theorem dX8_feed_33 : decode cX8_feed 33 = .ok (.iload_n 3, 1) := by decide +kernel
theorem dX8_feed_34 : decode cX8_feed 34 = .ok (.invokevirtual 72, 3) := by decide +kernel
theorem dX8_feed_37 : decode cX8_feed 37 = .ok (.aload 6, 2) := by decide +kernel
theorem dX8_feed_39 : decode cX8_feed 39 = .ok (.iload 4, 2) := by decide +kernel
theorem dX8_feed_41 : decode cX8_feed 41 = .ok (.invokevirtual 72, 3) := by decide +kernel
theorem dX8_feed_44 : decode cX8_feed 44 = .ok (.aload 6, 2) := by decide +kernel
theorem dX8_feed_46 : decode cX8_feed 46 = .ok (.iload 5, 2) := by decide +kernel
theorem dX8_feed_48 : decode cX8_feed 48 = .ok (.invokevirtual 72, 3) := by decide +kernel
theorem dX8_feed_51 : decode cX8_feed 51 = .ok (.aload 6, 2) := by decide +kernel
theorem dX8_feed_53 : decode cX8_feed 53 = .ok (.getfield 76, 3) := by decide +kernel
theorem dX8_feed_56 : decode cX8_feed 56 = .ok (.ireturn, 1) := by decide +kernel
theorem dX8_end_0 : decode cX8_end 0 = .ok (.iload_n 1, 1) := by decide +kernel
theorem dX8_end_1 : decode cX8_end 1 = .ok (.iconst 0, 1) := by decide +kernel
theorem dX8_end_2 : decode cX8_end 2 = .ok (.aload_n 0, 1) := by decide +kernel
theorem dX8_end_3 : decode cX8_end 3 = .ok (.getfield 44, 3) := by decide +kernel
theorem dX8_end_6 : decode cX8_end 6 = .ok (.getfield 62, 3) := by decide +kernel
theorem dX8_end_9 : decode cX8_end 9 = .ok (.getfield 76, 3) := by decide +kernel
theorem dX8_end_12 : decode cX8_end 12 = .ok (.invokestatic 79, 3) := by decide +kernel
theorem dX8_end_15 : decode cX8_end 15 = .ok (.ifCond .ne 5, 3) := by decide +kernel
theorem dX8_end_18 : decode cX8_end 18 = .ok (.iconst (-1), 1) := by decide +kernel
theorem dX8_end_19 : decode cX8_end 19 = .ok (.ireturn, 1) := by decide +kernel
theorem dX8_end_20 : decode cX8_end 20 = .ok (.aload_n 0, 1) := by decide +kernel
theorem dX8_end_21 : decode cX8_end 21 = .ok (.getfield 44, 3) := by decide +kernel
theorem dX8_end_24 : decode cX8_end 24 = .ok (.getfield 62, 3) := by decide +kernel
theorem dX8_end_27 : decode cX8_end 27 = .ok (.iload_n 1, 1) := by decide +kernel
theorem dX8_end_28 : decode cX8_end 28 = .ok (.putfield 76, 3) := by decide +kernel
theorem dX8_end_31 : decode cX8_end 31 = .ok (.iload_n 1, 1) := by decide +kernel
theorem dX8_end_32 : decode cX8_end 32 = .ok (.ireturn, 1) := by decide +kernel
theorem dX8_tell_0 : decode cX8_tell 0 = .ok (.aload_n 0, 1) := by decide +kernel
theorem dX8_tell_1 : decode cX8_tell 1 = .ok (.getfield 44, 3) := by decide +kernel
theorem dX8_tell_4 : decode cX8_tell 4 = .ok (.invokevirtual 83, 3) := by decide +kernel
theorem dX8_tell_7 : decode cX8_tell 7 = .ok (.istore_n 1, 1) := by decide +kernel
theorem dX8_tell_8 : decode cX8_tell 8 = .ok (.aload_n 0, 1) := by decide +kernel
theorem dX8_tell_9 : decode cX8_tell 9 = .ok (.getfield 44, 3) := by decide +kernel
theorem dX8_tell_12 : decode cX8_tell 12 = .ok (.getfield 62, 3) := by decide +kernel
theorem dX8_tell_15 : decode cX8_tell 15 = .ok (.iconst 0, 1) := by decide +kernel
theorem dX8_tell_16 : decode cX8_tell 16 = .ok (.putfield 76, 3) := by decide +kernel
theorem dX8_tell_19 : decode cX8_tell 19 = .ok (.iload_n 1, 1) := by decide +kernel
theorem dX8_tell_20 : decode cX8_tell 20 = .ok (.ifCond .eq 8, 3) := by decide +kernel
theorem dX8_tell_23 : decode cX8_tell 23 = .ok (.bipush (-2), 2) := by decide +kernel
theorem dX8_tell_25 : decode cX8_tell 25 = .ok (.iload_n 1, 1) := by decide +kernel
theorem dX8_tell_26 : decode cX8_tell 26 = .ok (.isub, 1) := by decide +kernel
theorem dX8_tell_27 : decode cX8_tell 27 = .ok (.ireturn, 1) := by decide +kernel
theorem dX8_tell_28 : decode cX8_tell 28 = .ok (.aload_n 0, 1) := by decide +kernel
theorem dX8_tell_29 : decode cX8_tell 29 = .ok (.getfield 12, 3) := by decide +kernel
theorem dX8_tell_32 : decode cX8_tell 32 = .ok (.aload_n 0, 1) := by decide +kernel
theorem dX8_tell_33 : decode cX8_tell 33 = .ok (.getfield 44, 3) := by decide +kernel
theorem dX8_tell_36 : decode cX8_tell 36 = .ok (.getfield 87, 3) := by decide +kernel
theorem dX8_tell_39 : decode cX8_tell 39 = .ok (.invokevirtual 88, 3) := by decide +kernel
theorem dX8_tell_42 : decode cX8_tell 42 = .ok (.aload_n 0, 1) := by decide +kernel
theorem dX8_tell_43 : decode cX8_tell 43 = .ok (.getfield 29, 3) := by decide +kernel
theorem dX8_tell_46 : decode cX8_tell 46 = .ok (.invokevirtual 92, 3) := by decide +kernel
theorem dX8_tell_49 : decode cX8_tell 49 = .ok (.aload_n 0, 1) := by decide +kernel
theorem dX8_tell_50 : decode cX8_tell 50 = .ok (.getfield 12, 3) := by decide +kernel
theorem dX8_tell_53 : decode cX8_tell 53 = .ok (.getfield 95, 3) := by decide +kernel
theorem dX8_tell_56 : decode cX8_tell 56 = .ok (.getfield 99, 3) := by decide +kernel
theorem dX8_tell_59 : decode cX8_tell 59 = .ok (.ireturn, 1) := by decide +kernel
theorem dX8_nominate_0 : decode cX8_nominate 0 = .ok (.aload_n 0, 1) := by decide +kernel
theorem dX8_nominate_1 : decode cX8_nominate 1 = .ok (.getfield 12, 3) := by decide +kernel
theorem dX8_nominate_4 : decode cX8_nominate 4 = .ok (.iload_n 1, 1) := by decide +kernel
theorem dX8_nominate_5 : decode cX8_nominate 5 = .ok (.iload_n 2, 1) := by decide +kernel
theorem dX8_nominate_6 : decode cX8_nominate 6 = .ok (.iload_n 3, 1) := by decide +kernel
theorem dX8_nominate_7 : decode cX8_nominate 7 = .ok (.iload 4, 2) := by decide +kernel
theorem dX8_nominate_9 : decode cX8_nominate 9 = .ok (.invokevirtual 104, 3) := by decide +kernel
theorem dX8_nominate_12 : decode cX8_nominate 12 = .ok (.ifCond .ne 5, 3) := by decide +kernel
theorem dX8_nominate_15 : decode cX8_nominate 15 = .ok (.iconst (-1), 1) := by decide +kernel
theorem dX8_nominate_16 : decode cX8_nominate 16 = .ok (.ireturn, 1) := by decide +kernel
theorem dX8_nominate_17 : decode cX8_nominate 17 = .ok (.aload_n 0, 1) := by decide +kernel
theorem dX8_nominate_18 : decode cX8_nominate 18 = .ok (.getfield 12, 3) := by decide +kernel
theorem dX8_nominate_21 : decode cX8_nominate 21 = .ok (.getfield 108, 3) := by decide +kernel
theorem dX8_nominate_24 : decode cX8_nominate 24 = .ok (.invokevirtual 111, 3) := by decide +kernel
theorem dX8_nominate_27 : decode cX8_nominate 27 = .ok (.ifCond .eq 6, 3) := by decide +kernel
theorem dX8_nominate_30 : decode cX8_nominate 30 = .ok (.bipush (-2), 2) := by decide +kernel
theorem dX8_nominate_32 : decode cX8_nominate 32 = .ok (.ireturn, 1) := by decide +kernel
theorem dX8_nominate_33 : decode cX8_nominate 33 = .ok (.aload_n 0, 1) := by decide +kernel
theorem dX8_nominate_34 : decode cX8_nominate 34 = .ok (.getfield 29, 3) := by decide +kernel
theorem dX8_nominate_37 : decode cX8_nominate 37 = .ok (.aload_n 0, 1) := by decide +kernel
theorem dX8_nominate_38 : decode cX8_nominate 38 = .ok (.getfield 12, 3) := by decide +kernel
theorem dX8_nominate_41 : decode cX8_nominate 41 = .ok (.invokevirtual 114, 3) := by decide +kernel
theorem dX8_nominate_44 : decode cX8_nominate 44 = .ok (.aload_n 0, 1) := by decide +kernel
theorem dX8_nominate_45 : decode cX8_nominate 45 = .ok (.getfield 12, 3) := by decide +kernel
theorem dX8_nominate_48 : decode cX8_nominate 48 = .ok (.iload_n 1, 1) := by decide +kernel
theorem dX8_nominate_49 : decode cX8_nominate 49 = .ok (.iload_n 2, 1) := by decide +kernel
theorem dX8_nominate_50 : decode cX8_nominate 50 = .ok (.iload_n 3, 1) := by decide +kernel
theorem dX8_nominate_51 : decode cX8_nominate 51 = .ok (.iload 4, 2) := by decide +kernel
theorem dX8_nominate_53 : decode cX8_nominate 53 = .ok (.invokevirtual 117, 3) := by decide +kernel
theorem dX8_nominate_56 : decode cX8_nominate 56 = .ok (.ireturn, 1) := by decide +kernel
theorem dX8_renominate_0 : decode cX8_renominate 0 = .ok (.aload_n 0, 1) := by decide +kernel
theorem dX8_renominate_1 : decode cX8_renominate 1 = .ok (.getfield 12, 3) := by decide +kernel
theorem dX8_renominate_4 : decode cX8_renominate 4 = .ok (.getfield 108, 3) := by decide +kernel
theorem dX8_renominate_7 : decode cX8_renominate 7 = .ok (.iload_n 1, 1) := by decide +kernel
theorem dX8_renominate_8 : decode cX8_renominate 8 = .ok (.invokevirtual 121, 3) := by decide +kernel
theorem dX8_renominate_11 : decode cX8_renominate 11 = .ok (.ifCond .eq 14, 3) := by decide +kernel
theorem dX8_renominate_14 : decode cX8_renominate 14 = .ok (.iload_n 2, 1) := by decide +kernel
theorem dX8_renominate_15 : decode cX8_renominate 15 = .ok (.iconst 0, 1) := by decide +kernel
theorem dX8_renominate_16 : decode cX8_renominate 16 = .ok (.sipush 9999, 3) := by decide +kernel
theorem dX8_renominate_19 : decode cX8_renominate 19 = .ok (.invokestatic 79, 3) := by decide +kernel
theorem dX8_renominate_22 : decode cX8_renominate 22 = .ok (.ifCond .ne 5, 3) := by decide +kernel
theorem dX8_renominate_25 : decode cX8_renominate 25 = .ok (.iconst (-1), 1) := by decide +kernel
theorem dX8_renominate_26 : decode cX8_renominate 26 = .ok (.ireturn, 1) := by decide +kernel
theorem dX8_renominate_27 : decode cX8_renominate 27 = .ok (.aload_n 0, 1) := by decide +kernel
theorem dX8_renominate_28 : decode cX8_renominate 28 = .ok (.getfield 12, 3) := by decide +kernel
theorem dX8_renominate_31 : decode cX8_renominate 31 = .ok (.getfield 108, 3) := by decide +kernel
theorem dX8_renominate_34 : decode cX8_renominate 34 = .ok (.iload_n 1, 1) := by decide +kernel
theorem dX8_renominate_35 : decode cX8_renominate 35 = .ok (.iconst 3, 1) := by decide +kernel
theorem dX8_renominate_36 : decode cX8_renominate 36 = .ok (.invokevirtual 125, 3) := by decide +kernel
theorem dX8_renominate_39 : decode cX8_renominate 39 = .ok (.istore_n 3, 1) := by decide +kernel
theorem dX8_renominate_40 : decode cX8_renominate 40 = .ok (.iload_n 3, 1) := by decide +kernel
theorem dX8_renominate_41 : decode cX8_renominate 41 = .ok (.iload_n 2, 1) := by decide +kernel
theorem dX8_renominate_42 : decode cX8_renominate 42 = .ok (.if_icmp .ne 6, 3) := by decide +kernel
theorem dX8_renominate_45 : decode cX8_renominate 45 = .ok (.bipush (-2), 2) := by decide +kernel
theorem dX8_renominate_47 : decode cX8_renominate 47 = .ok (.ireturn, 1) := by decide +kernel
theorem dX8_renominate_48 : decode cX8_renominate 48 = .ok (.aload_n 0, 1) := by decide +kernel
theorem dX8_renominate_49 : decode cX8_renominate 49 = .ok (.getfield 29, 3) := by decide +kernel
theorem dX8_renominate_52 : decode cX8_renominate 52 = .ok (.aload_n 0, 1) := by decide +kernel
theorem dX8_renominate_53 : decode cX8_renominate 53 = .ok (.getfield 12, 3) := by decide +kernel
theorem dX8_renominate_56 : decode cX8_renominate 56 = .ok (.invokevirtual 114, 3) := by decide +kernel
theorem dX8_renominate_59 : decode cX8_renominate 59 = .ok (.aload_n 0, 1) := by decide +kernel
theorem dX8_renominate_60 : decode cX8_renominate 60 = .ok (.getfield 12, 3) := by decide +kernel
theorem dX8_renominate_63 : decode cX8_renominate 63 = .ok (.getfield 108, 3) := by decide +kernel
theorem dX8_renominate_66 : decode cX8_renominate 66 = .ok (.iload_n 1, 1) := by decide +kernel
theorem dX8_renominate_67 : decode cX8_renominate 67 = .ok (.iconst 3, 1) := by decide +kernel
theorem dX8_renominate_68 : decode cX8_renominate 68 = .ok (.iload_n 2, 1) := by decide +kernel
theorem dX8_renominate_69 : decode cX8_renominate 69 = .ok (.invokevirtual 129, 3) := by decide +kernel
theorem dX8_renominate_72 : decode cX8_renominate 72 = .ok (.iload_n 3, 1) := by decide +kernel
theorem dX8_renominate_73 : decode cX8_renominate 73 = .ok (.ireturn, 1) := by decide +kernel
theorem dX8_withdraw_0 : decode cX8_withdraw 0 = .ok (.aload_n 0, 1) := by decide +kernel
theorem dX8_withdraw_1 : decode cX8_withdraw 1 = .ok (.getfield 12, 3) := by decide +kernel
theorem dX8_withdraw_4 : decode cX8_withdraw 4 = .ok (.getfield 108, 3) := by decide +kernel
theorem dX8_withdraw_7 : decode cX8_withdraw 7 = .ok (.iload_n 1, 1) := by decide +kernel
theorem dX8_withdraw_8 : decode cX8_withdraw 8 = .ok (.invokevirtual 121, 3) := by decide +kernel
theorem dX8_withdraw_11 : decode cX8_withdraw 11 = .ok (.ifCond .ne 5, 3) := by decide +kernel
theorem dX8_withdraw_14 : decode cX8_withdraw 14 = .ok (.iconst (-1), 1) := by decide +kernel
theorem dX8_withdraw_15 : decode cX8_withdraw 15 = .ok (.ireturn, 1) := by decide +kernel
theorem dX8_withdraw_16 : decode cX8_withdraw 16 = .ok (.aload_n 0, 1) := by decide +kernel
theorem dX8_withdraw_17 : decode cX8_withdraw 17 = .ok (.getfield 29, 3) := by decide +kernel
theorem dX8_withdraw_20 : decode cX8_withdraw 20 = .ok (.aload_n 0, 1) := by decide +kernel
theorem dX8_withdraw_21 : decode cX8_withdraw 21 = .ok (.getfield 12, 3) := by decide +kernel
theorem dX8_withdraw_24 : decode cX8_withdraw 24 = .ok (.invokevirtual 114, 3) := by decide +kernel
theorem dX8_withdraw_27 : decode cX8_withdraw 27 = .ok (.aload_n 0, 1) := by decide +kernel
theorem dX8_withdraw_28 : decode cX8_withdraw 28 = .ok (.getfield 12, 3) := by decide +kernel
theorem dX8_withdraw_31 : decode cX8_withdraw 31 = .ok (.getfield 108, 3) := by decide +kernel
theorem dX8_withdraw_34 : decode cX8_withdraw 34 = .ok (.iload_n 1, 1) := by decide +kernel
theorem dX8_withdraw_35 : decode cX8_withdraw 35 = .ok (.invokevirtual 133, 3) := by decide +kernel
theorem dX8_withdraw_38 : decode cX8_withdraw 38 = .ok (.aload_n 0, 1) := by decide +kernel
theorem dX8_withdraw_39 : decode cX8_withdraw 39 = .ok (.getfield 12, 3) := by decide +kernel
theorem dX8_withdraw_42 : decode cX8_withdraw 42 = .ok (.getfield 108, 3) := by decide +kernel
theorem dX8_withdraw_45 : decode cX8_withdraw 45 = .ok (.getfield 99, 3) := by decide +kernel
theorem dX8_withdraw_48 : decode cX8_withdraw 48 = .ok (.ireturn, 1) := by decide +kernel
theorem dX8_limit_0 : decode cX8_limit 0 = .ok (.aload_n 0, 1) := by decide +kernel
theorem dX8_limit_1 : decode cX8_limit 1 = .ok (.getfield 12, 3) := by decide +kernel
theorem dX8_limit_4 : decode cX8_limit 4 = .ok (.iload_n 1, 1) := by decide +kernel
theorem dX8_limit_5 : decode cX8_limit 5 = .ok (.iload_n 2, 1) := by decide +kernel
theorem dX8_limit_6 : decode cX8_limit 6 = .ok (.invokevirtual 136, 3) := by decide +kernel
theorem dX8_limit_9 : decode cX8_limit 9 = .ok (.ifCond .eq 14, 3) := by decide +kernel
theorem dX8_limit_12 : decode cX8_limit 12 = .ok (.iload_n 3, 1) := by decide +kernel
theorem dX8_limit_13 : decode cX8_limit 13 = .ok (.iconst 0, 1) := by decide +kernel
theorem dX8_limit_14 : decode cX8_limit 14 = .ok (.sipush 9999, 3) := by decide +kernel
theorem dX8_limit_17 : decode cX8_limit 17 = .ok (.invokestatic 79, 3) := by decide +kernel
theorem dX8_limit_20 : decode cX8_limit 20 = .ok (.ifCond .ne 5, 3) := by decide +kernel
theorem dX8_limit_23 : decode cX8_limit 23 = .ok (.iconst (-1), 1) := by decide +kernel
theorem dX8_limit_24 : decode cX8_limit 24 = .ok (.ireturn, 1) := by decide +kernel
theorem dX8_limit_25 : decode cX8_limit 25 = .ok (.aload_n 0, 1) := by decide +kernel
theorem dX8_limit_26 : decode cX8_limit 26 = .ok (.getfield 12, 3) := by decide +kernel
theorem dX8_limit_29 : decode cX8_limit 29 = .ok (.iload_n 1, 1) := by decide +kernel
theorem dX8_limit_30 : decode cX8_limit 30 = .ok (.iload_n 2, 1) := by decide +kernel
theorem dX8_limit_31 : decode cX8_limit 31 = .ok (.invokevirtual 140, 3) := by decide +kernel
theorem dX8_limit_34 : decode cX8_limit 34 = .ok (.istore 4, 2) := by decide +kernel
theorem dX8_limit_36 : decode cX8_limit 36 = .ok (.iload 4, 2) := by decide +kernel
theorem dX8_limit_38 : decode cX8_limit 38 = .ok (.iload_n 3, 1) := by decide +kernel
theorem dX8_limit_39 : decode cX8_limit 39 = .ok (.if_icmp .ne 6, 3) := by decide +kernel
theorem dX8_limit_42 : decode cX8_limit 42 = .ok (.bipush (-2), 2) := by decide +kernel
theorem dX8_limit_44 : decode cX8_limit 44 = .ok (.ireturn, 1) := by decide +kernel
theorem dX8_limit_45 : decode cX8_limit 45 = .ok (.aload_n 0, 1) := by decide +kernel
theorem dX8_limit_46 : decode cX8_limit 46 = .ok (.getfield 29, 3) := by decide +kernel
theorem dX8_limit_49 : decode cX8_limit 49 = .ok (.aload_n 0, 1) := by decide +kernel
theorem dX8_limit_50 : decode cX8_limit 50 = .ok (.getfield 12, 3) := by decide +kernel
theorem dX8_limit_53 : decode cX8_limit 53 = .ok (.invokevirtual 114, 3) := by decide +kernel
theorem dX8_limit_56 : decode cX8_limit 56 = .ok (.aload_n 0, 1) := by decide +kernel
theorem dX8_limit_57 : decode cX8_limit 57 = .ok (.getfield 12, 3) := by decide +kernel
theorem dX8_limit_60 : decode cX8_limit 60 = .ok (.iload_n 1, 1) := by decide +kernel
theorem dX8_limit_61 : decode cX8_limit 61 = .ok (.iload_n 2, 1) := by decide +kernel
theorem dX8_limit_62 : decode cX8_limit 62 = .ok (.iload_n 3, 1) := by decide +kernel
theorem dX8_limit_63 : decode cX8_limit 63 = .ok (.invokevirtual 143, 3) := by decide +kernel
theorem dX8_limit_66 : decode cX8_limit 66 = .ok (.iload 4, 2) := by decide +kernel
theorem dX8_limit_68 : decode cX8_limit 68 = .ok (.ireturn, 1) := by decide +kernel
theorem dX8_swing_0 : decode cX8_swing 0 = .ok (.aload_n 0, 1) := by decide +kernel
theorem dX8_swing_1 : decode cX8_swing 1 = .ok (.getfield 12, 3) := by decide +kernel
theorem dX8_swing_4 : decode cX8_swing 4 = .ok (.getfield 95, 3) := by decide +kernel
theorem dX8_swing_7 : decode cX8_swing 7 = .ok (.iload_n 1, 1) := by decide +kernel
theorem dX8_swing_8 : decode cX8_swing 8 = .ok (.invokevirtual 121, 3) := by decide +kernel
theorem dX8_swing_11 : decode cX8_swing 11 = .ok (.ifCond .eq 14, 3) := by decide +kernel
theorem dX8_swing_14 : decode cX8_swing 14 = .ok (.iload_n 2, 1) := by decide +kernel
theorem dX8_swing_15 : decode cX8_swing 15 = .ok (.bipush (-99), 2) := by decide +kernel
theorem dX8_swing_17 : decode cX8_swing 17 = .ok (.bipush 99, 2) := by decide +kernel
theorem dX8_swing_19 : decode cX8_swing 19 = .ok (.invokestatic 79, 3) := by decide +kernel
theorem dX8_swing_22 : decode cX8_swing 22 = .ok (.ifCond .ne 6, 3) := by decide +kernel
theorem dX8_swing_25 : decode cX8_swing 25 = .ok (.bipush (-100), 2) := by decide +kernel
theorem dX8_swing_27 : decode cX8_swing 27 = .ok (.ireturn, 1) := by decide +kernel
theorem dX8_swing_28 : decode cX8_swing 28 = .ok (.aload_n 0, 1) := by decide +kernel
theorem dX8_swing_29 : decode cX8_swing 29 = .ok (.getfield 12, 3) := by decide +kernel
theorem dX8_swing_32 : decode cX8_swing 32 = .ok (.getfield 95, 3) := by decide +kernel
theorem dX8_swing_35 : decode cX8_swing 35 = .ok (.iload_n 1, 1) := by decide +kernel
theorem dX8_swing_36 : decode cX8_swing 36 = .ok (.iconst 3, 1) := by decide +kernel
theorem dX8_swing_37 : decode cX8_swing 37 = .ok (.invokevirtual 125, 3) := by decide +kernel
theorem dX8_swing_40 : decode cX8_swing 40 = .ok (.istore_n 3, 1) := by decide +kernel
theorem dX8_swing_41 : decode cX8_swing 41 = .ok (.iload_n 3, 1) := by decide +kernel
theorem dX8_swing_42 : decode cX8_swing 42 = .ok (.iload_n 2, 1) := by decide +kernel
theorem dX8_swing_43 : decode cX8_swing 43 = .ok (.if_icmp .ne 6, 3) := by decide +kernel
theorem dX8_swing_46 : decode cX8_swing 46 = .ok (.bipush (-101), 2) := by decide +kernel
theorem dX8_swing_48 : decode cX8_swing 48 = .ok (.ireturn, 1) := by decide +kernel
theorem dX8_swing_49 : decode cX8_swing 49 = .ok (.aload_n 0, 1) := by decide +kernel
theorem dX8_swing_50 : decode cX8_swing 50 = .ok (.getfield 29, 3) := by decide +kernel
theorem dX8_swing_53 : decode cX8_swing 53 = .ok (.aload_n 0, 1) := by decide +kernel
theorem dX8_swing_54 : decode cX8_swing 54 = .ok (.getfield 12, 3) := by decide +kernel
theorem dX8_swing_57 : decode cX8_swing 57 = .ok (.invokevirtual 114, 3) := by decide +kernel
theorem dX8_swing_60 : decode cX8_swing 60 = .ok (.aload_n 0, 1) := by decide +kernel
theorem dX8_swing_61 : decode cX8_swing 61 = .ok (.getfield 12, 3) := by decide +kernel
theorem dX8_swing_64 : decode cX8_swing 64 = .ok (.getfield 95, 3) := by decide +kernel
theorem dX8_swing_67 : decode cX8_swing 67 = .ok (.iload_n 1, 1) := by decide +kernel
theorem dX8_swing_68 : decode cX8_swing 68 = .ok (.iconst 3, 1) := by decide +kernel
theorem dX8_swing_69 : decode cX8_swing 69 = .ok (.iload_n 2, 1) := by decide +kernel
theorem dX8_swing_70 : decode cX8_swing 70 = .ok (.invokevirtual 129, 3) := by decide +kernel
theorem dX8_swing_73 : decode cX8_swing 73 = .ok (.iload_n 3, 1) := by decide +kernel
theorem dX8_swing_74 : decode cX8_swing 74 = .ok (.ireturn, 1) := by decide +kernel
theorem dX8_contract_0 : decode cX8_contract 0 = .ok (.aload_n 0, 1) := by decide +kernel
theorem dX8_contract_1 : decode cX8_contract 1 = .ok (.getfield 12, 3) := by decide +kernel
theorem dX8_contract_4 : decode cX8_contract 4 = .ok (.getfield 146, 3) := by decide +kernel
theorem dX8_contract_7 : decode cX8_contract 7 = .ok (.iload_n 1, 1) := by decide +kernel
theorem dX8_contract_8 : decode cX8_contract 8 = .ok (.invokevirtual 121, 3) := by decide +kernel
theorem dX8_contract_11 : decode cX8_contract 11 = .ok (.ifCond .eq 11, 3) := by decide +kernel
theorem dX8_contract_14 : decode cX8_contract 14 = .ok (.iload_n 2, 1) := by decide +kernel
theorem dX8_contract_15 : decode cX8_contract 15 = .ok (.iload_n 3, 1) := by decide +kernel
theorem dX8_contract_16 : decode cX8_contract 16 = .ok (.invokestatic 149, 3) := by decide +kernel
theorem dX8_contract_19 : decode cX8_contract 19 = .ok (.ifCond .ne 5, 3) := by decide +kernel
theorem dX8_contract_22 : decode cX8_contract 22 = .ok (.iconst (-1), 1) := by decide +kernel
theorem dX8_contract_23 : decode cX8_contract 23 = .ok (.ireturn, 1) := by decide +kernel
theorem dX8_contract_24 : decode cX8_contract 24 = .ok (.aload_n 0, 1) := by decide +kernel
theorem dX8_contract_25 : decode cX8_contract 25 = .ok (.getfield 12, 3) := by decide +kernel
theorem dX8_contract_28 : decode cX8_contract 28 = .ok (.getfield 146, 3) := by decide +kernel
theorem dX8_contract_31 : decode cX8_contract 31 = .ok (.iload_n 1, 1) := by decide +kernel
theorem dX8_contract_32 : decode cX8_contract 32 = .ok (.iload_n 2, 1) := by decide +kernel
theorem dX8_contract_33 : decode cX8_contract 33 = .ok (.invokevirtual 125, 3) := by decide +kernel
theorem dX8_contract_36 : decode cX8_contract 36 = .ok (.istore 4, 2) := by decide +kernel
theorem dX8_contract_38 : decode cX8_contract 38 = .ok (.iload 4, 2) := by decide +kernel
theorem dX8_contract_40 : decode cX8_contract 40 = .ok (.iload_n 3, 1) := by decide +kernel
theorem dX8_contract_41 : decode cX8_contract 41 = .ok (.if_icmp .ne 6, 3) := by decide +kernel
theorem dX8_contract_44 : decode cX8_contract 44 = .ok (.bipush (-2), 2) := by decide +kernel
theorem dX8_contract_46 : decode cX8_contract 46 = .ok (.ireturn, 1) := by decide +kernel
theorem dX8_contract_47 : decode cX8_contract 47 = .ok (.iload_n 2, 1) := by decide +kernel
theorem dX8_contract_48 : decode cX8_contract 48 = .ok (.iconst 3, 1) := by decide +kernel
theorem dX8_contract_49 : decode cX8_contract 49 = .ok (.if_icmp .ne 25, 3) := by decide +kernel
theorem dX8_contract_52 : decode cX8_contract 52 = .ok (.aload_n 0, 1) := by decide +kernel
theorem dX8_contract_53 : decode cX8_contract 53 = .ok (.getfield 12, 3) := by decide +kernel
theorem dX8_contract_56 : decode cX8_contract 56 = .ok (.getfield 146, 3) := by decide +kernel
theorem dX8_contract_59 : decode cX8_contract 59 = .ok (.iload_n 1, 1) := by decide +kernel
theorem dX8_contract_60 : decode cX8_contract 60 = .ok (.iconst 5, 1) := by decide +kernel
theorem dX8_contract_61 : decode cX8_contract 61 = .ok (.invokevirtual 125, 3) := by decide +kernel
theorem dX8_contract_64 : decode cX8_contract 64 = .ok (.invokestatic 152, 3) := by decide +kernel
theorem dX8_contract_67 : decode cX8_contract 67 = .ok (.iload_n 3, 1) := by decide +kernel
theorem dX8_contract_68 : decode cX8_contract 68 = .ok (.if_icmp .le 6, 3) := by decide +kernel
theorem dX8_contract_71 : decode cX8_contract 71 = .ok (.bipush (-3), 2) := by decide +kernel
theorem dX8_contract_73 : decode cX8_contract 73 = .ok (.ireturn, 1) := by decide +kernel
theorem dX8_contract_74 : decode cX8_contract 74 = .ok (.aload_n 0, 1) := by decide +kernel
theorem dX8_contract_75 : decode cX8_contract 75 = .ok (.getfield 29, 3) := by decide +kernel
theorem dX8_contract_78 : decode cX8_contract 78 = .ok (.aload_n 0, 1) := by decide +kernel
theorem dX8_contract_79 : decode cX8_contract 79 = .ok (.getfield 12, 3) := by decide +kernel
theorem dX8_contract_82 : decode cX8_contract 82 = .ok (.invokevirtual 114, 3) := by decide +kernel
theorem dX8_contract_85 : decode cX8_contract 85 = .ok (.aload_n 0, 1) := by decide +kernel
theorem dX8_contract_86 : decode cX8_contract 86 = .ok (.getfield 12, 3) := by decide +kernel
theorem dX8_contract_89 : decode cX8_contract 89 = .ok (.getfield 146, 3) := by decide +kernel
theorem dX8_contract_92 : decode cX8_contract 92 = .ok (.iload_n 1, 1) := by decide +kernel
theorem dX8_contract_93 : decode cX8_contract 93 = .ok (.iload_n 2, 1) := by decide +kernel
theorem dX8_contract_94 : decode cX8_contract 94 = .ok (.iload_n 3, 1) := by decide +kernel
theorem dX8_contract_95 : decode cX8_contract 95 = .ok (.invokevirtual 129, 3) := by decide +kernel
theorem dX8_contract_98 : decode cX8_contract 98 = .ok (.iload 4, 2) := by decide +kernel
theorem dX8_contract_100 : decode cX8_contract 100 = .ok (.ireturn, 1) := by decide +kernel
theorem dX8_trade_0 : decode cX8_trade 0 = .ok (.aload_n 0, 1) := by decide +kernel
theorem dX8_trade_1 : decode cX8_trade 1 = .ok (.iload_n 1, 1) := by decide +kernel
theorem dX8_trade_2 : decode cX8_trade 2 = .ok (.iload_n 2, 1) := by decide +kernel
theorem dX8_trade_3 : decode cX8_trade 3 = .ok (.iload_n 3, 1) := by decide +kernel
theorem dX8_trade_4 : decode cX8_trade 4 = .ok (.invokevirtual 158, 3) := by decide +kernel
theorem dX8_trade_7 : decode cX8_trade 7 = .ok (.ifCond .ne 5, 3) := by decide +kernel
theorem dX8_trade_10 : decode cX8_trade 10 = .ok (.iconst (-1), 1) := by decide +kernel
theorem dX8_trade_11 : decode cX8_trade 11 = .ok (.ireturn, 1) := by decide +kernel
theorem dX8_trade_12 : decode cX8_trade 12 = .ok (.aload_n 0, 1) := by decide +kernel
theorem dX8_trade_13 : decode cX8_trade 13 = .ok (.getfield 12, 3) := by decide +kernel
theorem dX8_trade_16 : decode cX8_trade 16 = .ok (.getfield 146, 3) := by decide +kernel
theorem dX8_trade_19 : decode cX8_trade 19 = .ok (.iload_n 1, 1) := by decide +kernel
theorem dX8_trade_20 : decode cX8_trade 20 = .ok (.iconst 4, 1) := by decide +kernel
theorem dX8_trade_21 : decode cX8_trade 21 = .ok (.invokevirtual 125, 3) := by decide +kernel
theorem dX8_trade_24 : decode cX8_trade 24 = .ok (.iload_n 3, 1) := by decide +kernel
theorem dX8_trade_25 : decode cX8_trade 25 = .ok (.if_icmp .lt 20, 3) := by decide +kernel
theorem dX8_trade_28 : decode cX8_trade 28 = .ok (.aload_n 0, 1) := by decide +kernel
theorem dX8_trade_29 : decode cX8_trade 29 = .ok (.getfield 12, 3) := by decide +kernel
theorem dX8_trade_32 : decode cX8_trade 32 = .ok (.getfield 146, 3) := by decide +kernel
theorem dX8_trade_35 : decode cX8_trade 35 = .ok (.iload_n 2, 1) := by decide +kernel
theorem dX8_trade_36 : decode cX8_trade 36 = .ok (.iconst 4, 1) := by decide +kernel
theorem dX8_trade_37 : decode cX8_trade 37 = .ok (.invokevirtual 125, 3) := by decide +kernel
theorem dX8_trade_40 : decode cX8_trade 40 = .ok (.iload_n 3, 1) := by decide +kernel
theorem dX8_trade_41 : decode cX8_trade 41 = .ok (.ineg, 1) := by decide +kernel
theorem dX8_trade_42 : decode cX8_trade 42 = .ok (.if_icmp .le 6, 3) := by decide +kernel
theorem dX8_trade_45 : decode cX8_trade 45 = .ok (.bipush (-2), 2) := by decide +kernel
theorem dX8_trade_47 : decode cX8_trade 47 = .ok (.ireturn, 1) := by decide +kernel
theorem dX8_trade_48 : decode cX8_trade 48 = .ok (.aload_n 0, 1) := by decide +kernel
theorem dX8_trade_49 : decode cX8_trade 49 = .ok (.getfield 29, 3) := by decide +kernel
theorem dX8_trade_52 : decode cX8_trade 52 = .ok (.aload_n 0, 1) := by decide +kernel
theorem dX8_trade_53 : decode cX8_trade 53 = .ok (.getfield 12, 3) := by decide +kernel
theorem dX8_trade_56 : decode cX8_trade 56 = .ok (.invokevirtual 114, 3) := by decide +kernel
theorem dX8_trade_59 : decode cX8_trade 59 = .ok (.aload_n 0, 1) := by decide +kernel
theorem dX8_trade_60 : decode cX8_trade 60 = .ok (.getfield 12, 3) := by decide +kernel
theorem dX8_trade_63 : decode cX8_trade 63 = .ok (.getfield 146, 3) := by decide +kernel
theorem dX8_trade_66 : decode cX8_trade 66 = .ok (.iload_n 1, 1) := by decide +kernel
theorem dX8_trade_67 : decode cX8_trade 67 = .ok (.iconst 4, 1) := by decide +kernel
theorem dX8_trade_68 : decode cX8_trade 68 = .ok (.iload_n 3, 1) := by decide +kernel
theorem dX8_trade_69 : decode cX8_trade 69 = .ok (.ineg, 1) := by decide +kernel
theorem dX8_trade_70 : decode cX8_trade 70 = .ok (.invokevirtual 161, 3) := by decide +kernel
theorem dX8_trade_73 : decode cX8_trade 73 = .ok (.aload_n 0, 1) := by decide +kernel
theorem dX8_trade_74 : decode cX8_trade 74 = .ok (.getfield 12, 3) := by decide +kernel
theorem dX8_trade_77 : decode cX8_trade 77 = .ok (.getfield 146, 3) := by decide +kernel
theorem dX8_trade_80 : decode cX8_trade 80 = .ok (.iload_n 2, 1) := by decide +kernel
theorem dX8_trade_81 : decode cX8_trade 81 = .ok (.iconst 4, 1) := by decide +kernel
theorem dX8_trade_82 : decode cX8_trade 82 = .ok (.iload_n 3, 1) := by decide +kernel
theorem dX8_trade_83 : decode cX8_trade 83 = .ok (.invokevirtual 161, 3) := by decide +kernel
theorem dX8_trade_86 : decode cX8_trade 86 = .ok (.iconst 1, 1) := by decide +kernel
theorem dX8_trade_87 : decode cX8_trade 87 = .ok (.ireturn, 1) := by decide +kernel
theorem dX8_move_0 : decode cX8_move 0 = .ok (.aload_n 0, 1) := by decide +kernel
theorem dX8_move_1 : decode cX8_move 1 = .ok (.getfield 12, 3) := by decide +kernel
theorem dX8_move_4 : decode cX8_move 4 = .ok (.getfield 95, 3) := by decide +kernel
theorem dX8_move_7 : decode cX8_move 7 = .ok (.iload_n 1, 1) := by decide +kernel
theorem dX8_move_8 : decode cX8_move 8 = .ok (.invokevirtual 121, 3) := by decide +kernel
theorem dX8_move_11 : decode cX8_move 11 = .ok (.ifCond .eq 14, 3) := by decide +kernel
theorem dX8_move_14 : decode cX8_move 14 = .ok (.aload_n 0, 1) := by decide +kernel
theorem dX8_move_15 : decode cX8_move 15 = .ok (.getfield 12, 3) := by decide +kernel
theorem dX8_move_18 : decode cX8_move 18 = .ok (.iload_n 2, 1) := by decide +kernel
theorem dX8_move_19 : decode cX8_move 19 = .ok (.invokevirtual 164, 3) := by decide +kernel
theorem dX8_move_22 : decode cX8_move 22 = .ok (.ifCond .ne 5, 3) := by decide +kernel
theorem dX8_move_25 : decode cX8_move 25 = .ok (.iconst (-1), 1) := by decide +kernel
theorem dX8_move_26 : decode cX8_move 26 = .ok (.ireturn, 1) := by decide +kernel
theorem dX8_move_27 : decode cX8_move 27 = .ok (.aload_n 0, 1) := by decide +kernel
theorem dX8_move_28 : decode cX8_move 28 = .ok (.getfield 12, 3) := by decide +kernel
theorem dX8_move_31 : decode cX8_move 31 = .ok (.getfield 95, 3) := by decide +kernel
theorem dX8_move_34 : decode cX8_move 34 = .ok (.iload_n 1, 1) := by decide +kernel
theorem dX8_move_35 : decode cX8_move 35 = .ok (.iconst 0, 1) := by decide +kernel
theorem dX8_move_36 : decode cX8_move 36 = .ok (.invokevirtual 125, 3) := by decide +kernel
theorem dX8_move_39 : decode cX8_move 39 = .ok (.istore_n 3, 1) := by decide +kernel
theorem dX8_move_40 : decode cX8_move 40 = .ok (.iload_n 3, 1) := by decide +kernel
theorem dX8_move_41 : decode cX8_move 41 = .ok (.iload_n 2, 1) := by decide +kernel
theorem dX8_move_42 : decode cX8_move 42 = .ok (.if_icmp .ne 6, 3) := by decide +kernel
theorem dX8_move_45 : decode cX8_move 45 = .ok (.bipush (-2), 2) := by decide +kernel
theorem dX8_move_47 : decode cX8_move 47 = .ok (.ireturn, 1) := by decide +kernel
theorem dX8_move_48 : decode cX8_move 48 = .ok (.aload_n 0, 1) := by decide +kernel
theorem dX8_move_49 : decode cX8_move 49 = .ok (.getfield 29, 3) := by decide +kernel
theorem dX8_move_52 : decode cX8_move 52 = .ok (.aload_n 0, 1) := by decide +kernel
theorem dX8_move_53 : decode cX8_move 53 = .ok (.getfield 12, 3) := by decide +kernel
theorem dX8_move_56 : decode cX8_move 56 = .ok (.invokevirtual 114, 3) := by decide +kernel
theorem dX8_move_59 : decode cX8_move 59 = .ok (.aload_n 0, 1) := by decide +kernel
theorem dX8_move_60 : decode cX8_move 60 = .ok (.getfield 12, 3) := by decide +kernel
theorem dX8_move_63 : decode cX8_move 63 = .ok (.getfield 95, 3) := by decide +kernel
theorem dX8_move_66 : decode cX8_move 66 = .ok (.iload_n 1, 1) := by decide +kernel
theorem dX8_move_67 : decode cX8_move 67 = .ok (.iconst 0, 1) := by decide +kernel
theorem dX8_move_68 : decode cX8_move 68 = .ok (.iload_n 2, 1) := by decide +kernel
theorem dX8_move_69 : decode cX8_move 69 = .ok (.invokevirtual 129, 3) := by decide +kernel
theorem dX8_move_72 : decode cX8_move 72 = .ok (.iload_n 3, 1) := by decide +kernel
theorem dX8_move_73 : decode cX8_move 73 = .ok (.ireturn, 1) := by decide +kernel
theorem dX8_lend_0 : decode cX8_lend 0 = .ok (.aload_n 0, 1) := by decide +kernel
theorem dX8_lend_1 : decode cX8_lend 1 = .ok (.iload_n 1, 1) := by decide +kernel
theorem dX8_lend_2 : decode cX8_lend 2 = .ok (.iload_n 2, 1) := by decide +kernel
theorem dX8_lend_3 : decode cX8_lend 3 = .ok (.iload_n 3, 1) := by decide +kernel
theorem dX8_lend_4 : decode cX8_lend 4 = .ok (.invokevirtual 158, 3) := by decide +kernel
theorem dX8_lend_7 : decode cX8_lend 7 = .ok (.ifCond .ne 5, 3) := by decide +kernel
theorem dX8_lend_10 : decode cX8_lend 10 = .ok (.iconst (-1), 1) := by decide +kernel
theorem dX8_lend_11 : decode cX8_lend 11 = .ok (.ireturn, 1) := by decide +kernel
theorem dX8_lend_12 : decode cX8_lend 12 = .ok (.aload_n 0, 1) := by decide +kernel
theorem dX8_lend_13 : decode cX8_lend 13 = .ok (.getfield 12, 3) := by decide +kernel
theorem dX8_lend_16 : decode cX8_lend 16 = .ok (.getfield 146, 3) := by decide +kernel
theorem dX8_lend_19 : decode cX8_lend 19 = .ok (.iload_n 1, 1) := by decide +kernel
theorem dX8_lend_20 : decode cX8_lend 20 = .ok (.iconst 5, 1) := by decide +kernel
theorem dX8_lend_21 : decode cX8_lend 21 = .ok (.invokevirtual 125, 3) := by decide +kernel
theorem dX8_lend_24 : decode cX8_lend 24 = .ok (.iload_n 3, 1) := by decide +kernel
theorem dX8_lend_25 : decode cX8_lend 25 = .ok (.if_icmp .ge 6, 3) := by decide +kernel
theorem dX8_lend_28 : decode cX8_lend 28 = .ok (.bipush (-2), 2) := by decide +kernel
theorem dX8_lend_30 : decode cX8_lend 30 = .ok (.ireturn, 1) := by decide +kernel
theorem dX8_lend_31 : decode cX8_lend 31 = .ok (.aload_n 0, 1) := by decide +kernel
theorem dX8_lend_32 : decode cX8_lend 32 = .ok (.getfield 12, 3) := by decide +kernel
theorem dX8_lend_35 : decode cX8_lend 35 = .ok (.iload_n 2, 1) := by decide +kernel
theorem dX8_lend_36 : decode cX8_lend 36 = .ok (.iload_n 3, 1) := by decide +kernel
theorem dX8_lend_37 : decode cX8_lend 37 = .ok (.invokevirtual 167, 3) := by decide +kernel
theorem dX8_lend_40 : decode cX8_lend 40 = .ok (.ifCond .ne 6, 3) := by decide +kernel
theorem dX8_lend_43 : decode cX8_lend 43 = .ok (.bipush (-3), 2) := by decide +kernel
theorem dX8_lend_45 : decode cX8_lend 45 = .ok (.ireturn, 1) := by decide +kernel
theorem dX8_lend_46 : decode cX8_lend 46 = .ok (.aload_n 0, 1) := by decide +kernel
theorem dX8_lend_47 : decode cX8_lend 47 = .ok (.getfield 29, 3) := by decide +kernel
theorem dX8_lend_50 : decode cX8_lend 50 = .ok (.aload_n 0, 1) := by decide +kernel
theorem dX8_lend_51 : decode cX8_lend 51 = .ok (.getfield 12, 3) := by decide +kernel
theorem dX8_lend_54 : decode cX8_lend 54 = .ok (.invokevirtual 114, 3) := by decide +kernel
theorem dX8_lend_57 : decode cX8_lend 57 = .ok (.aload_n 0, 1) := by decide +kernel
theorem dX8_lend_58 : decode cX8_lend 58 = .ok (.getfield 12, 3) := by decide +kernel
theorem dX8_lend_61 : decode cX8_lend 61 = .ok (.getfield 146, 3) := by decide +kernel
theorem dX8_lend_64 : decode cX8_lend 64 = .ok (.iload_n 1, 1) := by decide +kernel
theorem dX8_lend_65 : decode cX8_lend 65 = .ok (.iconst 5, 1) := by decide +kernel
theorem dX8_lend_66 : decode cX8_lend 66 = .ok (.iload_n 3, 1) := by decide +kernel
theorem dX8_lend_67 : decode cX8_lend 67 = .ok (.ineg, 1) := by decide +kernel
theorem dX8_lend_68 : decode cX8_lend 68 = .ok (.invokevirtual 161, 3) := by decide +kernel
theorem dX8_lend_71 : decode cX8_lend 71 = .ok (.aload_n 0, 1) := by decide +kernel
theorem dX8_lend_72 : decode cX8_lend 72 = .ok (.getfield 12, 3) := by decide +kernel
theorem dX8_lend_75 : decode cX8_lend 75 = .ok (.getfield 146, 3) := by decide +kernel
theorem dX8_lend_78 : decode cX8_lend 78 = .ok (.iload_n 2, 1) := by decide +kernel
theorem dX8_lend_79 : decode cX8_lend 79 = .ok (.iconst 5, 1) := by decide +kernel
theorem dX8_lend_80 : decode cX8_lend 80 = .ok (.iload_n 3, 1) := by decide +kernel
theorem dX8_lend_81 : decode cX8_lend 81 = .ok (.invokevirtual 161, 3) := by decide +kernel
theorem dX8_lend_84 : decode cX8_lend 84 = .ok (.iconst 1, 1) := by decide +kernel
theorem dX8_lend_85 : decode cX8_lend 85 = .ok (.ireturn, 1) := by decide +kernel
theorem dX8_store_0 : decode cX8_store 0 = .ok (.aload_n 0, 1) := by decide +kernel
theorem dX8_store_1 : decode cX8_store 1 = .ok (.getfield 12, 3) := by decide +kernel
theorem dX8_store_4 : decode cX8_store 4 = .ok (.getfield 146, 3) := by decide +kernel
theorem dX8_store_7 : decode cX8_store 7 = .ok (.iload_n 1, 1) := by decide +kernel
theorem dX8_store_8 : decode cX8_store 8 = .ok (.invokevirtual 121, 3) := by decide +kernel
theorem dX8_store_11 : decode cX8_store 11 = .ok (.ifCond .eq 14, 3) := by decide +kernel
theorem dX8_store_14 : decode cX8_store 14 = .ok (.iload_n 2, 1) := by decide +kernel
theorem dX8_store_15 : decode cX8_store 15 = .ok (.iconst 1, 1) := by decide +kernel
theorem dX8_store_16 : decode cX8_store 16 = .ok (.sipush 9999, 3) := by decide +kernel
theorem dX8_store_19 : decode cX8_store 19 = .ok (.invokestatic 79, 3) := by decide +kernel
theorem dX8_store_22 : decode cX8_store 22 = .ok (.ifCond .ne 5, 3) := by decide +kernel
theorem dX8_store_25 : decode cX8_store 25 = .ok (.iconst (-1), 1) := by decide +kernel
theorem dX8_store_26 : decode cX8_store 26 = .ok (.ireturn, 1) := by decide +kernel
theorem dX8_store_27 : decode cX8_store 27 = .ok (.aload_n 0, 1) := by decide +kernel
theorem dX8_store_28 : decode cX8_store 28 = .ok (.getfield 12, 3) := by decide +kernel
theorem dX8_store_31 : decode cX8_store 31 = .ok (.getfield 146, 3) := by decide +kernel
theorem dX8_store_34 : decode cX8_store 34 = .ok (.iload_n 1, 1) := by decide +kernel
theorem dX8_store_35 : decode cX8_store 35 = .ok (.iconst 4, 1) := by decide +kernel
theorem dX8_store_36 : decode cX8_store 36 = .ok (.invokevirtual 125, 3) := by decide +kernel
theorem dX8_store_39 : decode cX8_store 39 = .ok (.iload_n 2, 1) := by decide +kernel
theorem dX8_store_40 : decode cX8_store 40 = .ok (.if_icmp .ge 6, 3) := by decide +kernel
theorem dX8_store_43 : decode cX8_store 43 = .ok (.bipush (-2), 2) := by decide +kernel
theorem dX8_store_45 : decode cX8_store 45 = .ok (.ireturn, 1) := by decide +kernel
theorem dX8_store_46 : decode cX8_store 46 = .ok (.aload_n 0, 1) := by decide +kernel
theorem dX8_store_47 : decode cX8_store 47 = .ok (.getfield 12, 3) := by decide +kernel
theorem dX8_store_50 : decode cX8_store 50 = .ok (.iload_n 1, 1) := by decide +kernel
theorem dX8_store_51 : decode cX8_store 51 = .ok (.iload_n 2, 1) := by decide +kernel
theorem dX8_store_52 : decode cX8_store 52 = .ok (.invokevirtual 167, 3) := by decide +kernel
theorem dX8_store_55 : decode cX8_store 55 = .ok (.ifCond .ne 6, 3) := by decide +kernel
theorem dX8_store_58 : decode cX8_store 58 = .ok (.bipush (-3), 2) := by decide +kernel
theorem dX8_store_60 : decode cX8_store 60 = .ok (.ireturn, 1) := by decide +kernel
theorem dX8_store_61 : decode cX8_store 61 = .ok (.aload_n 0, 1) := by decide +kernel
theorem dX8_store_62 : decode cX8_store 62 = .ok (.getfield 29, 3) := by decide +kernel
theorem dX8_store_65 : decode cX8_store 65 = .ok (.aload_n 0, 1) := by decide +kernel
theorem dX8_store_66 : decode cX8_store 66 = .ok (.getfield 12, 3) := by decide +kernel
theorem dX8_store_69 : decode cX8_store 69 = .ok (.invokevirtual 114, 3) := by decide +kernel
theorem dX8_store_72 : decode cX8_store 72 = .ok (.aload_n 0, 1) := by decide +kernel
theorem dX8_store_73 : decode cX8_store 73 = .ok (.getfield 12, 3) := by decide +kernel
theorem dX8_store_76 : decode cX8_store 76 = .ok (.getfield 146, 3) := by decide +kernel
theorem dX8_store_79 : decode cX8_store 79 = .ok (.iload_n 1, 1) := by decide +kernel
theorem dX8_store_80 : decode cX8_store 80 = .ok (.iconst 4, 1) := by decide +kernel
theorem dX8_store_81 : decode cX8_store 81 = .ok (.iload_n 2, 1) := by decide +kernel
theorem dX8_store_82 : decode cX8_store 82 = .ok (.ineg, 1) := by decide +kernel
theorem dX8_store_83 : decode cX8_store 83 = .ok (.invokevirtual 161, 3) := by decide +kernel
theorem dX8_store_86 : decode cX8_store 86 = .ok (.aload_n 0, 1) := by decide +kernel
theorem dX8_store_87 : decode cX8_store 87 = .ok (.getfield 12, 3) := by decide +kernel
theorem dX8_store_90 : decode cX8_store 90 = .ok (.getfield 146, 3) := by decide +kernel
theorem dX8_store_93 : decode cX8_store 93 = .ok (.iload_n 1, 1) := by decide +kernel
theorem dX8_store_94 : decode cX8_store 94 = .ok (.iconst 5, 1) := by decide +kernel
theorem dX8_store_95 : decode cX8_store 95 = .ok (.iload_n 2, 1) := by decide +kernel
theorem dX8_store_96 : decode cX8_store 96 = .ok (.invokevirtual 161, 3) := by decide +kernel
theorem dX8_store_99 : decode cX8_store 99 = .ok (.iconst 1, 1) := by decide +kernel
theorem dX8_store_100 : decode cX8_store 100 = .ok (.ireturn, 1) := by decide +kernel
theorem dX8_day_0 : decode cX8_day 0 = .ok (.aload_n 0, 1) := by decide +kernel
theorem dX8_day_1 : decode cX8_day 1 = .ok (.getfield 12, 3) := by decide +kernel
theorem dX8_day_4 : decode cX8_day 4 = .ok (.invokevirtual 170, 3) := by decide +kernel
theorem dX8_day_7 : decode cX8_day 7 = .ok (.ifCond .ne 5, 3) := by decide +kernel
theorem dX8_day_10 : decode cX8_day 10 = .ok (.iconst (-1), 1) := by decide +kernel
theorem dX8_day_11 : decode cX8_day 11 = .ok (.ireturn, 1) := by decide +kernel
theorem dX8_day_12 : decode cX8_day 12 = .ok (.aload_n 0, 1) := by decide +kernel
theorem dX8_day_13 : decode cX8_day 13 = .ok (.getfield 12, 3) := by decide +kernel
theorem dX8_day_16 : decode cX8_day 16 = .ok (.getfield 173, 3) := by decide +kernel
theorem dX8_day_19 : decode cX8_day 19 = .ok (.sipush 999, 3) := by decide +kernel
theorem dX8_day_22 : decode cX8_day 22 = .ok (.if_icmp .lt 6, 3) := by decide +kernel
theorem dX8_day_25 : decode cX8_day 25 = .ok (.bipush (-2), 2) := by decide +kernel
theorem dX8_day_27 : decode cX8_day 27 = .ok (.ireturn, 1) := by decide +kernel
theorem dX8_day_28 : decode cX8_day 28 = .ok (.aload_n 0, 1) := by decide +kernel
theorem dX8_day_29 : decode cX8_day 29 = .ok (.getfield 16, 3) := by decide +kernel
theorem dX8_day_32 : decode cX8_day 32 = .ok (.aload_n 0, 1) := by decide +kernel
theorem dX8_day_33 : decode cX8_day 33 = .ok (.getfield 12, 3) := by decide +kernel
theorem dX8_day_36 : decode cX8_day 36 = .ok (.invokevirtual 88, 3) := by decide +kernel
theorem dX8_day_39 : decode cX8_day 39 = .ok (.aload_n 0, 1) := by decide +kernel
theorem dX8_day_40 : decode cX8_day 40 = .ok (.iconst 1, 1) := by decide +kernel
theorem dX8_day_41 : decode cX8_day 41 = .ok (.invokevirtual 176, 3) := by decide +kernel
theorem dX8_day_44 : decode cX8_day 44 = .ok (.pop, 1) := by decide +kernel
theorem dX8_day_45 : decode cX8_day 45 = .ok (.aload_n 0, 1) := by decide +kernel
theorem dX8_day_46 : decode cX8_day 46 = .ok (.getfield 16, 3) := by decide +kernel
theorem dX8_day_49 : decode cX8_day 49 = .ok (.invokevirtual 180, 3) := by decide +kernel
theorem dX8_day_52 : decode cX8_day 52 = .ok (.ifCond .ne 6, 3) := by decide +kernel
theorem dX8_day_55 : decode cX8_day 55 = .ok (.bipush (-3), 2) := by decide +kernel
theorem dX8_day_57 : decode cX8_day 57 = .ok (.ireturn, 1) := by decide +kernel
theorem dX8_day_58 : decode cX8_day 58 = .ok (.aload_n 0, 1) := by decide +kernel
theorem dX8_day_59 : decode cX8_day 59 = .ok (.getfield 29, 3) := by decide +kernel
theorem dX8_day_62 : decode cX8_day 62 = .ok (.aload_n 0, 1) := by decide +kernel
theorem dX8_day_63 : decode cX8_day 63 = .ok (.getfield 12, 3) := by decide +kernel
theorem dX8_day_66 : decode cX8_day 66 = .ok (.invokevirtual 114, 3) := by decide +kernel
theorem dX8_day_69 : decode cX8_day 69 = .ok (.aload_n 0, 1) := by decide +kernel
theorem dX8_day_70 : decode cX8_day 70 = .ok (.getfield 12, 3) := by decide +kernel
theorem dX8_day_73 : decode cX8_day 73 = .ok (.aload_n 0, 1) := by decide +kernel
theorem dX8_day_74 : decode cX8_day 74 = .ok (.getfield 16, 3) := by decide +kernel
theorem dX8_day_77 : decode cX8_day 77 = .ok (.invokevirtual 88, 3) := by decide +kernel
theorem dX8_day_80 : decode cX8_day 80 = .ok (.aload_n 0, 1) := by decide +kernel
theorem dX8_day_81 : decode cX8_day 81 = .ok (.getfield 22, 3) := by decide +kernel
theorem dX8_day_84 : decode cX8_day 84 = .ok (.invokevirtual 183, 3) := by decide +kernel
theorem dX8_day_87 : decode cX8_day 87 = .ok (.ireturn, 1) := by decide +kernel
theorem dX8_close_0 : decode cX8_close 0 = .ok (.aload_n 0, 1) := by decide +kernel
theorem dX8_close_1 : decode cX8_close 1 = .ok (.getfield 12, 3) := by decide +kernel
theorem dX8_close_4 : decode cX8_close 4 = .ok (.invokevirtual 170, 3) := by decide +kernel
theorem dX8_close_7 : decode cX8_close 7 = .ok (.ifCond .ne 5, 3) := by decide +kernel
theorem dX8_close_10 : decode cX8_close 10 = .ok (.iconst (-1), 1) := by decide +kernel
theorem dX8_close_11 : decode cX8_close 11 = .ok (.ireturn, 1) := by decide +kernel
theorem dX8_close_12 : decode cX8_close 12 = .ok (.aload_n 0, 1) := by decide +kernel
theorem dX8_close_13 : decode cX8_close 13 = .ok (.getfield 12, 3) := by decide +kernel
theorem dX8_close_16 : decode cX8_close 16 = .ok (.invokevirtual 186, 3) := by decide +kernel
theorem dX8_close_19 : decode cX8_close 19 = .ok (.istore_n 1, 1) := by decide +kernel
theorem dX8_close_20 : decode cX8_close 20 = .ok (.iload_n 1, 1) := by decide +kernel
theorem dX8_close_21 : decode cX8_close 21 = .ok (.ifCond .ne 6, 3) := by decide +kernel
theorem dX8_close_24 : decode cX8_close 24 = .ok (.bipush (-2), 2) := by decide +kernel
theorem dX8_close_26 : decode cX8_close 26 = .ok (.ireturn, 1) := by decide +kernel
theorem dX8_close_27 : decode cX8_close 27 = .ok (.aload_n 0, 1) := by decide +kernel
theorem dX8_close_28 : decode cX8_close 28 = .ok (.getfield 29, 3) := by decide +kernel
theorem dX8_close_31 : decode cX8_close 31 = .ok (.aload_n 0, 1) := by decide +kernel
theorem dX8_close_32 : decode cX8_close 32 = .ok (.getfield 12, 3) := by decide +kernel
theorem dX8_close_35 : decode cX8_close 35 = .ok (.invokevirtual 114, 3) := by decide +kernel
theorem dX8_close_38 : decode cX8_close 38 = .ok (.aload_n 0, 1) := by decide +kernel
theorem dX8_close_39 : decode cX8_close 39 = .ok (.getfield 12, 3) := by decide +kernel
theorem dX8_close_42 : decode cX8_close 42 = .ok (.invokevirtual 189, 3) := by decide +kernel
theorem dX8_close_45 : decode cX8_close 45 = .ok (.iload_n 1, 1) := by decide +kernel
theorem dX8_close_46 : decode cX8_close 46 = .ok (.ireturn, 1) := by decide +kernel
theorem dX8_undo_0 : decode cX8_undo 0 = .ok (.aload_n 0, 1) := by decide +kernel
theorem dX8_undo_1 : decode cX8_undo 1 = .ok (.getfield 29, 3) := by decide +kernel
theorem dX8_undo_4 : decode cX8_undo 4 = .ok (.getfield 192, 3) := by decide +kernel
theorem dX8_undo_7 : decode cX8_undo 7 = .ok (.ifCond .ne 5, 3) := by decide +kernel
theorem dX8_undo_10 : decode cX8_undo 10 = .ok (.iconst (-1), 1) := by decide +kernel
theorem dX8_undo_11 : decode cX8_undo 11 = .ok (.ireturn, 1) := by decide +kernel
theorem dX8_undo_12 : decode cX8_undo 12 = .ok (.aload_n 0, 1) := by decide +kernel
theorem dX8_undo_13 : decode cX8_undo 13 = .ok (.getfield 29, 3) := by decide +kernel
theorem dX8_undo_16 : decode cX8_undo 16 = .ok (.aload_n 0, 1) := by decide +kernel
theorem dX8_undo_17 : decode cX8_undo 17 = .ok (.getfield 12, 3) := by decide +kernel
theorem dX8_undo_20 : decode cX8_undo 20 = .ok (.invokevirtual 195, 3) := by decide +kernel
theorem dX8_undo_23 : decode cX8_undo 23 = .ok (.aload_n 0, 1) := by decide +kernel
theorem dX8_undo_24 : decode cX8_undo 24 = .ok (.getfield 29, 3) := by decide +kernel
theorem dX8_undo_27 : decode cX8_undo 27 = .ok (.getfield 192, 3) := by decide +kernel
theorem dX8_undo_30 : decode cX8_undo 30 = .ok (.ireturn, 1) := by decide +kernel
theorem dX8_keep_0 : decode cX8_keep 0 = .ok (.iload_n 1, 1) := by decide +kernel
theorem dX8_keep_1 : decode cX8_keep 1 = .ok (.iconst 0, 1) := by decide +kernel
theorem dX8_keep_2 : decode cX8_keep 2 = .ok (.iconst 1, 1) := by decide +kernel
theorem dX8_keep_3 : decode cX8_keep 3 = .ok (.invokestatic 79, 3) := by decide +kernel
theorem dX8_keep_6 : decode cX8_keep 6 = .ok (.ifCond .ne 5, 3) := by decide +kernel
theorem dX8_keep_9 : decode cX8_keep 9 = .ok (.iconst (-1), 1) := by decide +kernel
theorem dX8_keep_10 : decode cX8_keep 10 = .ok (.ireturn, 1) := by decide +kernel
theorem dX8_keep_11 : decode cX8_keep 11 = .ok (.aload_n 0, 1) := by decide +kernel
theorem dX8_keep_12 : decode cX8_keep 12 = .ok (.getfield 33, 3) := by decide +kernel
theorem dX8_keep_15 : decode cX8_keep 15 = .ok (.iload_n 1, 1) := by decide +kernel
theorem dX8_keep_16 : decode cX8_keep 16 = .ok (.aaload, 1) := by decide +kernel
theorem dX8_keep_17 : decode cX8_keep 17 = .ok (.aload_n 0, 1) := by decide +kernel
theorem dX8_keep_18 : decode cX8_keep 18 = .ok (.getfield 12, 3) := by decide +kernel
theorem dX8_keep_21 : decode cX8_keep 21 = .ok (.invokevirtual 88, 3) := by decide +kernel
theorem dX8_keep_24 : decode cX8_keep 24 = .ok (.aload_n 0, 1) := by decide +kernel
theorem dX8_keep_25 : decode cX8_keep 25 = .ok (.dup, 1) := by decide +kernel
theorem dX8_keep_26 : decode cX8_keep 26 = .ok (.getfield 37, 3) := by decide +kernel
theorem dX8_keep_29 : decode cX8_keep 29 = .ok (.iconst 1, 1) := by decide +kernel
theorem dX8_keep_30 : decode cX8_keep 30 = .ok (.iload_n 1, 1) := by decide +kernel
theorem dX8_keep_31 : decode cX8_keep 31 = .ok (.ishl, 1) := by decide +kernel
theorem dX8_keep_32 : decode cX8_keep 32 = .ok (.ior, 1) := by decide +kernel
theorem dX8_keep_33 : decode cX8_keep 33 = .ok (.putfield 37, 3) := by decide +kernel
theorem dX8_keep_36 : decode cX8_keep 36 = .ok (.aload_n 0, 1) := by decide +kernel
theorem dX8_keep_37 : decode cX8_keep 37 = .ok (.getfield 12, 3) := by decide +kernel
theorem dX8_keep_40 : decode cX8_keep 40 = .ok (.getfield 95, 3) := by decide +kernel
theorem dX8_keep_43 : decode cX8_keep 43 = .ok (.getfield 99, 3) := by decide +kernel
theorem dX8_keep_46 : decode cX8_keep 46 = .ok (.ireturn, 1) := by decide +kernel
theorem dX8_back_0 : decode cX8_back 0 = .ok (.iload_n 1, 1) := by decide +kernel
theorem dX8_back_1 : decode cX8_back 1 = .ok (.iconst 0, 1) := by decide +kernel
theorem dX8_back_2 : decode cX8_back 2 = .ok (.iconst 1, 1) := by decide +kernel
theorem dX8_back_3 : decode cX8_back 3 = .ok (.invokestatic 79, 3) := by decide +kernel
theorem dX8_back_6 : decode cX8_back 6 = .ok (.ifCond .ne 5, 3) := by decide +kernel
theorem dX8_back_9 : decode cX8_back 9 = .ok (.iconst (-1), 1) := by decide +kernel
theorem dX8_back_10 : decode cX8_back 10 = .ok (.ireturn, 1) := by decide +kernel
theorem dX8_back_11 : decode cX8_back 11 = .ok (.aload_n 0, 1) := by decide +kernel
theorem dX8_back_12 : decode cX8_back 12 = .ok (.getfield 37, 3) := by decide +kernel
theorem dX8_back_15 : decode cX8_back 15 = .ok (.iconst 1, 1) := by decide +kernel
theorem dX8_back_16 : decode cX8_back 16 = .ok (.iload_n 1, 1) := by decide +kernel
theorem dX8_back_17 : decode cX8_back 17 = .ok (.ishl, 1) := by decide +kernel
theorem dX8_back_18 : decode cX8_back 18 = .ok (.iand, 1) := by decide +kernel
theorem dX8_back_19 : decode cX8_back 19 = .ok (.ifCond .ne 6, 3) := by decide +kernel
theorem dX8_back_22 : decode cX8_back 22 = .ok (.bipush (-2), 2) := by decide +kernel
theorem dX8_back_24 : decode cX8_back 24 = .ok (.ireturn, 1) := by decide +kernel
theorem dX8_back_25 : decode cX8_back 25 = .ok (.aload_n 0, 1) := by decide +kernel
theorem dX8_back_26 : decode cX8_back 26 = .ok (.getfield 12, 3) := by decide +kernel
theorem dX8_back_29 : decode cX8_back 29 = .ok (.aload_n 0, 1) := by decide +kernel
theorem dX8_back_30 : decode cX8_back 30 = .ok (.getfield 33, 3) := by decide +kernel
theorem dX8_back_33 : decode cX8_back 33 = .ok (.iload_n 1, 1) := by decide +kernel
theorem dX8_back_34 : decode cX8_back 34 = .ok (.aaload, 1) := by decide +kernel
theorem dX8_back_35 : decode cX8_back 35 = .ok (.invokevirtual 88, 3) := by decide +kernel
theorem dX8_back_38 : decode cX8_back 38 = .ok (.aload_n 0, 1) := by decide +kernel
theorem dX8_back_39 : decode cX8_back 39 = .ok (.getfield 29, 3) := by decide +kernel
theorem dX8_back_42 : decode cX8_back 42 = .ok (.invokevirtual 92, 3) := by decide +kernel
theorem dX8_back_45 : decode cX8_back 45 = .ok (.aload_n 0, 1) := by decide +kernel
theorem dX8_back_46 : decode cX8_back 46 = .ok (.getfield 12, 3) := by decide +kernel
theorem dX8_back_49 : decode cX8_back 49 = .ok (.getfield 95, 3) := by decide +kernel
theorem dX8_back_52 : decode cX8_back 52 = .ok (.getfield 99, 3) := by decide +kernel
theorem dX8_back_55 : decode cX8_back 55 = .ok (.ireturn, 1) := by decide +kernel
theorem dX8_point_0 : decode cX8_point 0 = .ok (.aload_n 0, 1) := by decide +kernel
theorem dX8_point_1 : decode cX8_point 1 = .ok (.getfield 12, 3) := by decide +kernel
theorem dX8_point_4 : decode cX8_point 4 = .ok (.getfield 95, 3) := by decide +kernel
theorem dX8_point_7 : decode cX8_point 7 = .ok (.iload_n 1, 1) := by decide +kernel
theorem dX8_point_8 : decode cX8_point 8 = .ok (.invokevirtual 121, 3) := by decide +kernel
theorem dX8_point_11 : decode cX8_point 11 = .ok (.ifCond .ne 5, 3) := by decide +kernel
theorem dX8_point_14 : decode cX8_point 14 = .ok (.iconst (-1), 1) := by decide +kernel
theorem dX8_point_15 : decode cX8_point 15 = .ok (.ireturn, 1) := by decide +kernel
theorem dX8_point_16 : decode cX8_point 16 = .ok (.iload_n 2, 1) := by decide +kernel
theorem dX8_point_17 : decode cX8_point 17 = .ok (.tableswitch 88 0 4 #[35, 35, 35, 48, 64], 35) := by decide +kernel
theorem dX8_point_52 : decode cX8_point 52 = .ok (.aload_n 0, 1) := by decide +kernel
theorem dX8_point_53 : decode cX8_point 53 = .ok (.getfield 12, 3) := by decide +kernel
theorem dX8_point_56 : decode cX8_point 56 = .ok (.getfield 95, 3) := by decide +kernel
theorem dX8_point_59 : decode cX8_point 59 = .ok (.iload_n 1, 1) := by decide +kernel
theorem dX8_point_60 : decode cX8_point 60 = .ok (.iload_n 2, 1) := by decide +kernel
theorem dX8_point_61 : decode cX8_point 61 = .ok (.invokevirtual 125, 3) := by decide +kernel
theorem dX8_point_64 : decode cX8_point 64 = .ok (.ireturn, 1) := by decide +kernel
theorem dX8_point_65 : decode cX8_point 65 = .ok (.aload_n 0, 1) := by decide +kernel
theorem dX8_point_66 : decode cX8_point 66 = .ok (.getfield 12, 3) := by decide +kernel
theorem dX8_point_69 : decode cX8_point 69 = .ok (.getfield 95, 3) := by decide +kernel
theorem dX8_point_72 : decode cX8_point 72 = .ok (.iload_n 1, 1) := by decide +kernel
theorem dX8_point_73 : decode cX8_point 73 = .ok (.iconst 3, 1) := by decide +kernel
theorem dX8_point_74 : decode cX8_point 74 = .ok (.invokevirtual 125, 3) := by decide +kernel
theorem dX8_point_77 : decode cX8_point 77 = .ok (.bipush 100, 2) := by decide +kernel
theorem dX8_point_79 : decode cX8_point 79 = .ok (.iadd, 1) := by decide +kernel
theorem dX8_point_80 : decode cX8_point 80 = .ok (.ireturn, 1) := by decide +kernel
theorem dX8_point_81 : decode cX8_point 81 = .ok (.aload_n 0, 1) := by decide +kernel
theorem dX8_point_82 : decode cX8_point 82 = .ok (.getfield 22, 3) := by decide +kernel
theorem dX8_point_85 : decode cX8_point 85 = .ok (.aload_n 0, 1) := by decide +kernel
theorem dX8_point_86 : decode cX8_point 86 = .ok (.getfield 12, 3) := by decide +kernel
theorem dX8_point_89 : decode cX8_point 89 = .ok (.invokevirtual 198, 3) := by decide +kernel
theorem dX8_point_92 : decode cX8_point 92 = .ok (.aload_n 0, 1) := by decide +kernel
theorem dX8_point_93 : decode cX8_point 93 = .ok (.getfield 22, 3) := by decide +kernel
theorem dX8_point_96 : decode cX8_point 96 = .ok (.aload_n 0, 1) := by decide +kernel
theorem dX8_point_97 : decode cX8_point 97 = .ok (.getfield 12, 3) := by decide +kernel
theorem dX8_point_100 : decode cX8_point 100 = .ok (.iload_n 1, 1) := by decide +kernel
theorem dX8_point_101 : decode cX8_point 101 = .ok (.invokevirtual 201, 3) := by decide +kernel
theorem dX8_point_104 : decode cX8_point 104 = .ok (.ireturn, 1) := by decide +kernel
theorem dX8_point_105 : decode cX8_point 105 = .ok (.iconst (-1), 1) := by decide +kernel
theorem dX8_point_106 : decode cX8_point 106 = .ok (.ireturn, 1) := by decide +kernel
theorem dX8_segment_0 : decode cX8_segment 0 = .ok (.aload_n 0, 1) := by decide +kernel
theorem dX8_segment_1 : decode cX8_segment 1 = .ok (.getfield 12, 3) := by decide +kernel
theorem dX8_segment_4 : decode cX8_segment 4 = .ok (.getfield 205, 3) := by decide +kernel
theorem dX8_segment_7 : decode cX8_segment 7 = .ok (.iload_n 1, 1) := by decide +kernel
theorem dX8_segment_8 : decode cX8_segment 8 = .ok (.invokevirtual 121, 3) := by decide +kernel
theorem dX8_segment_11 : decode cX8_segment 11 = .ok (.ifCond .ne 5, 3) := by decide +kernel
theorem dX8_segment_14 : decode cX8_segment 14 = .ok (.iconst (-1), 1) := by decide +kernel
theorem dX8_segment_15 : decode cX8_segment 15 = .ok (.ireturn, 1) := by decide +kernel
theorem dX8_segment_16 : decode cX8_segment 16 = .ok (.iload_n 2, 1) := by decide +kernel
theorem dX8_segment_17 : decode cX8_segment 17 = .ok (.tableswitch 84 0 3 #[31, 31, 44, 64], 31) := by decide +kernel
theorem dX8_segment_48 : decode cX8_segment 48 = .ok (.aload_n 0, 1) := by decide +kernel
theorem dX8_segment_49 : decode cX8_segment 49 = .ok (.getfield 12, 3) := by decide +kernel
theorem dX8_segment_52 : decode cX8_segment 52 = .ok (.getfield 205, 3) := by decide +kernel
theorem dX8_segment_55 : decode cX8_segment 55 = .ok (.iload_n 1, 1) := by decide +kernel
theorem dX8_segment_56 : decode cX8_segment 56 = .ok (.iload_n 2, 1) := by decide +kernel
theorem dX8_segment_57 : decode cX8_segment 57 = .ok (.invokevirtual 125, 3) := by decide +kernel
theorem dX8_segment_60 : decode cX8_segment 60 = .ok (.ireturn, 1) := by decide +kernel
theorem dX8_segment_61 : decode cX8_segment 61 = .ok (.aload_n 0, 1) := by decide +kernel
theorem dX8_segment_62 : decode cX8_segment 62 = .ok (.getfield 22, 3) := by decide +kernel
theorem dX8_segment_65 : decode cX8_segment 65 = .ok (.aload_n 0, 1) := by decide +kernel
theorem dX8_segment_66 : decode cX8_segment 66 = .ok (.getfield 12, 3) := by decide +kernel
theorem dX8_segment_69 : decode cX8_segment 69 = .ok (.invokevirtual 198, 3) := by decide +kernel
theorem dX8_segment_72 : decode cX8_segment 72 = .ok (.aload_n 0, 1) := by decide +kernel
theorem dX8_segment_73 : decode cX8_segment 73 = .ok (.getfield 22, 3) := by decide +kernel
theorem dX8_segment_76 : decode cX8_segment 76 = .ok (.iload_n 1, 1) := by decide +kernel
theorem dX8_segment_77 : decode cX8_segment 77 = .ok (.invokevirtual 208, 3) := by decide +kernel
theorem dX8_segment_80 : decode cX8_segment 80 = .ok (.ireturn, 1) := by decide +kernel
theorem dX8_segment_81 : decode cX8_segment 81 = .ok (.aload_n 0, 1) := by decide +kernel
theorem dX8_segment_82 : decode cX8_segment 82 = .ok (.getfield 22, 3) := by decide +kernel
theorem dX8_segment_85 : decode cX8_segment 85 = .ok (.aload_n 0, 1) := by decide +kernel
theorem dX8_segment_86 : decode cX8_segment 86 = .ok (.getfield 12, 3) := by decide +kernel
theorem dX8_segment_89 : decode cX8_segment 89 = .ok (.invokevirtual 198, 3) := by decide +kernel
theorem dX8_segment_92 : decode cX8_segment 92 = .ok (.aload_n 0, 1) := by decide +kernel
theorem dX8_segment_93 : decode cX8_segment 93 = .ok (.getfield 22, 3) := by decide +kernel
theorem dX8_segment_96 : decode cX8_segment 96 = .ok (.iload_n 1, 1) := by decide +kernel
theorem dX8_segment_97 : decode cX8_segment 97 = .ok (.invokevirtual 211, 3) := by decide +kernel
theorem dX8_segment_100 : decode cX8_segment 100 = .ok (.ireturn, 1) := by decide +kernel
theorem dX8_segment_101 : decode cX8_segment 101 = .ok (.iconst (-1), 1) := by decide +kernel
theorem dX8_segment_102 : decode cX8_segment 102 = .ok (.ireturn, 1) := by decide +kernel
theorem dX8_shipper_0 : decode cX8_shipper 0 = .ok (.aload_n 0, 1) := by decide +kernel
theorem dX8_shipper_1 : decode cX8_shipper 1 = .ok (.getfield 12, 3) := by decide +kernel
theorem dX8_shipper_4 : decode cX8_shipper 4 = .ok (.getfield 146, 3) := by decide +kernel
theorem dX8_shipper_7 : decode cX8_shipper 7 = .ok (.iload_n 1, 1) := by decide +kernel
theorem dX8_shipper_8 : decode cX8_shipper 8 = .ok (.invokevirtual 121, 3) := by decide +kernel
theorem dX8_shipper_11 : decode cX8_shipper 11 = .ok (.ifCond .eq 13, 3) := by decide +kernel
theorem dX8_shipper_14 : decode cX8_shipper 14 = .ok (.iload_n 2, 1) := by decide +kernel
theorem dX8_shipper_15 : decode cX8_shipper 15 = .ok (.iconst 0, 1) := by decide +kernel
theorem dX8_shipper_16 : decode cX8_shipper 16 = .ok (.bipush 6, 2) := by decide +kernel
theorem dX8_shipper_18 : decode cX8_shipper 18 = .ok (.invokestatic 79, 3) := by decide +kernel
theorem dX8_shipper_21 : decode cX8_shipper 21 = .ok (.ifCond .ne 7, 3) := by decide +kernel
theorem dX8_shipper_24 : decode cX8_shipper 24 = .ok (.ldc2_w 214, 3) := by decide +kernel
theorem dX8_shipper_27 : decode cX8_shipper 27 = .ok (.lreturn, 1) := by decide +kernel
theorem dX8_shipper_28 : decode cX8_shipper 28 = .ok (.iload_n 2, 1) := by decide +kernel
theorem dX8_shipper_29 : decode cX8_shipper 29 = .ok (.bipush 6, 2) := by decide +kernel
theorem dX8_shipper_31 : decode cX8_shipper 31 = .ok (.if_icmp .ne 13, 3) := by decide +kernel
theorem dX8_shipper_34 : decode cX8_shipper 34 = .ok (.aload_n 0, 1) := by decide +kernel
theorem dX8_shipper_35 : decode cX8_shipper 35 = .ok (.getfield 12, 3) := by decide +kernel
theorem dX8_shipper_38 : decode cX8_shipper 38 = .ok (.getfield 216, 3) := by decide +kernel
theorem dX8_shipper_41 : decode cX8_shipper 41 = .ok (.iload_n 1, 1) := by decide +kernel
theorem dX8_shipper_42 : decode cX8_shipper 42 = .ok (.laload, 1) := by decide +kernel
theorem dX8_shipper_43 : decode cX8_shipper 43 = .ok (.lreturn, 1) := by decide +kernel
theorem dX8_shipper_44 : decode cX8_shipper 44 = .ok (.aload_n 0, 1) := by decide +kernel
theorem dX8_shipper_45 : decode cX8_shipper 45 = .ok (.getfield 12, 3) := by decide +kernel
theorem dX8_shipper_48 : decode cX8_shipper 48 = .ok (.getfield 146, 3) := by decide +kernel
theorem dX8_shipper_51 : decode cX8_shipper 51 = .ok (.iload_n 1, 1) := by decide +kernel
theorem dX8_shipper_52 : decode cX8_shipper 52 = .ok (.iload_n 2, 1) := by decide +kernel
theorem dX8_shipper_53 : decode cX8_shipper 53 = .ok (.invokevirtual 125, 3) := by decide +kernel
theorem dX8_shipper_56 : decode cX8_shipper 56 = .ok (.i2l, 1) := by decide +kernel
theorem dX8_shipper_57 : decode cX8_shipper 57 = .ok (.lreturn, 1) := by decide +kernel
theorem dX8_nomination_0 : decode cX8_nomination 0 = .ok (.aload_n 0, 1) := by decide +kernel
theorem dX8_nomination_1 : decode cX8_nomination 1 = .ok (.getfield 12, 3) := by decide +kernel
theorem dX8_nomination_4 : decode cX8_nomination 4 = .ok (.getfield 108, 3) := by decide +kernel
theorem dX8_nomination_7 : decode cX8_nomination 7 = .ok (.iload_n 1, 1) := by decide +kernel
theorem dX8_nomination_8 : decode cX8_nomination 8 = .ok (.invokevirtual 121, 3) := by decide +kernel
theorem dX8_nomination_11 : decode cX8_nomination 11 = .ok (.ifCond .eq 12, 3) := by decide +kernel
theorem dX8_nomination_14 : decode cX8_nomination 14 = .ok (.iload_n 2, 1) := by decide +kernel
theorem dX8_nomination_15 : decode cX8_nomination 15 = .ok (.iconst 0, 1) := by decide +kernel
theorem dX8_nomination_16 : decode cX8_nomination 16 = .ok (.iconst 3, 1) := by decide +kernel
theorem dX8_nomination_17 : decode cX8_nomination 17 = .ok (.invokestatic 79, 3) := by decide +kernel
theorem dX8_nomination_20 : decode cX8_nomination 20 = .ok (.ifCond .ne 6, 3) := by decide +kernel
theorem dX8_nomination_23 : decode cX8_nomination 23 = .ok (.bipush (-2), 2) := by decide +kernel
theorem dX8_nomination_25 : decode cX8_nomination 25 = .ok (.ireturn, 1) := by decide +kernel
theorem dX8_nomination_26 : decode cX8_nomination 26 = .ok (.aload_n 0, 1) := by decide +kernel
theorem dX8_nomination_27 : decode cX8_nomination 27 = .ok (.getfield 12, 3) := by decide +kernel
theorem dX8_nomination_30 : decode cX8_nomination 30 = .ok (.getfield 108, 3) := by decide +kernel
theorem dX8_nomination_33 : decode cX8_nomination 33 = .ok (.iload_n 1, 1) := by decide +kernel
theorem dX8_nomination_34 : decode cX8_nomination 34 = .ok (.iload_n 2, 1) := by decide +kernel
theorem dX8_nomination_35 : decode cX8_nomination 35 = .ok (.invokevirtual 125, 3) := by decide +kernel
theorem dX8_nomination_38 : decode cX8_nomination 38 = .ok (.ireturn, 1) := by decide +kernel
theorem dX8_plan_0 : decode cX8_plan 0 = .ok (.aload_n 0, 1) := by decide +kernel
theorem dX8_plan_1 : decode cX8_plan 1 = .ok (.getfield 12, 3) := by decide +kernel
theorem dX8_plan_4 : decode cX8_plan 4 = .ok (.getfield 108, 3) := by decide +kernel
theorem dX8_plan_7 : decode cX8_plan 7 = .ok (.iload_n 1, 1) := by decide +kernel
theorem dX8_plan_8 : decode cX8_plan 8 = .ok (.invokevirtual 121, 3) := by decide +kernel
theorem dX8_plan_11 : decode cX8_plan 11 = .ok (.ifCond .ne 5, 3) := by decide +kernel
theorem dX8_plan_14 : decode cX8_plan 14 = .ok (.iconst (-1), 1) := by decide +kernel
theorem dX8_plan_15 : decode cX8_plan 15 = .ok (.ireturn, 1) := by decide +kernel
theorem dX8_plan_16 : decode cX8_plan 16 = .ok (.aload_n 0, 1) := by decide +kernel
theorem dX8_plan_17 : decode cX8_plan 17 = .ok (.getfield 22, 3) := by decide +kernel
theorem dX8_plan_20 : decode cX8_plan 20 = .ok (.aload_n 0, 1) := by decide +kernel
theorem dX8_plan_21 : decode cX8_plan 21 = .ok (.getfield 12, 3) := by decide +kernel
theorem dX8_plan_24 : decode cX8_plan 24 = .ok (.invokevirtual 198, 3) := by decide +kernel
theorem dX8_plan_27 : decode cX8_plan 27 = .ok (.aload_n 0, 1) := by decide +kernel
theorem dX8_plan_28 : decode cX8_plan 28 = .ok (.getfield 22, 3) := by decide +kernel
theorem dX8_plan_31 : decode cX8_plan 31 = .ok (.iload_n 1, 1) := by decide +kernel
theorem dX8_plan_32 : decode cX8_plan 32 = .ok (.invokevirtual 220, 3) := by decide +kernel
theorem dX8_plan_35 : decode cX8_plan 35 = .ok (.istore_n 3, 1) := by decide +kernel
theorem dX8_plan_36 : decode cX8_plan 36 = .ok (.aload_n 0, 1) := by decide +kernel
theorem dX8_plan_37 : decode cX8_plan 37 = .ok (.getfield 12, 3) := by decide +kernel
theorem dX8_plan_40 : decode cX8_plan 40 = .ok (.iload_n 1, 1) := by decide +kernel
theorem dX8_plan_41 : decode cX8_plan 41 = .ok (.iload_n 3, 1) := by decide +kernel
theorem dX8_plan_42 : decode cX8_plan 42 = .ok (.invokevirtual 223, 3) := by decide +kernel
theorem dX8_plan_45 : decode cX8_plan 45 = .ok (.istore 4, 2) := by decide +kernel
theorem dX8_plan_47 : decode cX8_plan 47 = .ok (.iload_n 2, 1) := by decide +kernel
theorem dX8_plan_48 : decode cX8_plan 48 = .ok (.tableswitch 71 0 4 #[36, 38, 48, 51, 56], 36) := by decide +kernel
theorem dX8_plan_84 : decode cX8_plan 84 = .ok (.iload_n 3, 1) := by decide +kernel
theorem dX8_plan_85 : decode cX8_plan 85 = .ok (.ireturn, 1) := by decide +kernel
theorem dX8_plan_86 : decode cX8_plan 86 = .ok (.aload_n 0, 1) := by decide +kernel
theorem dX8_plan_87 : decode cX8_plan 87 = .ok (.getfield 22, 3) := by decide +kernel
theorem dX8_plan_90 : decode cX8_plan 90 = .ok (.getfield 226, 3) := by decide +kernel
theorem dX8_plan_93 : decode cX8_plan 93 = .ok (.iload_n 1, 1) := by decide +kernel
theorem dX8_plan_94 : decode cX8_plan 94 = .ok (.iaload, 1) := by decide +kernel
theorem dX8_plan_95 : decode cX8_plan 95 = .ok (.ireturn, 1) := by decide +kernel
theorem dX8_plan_96 : decode cX8_plan 96 = .ok (.iload 4, 2) := by decide +kernel
theorem dX8_plan_98 : decode cX8_plan 98 = .ok (.ireturn, 1) := by decide +kernel
theorem dX8_plan_99 : decode cX8_plan 99 = .ok (.iload_n 3, 1) := by decide +kernel
theorem dX8_plan_100 : decode cX8_plan 100 = .ok (.iload 4, 2) := by decide +kernel
theorem dX8_plan_102 : decode cX8_plan 102 = .ok (.isub, 1) := by decide +kernel
theorem dX8_plan_103 : decode cX8_plan 103 = .ok (.ireturn, 1) := by decide +kernel
theorem dX8_plan_104 : decode cX8_plan 104 = .ok (.aload_n 0, 1) := by decide +kernel
theorem dX8_plan_105 : decode cX8_plan 105 = .ok (.getfield 12, 3) := by decide +kernel
theorem dX8_plan_108 : decode cX8_plan 108 = .ok (.getfield 108, 3) := by decide +kernel
theorem dX8_plan_111 : decode cX8_plan 111 = .ok (.iload_n 1, 1) := by decide +kernel
theorem dX8_plan_112 : decode cX8_plan 112 = .ok (.iconst 3, 1) := by decide +kernel
theorem dX8_plan_113 : decode cX8_plan 113 = .ok (.invokevirtual 125, 3) := by decide +kernel
theorem dX8_plan_116 : decode cX8_plan 116 = .ok (.iload_n 3, 1) := by decide +kernel
theorem dX8_plan_117 : decode cX8_plan 117 = .ok (.isub, 1) := by decide +kernel
theorem dX8_plan_118 : decode cX8_plan 118 = .ok (.ireturn, 1) := by decide +kernel
theorem dX8_plan_119 : decode cX8_plan 119 = .ok (.iconst (-1), 1) := by decide +kernel
theorem dX8_plan_120 : decode cX8_plan 120 = .ok (.ireturn, 1) := by decide +kernel
theorem dX8_cause_0 : decode cX8_cause 0 = .ok (.aload_n 0, 1) := by decide +kernel
theorem dX8_cause_1 : decode cX8_cause 1 = .ok (.getfield 12, 3) := by decide +kernel
theorem dX8_cause_4 : decode cX8_cause 4 = .ok (.getfield 108, 3) := by decide +kernel
theorem dX8_cause_7 : decode cX8_cause 7 = .ok (.iload_n 1, 1) := by decide +kernel
theorem dX8_cause_8 : decode cX8_cause 8 = .ok (.invokevirtual 121, 3) := by decide +kernel
theorem dX8_cause_11 : decode cX8_cause 11 = .ok (.ifCond .ne 5, 3) := by decide +kernel
theorem dX8_cause_14 : decode cX8_cause 14 = .ok (.iconst (-1), 1) := by decide +kernel
theorem dX8_cause_15 : decode cX8_cause 15 = .ok (.ireturn, 1) := by decide +kernel
theorem dX8_cause_16 : decode cX8_cause 16 = .ok (.aload_n 0, 1) := by decide +kernel
theorem dX8_cause_17 : decode cX8_cause 17 = .ok (.getfield 22, 3) := by decide +kernel
theorem dX8_cause_20 : decode cX8_cause 20 = .ok (.aload_n 0, 1) := by decide +kernel
theorem dX8_cause_21 : decode cX8_cause 21 = .ok (.getfield 12, 3) := by decide +kernel
theorem dX8_cause_24 : decode cX8_cause 24 = .ok (.invokevirtual 198, 3) := by decide +kernel
theorem dX8_cause_27 : decode cX8_cause 27 = .ok (.aload_n 0, 1) := by decide +kernel
theorem dX8_cause_28 : decode cX8_cause 28 = .ok (.getfield 22, 3) := by decide +kernel
theorem dX8_cause_31 : decode cX8_cause 31 = .ok (.getfield 230, 3) := by decide +kernel
theorem dX8_cause_34 : decode cX8_cause 34 = .ok (.iload_n 1, 1) := by decide +kernel
theorem dX8_cause_35 : decode cX8_cause 35 = .ok (.iaload, 1) := by decide +kernel
theorem dX8_cause_36 : decode cX8_cause 36 = .ok (.ireturn, 1) := by decide +kernel
theorem dX8_tight_0 : decode cX8_tight 0 = .ok (.iload_n 1, 1) := by decide +kernel
theorem dX8_tight_1 : decode cX8_tight 1 = .ok (.iconst (-1), 1) := by decide +kernel
theorem dX8_tight_2 : decode cX8_tight 2 = .ok (.if_icmp .lt 13, 3) := by decide +kernel
theorem dX8_tight_5 : decode cX8_tight 5 = .ok (.aload_n 0, 1) := by decide +kernel
theorem dX8_tight_6 : decode cX8_tight 6 = .ok (.getfield 12, 3) := by decide +kernel
theorem dX8_tight_9 : decode cX8_tight 9 = .ok (.invokevirtual 170, 3) := by decide +kernel
theorem dX8_tight_12 : decode cX8_tight 12 = .ok (.ifCond .ne 5, 3) := by decide +kernel
theorem dX8_tight_15 : decode cX8_tight 15 = .ok (.iconst (-1), 1) := by decide +kernel
theorem dX8_tight_16 : decode cX8_tight 16 = .ok (.ireturn, 1) := by decide +kernel
theorem dX8_tight_17 : decode cX8_tight 17 = .ok (.aload_n 0, 1) := by decide +kernel
theorem dX8_tight_18 : decode cX8_tight 18 = .ok (.getfield 22, 3) := by decide +kernel
theorem dX8_tight_21 : decode cX8_tight 21 = .ok (.aload_n 0, 1) := by decide +kernel
theorem dX8_tight_22 : decode cX8_tight 22 = .ok (.getfield 12, 3) := by decide +kernel
theorem dX8_tight_25 : decode cX8_tight 25 = .ok (.invokevirtual 198, 3) := by decide +kernel
theorem dX8_tight_28 : decode cX8_tight 28 = .ok (.aload_n 0, 1) := by decide +kernel
theorem dX8_tight_29 : decode cX8_tight 29 = .ok (.getfield 22, 3) := by decide +kernel
theorem dX8_tight_32 : decode cX8_tight 32 = .ok (.aload_n 0, 1) := by decide +kernel
theorem dX8_tight_33 : decode cX8_tight 33 = .ok (.getfield 12, 3) := by decide +kernel
theorem dX8_tight_36 : decode cX8_tight 36 = .ok (.iload_n 1, 1) := by decide +kernel
theorem dX8_tight_37 : decode cX8_tight 37 = .ok (.invokevirtual 233, 3) := by decide +kernel
theorem dX8_tight_40 : decode cX8_tight 40 = .ok (.ireturn, 1) := by decide +kernel
theorem dX8_flow_0 : decode cX8_flow 0 = .ok (.aload_n 0, 1) := by decide +kernel
theorem dX8_flow_1 : decode cX8_flow 1 = .ok (.getfield 12, 3) := by decide +kernel
theorem dX8_flow_4 : decode cX8_flow 4 = .ok (.getfield 205, 3) := by decide +kernel
theorem dX8_flow_7 : decode cX8_flow 7 = .ok (.iload_n 1, 1) := by decide +kernel
theorem dX8_flow_8 : decode cX8_flow 8 = .ok (.invokevirtual 121, 3) := by decide +kernel
theorem dX8_flow_11 : decode cX8_flow 11 = .ok (.ifCond .ne 5, 3) := by decide +kernel
theorem dX8_flow_14 : decode cX8_flow 14 = .ok (.iconst (-1), 1) := by decide +kernel
theorem dX8_flow_15 : decode cX8_flow 15 = .ok (.ireturn, 1) := by decide +kernel
theorem dX8_flow_16 : decode cX8_flow 16 = .ok (.aload_n 0, 1) := by decide +kernel
theorem dX8_flow_17 : decode cX8_flow 17 = .ok (.getfield 22, 3) := by decide +kernel
theorem dX8_flow_20 : decode cX8_flow 20 = .ok (.aload_n 0, 1) := by decide +kernel
theorem dX8_flow_21 : decode cX8_flow 21 = .ok (.getfield 12, 3) := by decide +kernel
theorem dX8_flow_24 : decode cX8_flow 24 = .ok (.invokevirtual 198, 3) := by decide +kernel
theorem dX8_flow_27 : decode cX8_flow 27 = .ok (.iload_n 2, 1) := by decide +kernel
theorem dX8_flow_28 : decode cX8_flow 28 = .ok (.ifCond .eq 14, 3) := by decide +kernel
theorem dX8_flow_31 : decode cX8_flow 31 = .ok (.aload_n 0, 1) := by decide +kernel
theorem dX8_flow_32 : decode cX8_flow 32 = .ok (.getfield 22, 3) := by decide +kernel
theorem dX8_flow_35 : decode cX8_flow 35 = .ok (.iload_n 1, 1) := by decide +kernel
theorem dX8_flow_36 : decode cX8_flow 36 = .ok (.invokevirtual 211, 3) := by decide +kernel
theorem dX8_flow_39 : decode cX8_flow 39 = .ok (.goto 11, 3) := by decide +kernel
theorem dX8_flow_42 : decode cX8_flow 42 = .ok (.aload_n 0, 1) := by decide +kernel
theorem dX8_flow_43 : decode cX8_flow 43 = .ok (.getfield 22, 3) := by decide +kernel
theorem dX8_flow_46 : decode cX8_flow 46 = .ok (.iload_n 1, 1) := by decide +kernel
theorem dX8_flow_47 : decode cX8_flow 47 = .ok (.invokevirtual 208, 3) := by decide +kernel
theorem dX8_flow_50 : decode cX8_flow 50 = .ok (.istore_n 3, 1) := by decide +kernel
theorem dX8_flow_51 : decode cX8_flow 51 = .ok (.aload_n 0, 1) := by decide +kernel
theorem dX8_flow_52 : decode cX8_flow 52 = .ok (.getfield 12, 3) := by decide +kernel
theorem dX8_flow_55 : decode cX8_flow 55 = .ok (.getfield 205, 3) := by decide +kernel
theorem dX8_flow_58 : decode cX8_flow 58 = .ok (.iload_n 1, 1) := by decide +kernel
theorem dX8_flow_59 : decode cX8_flow 59 = .ok (.iconst 0, 1) := by decide +kernel
theorem dX8_flow_60 : decode cX8_flow 60 = .ok (.invokevirtual 125, 3) := by decide +kernel
theorem dX8_flow_63 : decode cX8_flow 63 = .ok (.iload_n 3, 1) := by decide +kernel
theorem dX8_flow_64 : decode cX8_flow 64 = .ok (.isub, 1) := by decide +kernel
theorem dX8_flow_65 : decode cX8_flow 65 = .ok (.ireturn, 1) := by decide +kernel
theorem dX8_leaves_0 : decode cX8_leaves 0 = .ok (.aload_n 0, 1) := by decide +kernel
theorem dX8_leaves_1 : decode cX8_leaves 1 = .ok (.iload_n 1, 1) := by decide +kernel
theorem dX8_leaves_2 : decode cX8_leaves 2 = .ok (.iload_n 2, 1) := by decide +kernel
theorem dX8_leaves_3 : decode cX8_leaves 3 = .ok (.invokevirtual 236, 3) := by decide +kernel
theorem dX8_leaves_6 : decode cX8_leaves 6 = .ok (.ifCond .eq 13, 3) := by decide +kernel
theorem dX8_leaves_9 : decode cX8_leaves 9 = .ok (.iload_n 3, 1) := by decide +kernel
theorem dX8_leaves_10 : decode cX8_leaves 10 = .ok (.iconst 0, 1) := by decide +kernel
theorem dX8_leaves_11 : decode cX8_leaves 11 = .ok (.ldc 239, 2) := by decide +kernel
theorem dX8_leaves_13 : decode cX8_leaves 13 = .ok (.invokestatic 79, 3) := by decide +kernel
theorem dX8_leaves_16 : decode cX8_leaves 16 = .ok (.ifCond .ne 5, 3) := by decide +kernel
theorem dX8_leaves_19 : decode cX8_leaves 19 = .ok (.iconst (-1), 1) := by decide +kernel
theorem dX8_leaves_20 : decode cX8_leaves 20 = .ok (.ireturn, 1) := by decide +kernel
theorem dX8_leaves_21 : decode cX8_leaves 21 = .ok (.aload_n 0, 1) := by decide +kernel
theorem dX8_leaves_22 : decode cX8_leaves 22 = .ok (.getfield 12, 3) := by decide +kernel
theorem dX8_leaves_25 : decode cX8_leaves 25 = .ok (.iload_n 1, 1) := by decide +kernel
theorem dX8_leaves_26 : decode cX8_leaves 26 = .ok (.iload_n 2, 1) := by decide +kernel
theorem dX8_leaves_27 : decode cX8_leaves 27 = .ok (.iload_n 3, 1) := by decide +kernel
theorem dX8_leaves_28 : decode cX8_leaves 28 = .ok (.invokevirtual 240, 3) := by decide +kernel
theorem dX8_leaves_31 : decode cX8_leaves 31 = .ok (.ireturn, 1) := by decide +kernel
theorem dX8_needs_0 : decode cX8_needs 0 = .ok (.aload_n 0, 1) := by decide +kernel
theorem dX8_needs_1 : decode cX8_needs 1 = .ok (.iload_n 1, 1) := by decide +kernel
theorem dX8_needs_2 : decode cX8_needs 2 = .ok (.iload_n 2, 1) := by decide +kernel
theorem dX8_needs_3 : decode cX8_needs 3 = .ok (.invokevirtual 236, 3) := by decide +kernel
theorem dX8_needs_6 : decode cX8_needs 6 = .ok (.ifCond .eq 13, 3) := by decide +kernel
theorem dX8_needs_9 : decode cX8_needs 9 = .ok (.iload_n 3, 1) := by decide +kernel
theorem dX8_needs_10 : decode cX8_needs 10 = .ok (.iconst 0, 1) := by decide +kernel
theorem dX8_needs_11 : decode cX8_needs 11 = .ok (.ldc 239, 2) := by decide +kernel
theorem dX8_needs_13 : decode cX8_needs 13 = .ok (.invokestatic 79, 3) := by decide +kernel
theorem dX8_needs_16 : decode cX8_needs 16 = .ok (.ifCond .ne 5, 3) := by decide +kernel
theorem dX8_needs_19 : decode cX8_needs 19 = .ok (.iconst (-1), 1) := by decide +kernel
theorem dX8_needs_20 : decode cX8_needs 20 = .ok (.ireturn, 1) := by decide +kernel
theorem dX8_needs_21 : decode cX8_needs 21 = .ok (.aload_n 0, 1) := by decide +kernel
theorem dX8_needs_22 : decode cX8_needs 22 = .ok (.getfield 12, 3) := by decide +kernel
theorem dX8_needs_25 : decode cX8_needs 25 = .ok (.iload_n 1, 1) := by decide +kernel
theorem dX8_needs_26 : decode cX8_needs 26 = .ok (.iload_n 2, 1) := by decide +kernel
theorem dX8_needs_27 : decode cX8_needs 27 = .ok (.iload_n 3, 1) := by decide +kernel
theorem dX8_needs_28 : decode cX8_needs 28 = .ok (.invokevirtual 244, 3) := by decide +kernel
theorem dX8_needs_31 : decode cX8_needs 31 = .ok (.ireturn, 1) := by decide +kernel
theorem dX8_more_0 : decode cX8_more 0 = .ok (.aload_n 0, 1) := by decide +kernel
theorem dX8_more_1 : decode cX8_more 1 = .ok (.getfield 12, 3) := by decide +kernel
theorem dX8_more_4 : decode cX8_more 4 = .ok (.iload_n 1, 1) := by decide +kernel
theorem dX8_more_5 : decode cX8_more 5 = .ok (.iload_n 2, 1) := by decide +kernel
theorem dX8_more_6 : decode cX8_more 6 = .ok (.iload_n 3, 1) := by decide +kernel
theorem dX8_more_7 : decode cX8_more 7 = .ok (.iload 4, 2) := by decide +kernel
theorem dX8_more_9 : decode cX8_more 9 = .ok (.invokevirtual 104, 3) := by decide +kernel
theorem dX8_more_12 : decode cX8_more 12 = .ok (.ifCond .ne 5, 3) := by decide +kernel
theorem dX8_more_15 : decode cX8_more 15 = .ok (.iconst (-1), 1) := by decide +kernel
theorem dX8_more_16 : decode cX8_more 16 = .ok (.ireturn, 1) := by decide +kernel
theorem dX8_more_17 : decode cX8_more 17 = .ok (.aload_n 0, 1) := by decide +kernel
theorem dX8_more_18 : decode cX8_more 18 = .ok (.getfield 12, 3) := by decide +kernel
theorem dX8_more_21 : decode cX8_more 21 = .ok (.getfield 108, 3) := by decide +kernel
theorem dX8_more_24 : decode cX8_more 24 = .ok (.invokevirtual 111, 3) := by decide +kernel
theorem dX8_more_27 : decode cX8_more 27 = .ok (.ifCond .eq 6, 3) := by decide +kernel
theorem dX8_more_30 : decode cX8_more 30 = .ok (.bipush (-2), 2) := by decide +kernel
theorem dX8_more_32 : decode cX8_more 32 = .ok (.ireturn, 1) := by decide +kernel
theorem dX8_more_33 : decode cX8_more 33 = .ok (.aload_n 0, 1) := by decide +kernel
theorem dX8_more_34 : decode cX8_more 34 = .ok (.getfield 16, 3) := by decide +kernel
theorem dX8_more_37 : decode cX8_more 37 = .ok (.aload_n 0, 1) := by decide +kernel
theorem dX8_more_38 : decode cX8_more 38 = .ok (.getfield 12, 3) := by decide +kernel
theorem dX8_more_41 : decode cX8_more 41 = .ok (.invokevirtual 88, 3) := by decide +kernel
theorem dX8_more_44 : decode cX8_more 44 = .ok (.aload_n 0, 1) := by decide +kernel
theorem dX8_more_45 : decode cX8_more 45 = .ok (.getfield 16, 3) := by decide +kernel
theorem dX8_more_48 : decode cX8_more 48 = .ok (.iload_n 1, 1) := by decide +kernel
theorem dX8_more_49 : decode cX8_more 49 = .ok (.iload_n 2, 1) := by decide +kernel
theorem dX8_more_50 : decode cX8_more 50 = .ok (.iload_n 3, 1) := by decide +kernel
theorem dX8_more_51 : decode cX8_more 51 = .ok (.iload 4, 2) := by decide +kernel
theorem dX8_more_53 : decode cX8_more 53 = .ok (.invokevirtual 117, 3) := by decide +kernel
theorem dX8_more_56 : decode cX8_more 56 = .ok (.istore 5, 2) := by decide +kernel
theorem dX8_more_58 : decode cX8_more 58 = .ok (.aload_n 0, 1) := by decide +kernel
theorem dX8_more_59 : decode cX8_more 59 = .ok (.getfield 22, 3) := by decide +kernel
theorem dX8_more_62 : decode cX8_more 62 = .ok (.aload_n 0, 1) := by decide +kernel
theorem dX8_more_63 : decode cX8_more 63 = .ok (.getfield 16, 3) := by decide +kernel
theorem dX8_more_66 : decode cX8_more 66 = .ok (.invokevirtual 198, 3) := by decide +kernel
theorem dX8_more_69 : decode cX8_more 69 = .ok (.aload_n 0, 1) := by decide +kernel
theorem dX8_more_70 : decode cX8_more 70 = .ok (.getfield 22, 3) := by decide +kernel
theorem dX8_more_73 : decode cX8_more 73 = .ok (.iload 5, 2) := by decide +kernel
theorem dX8_more_75 : decode cX8_more 75 = .ok (.invokevirtual 220, 3) := by decide +kernel
theorem dX8_more_78 : decode cX8_more 78 = .ok (.ireturn, 1) := by decide +kernel
theorem dX8_gain_0 : decode cX8_gain 0 = .ok (.aload_n 0, 1) := by decide +kernel
theorem dX8_gain_1 : decode cX8_gain 1 = .ok (.getfield 12, 3) := by decide +kernel
theorem dX8_gain_4 : decode cX8_gain 4 = .ok (.getfield 108, 3) := by decide +kernel
theorem dX8_gain_7 : decode cX8_gain 7 = .ok (.iload_n 1, 1) := by decide +kernel
theorem dX8_gain_8 : decode cX8_gain 8 = .ok (.invokevirtual 121, 3) := by decide +kernel
theorem dX8_gain_11 : decode cX8_gain 11 = .ok (.ifCond .ne 5, 3) := by decide +kernel
theorem dX8_gain_14 : decode cX8_gain 14 = .ok (.iconst (-1), 1) := by decide +kernel
theorem dX8_gain_15 : decode cX8_gain 15 = .ok (.ireturn, 1) := by decide +kernel
theorem dX8_gain_16 : decode cX8_gain 16 = .ok (.aload_n 0, 1) := by decide +kernel
theorem dX8_gain_17 : decode cX8_gain 17 = .ok (.getfield 22, 3) := by decide +kernel
theorem dX8_gain_20 : decode cX8_gain 20 = .ok (.aload_n 0, 1) := by decide +kernel
theorem dX8_gain_21 : decode cX8_gain 21 = .ok (.getfield 12, 3) := by decide +kernel
theorem dX8_gain_24 : decode cX8_gain 24 = .ok (.invokevirtual 198, 3) := by decide +kernel
theorem dX8_gain_27 : decode cX8_gain 27 = .ok (.aload_n 0, 1) := by decide +kernel
theorem dX8_gain_28 : decode cX8_gain 28 = .ok (.getfield 22, 3) := by decide +kernel
theorem dX8_gain_31 : decode cX8_gain 31 = .ok (.invokevirtual 183, 3) := by decide +kernel
theorem dX8_gain_34 : decode cX8_gain 34 = .ok (.aload_n 0, 1) := by decide +kernel
theorem dX8_gain_35 : decode cX8_gain 35 = .ok (.getfield 22, 3) := by decide +kernel
theorem dX8_gain_38 : decode cX8_gain 38 = .ok (.iload_n 1, 1) := by decide +kernel
theorem dX8_gain_39 : decode cX8_gain 39 = .ok (.invokevirtual 220, 3) := by decide +kernel
theorem dX8_gain_42 : decode cX8_gain 42 = .ok (.isub, 1) := by decide +kernel
theorem dX8_gain_43 : decode cX8_gain 43 = .ok (.istore_n 2, 1) := by decide +kernel
theorem dX8_gain_44 : decode cX8_gain 44 = .ok (.aload_n 0, 1) := by decide +kernel
theorem dX8_gain_45 : decode cX8_gain 45 = .ok (.getfield 16, 3) := by decide +kernel
theorem dX8_gain_48 : decode cX8_gain 48 = .ok (.aload_n 0, 1) := by decide +kernel
theorem dX8_gain_49 : decode cX8_gain 49 = .ok (.getfield 12, 3) := by decide +kernel
theorem dX8_gain_52 : decode cX8_gain 52 = .ok (.invokevirtual 88, 3) := by decide +kernel
theorem dX8_gain_55 : decode cX8_gain 55 = .ok (.aload_n 0, 1) := by decide +kernel
theorem dX8_gain_56 : decode cX8_gain 56 = .ok (.getfield 16, 3) := by decide +kernel
theorem dX8_gain_59 : decode cX8_gain 59 = .ok (.getfield 108, 3) := by decide +kernel
theorem dX8_gain_62 : decode cX8_gain 62 = .ok (.iload_n 1, 1) := by decide +kernel
theorem dX8_gain_63 : decode cX8_gain 63 = .ok (.invokevirtual 133, 3) := by decide +kernel
theorem dX8_gain_66 : decode cX8_gain 66 = .ok (.aload_n 0, 1) := by decide +kernel
theorem dX8_gain_67 : decode cX8_gain 67 = .ok (.getfield 22, 3) := by decide +kernel
theorem dX8_gain_70 : decode cX8_gain 70 = .ok (.aload_n 0, 1) := by decide +kernel
theorem dX8_gain_71 : decode cX8_gain 71 = .ok (.getfield 16, 3) := by decide +kernel
theorem dX8_gain_74 : decode cX8_gain 74 = .ok (.invokevirtual 198, 3) := by decide +kernel
theorem dX8_gain_77 : decode cX8_gain 77 = .ok (.aload_n 0, 1) := by decide +kernel
theorem dX8_gain_78 : decode cX8_gain 78 = .ok (.getfield 22, 3) := by decide +kernel
theorem dX8_gain_81 : decode cX8_gain 81 = .ok (.invokevirtual 183, 3) := by decide +kernel
theorem dX8_gain_84 : decode cX8_gain 84 = .ok (.iload_n 2, 1) := by decide +kernel
theorem dX8_gain_85 : decode cX8_gain 85 = .ok (.isub, 1) := by decide +kernel
theorem dX8_gain_86 : decode cX8_gain 86 = .ok (.ldc 247, 2) := by decide +kernel
theorem dX8_gain_88 : decode cX8_gain 88 = .ok (.iadd, 1) := by decide +kernel
theorem dX8_gain_89 : decode cX8_gain 89 = .ok (.ireturn, 1) := by decide +kernel
theorem dX8_widen_0 : decode cX8_widen 0 = .ok (.aload_n 0, 1) := by decide +kernel
theorem dX8_widen_1 : decode cX8_widen 1 = .ok (.getfield 12, 3) := by decide +kernel
theorem dX8_widen_4 : decode cX8_widen 4 = .ok (.iload_n 1, 1) := by decide +kernel
theorem dX8_widen_5 : decode cX8_widen 5 = .ok (.iload_n 2, 1) := by decide +kernel
theorem dX8_widen_6 : decode cX8_widen 6 = .ok (.invokevirtual 136, 3) := by decide +kernel
theorem dX8_widen_9 : decode cX8_widen 9 = .ok (.ifCond .eq 14, 3) := by decide +kernel
theorem dX8_widen_12 : decode cX8_widen 12 = .ok (.iload_n 3, 1) := by decide +kernel
theorem dX8_widen_13 : decode cX8_widen 13 = .ok (.iconst 0, 1) := by decide +kernel
theorem dX8_widen_14 : decode cX8_widen 14 = .ok (.sipush 9999, 3) := by decide +kernel
theorem dX8_widen_17 : decode cX8_widen 17 = .ok (.invokestatic 79, 3) := by decide +kernel
theorem dX8_widen_20 : decode cX8_widen 20 = .ok (.ifCond .ne 5, 3) := by decide +kernel
theorem dX8_widen_23 : decode cX8_widen 23 = .ok (.iconst (-1), 1) := by decide +kernel
theorem dX8_widen_24 : decode cX8_widen 24 = .ok (.ireturn, 1) := by decide +kernel
theorem dX8_widen_25 : decode cX8_widen 25 = .ok (.aload_n 0, 1) := by decide +kernel
theorem dX8_widen_26 : decode cX8_widen 26 = .ok (.getfield 22, 3) := by decide +kernel
theorem dX8_widen_29 : decode cX8_widen 29 = .ok (.aload_n 0, 1) := by decide +kernel
theorem dX8_widen_30 : decode cX8_widen 30 = .ok (.getfield 12, 3) := by decide +kernel
theorem dX8_widen_33 : decode cX8_widen 33 = .ok (.invokevirtual 198, 3) := by decide +kernel
theorem dX8_widen_36 : decode cX8_widen 36 = .ok (.aload_n 0, 1) := by decide +kernel
theorem dX8_widen_37 : decode cX8_widen 37 = .ok (.getfield 22, 3) := by decide +kernel
theorem dX8_widen_40 : decode cX8_widen 40 = .ok (.invokevirtual 183, 3) := by decide +kernel
theorem dX8_widen_43 : decode cX8_widen 43 = .ok (.istore 4, 2) := by decide +kernel
theorem dX8_widen_45 : decode cX8_widen 45 = .ok (.aload_n 0, 1) := by decide +kernel
theorem dX8_widen_46 : decode cX8_widen 46 = .ok (.getfield 16, 3) := by decide +kernel
theorem dX8_widen_49 : decode cX8_widen 49 = .ok (.aload_n 0, 1) := by decide +kernel
theorem dX8_widen_50 : decode cX8_widen 50 = .ok (.getfield 12, 3) := by decide +kernel
theorem dX8_widen_53 : decode cX8_widen 53 = .ok (.invokevirtual 88, 3) := by decide +kernel
theorem dX8_widen_56 : decode cX8_widen 56 = .ok (.aload_n 0, 1) := by decide +kernel
theorem dX8_widen_57 : decode cX8_widen 57 = .ok (.getfield 16, 3) := by decide +kernel
theorem dX8_widen_60 : decode cX8_widen 60 = .ok (.iload_n 1, 1) := by decide +kernel
theorem dX8_widen_61 : decode cX8_widen 61 = .ok (.iload_n 2, 1) := by decide +kernel
theorem dX8_widen_62 : decode cX8_widen 62 = .ok (.iload_n 3, 1) := by decide +kernel
theorem dX8_widen_63 : decode cX8_widen 63 = .ok (.invokevirtual 143, 3) := by decide +kernel
theorem dX8_widen_66 : decode cX8_widen 66 = .ok (.aload_n 0, 1) := by decide +kernel
theorem dX8_widen_67 : decode cX8_widen 67 = .ok (.getfield 22, 3) := by decide +kernel
theorem dX8_widen_70 : decode cX8_widen 70 = .ok (.aload_n 0, 1) := by decide +kernel
theorem dX8_widen_71 : decode cX8_widen 71 = .ok (.getfield 16, 3) := by decide +kernel
theorem dX8_widen_74 : decode cX8_widen 74 = .ok (.invokevirtual 198, 3) := by decide +kernel
theorem dX8_widen_77 : decode cX8_widen 77 = .ok (.aload_n 0, 1) := by decide +kernel
theorem dX8_widen_78 : decode cX8_widen 78 = .ok (.getfield 22, 3) := by decide +kernel
theorem dX8_widen_81 : decode cX8_widen 81 = .ok (.invokevirtual 183, 3) := by decide +kernel
theorem dX8_widen_84 : decode cX8_widen 84 = .ok (.iload 4, 2) := by decide +kernel
theorem dX8_widen_86 : decode cX8_widen 86 = .ok (.isub, 1) := by decide +kernel
theorem dX8_widen_87 : decode cX8_widen 87 = .ok (.ldc 247, 2) := by decide +kernel
theorem dX8_widen_89 : decode cX8_widen 89 = .ok (.iadd, 1) := by decide +kernel
theorem dX8_widen_90 : decode cX8_widen 90 = .ok (.ireturn, 1) := by decide +kernel
theorem dX8_ahead_0 : decode cX8_ahead 0 = .ok (.aload_n 0, 1) := by decide +kernel
theorem dX8_ahead_1 : decode cX8_ahead 1 = .ok (.getfield 12, 3) := by decide +kernel
theorem dX8_ahead_4 : decode cX8_ahead 4 = .ok (.getfield 146, 3) := by decide +kernel
theorem dX8_ahead_7 : decode cX8_ahead 7 = .ok (.iload_n 1, 1) := by decide +kernel
theorem dX8_ahead_8 : decode cX8_ahead 8 = .ok (.invokevirtual 121, 3) := by decide +kernel
theorem dX8_ahead_11 : decode cX8_ahead 11 = .ok (.ifCond .eq 13, 3) := by decide +kernel
theorem dX8_ahead_14 : decode cX8_ahead 14 = .ok (.iload_n 2, 1) := by decide +kernel
theorem dX8_ahead_15 : decode cX8_ahead 15 = .ok (.iconst 0, 1) := by decide +kernel
theorem dX8_ahead_16 : decode cX8_ahead 16 = .ok (.bipush 99, 2) := by decide +kernel
theorem dX8_ahead_18 : decode cX8_ahead 18 = .ok (.invokestatic 79, 3) := by decide +kernel
theorem dX8_ahead_21 : decode cX8_ahead 21 = .ok (.ifCond .ne 7, 3) := by decide +kernel
theorem dX8_ahead_24 : decode cX8_ahead 24 = .ok (.ldc2_w 214, 3) := by decide +kernel
theorem dX8_ahead_27 : decode cX8_ahead 27 = .ok (.lreturn, 1) := by decide +kernel
theorem dX8_ahead_28 : decode cX8_ahead 28 = .ok (.aload_n 0, 1) := by decide +kernel
theorem dX8_ahead_29 : decode cX8_ahead 29 = .ok (.getfield 16, 3) := by decide +kernel
theorem dX8_ahead_32 : decode cX8_ahead 32 = .ok (.aload_n 0, 1) := by decide +kernel
theorem dX8_ahead_33 : decode cX8_ahead 33 = .ok (.getfield 12, 3) := by decide +kernel
theorem dX8_ahead_36 : decode cX8_ahead 36 = .ok (.invokevirtual 88, 3) := by decide +kernel
theorem dX8_ahead_39 : decode cX8_ahead 39 = .ok (.iconst 1, 1) := by decide +kernel
theorem dX8_ahead_40 : decode cX8_ahead 40 = .ok (.istore_n 3, 1) := by decide +kernel
theorem dX8_ahead_41 : decode cX8_ahead 41 = .ok (.iconst 0, 1) := by decide +kernel
theorem dX8_ahead_42 : decode cX8_ahead 42 = .ok (.istore 4, 2) := by decide +kernel
theorem dX8_ahead_44 : decode cX8_ahead 44 = .ok (.iload 4, 2) := by decide +kernel
theorem dX8_ahead_46 : decode cX8_ahead 46 = .ok (.iload_n 2, 1) := by decide +kernel
theorem dX8_ahead_47 : decode cX8_ahead 47 = .ok (.if_icmp .ge 15, 3) := by decide +kernel
theorem dX8_ahead_50 : decode cX8_ahead 50 = .ok (.aload_n 0, 1) := by decide +kernel
theorem dX8_ahead_51 : decode cX8_ahead 51 = .ok (.iload_n 3, 1) := by decide +kernel
theorem dX8_ahead_52 : decode cX8_ahead 52 = .ok (.invokevirtual 176, 3) := by decide +kernel
theorem dX8_ahead_55 : decode cX8_ahead 55 = .ok (.istore_n 3, 1) := by decide +kernel
theorem dX8_ahead_56 : decode cX8_ahead 56 = .ok (.iinc 4 1, 3) := by decide +kernel
theorem dX8_ahead_59 : decode cX8_ahead 59 = .ok (.goto (-15), 3) := by decide +kernel
theorem dX8_ahead_62 : decode cX8_ahead 62 = .ok (.aload_n 0, 1) := by decide +kernel
theorem dX8_ahead_63 : decode cX8_ahead 63 = .ok (.getfield 16, 3) := by decide +kernel
theorem dX8_ahead_66 : decode cX8_ahead 66 = .ok (.getfield 146, 3) := by decide +kernel
theorem dX8_ahead_69 : decode cX8_ahead 69 = .ok (.iload_n 1, 1) := by decide +kernel
theorem dX8_ahead_70 : decode cX8_ahead 70 = .ok (.iconst 4, 1) := by decide +kernel
theorem dX8_ahead_71 : decode cX8_ahead 71 = .ok (.invokevirtual 125, 3) := by decide +kernel
theorem dX8_ahead_74 : decode cX8_ahead 74 = .ok (.i2l, 1) := by decide +kernel
theorem dX8_ahead_75 : decode cX8_ahead 75 = .ok (.lreturn, 1) := by decide +kernel
theorem dX8_first_0 : decode cX8_first 0 = .ok (.aload_n 0, 1) := by decide +kernel
theorem dX8_first_1 : decode cX8_first 1 = .ok (.getfield 12, 3) := by decide +kernel
theorem dX8_first_4 : decode cX8_first 4 = .ok (.getfield 146, 3) := by decide +kernel
theorem dX8_first_7 : decode cX8_first 7 = .ok (.iload_n 1, 1) := by decide +kernel
theorem dX8_first_8 : decode cX8_first 8 = .ok (.invokevirtual 121, 3) := by decide +kernel
theorem dX8_first_11 : decode cX8_first 11 = .ok (.ifCond .ne 5, 3) := by decide +kernel
theorem dX8_first_14 : decode cX8_first 14 = .ok (.iconst (-1), 1) := by decide +kernel
theorem dX8_first_15 : decode cX8_first 15 = .ok (.ireturn, 1) := by decide +kernel
theorem dX8_first_16 : decode cX8_first 16 = .ok (.aload_n 0, 1) := by decide +kernel
theorem dX8_first_17 : decode cX8_first 17 = .ok (.getfield 16, 3) := by decide +kernel
theorem dX8_first_20 : decode cX8_first 20 = .ok (.aload_n 0, 1) := by decide +kernel
theorem dX8_first_21 : decode cX8_first 21 = .ok (.getfield 12, 3) := by decide +kernel
theorem dX8_first_24 : decode cX8_first 24 = .ok (.invokevirtual 88, 3) := by decide +kernel
theorem dX8_first_27 : decode cX8_first 27 = .ok (.iconst 1, 1) := by decide +kernel
theorem dX8_first_28 : decode cX8_first 28 = .ok (.istore_n 2, 1) := by decide +kernel
theorem dX8_first_29 : decode cX8_first 29 = .ok (.iconst 0, 1) := by decide +kernel
theorem dX8_first_30 : decode cX8_first 30 = .ok (.istore_n 3, 1) := by decide +kernel
theorem dX8_first_31 : decode cX8_first 31 = .ok (.iload_n 3, 1) := by decide +kernel
theorem dX8_first_32 : decode cX8_first 32 = .ok (.bipush 99, 2) := by decide +kernel
theorem dX8_first_34 : decode cX8_first 34 = .ok (.if_icmp .gt 28, 3) := by decide +kernel
theorem dX8_first_37 : decode cX8_first 37 = .ok (.aload_n 0, 1) := by decide +kernel
theorem dX8_first_38 : decode cX8_first 38 = .ok (.getfield 16, 3) := by decide +kernel
theorem dX8_first_41 : decode cX8_first 41 = .ok (.iload_n 1, 1) := by decide +kernel
theorem dX8_first_42 : decode cX8_first 42 = .ok (.invokevirtual 248, 3) := by decide +kernel
theorem dX8_first_45 : decode cX8_first 45 = .ok (.ifCond .eq 5, 3) := by decide +kernel
theorem dX8_first_48 : decode cX8_first 48 = .ok (.iload_n 3, 1) := by decide +kernel
theorem dX8_first_49 : decode cX8_first 49 = .ok (.ireturn, 1) := by decide +kernel
theorem dX8_first_50 : decode cX8_first 50 = .ok (.aload_n 0, 1) := by decide +kernel
theorem dX8_first_51 : decode cX8_first 51 = .ok (.iload_n 2, 1) := by decide +kernel
theorem dX8_first_52 : decode cX8_first 52 = .ok (.invokevirtual 176, 3) := by decide +kernel
theorem dX8_first_55 : decode cX8_first 55 = .ok (.istore_n 2, 1) := by decide +kernel
theorem dX8_first_56 : decode cX8_first 56 = .ok (.iinc 3 1, 3) := by decide +kernel
theorem dX8_first_59 : decode cX8_first 59 = .ok (.goto (-28), 3) := by decide +kernel
theorem dX8_first_62 : decode cX8_first 62 = .ok (.bipush (-2), 2) := by decide +kernel
theorem dX8_first_64 : decode cX8_first 64 = .ok (.ireturn, 1) := by decide +kernel
theorem dX8_log_0 : decode cX8_log 0 = .ok (.aload_n 0, 1) := by decide +kernel
theorem dX8_log_1 : decode cX8_log 1 = .ok (.getfield 12, 3) := by decide +kernel
theorem dX8_log_4 : decode cX8_log 4 = .ok (.getfield 146, 3) := by decide +kernel
theorem dX8_log_7 : decode cX8_log 7 = .ok (.iload_n 2, 1) := by decide +kernel
theorem dX8_log_8 : decode cX8_log 8 = .ok (.invokevirtual 121, 3) := by decide +kernel
theorem dX8_log_11 : decode cX8_log 11 = .ok (.ifCond .eq 20, 3) := by decide +kernel
theorem dX8_log_14 : decode cX8_log 14 = .ok (.iload_n 1, 1) := by decide +kernel
theorem dX8_log_15 : decode cX8_log 15 = .ok (.iconst 0, 1) := by decide +kernel
theorem dX8_log_16 : decode cX8_log 16 = .ok (.aload_n 0, 1) := by decide +kernel
theorem dX8_log_17 : decode cX8_log 17 = .ok (.getfield 12, 3) := by decide +kernel
theorem dX8_log_20 : decode cX8_log 20 = .ok (.invokevirtual 251, 3) := by decide +kernel
theorem dX8_log_23 : decode cX8_log 23 = .ok (.iconst 1, 1) := by decide +kernel
theorem dX8_log_24 : decode cX8_log 24 = .ok (.isub, 1) := by decide +kernel
theorem dX8_log_25 : decode cX8_log 25 = .ok (.invokestatic 79, 3) := by decide +kernel
theorem dX8_log_28 : decode cX8_log 28 = .ok (.ifCond .ne 6, 3) := by decide +kernel
theorem dX8_log_31 : decode cX8_log 31 = .ok (.ldc 254, 2) := by decide +kernel
theorem dX8_log_33 : decode cX8_log 33 = .ok (.ireturn, 1) := by decide +kernel
theorem dX8_log_34 : decode cX8_log 34 = .ok (.aload_n 0, 1) := by decide +kernel
theorem dX8_log_35 : decode cX8_log 35 = .ok (.getfield 12, 3) := by decide +kernel
theorem dX8_log_38 : decode cX8_log 38 = .ok (.iload_n 1, 1) := by decide +kernel
theorem dX8_log_39 : decode cX8_log 39 = .ok (.iload_n 2, 1) := by decide +kernel
theorem dX8_log_40 : decode cX8_log 40 = .ok (.invokevirtual 255, 3) := by decide +kernel
theorem dX8_log_43 : decode cX8_log 43 = .ok (.ireturn, 1) := by decide +kernel
theorem dX8_fair_0 : decode cX8_fair 0 = .ok (.aload_n 0, 1) := by decide +kernel
theorem dX8_fair_1 : decode cX8_fair 1 = .ok (.getfield 12, 3) := by decide +kernel
theorem dX8_fair_4 : decode cX8_fair 4 = .ok (.getfield 108, 3) := by decide +kernel
theorem dX8_fair_7 : decode cX8_fair 7 = .ok (.iload_n 1, 1) := by decide +kernel
theorem dX8_fair_8 : decode cX8_fair 8 = .ok (.invokevirtual 121, 3) := by decide +kernel
theorem dX8_fair_11 : decode cX8_fair 11 = .ok (.ifCond .ne 5, 3) := by decide +kernel
theorem dX8_fair_14 : decode cX8_fair 14 = .ok (.iconst (-1), 1) := by decide +kernel
theorem dX8_fair_15 : decode cX8_fair 15 = .ok (.ireturn, 1) := by decide +kernel
theorem dX8_fair_16 : decode cX8_fair 16 = .ok (.aload_n 0, 1) := by decide +kernel
theorem dX8_fair_17 : decode cX8_fair 17 = .ok (.getfield 22, 3) := by decide +kernel
theorem dX8_fair_20 : decode cX8_fair 20 = .ok (.aload_n 0, 1) := by decide +kernel
theorem dX8_fair_21 : decode cX8_fair 21 = .ok (.getfield 12, 3) := by decide +kernel
theorem dX8_fair_24 : decode cX8_fair 24 = .ok (.invokevirtual 258, 3) := by decide +kernel
theorem dX8_fair_27 : decode cX8_fair 27 = .ok (.aload_n 0, 1) := by decide +kernel
theorem dX8_fair_28 : decode cX8_fair 28 = .ok (.getfield 22, 3) := by decide +kernel
theorem dX8_fair_31 : decode cX8_fair 31 = .ok (.iload_n 1, 1) := by decide +kernel
theorem dX8_fair_32 : decode cX8_fair 32 = .ok (.invokevirtual 220, 3) := by decide +kernel
theorem dX8_fair_35 : decode cX8_fair 35 = .ok (.ireturn, 1) := by decide +kernel
theorem dX8_nearest_0 : decode cX8_nearest 0 = .ok (.aload_n 0, 1) := by decide +kernel
theorem dX8_nearest_1 : decode cX8_nearest 1 = .ok (.getfield 12, 3) := by decide +kernel
theorem dX8_nearest_4 : decode cX8_nearest 4 = .ok (.iload_n 1, 1) := by decide +kernel
theorem dX8_nearest_5 : decode cX8_nearest 5 = .ok (.invokevirtual 261, 3) := by decide +kernel
theorem dX8_nearest_8 : decode cX8_nearest 8 = .ok (.ifCond .eq 23, 3) := by decide +kernel
theorem dX8_nearest_11 : decode cX8_nearest 11 = .ok (.iload_n 2, 1) := by decide +kernel
theorem dX8_nearest_12 : decode cX8_nearest 12 = .ok (.iconst 0, 1) := by decide +kernel
theorem dX8_nearest_13 : decode cX8_nearest 13 = .ok (.sipush 9999, 3) := by decide +kernel
theorem dX8_nearest_16 : decode cX8_nearest 16 = .ok (.invokestatic 79, 3) := by decide +kernel
theorem dX8_nearest_19 : decode cX8_nearest 19 = .ok (.ifCond .eq 12, 3) := by decide +kernel
theorem dX8_nearest_22 : decode cX8_nearest 22 = .ok (.iload_n 3, 1) := by decide +kernel
theorem dX8_nearest_23 : decode cX8_nearest 23 = .ok (.iconst 0, 1) := by decide +kernel
theorem dX8_nearest_24 : decode cX8_nearest 24 = .ok (.iconst 1, 1) := by decide +kernel
theorem dX8_nearest_25 : decode cX8_nearest 25 = .ok (.invokestatic 79, 3) := by decide +kernel
theorem dX8_nearest_28 : decode cX8_nearest 28 = .ok (.ifCond .ne 5, 3) := by decide +kernel
theorem dX8_nearest_31 : decode cX8_nearest 31 = .ok (.iconst (-1), 1) := by decide +kernel
theorem dX8_nearest_32 : decode cX8_nearest 32 = .ok (.ireturn, 1) := by decide +kernel
theorem dX8_nearest_33 : decode cX8_nearest 33 = .ok (.bipush (-2), 2) := by decide +kernel
theorem dX8_nearest_35 : decode cX8_nearest 35 = .ok (.istore 4, 2) := by decide +kernel
theorem dX8_nearest_37 : decode cX8_nearest 37 = .ok (.bipush (-2), 2) := by decide +kernel
theorem dX8_nearest_39 : decode cX8_nearest 39 = .ok (.istore 5, 2) := by decide +kernel
theorem dX8_nearest_41 : decode cX8_nearest 41 = .ok (.iconst 0, 1) := by decide +kernel
theorem dX8_nearest_42 : decode cX8_nearest 42 = .ok (.istore 6, 2) := by decide +kernel
theorem dX8_nearest_44 : decode cX8_nearest 44 = .ok (.iload 6, 2) := by decide +kernel
theorem dX8_nearest_46 : decode cX8_nearest 46 = .ok (.aload_n 0, 1) := by decide +kernel
theorem dX8_nearest_47 : decode cX8_nearest 47 = .ok (.getfield 12, 3) := by decide +kernel
theorem dX8_nearest_50 : decode cX8_nearest 50 = .ok (.getfield 95, 3) := by decide +kernel
theorem dX8_nearest_53 : decode cX8_nearest 53 = .ok (.getfield 99, 3) := by decide +kernel
theorem dX8_nearest_56 : decode cX8_nearest 56 = .ok (.if_icmp .ge 76, 3) := by decide +kernel
theorem dX8_nearest_59 : decode cX8_nearest 59 = .ok (.aload_n 0, 1) := by decide +kernel
theorem dX8_nearest_60 : decode cX8_nearest 60 = .ok (.getfield 12, 3) := by decide +kernel
theorem dX8_nearest_63 : decode cX8_nearest 63 = .ok (.iload 6, 2) := by decide +kernel
theorem dX8_nearest_65 : decode cX8_nearest 65 = .ok (.invokevirtual 264, 3) := by decide +kernel
theorem dX8_nearest_68 : decode cX8_nearest 68 = .ok (.ifCond .ne 6, 3) := by decide +kernel
theorem dX8_nearest_71 : decode cX8_nearest 71 = .ok (.goto 55, 3) := by decide +kernel
theorem dX8_nearest_74 : decode cX8_nearest 74 = .ok (.aload_n 0, 1) := by decide +kernel
theorem dX8_nearest_75 : decode cX8_nearest 75 = .ok (.getfield 12, 3) := by decide +kernel
theorem dX8_nearest_78 : decode cX8_nearest 78 = .ok (.aload_n 0, 1) := by decide +kernel
theorem dX8_nearest_79 : decode cX8_nearest 79 = .ok (.getfield 12, 3) := by decide +kernel
theorem dX8_nearest_82 : decode cX8_nearest 82 = .ok (.iload 6, 2) := by decide +kernel
theorem dX8_nearest_84 : decode cX8_nearest 84 = .ok (.invokevirtual 267, 3) := by decide +kernel
theorem dX8_nearest_87 : decode cX8_nearest 87 = .ok (.aload_n 0, 1) := by decide +kernel
theorem dX8_nearest_88 : decode cX8_nearest 88 = .ok (.getfield 12, 3) := by decide +kernel
theorem dX8_nearest_91 : decode cX8_nearest 91 = .ok (.iload_n 1, 1) := by decide +kernel
theorem dX8_nearest_92 : decode cX8_nearest 92 = .ok (.invokevirtual 267, 3) := by decide +kernel
theorem dX8_nearest_95 : decode cX8_nearest 95 = .ok (.iload_n 2, 1) := by decide +kernel
theorem dX8_nearest_96 : decode cX8_nearest 96 = .ok (.invokevirtual 244, 3) := by decide +kernel
theorem dX8_nearest_99 : decode cX8_nearest 99 = .ok (.istore 7, 2) := by decide +kernel
theorem dX8_nearest_101 : decode cX8_nearest 101 = .ok (.iload 7, 2) := by decide +kernel
theorem dX8_nearest_103 : decode cX8_nearest 103 = .ok (.ifCond .lt 23, 3) := by decide +kernel
theorem dX8_nearest_106 : decode cX8_nearest 106 = .ok (.iload 4, 2) := by decide +kernel
theorem dX8_nearest_108 : decode cX8_nearest 108 = .ok (.ifCond .lt 10, 3) := by decide +kernel
theorem dX8_nearest_111 : decode cX8_nearest 111 = .ok (.iload 7, 2) := by decide +kernel
theorem dX8_nearest_113 : decode cX8_nearest 113 = .ok (.iload 5, 2) := by decide +kernel
theorem dX8_nearest_115 : decode cX8_nearest 115 = .ok (.if_icmp .ge 11, 3) := by decide +kernel
theorem dX8_nearest_118 : decode cX8_nearest 118 = .ok (.iload 6, 2) := by decide +kernel
theorem dX8_nearest_120 : decode cX8_nearest 120 = .ok (.istore 4, 2) := by decide +kernel
theorem dX8_nearest_122 : decode cX8_nearest 122 = .ok (.iload 7, 2) := by decide +kernel
theorem dX8_nearest_124 : decode cX8_nearest 124 = .ok (.istore 5, 2) := by decide +kernel
theorem dX8_nearest_126 : decode cX8_nearest 126 = .ok (.iinc 6 1, 3) := by decide +kernel
theorem dX8_nearest_129 : decode cX8_nearest 129 = .ok (.goto (-85), 3) := by decide +kernel
theorem dX8_nearest_132 : decode cX8_nearest 132 = .ok (.iload_n 3, 1) := by decide +kernel
theorem dX8_nearest_133 : decode cX8_nearest 133 = .ok (.ifCond .ne 8, 3) := by decide +kernel
theorem dX8_nearest_136 : decode cX8_nearest 136 = .ok (.iload 4, 2) := by decide +kernel
theorem dX8_nearest_138 : decode cX8_nearest 138 = .ok (.goto 5, 3) := by decide +kernel
theorem dX8_nearest_141 : decode cX8_nearest 141 = .ok (.iload 5, 2) := by decide +kernel
theorem dX8_nearest_143 : decode cX8_nearest 143 = .ok (.ireturn, 1) := by decide +kernel
theorem dX8_order_0 : decode cX8_order 0 = .ok (.aload_n 0, 1) := by decide +kernel
theorem dX8_order_1 : decode cX8_order 1 = .ok (.getfield 12, 3) := by decide +kernel
theorem dX8_order_4 : decode cX8_order 4 = .ok (.getfield 146, 3) := by decide +kernel
theorem dX8_order_7 : decode cX8_order 7 = .ok (.iload_n 1, 1) := by decide +kernel
theorem dX8_order_8 : decode cX8_order 8 = .ok (.invokevirtual 121, 3) := by decide +kernel
theorem dX8_order_11 : decode cX8_order 11 = .ok (.ifCond .ne 5, 3) := by decide +kernel
theorem dX8_order_14 : decode cX8_order 14 = .ok (.iconst (-1), 1) := by decide +kernel
theorem dX8_order_15 : decode cX8_order 15 = .ok (.ireturn, 1) := by decide +kernel
theorem dX8_order_16 : decode cX8_order 16 = .ok (.iconst 0, 1) := by decide +kernel
theorem dX8_order_17 : decode cX8_order 17 = .ok (.istore_n 2, 1) := by decide +kernel
theorem dX8_order_18 : decode cX8_order 18 = .ok (.iconst 1, 1) := by decide +kernel
theorem dX8_order_19 : decode cX8_order 19 = .ok (.istore_n 3, 1) := by decide +kernel
theorem dX8_order_20 : decode cX8_order 20 = .ok (.iload_n 3, 1) := by decide +kernel
theorem dX8_order_21 : decode cX8_order 21 = .ok (.bipush 9, 2) := by decide +kernel
theorem dX8_order_23 : decode cX8_order 23 = .ok (.if_icmp .gt 64, 3) := by decide +kernel
theorem dX8_order_26 : decode cX8_order 26 = .ok (.iconst 0, 1) := by decide +kernel
theorem dX8_order_27 : decode cX8_order 27 = .ok (.istore 4, 2) := by decide +kernel
theorem dX8_order_29 : decode cX8_order 29 = .ok (.iload 4, 2) := by decide +kernel
theorem dX8_order_31 : decode cX8_order 31 = .ok (.aload_n 0, 1) := by decide +kernel
theorem dX8_order_32 : decode cX8_order 32 = .ok (.getfield 12, 3) := by decide +kernel
theorem dX8_order_35 : decode cX8_order 35 = .ok (.getfield 146, 3) := by decide +kernel
theorem dX8_order_38 : decode cX8_order 38 = .ok (.getfield 99, 3) := by decide +kernel
theorem dX8_order_41 : decode cX8_order 41 = .ok (.if_icmp .ge 40, 3) := by decide +kernel
theorem dX8_order_44 : decode cX8_order 44 = .ok (.aload_n 0, 1) := by decide +kernel
theorem dX8_order_45 : decode cX8_order 45 = .ok (.getfield 12, 3) := by decide +kernel
theorem dX8_order_48 : decode cX8_order 48 = .ok (.getfield 146, 3) := by decide +kernel
theorem dX8_order_51 : decode cX8_order 51 = .ok (.iload 4, 2) := by decide +kernel
theorem dX8_order_53 : decode cX8_order 53 = .ok (.iconst 1, 1) := by decide +kernel
theorem dX8_order_54 : decode cX8_order 54 = .ok (.invokevirtual 125, 3) := by decide +kernel
theorem dX8_order_57 : decode cX8_order 57 = .ok (.iload_n 3, 1) := by decide +kernel
theorem dX8_order_58 : decode cX8_order 58 = .ok (.if_icmp .eq 6, 3) := by decide +kernel
theorem dX8_order_61 : decode cX8_order 61 = .ok (.goto 14, 3) := by decide +kernel
theorem dX8_order_64 : decode cX8_order 64 = .ok (.iload_n 2, 1) := by decide +kernel
theorem dX8_order_65 : decode cX8_order 65 = .ok (.iload_n 1, 1) := by decide +kernel
theorem dX8_order_66 : decode cX8_order 66 = .ok (.if_icmp .ne 6, 3) := by decide +kernel
theorem dX8_order_69 : decode cX8_order 69 = .ok (.iload 4, 2) := by decide +kernel
theorem dX8_order_71 : decode cX8_order 71 = .ok (.ireturn, 1) := by decide +kernel
theorem dX8_order_72 : decode cX8_order 72 = .ok (.iinc 2 1, 3) := by decide +kernel
theorem dX8_order_75 : decode cX8_order 75 = .ok (.iinc 4 1, 3) := by decide +kernel
theorem dX8_order_78 : decode cX8_order 78 = .ok (.goto (-49), 3) := by decide +kernel
theorem dX8_order_81 : decode cX8_order 81 = .ok (.iinc 3 1, 3) := by decide +kernel
theorem dX8_order_84 : decode cX8_order 84 = .ok (.goto (-64), 3) := by decide +kernel
theorem dX8_order_87 : decode cX8_order 87 = .ok (.iconst (-1), 1) := by decide +kernel
theorem dX8_order_88 : decode cX8_order 88 = .ok (.ireturn, 1) := by decide +kernel
theorem dX8_blame_0 : decode cX8_blame 0 = .ok (.aload_n 0, 1) := by decide +kernel
theorem dX8_blame_1 : decode cX8_blame 1 = .ok (.getfield 12, 3) := by decide +kernel
theorem dX8_blame_4 : decode cX8_blame 4 = .ok (.invokevirtual 170, 3) := by decide +kernel
theorem dX8_blame_7 : decode cX8_blame 7 = .ok (.ifCond .ne 5, 3) := by decide +kernel
theorem dX8_blame_10 : decode cX8_blame 10 = .ok (.iconst (-1), 1) := by decide +kernel
theorem dX8_blame_11 : decode cX8_blame 11 = .ok (.ireturn, 1) := by decide +kernel
theorem dX8_blame_12 : decode cX8_blame 12 = .ok (.aload_n 0, 1) := by decide +kernel
theorem dX8_blame_13 : decode cX8_blame 13 = .ok (.getfield 22, 3) := by decide +kernel
theorem dX8_blame_16 : decode cX8_blame 16 = .ok (.aload_n 0, 1) := by decide +kernel
theorem dX8_blame_17 : decode cX8_blame 17 = .ok (.getfield 12, 3) := by decide +kernel
theorem dX8_blame_20 : decode cX8_blame 20 = .ok (.invokevirtual 198, 3) := by decide +kernel
theorem dX8_blame_23 : decode cX8_blame 23 = .ok (.iconst 0, 1) := by decide +kernel
theorem dX8_blame_24 : decode cX8_blame 24 = .ok (.istore_n 2, 1) := by decide +kernel
theorem dX8_blame_25 : decode cX8_blame 25 = .ok (.iconst 0, 1) := by decide +kernel
theorem dX8_blame_26 : decode cX8_blame 26 = .ok (.istore_n 3, 1) := by decide +kernel
theorem dX8_blame_27 : decode cX8_blame 27 = .ok (.iload_n 3, 1) := by decide +kernel
theorem dX8_blame_28 : decode cX8_blame 28 = .ok (.aload_n 0, 1) := by decide +kernel
theorem dX8_blame_29 : decode cX8_blame 29 = .ok (.getfield 12, 3) := by decide +kernel
theorem dX8_blame_32 : decode cX8_blame 32 = .ok (.getfield 108, 3) := by decide +kernel
theorem dX8_blame_35 : decode cX8_blame 35 = .ok (.getfield 99, 3) := by decide +kernel
theorem dX8_blame_38 : decode cX8_blame 38 = .ok (.if_icmp .ge 28, 3) := by decide +kernel
theorem dX8_blame_41 : decode cX8_blame 41 = .ok (.aload_n 0, 1) := by decide +kernel
theorem dX8_blame_42 : decode cX8_blame 42 = .ok (.getfield 22, 3) := by decide +kernel
theorem dX8_blame_45 : decode cX8_blame 45 = .ok (.getfield 230, 3) := by decide +kernel
theorem dX8_blame_48 : decode cX8_blame 48 = .ok (.iload_n 3, 1) := by decide +kernel
theorem dX8_blame_49 : decode cX8_blame 49 = .ok (.iaload, 1) := by decide +kernel
theorem dX8_blame_50 : decode cX8_blame 50 = .ok (.iload_n 1, 1) := by decide +kernel
theorem dX8_blame_51 : decode cX8_blame 51 = .ok (.if_icmp .ne 9, 3) := by decide +kernel
theorem dX8_blame_54 : decode cX8_blame 54 = .ok (.iload_n 2, 1) := by decide +kernel
theorem dX8_blame_55 : decode cX8_blame 55 = .ok (.iconst 1, 1) := by decide +kernel
theorem dX8_blame_56 : decode cX8_blame 56 = .ok (.iload_n 3, 1) := by decide +kernel
theorem dX8_blame_57 : decode cX8_blame 57 = .ok (.ishl, 1) := by decide +kernel
theorem dX8_blame_58 : decode cX8_blame 58 = .ok (.ior, 1) := by decide +kernel
theorem dX8_blame_59 : decode cX8_blame 59 = .ok (.istore_n 2, 1) := by decide +kernel
theorem dX8_blame_60 : decode cX8_blame 60 = .ok (.iinc 3 1, 3) := by decide +kernel
theorem dX8_blame_63 : decode cX8_blame 63 = .ok (.goto (-36), 3) := by decide +kernel
theorem dX8_blame_66 : decode cX8_blame 66 = .ok (.iload_n 2, 1) := by decide +kernel
theorem dX8_blame_67 : decode cX8_blame 67 = .ok (.ireturn, 1) := by decide +kernel
theorem dX8_alone_0 : decode cX8_alone 0 = .ok (.aload_n 0, 1) := by decide +kernel
theorem dX8_alone_1 : decode cX8_alone 1 = .ok (.getfield 12, 3) := by decide +kernel
theorem dX8_alone_4 : decode cX8_alone 4 = .ok (.getfield 108, 3) := by decide +kernel
theorem dX8_alone_7 : decode cX8_alone 7 = .ok (.iload_n 1, 1) := by decide +kernel
theorem dX8_alone_8 : decode cX8_alone 8 = .ok (.invokevirtual 121, 3) := by decide +kernel
theorem dX8_alone_11 : decode cX8_alone 11 = .ok (.ifCond .ne 5, 3) := by decide +kernel
theorem dX8_alone_14 : decode cX8_alone 14 = .ok (.iconst (-1), 1) := by decide +kernel
theorem dX8_alone_15 : decode cX8_alone 15 = .ok (.ireturn, 1) := by decide +kernel
theorem dX8_alone_16 : decode cX8_alone 16 = .ok (.aload_n 0, 1) := by decide +kernel
theorem dX8_alone_17 : decode cX8_alone 17 = .ok (.getfield 16, 3) := by decide +kernel
theorem dX8_alone_20 : decode cX8_alone 20 = .ok (.aload_n 0, 1) := by decide +kernel
theorem dX8_alone_21 : decode cX8_alone 21 = .ok (.getfield 12, 3) := by decide +kernel
theorem dX8_alone_24 : decode cX8_alone 24 = .ok (.invokevirtual 88, 3) := by decide +kernel
theorem dX8_alone_27 : decode cX8_alone 27 = .ok (.iconst 0, 1) := by decide +kernel
theorem dX8_alone_28 : decode cX8_alone 28 = .ok (.istore_n 2, 1) := by decide +kernel
theorem dX8_alone_29 : decode cX8_alone 29 = .ok (.iload_n 2, 1) := by decide +kernel
theorem dX8_alone_30 : decode cX8_alone 30 = .ok (.aload_n 0, 1) := by decide +kernel
theorem dX8_alone_31 : decode cX8_alone 31 = .ok (.getfield 16, 3) := by decide +kernel
theorem dX8_alone_34 : decode cX8_alone 34 = .ok (.getfield 108, 3) := by decide +kernel
theorem dX8_alone_37 : decode cX8_alone 37 = .ok (.getfield 99, 3) := by decide +kernel
theorem dX8_alone_40 : decode cX8_alone 40 = .ok (.if_icmp .ge 27, 3) := by decide +kernel
theorem dX8_alone_43 : decode cX8_alone 43 = .ok (.iload_n 2, 1) := by decide +kernel
theorem dX8_alone_44 : decode cX8_alone 44 = .ok (.iload_n 1, 1) := by decide +kernel
theorem dX8_alone_45 : decode cX8_alone 45 = .ok (.if_icmp .eq 16, 3) := by decide +kernel
theorem dX8_alone_48 : decode cX8_alone 48 = .ok (.aload_n 0, 1) := by decide +kernel
theorem dX8_alone_49 : decode cX8_alone 49 = .ok (.getfield 16, 3) := by decide +kernel
theorem dX8_alone_52 : decode cX8_alone 52 = .ok (.getfield 108, 3) := by decide +kernel
theorem dX8_alone_55 : decode cX8_alone 55 = .ok (.iload_n 2, 1) := by decide +kernel
theorem dX8_alone_56 : decode cX8_alone 56 = .ok (.iconst 3, 1) := by decide +kernel
theorem dX8_alone_57 : decode cX8_alone 57 = .ok (.iconst 0, 1) := by decide +kernel
theorem dX8_alone_58 : decode cX8_alone 58 = .ok (.invokevirtual 129, 3) := by decide +kernel
theorem dX8_alone_61 : decode cX8_alone 61 = .ok (.iinc 2 1, 3) := by decide +kernel
theorem dX8_alone_64 : decode cX8_alone 64 = .ok (.goto (-35), 3) := by decide +kernel
theorem dX8_alone_67 : decode cX8_alone 67 = .ok (.aload_n 0, 1) := by decide +kernel
theorem dX8_alone_68 : decode cX8_alone 68 = .ok (.getfield 22, 3) := by decide +kernel
theorem dX8_alone_71 : decode cX8_alone 71 = .ok (.aload_n 0, 1) := by decide +kernel
theorem dX8_alone_72 : decode cX8_alone 72 = .ok (.getfield 16, 3) := by decide +kernel
theorem dX8_alone_75 : decode cX8_alone 75 = .ok (.invokevirtual 198, 3) := by decide +kernel
theorem dX8_alone_78 : decode cX8_alone 78 = .ok (.aload_n 0, 1) := by decide +kernel
theorem dX8_alone_79 : decode cX8_alone 79 = .ok (.getfield 22, 3) := by decide +kernel
theorem dX8_alone_82 : decode cX8_alone 82 = .ok (.iload_n 1, 1) := by decide +kernel
theorem dX8_alone_83 : decode cX8_alone 83 = .ok (.invokevirtual 220, 3) := by decide +kernel
theorem dX8_alone_86 : decode cX8_alone 86 = .ok (.ireturn, 1) := by decide +kernel
theorem dX8_worst_0 : decode cX8_worst 0 = .ok (.aload_n 0, 1) := by decide +kernel
theorem dX8_worst_1 : decode cX8_worst 1 = .ok (.getfield 12, 3) := by decide +kernel
theorem dX8_worst_4 : decode cX8_worst 4 = .ok (.invokevirtual 170, 3) := by decide +kernel
theorem dX8_worst_7 : decode cX8_worst 7 = .ok (.ifCond .ne 5, 3) := by decide +kernel
theorem dX8_worst_10 : decode cX8_worst 10 = .ok (.iconst (-1), 1) := by decide +kernel
theorem dX8_worst_11 : decode cX8_worst 11 = .ok (.ireturn, 1) := by decide +kernel
theorem dX8_worst_12 : decode cX8_worst 12 = .ok (.aload_n 0, 1) := by decide +kernel
theorem dX8_worst_13 : decode cX8_worst 13 = .ok (.getfield 22, 3) := by decide +kernel
theorem dX8_worst_16 : decode cX8_worst 16 = .ok (.aload_n 0, 1) := by decide +kernel
theorem dX8_worst_17 : decode cX8_worst 17 = .ok (.getfield 12, 3) := by decide +kernel
theorem dX8_worst_20 : decode cX8_worst 20 = .ok (.invokevirtual 198, 3) := by decide +kernel
theorem dX8_worst_23 : decode cX8_worst 23 = .ok (.bipush (-2), 2) := by decide +kernel
theorem dX8_worst_25 : decode cX8_worst 25 = .ok (.istore_n 1, 1) := by decide +kernel
theorem dX8_worst_26 : decode cX8_worst 26 = .ok (.sipush 1000, 3) := by decide +kernel
theorem dX8_worst_29 : decode cX8_worst 29 = .ok (.istore_n 2, 1) := by decide +kernel
theorem dX8_worst_30 : decode cX8_worst 30 = .ok (.iconst 0, 1) := by decide +kernel
theorem dX8_worst_31 : decode cX8_worst 31 = .ok (.istore_n 3, 1) := by decide +kernel
theorem dX8_worst_32 : decode cX8_worst 32 = .ok (.iload_n 3, 1) := by decide +kernel
theorem dX8_worst_33 : decode cX8_worst 33 = .ok (.aload_n 0, 1) := by decide +kernel
theorem dX8_worst_34 : decode cX8_worst 34 = .ok (.getfield 12, 3) := by decide +kernel
theorem dX8_worst_37 : decode cX8_worst 37 = .ok (.getfield 146, 3) := by decide +kernel
theorem dX8_worst_40 : decode cX8_worst 40 = .ok (.getfield 99, 3) := by decide +kernel
theorem dX8_worst_43 : decode cX8_worst 43 = .ok (.if_icmp .ge 52, 3) := by decide +kernel
theorem dX8_worst_46 : decode cX8_worst 46 = .ok (.aload_n 0, 1) := by decide +kernel
theorem dX8_worst_47 : decode cX8_worst 47 = .ok (.getfield 12, 3) := by decide +kernel
theorem dX8_worst_50 : decode cX8_worst 50 = .ok (.iload_n 3, 1) := by decide +kernel
theorem dX8_worst_51 : decode cX8_worst 51 = .ok (.invokevirtual 270, 3) := by decide +kernel
theorem dX8_worst_54 : decode cX8_worst 54 = .ok (.ifCond .ne 6, 3) := by decide +kernel
theorem dX8_worst_57 : decode cX8_worst 57 = .ok (.goto 32, 3) := by decide +kernel
theorem dX8_worst_60 : decode cX8_worst 60 = .ok (.aload_n 0, 1) := by decide +kernel
theorem dX8_worst_61 : decode cX8_worst 61 = .ok (.getfield 22, 3) := by decide +kernel
theorem dX8_worst_64 : decode cX8_worst 64 = .ok (.aload_n 0, 1) := by decide +kernel
theorem dX8_worst_65 : decode cX8_worst 65 = .ok (.getfield 12, 3) := by decide +kernel
theorem dX8_worst_68 : decode cX8_worst 68 = .ok (.iload_n 3, 1) := by decide +kernel
theorem dX8_worst_69 : decode cX8_worst 69 = .ok (.invokevirtual 273, 3) := by decide +kernel
theorem dX8_worst_72 : decode cX8_worst 72 = .ok (.istore 4, 2) := by decide +kernel
theorem dX8_worst_74 : decode cX8_worst 74 = .ok (.iload_n 1, 1) := by decide +kernel
theorem dX8_worst_75 : decode cX8_worst 75 = .ok (.ifCond .lt 9, 3) := by decide +kernel
theorem dX8_worst_78 : decode cX8_worst 78 = .ok (.iload 4, 2) := by decide +kernel
theorem dX8_worst_80 : decode cX8_worst 80 = .ok (.iload_n 2, 1) := by decide +kernel
theorem dX8_worst_81 : decode cX8_worst 81 = .ok (.if_icmp .ge 8, 3) := by decide +kernel
theorem dX8_worst_84 : decode cX8_worst 84 = .ok (.iload_n 3, 1) := by decide +kernel
theorem dX8_worst_85 : decode cX8_worst 85 = .ok (.istore_n 1, 1) := by decide +kernel
theorem dX8_worst_86 : decode cX8_worst 86 = .ok (.iload 4, 2) := by decide +kernel
theorem dX8_worst_88 : decode cX8_worst 88 = .ok (.istore_n 2, 1) := by decide +kernel
theorem dX8_worst_89 : decode cX8_worst 89 = .ok (.iinc 3 1, 3) := by decide +kernel
theorem dX8_worst_92 : decode cX8_worst 92 = .ok (.goto (-60), 3) := by decide +kernel
theorem dX8_worst_95 : decode cX8_worst 95 = .ok (.iload_n 1, 1) := by decide +kernel
theorem dX8_worst_96 : decode cX8_worst 96 = .ok (.ireturn, 1) := by decide +kernel
theorem dX8_net_0 : decode cX8_net 0 = .ok (.iload_n 1, 1) := by decide +kernel
theorem dX8_net_1 : decode cX8_net 1 = .ok (.iconst (-1), 1) := by decide +kernel
theorem dX8_net_2 : decode cX8_net 2 = .ok (.if_icmp .lt 32, 3) := by decide +kernel
theorem dX8_net_5 : decode cX8_net 5 = .ok (.iload_n 2, 1) := by decide +kernel
theorem dX8_net_6 : decode cX8_net 6 = .ok (.iconst 0, 1) := by decide +kernel
theorem dX8_net_7 : decode cX8_net 7 = .ok (.iconst 2, 1) := by decide +kernel
theorem dX8_net_8 : decode cX8_net 8 = .ok (.invokestatic 79, 3) := by decide +kernel
theorem dX8_net_11 : decode cX8_net 11 = .ok (.ifCond .eq 23, 3) := by decide +kernel
theorem dX8_net_14 : decode cX8_net 14 = .ok (.iload_n 1, 1) := by decide +kernel
theorem dX8_net_15 : decode cX8_net 15 = .ok (.iconst (-1), 1) := by decide +kernel
theorem dX8_net_16 : decode cX8_net 16 = .ok (.if_icmp .ne 8, 3) := by decide +kernel
theorem dX8_net_19 : decode cX8_net 19 = .ok (.iload_n 2, 1) := by decide +kernel
theorem dX8_net_20 : decode cX8_net 20 = .ok (.iconst 1, 1) := by decide +kernel
theorem dX8_net_21 : decode cX8_net 21 = .ok (.if_icmp .eq 13, 3) := by decide +kernel
theorem dX8_net_24 : decode cX8_net 24 = .ok (.aload_n 0, 1) := by decide +kernel
theorem dX8_net_25 : decode cX8_net 25 = .ok (.getfield 12, 3) := by decide +kernel
theorem dX8_net_28 : decode cX8_net 28 = .ok (.invokevirtual 170, 3) := by decide +kernel
theorem dX8_net_31 : decode cX8_net 31 = .ok (.ifCond .ne 5, 3) := by decide +kernel
theorem dX8_net_34 : decode cX8_net 34 = .ok (.iconst (-1), 1) := by decide +kernel
theorem dX8_net_35 : decode cX8_net 35 = .ok (.ireturn, 1) := by decide +kernel
theorem dX8_net_36 : decode cX8_net 36 = .ok (.aload_n 0, 1) := by decide +kernel
theorem dX8_net_37 : decode cX8_net 37 = .ok (.getfield 58, 3) := by decide +kernel
theorem dX8_net_40 : decode cX8_net 40 = .ok (.aload_n 0, 1) := by decide +kernel
theorem dX8_net_41 : decode cX8_net 41 = .ok (.getfield 12, 3) := by decide +kernel
theorem dX8_net_44 : decode cX8_net 44 = .ok (.invokevirtual 276, 3) := by decide +kernel
theorem dX8_net_47 : decode cX8_net 47 = .ok (.iload_n 1, 1) := by decide +kernel
theorem dX8_net_48 : decode cX8_net 48 = .ok (.iconst (-1), 1) := by decide +kernel
theorem dX8_net_49 : decode cX8_net 49 = .ok (.if_icmp .ne 25, 3) := by decide +kernel
theorem dX8_net_52 : decode cX8_net 52 = .ok (.iload_n 2, 1) := by decide +kernel
theorem dX8_net_53 : decode cX8_net 53 = .ok (.ifCond .ne 13, 3) := by decide +kernel
theorem dX8_net_56 : decode cX8_net 56 = .ok (.aload_n 0, 1) := by decide +kernel
theorem dX8_net_57 : decode cX8_net 57 = .ok (.getfield 58, 3) := by decide +kernel
theorem dX8_net_60 : decode cX8_net 60 = .ok (.getfield 279, 3) := by decide +kernel
theorem dX8_net_63 : decode cX8_net 63 = .ok (.goto 10, 3) := by decide +kernel
theorem dX8_net_66 : decode cX8_net 66 = .ok (.aload_n 0, 1) := by decide +kernel
theorem dX8_net_67 : decode cX8_net 67 = .ok (.getfield 58, 3) := by decide +kernel
theorem dX8_net_70 : decode cX8_net 70 = .ok (.invokevirtual 282, 3) := by decide +kernel
theorem dX8_net_73 : decode cX8_net 73 = .ok (.ireturn, 1) := by decide +kernel
theorem dX8_net_74 : decode cX8_net 74 = .ok (.iload_n 1, 1) := by decide +kernel
theorem dX8_net_75 : decode cX8_net 75 = .ok (.aload_n 0, 1) := by decide +kernel
theorem dX8_net_76 : decode cX8_net 76 = .ok (.getfield 58, 3) := by decide +kernel
theorem dX8_net_79 : decode cX8_net 79 = .ok (.getfield 279, 3) := by decide +kernel
theorem dX8_net_82 : decode cX8_net 82 = .ok (.if_icmp .lt 6, 3) := by decide +kernel
theorem dX8_net_85 : decode cX8_net 85 = .ok (.bipush (-2), 2) := by decide +kernel
theorem dX8_net_87 : decode cX8_net 87 = .ok (.ireturn, 1) := by decide +kernel
theorem dX8_net_88 : decode cX8_net 88 = .ok (.aload_n 0, 1) := by decide +kernel
theorem dX8_net_89 : decode cX8_net 89 = .ok (.getfield 58, 3) := by decide +kernel
theorem dX8_net_92 : decode cX8_net 92 = .ok (.iload_n 1, 1) := by decide +kernel
theorem dX8_net_93 : decode cX8_net 93 = .ok (.iload_n 2, 1) := by decide +kernel
theorem dX8_net_94 : decode cX8_net 94 = .ok (.invokevirtual 285, 3) := by decide +kernel
theorem dX8_net_97 : decode cX8_net 97 = .ok (.ireturn, 1) := by decide +kernel
theorem dX8_cash_0 : decode cX8_cash 0 = .ok (.aload_n 0, 1) := by decide +kernel
theorem dX8_cash_1 : decode cX8_cash 1 = .ok (.getfield 12, 3) := by decide +kernel
theorem dX8_cash_4 : decode cX8_cash 4 = .ok (.getfield 146, 3) := by decide +kernel
theorem dX8_cash_7 : decode cX8_cash 7 = .ok (.iload_n 1, 1) := by decide +kernel
theorem dX8_cash_8 : decode cX8_cash 8 = .ok (.invokevirtual 121, 3) := by decide +kernel
theorem dX8_cash_11 : decode cX8_cash 11 = .ok (.ifCond .eq 12, 3) := by decide +kernel
theorem dX8_cash_14 : decode cX8_cash 14 = .ok (.iload_n 2, 1) := by decide +kernel
theorem dX8_cash_15 : decode cX8_cash 15 = .ok (.iconst 0, 1) := by decide +kernel
theorem dX8_cash_16 : decode cX8_cash 16 = .ok (.iconst 1, 1) := by decide +kernel
theorem dX8_cash_17 : decode cX8_cash 17 = .ok (.invokestatic 79, 3) := by decide +kernel
theorem dX8_cash_20 : decode cX8_cash 20 = .ok (.ifCond .ne 7, 3) := by decide +kernel
theorem dX8_cash_23 : decode cX8_cash 23 = .ok (.ldc2_w 214, 3) := by decide +kernel
theorem dX8_cash_26 : decode cX8_cash 26 = .ok (.lreturn, 1) := by decide +kernel
theorem dX8_cash_27 : decode cX8_cash 27 = .ok (.iload_n 2, 1) := by decide +kernel
theorem dX8_cash_28 : decode cX8_cash 28 = .ok (.ifCond .ne 15, 3) := by decide +kernel
theorem dX8_cash_31 : decode cX8_cash 31 = .ok (.aload_n 0, 1) := by decide +kernel
theorem dX8_cash_32 : decode cX8_cash 32 = .ok (.getfield 12, 3) := by decide +kernel
theorem dX8_cash_35 : decode cX8_cash 35 = .ok (.iload_n 1, 1) := by decide +kernel
theorem dX8_cash_36 : decode cX8_cash 36 = .ok (.invokevirtual 248, 3) := by decide +kernel
theorem dX8_cash_39 : decode cX8_cash 39 = .ok (.i2l, 1) := by decide +kernel
theorem dX8_cash_40 : decode cX8_cash 40 = .ok (.goto 11, 3) := by decide +kernel
theorem dX8_cash_43 : decode cX8_cash 43 = .ok (.aload_n 0, 1) := by decide +kernel
theorem dX8_cash_44 : decode cX8_cash 44 = .ok (.getfield 12, 3) := by decide +kernel
theorem dX8_cash_47 : decode cX8_cash 47 = .ok (.iload_n 1, 1) := by decide +kernel
theorem dX8_cash_48 : decode cX8_cash 48 = .ok (.invokevirtual 288, 3) := by decide +kernel
theorem dX8_cash_51 : decode cX8_cash 51 = .ok (.lreturn, 1) := by decide +kernel
theorem dX8_part_0 : decode cX8_part 0 = .ok (.aload_n 0, 1) := by decide +kernel
theorem dX8_part_1 : decode cX8_part 1 = .ok (.getfield 12, 3) := by decide +kernel
theorem dX8_part_4 : decode cX8_part 4 = .ok (.invokevirtual 170, 3) := by decide +kernel
theorem dX8_part_7 : decode cX8_part 7 = .ok (.ifCond .eq 22, 3) := by decide +kernel
theorem dX8_part_10 : decode cX8_part 10 = .ok (.iload_n 1, 1) := by decide +kernel
theorem dX8_part_11 : decode cX8_part 11 = .ok (.iconst (-1), 1) := by decide +kernel
theorem dX8_part_12 : decode cX8_part 12 = .ok (.if_icmp .eq 19, 3) := by decide +kernel
theorem dX8_part_15 : decode cX8_part 15 = .ok (.aload_n 0, 1) := by decide +kernel
theorem dX8_part_16 : decode cX8_part 16 = .ok (.getfield 12, 3) := by decide +kernel
theorem dX8_part_19 : decode cX8_part 19 = .ok (.getfield 146, 3) := by decide +kernel
theorem dX8_part_22 : decode cX8_part 22 = .ok (.iload_n 1, 1) := by decide +kernel
theorem dX8_part_23 : decode cX8_part 23 = .ok (.invokevirtual 121, 3) := by decide +kernel
theorem dX8_part_26 : decode cX8_part 26 = .ok (.ifCond .ne 5, 3) := by decide +kernel
theorem dX8_part_29 : decode cX8_part 29 = .ok (.iconst (-1), 1) := by decide +kernel
theorem dX8_part_30 : decode cX8_part 30 = .ok (.ireturn, 1) := by decide +kernel
theorem dX8_part_31 : decode cX8_part 31 = .ok (.aload_n 0, 1) := by decide +kernel
theorem dX8_part_32 : decode cX8_part 32 = .ok (.getfield 22, 3) := by decide +kernel
theorem dX8_part_35 : decode cX8_part 35 = .ok (.aload_n 0, 1) := by decide +kernel
theorem dX8_part_36 : decode cX8_part 36 = .ok (.getfield 12, 3) := by decide +kernel
theorem dX8_part_39 : decode cX8_part 39 = .ok (.invokevirtual 198, 3) := by decide +kernel
theorem dX8_part_42 : decode cX8_part 42 = .ok (.aload_n 0, 1) := by decide +kernel
theorem dX8_part_43 : decode cX8_part 43 = .ok (.getfield 22, 3) := by decide +kernel
theorem dX8_part_46 : decode cX8_part 46 = .ok (.aload_n 0, 1) := by decide +kernel
theorem dX8_part_47 : decode cX8_part 47 = .ok (.getfield 12, 3) := by decide +kernel
theorem dX8_part_50 : decode cX8_part 50 = .ok (.iload_n 1, 1) := by decide +kernel
theorem dX8_part_51 : decode cX8_part 51 = .ok (.invokevirtual 273, 3) := by decide +kernel
theorem dX8_part_54 : decode cX8_part 54 = .ok (.ireturn, 1) := by decide +kernel
theorem dX8_total_0 : decode cX8_total 0 = .ok (.aload_n 0, 1) := by decide +kernel
theorem dX8_total_1 : decode cX8_total 1 = .ok (.getfield 12, 3) := by decide +kernel
theorem dX8_total_4 : decode cX8_total 4 = .ok (.invokevirtual 170, 3) := by decide +kernel
theorem dX8_total_7 : decode cX8_total 7 = .ok (.ifCond .eq 12, 3) := by decide +kernel
theorem dX8_total_10 : decode cX8_total 10 = .ok (.iload_n 1, 1) := by decide +kernel
theorem dX8_total_11 : decode cX8_total 11 = .ok (.iconst 0, 1) := by decide +kernel
theorem dX8_total_12 : decode cX8_total 12 = .ok (.iconst 4, 1) := by decide +kernel
theorem dX8_total_13 : decode cX8_total 13 = .ok (.invokestatic 79, 3) := by decide +kernel
theorem dX8_total_16 : decode cX8_total 16 = .ok (.ifCond .ne 7, 3) := by decide +kernel
theorem dX8_total_19 : decode cX8_total 19 = .ok (.ldc2_w 292, 3) := by decide +kernel
theorem dX8_total_22 : decode cX8_total 22 = .ok (.lreturn, 1) := by decide +kernel
theorem dX8_total_23 : decode cX8_total 23 = .ok (.iload_n 1, 1) := by decide +kernel
theorem dX8_total_24 : decode cX8_total 24 = .ok (.iconst 4, 1) := by decide +kernel
theorem dX8_total_25 : decode cX8_total 25 = .ok (.if_icmp .ne 13, 3) := by decide +kernel
theorem dX8_total_28 : decode cX8_total 28 = .ok (.aload_n 0, 1) := by decide +kernel
theorem dX8_total_29 : decode cX8_total 29 = .ok (.getfield 12, 3) := by decide +kernel
theorem dX8_total_32 : decode cX8_total 32 = .ok (.invokevirtual 294, 3) := by decide +kernel
theorem dX8_total_35 : decode cX8_total 35 = .ok (.goto 12, 3) := by decide +kernel
theorem dX8_total_38 : decode cX8_total 38 = .ok (.aload_n 0, 1) := by decide +kernel
theorem dX8_total_39 : decode cX8_total 39 = .ok (.getfield 12, 3) := by decide +kernel
theorem dX8_total_42 : decode cX8_total 42 = .ok (.getfield 298, 3) := by decide +kernel
theorem dX8_total_45 : decode cX8_total 45 = .ok (.iload_n 1, 1) := by decide +kernel
theorem dX8_total_46 : decode cX8_total 46 = .ok (.laload, 1) := by decide +kernel
theorem dX8_total_47 : decode cX8_total 47 = .ok (.lreturn, 1) := by decide +kernel
theorem dX8_price_0 : decode cX8_price 0 = .ok (.aload_n 0, 1) := by decide +kernel
theorem dX8_price_1 : decode cX8_price 1 = .ok (.getfield 12, 3) := by decide +kernel
theorem dX8_price_4 : decode cX8_price 4 = .ok (.invokevirtual 170, 3) := by decide +kernel
theorem dX8_price_7 : decode cX8_price 7 = .ok (.ifCond .eq 12, 3) := by decide +kernel
theorem dX8_price_10 : decode cX8_price 10 = .ok (.iload_n 1, 1) := by decide +kernel
theorem dX8_price_11 : decode cX8_price 11 = .ok (.iconst 0, 1) := by decide +kernel
theorem dX8_price_12 : decode cX8_price 12 = .ok (.iconst 1, 1) := by decide +kernel
theorem dX8_price_13 : decode cX8_price 13 = .ok (.invokestatic 79, 3) := by decide +kernel
theorem dX8_price_16 : decode cX8_price 16 = .ok (.ifCond .ne 5, 3) := by decide +kernel
theorem dX8_price_19 : decode cX8_price 19 = .ok (.iconst (-1), 1) := by decide +kernel
theorem dX8_price_20 : decode cX8_price 20 = .ok (.ireturn, 1) := by decide +kernel
theorem dX8_price_21 : decode cX8_price 21 = .ok (.iload_n 1, 1) := by decide +kernel
theorem dX8_price_22 : decode cX8_price 22 = .ok (.ifCond .ne 13, 3) := by decide +kernel
theorem dX8_price_25 : decode cX8_price 25 = .ok (.aload_n 0, 1) := by decide +kernel
theorem dX8_price_26 : decode cX8_price 26 = .ok (.getfield 12, 3) := by decide +kernel
theorem dX8_price_29 : decode cX8_price 29 = .ok (.getfield 301, 3) := by decide +kernel
theorem dX8_price_32 : decode cX8_price 32 = .ok (.goto 10, 3) := by decide +kernel
theorem dX8_price_35 : decode cX8_price 35 = .ok (.aload_n 0, 1) := by decide +kernel
theorem dX8_price_36 : decode cX8_price 36 = .ok (.getfield 12, 3) := by decide +kernel
theorem dX8_price_39 : decode cX8_price 39 = .ok (.getfield 304, 3) := by decide +kernel
theorem dX8_price_42 : decode cX8_price 42 = .ok (.ireturn, 1) := by decide +kernel
theorem dX8_letter_0 : decode cX8_letter 0 = .ok (.iload_n 1, 1) := by decide +kernel
theorem dX8_letter_1 : decode cX8_letter 1 = .ok (.iconst (-1), 1) := by decide +kernel
theorem dX8_letter_2 : decode cX8_letter 2 = .ok (.if_icmp .ge 5, 3) := by decide +kernel
theorem dX8_letter_5 : decode cX8_letter 5 = .ok (.iconst (-1), 1) := by decide +kernel
theorem dX8_letter_6 : decode cX8_letter 6 = .ok (.ireturn, 1) := by decide +kernel
theorem dX8_letter_7 : decode cX8_letter 7 = .ok (.aload_n 0, 1) := by decide +kernel
theorem dX8_letter_8 : decode cX8_letter 8 = .ok (.getfield 51, 3) := by decide +kernel
theorem dX8_letter_11 : decode cX8_letter 11 = .ok (.aload_n 0, 1) := by decide +kernel
theorem dX8_letter_12 : decode cX8_letter 12 = .ok (.getfield 12, 3) := by decide +kernel
theorem dX8_letter_15 : decode cX8_letter 15 = .ok (.invokevirtual 307, 3) := by decide +kernel
theorem dX8_letter_18 : decode cX8_letter 18 = .ok (.iload_n 1, 1) := by decide +kernel
theorem dX8_letter_19 : decode cX8_letter 19 = .ok (.iconst (-1), 1) := by decide +kernel
theorem dX8_letter_20 : decode cX8_letter 20 = .ok (.if_icmp .ne 14, 3) := by decide +kernel
theorem dX8_letter_23 : decode cX8_letter 23 = .ok (.aload_n 0, 1) := by decide +kernel
theorem dX8_letter_24 : decode cX8_letter 24 = .ok (.getfield 51, 3) := by decide +kernel
theorem dX8_letter_27 : decode cX8_letter 27 = .ok (.getfield 310, 3) := by decide +kernel
theorem dX8_letter_30 : decode cX8_letter 30 = .ok (.invokevirtual 314, 3) := by decide +kernel
theorem dX8_letter_33 : decode cX8_letter 33 = .ok (.ireturn, 1) := by decide +kernel
theorem dX8_letter_34 : decode cX8_letter 34 = .ok (.iload_n 1, 1) := by decide +kernel
theorem dX8_letter_35 : decode cX8_letter 35 = .ok (.aload_n 0, 1) := by decide +kernel
theorem dX8_letter_36 : decode cX8_letter 36 = .ok (.getfield 51, 3) := by decide +kernel
theorem dX8_letter_39 : decode cX8_letter 39 = .ok (.getfield 310, 3) := by decide +kernel
theorem dX8_letter_42 : decode cX8_letter 42 = .ok (.invokevirtual 314, 3) := by decide +kernel
theorem dX8_letter_45 : decode cX8_letter 45 = .ok (.if_icmp .ge 17, 3) := by decide +kernel
theorem dX8_letter_48 : decode cX8_letter 48 = .ok (.aload_n 0, 1) := by decide +kernel
theorem dX8_letter_49 : decode cX8_letter 49 = .ok (.getfield 51, 3) := by decide +kernel
theorem dX8_letter_52 : decode cX8_letter 52 = .ok (.getfield 310, 3) := by decide +kernel
theorem dX8_letter_55 : decode cX8_letter 55 = .ok (.iload_n 1, 1) := by decide +kernel
theorem dX8_letter_56 : decode cX8_letter 56 = .ok (.invokevirtual 318, 3) := by decide +kernel
theorem dX8_letter_59 : decode cX8_letter 59 = .ok (.goto 5, 3) := by decide +kernel
theorem dX8_letter_62 : decode cX8_letter 62 = .ok (.bipush (-2), 2) := by decide +kernel
theorem dX8_letter_64 : decode cX8_letter 64 = .ok (.ireturn, 1) := by decide +kernel
theorem dX8_count_0 : decode cX8_count 0 = .ok (.iload_n 1, 1) := by decide +kernel
theorem dX8_count_1 : decode cX8_count 1 = .ok (.tableswitch 120 0 7 #[47, 55, 66, 77, 88, 96, 104, 115], 47) := by decide +kernel
theorem dX8_count_48 : decode cX8_count 48 = .ok (.aload_n 0, 1) := by decide +kernel
theorem dX8_count_49 : decode cX8_count 49 = .ok (.getfield 12, 3) := by decide +kernel
theorem dX8_count_52 : decode cX8_count 52 = .ok (.getfield 322, 3) := by decide +kernel
theorem dX8_count_55 : decode cX8_count 55 = .ok (.ireturn, 1) := by decide +kernel
theorem dX8_count_56 : decode cX8_count 56 = .ok (.aload_n 0, 1) := by decide +kernel
theorem dX8_count_57 : decode cX8_count 57 = .ok (.getfield 12, 3) := by decide +kernel
theorem dX8_count_60 : decode cX8_count 60 = .ok (.getfield 95, 3) := by decide +kernel
theorem dX8_count_63 : decode cX8_count 63 = .ok (.getfield 99, 3) := by decide +kernel
theorem dX8_count_66 : decode cX8_count 66 = .ok (.ireturn, 1) := by decide +kernel
theorem dX8_count_67 : decode cX8_count 67 = .ok (.aload_n 0, 1) := by decide +kernel
theorem dX8_count_68 : decode cX8_count 68 = .ok (.getfield 12, 3) := by decide +kernel
theorem dX8_count_71 : decode cX8_count 71 = .ok (.getfield 146, 3) := by decide +kernel
theorem dX8_count_74 : decode cX8_count 74 = .ok (.getfield 99, 3) := by decide +kernel
theorem dX8_count_77 : decode cX8_count 77 = .ok (.ireturn, 1) := by decide +kernel
theorem dX8_count_78 : decode cX8_count 78 = .ok (.aload_n 0, 1) := by decide +kernel
theorem dX8_count_79 : decode cX8_count 79 = .ok (.getfield 12, 3) := by decide +kernel
theorem dX8_count_82 : decode cX8_count 82 = .ok (.getfield 108, 3) := by decide +kernel
theorem dX8_count_85 : decode cX8_count 85 = .ok (.getfield 99, 3) := by decide +kernel
theorem dX8_count_88 : decode cX8_count 88 = .ok (.ireturn, 1) := by decide +kernel
theorem dX8_count_89 : decode cX8_count 89 = .ok (.aload_n 0, 1) := by decide +kernel
theorem dX8_count_90 : decode cX8_count 90 = .ok (.getfield 12, 3) := by decide +kernel
theorem dX8_count_93 : decode cX8_count 93 = .ok (.getfield 173, 3) := by decide +kernel
theorem dX8_count_96 : decode cX8_count 96 = .ok (.ireturn, 1) := by decide +kernel
theorem dX8_count_97 : decode cX8_count 97 = .ok (.aload_n 0, 1) := by decide +kernel
theorem dX8_count_98 : decode cX8_count 98 = .ok (.getfield 29, 3) := by decide +kernel
theorem dX8_count_101 : decode cX8_count 101 = .ok (.getfield 192, 3) := by decide +kernel
theorem dX8_count_104 : decode cX8_count 104 = .ok (.ireturn, 1) := by decide +kernel
theorem dX8_count_105 : decode cX8_count 105 = .ok (.aload_n 0, 1) := by decide +kernel
theorem dX8_count_106 : decode cX8_count 106 = .ok (.getfield 44, 3) := by decide +kernel
theorem dX8_count_109 : decode cX8_count 109 = .ok (.getfield 62, 3) := by decide +kernel
theorem dX8_count_112 : decode cX8_count 112 = .ok (.getfield 76, 3) := by decide +kernel
theorem dX8_count_115 : decode cX8_count 115 = .ok (.ireturn, 1) := by decide +kernel
theorem dX8_count_116 : decode cX8_count 116 = .ok (.aload_n 0, 1) := by decide +kernel
theorem dX8_count_117 : decode cX8_count 117 = .ok (.getfield 37, 3) := by decide +kernel
theorem dX8_count_120 : decode cX8_count 120 = .ok (.ireturn, 1) := by decide +kernel
theorem dX8_count_121 : decode cX8_count 121 = .ok (.iconst (-1), 1) := by decide +kernel
theorem dX8_count_122 : decode cX8_count 122 = .ok (.ireturn, 1) := by decide +kernel
theorem dX8_within_0 : decode cX8_within 0 = .ok (.iload_n 0, 1) := by decide +kernel
theorem dX8_within_1 : decode cX8_within 1 = .ok (.iload_n 1, 1) := by decide +kernel
theorem dX8_within_2 : decode cX8_within 2 = .ok (.if_icmp .lt 12, 3) := by decide +kernel
theorem dX8_within_5 : decode cX8_within 5 = .ok (.iload_n 0, 1) := by decide +kernel
theorem dX8_within_6 : decode cX8_within 6 = .ok (.iload_n 2, 1) := by decide +kernel
theorem dX8_within_7 : decode cX8_within 7 = .ok (.if_icmp .gt 7, 3) := by decide +kernel
theorem dX8_within_10 : decode cX8_within 10 = .ok (.iconst 1, 1) := by decide +kernel
theorem dX8_within_11 : decode cX8_within 11 = .ok (.goto 4, 3) := by decide +kernel
theorem dX8_within_14 : decode cX8_within 14 = .ok (.iconst 0, 1) := by decide +kernel
theorem dX8_within_15 : decode cX8_within 15 = .ok (.ireturn, 1) := by decide +kernel
theorem dX8_isTerm_0 : decode cX8_isTerm 0 = .ok (.iload_n 0, 1) := by decide +kernel
theorem dX8_isTerm_1 : decode cX8_isTerm 1 = .ok (.iconst 1, 1) := by decide +kernel
theorem dX8_isTerm_2 : decode cX8_isTerm 2 = .ok (.if_icmp .ne 11, 3) := by decide +kernel
theorem dX8_isTerm_5 : decode cX8_isTerm 5 = .ok (.iload_n 1, 1) := by decide +kernel
theorem dX8_isTerm_6 : decode cX8_isTerm 6 = .ok (.iconst 1, 1) := by decide +kernel
theorem dX8_isTerm_7 : decode cX8_isTerm 7 = .ok (.bipush 9, 2) := by decide +kernel
theorem dX8_isTerm_9 : decode cX8_isTerm 9 = .ok (.invokestatic 79, 3) := by decide +kernel
theorem dX8_isTerm_12 : decode cX8_isTerm 12 = .ok (.ireturn, 1) := by decide +kernel
theorem dX8_isTerm_13 : decode cX8_isTerm 13 = .ok (.iload_n 0, 1) := by decide +kernel
theorem dX8_isTerm_14 : decode cX8_isTerm 14 = .ok (.iconst 0, 1) := by decide +kernel
theorem dX8_isTerm_15 : decode cX8_isTerm 15 = .ok (.iconst 3, 1) := by decide +kernel
theorem dX8_isTerm_16 : decode cX8_isTerm 16 = .ok (.invokestatic 79, 3) := by decide +kernel
theorem dX8_isTerm_19 : decode cX8_isTerm 19 = .ok (.ifCond .eq 18, 3) := by decide +kernel
theorem dX8_isTerm_22 : decode cX8_isTerm 22 = .ok (.iload_n 1, 1) := by decide +kernel
theorem dX8_isTerm_23 : decode cX8_isTerm 23 = .ok (.iconst 0, 1) := by decide +kernel
theorem dX8_isTerm_24 : decode cX8_isTerm 24 = .ok (.sipush 9999, 3) := by decide +kernel
theorem dX8_isTerm_27 : decode cX8_isTerm 27 = .ok (.invokestatic 79, 3) := by decide +kernel
theorem dX8_isTerm_30 : decode cX8_isTerm 30 = .ok (.ifCond .eq 7, 3) := by decide +kernel
theorem dX8_isTerm_33 : decode cX8_isTerm 33 = .ok (.iconst 1, 1) := by decide +kernel
theorem dX8_isTerm_34 : decode cX8_isTerm 34 = .ok (.goto 4, 3) := by decide +kernel
theorem dX8_isTerm_37 : decode cX8_isTerm 37 = .ok (.iconst 0, 1) := by decide +kernel
theorem dX8_isTerm_38 : decode cX8_isTerm 38 = .ok (.ireturn, 1) := by decide +kernel
theorem dX8_canDeal_0 : decode cX8_canDeal 0 = .ok (.aload_n 0, 1) := by decide +kernel
theorem dX8_canDeal_1 : decode cX8_canDeal 1 = .ok (.getfield 12, 3) := by decide +kernel
theorem dX8_canDeal_4 : decode cX8_canDeal 4 = .ok (.getfield 146, 3) := by decide +kernel
theorem dX8_canDeal_7 : decode cX8_canDeal 7 = .ok (.iload_n 1, 1) := by decide +kernel
theorem dX8_canDeal_8 : decode cX8_canDeal 8 = .ok (.invokevirtual 121, 3) := by decide +kernel
theorem dX8_canDeal_11 : decode cX8_canDeal 11 = .ok (.ifCond .eq 37, 3) := by decide +kernel
theorem dX8_canDeal_14 : decode cX8_canDeal 14 = .ok (.aload_n 0, 1) := by decide +kernel
theorem dX8_canDeal_15 : decode cX8_canDeal 15 = .ok (.getfield 12, 3) := by decide +kernel
theorem dX8_canDeal_18 : decode cX8_canDeal 18 = .ok (.getfield 146, 3) := by decide +kernel
theorem dX8_canDeal_21 : decode cX8_canDeal 21 = .ok (.iload_n 2, 1) := by decide +kernel
theorem dX8_canDeal_22 : decode cX8_canDeal 22 = .ok (.invokevirtual 121, 3) := by decide +kernel
theorem dX8_canDeal_25 : decode cX8_canDeal 25 = .ok (.ifCond .eq 23, 3) := by decide +kernel
theorem dX8_canDeal_28 : decode cX8_canDeal 28 = .ok (.iload_n 1, 1) := by decide +kernel
theorem dX8_canDeal_29 : decode cX8_canDeal 29 = .ok (.iload_n 2, 1) := by decide +kernel
theorem dX8_canDeal_30 : decode cX8_canDeal 30 = .ok (.if_icmp .eq 18, 3) := by decide +kernel
theorem dX8_canDeal_33 : decode cX8_canDeal 33 = .ok (.iload_n 3, 1) := by decide +kernel
theorem dX8_canDeal_34 : decode cX8_canDeal 34 = .ok (.iconst 1, 1) := by decide +kernel
theorem dX8_canDeal_35 : decode cX8_canDeal 35 = .ok (.sipush 9999, 3) := by decide +kernel
theorem dX8_canDeal_38 : decode cX8_canDeal 38 = .ok (.invokestatic 79, 3) := by decide +kernel
theorem dX8_canDeal_41 : decode cX8_canDeal 41 = .ok (.ifCond .eq 7, 3) := by decide +kernel
theorem dX8_canDeal_44 : decode cX8_canDeal 44 = .ok (.iconst 1, 1) := by decide +kernel
theorem dX8_canDeal_45 : decode cX8_canDeal 45 = .ok (.goto 4, 3) := by decide +kernel
theorem dX8_canDeal_48 : decode cX8_canDeal 48 = .ok (.iconst 0, 1) := by decide +kernel
theorem dX8_canDeal_49 : decode cX8_canDeal 49 = .ok (.ireturn, 1) := by decide +kernel
theorem dX8_isWay_0 : decode cX8_isWay 0 = .ok (.aload_n 0, 1) := by decide +kernel
theorem dX8_isWay_1 : decode cX8_isWay 1 = .ok (.getfield 12, 3) := by decide +kernel
theorem dX8_isWay_4 : decode cX8_isWay 4 = .ok (.iload_n 1, 1) := by decide +kernel
theorem dX8_isWay_5 : decode cX8_isWay 5 = .ok (.invokevirtual 164, 3) := by decide +kernel
theorem dX8_isWay_8 : decode cX8_isWay 8 = .ok (.ifCond .eq 18, 3) := by decide +kernel
theorem dX8_isWay_11 : decode cX8_isWay 11 = .ok (.aload_n 0, 1) := by decide +kernel
theorem dX8_isWay_12 : decode cX8_isWay 12 = .ok (.getfield 12, 3) := by decide +kernel
theorem dX8_isWay_15 : decode cX8_isWay 15 = .ok (.iload_n 2, 1) := by decide +kernel
theorem dX8_isWay_16 : decode cX8_isWay 16 = .ok (.invokevirtual 164, 3) := by decide +kernel
theorem dX8_isWay_19 : decode cX8_isWay 19 = .ok (.ifCond .eq 7, 3) := by decide +kernel
theorem dX8_isWay_22 : decode cX8_isWay 22 = .ok (.iconst 1, 1) := by decide +kernel
theorem dX8_isWay_23 : decode cX8_isWay 23 = .ok (.goto 4, 3) := by decide +kernel
theorem dX8_isWay_26 : decode cX8_isWay 26 = .ok (.iconst 0, 1) := by decide +kernel
theorem dX8_isWay_27 : decode cX8_isWay 27 = .ok (.ireturn, 1) := by decide +kernel
theorem dX8_passTrialDay_0 : decode cX8_passTrialDay 0 = .ok (.iload_n 1, 1) := by decide +kernel
theorem dX8_passTrialDay_1 : decode cX8_passTrialDay 1 = .ok (.ifCond .eq 14, 3) := by decide +kernel
theorem dX8_passTrialDay_4 : decode cX8_passTrialDay 4 = .ok (.aload_n 0, 1) := by decide +kernel
theorem dX8_passTrialDay_5 : decode cX8_passTrialDay 5 = .ok (.getfield 22, 3) := by decide +kernel
theorem dX8_passTrialDay_8 : decode cX8_passTrialDay 8 = .ok (.aload_n 0, 1) := by decide +kernel
theorem dX8_passTrialDay_9 : decode cX8_passTrialDay 9 = .ok (.getfield 16, 3) := by decide +kernel
theorem dX8_passTrialDay_12 : decode cX8_passTrialDay 12 = .ok (.invokevirtual 198, 3) := by decide +kernel
theorem dX8_passTrialDay_15 : decode cX8_passTrialDay 15 = .ok (.aload_n 0, 1) := by decide +kernel
theorem dX8_passTrialDay_16 : decode cX8_passTrialDay 16 = .ok (.getfield 16, 3) := by decide +kernel
theorem dX8_passTrialDay_19 : decode cX8_passTrialDay 19 = .ok (.aload_n 0, 1) := by decide +kernel
theorem dX8_passTrialDay_20 : decode cX8_passTrialDay 20 = .ok (.getfield 22, 3) := by decide +kernel
theorem dX8_passTrialDay_23 : decode cX8_passTrialDay 23 = .ok (.invokevirtual 325, 3) := by decide +kernel
theorem dX8_passTrialDay_26 : decode cX8_passTrialDay 26 = .ok (.ireturn, 1) := by decide +kernel
