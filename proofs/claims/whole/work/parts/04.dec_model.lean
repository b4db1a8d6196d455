theorem dX10_init_0 : decode cX10_init 0 = .ok (.aload_n 0, 1) := by decide +kernel
theorem dX10_init_1 : decode cX10_init 1 = .ok (.invokespecial 3, 3) := by decide +kernel
theorem dX10_init_4 : decode cX10_init 4 = .ok (.aload_n 0, 1) := by decide +kernel
theorem dX10_init_5 : decode cX10_init 5 = .ok (.bipush 91, 2) := by decide +kernel
theorem dX10_init_7 : decode cX10_init 7 = .ok (.newarray .int, 2) := by decide +kernel
theorem dX10_init_9 : decode cX10_init 9 = .ok (.putfield 9, 3) := by decide +kernel
theorem dX10_init_12 : decode cX10_init 12 = .ok (.aload_n 0, 1) := by decide +kernel
theorem dX10_init_13 : decode cX10_init 13 = .ok (.bipush 91, 2) := by decide +kernel
theorem dX10_init_15 : decode cX10_init 15 = .ok (.newarray .int, 2) := by decide +kernel
theorem dX10_init_17 : decode cX10_init 17 = .ok (.putfield 13, 3) := by decide +kernel
theorem dX10_init_20 : decode cX10_init 20 = .ok (.aload_n 0, 1) := by decide +kernel
theorem dX10_init_21 : decode cX10_init 21 = .ok (.bipush 91, 2) := by decide +kernel
theorem dX10_init_23 : decode cX10_init 23 = .ok (.newarray .int, 2) := by decide +kernel
theorem dX10_init_25 : decode cX10_init 25 = .ok (.putfield 16, 3) := by decide +kernel
theorem dX10_init_28 : decode cX10_init 28 = .ok (.aload_n 0, 1) := by decide +kernel
theorem dX10_init_29 : decode cX10_init 29 = .ok (.bipush 91, 2) := by decide +kernel
theorem dX10_init_31 : decode cX10_init 31 = .ok (.newarray .int, 2) := by decide +kernel
theorem dX10_init_33 : decode cX10_init 33 = .ok (.putfield 19, 3) := by decide +kernel
theorem dX10_init_36 : decode cX10_init 36 = .ok (.aload_n 0, 1) := by decide +kernel
theorem dX10_init_37 : decode cX10_init 37 = .ok (.sipush 728, 3) := by decide +kernel
theorem dX10_init_40 : decode cX10_init 40 = .ok (.newarray .int, 2) := by decide +kernel
theorem dX10_init_42 : decode cX10_init 42 = .ok (.putfield 22, 3) := by decide +kernel
theorem dX10_init_45 : decode cX10_init 45 = .ok (.aload_n 0, 1) := by decide +kernel
theorem dX10_init_46 : decode cX10_init 46 = .ok (.iconst (-1), 1) := by decide +kernel
theorem dX10_init_47 : decode cX10_init 47 = .ok (.putfield 25, 3) := by decide +kernel
theorem dX10_init_50 : decode cX10_init 50 = .ok (.aload_n 0, 1) := by decide +kernel
theorem dX10_init_51 : decode cX10_init 51 = .ok (.iconst (-1), 1) := by decide +kernel
theorem dX10_init_52 : decode cX10_init 52 = .ok (.putfield 29, 3) := by decide +kernel
theorem dX10_init_55 : decode cX10_init 55 = .ok (.aload_n 0, 1) := by decide +kernel
theorem dX10_init_56 : decode cX10_init 56 = .ok (.bipush 60, 2) := by decide +kernel
theorem dX10_init_58 : decode cX10_init 58 = .ok (.newarray .int, 2) := by decide +kernel
theorem dX10_init_60 : decode cX10_init 60 = .ok (.putfield 32, 3) := by decide +kernel
theorem dX10_init_63 : decode cX10_init 63 = .ok (.aload_n 0, 1) := by decide +kernel
theorem dX10_init_64 : decode cX10_init 64 = .ok (.bipush 60, 2) := by decide +kernel
theorem dX10_init_66 : decode cX10_init 66 = .ok (.newarray .int, 2) := by decide +kernel
theorem dX10_init_68 : decode cX10_init 68 = .ok (.putfield 35, 3) := by decide +kernel
theorem dX10_init_71 : decode cX10_init 71 = .ok (.aload_n 0, 1) := by decide +kernel
theorem dX10_init_72 : decode cX10_init 72 = .ok (.sipush 240, 3) := by decide +kernel
theorem dX10_init_75 : decode cX10_init 75 = .ok (.newarray .int, 2) := by decide +kernel
theorem dX10_init_77 : decode cX10_init 77 = .ok (.putfield 38, 3) := by decide +kernel
theorem dX10_init_80 : decode cX10_init 80 = .ok (.aload_n 0, 1) := by decide +kernel
theorem dX10_init_81 : decode cX10_init 81 = .ok (.sipush 150, 3) := by decide +kernel
theorem dX10_init_84 : decode cX10_init 84 = .ok (.newarray .int, 2) := by decide +kernel
theorem dX10_init_86 : decode cX10_init 86 = .ok (.putfield 41, 3) := by decide +kernel
theorem dX10_init_89 : decode cX10_init 89 = .ok (.aload_n 0, 1) := by decide +kernel
theorem dX10_init_90 : decode cX10_init 90 = .ok (.getfield 9, 3) := by decide +kernel
theorem dX10_init_93 : decode cX10_init 93 = .ok (.iconst 1, 1) := by decide +kernel
theorem dX10_init_94 : decode cX10_init 94 = .ok (.bipush 100, 2) := by decide +kernel
theorem dX10_init_96 : decode cX10_init 96 = .ok (.iastore, 1) := by decide +kernel
theorem dX10_init_97 : decode cX10_init 97 = .ok (.iconst 0, 1) := by decide +kernel
theorem dX10_init_98 : decode cX10_init 98 = .ok (.istore_n 1, 1) := by decide +kernel
theorem dX10_init_99 : decode cX10_init 99 = .ok (.iload_n 1, 1) := by decide +kernel
theorem dX10_init_100 : decode cX10_init 100 = .ok (.bipush 6, 2) := by decide +kernel
theorem dX10_init_102 : decode cX10_init 102 = .ok (.if_icmp .ge 20, 3) := by decide +kernel
theorem dX10_init_105 : decode cX10_init 105 = .ok (.aload_n 0, 1) := by decide +kernel
theorem dX10_init_106 : decode cX10_init 106 = .ok (.getfield 9, 3) := by decide +kernel
theorem dX10_init_109 : decode cX10_init 109 = .ok (.bipush 12, 2) := by decide +kernel
theorem dX10_init_111 : decode cX10_init 111 = .ok (.iload_n 1, 1) := by decide +kernel
theorem dX10_init_112 : decode cX10_init 112 = .ok (.iadd, 1) := by decide +kernel
theorem dX10_init_113 : decode cX10_init 113 = .ok (.bipush 20, 2) := by decide +kernel
theorem dX10_init_115 : decode cX10_init 115 = .ok (.iastore, 1) := by decide +kernel
theorem dX10_init_116 : decode cX10_init 116 = .ok (.iinc 1 1, 3) := by decide +kernel
theorem dX10_init_119 : decode cX10_init 119 = .ok (.goto (-20), 3) := by decide +kernel
theorem dX10_init_122 : decode cX10_init 122 = .ok (.return_, 1) := by decide +kernel
theorem dX10_thrown_0 : decode cX10_thrown 0 = .ok (.aload_n 0, 1) := by decide +kernel
theorem dX10_thrown_1 : decode cX10_thrown 1 = .ok (.getfield 44, 3) := by decide +kernel
theorem dX10_thrown_4 : decode cX10_thrown 4 = .ok (.ireturn, 1) := by decide +kernel
theorem dX10_isIn_0 : decode cX10_isIn 0 = .ok (.iload_n 0, 1) := by decide +kernel
theorem dX10_isIn_1 : decode cX10_isIn 1 = .ok (.iload_n 1, 1) := by decide +kernel
theorem dX10_isIn_2 : decode cX10_isIn 2 = .ok (.if_icmp .lt 12, 3) := by decide +kernel
theorem dX10_isIn_5 : decode cX10_isIn 5 = .ok (.iload_n 0, 1) := by decide +kernel
theorem dX10_isIn_6 : decode cX10_isIn 6 = .ok (.iload_n 2, 1) := by decide +kernel
theorem dX10_isIn_7 : decode cX10_isIn 7 = .ok (.if_icmp .gt 7, 3) := by decide +kernel
theorem dX10_isIn_10 : decode cX10_isIn 10 = .ok (.iconst 1, 1) := by decide +kernel
theorem dX10_isIn_11 : decode cX10_isIn 11 = .ok (.goto 4, 3) := by decide +kernel
theorem dX10_isIn_14 : decode cX10_isIn 14 = .ok (.iconst 0, 1) := by decide +kernel
theorem dX10_isIn_15 : decode cX10_isIn 15 = .ok (.ireturn, 1) := by decide +kernel
theorem dX10_copies_0 : decode cX10_copies 0 = .ok (.iconst 0, 1) := by decide +kernel
theorem dX10_copies_1 : decode cX10_copies 1 = .ok (.istore 4, 2) := by decide +kernel
theorem dX10_copies_3 : decode cX10_copies 3 = .ok (.iload 4, 2) := by decide +kernel
theorem dX10_copies_5 : decode cX10_copies 5 = .ok (.bipush 91, 2) := by decide +kernel
theorem dX10_copies_7 : decode cX10_copies 7 = .ok (.if_icmp .ge 21, 3) := by decide +kernel
theorem dX10_copies_10 : decode cX10_copies 10 = .ok (.aload_n 2, 1) := by decide +kernel
theorem dX10_copies_11 : decode cX10_copies 11 = .ok (.iload_n 3, 1) := by decide +kernel
theorem dX10_copies_12 : decode cX10_copies 12 = .ok (.iload 4, 2) := by decide +kernel
theorem dX10_copies_14 : decode cX10_copies 14 = .ok (.iadd, 1) := by decide +kernel
theorem dX10_copies_15 : decode cX10_copies 15 = .ok (.aload_n 0, 1) := by decide +kernel
theorem dX10_copies_16 : decode cX10_copies 16 = .ok (.iload_n 1, 1) := by decide +kernel
theorem dX10_copies_17 : decode cX10_copies 17 = .ok (.iload 4, 2) := by decide +kernel
theorem dX10_copies_19 : decode cX10_copies 19 = .ok (.iadd, 1) := by decide +kernel
theorem dX10_copies_20 : decode cX10_copies 20 = .ok (.iaload, 1) := by decide +kernel
theorem dX10_copies_21 : decode cX10_copies 21 = .ok (.iastore, 1) := by decide +kernel
theorem dX10_copies_22 : decode cX10_copies 22 = .ok (.iinc 4 1, 3) := by decide +kernel
theorem dX10_copies_25 : decode cX10_copies 25 = .ok (.goto (-22), 3) := by decide +kernel
theorem dX10_copies_28 : decode cX10_copies 28 = .ok (.return_, 1) := by decide +kernel
theorem dX10_holds_0 : decode cX10_holds 0 = .ok (.aload_n 0, 1) := by decide +kernel
theorem dX10_holds_1 : decode cX10_holds 1 = .ok (.iload_n 1, 1) := by decide +kernel
theorem dX10_holds_2 : decode cX10_holds 2 = .ok (.ifCond .ne 7, 3) := by decide +kernel
theorem dX10_holds_5 : decode cX10_holds 5 = .ok (.iconst 1, 1) := by decide +kernel
theorem dX10_holds_6 : decode cX10_holds 6 = .ok (.goto 29, 3) := by decide +kernel
theorem dX10_holds_9 : decode cX10_holds 9 = .ok (.iload_n 2, 1) := by decide +kernel
theorem dX10_holds_10 : decode cX10_holds 10 = .ok (.ifCond .ne 7, 3) := by decide +kernel
theorem dX10_holds_13 : decode cX10_holds 13 = .ok (.iconst 2, 1) := by decide +kernel
theorem dX10_holds_14 : decode cX10_holds 14 = .ok (.goto 21, 3) := by decide +kernel
theorem dX10_holds_17 : decode cX10_holds 17 = .ok (.iload_n 3, 1) := by decide +kernel
theorem dX10_holds_18 : decode cX10_holds 18 = .ok (.ifCond .ne 7, 3) := by decide +kernel
theorem dX10_holds_21 : decode cX10_holds 21 = .ok (.iconst 3, 1) := by decide +kernel
theorem dX10_holds_22 : decode cX10_holds 22 = .ok (.goto 13, 3) := by decide +kernel
theorem dX10_holds_25 : decode cX10_holds 25 = .ok (.iload 4, 2) := by decide +kernel
theorem dX10_holds_27 : decode cX10_holds 27 = .ok (.ifCond .ne 7, 3) := by decide +kernel
theorem dX10_holds_30 : decode cX10_holds 30 = .ok (.iconst 4, 1) := by decide +kernel
theorem dX10_holds_31 : decode cX10_holds 31 = .ok (.goto 4, 3) := by decide +kernel
theorem dX10_holds_34 : decode cX10_holds 34 = .ok (.iconst 0, 1) := by decide +kernel
theorem dX10_holds_35 : decode cX10_holds 35 = .ok (.putfield 44, 3) := by decide +kernel
theorem dX10_holds_38 : decode cX10_holds 38 = .ok (.aload_n 0, 1) := by decide +kernel
theorem dX10_holds_39 : decode cX10_holds 39 = .ok (.getfield 44, 3) := by decide +kernel
theorem dX10_holds_42 : decode cX10_holds 42 = .ok (.ifCond .ne 7, 3) := by decide +kernel
theorem dX10_holds_45 : decode cX10_holds 45 = .ok (.iconst 1, 1) := by decide +kernel
theorem dX10_holds_46 : decode cX10_holds 46 = .ok (.goto 4, 3) := by decide +kernel
theorem dX10_holds_49 : decode cX10_holds 49 = .ok (.iconst 0, 1) := by decide +kernel
theorem dX10_holds_50 : decode cX10_holds 50 = .ok (.ireturn, 1) := by decide +kernel
theorem dX10_goes_0 : decode cX10_goes 0 = .ok (.aload_n 0, 1) := by decide +kernel
theorem dX10_goes_1 : decode cX10_goes 1 = .ok (.iload_n 1, 1) := by decide +kernel
theorem dX10_goes_2 : decode cX10_goes 2 = .ok (.iconst 1, 1) := by decide +kernel
theorem dX10_goes_3 : decode cX10_goes 3 = .ok (.iconst 1, 1) := by decide +kernel
theorem dX10_goes_4 : decode cX10_goes 4 = .ok (.iconst 1, 1) := by decide +kernel
theorem dX10_goes_5 : decode cX10_goes 5 = .ok (.invokevirtual 47, 3) := by decide +kernel
theorem dX10_goes_8 : decode cX10_goes 8 = .ok (.ireturn, 1) := by decide +kernel
theorem dX10_begins_0 : decode cX10_begins 0 = .ok (.aload_n 0, 1) := by decide +kernel
theorem dX10_begins_1 : decode cX10_begins 1 = .ok (.getfield 9, 3) := by decide +kernel
theorem dX10_begins_4 : decode cX10_begins 4 = .ok (.iconst 0, 1) := by decide +kernel
theorem dX10_begins_5 : decode cX10_begins 5 = .ok (.aload_n 0, 1) := by decide +kernel
theorem dX10_begins_6 : decode cX10_begins 6 = .ok (.getfield 13, 3) := by decide +kernel
theorem dX10_begins_9 : decode cX10_begins 9 = .ok (.iconst 0, 1) := by decide +kernel
theorem dX10_begins_10 : decode cX10_begins 10 = .ok (.invokestatic 51, 3) := by decide +kernel
theorem dX10_begins_13 : decode cX10_begins 13 = .ok (.return_, 1) := by decide +kernel
theorem dX10_remembers_0 : decode cX10_remembers 0 = .ok (.aload_n 0, 1) := by decide +kernel
theorem dX10_remembers_1 : decode cX10_remembers 1 = .ok (.getfield 55, 3) := by decide +kernel
theorem dX10_remembers_4 : decode cX10_remembers 4 = .ok (.bipush 8, 2) := by decide +kernel
theorem dX10_remembers_6 : decode cX10_remembers 6 = .ok (.if_icmp .ne 43, 3) := by decide +kernel
theorem dX10_remembers_9 : decode cX10_remembers 9 = .ok (.iconst 0, 1) := by decide +kernel
theorem dX10_remembers_10 : decode cX10_remembers 10 = .ok (.istore_n 1, 1) := by decide +kernel
theorem dX10_remembers_11 : decode cX10_remembers 11 = .ok (.iload_n 1, 1) := by decide +kernel
theorem dX10_remembers_12 : decode cX10_remembers 12 = .ok (.sipush 637, 3) := by decide +kernel
theorem dX10_remembers_15 : decode cX10_remembers 15 = .ok (.if_icmp .ge 24, 3) := by decide +kernel
theorem dX10_remembers_18 : decode cX10_remembers 18 = .ok (.aload_n 0, 1) := by decide +kernel
theorem dX10_remembers_19 : decode cX10_remembers 19 = .ok (.getfield 22, 3) := by decide +kernel
theorem dX10_remembers_22 : decode cX10_remembers 22 = .ok (.iload_n 1, 1) := by decide +kernel
theorem dX10_remembers_23 : decode cX10_remembers 23 = .ok (.aload_n 0, 1) := by decide +kernel
theorem dX10_remembers_24 : decode cX10_remembers 24 = .ok (.getfield 22, 3) := by decide +kernel
theorem dX10_remembers_27 : decode cX10_remembers 27 = .ok (.iload_n 1, 1) := by decide +kernel
theorem dX10_remembers_28 : decode cX10_remembers 28 = .ok (.bipush 91, 2) := by decide +kernel
theorem dX10_remembers_30 : decode cX10_remembers 30 = .ok (.iadd, 1) := by decide +kernel
theorem dX10_remembers_31 : decode cX10_remembers 31 = .ok (.iaload, 1) := by decide +kernel
theorem dX10_remembers_32 : decode cX10_remembers 32 = .ok (.iastore, 1) := by decide +kernel
theorem dX10_remembers_33 : decode cX10_remembers 33 = .ok (.iinc 1 1, 3) := by decide +kernel
theorem dX10_remembers_36 : decode cX10_remembers 36 = .ok (.goto (-25), 3) := by decide +kernel
theorem dX10_remembers_39 : decode cX10_remembers 39 = .ok (.aload_n 0, 1) := by decide +kernel
theorem dX10_remembers_40 : decode cX10_remembers 40 = .ok (.dup, 1) := by decide +kernel
theorem dX10_remembers_41 : decode cX10_remembers 41 = .ok (.getfield 55, 3) := by decide +kernel
theorem dX10_remembers_44 : decode cX10_remembers 44 = .ok (.iconst 1, 1) := by decide +kernel
theorem dX10_remembers_45 : decode cX10_remembers 45 = .ok (.isub, 1) := by decide +kernel
theorem dX10_remembers_46 : decode cX10_remembers 46 = .ok (.putfield 55, 3) := by decide +kernel
theorem dX10_remembers_49 : decode cX10_remembers 49 = .ok (.aload_n 0, 1) := by decide +kernel
theorem dX10_remembers_50 : decode cX10_remembers 50 = .ok (.getfield 13, 3) := by decide +kernel
theorem dX10_remembers_53 : decode cX10_remembers 53 = .ok (.iconst 0, 1) := by decide +kernel
theorem dX10_remembers_54 : decode cX10_remembers 54 = .ok (.aload_n 0, 1) := by decide +kernel
theorem dX10_remembers_55 : decode cX10_remembers 55 = .ok (.getfield 22, 3) := by decide +kernel
theorem dX10_remembers_58 : decode cX10_remembers 58 = .ok (.aload_n 0, 1) := by decide +kernel
theorem dX10_remembers_59 : decode cX10_remembers 59 = .ok (.getfield 55, 3) := by decide +kernel
theorem dX10_remembers_62 : decode cX10_remembers 62 = .ok (.bipush 91, 2) := by decide +kernel
theorem dX10_remembers_64 : decode cX10_remembers 64 = .ok (.imul, 1) := by decide +kernel
theorem dX10_remembers_65 : decode cX10_remembers 65 = .ok (.invokestatic 51, 3) := by decide +kernel
theorem dX10_remembers_68 : decode cX10_remembers 68 = .ok (.aload_n 0, 1) := by decide +kernel
theorem dX10_remembers_69 : decode cX10_remembers 69 = .ok (.dup, 1) := by decide +kernel
theorem dX10_remembers_70 : decode cX10_remembers 70 = .ok (.getfield 55, 3) := by decide +kernel
theorem dX10_remembers_73 : decode cX10_remembers 73 = .ok (.iconst 1, 1) := by decide +kernel
theorem dX10_remembers_74 : decode cX10_remembers 74 = .ok (.iadd, 1) := by decide +kernel
theorem dX10_remembers_75 : decode cX10_remembers 75 = .ok (.putfield 55, 3) := by decide +kernel
theorem dX10_remembers_78 : decode cX10_remembers 78 = .ok (.return_, 1) := by decide +kernel
theorem dX10_ends_0 : decode cX10_ends 0 = .ok (.aload_n 0, 1) := by decide +kernel
theorem dX10_ends_1 : decode cX10_ends 1 = .ok (.getfield 44, 3) := by decide +kernel
theorem dX10_ends_4 : decode cX10_ends 4 = .ok (.ifCond .eq 18, 3) := by decide +kernel
theorem dX10_ends_7 : decode cX10_ends 7 = .ok (.aload_n 0, 1) := by decide +kernel
theorem dX10_ends_8 : decode cX10_ends 8 = .ok (.getfield 13, 3) := by decide +kernel
theorem dX10_ends_11 : decode cX10_ends 11 = .ok (.iconst 0, 1) := by decide +kernel
theorem dX10_ends_12 : decode cX10_ends 12 = .ok (.aload_n 0, 1) := by decide +kernel
theorem dX10_ends_13 : decode cX10_ends 13 = .ok (.getfield 9, 3) := by decide +kernel
theorem dX10_ends_16 : decode cX10_ends 16 = .ok (.iconst 0, 1) := by decide +kernel
theorem dX10_ends_17 : decode cX10_ends 17 = .ok (.invokestatic 51, 3) := by decide +kernel
theorem dX10_ends_20 : decode cX10_ends 20 = .ok (.iconst 0, 1) := by decide +kernel
theorem dX10_ends_21 : decode cX10_ends 21 = .ok (.ireturn, 1) := by decide +kernel
theorem dX10_ends_22 : decode cX10_ends 22 = .ok (.aload_n 0, 1) := by decide +kernel
theorem dX10_ends_23 : decode cX10_ends 23 = .ok (.invokevirtual 58, 3) := by decide +kernel
theorem dX10_ends_26 : decode cX10_ends 26 = .ok (.iload_n 1, 1) := by decide +kernel
theorem dX10_ends_27 : decode cX10_ends 27 = .ok (.ireturn, 1) := by decide +kernel
theorem dX10_undo_0 : decode cX10_undo 0 = .ok (.aload_n 0, 1) := by decide +kernel
theorem dX10_undo_1 : decode cX10_undo 1 = .ok (.aload_n 0, 1) := by decide +kernel
theorem dX10_undo_2 : decode cX10_undo 2 = .ok (.getfield 55, 3) := by decide +kernel
theorem dX10_undo_5 : decode cX10_undo 5 = .ok (.ifCond .le 7, 3) := by decide +kernel
theorem dX10_undo_8 : decode cX10_undo 8 = .ok (.iconst 1, 1) := by decide +kernel
theorem dX10_undo_9 : decode cX10_undo 9 = .ok (.goto 4, 3) := by decide +kernel
theorem dX10_undo_12 : decode cX10_undo 12 = .ok (.iconst 0, 1) := by decide +kernel
theorem dX10_undo_13 : decode cX10_undo 13 = .ok (.invokevirtual 61, 3) := by decide +kernel
theorem dX10_undo_16 : decode cX10_undo 16 = .ok (.ifCond .ne 5, 3) := by decide +kernel
theorem dX10_undo_19 : decode cX10_undo 19 = .ok (.iconst 0, 1) := by decide +kernel
theorem dX10_undo_20 : decode cX10_undo 20 = .ok (.ireturn, 1) := by decide +kernel
theorem dX10_undo_21 : decode cX10_undo 21 = .ok (.aload_n 0, 1) := by decide +kernel
theorem dX10_undo_22 : decode cX10_undo 22 = .ok (.dup, 1) := by decide +kernel
theorem dX10_undo_23 : decode cX10_undo 23 = .ok (.getfield 55, 3) := by decide +kernel
theorem dX10_undo_26 : decode cX10_undo 26 = .ok (.iconst 1, 1) := by decide +kernel
theorem dX10_undo_27 : decode cX10_undo 27 = .ok (.isub, 1) := by decide +kernel
theorem dX10_undo_28 : decode cX10_undo 28 = .ok (.putfield 55, 3) := by decide +kernel
theorem dX10_undo_31 : decode cX10_undo 31 = .ok (.aload_n 0, 1) := by decide +kernel
theorem dX10_undo_32 : decode cX10_undo 32 = .ok (.getfield 22, 3) := by decide +kernel
theorem dX10_undo_35 : decode cX10_undo 35 = .ok (.aload_n 0, 1) := by decide +kernel
theorem dX10_undo_36 : decode cX10_undo 36 = .ok (.getfield 55, 3) := by decide +kernel
theorem dX10_undo_39 : decode cX10_undo 39 = .ok (.bipush 91, 2) := by decide +kernel
theorem dX10_undo_41 : decode cX10_undo 41 = .ok (.imul, 1) := by decide +kernel
theorem dX10_undo_42 : decode cX10_undo 42 = .ok (.aload_n 0, 1) := by decide +kernel
theorem dX10_undo_43 : decode cX10_undo 43 = .ok (.getfield 9, 3) := by decide +kernel
theorem dX10_undo_46 : decode cX10_undo 46 = .ok (.iconst 0, 1) := by decide +kernel
theorem dX10_undo_47 : decode cX10_undo 47 = .ok (.invokestatic 51, 3) := by decide +kernel
theorem dX10_undo_50 : decode cX10_undo 50 = .ok (.aload_n 0, 1) := by decide +kernel
theorem dX10_undo_51 : decode cX10_undo 51 = .ok (.getfield 55, 3) := by decide +kernel
theorem dX10_undo_54 : decode cX10_undo 54 = .ok (.ireturn, 1) := by decide +kernel
theorem dX10_save_0 : decode cX10_save 0 = .ok (.aload_n 0, 1) := by decide +kernel
theorem dX10_save_1 : decode cX10_save 1 = .ok (.iconst 0, 1) := by decide +kernel
theorem dX10_save_2 : decode cX10_save 2 = .ok (.putfield 44, 3) := by decide +kernel
theorem dX10_save_5 : decode cX10_save 5 = .ok (.aload_n 0, 1) := by decide +kernel
theorem dX10_save_6 : decode cX10_save 6 = .ok (.getfield 9, 3) := by decide +kernel
theorem dX10_save_9 : decode cX10_save 9 = .ok (.iconst 0, 1) := by decide +kernel
theorem dX10_save_10 : decode cX10_save 10 = .ok (.aload_n 0, 1) := by decide +kernel
theorem dX10_save_11 : decode cX10_save 11 = .ok (.getfield 19, 3) := by decide +kernel
theorem dX10_save_14 : decode cX10_save 14 = .ok (.iconst 0, 1) := by decide +kernel
theorem dX10_save_15 : decode cX10_save 15 = .ok (.invokestatic 51, 3) := by decide +kernel
theorem dX10_save_18 : decode cX10_save 18 = .ok (.aload_n 0, 1) := by decide +kernel
theorem dX10_save_19 : decode cX10_save 19 = .ok (.iconst 1, 1) := by decide +kernel
theorem dX10_save_20 : decode cX10_save 20 = .ok (.putfield 65, 3) := by decide +kernel
theorem dX10_save_23 : decode cX10_save 23 = .ok (.aload_n 0, 1) := by decide +kernel
theorem dX10_save_24 : decode cX10_save 24 = .ok (.getfield 9, 3) := by decide +kernel
theorem dX10_save_27 : decode cX10_save 27 = .ok (.bipush 11, 2) := by decide +kernel
theorem dX10_save_29 : decode cX10_save 29 = .ok (.iaload, 1) := by decide +kernel
theorem dX10_save_30 : decode cX10_save 30 = .ok (.ireturn, 1) := by decide +kernel
theorem dX10_restore_0 : decode cX10_restore 0 = .ok (.aload_n 0, 1) := by decide +kernel
theorem dX10_restore_1 : decode cX10_restore 1 = .ok (.aload_n 0, 1) := by decide +kernel
theorem dX10_restore_2 : decode cX10_restore 2 = .ok (.getfield 65, 3) := by decide +kernel
theorem dX10_restore_5 : decode cX10_restore 5 = .ok (.invokevirtual 61, 3) := by decide +kernel
theorem dX10_restore_8 : decode cX10_restore 8 = .ok (.ifCond .ne 5, 3) := by decide +kernel
theorem dX10_restore_11 : decode cX10_restore 11 = .ok (.iconst 0, 1) := by decide +kernel
theorem dX10_restore_12 : decode cX10_restore 12 = .ok (.ireturn, 1) := by decide +kernel
theorem dX10_restore_13 : decode cX10_restore 13 = .ok (.aload_n 0, 1) := by decide +kernel
theorem dX10_restore_14 : decode cX10_restore 14 = .ok (.getfield 19, 3) := by decide +kernel
theorem dX10_restore_17 : decode cX10_restore 17 = .ok (.iconst 0, 1) := by decide +kernel
theorem dX10_restore_18 : decode cX10_restore 18 = .ok (.aload_n 0, 1) := by decide +kernel
theorem dX10_restore_19 : decode cX10_restore 19 = .ok (.getfield 9, 3) := by decide +kernel
theorem dX10_restore_22 : decode cX10_restore 22 = .ok (.iconst 0, 1) := by decide +kernel
theorem dX10_restore_23 : decode cX10_restore 23 = .ok (.invokestatic 51, 3) := by decide +kernel
theorem dX10_restore_26 : decode cX10_restore 26 = .ok (.aload_n 0, 1) := by decide +kernel
theorem dX10_restore_27 : decode cX10_restore 27 = .ok (.iconst 0, 1) := by decide +kernel
theorem dX10_restore_28 : decode cX10_restore 28 = .ok (.putfield 55, 3) := by decide +kernel
theorem dX10_restore_31 : decode cX10_restore 31 = .ok (.aload_n 0, 1) := by decide +kernel
theorem dX10_restore_32 : decode cX10_restore 32 = .ok (.getfield 9, 3) := by decide +kernel
theorem dX10_restore_35 : decode cX10_restore 35 = .ok (.bipush 11, 2) := by decide +kernel
theorem dX10_restore_37 : decode cX10_restore 37 = .ok (.iaload, 1) := by decide +kernel
theorem dX10_restore_38 : decode cX10_restore 38 = .ok (.ireturn, 1) := by decide +kernel
theorem dX10_isRoom_0 : decode cX10_isRoom 0 = .ok (.iload_n 0, 1) := by decide +kernel
theorem dX10_isRoom_1 : decode cX10_isRoom 1 = .ok (.iconst 0, 1) := by decide +kernel
theorem dX10_isRoom_2 : decode cX10_isRoom 2 = .ok (.iconst 5, 1) := by decide +kernel
theorem dX10_isRoom_3 : decode cX10_isRoom 3 = .ok (.invokestatic 69, 3) := by decide +kernel
theorem dX10_isRoom_6 : decode cX10_isRoom 6 = .ok (.ireturn, 1) := by decide +kernel
theorem dX10_isBroom_0 : decode cX10_isBroom 0 = .ok (.iload_n 1, 1) := by decide +kernel
theorem dX10_isBroom_1 : decode cX10_isBroom 1 = .ok (.iconst 0, 1) := by decide +kernel
theorem dX10_isBroom_2 : decode cX10_isBroom 2 = .ok (.aload_n 0, 1) := by decide +kernel
theorem dX10_isBroom_3 : decode cX10_isBroom 3 = .ok (.getfield 9, 3) := by decide +kernel
theorem dX10_isBroom_6 : decode cX10_isBroom 6 = .ok (.bipush 8, 2) := by decide +kernel
theorem dX10_isBroom_8 : decode cX10_isBroom 8 = .ok (.iaload, 1) := by decide +kernel
theorem dX10_isBroom_9 : decode cX10_isBroom 9 = .ok (.iconst 1, 1) := by decide +kernel
theorem dX10_isBroom_10 : decode cX10_isBroom 10 = .ok (.isub, 1) := by decide +kernel
theorem dX10_isBroom_11 : decode cX10_isBroom 11 = .ok (.invokestatic 69, 3) := by decide +kernel
theorem dX10_isBroom_14 : decode cX10_isBroom 14 = .ok (.ireturn, 1) := by decide +kernel
theorem dX10_ofBroom_0 : decode cX10_ofBroom 0 = .ok (.aload_n 0, 1) := by decide +kernel
theorem dX10_ofBroom_1 : decode cX10_ofBroom 1 = .ok (.getfield 9, 3) := by decide +kernel
theorem dX10_ofBroom_4 : decode cX10_ofBroom 4 = .ok (.bipush 18, 2) := by decide +kernel
theorem dX10_ofBroom_6 : decode cX10_ofBroom 6 = .ok (.iconst 2, 1) := by decide +kernel
theorem dX10_ofBroom_7 : decode cX10_ofBroom 7 = .ok (.aload_n 0, 1) := by decide +kernel
theorem dX10_ofBroom_8 : decode cX10_ofBroom 8 = .ok (.iload_n 1, 1) := by decide +kernel
theorem dX10_ofBroom_9 : decode cX10_ofBroom 9 = .ok (.invokevirtual 73, 3) := by decide +kernel
theorem dX10_ofBroom_12 : decode cX10_ofBroom 12 = .ok (.ifCond .eq 7, 3) := by decide +kernel
theorem dX10_ofBroom_15 : decode cX10_ofBroom 15 = .ok (.iload_n 1, 1) := by decide +kernel
theorem dX10_ofBroom_16 : decode cX10_ofBroom 16 = .ok (.goto 4, 3) := by decide +kernel
theorem dX10_ofBroom_19 : decode cX10_ofBroom 19 = .ok (.iconst 0, 1) := by decide +kernel
theorem dX10_ofBroom_20 : decode cX10_ofBroom 20 = .ok (.imul, 1) := by decide +kernel
theorem dX10_ofBroom_21 : decode cX10_ofBroom 21 = .ok (.iadd, 1) := by decide +kernel
theorem dX10_ofBroom_22 : decode cX10_ofBroom 22 = .ok (.iload_n 2, 1) := by decide +kernel
theorem dX10_ofBroom_23 : decode cX10_ofBroom 23 = .ok (.iadd, 1) := by decide +kernel
theorem dX10_ofBroom_24 : decode cX10_ofBroom 24 = .ok (.iaload, 1) := by decide +kernel
theorem dX10_ofBroom_25 : decode cX10_ofBroom 25 = .ok (.ireturn, 1) := by decide +kernel
theorem dX10_isGoblin_0 : decode cX10_isGoblin 0 = .ok (.iload_n 1, 1) := by decide +kernel
theorem dX10_isGoblin_1 : decode cX10_isGoblin 1 = .ok (.iconst 0, 1) := by decide +kernel
theorem dX10_isGoblin_2 : decode cX10_isGoblin 2 = .ok (.aload_n 0, 1) := by decide +kernel
theorem dX10_isGoblin_3 : decode cX10_isGoblin 3 = .ok (.getfield 9, 3) := by decide +kernel
theorem dX10_isGoblin_6 : decode cX10_isGoblin 6 = .ok (.bipush 9, 2) := by decide +kernel
theorem dX10_isGoblin_8 : decode cX10_isGoblin 8 = .ok (.iaload, 1) := by decide +kernel
theorem dX10_isGoblin_9 : decode cX10_isGoblin 9 = .ok (.iconst 1, 1) := by decide +kernel
theorem dX10_isGoblin_10 : decode cX10_isGoblin 10 = .ok (.isub, 1) := by decide +kernel
theorem dX10_isGoblin_11 : decode cX10_isGoblin 11 = .ok (.invokestatic 69, 3) := by decide +kernel
theorem dX10_isGoblin_14 : decode cX10_isGoblin 14 = .ok (.ireturn, 1) := by decide +kernel
theorem dX10_place_0 : decode cX10_place 0 = .ok (.bipush 26, 2) := by decide +kernel
theorem dX10_place_2 : decode cX10_place 2 = .ok (.iconst 5, 1) := by decide +kernel
theorem dX10_place_3 : decode cX10_place 3 = .ok (.aload_n 0, 1) := by decide +kernel
theorem dX10_place_4 : decode cX10_place 4 = .ok (.iload_n 1, 1) := by decide +kernel
theorem dX10_place_5 : decode cX10_place 5 = .ok (.invokevirtual 77, 3) := by decide +kernel
theorem dX10_place_8 : decode cX10_place 8 = .ok (.ifCond .eq 7, 3) := by decide +kernel
theorem dX10_place_11 : decode cX10_place 11 = .ok (.iload_n 1, 1) := by decide +kernel
theorem dX10_place_12 : decode cX10_place 12 = .ok (.goto 4, 3) := by decide +kernel
theorem dX10_place_15 : decode cX10_place 15 = .ok (.iconst 0, 1) := by decide +kernel
theorem dX10_place_16 : decode cX10_place 16 = .ok (.imul, 1) := by decide +kernel
theorem dX10_place_17 : decode cX10_place 17 = .ok (.iadd, 1) := by decide +kernel
theorem dX10_place_18 : decode cX10_place 18 = .ok (.iload_n 2, 1) := by decide +kernel
theorem dX10_place_19 : decode cX10_place 19 = .ok (.iadd, 1) := by decide +kernel
theorem dX10_place_20 : decode cX10_place 20 = .ok (.ireturn, 1) := by decide +kernel
theorem dX10_of_0 : decode cX10_of 0 = .ok (.aload_n 0, 1) := by decide +kernel
theorem dX10_of_1 : decode cX10_of 1 = .ok (.getfield 9, 3) := by decide +kernel
theorem dX10_of_4 : decode cX10_of 4 = .ok (.aload_n 0, 1) := by decide +kernel
theorem dX10_of_5 : decode cX10_of 5 = .ok (.iload_n 1, 1) := by decide +kernel
theorem dX10_of_6 : decode cX10_of 6 = .ok (.iload_n 2, 1) := by decide +kernel
theorem dX10_of_7 : decode cX10_of 7 = .ok (.invokevirtual 80, 3) := by decide +kernel
theorem dX10_of_10 : decode cX10_of 10 = .ok (.iaload, 1) := by decide +kernel
theorem dX10_of_11 : decode cX10_of 11 = .ok (.ireturn, 1) := by decide +kernel
theorem dX10_find_0 : decode cX10_find 0 = .ok (.iconst (-1), 1) := by decide +kernel
theorem dX10_find_1 : decode cX10_find 1 = .ok (.istore_n 2, 1) := by decide +kernel
theorem dX10_find_2 : decode cX10_find 2 = .ok (.iconst 0, 1) := by decide +kernel
theorem dX10_find_3 : decode cX10_find 3 = .ok (.istore_n 3, 1) := by decide +kernel
theorem dX10_find_4 : decode cX10_find 4 = .ok (.iload_n 3, 1) := by decide +kernel
theorem dX10_find_5 : decode cX10_find 5 = .ok (.aload_n 0, 1) := by decide +kernel
theorem dX10_find_6 : decode cX10_find 6 = .ok (.getfield 9, 3) := by decide +kernel
theorem dX10_find_9 : decode cX10_find 9 = .ok (.bipush 11, 2) := by decide +kernel
theorem dX10_find_11 : decode cX10_find 11 = .ok (.iaload, 1) := by decide +kernel
theorem dX10_find_12 : decode cX10_find 12 = .ok (.if_icmp .ge 25, 3) := by decide +kernel
theorem dX10_find_15 : decode cX10_find 15 = .ok (.aload_n 0, 1) := by decide +kernel
theorem dX10_find_16 : decode cX10_find 16 = .ok (.iload_n 3, 1) := by decide +kernel
theorem dX10_find_17 : decode cX10_find 17 = .ok (.iconst 0, 1) := by decide +kernel
theorem dX10_find_18 : decode cX10_find 18 = .ok (.invokevirtual 84, 3) := by decide +kernel
theorem dX10_find_21 : decode cX10_find 21 = .ok (.iload_n 1, 1) := by decide +kernel
theorem dX10_find_22 : decode cX10_find 22 = .ok (.if_icmp .ne 7, 3) := by decide +kernel
theorem dX10_find_25 : decode cX10_find 25 = .ok (.iload_n 3, 1) := by decide +kernel
theorem dX10_find_26 : decode cX10_find 26 = .ok (.goto 4, 3) := by decide +kernel
theorem dX10_find_29 : decode cX10_find 29 = .ok (.iload_n 2, 1) := by decide +kernel
theorem dX10_find_30 : decode cX10_find 30 = .ok (.istore_n 2, 1) := by decide +kernel
theorem dX10_find_31 : decode cX10_find 31 = .ok (.iinc 3 1, 3) := by decide +kernel
theorem dX10_find_34 : decode cX10_find 34 = .ok (.goto (-30), 3) := by decide +kernel
theorem dX10_find_37 : decode cX10_find 37 = .ok (.iload_n 2, 1) := by decide +kernel
theorem dX10_find_38 : decode cX10_find 38 = .ok (.ireturn, 1) := by decide +kernel
theorem dX10_ofContract_0 : decode cX10_ofContract 0 = .ok (.aload_n 0, 1) := by decide +kernel
theorem dX10_ofContract_1 : decode cX10_ofContract 1 = .ok (.getfield 9, 3) := by decide +kernel
theorem dX10_ofContract_4 : decode cX10_ofContract 4 = .ok (.bipush 51, 2) := by decide +kernel
theorem dX10_ofContract_6 : decode cX10_ofContract 6 = .ok (.iconst 5, 1) := by decide +kernel
theorem dX10_ofContract_7 : decode cX10_ofContract 7 = .ok (.iload_n 1, 1) := by decide +kernel
theorem dX10_ofContract_8 : decode cX10_ofContract 8 = .ok (.imul, 1) := by decide +kernel
theorem dX10_ofContract_9 : decode cX10_ofContract 9 = .ok (.iadd, 1) := by decide +kernel
theorem dX10_ofContract_10 : decode cX10_ofContract 10 = .ok (.iload_n 2, 1) := by decide +kernel
theorem dX10_ofContract_11 : decode cX10_ofContract 11 = .ok (.iadd, 1) := by decide +kernel
theorem dX10_ofContract_12 : decode cX10_ofContract 12 = .ok (.iaload, 1) := by decide +kernel
theorem dX10_ofContract_13 : decode cX10_ofContract 13 = .ok (.ireturn, 1) := by decide +kernel
theorem dX10_drops_0 : decode cX10_drops 0 = .ok (.bipush 51, 2) := by decide +kernel
theorem dX10_drops_2 : decode cX10_drops 2 = .ok (.iconst 5, 1) := by decide +kernel
theorem dX10_drops_3 : decode cX10_drops 3 = .ok (.iload_n 1, 1) := by decide +kernel
theorem dX10_drops_4 : decode cX10_drops 4 = .ok (.imul, 1) := by decide +kernel
theorem dX10_drops_5 : decode cX10_drops 5 = .ok (.iadd, 1) := by decide +kernel
theorem dX10_drops_6 : decode cX10_drops 6 = .ok (.istore_n 2, 1) := by decide +kernel
theorem dX10_drops_7 : decode cX10_drops 7 = .ok (.iload_n 2, 1) := by decide +kernel
theorem dX10_drops_8 : decode cX10_drops 8 = .ok (.bipush 86, 2) := by decide +kernel
theorem dX10_drops_10 : decode cX10_drops 10 = .ok (.if_icmp .ge 23, 3) := by decide +kernel
theorem dX10_drops_13 : decode cX10_drops 13 = .ok (.aload_n 0, 1) := by decide +kernel
theorem dX10_drops_14 : decode cX10_drops 14 = .ok (.getfield 9, 3) := by decide +kernel
theorem dX10_drops_17 : decode cX10_drops 17 = .ok (.iload_n 2, 1) := by decide +kernel
theorem dX10_drops_18 : decode cX10_drops 18 = .ok (.aload_n 0, 1) := by decide +kernel
theorem dX10_drops_19 : decode cX10_drops 19 = .ok (.getfield 9, 3) := by decide +kernel
theorem dX10_drops_22 : decode cX10_drops 22 = .ok (.iload_n 2, 1) := by decide +kernel
theorem dX10_drops_23 : decode cX10_drops 23 = .ok (.iconst 5, 1) := by decide +kernel
theorem dX10_drops_24 : decode cX10_drops 24 = .ok (.iadd, 1) := by decide +kernel
theorem dX10_drops_25 : decode cX10_drops 25 = .ok (.iaload, 1) := by decide +kernel
theorem dX10_drops_26 : decode cX10_drops 26 = .ok (.iastore, 1) := by decide +kernel
theorem dX10_drops_27 : decode cX10_drops 27 = .ok (.iinc 2 1, 3) := by decide +kernel
theorem dX10_drops_30 : decode cX10_drops 30 = .ok (.goto (-23), 3) := by decide +kernel
theorem dX10_drops_33 : decode cX10_drops 33 = .ok (.aload_n 0, 1) := by decide +kernel
theorem dX10_drops_34 : decode cX10_drops 34 = .ok (.getfield 9, 3) := by decide +kernel
theorem dX10_drops_37 : decode cX10_drops 37 = .ok (.bipush 11, 2) := by decide +kernel
theorem dX10_drops_39 : decode cX10_drops 39 = .ok (.dup2, 1) := by decide +kernel
theorem dX10_drops_40 : decode cX10_drops 40 = .ok (.iaload, 1) := by decide +kernel
theorem dX10_drops_41 : decode cX10_drops 41 = .ok (.iconst 1, 1) := by decide +kernel
theorem dX10_drops_42 : decode cX10_drops 42 = .ok (.isub, 1) := by decide +kernel
theorem dX10_drops_43 : decode cX10_drops 43 = .ok (.iastore, 1) := by decide +kernel
theorem dX10_drops_44 : decode cX10_drops 44 = .ok (.return_, 1) := by decide +kernel
theorem dX10_inUse_0 : decode cX10_inUse 0 = .ok (.iconst 0, 1) := by decide +kernel
theorem dX10_inUse_1 : decode cX10_inUse 1 = .ok (.istore_n 1, 1) := by decide +kernel
theorem dX10_inUse_2 : decode cX10_inUse 2 = .ok (.iconst 0, 1) := by decide +kernel
theorem dX10_inUse_3 : decode cX10_inUse 3 = .ok (.istore_n 2, 1) := by decide +kernel
theorem dX10_inUse_4 : decode cX10_inUse 4 = .ok (.iload_n 2, 1) := by decide +kernel
theorem dX10_inUse_5 : decode cX10_inUse 5 = .ok (.aload_n 0, 1) := by decide +kernel
theorem dX10_inUse_6 : decode cX10_inUse 6 = .ok (.getfield 9, 3) := by decide +kernel
theorem dX10_inUse_9 : decode cX10_inUse 9 = .ok (.bipush 8, 2) := by decide +kernel
theorem dX10_inUse_11 : decode cX10_inUse 11 = .ok (.iaload, 1) := by decide +kernel
theorem dX10_inUse_12 : decode cX10_inUse 12 = .ok (.if_icmp .ge 20, 3) := by decide +kernel
theorem dX10_inUse_15 : decode cX10_inUse 15 = .ok (.iload_n 1, 1) := by decide +kernel
theorem dX10_inUse_16 : decode cX10_inUse 16 = .ok (.iconst 1, 1) := by decide +kernel
theorem dX10_inUse_17 : decode cX10_inUse 17 = .ok (.aload_n 0, 1) := by decide +kernel
theorem dX10_inUse_18 : decode cX10_inUse 18 = .ok (.iload_n 2, 1) := by decide +kernel
theorem dX10_inUse_19 : decode cX10_inUse 19 = .ok (.iconst 1, 1) := by decide +kernel
theorem dX10_inUse_20 : decode cX10_inUse 20 = .ok (.invokevirtual 87, 3) := by decide +kernel
theorem dX10_inUse_23 : decode cX10_inUse 23 = .ok (.isub, 1) := by decide +kernel
theorem dX10_inUse_24 : decode cX10_inUse 24 = .ok (.iadd, 1) := by decide +kernel
theorem dX10_inUse_25 : decode cX10_inUse 25 = .ok (.istore_n 1, 1) := by decide +kernel
theorem dX10_inUse_26 : decode cX10_inUse 26 = .ok (.iinc 2 1, 3) := by decide +kernel
theorem dX10_inUse_29 : decode cX10_inUse 29 = .ok (.goto (-25), 3) := by decide +kernel
theorem dX10_inUse_32 : decode cX10_inUse 32 = .ok (.iload_n 1, 1) := by decide +kernel
theorem dX10_inUse_33 : decode cX10_inUse 33 = .ok (.ireturn, 1) := by decide +kernel
theorem dX10_greatestPower_0 : decode cX10_greatestPower 0 = .ok (.iconst 0, 1) := by decide +kernel
theorem dX10_greatestPower_1 : decode cX10_greatestPower 1 = .ok (.istore_n 1, 1) := by decide +kernel
theorem dX10_greatestPower_2 : decode cX10_greatestPower 2 = .ok (.iconst 0, 1) := by decide +kernel
theorem dX10_greatestPower_3 : decode cX10_greatestPower 3 = .ok (.istore_n 2, 1) := by decide +kernel
theorem dX10_greatestPower_4 : decode cX10_greatestPower 4 = .ok (.iload_n 2, 1) := by decide +kernel
theorem dX10_greatestPower_5 : decode cX10_greatestPower 5 = .ok (.aload_n 0, 1) := by decide +kernel
theorem dX10_greatestPower_6 : decode cX10_greatestPower 6 = .ok (.getfield 9, 3) := by decide +kernel
theorem dX10_greatestPower_9 : decode cX10_greatestPower 9 = .ok (.bipush 8, 2) := by decide +kernel
theorem dX10_greatestPower_11 : decode cX10_greatestPower 11 = .ok (.iaload, 1) := by decide +kernel
theorem dX10_greatestPower_12 : decode cX10_greatestPower 12 = .ok (.if_icmp .ge 34, 3) := by decide +kernel
theorem dX10_greatestPower_15 : decode cX10_greatestPower 15 = .ok (.aload_n 0, 1) := by decide +kernel
theorem dX10_greatestPower_16 : decode cX10_greatestPower 16 = .ok (.iload_n 2, 1) := by decide +kernel
theorem dX10_greatestPower_17 : decode cX10_greatestPower 17 = .ok (.iconst 1, 1) := by decide +kernel
theorem dX10_greatestPower_18 : decode cX10_greatestPower 18 = .ok (.invokevirtual 87, 3) := by decide +kernel
theorem dX10_greatestPower_21 : decode cX10_greatestPower 21 = .ok (.iconst 1, 1) := by decide +kernel
theorem dX10_greatestPower_22 : decode cX10_greatestPower 22 = .ok (.if_icmp .ne 7, 3) := by decide +kernel
theorem dX10_greatestPower_25 : decode cX10_greatestPower 25 = .ok (.iload_n 1, 1) := by decide +kernel
theorem dX10_greatestPower_26 : decode cX10_greatestPower 26 = .ok (.goto 13, 3) := by decide +kernel
theorem dX10_greatestPower_29 : decode cX10_greatestPower 29 = .ok (.iload_n 1, 1) := by decide +kernel
theorem dX10_greatestPower_30 : decode cX10_greatestPower 30 = .ok (.aload_n 0, 1) := by decide +kernel
theorem dX10_greatestPower_31 : decode cX10_greatestPower 31 = .ok (.iload_n 2, 1) := by decide +kernel
theorem dX10_greatestPower_32 : decode cX10_greatestPower 32 = .ok (.iconst 0, 1) := by decide +kernel
theorem dX10_greatestPower_33 : decode cX10_greatestPower 33 = .ok (.invokevirtual 87, 3) := by decide +kernel
theorem dX10_greatestPower_36 : decode cX10_greatestPower 36 = .ok (.invokestatic 90, 3) := by decide +kernel
theorem dX10_greatestPower_39 : decode cX10_greatestPower 39 = .ok (.istore_n 1, 1) := by decide +kernel
theorem dX10_greatestPower_40 : decode cX10_greatestPower 40 = .ok (.iinc 2 1, 3) := by decide +kernel
theorem dX10_greatestPower_43 : decode cX10_greatestPower 43 = .ok (.goto (-39), 3) := by decide +kernel
theorem dX10_greatestPower_46 : decode cX10_greatestPower 46 = .ok (.iload_n 1, 1) := by decide +kernel
theorem dX10_greatestPower_47 : decode cX10_greatestPower 47 = .ok (.ireturn, 1) := by decide +kernel
theorem dX10_energyOf_0 : decode cX10_energyOf 0 = .ok (.aload_n 0, 1) := by decide +kernel
theorem dX10_energyOf_1 : decode cX10_energyOf 1 = .ok (.iload_n 1, 1) := by decide +kernel
theorem dX10_energyOf_2 : decode cX10_energyOf 2 = .ok (.iconst 0, 1) := by decide +kernel
theorem dX10_energyOf_3 : decode cX10_energyOf 3 = .ok (.invokevirtual 95, 3) := by decide +kernel
theorem dX10_energyOf_6 : decode cX10_energyOf 6 = .ok (.aload_n 0, 1) := by decide +kernel
theorem dX10_energyOf_7 : decode cX10_energyOf 7 = .ok (.invokevirtual 98, 3) := by decide +kernel
theorem dX10_energyOf_10 : decode cX10_energyOf 10 = .ok (.iconst 1, 1) := by decide +kernel
theorem dX10_energyOf_11 : decode cX10_energyOf 11 = .ok (.iadd, 1) := by decide +kernel
theorem dX10_energyOf_12 : decode cX10_energyOf 12 = .ok (.imul, 1) := by decide +kernel
theorem dX10_energyOf_13 : decode cX10_energyOf 13 = .ok (.ireturn, 1) := by decide +kernel
theorem dX10_addsGoblin_0 : decode cX10_addsGoblin 0 = .ok (.aload_n 0, 1) := by decide +kernel
theorem dX10_addsGoblin_1 : decode cX10_addsGoblin 1 = .ok (.iload_n 1, 1) := by decide +kernel
theorem dX10_addsGoblin_2 : decode cX10_addsGoblin 2 = .ok (.iconst 1, 1) := by decide +kernel
theorem dX10_addsGoblin_3 : decode cX10_addsGoblin 3 = .ok (.bipush 9, 2) := by decide +kernel
theorem dX10_addsGoblin_5 : decode cX10_addsGoblin 5 = .ok (.invokestatic 69, 3) := by decide +kernel
theorem dX10_addsGoblin_8 : decode cX10_addsGoblin 8 = .ok (.aload_n 0, 1) := by decide +kernel
theorem dX10_addsGoblin_9 : decode cX10_addsGoblin 9 = .ok (.getfield 9, 3) := by decide +kernel
theorem dX10_addsGoblin_12 : decode cX10_addsGoblin 12 = .ok (.bipush 9, 2) := by decide +kernel
theorem dX10_addsGoblin_14 : decode cX10_addsGoblin 14 = .ok (.iaload, 1) := by decide +kernel
theorem dX10_addsGoblin_15 : decode cX10_addsGoblin 15 = .ok (.iconst 5, 1) := by decide +kernel
theorem dX10_addsGoblin_16 : decode cX10_addsGoblin 16 = .ok (.if_icmp .ge 7, 3) := by decide +kernel
theorem dX10_addsGoblin_19 : decode cX10_addsGoblin 19 = .ok (.iconst 1, 1) := by decide +kernel
theorem dX10_addsGoblin_20 : decode cX10_addsGoblin 20 = .ok (.goto 4, 3) := by decide +kernel
theorem dX10_addsGoblin_23 : decode cX10_addsGoblin 23 = .ok (.iconst 0, 1) := by decide +kernel
theorem dX10_addsGoblin_24 : decode cX10_addsGoblin 24 = .ok (.iconst 1, 1) := by decide +kernel
theorem dX10_addsGoblin_25 : decode cX10_addsGoblin 25 = .ok (.iconst 1, 1) := by decide +kernel
theorem dX10_addsGoblin_26 : decode cX10_addsGoblin 26 = .ok (.invokevirtual 47, 3) := by decide +kernel
theorem dX10_addsGoblin_29 : decode cX10_addsGoblin 29 = .ok (.ifCond .ne 5, 3) := by decide +kernel
theorem dX10_addsGoblin_32 : decode cX10_addsGoblin 32 = .ok (.iconst 0, 1) := by decide +kernel
theorem dX10_addsGoblin_33 : decode cX10_addsGoblin 33 = .ok (.ireturn, 1) := by decide +kernel
theorem dX10_addsGoblin_34 : decode cX10_addsGoblin 34 = .ok (.bipush 26, 2) := by decide +kernel
theorem dX10_addsGoblin_36 : decode cX10_addsGoblin 36 = .ok (.iconst 5, 1) := by decide +kernel
theorem dX10_addsGoblin_37 : decode cX10_addsGoblin 37 = .ok (.aload_n 0, 1) := by decide +kernel
theorem dX10_addsGoblin_38 : decode cX10_addsGoblin 38 = .ok (.getfield 9, 3) := by decide +kernel
theorem dX10_addsGoblin_41 : decode cX10_addsGoblin 41 = .ok (.bipush 9, 2) := by decide +kernel
theorem dX10_addsGoblin_43 : decode cX10_addsGoblin 43 = .ok (.iaload, 1) := by decide +kernel
theorem dX10_addsGoblin_44 : decode cX10_addsGoblin 44 = .ok (.imul, 1) := by decide +kernel
theorem dX10_addsGoblin_45 : decode cX10_addsGoblin 45 = .ok (.iadd, 1) := by decide +kernel
theorem dX10_addsGoblin_46 : decode cX10_addsGoblin 46 = .ok (.istore_n 2, 1) := by decide +kernel
theorem dX10_addsGoblin_47 : decode cX10_addsGoblin 47 = .ok (.iconst 0, 1) := by decide +kernel
theorem dX10_addsGoblin_48 : decode cX10_addsGoblin 48 = .ok (.istore_n 3, 1) := by decide +kernel
theorem dX10_addsGoblin_49 : decode cX10_addsGoblin 49 = .ok (.iload_n 3, 1) := by decide +kernel
theorem dX10_addsGoblin_50 : decode cX10_addsGoblin 50 = .ok (.iconst 5, 1) := by decide +kernel
theorem dX10_addsGoblin_51 : decode cX10_addsGoblin 51 = .ok (.if_icmp .ge 26, 3) := by decide +kernel
theorem dX10_addsGoblin_54 : decode cX10_addsGoblin 54 = .ok (.aload_n 0, 1) := by decide +kernel
theorem dX10_addsGoblin_55 : decode cX10_addsGoblin 55 = .ok (.getfield 9, 3) := by decide +kernel
theorem dX10_addsGoblin_58 : decode cX10_addsGoblin 58 = .ok (.iload_n 2, 1) := by decide +kernel
theorem dX10_addsGoblin_59 : decode cX10_addsGoblin 59 = .ok (.iload_n 3, 1) := by decide +kernel
theorem dX10_addsGoblin_60 : decode cX10_addsGoblin 60 = .ok (.iadd, 1) := by decide +kernel
theorem dX10_addsGoblin_61 : decode cX10_addsGoblin 61 = .ok (.iload_n 3, 1) := by decide +kernel
theorem dX10_addsGoblin_62 : decode cX10_addsGoblin 62 = .ok (.ifCond .ne 7, 3) := by decide +kernel
theorem dX10_addsGoblin_65 : decode cX10_addsGoblin 65 = .ok (.iload_n 1, 1) := by decide +kernel
theorem dX10_addsGoblin_66 : decode cX10_addsGoblin 66 = .ok (.goto 4, 3) := by decide +kernel
theorem dX10_addsGoblin_69 : decode cX10_addsGoblin 69 = .ok (.iconst 0, 1) := by decide +kernel
theorem dX10_addsGoblin_70 : decode cX10_addsGoblin 70 = .ok (.iastore, 1) := by decide +kernel
theorem dX10_addsGoblin_71 : decode cX10_addsGoblin 71 = .ok (.iinc 3 1, 3) := by decide +kernel
theorem dX10_addsGoblin_74 : decode cX10_addsGoblin 74 = .ok (.goto (-25), 3) := by decide +kernel
theorem dX10_addsGoblin_77 : decode cX10_addsGoblin 77 = .ok (.aload_n 0, 1) := by decide +kernel
theorem dX10_addsGoblin_78 : decode cX10_addsGoblin 78 = .ok (.getfield 9, 3) := by decide +kernel
theorem dX10_addsGoblin_81 : decode cX10_addsGoblin 81 = .ok (.bipush 9, 2) := by decide +kernel
theorem dX10_addsGoblin_83 : decode cX10_addsGoblin 83 = .ok (.dup2, 1) := by decide +kernel
theorem dX10_addsGoblin_84 : decode cX10_addsGoblin 84 = .ok (.iaload, 1) := by decide +kernel
theorem dX10_addsGoblin_85 : decode cX10_addsGoblin 85 = .ok (.iconst 1, 1) := by decide +kernel
theorem dX10_addsGoblin_86 : decode cX10_addsGoblin 86 = .ok (.iadd, 1) := by decide +kernel
theorem dX10_addsGoblin_87 : decode cX10_addsGoblin 87 = .ok (.iastore, 1) := by decide +kernel
theorem dX10_addsGoblin_88 : decode cX10_addsGoblin 88 = .ok (.aload_n 0, 1) := by decide +kernel
theorem dX10_addsGoblin_89 : decode cX10_addsGoblin 89 = .ok (.getfield 9, 3) := by decide +kernel
theorem dX10_addsGoblin_92 : decode cX10_addsGoblin 92 = .ok (.bipush 9, 2) := by decide +kernel
theorem dX10_addsGoblin_94 : decode cX10_addsGoblin 94 = .ok (.iaload, 1) := by decide +kernel
theorem dX10_addsGoblin_95 : decode cX10_addsGoblin 95 = .ok (.iconst 1, 1) := by decide +kernel
theorem dX10_addsGoblin_96 : decode cX10_addsGoblin 96 = .ok (.isub, 1) := by decide +kernel
theorem dX10_addsGoblin_97 : decode cX10_addsGoblin 97 = .ok (.ireturn, 1) := by decide +kernel
theorem dX10_addGoblin_0 : decode cX10_addGoblin 0 = .ok (.aload_n 0, 1) := by decide +kernel
theorem dX10_addGoblin_1 : decode cX10_addGoblin 1 = .ok (.invokevirtual 102, 3) := by decide +kernel
theorem dX10_addGoblin_4 : decode cX10_addGoblin 4 = .ok (.aload_n 0, 1) := by decide +kernel
theorem dX10_addGoblin_5 : decode cX10_addGoblin 5 = .ok (.aload_n 0, 1) := by decide +kernel
theorem dX10_addGoblin_6 : decode cX10_addGoblin 6 = .ok (.iload_n 1, 1) := by decide +kernel
theorem dX10_addGoblin_7 : decode cX10_addGoblin 7 = .ok (.invokevirtual 105, 3) := by decide +kernel
theorem dX10_addGoblin_10 : decode cX10_addGoblin 10 = .ok (.invokevirtual 109, 3) := by decide +kernel
theorem dX10_addGoblin_13 : decode cX10_addGoblin 13 = .ok (.ireturn, 1) := by decide +kernel
theorem dX10_addsBroom_0 : decode cX10_addsBroom 0 = .ok (.aload_n 0, 1) := by decide +kernel
theorem dX10_addsBroom_1 : decode cX10_addsBroom 1 = .ok (.iload_n 1, 1) := by decide +kernel
theorem dX10_addsBroom_2 : decode cX10_addsBroom 2 = .ok (.iconst 1, 1) := by decide +kernel
theorem dX10_addsBroom_3 : decode cX10_addsBroom 3 = .ok (.bipush 20, 2) := by decide +kernel
theorem dX10_addsBroom_5 : decode cX10_addsBroom 5 = .ok (.invokestatic 69, 3) := by decide +kernel
theorem dX10_addsBroom_8 : decode cX10_addsBroom 8 = .ok (.aload_n 0, 1) := by decide +kernel
theorem dX10_addsBroom_9 : decode cX10_addsBroom 9 = .ok (.getfield 9, 3) := by decide +kernel
theorem dX10_addsBroom_12 : decode cX10_addsBroom 12 = .ok (.bipush 8, 2) := by decide +kernel
theorem dX10_addsBroom_14 : decode cX10_addsBroom 14 = .ok (.iaload, 1) := by decide +kernel
theorem dX10_addsBroom_15 : decode cX10_addsBroom 15 = .ok (.iconst 4, 1) := by decide +kernel
theorem dX10_addsBroom_16 : decode cX10_addsBroom 16 = .ok (.if_icmp .ge 7, 3) := by decide +kernel
theorem dX10_addsBroom_19 : decode cX10_addsBroom 19 = .ok (.iconst 1, 1) := by decide +kernel
theorem dX10_addsBroom_20 : decode cX10_addsBroom 20 = .ok (.goto 4, 3) := by decide +kernel
theorem dX10_addsBroom_23 : decode cX10_addsBroom 23 = .ok (.iconst 0, 1) := by decide +kernel
theorem dX10_addsBroom_24 : decode cX10_addsBroom 24 = .ok (.iconst 1, 1) := by decide +kernel
theorem dX10_addsBroom_25 : decode cX10_addsBroom 25 = .ok (.iconst 1, 1) := by decide +kernel
theorem dX10_addsBroom_26 : decode cX10_addsBroom 26 = .ok (.invokevirtual 47, 3) := by decide +kernel
theorem dX10_addsBroom_29 : decode cX10_addsBroom 29 = .ok (.ifCond .ne 5, 3) := by decide +kernel
theorem dX10_addsBroom_32 : decode cX10_addsBroom 32 = .ok (.iconst 0, 1) := by decide +kernel
theorem dX10_addsBroom_33 : decode cX10_addsBroom 33 = .ok (.ireturn, 1) := by decide +kernel
theorem dX10_addsBroom_34 : decode cX10_addsBroom 34 = .ok (.aload_n 0, 1) := by decide +kernel
theorem dX10_addsBroom_35 : decode cX10_addsBroom 35 = .ok (.getfield 9, 3) := by decide +kernel
theorem dX10_addsBroom_38 : decode cX10_addsBroom 38 = .ok (.bipush 18, 2) := by decide +kernel
theorem dX10_addsBroom_40 : decode cX10_addsBroom 40 = .ok (.iconst 2, 1) := by decide +kernel
theorem dX10_addsBroom_41 : decode cX10_addsBroom 41 = .ok (.aload_n 0, 1) := by decide +kernel
theorem dX10_addsBroom_42 : decode cX10_addsBroom 42 = .ok (.getfield 9, 3) := by decide +kernel
theorem dX10_addsBroom_45 : decode cX10_addsBroom 45 = .ok (.bipush 8, 2) := by decide +kernel
theorem dX10_addsBroom_47 : decode cX10_addsBroom 47 = .ok (.iaload, 1) := by decide +kernel
theorem dX10_addsBroom_48 : decode cX10_addsBroom 48 = .ok (.imul, 1) := by decide +kernel
theorem dX10_addsBroom_49 : decode cX10_addsBroom 49 = .ok (.iadd, 1) := by decide +kernel
theorem dX10_addsBroom_50 : decode cX10_addsBroom 50 = .ok (.iconst 0, 1) := by decide +kernel
theorem dX10_addsBroom_51 : decode cX10_addsBroom 51 = .ok (.iadd, 1) := by decide +kernel
theorem dX10_addsBroom_52 : decode cX10_addsBroom 52 = .ok (.iload_n 1, 1) := by decide +kernel
theorem dX10_addsBroom_53 : decode cX10_addsBroom 53 = .ok (.iastore, 1) := by decide +kernel
theorem dX10_addsBroom_54 : decode cX10_addsBroom 54 = .ok (.aload_n 0, 1) := by decide +kernel
theorem dX10_addsBroom_55 : decode cX10_addsBroom 55 = .ok (.getfield 9, 3) := by decide +kernel
theorem dX10_addsBroom_58 : decode cX10_addsBroom 58 = .ok (.bipush 18, 2) := by decide +kernel
theorem dX10_addsBroom_60 : decode cX10_addsBroom 60 = .ok (.iconst 2, 1) := by decide +kernel
theorem dX10_addsBroom_61 : decode cX10_addsBroom 61 = .ok (.aload_n 0, 1) := by decide +kernel
theorem dX10_addsBroom_62 : decode cX10_addsBroom 62 = .ok (.getfield 9, 3) := by decide +kernel
theorem dX10_addsBroom_65 : decode cX10_addsBroom 65 = .ok (.bipush 8, 2) := by decide +kernel
theorem dX10_addsBroom_67 : decode cX10_addsBroom 67 = .ok (.iaload, 1) := by decide +kernel
theorem dX10_addsBroom_68 : decode cX10_addsBroom 68 = .ok (.imul, 1) := by decide +kernel
theorem dX10_addsBroom_69 : decode cX10_addsBroom 69 = .ok (.iadd, 1) := by decide +kernel
theorem dX10_addsBroom_70 : decode cX10_addsBroom 70 = .ok (.iconst 1, 1) := by decide +kernel
theorem dX10_addsBroom_71 : decode cX10_addsBroom 71 = .ok (.iadd, 1) := by decide +kernel
theorem dX10_addsBroom_72 : decode cX10_addsBroom 72 = .ok (.iconst 0, 1) := by decide +kernel
theorem dX10_addsBroom_73 : decode cX10_addsBroom 73 = .ok (.iastore, 1) := by decide +kernel
theorem dX10_addsBroom_74 : decode cX10_addsBroom 74 = .ok (.aload_n 0, 1) := by decide +kernel
theorem dX10_addsBroom_75 : decode cX10_addsBroom 75 = .ok (.getfield 9, 3) := by decide +kernel
theorem dX10_addsBroom_78 : decode cX10_addsBroom 78 = .ok (.bipush 8, 2) := by decide +kernel
theorem dX10_addsBroom_80 : decode cX10_addsBroom 80 = .ok (.dup2, 1) := by decide +kernel
theorem dX10_addsBroom_81 : decode cX10_addsBroom 81 = .ok (.iaload, 1) := by decide +kernel
theorem dX10_addsBroom_82 : decode cX10_addsBroom 82 = .ok (.iconst 1, 1) := by decide +kernel
theorem dX10_addsBroom_83 : decode cX10_addsBroom 83 = .ok (.iadd, 1) := by decide +kernel
theorem dX10_addsBroom_84 : decode cX10_addsBroom 84 = .ok (.iastore, 1) := by decide +kernel
theorem dX10_addsBroom_85 : decode cX10_addsBroom 85 = .ok (.aload_n 0, 1) := by decide +kernel
theorem dX10_addsBroom_86 : decode cX10_addsBroom 86 = .ok (.getfield 9, 3) := by decide +kernel
theorem dX10_addsBroom_89 : decode cX10_addsBroom 89 = .ok (.bipush 8, 2) := by decide +kernel
theorem dX10_addsBroom_91 : decode cX10_addsBroom 91 = .ok (.iaload, 1) := by decide +kernel
theorem dX10_addsBroom_92 : decode cX10_addsBroom 92 = .ok (.iconst 1, 1) := by decide +kernel
theorem dX10_addsBroom_93 : decode cX10_addsBroom 93 = .ok (.isub, 1) := by decide +kernel
theorem dX10_addsBroom_94 : decode cX10_addsBroom 94 = .ok (.ireturn, 1) := by decide +kernel
theorem dX10_addBroom_0 : decode cX10_addBroom 0 = .ok (.aload_n 0, 1) := by decide +kernel
theorem dX10_addBroom_1 : decode cX10_addBroom 1 = .ok (.invokevirtual 102, 3) := by decide +kernel
theorem dX10_addBroom_4 : decode cX10_addBroom 4 = .ok (.aload_n 0, 1) := by decide +kernel
theorem dX10_addBroom_5 : decode cX10_addBroom 5 = .ok (.aload_n 0, 1) := by decide +kernel
theorem dX10_addBroom_6 : decode cX10_addBroom 6 = .ok (.iload_n 1, 1) := by decide +kernel
theorem dX10_addBroom_7 : decode cX10_addBroom 7 = .ok (.invokevirtual 112, 3) := by decide +kernel
theorem dX10_addBroom_10 : decode cX10_addBroom 10 = .ok (.invokevirtual 109, 3) := by decide +kernel
theorem dX10_addBroom_13 : decode cX10_addBroom 13 = .ok (.ireturn, 1) := by decide +kernel
theorem dX10_banishes_0 : decode cX10_banishes 0 = .ok (.aload_n 0, 1) := by decide +kernel
theorem dX10_banishes_1 : decode cX10_banishes 1 = .ok (.aload_n 0, 1) := by decide +kernel
theorem dX10_banishes_2 : decode cX10_banishes 2 = .ok (.iload_n 1, 1) := by decide +kernel
theorem dX10_banishes_3 : decode cX10_banishes 3 = .ok (.invokevirtual 73, 3) := by decide +kernel
theorem dX10_banishes_6 : decode cX10_banishes 6 = .ok (.aload_n 0, 1) := by decide +kernel
theorem dX10_banishes_7 : decode cX10_banishes 7 = .ok (.iload_n 1, 1) := by decide +kernel
theorem dX10_banishes_8 : decode cX10_banishes 8 = .ok (.iconst 1, 1) := by decide +kernel
theorem dX10_banishes_9 : decode cX10_banishes 9 = .ok (.invokevirtual 87, 3) := by decide +kernel
theorem dX10_banishes_12 : decode cX10_banishes 12 = .ok (.iload_n 2, 1) := by decide +kernel
theorem dX10_banishes_13 : decode cX10_banishes 13 = .ok (.if_icmp .eq 7, 3) := by decide +kernel
theorem dX10_banishes_16 : decode cX10_banishes 16 = .ok (.iconst 1, 1) := by decide +kernel
theorem dX10_banishes_17 : decode cX10_banishes 17 = .ok (.goto 4, 3) := by decide +kernel
theorem dX10_banishes_20 : decode cX10_banishes 20 = .ok (.iconst 0, 1) := by decide +kernel
theorem dX10_banishes_21 : decode cX10_banishes 21 = .ok (.iconst 1, 1) := by decide +kernel
theorem dX10_banishes_22 : decode cX10_banishes 22 = .ok (.iconst 1, 1) := by decide +kernel
theorem dX10_banishes_23 : decode cX10_banishes 23 = .ok (.invokevirtual 47, 3) := by decide +kernel
theorem dX10_banishes_26 : decode cX10_banishes 26 = .ok (.ifCond .ne 5, 3) := by decide +kernel
theorem dX10_banishes_29 : decode cX10_banishes 29 = .ok (.iconst 0, 1) := by decide +kernel
theorem dX10_banishes_30 : decode cX10_banishes 30 = .ok (.ireturn, 1) := by decide +kernel
theorem dX10_banishes_31 : decode cX10_banishes 31 = .ok (.aload_n 0, 1) := by decide +kernel
theorem dX10_banishes_32 : decode cX10_banishes 32 = .ok (.getfield 9, 3) := by decide +kernel
theorem dX10_banishes_35 : decode cX10_banishes 35 = .ok (.bipush 18, 2) := by decide +kernel
theorem dX10_banishes_37 : decode cX10_banishes 37 = .ok (.iconst 2, 1) := by decide +kernel
theorem dX10_banishes_38 : decode cX10_banishes 38 = .ok (.iload_n 1, 1) := by decide +kernel
theorem dX10_banishes_39 : decode cX10_banishes 39 = .ok (.imul, 1) := by decide +kernel
theorem dX10_banishes_40 : decode cX10_banishes 40 = .ok (.iadd, 1) := by decide +kernel
theorem dX10_banishes_41 : decode cX10_banishes 41 = .ok (.iconst 1, 1) := by decide +kernel
theorem dX10_banishes_42 : decode cX10_banishes 42 = .ok (.iadd, 1) := by decide +kernel
theorem dX10_banishes_43 : decode cX10_banishes 43 = .ok (.iload_n 2, 1) := by decide +kernel
theorem dX10_banishes_44 : decode cX10_banishes 44 = .ok (.iastore, 1) := by decide +kernel
theorem dX10_banishes_45 : decode cX10_banishes 45 = .ok (.aload_n 0, 1) := by decide +kernel
theorem dX10_banishes_46 : decode cX10_banishes 46 = .ok (.invokevirtual 98, 3) := by decide +kernel
theorem dX10_banishes_49 : decode cX10_banishes 49 = .ok (.ireturn, 1) := by decide +kernel
theorem dX10_banishBroom_0 : decode cX10_banishBroom 0 = .ok (.aload_n 0, 1) := by decide +kernel
theorem dX10_banishBroom_1 : decode cX10_banishBroom 1 = .ok (.invokevirtual 102, 3) := by decide +kernel
theorem dX10_banishBroom_4 : decode cX10_banishBroom 4 = .ok (.aload_n 0, 1) := by decide +kernel
theorem dX10_banishBroom_5 : decode cX10_banishBroom 5 = .ok (.aload_n 0, 1) := by decide +kernel
theorem dX10_banishBroom_6 : decode cX10_banishBroom 6 = .ok (.iload_n 1, 1) := by decide +kernel
theorem dX10_banishBroom_7 : decode cX10_banishBroom 7 = .ok (.iconst 1, 1) := by decide +kernel
theorem dX10_banishBroom_8 : decode cX10_banishBroom 8 = .ok (.invokevirtual 115, 3) := by decide +kernel
theorem dX10_banishBroom_11 : decode cX10_banishBroom 11 = .ok (.invokevirtual 109, 3) := by decide +kernel
theorem dX10_banishBroom_14 : decode cX10_banishBroom 14 = .ok (.ireturn, 1) := by decide +kernel
theorem dX10_recallBroom_0 : decode cX10_recallBroom 0 = .ok (.aload_n 0, 1) := by decide +kernel
theorem dX10_recallBroom_1 : decode cX10_recallBroom 1 = .ok (.invokevirtual 102, 3) := by decide +kernel
theorem dX10_recallBroom_4 : decode cX10_recallBroom 4 = .ok (.aload_n 0, 1) := by decide +kernel
theorem dX10_recallBroom_5 : decode cX10_recallBroom 5 = .ok (.aload_n 0, 1) := by decide +kernel
theorem dX10_recallBroom_6 : decode cX10_recallBroom 6 = .ok (.iload_n 1, 1) := by decide +kernel
theorem dX10_recallBroom_7 : decode cX10_recallBroom 7 = .ok (.iconst 0, 1) := by decide +kernel
theorem dX10_recallBroom_8 : decode cX10_recallBroom 8 = .ok (.invokevirtual 115, 3) := by decide +kernel
theorem dX10_recallBroom_11 : decode cX10_recallBroom 11 = .ok (.invokevirtual 109, 3) := by decide +kernel
theorem dX10_recallBroom_14 : decode cX10_recallBroom 14 = .ok (.ireturn, 1) := by decide +kernel
theorem dX10_rests_0 : decode cX10_rests 0 = .ok (.aload_n 0, 1) := by decide +kernel
theorem dX10_rests_1 : decode cX10_rests 1 = .ok (.aload_n 0, 1) := by decide +kernel
theorem dX10_rests_2 : decode cX10_rests 2 = .ok (.iload_n 1, 1) := by decide +kernel
theorem dX10_rests_3 : decode cX10_rests 3 = .ok (.invokevirtual 77, 3) := by decide +kernel
theorem dX10_rests_6 : decode cX10_rests 6 = .ok (.aload_n 0, 1) := by decide +kernel
theorem dX10_rests_7 : decode cX10_rests 7 = .ok (.iload_n 1, 1) := by decide +kernel
theorem dX10_rests_8 : decode cX10_rests 8 = .ok (.iconst 4, 1) := by decide +kernel
theorem dX10_rests_9 : decode cX10_rests 9 = .ok (.invokevirtual 95, 3) := by decide +kernel
theorem dX10_rests_12 : decode cX10_rests 12 = .ok (.iload_n 2, 1) := by decide +kernel
theorem dX10_rests_13 : decode cX10_rests 13 = .ok (.if_icmp .eq 7, 3) := by decide +kernel
theorem dX10_rests_16 : decode cX10_rests 16 = .ok (.iconst 1, 1) := by decide +kernel
theorem dX10_rests_17 : decode cX10_rests 17 = .ok (.goto 4, 3) := by decide +kernel
theorem dX10_rests_20 : decode cX10_rests 20 = .ok (.iconst 0, 1) := by decide +kernel
theorem dX10_rests_21 : decode cX10_rests 21 = .ok (.iconst 1, 1) := by decide +kernel
theorem dX10_rests_22 : decode cX10_rests 22 = .ok (.iconst 1, 1) := by decide +kernel
theorem dX10_rests_23 : decode cX10_rests 23 = .ok (.invokevirtual 47, 3) := by decide +kernel
theorem dX10_rests_26 : decode cX10_rests 26 = .ok (.ifCond .ne 5, 3) := by decide +kernel
theorem dX10_rests_29 : decode cX10_rests 29 = .ok (.iconst 0, 1) := by decide +kernel
theorem dX10_rests_30 : decode cX10_rests 30 = .ok (.ireturn, 1) := by decide +kernel
theorem dX10_rests_31 : decode cX10_rests 31 = .ok (.aload_n 0, 1) := by decide +kernel
theorem dX10_rests_32 : decode cX10_rests 32 = .ok (.getfield 9, 3) := by decide +kernel
theorem dX10_rests_35 : decode cX10_rests 35 = .ok (.aload_n 0, 1) := by decide +kernel
theorem dX10_rests_36 : decode cX10_rests 36 = .ok (.iload_n 1, 1) := by decide +kernel
theorem dX10_rests_37 : decode cX10_rests 37 = .ok (.iconst 4, 1) := by decide +kernel
theorem dX10_rests_38 : decode cX10_rests 38 = .ok (.invokevirtual 80, 3) := by decide +kernel
theorem dX10_rests_41 : decode cX10_rests 41 = .ok (.iload_n 2, 1) := by decide +kernel
theorem dX10_rests_42 : decode cX10_rests 42 = .ok (.iastore, 1) := by decide +kernel
theorem dX10_rests_43 : decode cX10_rests 43 = .ok (.iconst 0, 1) := by decide +kernel
theorem dX10_rests_44 : decode cX10_rests 44 = .ok (.istore_n 3, 1) := by decide +kernel
theorem dX10_rests_45 : decode cX10_rests 45 = .ok (.iconst 0, 1) := by decide +kernel
theorem dX10_rests_46 : decode cX10_rests 46 = .ok (.istore 4, 2) := by decide +kernel
theorem dX10_rests_48 : decode cX10_rests 48 = .ok (.iload 4, 2) := by decide +kernel
theorem dX10_rests_50 : decode cX10_rests 50 = .ok (.aload_n 0, 1) := by decide +kernel
theorem dX10_rests_51 : decode cX10_rests 51 = .ok (.getfield 9, 3) := by decide +kernel
theorem dX10_rests_54 : decode cX10_rests 54 = .ok (.bipush 9, 2) := by decide +kernel
theorem dX10_rests_56 : decode cX10_rests 56 = .ok (.iaload, 1) := by decide +kernel
theorem dX10_rests_57 : decode cX10_rests 57 = .ok (.if_icmp .ge 19, 3) := by decide +kernel
theorem dX10_rests_60 : decode cX10_rests 60 = .ok (.iload_n 3, 1) := by decide +kernel
theorem dX10_rests_61 : decode cX10_rests 61 = .ok (.aload_n 0, 1) := by decide +kernel
theorem dX10_rests_62 : decode cX10_rests 62 = .ok (.iload 4, 2) := by decide +kernel
theorem dX10_rests_64 : decode cX10_rests 64 = .ok (.iconst 4, 1) := by decide +kernel
theorem dX10_rests_65 : decode cX10_rests 65 = .ok (.invokevirtual 95, 3) := by decide +kernel
theorem dX10_rests_68 : decode cX10_rests 68 = .ok (.iadd, 1) := by decide +kernel
theorem dX10_rests_69 : decode cX10_rests 69 = .ok (.istore_n 3, 1) := by decide +kernel
theorem dX10_rests_70 : decode cX10_rests 70 = .ok (.iinc 4 1, 3) := by decide +kernel
theorem dX10_rests_73 : decode cX10_rests 73 = .ok (.goto (-25), 3) := by decide +kernel
theorem dX10_rests_76 : decode cX10_rests 76 = .ok (.iload_n 2, 1) := by decide +kernel
theorem dX10_rests_77 : decode cX10_rests 77 = .ok (.iconst 1, 1) := by decide +kernel
theorem dX10_rests_78 : decode cX10_rests 78 = .ok (.if_icmp .ne 7, 3) := by decide +kernel
theorem dX10_rests_81 : decode cX10_rests 81 = .ok (.iload_n 3, 1) := by decide +kernel
theorem dX10_rests_82 : decode cX10_rests 82 = .ok (.goto 9, 3) := by decide +kernel
theorem dX10_rests_85 : decode cX10_rests 85 = .ok (.aload_n 0, 1) := by decide +kernel
theorem dX10_rests_86 : decode cX10_rests 86 = .ok (.iload_n 1, 1) := by decide +kernel
theorem dX10_rests_87 : decode cX10_rests 87 = .ok (.iconst 3, 1) := by decide +kernel
theorem dX10_rests_88 : decode cX10_rests 88 = .ok (.invokevirtual 95, 3) := by decide +kernel
theorem dX10_rests_91 : decode cX10_rests 91 = .ok (.ireturn, 1) := by decide +kernel
theorem dX10_rest_0 : decode cX10_rest 0 = .ok (.aload_n 0, 1) := by decide +kernel
theorem dX10_rest_1 : decode cX10_rest 1 = .ok (.invokevirtual 102, 3) := by decide +kernel
theorem dX10_rest_4 : decode cX10_rest 4 = .ok (.aload_n 0, 1) := by decide +kernel
theorem dX10_rest_5 : decode cX10_rest 5 = .ok (.aload_n 0, 1) := by decide +kernel
theorem dX10_rest_6 : decode cX10_rest 6 = .ok (.iload_n 1, 1) := by decide +kernel
theorem dX10_rest_7 : decode cX10_rest 7 = .ok (.iconst 1, 1) := by decide +kernel
theorem dX10_rest_8 : decode cX10_rest 8 = .ok (.invokevirtual 118, 3) := by decide +kernel
theorem dX10_rest_11 : decode cX10_rest 11 = .ok (.invokevirtual 109, 3) := by decide +kernel
theorem dX10_rest_14 : decode cX10_rest 14 = .ok (.ireturn, 1) := by decide +kernel
theorem dX10_wake_0 : decode cX10_wake 0 = .ok (.aload_n 0, 1) := by decide +kernel
theorem dX10_wake_1 : decode cX10_wake 1 = .ok (.invokevirtual 102, 3) := by decide +kernel
theorem dX10_wake_4 : decode cX10_wake 4 = .ok (.aload_n 0, 1) := by decide +kernel
theorem dX10_wake_5 : decode cX10_wake 5 = .ok (.aload_n 0, 1) := by decide +kernel
theorem dX10_wake_6 : decode cX10_wake 6 = .ok (.iload_n 1, 1) := by decide +kernel
theorem dX10_wake_7 : decode cX10_wake 7 = .ok (.iconst 0, 1) := by decide +kernel
theorem dX10_wake_8 : decode cX10_wake 8 = .ok (.invokevirtual 118, 3) := by decide +kernel
theorem dX10_wake_11 : decode cX10_wake 11 = .ok (.invokevirtual 109, 3) := by decide +kernel
theorem dX10_wake_14 : decode cX10_wake 14 = .ok (.ireturn, 1) := by decide +kernel
theorem dX10_hasFor_0 : decode cX10_hasFor 0 = .ok (.iconst 0, 1) := by decide +kernel
theorem dX10_hasFor_1 : decode cX10_hasFor 1 = .ok (.istore_n 3, 1) := by decide +kernel
theorem dX10_hasFor_2 : decode cX10_hasFor 2 = .ok (.iconst 0, 1) := by decide +kernel
theorem dX10_hasFor_3 : decode cX10_hasFor 3 = .ok (.istore 4, 2) := by decide +kernel
theorem dX10_hasFor_5 : decode cX10_hasFor 5 = .ok (.iload 4, 2) := by decide +kernel
theorem dX10_hasFor_7 : decode cX10_hasFor 7 = .ok (.aload_n 0, 1) := by decide +kernel
theorem dX10_hasFor_8 : decode cX10_hasFor 8 = .ok (.getfield 9, 3) := by decide +kernel
theorem dX10_hasFor_11 : decode cX10_hasFor 11 = .ok (.bipush 11, 2) := by decide +kernel
theorem dX10_hasFor_13 : decode cX10_hasFor 13 = .ok (.iaload, 1) := by decide +kernel
theorem dX10_hasFor_14 : decode cX10_hasFor 14 = .ok (.if_icmp .ge 41, 3) := by decide +kernel
theorem dX10_hasFor_17 : decode cX10_hasFor 17 = .ok (.iload_n 3, 1) := by decide +kernel
theorem dX10_hasFor_18 : decode cX10_hasFor 18 = .ok (.ifCond .ne 25, 3) := by decide +kernel
theorem dX10_hasFor_21 : decode cX10_hasFor 21 = .ok (.aload_n 0, 1) := by decide +kernel
theorem dX10_hasFor_22 : decode cX10_hasFor 22 = .ok (.iload 4, 2) := by decide +kernel
theorem dX10_hasFor_24 : decode cX10_hasFor 24 = .ok (.iconst 1, 1) := by decide +kernel
theorem dX10_hasFor_25 : decode cX10_hasFor 25 = .ok (.invokevirtual 84, 3) := by decide +kernel
theorem dX10_hasFor_28 : decode cX10_hasFor 28 = .ok (.iload_n 1, 1) := by decide +kernel
theorem dX10_hasFor_29 : decode cX10_hasFor 29 = .ok (.if_icmp .ne 18, 3) := by decide +kernel
theorem dX10_hasFor_32 : decode cX10_hasFor 32 = .ok (.aload_n 0, 1) := by decide +kernel
theorem dX10_hasFor_33 : decode cX10_hasFor 33 = .ok (.iload 4, 2) := by decide +kernel
theorem dX10_hasFor_35 : decode cX10_hasFor 35 = .ok (.iconst 2, 1) := by decide +kernel
theorem dX10_hasFor_36 : decode cX10_hasFor 36 = .ok (.invokevirtual 84, 3) := by decide +kernel
theorem dX10_hasFor_39 : decode cX10_hasFor 39 = .ok (.iload_n 2, 1) := by decide +kernel
theorem dX10_hasFor_40 : decode cX10_hasFor 40 = .ok (.if_icmp .ne 7, 3) := by decide +kernel
theorem dX10_hasFor_43 : decode cX10_hasFor 43 = .ok (.iconst 1, 1) := by decide +kernel
theorem dX10_hasFor_44 : decode cX10_hasFor 44 = .ok (.goto 4, 3) := by decide +kernel
theorem dX10_hasFor_47 : decode cX10_hasFor 47 = .ok (.iconst 0, 1) := by decide +kernel
theorem dX10_hasFor_48 : decode cX10_hasFor 48 = .ok (.istore_n 3, 1) := by decide +kernel
theorem dX10_hasFor_49 : decode cX10_hasFor 49 = .ok (.iinc 4 1, 3) := by decide +kernel
theorem dX10_hasFor_52 : decode cX10_hasFor 52 = .ok (.goto (-47), 3) := by decide +kernel
theorem dX10_hasFor_55 : decode cX10_hasFor 55 = .ok (.iload_n 3, 1) := by decide +kernel
theorem dX10_hasFor_56 : decode cX10_hasFor 56 = .ok (.ireturn, 1) := by decide +kernel
theorem dX10_hires_0 : decode cX10_hires 0 = .ok (.iload_n 3, 1) := by decide +kernel
theorem dX10_hires_1 : decode cX10_hires 1 = .ok (.iconst 1, 1) := by decide +kernel
theorem dX10_hires_2 : decode cX10_hires 2 = .ok (.bipush 50, 2) := by decide +kernel
theorem dX10_hires_4 : decode cX10_hires 4 = .ok (.invokestatic 69, 3) := by decide +kernel
theorem dX10_hires_7 : decode cX10_hires 7 = .ok (.ifCond .eq 18, 3) := by decide +kernel
theorem dX10_hires_10 : decode cX10_hires 10 = .ok (.iload 4, 2) := by decide +kernel
theorem dX10_hires_12 : decode cX10_hires 12 = .ok (.iconst 1, 1) := by decide +kernel
theorem dX10_hires_13 : decode cX10_hires 13 = .ok (.bipush 20, 2) := by decide +kernel
theorem dX10_hires_15 : decode cX10_hires 15 = .ok (.invokestatic 69, 3) := by decide +kernel
theorem dX10_hires_18 : decode cX10_hires 18 = .ok (.ifCond .eq 7, 3) := by decide +kernel
theorem dX10_hires_21 : decode cX10_hires 21 = .ok (.iconst 1, 1) := by decide +kernel
theorem dX10_hires_22 : decode cX10_hires 22 = .ok (.goto 4, 3) := by decide +kernel
theorem dX10_hires_25 : decode cX10_hires 25 = .ok (.iconst 0, 1) := by decide +kernel
theorem dX10_hires_26 : decode cX10_hires 26 = .ok (.istore 5, 2) := by decide +kernel
theorem dX10_hires_28 : decode cX10_hires 28 = .ok (.aload_n 0, 1) := by decide +kernel
theorem dX10_hires_29 : decode cX10_hires 29 = .ok (.aload_n 0, 1) := by decide +kernel
theorem dX10_hires_30 : decode cX10_hires 30 = .ok (.iload_n 1, 1) := by decide +kernel
theorem dX10_hires_31 : decode cX10_hires 31 = .ok (.invokevirtual 77, 3) := by decide +kernel
theorem dX10_hires_34 : decode cX10_hires 34 = .ok (.ifCond .eq 14, 3) := by decide +kernel
theorem dX10_hires_37 : decode cX10_hires 37 = .ok (.iload_n 2, 1) := by decide +kernel
theorem dX10_hires_38 : decode cX10_hires 38 = .ok (.invokestatic 121, 3) := by decide +kernel
theorem dX10_hires_41 : decode cX10_hires 41 = .ok (.ifCond .eq 7, 3) := by decide +kernel
theorem dX10_hires_44 : decode cX10_hires 44 = .ok (.iconst 1, 1) := by decide +kernel
theorem dX10_hires_45 : decode cX10_hires 45 = .ok (.goto 4, 3) := by decide +kernel
theorem dX10_hires_48 : decode cX10_hires 48 = .ok (.iconst 0, 1) := by decide +kernel
theorem dX10_hires_49 : decode cX10_hires 49 = .ok (.iload 5, 2) := by decide +kernel
theorem dX10_hires_51 : decode cX10_hires 51 = .ok (.aload_n 0, 1) := by decide +kernel
theorem dX10_hires_52 : decode cX10_hires 52 = .ok (.getfield 9, 3) := by decide +kernel
theorem dX10_hires_55 : decode cX10_hires 55 = .ok (.bipush 11, 2) := by decide +kernel
theorem dX10_hires_57 : decode cX10_hires 57 = .ok (.iaload, 1) := by decide +kernel
theorem dX10_hires_58 : decode cX10_hires 58 = .ok (.bipush 8, 2) := by decide +kernel
theorem dX10_hires_60 : decode cX10_hires 60 = .ok (.if_icmp .ge 7, 3) := by decide +kernel
theorem dX10_hires_63 : decode cX10_hires 63 = .ok (.iconst 1, 1) := by decide +kernel
theorem dX10_hires_64 : decode cX10_hires 64 = .ok (.goto 4, 3) := by decide +kernel
theorem dX10_hires_67 : decode cX10_hires 67 = .ok (.iconst 0, 1) := by decide +kernel
theorem dX10_hires_68 : decode cX10_hires 68 = .ok (.aload_n 0, 1) := by decide +kernel
theorem dX10_hires_69 : decode cX10_hires 69 = .ok (.iload_n 1, 1) := by decide +kernel
theorem dX10_hires_70 : decode cX10_hires 70 = .ok (.iload_n 2, 1) := by decide +kernel
theorem dX10_hires_71 : decode cX10_hires 71 = .ok (.invokevirtual 124, 3) := by decide +kernel
theorem dX10_hires_74 : decode cX10_hires 74 = .ok (.ifCond .ne 7, 3) := by decide +kernel
theorem dX10_hires_77 : decode cX10_hires 77 = .ok (.iconst 1, 1) := by decide +kernel
theorem dX10_hires_78 : decode cX10_hires 78 = .ok (.goto 4, 3) := by decide +kernel
theorem dX10_hires_81 : decode cX10_hires 81 = .ok (.iconst 0, 1) := by decide +kernel
theorem dX10_hires_82 : decode cX10_hires 82 = .ok (.invokevirtual 47, 3) := by decide +kernel
theorem dX10_hires_85 : decode cX10_hires 85 = .ok (.ifCond .ne 5, 3) := by decide +kernel
theorem dX10_hires_88 : decode cX10_hires 88 = .ok (.iconst 0, 1) := by decide +kernel
theorem dX10_hires_89 : decode cX10_hires 89 = .ok (.ireturn, 1) := by decide +kernel
theorem dX10_hires_90 : decode cX10_hires 90 = .ok (.bipush 51, 2) := by decide +kernel
theorem dX10_hires_92 : decode cX10_hires 92 = .ok (.iconst 5, 1) := by decide +kernel
theorem dX10_hires_93 : decode cX10_hires 93 = .ok (.aload_n 0, 1) := by decide +kernel
theorem dX10_hires_94 : decode cX10_hires 94 = .ok (.getfield 9, 3) := by decide +kernel
theorem dX10_hires_97 : decode cX10_hires 97 = .ok (.bipush 11, 2) := by decide +kernel
theorem dX10_hires_99 : decode cX10_hires 99 = .ok (.iaload, 1) := by decide +kernel
theorem dX10_hires_100 : decode cX10_hires 100 = .ok (.imul, 1) := by decide +kernel
theorem dX10_hires_101 : decode cX10_hires 101 = .ok (.iadd, 1) := by decide +kernel
theorem dX10_hires_102 : decode cX10_hires 102 = .ok (.istore 6, 2) := by decide +kernel
theorem dX10_hires_104 : decode cX10_hires 104 = .ok (.aload_n 0, 1) := by decide +kernel
theorem dX10_hires_105 : decode cX10_hires 105 = .ok (.getfield 9, 3) := by decide +kernel
theorem dX10_hires_108 : decode cX10_hires 108 = .ok (.iload 6, 2) := by decide +kernel
theorem dX10_hires_110 : decode cX10_hires 110 = .ok (.iconst 0, 1) := by decide +kernel
theorem dX10_hires_111 : decode cX10_hires 111 = .ok (.iadd, 1) := by decide +kernel
theorem dX10_hires_112 : decode cX10_hires 112 = .ok (.aload_n 0, 1) := by decide +kernel
theorem dX10_hires_113 : decode cX10_hires 113 = .ok (.getfield 9, 3) := by decide +kernel
theorem dX10_hires_116 : decode cX10_hires 116 = .ok (.bipush 10, 2) := by decide +kernel
theorem dX10_hires_118 : decode cX10_hires 118 = .ok (.iaload, 1) := by decide +kernel
theorem dX10_hires_119 : decode cX10_hires 119 = .ok (.iastore, 1) := by decide +kernel
theorem dX10_hires_120 : decode cX10_hires 120 = .ok (.aload_n 0, 1) := by decide +kernel
theorem dX10_hires_121 : decode cX10_hires 121 = .ok (.getfield 9, 3) := by decide +kernel
theorem dX10_hires_124 : decode cX10_hires 124 = .ok (.iload 6, 2) := by decide +kernel
theorem dX10_hires_126 : decode cX10_hires 126 = .ok (.iconst 1, 1) := by decide +kernel
theorem dX10_hires_127 : decode cX10_hires 127 = .ok (.iadd, 1) := by decide +kernel
theorem dX10_hires_128 : decode cX10_hires 128 = .ok (.iload_n 1, 1) := by decide +kernel
theorem dX10_hires_129 : decode cX10_hires 129 = .ok (.iastore, 1) := by decide +kernel
theorem dX10_hires_130 : decode cX10_hires 130 = .ok (.aload_n 0, 1) := by decide +kernel
theorem dX10_hires_131 : decode cX10_hires 131 = .ok (.getfield 9, 3) := by decide +kernel
theorem dX10_hires_134 : decode cX10_hires 134 = .ok (.iload 6, 2) := by decide +kernel
theorem dX10_hires_136 : decode cX10_hires 136 = .ok (.iconst 2, 1) := by decide +kernel
theorem dX10_hires_137 : decode cX10_hires 137 = .ok (.iadd, 1) := by decide +kernel
theorem dX10_hires_138 : decode cX10_hires 138 = .ok (.iload_n 2, 1) := by decide +kernel
theorem dX10_hires_139 : decode cX10_hires 139 = .ok (.iastore, 1) := by decide +kernel
theorem dX10_hires_140 : decode cX10_hires 140 = .ok (.aload_n 0, 1) := by decide +kernel
theorem dX10_hires_141 : decode cX10_hires 141 = .ok (.getfield 9, 3) := by decide +kernel
theorem dX10_hires_144 : decode cX10_hires 144 = .ok (.iload 6, 2) := by decide +kernel
theorem dX10_hires_146 : decode cX10_hires 146 = .ok (.iconst 3, 1) := by decide +kernel
theorem dX10_hires_147 : decode cX10_hires 147 = .ok (.iadd, 1) := by decide +kernel
theorem dX10_hires_148 : decode cX10_hires 148 = .ok (.iload_n 3, 1) := by decide +kernel
theorem dX10_hires_149 : decode cX10_hires 149 = .ok (.iastore, 1) := by decide +kernel
theorem dX10_hires_150 : decode cX10_hires 150 = .ok (.aload_n 0, 1) := by decide +kernel
theorem dX10_hires_151 : decode cX10_hires 151 = .ok (.getfield 9, 3) := by decide +kernel
theorem dX10_hires_154 : decode cX10_hires 154 = .ok (.iload 6, 2) := by decide +kernel
theorem dX10_hires_156 : decode cX10_hires 156 = .ok (.iconst 4, 1) := by decide +kernel
theorem dX10_hires_157 : decode cX10_hires 157 = .ok (.iadd, 1) := by decide +kernel
theorem dX10_hires_158 : decode cX10_hires 158 = .ok (.iload 4, 2) := by decide +kernel
theorem dX10_hires_160 : decode cX10_hires 160 = .ok (.iastore, 1) := by decide +kernel
theorem dX10_hires_161 : decode cX10_hires 161 = .ok (.aload_n 0, 1) := by decide +kernel
theorem dX10_hires_162 : decode cX10_hires 162 = .ok (.getfield 9, 3) := by decide +kernel
theorem dX10_hires_165 : decode cX10_hires 165 = .ok (.bipush 11, 2) := by decide +kernel
theorem dX10_hires_167 : decode cX10_hires 167 = .ok (.dup2, 1) := by decide +kernel
theorem dX10_hires_168 : decode cX10_hires 168 = .ok (.iaload, 1) := by decide +kernel
theorem dX10_hires_169 : decode cX10_hires 169 = .ok (.iconst 1, 1) := by decide +kernel
theorem dX10_hires_170 : decode cX10_hires 170 = .ok (.iadd, 1) := by decide +kernel
theorem dX10_hires_171 : decode cX10_hires 171 = .ok (.iastore, 1) := by decide +kernel
theorem dX10_hires_172 : decode cX10_hires 172 = .ok (.aload_n 0, 1) := by decide +kernel
theorem dX10_hires_173 : decode cX10_hires 173 = .ok (.getfield 9, 3) := by decide +kernel
theorem dX10_hires_176 : decode cX10_hires 176 = .ok (.bipush 10, 2) := by decide +kernel
theorem dX10_hires_178 : decode cX10_hires 178 = .ok (.dup2, 1) := by decide +kernel
theorem dX10_hires_179 : decode cX10_hires 179 = .ok (.iaload, 1) := by decide +kernel
theorem dX10_hires_180 : decode cX10_hires 180 = .ok (.iconst 1, 1) := by decide +kernel
theorem dX10_hires_181 : decode cX10_hires 181 = .ok (.iadd, 1) := by decide +kernel
theorem dX10_hires_182 : decode cX10_hires 182 = .ok (.iastore, 1) := by decide +kernel
theorem dX10_hires_183 : decode cX10_hires 183 = .ok (.aload_n 0, 1) := by decide +kernel
theorem dX10_hires_184 : decode cX10_hires 184 = .ok (.getfield 9, 3) := by decide +kernel
theorem dX10_hires_187 : decode cX10_hires 187 = .ok (.bipush 10, 2) := by decide +kernel
theorem dX10_hires_189 : decode cX10_hires 189 = .ok (.iaload, 1) := by decide +kernel
theorem dX10_hires_190 : decode cX10_hires 190 = .ok (.iconst 1, 1) := by decide +kernel
theorem dX10_hires_191 : decode cX10_hires 191 = .ok (.isub, 1) := by decide +kernel
theorem dX10_hires_192 : decode cX10_hires 192 = .ok (.ireturn, 1) := by decide +kernel
theorem dX10_hire_0 : decode cX10_hire 0 = .ok (.aload_n 0, 1) := by decide +kernel
theorem dX10_hire_1 : decode cX10_hire 1 = .ok (.invokevirtual 102, 3) := by decide +kernel
theorem dX10_hire_4 : decode cX10_hire 4 = .ok (.aload_n 0, 1) := by decide +kernel
theorem dX10_hire_5 : decode cX10_hire 5 = .ok (.aload_n 0, 1) := by decide +kernel
theorem dX10_hire_6 : decode cX10_hire 6 = .ok (.iload_n 1, 1) := by decide +kernel
theorem dX10_hire_7 : decode cX10_hire 7 = .ok (.iload_n 2, 1) := by decide +kernel
theorem dX10_hire_8 : decode cX10_hire 8 = .ok (.iload_n 3, 1) := by decide +kernel
theorem dX10_hire_9 : decode cX10_hire 9 = .ok (.iload 4, 2) := by decide +kernel
theorem dX10_hire_11 : decode cX10_hire 11 = .ok (.invokevirtual 128, 3) := by decide +kernel
theorem dX10_hire_14 : decode cX10_hire 14 = .ok (.invokevirtual 109, 3) := by decide +kernel
theorem dX10_hire_17 : decode cX10_hire 17 = .ok (.ireturn, 1) := by decide +kernel
theorem dX10_cancels_0 : decode cX10_cancels 0 = .ok (.aload_n 0, 1) := by decide +kernel
theorem dX10_cancels_1 : decode cX10_cancels 1 = .ok (.iload_n 1, 1) := by decide +kernel
theorem dX10_cancels_2 : decode cX10_cancels 2 = .ok (.invokevirtual 132, 3) := by decide +kernel
theorem dX10_cancels_5 : decode cX10_cancels 5 = .ok (.istore_n 2, 1) := by decide +kernel
theorem dX10_cancels_6 : decode cX10_cancels 6 = .ok (.aload_n 0, 1) := by decide +kernel
theorem dX10_cancels_7 : decode cX10_cancels 7 = .ok (.iload_n 2, 1) := by decide +kernel
theorem dX10_cancels_8 : decode cX10_cancels 8 = .ok (.iconst (-1), 1) := by decide +kernel
theorem dX10_cancels_9 : decode cX10_cancels 9 = .ok (.if_icmp .eq 7, 3) := by decide +kernel
theorem dX10_cancels_12 : decode cX10_cancels 12 = .ok (.iconst 1, 1) := by decide +kernel
theorem dX10_cancels_13 : decode cX10_cancels 13 = .ok (.goto 4, 3) := by decide +kernel
theorem dX10_cancels_16 : decode cX10_cancels 16 = .ok (.iconst 0, 1) := by decide +kernel
theorem dX10_cancels_17 : decode cX10_cancels 17 = .ok (.invokevirtual 61, 3) := by decide +kernel
theorem dX10_cancels_20 : decode cX10_cancels 20 = .ok (.ifCond .ne 5, 3) := by decide +kernel
theorem dX10_cancels_23 : decode cX10_cancels 23 = .ok (.iconst 0, 1) := by decide +kernel
theorem dX10_cancels_24 : decode cX10_cancels 24 = .ok (.ireturn, 1) := by decide +kernel
theorem dX10_cancels_25 : decode cX10_cancels 25 = .ok (.aload_n 0, 1) := by decide +kernel
theorem dX10_cancels_26 : decode cX10_cancels 26 = .ok (.iload_n 2, 1) := by decide +kernel
theorem dX10_cancels_27 : decode cX10_cancels 27 = .ok (.iconst 3, 1) := by decide +kernel
theorem dX10_cancels_28 : decode cX10_cancels 28 = .ok (.invokevirtual 84, 3) := by decide +kernel
theorem dX10_cancels_31 : decode cX10_cancels 31 = .ok (.bipush 10, 2) := by decide +kernel
theorem dX10_cancels_33 : decode cX10_cancels 33 = .ok (.idiv, 1) := by decide +kernel
theorem dX10_cancels_34 : decode cX10_cancels 34 = .ok (.aload_n 0, 1) := by decide +kernel
theorem dX10_cancels_35 : decode cX10_cancels 35 = .ok (.getfield 9, 3) := by decide +kernel
theorem dX10_cancels_38 : decode cX10_cancels 38 = .ok (.iconst 1, 1) := by decide +kernel
theorem dX10_cancels_39 : decode cX10_cancels 39 = .ok (.iaload, 1) := by decide +kernel
theorem dX10_cancels_40 : decode cX10_cancels 40 = .ok (.invokestatic 135, 3) := by decide +kernel
theorem dX10_cancels_43 : decode cX10_cancels 43 = .ok (.istore_n 3, 1) := by decide +kernel
theorem dX10_cancels_44 : decode cX10_cancels 44 = .ok (.aload_n 0, 1) := by decide +kernel
theorem dX10_cancels_45 : decode cX10_cancels 45 = .ok (.getfield 9, 3) := by decide +kernel
theorem dX10_cancels_48 : decode cX10_cancels 48 = .ok (.iconst 1, 1) := by decide +kernel
theorem dX10_cancels_49 : decode cX10_cancels 49 = .ok (.dup2, 1) := by decide +kernel
theorem dX10_cancels_50 : decode cX10_cancels 50 = .ok (.iaload, 1) := by decide +kernel
theorem dX10_cancels_51 : decode cX10_cancels 51 = .ok (.iload_n 3, 1) := by decide +kernel
theorem dX10_cancels_52 : decode cX10_cancels 52 = .ok (.isub, 1) := by decide +kernel
theorem dX10_cancels_53 : decode cX10_cancels 53 = .ok (.iastore, 1) := by decide +kernel
theorem dX10_cancels_54 : decode cX10_cancels 54 = .ok (.aload_n 0, 1) := by decide +kernel
theorem dX10_cancels_55 : decode cX10_cancels 55 = .ok (.getfield 9, 3) := by decide +kernel
theorem dX10_cancels_58 : decode cX10_cancels 58 = .ok (.aload_n 0, 1) := by decide +kernel
theorem dX10_cancels_59 : decode cX10_cancels 59 = .ok (.aload_n 0, 1) := by decide +kernel
theorem dX10_cancels_60 : decode cX10_cancels 60 = .ok (.iload_n 2, 1) := by decide +kernel
theorem dX10_cancels_61 : decode cX10_cancels 61 = .ok (.iconst 1, 1) := by decide +kernel
theorem dX10_cancels_62 : decode cX10_cancels 62 = .ok (.invokevirtual 84, 3) := by decide +kernel
theorem dX10_cancels_65 : decode cX10_cancels 65 = .ok (.iconst 1, 1) := by decide +kernel
theorem dX10_cancels_66 : decode cX10_cancels 66 = .ok (.invokevirtual 80, 3) := by decide +kernel
theorem dX10_cancels_69 : decode cX10_cancels 69 = .ok (.dup2, 1) := by decide +kernel
theorem dX10_cancels_70 : decode cX10_cancels 70 = .ok (.iaload, 1) := by decide +kernel
theorem dX10_cancels_71 : decode cX10_cancels 71 = .ok (.iload_n 3, 1) := by decide +kernel
theorem dX10_cancels_72 : decode cX10_cancels 72 = .ok (.iadd, 1) := by decide +kernel
theorem dX10_cancels_73 : decode cX10_cancels 73 = .ok (.iastore, 1) := by decide +kernel
theorem dX10_cancels_74 : decode cX10_cancels 74 = .ok (.aload_n 0, 1) := by decide +kernel
theorem dX10_cancels_75 : decode cX10_cancels 75 = .ok (.iload_n 2, 1) := by decide +kernel
theorem dX10_cancels_76 : decode cX10_cancels 76 = .ok (.invokevirtual 138, 3) := by decide +kernel
theorem dX10_cancels_79 : decode cX10_cancels 79 = .ok (.iload_n 3, 1) := by decide +kernel
theorem dX10_cancels_80 : decode cX10_cancels 80 = .ok (.ireturn, 1) := by decide +kernel
theorem dX10_cancelContract_0 : decode cX10_cancelContract 0 = .ok (.aload_n 0, 1) := by decide +kernel
theorem dX10_cancelContract_1 : decode cX10_cancelContract 1 = .ok (.invokevirtual 102, 3) := by decide +kernel
theorem dX10_cancelContract_4 : decode cX10_cancelContract 4 = .ok (.aload_n 0, 1) := by decide +kernel
theorem dX10_cancelContract_5 : decode cX10_cancelContract 5 = .ok (.aload_n 0, 1) := by decide +kernel
theorem dX10_cancelContract_6 : decode cX10_cancelContract 6 = .ok (.iload_n 1, 1) := by decide +kernel
theorem dX10_cancelContract_7 : decode cX10_cancelContract 7 = .ok (.invokevirtual 142, 3) := by decide +kernel
theorem dX10_cancelContract_10 : decode cX10_cancelContract 10 = .ok (.invokevirtual 109, 3) := by decide +kernel
theorem dX10_cancelContract_13 : decode cX10_cancelContract 13 = .ok (.ireturn, 1) := by decide +kernel
theorem dX10_lends_0 : decode cX10_lends 0 = .ok (.iload_n 2, 1) := by decide +kernel
theorem dX10_lends_1 : decode cX10_lends 1 = .ok (.iconst 1, 1) := by decide +kernel
theorem dX10_lends_2 : decode cX10_lends 2 = .ok (.bipush 99, 2) := by decide +kernel
theorem dX10_lends_4 : decode cX10_lends 4 = .ok (.invokestatic 69, 3) := by decide +kernel
theorem dX10_lends_7 : decode cX10_lends 7 = .ok (.istore_n 3, 1) := by decide +kernel
theorem dX10_lends_8 : decode cX10_lends 8 = .ok (.iload_n 3, 1) := by decide +kernel
theorem dX10_lends_9 : decode cX10_lends 9 = .ok (.ifCond .eq 31, 3) := by decide +kernel
theorem dX10_lends_12 : decode cX10_lends 12 = .ok (.iload_n 2, 1) := by decide +kernel
theorem dX10_lends_13 : decode cX10_lends 13 = .ok (.aload_n 0, 1) := by decide +kernel
theorem dX10_lends_14 : decode cX10_lends 14 = .ok (.getfield 9, 3) := by decide +kernel
theorem dX10_lends_17 : decode cX10_lends 17 = .ok (.iconst 1, 1) := by decide +kernel
theorem dX10_lends_18 : decode cX10_lends 18 = .ok (.iaload, 1) := by decide +kernel
theorem dX10_lends_19 : decode cX10_lends 19 = .ok (.if_icmp .gt 21, 3) := by decide +kernel
theorem dX10_lends_22 : decode cX10_lends 22 = .ok (.aload_n 0, 1) := by decide +kernel
theorem dX10_lends_23 : decode cX10_lends 23 = .ok (.iload_n 1, 1) := by decide +kernel
theorem dX10_lends_24 : decode cX10_lends 24 = .ok (.iconst 2, 1) := by decide +kernel
theorem dX10_lends_25 : decode cX10_lends 25 = .ok (.invokevirtual 95, 3) := by decide +kernel
theorem dX10_lends_28 : decode cX10_lends 28 = .ok (.iload_n 2, 1) := by decide +kernel
theorem dX10_lends_29 : decode cX10_lends 29 = .ok (.iadd, 1) := by decide +kernel
theorem dX10_lends_30 : decode cX10_lends 30 = .ok (.sipush 200, 3) := by decide +kernel
theorem dX10_lends_33 : decode cX10_lends 33 = .ok (.if_icmp .gt 7, 3) := by decide +kernel
theorem dX10_lends_36 : decode cX10_lends 36 = .ok (.iconst 1, 1) := by decide +kernel
theorem dX10_lends_37 : decode cX10_lends 37 = .ok (.goto 4, 3) := by decide +kernel
theorem dX10_lends_40 : decode cX10_lends 40 = .ok (.iconst 0, 1) := by decide +kernel
theorem dX10_lends_41 : decode cX10_lends 41 = .ok (.istore 4, 2) := by decide +kernel
theorem dX10_lends_43 : decode cX10_lends 43 = .ok (.aload_n 0, 1) := by decide +kernel
theorem dX10_lends_44 : decode cX10_lends 44 = .ok (.aload_n 0, 1) := by decide +kernel
theorem dX10_lends_45 : decode cX10_lends 45 = .ok (.iload_n 1, 1) := by decide +kernel
theorem dX10_lends_46 : decode cX10_lends 46 = .ok (.invokevirtual 77, 3) := by decide +kernel
theorem dX10_lends_49 : decode cX10_lends 49 = .ok (.iload_n 3, 1) := by decide +kernel
theorem dX10_lends_50 : decode cX10_lends 50 = .ok (.iload 4, 2) := by decide +kernel
theorem dX10_lends_52 : decode cX10_lends 52 = .ok (.iconst 1, 1) := by decide +kernel
theorem dX10_lends_53 : decode cX10_lends 53 = .ok (.invokevirtual 47, 3) := by decide +kernel
theorem dX10_lends_56 : decode cX10_lends 56 = .ok (.ifCond .ne 5, 3) := by decide +kernel
theorem dX10_lends_59 : decode cX10_lends 59 = .ok (.iconst 0, 1) := by decide +kernel
theorem dX10_lends_60 : decode cX10_lends 60 = .ok (.ireturn, 1) := by decide +kernel
theorem dX10_lends_61 : decode cX10_lends 61 = .ok (.aload_n 0, 1) := by decide +kernel
theorem dX10_lends_62 : decode cX10_lends 62 = .ok (.getfield 9, 3) := by decide +kernel
theorem dX10_lends_65 : decode cX10_lends 65 = .ok (.iconst 1, 1) := by decide +kernel
theorem dX10_lends_66 : decode cX10_lends 66 = .ok (.dup2, 1) := by decide +kernel
theorem dX10_lends_67 : decode cX10_lends 67 = .ok (.iaload, 1) := by decide +kernel
theorem dX10_lends_68 : decode cX10_lends 68 = .ok (.iload_n 2, 1) := by decide +kernel
theorem dX10_lends_69 : decode cX10_lends 69 = .ok (.isub, 1) := by decide +kernel
theorem dX10_lends_70 : decode cX10_lends 70 = .ok (.iastore, 1) := by decide +kernel
theorem dX10_lends_71 : decode cX10_lends 71 = .ok (.aload_n 0, 1) := by decide +kernel
theorem dX10_lends_72 : decode cX10_lends 72 = .ok (.getfield 9, 3) := by decide +kernel
theorem dX10_lends_75 : decode cX10_lends 75 = .ok (.aload_n 0, 1) := by decide +kernel
theorem dX10_lends_76 : decode cX10_lends 76 = .ok (.iload_n 1, 1) := by decide +kernel
theorem dX10_lends_77 : decode cX10_lends 77 = .ok (.iconst 1, 1) := by decide +kernel
theorem dX10_lends_78 : decode cX10_lends 78 = .ok (.invokevirtual 80, 3) := by decide +kernel
theorem dX10_lends_81 : decode cX10_lends 81 = .ok (.dup2, 1) := by decide +kernel
theorem dX10_lends_82 : decode cX10_lends 82 = .ok (.iaload, 1) := by decide +kernel
theorem dX10_lends_83 : decode cX10_lends 83 = .ok (.iload_n 2, 1) := by decide +kernel
theorem dX10_lends_84 : decode cX10_lends 84 = .ok (.iadd, 1) := by decide +kernel
theorem dX10_lends_85 : decode cX10_lends 85 = .ok (.iastore, 1) := by decide +kernel
theorem dX10_lends_86 : decode cX10_lends 86 = .ok (.aload_n 0, 1) := by decide +kernel
theorem dX10_lends_87 : decode cX10_lends 87 = .ok (.getfield 9, 3) := by decide +kernel
theorem dX10_lends_90 : decode cX10_lends 90 = .ok (.aload_n 0, 1) := by decide +kernel
theorem dX10_lends_91 : decode cX10_lends 91 = .ok (.iload_n 1, 1) := by decide +kernel
theorem dX10_lends_92 : decode cX10_lends 92 = .ok (.iconst 2, 1) := by decide +kernel
theorem dX10_lends_93 : decode cX10_lends 93 = .ok (.invokevirtual 80, 3) := by decide +kernel
theorem dX10_lends_96 : decode cX10_lends 96 = .ok (.dup2, 1) := by decide +kernel
theorem dX10_lends_97 : decode cX10_lends 97 = .ok (.iaload, 1) := by decide +kernel
theorem dX10_lends_98 : decode cX10_lends 98 = .ok (.iload_n 2, 1) := by decide +kernel
theorem dX10_lends_99 : decode cX10_lends 99 = .ok (.iadd, 1) := by decide +kernel
theorem dX10_lends_100 : decode cX10_lends 100 = .ok (.iastore, 1) := by decide +kernel
theorem dX10_lends_101 : decode cX10_lends 101 = .ok (.aload_n 0, 1) := by decide +kernel
theorem dX10_lends_102 : decode cX10_lends 102 = .ok (.iload_n 1, 1) := by decide +kernel
theorem dX10_lends_103 : decode cX10_lends 103 = .ok (.iconst 2, 1) := by decide +kernel
theorem dX10_lends_104 : decode cX10_lends 104 = .ok (.invokevirtual 95, 3) := by decide +kernel
theorem dX10_lends_107 : decode cX10_lends 107 = .ok (.ireturn, 1) := by decide +kernel
theorem dX10_lend_0 : decode cX10_lend 0 = .ok (.aload_n 0, 1) := by decide +kernel
theorem dX10_lend_1 : decode cX10_lend 1 = .ok (.invokevirtual 102, 3) := by decide +kernel
theorem dX10_lend_4 : decode cX10_lend 4 = .ok (.aload_n 0, 1) := by decide +kernel
theorem dX10_lend_5 : decode cX10_lend 5 = .ok (.aload_n 0, 1) := by decide +kernel
theorem dX10_lend_6 : decode cX10_lend 6 = .ok (.iload_n 1, 1) := by decide +kernel
theorem dX10_lend_7 : decode cX10_lend 7 = .ok (.iload_n 2, 1) := by decide +kernel
theorem dX10_lend_8 : decode cX10_lend 8 = .ok (.invokevirtual 145, 3) := by decide +kernel
theorem dX10_lend_11 : decode cX10_lend 11 = .ok (.invokevirtual 109, 3) := by decide +kernel
theorem dX10_lend_14 : decode cX10_lend 14 = .ok (.ireturn, 1) := by decide +kernel
theorem dX10_funds_0 : decode cX10_funds 0 = .ok (.aload_n 0, 1) := by decide +kernel
theorem dX10_funds_1 : decode cX10_funds 1 = .ok (.iload_n 1, 1) := by decide +kernel
theorem dX10_funds_2 : decode cX10_funds 2 = .ok (.iconst 1, 1) := by decide +kernel
theorem dX10_funds_3 : decode cX10_funds 3 = .ok (.sipush 999, 3) := by decide +kernel
theorem dX10_funds_6 : decode cX10_funds 6 = .ok (.invokestatic 69, 3) := by decide +kernel
theorem dX10_funds_9 : decode cX10_funds 9 = .ok (.invokevirtual 61, 3) := by decide +kernel
theorem dX10_funds_12 : decode cX10_funds 12 = .ok (.ifCond .ne 5, 3) := by decide +kernel
theorem dX10_funds_15 : decode cX10_funds 15 = .ok (.iconst 0, 1) := by decide +kernel
theorem dX10_funds_16 : decode cX10_funds 16 = .ok (.ireturn, 1) := by decide +kernel
theorem dX10_funds_17 : decode cX10_funds 17 = .ok (.aload_n 0, 1) := by decide +kernel
theorem dX10_funds_18 : decode cX10_funds 18 = .ok (.getfield 9, 3) := by decide +kernel
theorem dX10_funds_21 : decode cX10_funds 21 = .ok (.iconst 1, 1) := by decide +kernel
theorem dX10_funds_22 : decode cX10_funds 22 = .ok (.dup2, 1) := by decide +kernel
theorem dX10_funds_23 : decode cX10_funds 23 = .ok (.iaload, 1) := by decide +kernel
theorem dX10_funds_24 : decode cX10_funds 24 = .ok (.iload_n 1, 1) := by decide +kernel
theorem dX10_funds_25 : decode cX10_funds 25 = .ok (.iadd, 1) := by decide +kernel
theorem dX10_funds_26 : decode cX10_funds 26 = .ok (.iastore, 1) := by decide +kernel
theorem dX10_funds_27 : decode cX10_funds 27 = .ok (.aload_n 0, 1) := by decide +kernel
theorem dX10_funds_28 : decode cX10_funds 28 = .ok (.getfield 9, 3) := by decide +kernel
theorem dX10_funds_31 : decode cX10_funds 31 = .ok (.iconst 2, 1) := by decide +kernel
theorem dX10_funds_32 : decode cX10_funds 32 = .ok (.dup2, 1) := by decide +kernel
theorem dX10_funds_33 : decode cX10_funds 33 = .ok (.iaload, 1) := by decide +kernel
theorem dX10_funds_34 : decode cX10_funds 34 = .ok (.iload_n 1, 1) := by decide +kernel
theorem dX10_funds_35 : decode cX10_funds 35 = .ok (.iadd, 1) := by decide +kernel
theorem dX10_funds_36 : decode cX10_funds 36 = .ok (.iastore, 1) := by decide +kernel
theorem dX10_funds_37 : decode cX10_funds 37 = .ok (.aload_n 0, 1) := by decide +kernel
theorem dX10_funds_38 : decode cX10_funds 38 = .ok (.getfield 9, 3) := by decide +kernel
theorem dX10_funds_41 : decode cX10_funds 41 = .ok (.iconst 1, 1) := by decide +kernel
theorem dX10_funds_42 : decode cX10_funds 42 = .ok (.iaload, 1) := by decide +kernel
theorem dX10_funds_43 : decode cX10_funds 43 = .ok (.ireturn, 1) := by decide +kernel
theorem dX10_fund_0 : decode cX10_fund 0 = .ok (.aload_n 0, 1) := by decide +kernel
theorem dX10_fund_1 : decode cX10_fund 1 = .ok (.invokevirtual 102, 3) := by decide +kernel
theorem dX10_fund_4 : decode cX10_fund 4 = .ok (.aload_n 0, 1) := by decide +kernel
theorem dX10_fund_5 : decode cX10_fund 5 = .ok (.aload_n 0, 1) := by decide +kernel
theorem dX10_fund_6 : decode cX10_fund 6 = .ok (.iload_n 1, 1) := by decide +kernel
theorem dX10_fund_7 : decode cX10_fund 7 = .ok (.invokevirtual 148, 3) := by decide +kernel
theorem dX10_fund_10 : decode cX10_fund 10 = .ok (.invokevirtual 109, 3) := by decide +kernel
theorem dX10_fund_13 : decode cX10_fund 13 = .ok (.ireturn, 1) := by decide +kernel
theorem dX10_spends_0 : decode cX10_spends 0 = .ok (.aload_n 0, 1) := by decide +kernel
theorem dX10_spends_1 : decode cX10_spends 1 = .ok (.iload_n 1, 1) := by decide +kernel
theorem dX10_spends_2 : decode cX10_spends 2 = .ok (.iconst 1, 1) := by decide +kernel
theorem dX10_spends_3 : decode cX10_spends 3 = .ok (.sipush 999, 3) := by decide +kernel
theorem dX10_spends_6 : decode cX10_spends 6 = .ok (.invokestatic 69, 3) := by decide +kernel
theorem dX10_spends_9 : decode cX10_spends 9 = .ok (.iload_n 1, 1) := by decide +kernel
theorem dX10_spends_10 : decode cX10_spends 10 = .ok (.aload_n 0, 1) := by decide +kernel
theorem dX10_spends_11 : decode cX10_spends 11 = .ok (.getfield 9, 3) := by decide +kernel
theorem dX10_spends_14 : decode cX10_spends 14 = .ok (.iconst 1, 1) := by decide +kernel
theorem dX10_spends_15 : decode cX10_spends 15 = .ok (.iaload, 1) := by decide +kernel
theorem dX10_spends_16 : decode cX10_spends 16 = .ok (.if_icmp .gt 7, 3) := by decide +kernel
theorem dX10_spends_19 : decode cX10_spends 19 = .ok (.iconst 1, 1) := by decide +kernel
theorem dX10_spends_20 : decode cX10_spends 20 = .ok (.goto 4, 3) := by decide +kernel
theorem dX10_spends_23 : decode cX10_spends 23 = .ok (.iconst 0, 1) := by decide +kernel
theorem dX10_spends_24 : decode cX10_spends 24 = .ok (.iconst 1, 1) := by decide +kernel
theorem dX10_spends_25 : decode cX10_spends 25 = .ok (.iconst 1, 1) := by decide +kernel
theorem dX10_spends_26 : decode cX10_spends 26 = .ok (.invokevirtual 47, 3) := by decide +kernel
theorem dX10_spends_29 : decode cX10_spends 29 = .ok (.ifCond .ne 5, 3) := by decide +kernel
theorem dX10_spends_32 : decode cX10_spends 32 = .ok (.iconst 0, 1) := by decide +kernel
theorem dX10_spends_33 : decode cX10_spends 33 = .ok (.ireturn, 1) := by decide +kernel
theorem dX10_spends_34 : decode cX10_spends 34 = .ok (.aload_n 0, 1) := by decide +kernel
theorem dX10_spends_35 : decode cX10_spends 35 = .ok (.getfield 9, 3) := by decide +kernel
theorem dX10_spends_38 : decode cX10_spends 38 = .ok (.iconst 1, 1) := by decide +kernel
theorem dX10_spends_39 : decode cX10_spends 39 = .ok (.dup2, 1) := by decide +kernel
theorem dX10_spends_40 : decode cX10_spends 40 = .ok (.iaload, 1) := by decide +kernel
theorem dX10_spends_41 : decode cX10_spends 41 = .ok (.iload_n 1, 1) := by decide +kernel
theorem dX10_spends_42 : decode cX10_spends 42 = .ok (.isub, 1) := by decide +kernel
theorem dX10_spends_43 : decode cX10_spends 43 = .ok (.iastore, 1) := by decide +kernel
theorem dX10_spends_44 : decode cX10_spends 44 = .ok (.aload_n 0, 1) := by decide +kernel
theorem dX10_spends_45 : decode cX10_spends 45 = .ok (.getfield 9, 3) := by decide +kernel
theorem dX10_spends_48 : decode cX10_spends 48 = .ok (.iconst 3, 1) := by decide +kernel
theorem dX10_spends_49 : decode cX10_spends 49 = .ok (.dup2, 1) := by decide +kernel
theorem dX10_spends_50 : decode cX10_spends 50 = .ok (.iaload, 1) := by decide +kernel
theorem dX10_spends_51 : decode cX10_spends 51 = .ok (.iload_n 1, 1) := by decide +kernel
theorem dX10_spends_52 : decode cX10_spends 52 = .ok (.iadd, 1) := by decide +kernel
theorem dX10_spends_53 : decode cX10_spends 53 = .ok (.iastore, 1) := by decide +kernel
theorem dX10_spends_54 : decode cX10_spends 54 = .ok (.aload_n 0, 1) := by decide +kernel
theorem dX10_spends_55 : decode cX10_spends 55 = .ok (.getfield 9, 3) := by decide +kernel
theorem dX10_spends_58 : decode cX10_spends 58 = .ok (.iconst 1, 1) := by decide +kernel
theorem dX10_spends_59 : decode cX10_spends 59 = .ok (.iaload, 1) := by decide +kernel
theorem dX10_spends_60 : decode cX10_spends 60 = .ok (.ireturn, 1) := by decide +kernel
theorem dX10_spend_0 : decode cX10_spend 0 = .ok (.aload_n 0, 1) := by decide +kernel
theorem dX10_spend_1 : decode cX10_spend 1 = .ok (.invokevirtual 102, 3) := by decide +kernel
theorem dX10_spend_4 : decode cX10_spend 4 = .ok (.aload_n 0, 1) := by decide +kernel
theorem dX10_spend_5 : decode cX10_spend 5 = .ok (.aload_n 0, 1) := by decide +kernel
theorem dX10_spend_6 : decode cX10_spend 6 = .ok (.iload_n 1, 1) := by decide +kernel
theorem dX10_spend_7 : decode cX10_spend 7 = .ok (.invokevirtual 151, 3) := by decide +kernel
theorem dX10_spend_10 : decode cX10_spend 10 = .ok (.invokevirtual 109, 3) := by decide +kernel
theorem dX10_spend_13 : decode cX10_spend 13 = .ok (.ireturn, 1) := by decide +kernel
theorem dX10_pays_0 : decode cX10_pays 0 = .ok (.aload_n 0, 1) := by decide +kernel
theorem dX10_pays_1 : decode cX10_pays 1 = .ok (.iload_n 1, 1) := by decide +kernel
theorem dX10_pays_2 : decode cX10_pays 2 = .ok (.iconst 1, 1) := by decide +kernel
theorem dX10_pays_3 : decode cX10_pays 3 = .ok (.invokevirtual 84, 3) := by decide +kernel
theorem dX10_pays_6 : decode cX10_pays 6 = .ok (.istore_n 2, 1) := by decide +kernel
theorem dX10_pays_7 : decode cX10_pays 7 = .ok (.aload_n 0, 1) := by decide +kernel
theorem dX10_pays_8 : decode cX10_pays 8 = .ok (.iload_n 1, 1) := by decide +kernel
theorem dX10_pays_9 : decode cX10_pays 9 = .ok (.iconst 3, 1) := by decide +kernel
theorem dX10_pays_10 : decode cX10_pays 10 = .ok (.invokevirtual 84, 3) := by decide +kernel
theorem dX10_pays_13 : decode cX10_pays 13 = .ok (.aload_n 0, 1) := by decide +kernel
theorem dX10_pays_14 : decode cX10_pays 14 = .ok (.getfield 9, 3) := by decide +kernel
theorem dX10_pays_17 : decode cX10_pays 17 = .ok (.iconst 1, 1) := by decide +kernel
theorem dX10_pays_18 : decode cX10_pays 18 = .ok (.iaload, 1) := by decide +kernel
theorem dX10_pays_19 : decode cX10_pays 19 = .ok (.invokestatic 135, 3) := by decide +kernel
theorem dX10_pays_22 : decode cX10_pays 22 = .ok (.istore_n 3, 1) := by decide +kernel
theorem dX10_pays_23 : decode cX10_pays 23 = .ok (.iload_n 3, 1) := by decide +kernel
theorem dX10_pays_24 : decode cX10_pays 24 = .ok (.aload_n 0, 1) := by decide +kernel
theorem dX10_pays_25 : decode cX10_pays 25 = .ok (.iload_n 2, 1) := by decide +kernel
theorem dX10_pays_26 : decode cX10_pays 26 = .ok (.iconst 2, 1) := by decide +kernel
theorem dX10_pays_27 : decode cX10_pays 27 = .ok (.invokevirtual 95, 3) := by decide +kernel
theorem dX10_pays_30 : decode cX10_pays 30 = .ok (.invokestatic 135, 3) := by decide +kernel
theorem dX10_pays_33 : decode cX10_pays 33 = .ok (.istore 4, 2) := by decide +kernel
theorem dX10_pays_35 : decode cX10_pays 35 = .ok (.aload_n 0, 1) := by decide +kernel
theorem dX10_pays_36 : decode cX10_pays 36 = .ok (.getfield 9, 3) := by decide +kernel
theorem dX10_pays_39 : decode cX10_pays 39 = .ok (.iconst 1, 1) := by decide +kernel
theorem dX10_pays_40 : decode cX10_pays 40 = .ok (.dup2, 1) := by decide +kernel
theorem dX10_pays_41 : decode cX10_pays 41 = .ok (.iaload, 1) := by decide +kernel
theorem dX10_pays_42 : decode cX10_pays 42 = .ok (.iload 4, 2) := by decide +kernel
theorem dX10_pays_44 : decode cX10_pays 44 = .ok (.iload_n 3, 1) := by decide +kernel
theorem dX10_pays_45 : decode cX10_pays 45 = .ok (.isub, 1) := by decide +kernel
theorem dX10_pays_46 : decode cX10_pays 46 = .ok (.iadd, 1) := by decide +kernel
theorem dX10_pays_47 : decode cX10_pays 47 = .ok (.iastore, 1) := by decide +kernel
theorem dX10_pays_48 : decode cX10_pays 48 = .ok (.aload_n 0, 1) := by decide +kernel
theorem dX10_pays_49 : decode cX10_pays 49 = .ok (.getfield 9, 3) := by decide +kernel
theorem dX10_pays_52 : decode cX10_pays 52 = .ok (.aload_n 0, 1) := by decide +kernel
theorem dX10_pays_53 : decode cX10_pays 53 = .ok (.iload_n 2, 1) := by decide +kernel
theorem dX10_pays_54 : decode cX10_pays 54 = .ok (.iconst 2, 1) := by decide +kernel
theorem dX10_pays_55 : decode cX10_pays 55 = .ok (.invokevirtual 80, 3) := by decide +kernel
theorem dX10_pays_58 : decode cX10_pays 58 = .ok (.dup2, 1) := by decide +kernel
theorem dX10_pays_59 : decode cX10_pays 59 = .ok (.iaload, 1) := by decide +kernel
theorem dX10_pays_60 : decode cX10_pays 60 = .ok (.iload 4, 2) := by decide +kernel
theorem dX10_pays_62 : decode cX10_pays 62 = .ok (.isub, 1) := by decide +kernel
theorem dX10_pays_63 : decode cX10_pays 63 = .ok (.iastore, 1) := by decide +kernel
theorem dX10_pays_64 : decode cX10_pays 64 = .ok (.aload_n 0, 1) := by decide +kernel
theorem dX10_pays_65 : decode cX10_pays 65 = .ok (.getfield 9, 3) := by decide +kernel
theorem dX10_pays_68 : decode cX10_pays 68 = .ok (.aload_n 0, 1) := by decide +kernel
theorem dX10_pays_69 : decode cX10_pays 69 = .ok (.iload_n 2, 1) := by decide +kernel
theorem dX10_pays_70 : decode cX10_pays 70 = .ok (.iconst 1, 1) := by decide +kernel
theorem dX10_pays_71 : decode cX10_pays 71 = .ok (.invokevirtual 80, 3) := by decide +kernel
theorem dX10_pays_74 : decode cX10_pays 74 = .ok (.dup2, 1) := by decide +kernel
theorem dX10_pays_75 : decode cX10_pays 75 = .ok (.iaload, 1) := by decide +kernel
theorem dX10_pays_76 : decode cX10_pays 76 = .ok (.iload_n 3, 1) := by decide +kernel
theorem dX10_pays_77 : decode cX10_pays 77 = .ok (.iload 4, 2) := by decide +kernel
theorem dX10_pays_79 : decode cX10_pays 79 = .ok (.isub, 1) := by decide +kernel
theorem dX10_pays_80 : decode cX10_pays 80 = .ok (.iadd, 1) := by decide +kernel
theorem dX10_pays_81 : decode cX10_pays 81 = .ok (.iastore, 1) := by decide +kernel
theorem dX10_pays_82 : decode cX10_pays 82 = .ok (.aload_n 0, 1) := by decide +kernel
theorem dX10_pays_83 : decode cX10_pays 83 = .ok (.getfield 9, 3) := by decide +kernel
theorem dX10_pays_86 : decode cX10_pays 86 = .ok (.bipush 6, 2) := by decide +kernel
theorem dX10_pays_88 : decode cX10_pays 88 = .ok (.dup2, 1) := by decide +kernel
theorem dX10_pays_89 : decode cX10_pays 89 = .ok (.iaload, 1) := by decide +kernel
theorem dX10_pays_90 : decode cX10_pays 90 = .ok (.aload_n 0, 1) := by decide +kernel
theorem dX10_pays_91 : decode cX10_pays 91 = .ok (.iload_n 1, 1) := by decide +kernel
theorem dX10_pays_92 : decode cX10_pays 92 = .ok (.iconst 3, 1) := by decide +kernel
theorem dX10_pays_93 : decode cX10_pays 93 = .ok (.invokevirtual 84, 3) := by decide +kernel
theorem dX10_pays_96 : decode cX10_pays 96 = .ok (.iload_n 3, 1) := by decide +kernel
theorem dX10_pays_97 : decode cX10_pays 97 = .ok (.isub, 1) := by decide +kernel
theorem dX10_pays_98 : decode cX10_pays 98 = .ok (.iadd, 1) := by decide +kernel
theorem dX10_pays_99 : decode cX10_pays 99 = .ok (.iastore, 1) := by decide +kernel
theorem dX10_pays_100 : decode cX10_pays 100 = .ok (.return_, 1) := by decide +kernel
theorem dX10_works_0 : decode cX10_works 0 = .ok (.aload_n 0, 1) := by decide +kernel
theorem dX10_works_1 : decode cX10_works 1 = .ok (.iload_n 1, 1) := by decide +kernel
theorem dX10_works_2 : decode cX10_works 2 = .ok (.invokevirtual 154, 3) := by decide +kernel
theorem dX10_works_5 : decode cX10_works 5 = .ok (.istore_n 2, 1) := by decide +kernel
theorem dX10_works_6 : decode cX10_works 6 = .ok (.bipush 10, 2) := by decide +kernel
theorem dX10_works_8 : decode cX10_works 8 = .ok (.aload_n 0, 1) := by decide +kernel
theorem dX10_works_9 : decode cX10_works 9 = .ok (.invokevirtual 157, 3) := by decide +kernel
theorem dX10_works_12 : decode cX10_works 12 = .ok (.iadd, 1) := by decide +kernel
theorem dX10_works_13 : decode cX10_works 13 = .ok (.istore_n 3, 1) := by decide +kernel
theorem dX10_works_14 : decode cX10_works 14 = .ok (.iconst 0, 1) := by decide +kernel
theorem dX10_works_15 : decode cX10_works 15 = .ok (.istore 4, 2) := by decide +kernel
theorem dX10_works_17 : decode cX10_works 17 = .ok (.iconst 0, 1) := by decide +kernel
theorem dX10_works_18 : decode cX10_works 18 = .ok (.istore 5, 2) := by decide +kernel
theorem dX10_works_20 : decode cX10_works 20 = .ok (.iload 5, 2) := by decide +kernel
theorem dX10_works_22 : decode cX10_works 22 = .ok (.aload_n 0, 1) := by decide +kernel
theorem dX10_works_23 : decode cX10_works 23 = .ok (.getfield 9, 3) := by decide +kernel
theorem dX10_works_26 : decode cX10_works 26 = .ok (.bipush 11, 2) := by decide +kernel
theorem dX10_works_28 : decode cX10_works 28 = .ok (.iaload, 1) := by decide +kernel
theorem dX10_works_29 : decode cX10_works 29 = .ok (.if_icmp .ge 94, 3) := by decide +kernel
theorem dX10_works_32 : decode cX10_works 32 = .ok (.aload_n 0, 1) := by decide +kernel
theorem dX10_works_33 : decode cX10_works 33 = .ok (.iload 5, 2) := by decide +kernel
theorem dX10_works_35 : decode cX10_works 35 = .ok (.iconst 1, 1) := by decide +kernel
theorem dX10_works_36 : decode cX10_works 36 = .ok (.invokevirtual 84, 3) := by decide +kernel
theorem dX10_works_39 : decode cX10_works 39 = .ok (.iload_n 1, 1) := by decide +kernel
theorem dX10_works_40 : decode cX10_works 40 = .ok (.if_icmp .eq 9, 3) := by decide +kernel
theorem dX10_works_43 : decode cX10_works 43 = .ok (.iinc 5 1, 3) := by decide +kernel
theorem dX10_works_46 : decode cX10_works 46 = .ok (.goto (-26), 3) := by decide +kernel
theorem dX10_works_49 : decode cX10_works 49 = .ok (.aload_n 0, 1) := by decide +kernel
theorem dX10_works_50 : decode cX10_works 50 = .ok (.iload 5, 2) := by decide +kernel
theorem dX10_works_52 : decode cX10_works 52 = .ok (.iconst 4, 1) := by decide +kernel
theorem dX10_works_53 : decode cX10_works 53 = .ok (.invokevirtual 84, 3) := by decide +kernel
theorem dX10_works_56 : decode cX10_works 56 = .ok (.iload_n 2, 1) := by decide +kernel
theorem dX10_works_57 : decode cX10_works 57 = .ok (.if_icmp .gt 63, 3) := by decide +kernel
theorem dX10_works_60 : decode cX10_works 60 = .ok (.iload_n 2, 1) := by decide +kernel
theorem dX10_works_61 : decode cX10_works 61 = .ok (.aload_n 0, 1) := by decide +kernel
theorem dX10_works_62 : decode cX10_works 62 = .ok (.iload 5, 2) := by decide +kernel
theorem dX10_works_64 : decode cX10_works 64 = .ok (.iconst 4, 1) := by decide +kernel
theorem dX10_works_65 : decode cX10_works 65 = .ok (.invokevirtual 84, 3) := by decide +kernel
theorem dX10_works_68 : decode cX10_works 68 = .ok (.isub, 1) := by decide +kernel
theorem dX10_works_69 : decode cX10_works 69 = .ok (.istore_n 2, 1) := by decide +kernel
theorem dX10_works_70 : decode cX10_works 70 = .ok (.bipush 12, 2) := by decide +kernel
theorem dX10_works_72 : decode cX10_works 72 = .ok (.aload_n 0, 1) := by decide +kernel
theorem dX10_works_73 : decode cX10_works 73 = .ok (.iload 5, 2) := by decide +kernel
theorem dX10_works_75 : decode cX10_works 75 = .ok (.iconst 2, 1) := by decide +kernel
theorem dX10_works_76 : decode cX10_works 76 = .ok (.invokevirtual 84, 3) := by decide +kernel
theorem dX10_works_79 : decode cX10_works 79 = .ok (.iadd, 1) := by decide +kernel
theorem dX10_works_80 : decode cX10_works 80 = .ok (.istore 6, 2) := by decide +kernel
theorem dX10_works_82 : decode cX10_works 82 = .ok (.aload_n 0, 1) := by decide +kernel
theorem dX10_works_83 : decode cX10_works 83 = .ok (.getfield 9, 3) := by decide +kernel
theorem dX10_works_86 : decode cX10_works 86 = .ok (.iload 6, 2) := by decide +kernel
theorem dX10_works_88 : decode cX10_works 88 = .ok (.iconst 0, 1) := by decide +kernel
theorem dX10_works_89 : decode cX10_works 89 = .ok (.aload_n 0, 1) := by decide +kernel
theorem dX10_works_90 : decode cX10_works 90 = .ok (.getfield 9, 3) := by decide +kernel
theorem dX10_works_93 : decode cX10_works 93 = .ok (.iload 6, 2) := by decide +kernel
theorem dX10_works_95 : decode cX10_works 95 = .ok (.iaload, 1) := by decide +kernel
theorem dX10_works_96 : decode cX10_works 96 = .ok (.iload_n 3, 1) := by decide +kernel
theorem dX10_works_97 : decode cX10_works 97 = .ok (.isub, 1) := by decide +kernel
theorem dX10_works_98 : decode cX10_works 98 = .ok (.invokestatic 90, 3) := by decide +kernel
theorem dX10_works_101 : decode cX10_works 101 = .ok (.iastore, 1) := by decide +kernel
theorem dX10_works_102 : decode cX10_works 102 = .ok (.aload_n 0, 1) := by decide +kernel
theorem dX10_works_103 : decode cX10_works 103 = .ok (.iload 5, 2) := by decide +kernel
theorem dX10_works_105 : decode cX10_works 105 = .ok (.invokevirtual 160, 3) := by decide +kernel
theorem dX10_works_108 : decode cX10_works 108 = .ok (.aload_n 0, 1) := by decide +kernel
theorem dX10_works_109 : decode cX10_works 109 = .ok (.iload 5, 2) := by decide +kernel
theorem dX10_works_111 : decode cX10_works 111 = .ok (.invokevirtual 138, 3) := by decide +kernel
theorem dX10_works_114 : decode cX10_works 114 = .ok (.iinc 4 1, 3) := by decide +kernel
theorem dX10_works_117 : decode cX10_works 117 = .ok (.goto (-97), 3) := by decide +kernel
theorem dX10_works_120 : decode cX10_works 120 = .ok (.iload 4, 2) := by decide +kernel
theorem dX10_works_122 : decode cX10_works 122 = .ok (.ireturn, 1) := by decide +kernel
theorem dX10_works_123 : decode cX10_works 123 = .ok (.iload 4, 2) := by decide +kernel
theorem dX10_works_125 : decode cX10_works 125 = .ok (.ireturn, 1) := by decide +kernel
theorem dX10_breaks_0 : decode cX10_breaks 0 = .ok (.iconst 0, 1) := by decide +kernel
theorem dX10_breaks_1 : decode cX10_breaks 1 = .ok (.istore_n 2, 1) := by decide +kernel
theorem dX10_breaks_2 : decode cX10_breaks 2 = .ok (.iload_n 2, 1) := by decide +kernel
theorem dX10_breaks_3 : decode cX10_breaks 3 = .ok (.aload_n 0, 1) := by decide +kernel
theorem dX10_breaks_4 : decode cX10_breaks 4 = .ok (.getfield 9, 3) := by decide +kernel
theorem dX10_breaks_7 : decode cX10_breaks 7 = .ok (.bipush 11, 2) := by decide +kernel
theorem dX10_breaks_9 : decode cX10_breaks 9 = .ok (.iaload, 1) := by decide +kernel
theorem dX10_breaks_10 : decode cX10_breaks 10 = .ok (.if_icmp .ge 37, 3) := by decide +kernel
theorem dX10_breaks_13 : decode cX10_breaks 13 = .ok (.aload_n 0, 1) := by decide +kernel
theorem dX10_breaks_14 : decode cX10_breaks 14 = .ok (.iload_n 2, 1) := by decide +kernel
theorem dX10_breaks_15 : decode cX10_breaks 15 = .ok (.iconst 1, 1) := by decide +kernel
theorem dX10_breaks_16 : decode cX10_breaks 16 = .ok (.invokevirtual 84, 3) := by decide +kernel
theorem dX10_breaks_19 : decode cX10_breaks 19 = .ok (.iload_n 1, 1) := by decide +kernel
theorem dX10_breaks_20 : decode cX10_breaks 20 = .ok (.if_icmp .ne 21, 3) := by decide +kernel
theorem dX10_breaks_23 : decode cX10_breaks 23 = .ok (.aload_n 0, 1) := by decide +kernel
theorem dX10_breaks_24 : decode cX10_breaks 24 = .ok (.iload_n 2, 1) := by decide +kernel
theorem dX10_breaks_25 : decode cX10_breaks 25 = .ok (.invokevirtual 138, 3) := by decide +kernel
theorem dX10_breaks_28 : decode cX10_breaks 28 = .ok (.aload_n 0, 1) := by decide +kernel
theorem dX10_breaks_29 : decode cX10_breaks 29 = .ok (.getfield 9, 3) := by decide +kernel
theorem dX10_breaks_32 : decode cX10_breaks 32 = .ok (.iconst 5, 1) := by decide +kernel
theorem dX10_breaks_33 : decode cX10_breaks 33 = .ok (.dup2, 1) := by decide +kernel
theorem dX10_breaks_34 : decode cX10_breaks 34 = .ok (.iaload, 1) := by decide +kernel
theorem dX10_breaks_35 : decode cX10_breaks 35 = .ok (.iconst 1, 1) := by decide +kernel
theorem dX10_breaks_36 : decode cX10_breaks 36 = .ok (.iadd, 1) := by decide +kernel
theorem dX10_breaks_37 : decode cX10_breaks 37 = .ok (.iastore, 1) := by decide +kernel
theorem dX10_breaks_38 : decode cX10_breaks 38 = .ok (.goto (-36), 3) := by decide +kernel
theorem dX10_breaks_41 : decode cX10_breaks 41 = .ok (.iinc 2 1, 3) := by decide +kernel
theorem dX10_breaks_44 : decode cX10_breaks 44 = .ok (.goto (-42), 3) := by decide +kernel
theorem dX10_breaks_47 : decode cX10_breaks 47 = .ok (.return_, 1) := by decide +kernel
theorem dX10_passes_0 : decode cX10_passes 0 = .ok (.aload_n 0, 1) := by decide +kernel
theorem dX10_passes_1 : decode cX10_passes 1 = .ok (.getfield 9, 3) := by decide +kernel
theorem dX10_passes_4 : decode cX10_passes 4 = .ok (.iconst 0, 1) := by decide +kernel
theorem dX10_passes_5 : decode cX10_passes 5 = .ok (.dup2, 1) := by decide +kernel
theorem dX10_passes_6 : decode cX10_passes 6 = .ok (.iaload, 1) := by decide +kernel
theorem dX10_passes_7 : decode cX10_passes 7 = .ok (.iconst 1, 1) := by decide +kernel
theorem dX10_passes_8 : decode cX10_passes 8 = .ok (.iadd, 1) := by decide +kernel
theorem dX10_passes_9 : decode cX10_passes 9 = .ok (.iastore, 1) := by decide +kernel
theorem dX10_passes_10 : decode cX10_passes 10 = .ok (.iconst 0, 1) := by decide +kernel
theorem dX10_passes_11 : decode cX10_passes 11 = .ok (.istore_n 1, 1) := by decide +kernel
theorem dX10_passes_12 : decode cX10_passes 12 = .ok (.iload_n 1, 1) := by decide +kernel
theorem dX10_passes_13 : decode cX10_passes 13 = .ok (.bipush 6, 2) := by decide +kernel
theorem dX10_passes_15 : decode cX10_passes 15 = .ok (.if_icmp .ge 34, 3) := by decide +kernel
theorem dX10_passes_18 : decode cX10_passes 18 = .ok (.aload_n 0, 1) := by decide +kernel
theorem dX10_passes_19 : decode cX10_passes 19 = .ok (.getfield 9, 3) := by decide +kernel
theorem dX10_passes_22 : decode cX10_passes 22 = .ok (.bipush 12, 2) := by decide +kernel
theorem dX10_passes_24 : decode cX10_passes 24 = .ok (.iload_n 1, 1) := by decide +kernel
theorem dX10_passes_25 : decode cX10_passes 25 = .ok (.iadd, 1) := by decide +kernel
theorem dX10_passes_26 : decode cX10_passes 26 = .ok (.bipush 99, 2) := by decide +kernel
theorem dX10_passes_28 : decode cX10_passes 28 = .ok (.aload_n 0, 1) := by decide +kernel
theorem dX10_passes_29 : decode cX10_passes 29 = .ok (.getfield 9, 3) := by decide +kernel
theorem dX10_passes_32 : decode cX10_passes 32 = .ok (.bipush 12, 2) := by decide +kernel
theorem dX10_passes_34 : decode cX10_passes 34 = .ok (.iload_n 1, 1) := by decide +kernel
theorem dX10_passes_35 : decode cX10_passes 35 = .ok (.iadd, 1) := by decide +kernel
theorem dX10_passes_36 : decode cX10_passes 36 = .ok (.iaload, 1) := by decide +kernel
theorem dX10_passes_37 : decode cX10_passes 37 = .ok (.iconst 3, 1) := by decide +kernel
theorem dX10_passes_38 : decode cX10_passes 38 = .ok (.iadd, 1) := by decide +kernel
theorem dX10_passes_39 : decode cX10_passes 39 = .ok (.invokestatic 135, 3) := by decide +kernel
theorem dX10_passes_42 : decode cX10_passes 42 = .ok (.iastore, 1) := by decide +kernel
theorem dX10_passes_43 : decode cX10_passes 43 = .ok (.iinc 1 1, 3) := by decide +kernel
theorem dX10_passes_46 : decode cX10_passes 46 = .ok (.goto (-34), 3) := by decide +kernel
theorem dX10_passes_49 : decode cX10_passes 49 = .ok (.iconst 0, 1) := by decide +kernel
theorem dX10_passes_50 : decode cX10_passes 50 = .ok (.istore_n 1, 1) := by decide +kernel
theorem dX10_passes_51 : decode cX10_passes 51 = .ok (.iconst 0, 1) := by decide +kernel
theorem dX10_passes_52 : decode cX10_passes 52 = .ok (.istore_n 2, 1) := by decide +kernel
theorem dX10_passes_53 : decode cX10_passes 53 = .ok (.iload_n 2, 1) := by decide +kernel
theorem dX10_passes_54 : decode cX10_passes 54 = .ok (.aload_n 0, 1) := by decide +kernel
theorem dX10_passes_55 : decode cX10_passes 55 = .ok (.getfield 9, 3) := by decide +kernel
theorem dX10_passes_58 : decode cX10_passes 58 = .ok (.bipush 9, 2) := by decide +kernel
theorem dX10_passes_60 : decode cX10_passes 60 = .ok (.iaload, 1) := by decide +kernel
theorem dX10_passes_61 : decode cX10_passes 61 = .ok (.if_icmp .ge 68, 3) := by decide +kernel
theorem dX10_passes_64 : decode cX10_passes 64 = .ok (.aload_n 0, 1) := by decide +kernel
theorem dX10_passes_65 : decode cX10_passes 65 = .ok (.iload_n 2, 1) := by decide +kernel
theorem dX10_passes_66 : decode cX10_passes 66 = .ok (.iconst 4, 1) := by decide +kernel
theorem dX10_passes_67 : decode cX10_passes 67 = .ok (.invokevirtual 95, 3) := by decide +kernel
theorem dX10_passes_70 : decode cX10_passes 70 = .ok (.iconst 1, 1) := by decide +kernel
theorem dX10_passes_71 : decode cX10_passes 71 = .ok (.if_icmp .ne 7, 3) := by decide +kernel
theorem dX10_passes_74 : decode cX10_passes 74 = .ok (.iconst 1, 1) := by decide +kernel
theorem dX10_passes_75 : decode cX10_passes 75 = .ok (.goto 4, 3) := by decide +kernel
theorem dX10_passes_78 : decode cX10_passes 78 = .ok (.iconst 0, 1) := by decide +kernel
theorem dX10_passes_79 : decode cX10_passes 79 = .ok (.istore_n 3, 1) := by decide +kernel
theorem dX10_passes_80 : decode cX10_passes 80 = .ok (.aload_n 0, 1) := by decide +kernel
theorem dX10_passes_81 : decode cX10_passes 81 = .ok (.getfield 9, 3) := by decide +kernel
theorem dX10_passes_84 : decode cX10_passes 84 = .ok (.aload_n 0, 1) := by decide +kernel
theorem dX10_passes_85 : decode cX10_passes 85 = .ok (.iload_n 2, 1) := by decide +kernel
theorem dX10_passes_86 : decode cX10_passes 86 = .ok (.iconst 3, 1) := by decide +kernel
theorem dX10_passes_87 : decode cX10_passes 87 = .ok (.invokevirtual 80, 3) := by decide +kernel
theorem dX10_passes_90 : decode cX10_passes 90 = .ok (.iload_n 3, 1) := by decide +kernel
theorem dX10_passes_91 : decode cX10_passes 91 = .ok (.ifCond .eq 14, 3) := by decide +kernel
theorem dX10_passes_94 : decode cX10_passes 94 = .ok (.aload_n 0, 1) := by decide +kernel
theorem dX10_passes_95 : decode cX10_passes 95 = .ok (.iload_n 2, 1) := by decide +kernel
theorem dX10_passes_96 : decode cX10_passes 96 = .ok (.iconst 3, 1) := by decide +kernel
theorem dX10_passes_97 : decode cX10_passes 97 = .ok (.invokevirtual 95, 3) := by decide +kernel
theorem dX10_passes_100 : decode cX10_passes 100 = .ok (.iconst 1, 1) := by decide +kernel
theorem dX10_passes_101 : decode cX10_passes 101 = .ok (.iadd, 1) := by decide +kernel
theorem dX10_passes_102 : decode cX10_passes 102 = .ok (.goto 4, 3) := by decide +kernel
theorem dX10_passes_105 : decode cX10_passes 105 = .ok (.iconst 0, 1) := by decide +kernel
theorem dX10_passes_106 : decode cX10_passes 106 = .ok (.iastore, 1) := by decide +kernel
theorem dX10_passes_107 : decode cX10_passes 107 = .ok (.iload_n 1, 1) := by decide +kernel
theorem dX10_passes_108 : decode cX10_passes 108 = .ok (.iload_n 3, 1) := by decide +kernel
theorem dX10_passes_109 : decode cX10_passes 109 = .ok (.ifCond .eq 7, 3) := by decide +kernel
theorem dX10_passes_112 : decode cX10_passes 112 = .ok (.iconst 0, 1) := by decide +kernel
theorem dX10_passes_113 : decode cX10_passes 113 = .ok (.goto 8, 3) := by decide +kernel
theorem dX10_passes_116 : decode cX10_passes 116 = .ok (.aload_n 0, 1) := by decide +kernel
theorem dX10_passes_117 : decode cX10_passes 117 = .ok (.iload_n 2, 1) := by decide +kernel
theorem dX10_passes_118 : decode cX10_passes 118 = .ok (.invokevirtual 163, 3) := by decide +kernel
theorem dX10_passes_121 : decode cX10_passes 121 = .ok (.iadd, 1) := by decide +kernel
theorem dX10_passes_122 : decode cX10_passes 122 = .ok (.istore_n 1, 1) := by decide +kernel
theorem dX10_passes_123 : decode cX10_passes 123 = .ok (.iinc 2 1, 3) := by decide +kernel
theorem dX10_passes_126 : decode cX10_passes 126 = .ok (.goto (-73), 3) := by decide +kernel
theorem dX10_passes_129 : decode cX10_passes 129 = .ok (.iconst 0, 1) := by decide +kernel
theorem dX10_passes_130 : decode cX10_passes 130 = .ok (.istore_n 2, 1) := by decide +kernel
theorem dX10_passes_131 : decode cX10_passes 131 = .ok (.iload_n 2, 1) := by decide +kernel
theorem dX10_passes_132 : decode cX10_passes 132 = .ok (.aload_n 0, 1) := by decide +kernel
theorem dX10_passes_133 : decode cX10_passes 133 = .ok (.getfield 9, 3) := by decide +kernel
theorem dX10_passes_136 : decode cX10_passes 136 = .ok (.bipush 9, 2) := by decide +kernel
theorem dX10_passes_138 : decode cX10_passes 138 = .ok (.iaload, 1) := by decide +kernel
theorem dX10_passes_139 : decode cX10_passes 139 = .ok (.if_icmp .ge 95, 3) := by decide +kernel
theorem dX10_passes_142 : decode cX10_passes 142 = .ok (.aload_n 0, 1) := by decide +kernel
theorem dX10_passes_143 : decode cX10_passes 143 = .ok (.iload_n 2, 1) := by decide +kernel
theorem dX10_passes_144 : decode cX10_passes 144 = .ok (.iconst 3, 1) := by decide +kernel
theorem dX10_passes_145 : decode cX10_passes 145 = .ok (.invokevirtual 95, 3) := by decide +kernel
theorem dX10_passes_148 : decode cX10_passes 148 = .ok (.iconst 3, 1) := by decide +kernel
theorem dX10_passes_149 : decode cX10_passes 149 = .ok (.if_icmp .lt 8, 3) := by decide +kernel
theorem dX10_passes_152 : decode cX10_passes 152 = .ok (.aload_n 0, 1) := by decide +kernel
theorem dX10_passes_153 : decode cX10_passes 153 = .ok (.iload_n 2, 1) := by decide +kernel
theorem dX10_passes_154 : decode cX10_passes 154 = .ok (.invokevirtual 166, 3) := by decide +kernel
theorem dX10_passes_157 : decode cX10_passes 157 = .ok (.aload_n 0, 1) := by decide +kernel
theorem dX10_passes_158 : decode cX10_passes 158 = .ok (.iload_n 2, 1) := by decide +kernel
theorem dX10_passes_159 : decode cX10_passes 159 = .ok (.iconst 2, 1) := by decide +kernel
theorem dX10_passes_160 : decode cX10_passes 160 = .ok (.invokevirtual 95, 3) := by decide +kernel
theorem dX10_passes_163 : decode cX10_passes 163 = .ok (.istore_n 3, 1) := by decide +kernel
theorem dX10_passes_164 : decode cX10_passes 164 = .ok (.aload_n 0, 1) := by decide +kernel
theorem dX10_passes_165 : decode cX10_passes 165 = .ok (.getfield 9, 3) := by decide +kernel
theorem dX10_passes_168 : decode cX10_passes 168 = .ok (.iconst 0, 1) := by decide +kernel
theorem dX10_passes_169 : decode cX10_passes 169 = .ok (.iaload, 1) := by decide +kernel
theorem dX10_passes_170 : decode cX10_passes 170 = .ok (.bipush 7, 2) := by decide +kernel
theorem dX10_passes_172 : decode cX10_passes 172 = .ok (.irem, 1) := by decide +kernel
theorem dX10_passes_173 : decode cX10_passes 173 = .ok (.ifCond .ne 24, 3) := by decide +kernel
theorem dX10_passes_176 : decode cX10_passes 176 = .ok (.iload_n 3, 1) := by decide +kernel
theorem dX10_passes_177 : decode cX10_passes 177 = .ok (.ifCond .le 20, 3) := by decide +kernel
theorem dX10_passes_180 : decode cX10_passes 180 = .ok (.sipush 999, 3) := by decide +kernel
theorem dX10_passes_183 : decode cX10_passes 183 = .ok (.iload_n 3, 1) := by decide +kernel
theorem dX10_passes_184 : decode cX10_passes 184 = .ok (.isub, 1) := by decide +kernel
theorem dX10_passes_185 : decode cX10_passes 185 = .ok (.iload_n 3, 1) := by decide +kernel
theorem dX10_passes_186 : decode cX10_passes 186 = .ok (.bipush 10, 2) := by decide +kernel
theorem dX10_passes_188 : decode cX10_passes 188 = .ok (.idiv, 1) := by decide +kernel
theorem dX10_passes_189 : decode cX10_passes 189 = .ok (.iconst 1, 1) := by decide +kernel
theorem dX10_passes_190 : decode cX10_passes 190 = .ok (.iadd, 1) := by decide +kernel
theorem dX10_passes_191 : decode cX10_passes 191 = .ok (.invokestatic 135, 3) := by decide +kernel
theorem dX10_passes_194 : decode cX10_passes 194 = .ok (.goto 4, 3) := by decide +kernel
theorem dX10_passes_197 : decode cX10_passes 197 = .ok (.iconst 0, 1) := by decide +kernel
theorem dX10_passes_198 : decode cX10_passes 198 = .ok (.istore 4, 2) := by decide +kernel
theorem dX10_passes_200 : decode cX10_passes 200 = .ok (.aload_n 0, 1) := by decide +kernel
theorem dX10_passes_201 : decode cX10_passes 201 = .ok (.getfield 9, 3) := by decide +kernel
theorem dX10_passes_204 : decode cX10_passes 204 = .ok (.aload_n 0, 1) := by decide +kernel
theorem dX10_passes_205 : decode cX10_passes 205 = .ok (.iload_n 2, 1) := by decide +kernel
theorem dX10_passes_206 : decode cX10_passes 206 = .ok (.iconst 2, 1) := by decide +kernel
theorem dX10_passes_207 : decode cX10_passes 207 = .ok (.invokevirtual 80, 3) := by decide +kernel
theorem dX10_passes_210 : decode cX10_passes 210 = .ok (.dup2, 1) := by decide +kernel
theorem dX10_passes_211 : decode cX10_passes 211 = .ok (.iaload, 1) := by decide +kernel
theorem dX10_passes_212 : decode cX10_passes 212 = .ok (.iload 4, 2) := by decide +kernel
theorem dX10_passes_214 : decode cX10_passes 214 = .ok (.iadd, 1) := by decide +kernel
theorem dX10_passes_215 : decode cX10_passes 215 = .ok (.iastore, 1) := by decide +kernel
theorem dX10_passes_216 : decode cX10_passes 216 = .ok (.aload_n 0, 1) := by decide +kernel
theorem dX10_passes_217 : decode cX10_passes 217 = .ok (.getfield 9, 3) := by decide +kernel
theorem dX10_passes_220 : decode cX10_passes 220 = .ok (.bipush 7, 2) := by decide +kernel
theorem dX10_passes_222 : decode cX10_passes 222 = .ok (.dup2, 1) := by decide +kernel
theorem dX10_passes_223 : decode cX10_passes 223 = .ok (.iaload, 1) := by decide +kernel
theorem dX10_passes_224 : decode cX10_passes 224 = .ok (.iload 4, 2) := by decide +kernel
theorem dX10_passes_226 : decode cX10_passes 226 = .ok (.iadd, 1) := by decide +kernel
theorem dX10_passes_227 : decode cX10_passes 227 = .ok (.iastore, 1) := by decide +kernel
theorem dX10_passes_228 : decode cX10_passes 228 = .ok (.iinc 2 1, 3) := by decide +kernel
theorem dX10_passes_231 : decode cX10_passes 231 = .ok (.goto (-100), 3) := by decide +kernel
theorem dX10_passes_234 : decode cX10_passes 234 = .ok (.aload_n 0, 1) := by decide +kernel
theorem dX10_passes_235 : decode cX10_passes 235 = .ok (.getfield 9, 3) := by decide +kernel
theorem dX10_passes_238 : decode cX10_passes 238 = .ok (.iconst 4, 1) := by decide +kernel
theorem dX10_passes_239 : decode cX10_passes 239 = .ok (.dup2, 1) := by decide +kernel
theorem dX10_passes_240 : decode cX10_passes 240 = .ok (.iaload, 1) := by decide +kernel
theorem dX10_passes_241 : decode cX10_passes 241 = .ok (.iload_n 1, 1) := by decide +kernel
theorem dX10_passes_242 : decode cX10_passes 242 = .ok (.iadd, 1) := by decide +kernel
theorem dX10_passes_243 : decode cX10_passes 243 = .ok (.iastore, 1) := by decide +kernel
theorem dX10_passes_244 : decode cX10_passes 244 = .ok (.iload_n 1, 1) := by decide +kernel
theorem dX10_passes_245 : decode cX10_passes 245 = .ok (.ireturn, 1) := by decide +kernel
theorem dX10_waits_0 : decode cX10_waits 0 = .ok (.aload_n 0, 1) := by decide +kernel
theorem dX10_waits_1 : decode cX10_waits 1 = .ok (.iload_n 1, 1) := by decide +kernel
theorem dX10_waits_2 : decode cX10_waits 2 = .ok (.iconst 1, 1) := by decide +kernel
theorem dX10_waits_3 : decode cX10_waits 3 = .ok (.bipush 60, 2) := by decide +kernel
theorem dX10_waits_5 : decode cX10_waits 5 = .ok (.invokestatic 69, 3) := by decide +kernel
theorem dX10_waits_8 : decode cX10_waits 8 = .ok (.invokevirtual 61, 3) := by decide +kernel
theorem dX10_waits_11 : decode cX10_waits 11 = .ok (.ifCond .ne 5, 3) := by decide +kernel
theorem dX10_waits_14 : decode cX10_waits 14 = .ok (.iconst 0, 1) := by decide +kernel
theorem dX10_waits_15 : decode cX10_waits 15 = .ok (.ireturn, 1) := by decide +kernel
theorem dX10_waits_16 : decode cX10_waits 16 = .ok (.iconst 0, 1) := by decide +kernel
theorem dX10_waits_17 : decode cX10_waits 17 = .ok (.istore_n 2, 1) := by decide +kernel
theorem dX10_waits_18 : decode cX10_waits 18 = .ok (.iconst 0, 1) := by decide +kernel
theorem dX10_waits_19 : decode cX10_waits 19 = .ok (.istore_n 3, 1) := by decide +kernel
theorem dX10_waits_20 : decode cX10_waits 20 = .ok (.iload_n 3, 1) := by decide +kernel
theorem dX10_waits_21 : decode cX10_waits 21 = .ok (.iload_n 1, 1) := by decide +kernel
theorem dX10_waits_22 : decode cX10_waits 22 = .ok (.if_icmp .ge 16, 3) := by decide +kernel
theorem dX10_waits_25 : decode cX10_waits 25 = .ok (.iload_n 2, 1) := by decide +kernel
theorem dX10_waits_26 : decode cX10_waits 26 = .ok (.aload_n 0, 1) := by decide +kernel
theorem dX10_waits_27 : decode cX10_waits 27 = .ok (.invokevirtual 169, 3) := by decide +kernel
theorem dX10_waits_30 : decode cX10_waits 30 = .ok (.iadd, 1) := by decide +kernel
theorem dX10_waits_31 : decode cX10_waits 31 = .ok (.istore_n 2, 1) := by decide +kernel
theorem dX10_waits_32 : decode cX10_waits 32 = .ok (.iinc 3 1, 3) := by decide +kernel
theorem dX10_waits_35 : decode cX10_waits 35 = .ok (.goto (-15), 3) := by decide +kernel
theorem dX10_waits_38 : decode cX10_waits 38 = .ok (.iload_n 2, 1) := by decide +kernel
theorem dX10_waits_39 : decode cX10_waits 39 = .ok (.ireturn, 1) := by decide +kernel
theorem dX10_passNights_0 : decode cX10_passNights 0 = .ok (.aload_n 0, 1) := by decide +kernel
theorem dX10_passNights_1 : decode cX10_passNights 1 = .ok (.invokevirtual 102, 3) := by decide +kernel
theorem dX10_passNights_4 : decode cX10_passNights 4 = .ok (.aload_n 0, 1) := by decide +kernel
theorem dX10_passNights_5 : decode cX10_passNights 5 = .ok (.aload_n 0, 1) := by decide +kernel
theorem dX10_passNights_6 : decode cX10_passNights 6 = .ok (.iload_n 1, 1) := by decide +kernel
theorem dX10_passNights_7 : decode cX10_passNights 7 = .ok (.invokevirtual 172, 3) := by decide +kernel
theorem dX10_passNights_10 : decode cX10_passNights 10 = .ok (.invokevirtual 109, 3) := by decide +kernel
theorem dX10_passNights_13 : decode cX10_passNights 13 = .ok (.ireturn, 1) := by decide +kernel
theorem dX10_dust_0 : decode cX10_dust 0 = .ok (.aload_n 0, 1) := by decide +kernel
theorem dX10_dust_1 : decode cX10_dust 1 = .ok (.iload_n 1, 1) := by decide +kernel
theorem dX10_dust_2 : decode cX10_dust 2 = .ok (.invokestatic 121, 3) := by decide +kernel
theorem dX10_dust_5 : decode cX10_dust 5 = .ok (.invokevirtual 61, 3) := by decide +kernel
theorem dX10_dust_8 : decode cX10_dust 8 = .ok (.ifCond .eq 15, 3) := by decide +kernel
theorem dX10_dust_11 : decode cX10_dust 11 = .ok (.aload_n 0, 1) := by decide +kernel
theorem dX10_dust_12 : decode cX10_dust 12 = .ok (.getfield 9, 3) := by decide +kernel
theorem dX10_dust_15 : decode cX10_dust 15 = .ok (.bipush 12, 2) := by decide +kernel
theorem dX10_dust_17 : decode cX10_dust 17 = .ok (.iload_n 1, 1) := by decide +kernel
theorem dX10_dust_18 : decode cX10_dust 18 = .ok (.iadd, 1) := by decide +kernel
theorem dX10_dust_19 : decode cX10_dust 19 = .ok (.iaload, 1) := by decide +kernel
theorem dX10_dust_20 : decode cX10_dust 20 = .ok (.goto 4, 3) := by decide +kernel
theorem dX10_dust_23 : decode cX10_dust 23 = .ok (.iconst 0, 1) := by decide +kernel
theorem dX10_dust_24 : decode cX10_dust 24 = .ok (.ireturn, 1) := by decide +kernel
theorem dX10_roomByDust_0 : decode cX10_roomByDust 0 = .ok (.iconst (-1), 1) := by decide +kernel
theorem dX10_roomByDust_1 : decode cX10_roomByDust 1 = .ok (.istore_n 2, 1) := by decide +kernel
theorem dX10_roomByDust_2 : decode cX10_roomByDust 2 = .ok (.iconst 0, 1) := by decide +kernel
theorem dX10_roomByDust_3 : decode cX10_roomByDust 3 = .ok (.istore_n 3, 1) := by decide +kernel
theorem dX10_roomByDust_4 : decode cX10_roomByDust 4 = .ok (.iload_n 3, 1) := by decide +kernel
theorem dX10_roomByDust_5 : decode cX10_roomByDust 5 = .ok (.bipush 6, 2) := by decide +kernel
theorem dX10_roomByDust_7 : decode cX10_roomByDust 7 = .ok (.if_icmp .ge 88, 3) := by decide +kernel
theorem dX10_roomByDust_10 : decode cX10_roomByDust 10 = .ok (.iconst 0, 1) := by decide +kernel
theorem dX10_roomByDust_11 : decode cX10_roomByDust 11 = .ok (.istore 4, 2) := by decide +kernel
theorem dX10_roomByDust_13 : decode cX10_roomByDust 13 = .ok (.iconst 0, 1) := by decide +kernel
theorem dX10_roomByDust_14 : decode cX10_roomByDust 14 = .ok (.istore 5, 2) := by decide +kernel
theorem dX10_roomByDust_16 : decode cX10_roomByDust 16 = .ok (.iload 5, 2) := by decide +kernel
theorem dX10_roomByDust_18 : decode cX10_roomByDust 18 = .ok (.bipush 6, 2) := by decide +kernel
theorem dX10_roomByDust_20 : decode cX10_roomByDust 20 = .ok (.if_icmp .ge 57, 3) := by decide +kernel
theorem dX10_roomByDust_23 : decode cX10_roomByDust 23 = .ok (.aload_n 0, 1) := by decide +kernel
theorem dX10_roomByDust_24 : decode cX10_roomByDust 24 = .ok (.getfield 9, 3) := by decide +kernel
theorem dX10_roomByDust_27 : decode cX10_roomByDust 27 = .ok (.bipush 12, 2) := by decide +kernel
theorem dX10_roomByDust_29 : decode cX10_roomByDust 29 = .ok (.iload 5, 2) := by decide +kernel
theorem dX10_roomByDust_31 : decode cX10_roomByDust 31 = .ok (.iadd, 1) := by decide +kernel
theorem dX10_roomByDust_32 : decode cX10_roomByDust 32 = .ok (.iaload, 1) := by decide +kernel
theorem dX10_roomByDust_33 : decode cX10_roomByDust 33 = .ok (.aload_n 0, 1) := by decide +kernel
theorem dX10_roomByDust_34 : decode cX10_roomByDust 34 = .ok (.getfield 9, 3) := by decide +kernel
theorem dX10_roomByDust_37 : decode cX10_roomByDust 37 = .ok (.bipush 12, 2) := by decide +kernel
theorem dX10_roomByDust_39 : decode cX10_roomByDust 39 = .ok (.iload_n 3, 1) := by decide +kernel
theorem dX10_roomByDust_40 : decode cX10_roomByDust 40 = .ok (.iadd, 1) := by decide +kernel
theorem dX10_roomByDust_41 : decode cX10_roomByDust 41 = .ok (.iaload, 1) := by decide +kernel
theorem dX10_roomByDust_42 : decode cX10_roomByDust 42 = .ok (.isub, 1) := by decide +kernel
theorem dX10_roomByDust_43 : decode cX10_roomByDust 43 = .ok (.istore 6, 2) := by decide +kernel
theorem dX10_roomByDust_45 : decode cX10_roomByDust 45 = .ok (.iload 4, 2) := by decide +kernel
theorem dX10_roomByDust_47 : decode cX10_roomByDust 47 = .ok (.iload 6, 2) := by decide +kernel
theorem dX10_roomByDust_49 : decode cX10_roomByDust 49 = .ok (.ifCond .gt 14, 3) := by decide +kernel
theorem dX10_roomByDust_52 : decode cX10_roomByDust 52 = .ok (.iload 6, 2) := by decide +kernel
theorem dX10_roomByDust_54 : decode cX10_roomByDust 54 = .ok (.ifCond .ne 13, 3) := by decide +kernel
theorem dX10_roomByDust_57 : decode cX10_roomByDust 57 = .ok (.iload 5, 2) := by decide +kernel
theorem dX10_roomByDust_59 : decode cX10_roomByDust 59 = .ok (.iload_n 3, 1) := by decide +kernel
theorem dX10_roomByDust_60 : decode cX10_roomByDust 60 = .ok (.if_icmp .ge 7, 3) := by decide +kernel
theorem dX10_roomByDust_63 : decode cX10_roomByDust 63 = .ok (.iconst 1, 1) := by decide +kernel
theorem dX10_roomByDust_64 : decode cX10_roomByDust 64 = .ok (.goto 4, 3) := by decide +kernel
theorem dX10_roomByDust_67 : decode cX10_roomByDust 67 = .ok (.iconst 0, 1) := by decide +kernel
theorem dX10_roomByDust_68 : decode cX10_roomByDust 68 = .ok (.iadd, 1) := by decide +kernel
theorem dX10_roomByDust_69 : decode cX10_roomByDust 69 = .ok (.istore 4, 2) := by decide +kernel
theorem dX10_roomByDust_71 : decode cX10_roomByDust 71 = .ok (.iinc 5 1, 3) := by decide +kernel
theorem dX10_roomByDust_74 : decode cX10_roomByDust 74 = .ok (.goto (-58), 3) := by decide +kernel
theorem dX10_roomByDust_77 : decode cX10_roomByDust 77 = .ok (.iload 4, 2) := by decide +kernel
theorem dX10_roomByDust_79 : decode cX10_roomByDust 79 = .ok (.iload_n 1, 1) := by decide +kernel
theorem dX10_roomByDust_80 : decode cX10_roomByDust 80 = .ok (.if_icmp .ne 7, 3) := by decide +kernel
theorem dX10_roomByDust_83 : decode cX10_roomByDust 83 = .ok (.iload_n 3, 1) := by decide +kernel
theorem dX10_roomByDust_84 : decode cX10_roomByDust 84 = .ok (.goto 4, 3) := by decide +kernel
theorem dX10_roomByDust_87 : decode cX10_roomByDust 87 = .ok (.iload_n 2, 1) := by decide +kernel
theorem dX10_roomByDust_88 : decode cX10_roomByDust 88 = .ok (.istore_n 2, 1) := by decide +kernel
theorem dX10_roomByDust_89 : decode cX10_roomByDust 89 = .ok (.iinc 3 1, 3) := by decide +kernel
theorem dX10_roomByDust_92 : decode cX10_roomByDust 92 = .ok (.goto (-88), 3) := by decide +kernel
theorem dX10_roomByDust_95 : decode cX10_roomByDust 95 = .ok (.aload_n 0, 1) := by decide +kernel
theorem dX10_roomByDust_96 : decode cX10_roomByDust 96 = .ok (.iload_n 2, 1) := by decide +kernel
theorem dX10_roomByDust_97 : decode cX10_roomByDust 97 = .ok (.iconst (-1), 1) := by decide +kernel
theorem dX10_roomByDust_98 : decode cX10_roomByDust 98 = .ok (.if_icmp .eq 7, 3) := by decide +kernel
theorem dX10_roomByDust_101 : decode cX10_roomByDust 101 = .ok (.iconst 1, 1) := by decide +kernel
theorem dX10_roomByDust_102 : decode cX10_roomByDust 102 = .ok (.goto 4, 3) := by decide +kernel
theorem dX10_roomByDust_105 : decode cX10_roomByDust 105 = .ok (.iconst 0, 1) := by decide +kernel
theorem dX10_roomByDust_106 : decode cX10_roomByDust 106 = .ok (.invokevirtual 61, 3) := by decide +kernel
theorem dX10_roomByDust_109 : decode cX10_roomByDust 109 = .ok (.ifCond .eq 7, 3) := by decide +kernel
theorem dX10_roomByDust_112 : decode cX10_roomByDust 112 = .ok (.iload_n 2, 1) := by decide +kernel
theorem dX10_roomByDust_113 : decode cX10_roomByDust 113 = .ok (.goto 4, 3) := by decide +kernel
theorem dX10_roomByDust_116 : decode cX10_roomByDust 116 = .ok (.iconst 0, 1) := by decide +kernel
theorem dX10_roomByDust_117 : decode cX10_roomByDust 117 = .ok (.ireturn, 1) := by decide +kernel
theorem dX10_broomCount_0 : decode cX10_broomCount 0 = .ok (.aload_n 0, 1) := by decide +kernel
theorem dX10_broomCount_1 : decode cX10_broomCount 1 = .ok (.iconst 0, 1) := by decide +kernel
theorem dX10_broomCount_2 : decode cX10_broomCount 2 = .ok (.putfield 44, 3) := by decide +kernel
theorem dX10_broomCount_5 : decode cX10_broomCount 5 = .ok (.aload_n 0, 1) := by decide +kernel
theorem dX10_broomCount_6 : decode cX10_broomCount 6 = .ok (.getfield 9, 3) := by decide +kernel
theorem dX10_broomCount_9 : decode cX10_broomCount 9 = .ok (.bipush 8, 2) := by decide +kernel
theorem dX10_broomCount_11 : decode cX10_broomCount 11 = .ok (.iaload, 1) := by decide +kernel
theorem dX10_broomCount_12 : decode cX10_broomCount 12 = .ok (.ireturn, 1) := by decide +kernel
theorem dX10_power_0 : decode cX10_power 0 = .ok (.aload_n 0, 1) := by decide +kernel
theorem dX10_power_1 : decode cX10_power 1 = .ok (.aload_n 0, 1) := by decide +kernel
theorem dX10_power_2 : decode cX10_power 2 = .ok (.iload_n 1, 1) := by decide +kernel
theorem dX10_power_3 : decode cX10_power 3 = .ok (.invokevirtual 73, 3) := by decide +kernel
theorem dX10_power_6 : decode cX10_power 6 = .ok (.invokevirtual 61, 3) := by decide +kernel
theorem dX10_power_9 : decode cX10_power 9 = .ok (.ifCond .eq 12, 3) := by decide +kernel
theorem dX10_power_12 : decode cX10_power 12 = .ok (.aload_n 0, 1) := by decide +kernel
theorem dX10_power_13 : decode cX10_power 13 = .ok (.iload_n 1, 1) := by decide +kernel
theorem dX10_power_14 : decode cX10_power 14 = .ok (.iconst 0, 1) := by decide +kernel
theorem dX10_power_15 : decode cX10_power 15 = .ok (.invokevirtual 87, 3) := by decide +kernel
theorem dX10_power_18 : decode cX10_power 18 = .ok (.goto 4, 3) := by decide +kernel
theorem dX10_power_21 : decode cX10_power 21 = .ok (.iconst 0, 1) := by decide +kernel
theorem dX10_power_22 : decode cX10_power 22 = .ok (.ireturn, 1) := by decide +kernel
theorem dX10_isBanished_0 : decode cX10_isBanished 0 = .ok (.aload_n 0, 1) := by decide +kernel
theorem dX10_isBanished_1 : decode cX10_isBanished 1 = .ok (.aload_n 0, 1) := by decide +kernel
theorem dX10_isBanished_2 : decode cX10_isBanished 2 = .ok (.iload_n 1, 1) := by decide +kernel
theorem dX10_isBanished_3 : decode cX10_isBanished 3 = .ok (.invokevirtual 73, 3) := by decide +kernel
theorem dX10_isBanished_6 : decode cX10_isBanished 6 = .ok (.invokevirtual 61, 3) := by decide +kernel
theorem dX10_isBanished_9 : decode cX10_isBanished 9 = .ok (.ifCond .eq 17, 3) := by decide +kernel
theorem dX10_isBanished_12 : decode cX10_isBanished 12 = .ok (.aload_n 0, 1) := by decide +kernel
theorem dX10_isBanished_13 : decode cX10_isBanished 13 = .ok (.iload_n 1, 1) := by decide +kernel
theorem dX10_isBanished_14 : decode cX10_isBanished 14 = .ok (.iconst 1, 1) := by decide +kernel
theorem dX10_isBanished_15 : decode cX10_isBanished 15 = .ok (.invokevirtual 87, 3) := by decide +kernel
theorem dX10_isBanished_18 : decode cX10_isBanished 18 = .ok (.iconst 1, 1) := by decide +kernel
theorem dX10_isBanished_19 : decode cX10_isBanished 19 = .ok (.if_icmp .ne 7, 3) := by decide +kernel
theorem dX10_isBanished_22 : decode cX10_isBanished 22 = .ok (.iconst 1, 1) := by decide +kernel
theorem dX10_isBanished_23 : decode cX10_isBanished 23 = .ok (.goto 4, 3) := by decide +kernel
theorem dX10_isBanished_26 : decode cX10_isBanished 26 = .ok (.iconst 0, 1) := by decide +kernel
theorem dX10_isBanished_27 : decode cX10_isBanished 27 = .ok (.ireturn, 1) := by decide +kernel
theorem dX10_goblinCount_0 : decode cX10_goblinCount 0 = .ok (.aload_n 0, 1) := by decide +kernel
theorem dX10_goblinCount_1 : decode cX10_goblinCount 1 = .ok (.iconst 0, 1) := by decide +kernel
theorem dX10_goblinCount_2 : decode cX10_goblinCount 2 = .ok (.putfield 44, 3) := by decide +kernel
theorem dX10_goblinCount_5 : decode cX10_goblinCount 5 = .ok (.aload_n 0, 1) := by decide +kernel
theorem dX10_goblinCount_6 : decode cX10_goblinCount 6 = .ok (.getfield 9, 3) := by decide +kernel
theorem dX10_goblinCount_9 : decode cX10_goblinCount 9 = .ok (.bipush 9, 2) := by decide +kernel
theorem dX10_goblinCount_11 : decode cX10_goblinCount 11 = .ok (.iaload, 1) := by decide +kernel
theorem dX10_goblinCount_12 : decode cX10_goblinCount 12 = .ok (.ireturn, 1) := by decide +kernel
theorem dX10_asks_0 : decode cX10_asks 0 = .ok (.aload_n 0, 1) := by decide +kernel
theorem dX10_asks_1 : decode cX10_asks 1 = .ok (.aload_n 0, 1) := by decide +kernel
theorem dX10_asks_2 : decode cX10_asks 2 = .ok (.iload_n 1, 1) := by decide +kernel
theorem dX10_asks_3 : decode cX10_asks 3 = .ok (.invokevirtual 77, 3) := by decide +kernel
theorem dX10_asks_6 : decode cX10_asks 6 = .ok (.invokevirtual 61, 3) := by decide +kernel
theorem dX10_asks_9 : decode cX10_asks 9 = .ok (.ifCond .eq 12, 3) := by decide +kernel
theorem dX10_asks_12 : decode cX10_asks 12 = .ok (.aload_n 0, 1) := by decide +kernel
theorem dX10_asks_13 : decode cX10_asks 13 = .ok (.iload_n 1, 1) := by decide +kernel
theorem dX10_asks_14 : decode cX10_asks 14 = .ok (.iload_n 2, 1) := by decide +kernel
theorem dX10_asks_15 : decode cX10_asks 15 = .ok (.invokevirtual 95, 3) := by decide +kernel
theorem dX10_asks_18 : decode cX10_asks 18 = .ok (.goto 4, 3) := by decide +kernel
theorem dX10_asks_21 : decode cX10_asks 21 = .ok (.iconst 0, 1) := by decide +kernel
theorem dX10_asks_22 : decode cX10_asks 22 = .ok (.ireturn, 1) := by decide +kernel
theorem dX10_strength_0 : decode cX10_strength 0 = .ok (.aload_n 0, 1) := by decide +kernel
theorem dX10_strength_1 : decode cX10_strength 1 = .ok (.iload_n 1, 1) := by decide +kernel
theorem dX10_strength_2 : decode cX10_strength 2 = .ok (.iconst 0, 1) := by decide +kernel
theorem dX10_strength_3 : decode cX10_strength 3 = .ok (.invokevirtual 175, 3) := by decide +kernel
theorem dX10_strength_6 : decode cX10_strength 6 = .ok (.ireturn, 1) := by decide +kernel
theorem dX10_purse_0 : decode cX10_purse 0 = .ok (.aload_n 0, 1) := by decide +kernel
theorem dX10_purse_1 : decode cX10_purse 1 = .ok (.iload_n 1, 1) := by decide +kernel
theorem dX10_purse_2 : decode cX10_purse 2 = .ok (.iconst 1, 1) := by decide +kernel
theorem dX10_purse_3 : decode cX10_purse 3 = .ok (.invokevirtual 175, 3) := by decide +kernel
theorem dX10_purse_6 : decode cX10_purse 6 = .ok (.ireturn, 1) := by decide +kernel
theorem dX10_debt_0 : decode cX10_debt 0 = .ok (.aload_n 0, 1) := by decide +kernel
theorem dX10_debt_1 : decode cX10_debt 1 = .ok (.iload_n 1, 1) := by decide +kernel
theorem dX10_debt_2 : decode cX10_debt 2 = .ok (.iconst 2, 1) := by decide +kernel
theorem dX10_debt_3 : decode cX10_debt 3 = .ok (.invokevirtual 175, 3) := by decide +kernel
theorem dX10_debt_6 : decode cX10_debt 6 = .ok (.ireturn, 1) := by decide +kernel
theorem dX10_skippedNights_0 : decode cX10_skippedNights 0 = .ok (.aload_n 0, 1) := by decide +kernel
theorem dX10_skippedNights_1 : decode cX10_skippedNights 1 = .ok (.iload_n 1, 1) := by decide +kernel
theorem dX10_skippedNights_2 : decode cX10_skippedNights 2 = .ok (.iconst 3, 1) := by decide +kernel
theorem dX10_skippedNights_3 : decode cX10_skippedNights 3 = .ok (.invokevirtual 175, 3) := by decide +kernel
theorem dX10_skippedNights_6 : decode cX10_skippedNights 6 = .ok (.ireturn, 1) := by decide +kernel
theorem dX10_isResting_0 : decode cX10_isResting 0 = .ok (.aload_n 0, 1) := by decide +kernel
theorem dX10_isResting_1 : decode cX10_isResting 1 = .ok (.iload_n 1, 1) := by decide +kernel
theorem dX10_isResting_2 : decode cX10_isResting 2 = .ok (.iconst 4, 1) := by decide +kernel
theorem dX10_isResting_3 : decode cX10_isResting 3 = .ok (.invokevirtual 175, 3) := by decide +kernel
theorem dX10_isResting_6 : decode cX10_isResting 6 = .ok (.iconst 1, 1) := by decide +kernel
theorem dX10_isResting_7 : decode cX10_isResting 7 = .ok (.if_icmp .ne 7, 3) := by decide +kernel
theorem dX10_isResting_10 : decode cX10_isResting 10 = .ok (.iconst 1, 1) := by decide +kernel
theorem dX10_isResting_11 : decode cX10_isResting 11 = .ok (.goto 4, 3) := by decide +kernel
theorem dX10_isResting_14 : decode cX10_isResting 14 = .ok (.iconst 0, 1) := by decide +kernel
theorem dX10_isResting_15 : decode cX10_isResting 15 = .ok (.ireturn, 1) := by decide +kernel
theorem dX10_energy_0 : decode cX10_energy 0 = .ok (.aload_n 0, 1) := by decide +kernel
theorem dX10_energy_1 : decode cX10_energy 1 = .ok (.aload_n 0, 1) := by decide +kernel
theorem dX10_energy_2 : decode cX10_energy 2 = .ok (.iload_n 1, 1) := by decide +kernel
theorem dX10_energy_3 : decode cX10_energy 3 = .ok (.invokevirtual 77, 3) := by decide +kernel
theorem dX10_energy_6 : decode cX10_energy 6 = .ok (.invokevirtual 61, 3) := by decide +kernel
theorem dX10_energy_9 : decode cX10_energy 9 = .ok (.ifCond .eq 11, 3) := by decide +kernel
theorem dX10_energy_12 : decode cX10_energy 12 = .ok (.aload_n 0, 1) := by decide +kernel
theorem dX10_energy_13 : decode cX10_energy 13 = .ok (.iload_n 1, 1) := by decide +kernel
theorem dX10_energy_14 : decode cX10_energy 14 = .ok (.invokevirtual 154, 3) := by decide +kernel
theorem dX10_energy_17 : decode cX10_energy 17 = .ok (.goto 4, 3) := by decide +kernel
theorem dX10_energy_20 : decode cX10_energy 20 = .ok (.iconst 0, 1) := by decide +kernel
theorem dX10_energy_21 : decode cX10_energy 21 = .ok (.ireturn, 1) := by decide +kernel
theorem dX10_goblinByWealth_0 : decode cX10_goblinByWealth 0 = .ok (.iconst (-1), 1) := by decide +kernel
theorem dX10_goblinByWealth_1 : decode cX10_goblinByWealth 1 = .ok (.istore_n 2, 1) := by decide +kernel
theorem dX10_goblinByWealth_2 : decode cX10_goblinByWealth 2 = .ok (.iconst 0, 1) := by decide +kernel
theorem dX10_goblinByWealth_3 : decode cX10_goblinByWealth 3 = .ok (.istore_n 3, 1) := by decide +kernel
theorem dX10_goblinByWealth_4 : decode cX10_goblinByWealth 4 = .ok (.iload_n 3, 1) := by decide +kernel
theorem dX10_goblinByWealth_5 : decode cX10_goblinByWealth 5 = .ok (.aload_n 0, 1) := by decide +kernel
theorem dX10_goblinByWealth_6 : decode cX10_goblinByWealth 6 = .ok (.getfield 9, 3) := by decide +kernel
theorem dX10_goblinByWealth_9 : decode cX10_goblinByWealth 9 = .ok (.bipush 9, 2) := by decide +kernel
theorem dX10_goblinByWealth_11 : decode cX10_goblinByWealth 11 = .ok (.iaload, 1) := by decide +kernel
theorem dX10_goblinByWealth_12 : decode cX10_goblinByWealth 12 = .ok (.if_icmp .ge 128, 3) := by decide +kernel
theorem dX10_goblinByWealth_15 : decode cX10_goblinByWealth 15 = .ok (.iconst 0, 1) := by decide +kernel
theorem dX10_goblinByWealth_16 : decode cX10_goblinByWealth 16 = .ok (.istore 4, 2) := by decide +kernel
theorem dX10_goblinByWealth_18 : decode cX10_goblinByWealth 18 = .ok (.iconst 0, 1) := by decide +kernel
theorem dX10_goblinByWealth_19 : decode cX10_goblinByWealth 19 = .ok (.istore 5, 2) := by decide +kernel
theorem dX10_goblinByWealth_21 : decode cX10_goblinByWealth 21 = .ok (.iload 5, 2) := by decide +kernel
theorem dX10_goblinByWealth_23 : decode cX10_goblinByWealth 23 = .ok (.aload_n 0, 1) := by decide +kernel
theorem dX10_goblinByWealth_24 : decode cX10_goblinByWealth 24 = .ok (.getfield 9, 3) := by decide +kernel
theorem dX10_goblinByWealth_27 : decode cX10_goblinByWealth 27 = .ok (.bipush 9, 2) := by decide +kernel
theorem dX10_goblinByWealth_29 : decode cX10_goblinByWealth 29 = .ok (.iaload, 1) := by decide +kernel
theorem dX10_goblinByWealth_30 : decode cX10_goblinByWealth 30 = .ok (.if_icmp .ge 92, 3) := by decide +kernel
theorem dX10_goblinByWealth_33 : decode cX10_goblinByWealth 33 = .ok (.aload_n 0, 1) := by decide +kernel
theorem dX10_goblinByWealth_34 : decode cX10_goblinByWealth 34 = .ok (.iload 5, 2) := by decide +kernel
theorem dX10_goblinByWealth_36 : decode cX10_goblinByWealth 36 = .ok (.iconst 1, 1) := by decide +kernel
theorem dX10_goblinByWealth_37 : decode cX10_goblinByWealth 37 = .ok (.invokevirtual 95, 3) := by decide +kernel
theorem dX10_goblinByWealth_40 : decode cX10_goblinByWealth 40 = .ok (.aload_n 0, 1) := by decide +kernel
theorem dX10_goblinByWealth_41 : decode cX10_goblinByWealth 41 = .ok (.iload 5, 2) := by decide +kernel
theorem dX10_goblinByWealth_43 : decode cX10_goblinByWealth 43 = .ok (.iconst 2, 1) := by decide +kernel
theorem dX10_goblinByWealth_44 : decode cX10_goblinByWealth 44 = .ok (.invokevirtual 95, 3) := by decide +kernel
theorem dX10_goblinByWealth_47 : decode cX10_goblinByWealth 47 = .ok (.isub, 1) := by decide +kernel
theorem dX10_goblinByWealth_48 : decode cX10_goblinByWealth 48 = .ok (.aload_n 0, 1) := by decide +kernel
theorem dX10_goblinByWealth_49 : decode cX10_goblinByWealth 49 = .ok (.iload_n 3, 1) := by decide +kernel
theorem dX10_goblinByWealth_50 : decode cX10_goblinByWealth 50 = .ok (.iconst 1, 1) := by decide +kernel
theorem dX10_goblinByWealth_51 : decode cX10_goblinByWealth 51 = .ok (.invokevirtual 95, 3) := by decide +kernel
theorem dX10_goblinByWealth_54 : decode cX10_goblinByWealth 54 = .ok (.isub, 1) := by decide +kernel
theorem dX10_goblinByWealth_55 : decode cX10_goblinByWealth 55 = .ok (.aload_n 0, 1) := by decide +kernel
theorem dX10_goblinByWealth_56 : decode cX10_goblinByWealth 56 = .ok (.iload_n 3, 1) := by decide +kernel
theorem dX10_goblinByWealth_57 : decode cX10_goblinByWealth 57 = .ok (.iconst 2, 1) := by decide +kernel
theorem dX10_goblinByWealth_58 : decode cX10_goblinByWealth 58 = .ok (.invokevirtual 95, 3) := by decide +kernel
theorem dX10_goblinByWealth_61 : decode cX10_goblinByWealth 61 = .ok (.iadd, 1) := by decide +kernel
theorem dX10_goblinByWealth_62 : decode cX10_goblinByWealth 62 = .ok (.istore 6, 2) := by decide +kernel
theorem dX10_goblinByWealth_64 : decode cX10_goblinByWealth 64 = .ok (.aload_n 0, 1) := by decide +kernel
theorem dX10_goblinByWealth_65 : decode cX10_goblinByWealth 65 = .ok (.iload 5, 2) := by decide +kernel
theorem dX10_goblinByWealth_67 : decode cX10_goblinByWealth 67 = .ok (.iconst 0, 1) := by decide +kernel
theorem dX10_goblinByWealth_68 : decode cX10_goblinByWealth 68 = .ok (.invokevirtual 95, 3) := by decide +kernel
theorem dX10_goblinByWealth_71 : decode cX10_goblinByWealth 71 = .ok (.aload_n 0, 1) := by decide +kernel
theorem dX10_goblinByWealth_72 : decode cX10_goblinByWealth 72 = .ok (.iload_n 3, 1) := by decide +kernel
theorem dX10_goblinByWealth_73 : decode cX10_goblinByWealth 73 = .ok (.iconst 0, 1) := by decide +kernel
theorem dX10_goblinByWealth_74 : decode cX10_goblinByWealth 74 = .ok (.invokevirtual 95, 3) := by decide +kernel
theorem dX10_goblinByWealth_77 : decode cX10_goblinByWealth 77 = .ok (.isub, 1) := by decide +kernel
theorem dX10_goblinByWealth_78 : decode cX10_goblinByWealth 78 = .ok (.istore 7, 2) := by decide +kernel
theorem dX10_goblinByWealth_80 : decode cX10_goblinByWealth 80 = .ok (.iload 4, 2) := by decide +kernel
theorem dX10_goblinByWealth_82 : decode cX10_goblinByWealth 82 = .ok (.iload 6, 2) := by decide +kernel
theorem dX10_goblinByWealth_84 : decode cX10_goblinByWealth 84 = .ok (.ifCond .gt 24, 3) := by decide +kernel
theorem dX10_goblinByWealth_87 : decode cX10_goblinByWealth 87 = .ok (.iload 6, 2) := by decide +kernel
theorem dX10_goblinByWealth_89 : decode cX10_goblinByWealth 89 = .ok (.ifCond .ne 23, 3) := by decide +kernel
theorem dX10_goblinByWealth_92 : decode cX10_goblinByWealth 92 = .ok (.iload 7, 2) := by decide +kernel
theorem dX10_goblinByWealth_94 : decode cX10_goblinByWealth 94 = .ok (.ifCond .gt 14, 3) := by decide +kernel
theorem dX10_goblinByWealth_97 : decode cX10_goblinByWealth 97 = .ok (.iload 7, 2) := by decide +kernel
theorem dX10_goblinByWealth_99 : decode cX10_goblinByWealth 99 = .ok (.ifCond .ne 13, 3) := by decide +kernel
theorem dX10_goblinByWealth_102 : decode cX10_goblinByWealth 102 = .ok (.iload 5, 2) := by decide +kernel
theorem dX10_goblinByWealth_104 : decode cX10_goblinByWealth 104 = .ok (.iload_n 3, 1) := by decide +kernel
theorem dX10_goblinByWealth_105 : decode cX10_goblinByWealth 105 = .ok (.if_icmp .ge 7, 3) := by decide +kernel
theorem dX10_goblinByWealth_108 : decode cX10_goblinByWealth 108 = .ok (.iconst 1, 1) := by decide +kernel
theorem dX10_goblinByWealth_109 : decode cX10_goblinByWealth 109 = .ok (.goto 4, 3) := by decide +kernel
theorem dX10_goblinByWealth_112 : decode cX10_goblinByWealth 112 = .ok (.iconst 0, 1) := by decide +kernel
theorem dX10_goblinByWealth_113 : decode cX10_goblinByWealth 113 = .ok (.iadd, 1) := by decide +kernel
theorem dX10_goblinByWealth_114 : decode cX10_goblinByWealth 114 = .ok (.istore 4, 2) := by decide +kernel
theorem dX10_goblinByWealth_116 : decode cX10_goblinByWealth 116 = .ok (.iinc 5 1, 3) := by decide +kernel
theorem dX10_goblinByWealth_119 : decode cX10_goblinByWealth 119 = .ok (.goto (-98), 3) := by decide +kernel
theorem dX10_goblinByWealth_122 : decode cX10_goblinByWealth 122 = .ok (.iload 4, 2) := by decide +kernel
theorem dX10_goblinByWealth_124 : decode cX10_goblinByWealth 124 = .ok (.iload_n 1, 1) := by decide +kernel
theorem dX10_goblinByWealth_125 : decode cX10_goblinByWealth 125 = .ok (.if_icmp .ne 7, 3) := by decide +kernel
theorem dX10_goblinByWealth_128 : decode cX10_goblinByWealth 128 = .ok (.iload_n 3, 1) := by decide +kernel
theorem dX10_goblinByWealth_129 : decode cX10_goblinByWealth 129 = .ok (.goto 4, 3) := by decide +kernel
theorem dX10_goblinByWealth_132 : decode cX10_goblinByWealth 132 = .ok (.iload_n 2, 1) := by decide +kernel
theorem dX10_goblinByWealth_133 : decode cX10_goblinByWealth 133 = .ok (.istore_n 2, 1) := by decide +kernel
theorem dX10_goblinByWealth_134 : decode cX10_goblinByWealth 134 = .ok (.iinc 3 1, 3) := by decide +kernel
theorem dX10_goblinByWealth_137 : decode cX10_goblinByWealth 137 = .ok (.goto (-133), 3) := by decide +kernel
theorem dX10_goblinByWealth_140 : decode cX10_goblinByWealth 140 = .ok (.aload_n 0, 1) := by decide +kernel
theorem dX10_goblinByWealth_141 : decode cX10_goblinByWealth 141 = .ok (.iload_n 2, 1) := by decide +kernel
theorem dX10_goblinByWealth_142 : decode cX10_goblinByWealth 142 = .ok (.iconst (-1), 1) := by decide +kernel
theorem dX10_goblinByWealth_143 : decode cX10_goblinByWealth 143 = .ok (.if_icmp .eq 7, 3) := by decide +kernel
theorem dX10_goblinByWealth_146 : decode cX10_goblinByWealth 146 = .ok (.iconst 1, 1) := by decide +kernel
theorem dX10_goblinByWealth_147 : decode cX10_goblinByWealth 147 = .ok (.goto 4, 3) := by decide +kernel
theorem dX10_goblinByWealth_150 : decode cX10_goblinByWealth 150 = .ok (.iconst 0, 1) := by decide +kernel
theorem dX10_goblinByWealth_151 : decode cX10_goblinByWealth 151 = .ok (.invokevirtual 61, 3) := by decide +kernel
theorem dX10_goblinByWealth_154 : decode cX10_goblinByWealth 154 = .ok (.ifCond .eq 7, 3) := by decide +kernel
theorem dX10_goblinByWealth_157 : decode cX10_goblinByWealth 157 = .ok (.iload_n 2, 1) := by decide +kernel
theorem dX10_goblinByWealth_158 : decode cX10_goblinByWealth 158 = .ok (.goto 4, 3) := by decide +kernel
theorem dX10_goblinByWealth_161 : decode cX10_goblinByWealth 161 = .ok (.iconst 0, 1) := by decide +kernel
theorem dX10_goblinByWealth_162 : decode cX10_goblinByWealth 162 = .ok (.ireturn, 1) := by decide +kernel
theorem dX10_bestOf_0 : decode cX10_bestOf 0 = .ok (.aload_n 0, 1) := by decide +kernel
theorem dX10_bestOf_1 : decode cX10_bestOf 1 = .ok (.aload_n 0, 1) := by decide +kernel
theorem dX10_bestOf_2 : decode cX10_bestOf 2 = .ok (.iload_n 1, 1) := by decide +kernel
theorem dX10_bestOf_3 : decode cX10_bestOf 3 = .ok (.invokevirtual 77, 3) := by decide +kernel
theorem dX10_bestOf_6 : decode cX10_bestOf 6 = .ok (.invokevirtual 61, 3) := by decide +kernel
theorem dX10_bestOf_9 : decode cX10_bestOf 9 = .ok (.ifCond .ne 5, 3) := by decide +kernel
theorem dX10_bestOf_12 : decode cX10_bestOf 12 = .ok (.iconst 0, 1) := by decide +kernel
theorem dX10_bestOf_13 : decode cX10_bestOf 13 = .ok (.ireturn, 1) := by decide +kernel
theorem dX10_bestOf_14 : decode cX10_bestOf 14 = .ok (.aload_n 0, 1) := by decide +kernel
theorem dX10_bestOf_15 : decode cX10_bestOf 15 = .ok (.iload_n 1, 1) := by decide +kernel
theorem dX10_bestOf_16 : decode cX10_bestOf 16 = .ok (.invokevirtual 154, 3) := by decide +kernel
theorem dX10_bestOf_19 : decode cX10_bestOf 19 = .ok (.istore_n 2, 1) := by decide +kernel
theorem dX10_bestOf_20 : decode cX10_bestOf 20 = .ok (.iconst 0, 1) := by decide +kernel
theorem dX10_bestOf_21 : decode cX10_bestOf 21 = .ok (.istore_n 3, 1) := by decide +kernel
theorem dX10_bestOf_22 : decode cX10_bestOf 22 = .ok (.iload_n 3, 1) := by decide +kernel
theorem dX10_bestOf_23 : decode cX10_bestOf 23 = .ok (.iload_n 2, 1) := by decide +kernel
theorem dX10_bestOf_24 : decode cX10_bestOf 24 = .ok (.if_icmp .gt 16, 3) := by decide +kernel
theorem dX10_bestOf_27 : decode cX10_bestOf 27 = .ok (.aload_n 0, 1) := by decide +kernel
theorem dX10_bestOf_28 : decode cX10_bestOf 28 = .ok (.getfield 32, 3) := by decide +kernel
theorem dX10_bestOf_31 : decode cX10_bestOf 31 = .ok (.iload_n 3, 1) := by decide +kernel
theorem dX10_bestOf_32 : decode cX10_bestOf 32 = .ok (.iconst 0, 1) := by decide +kernel
theorem dX10_bestOf_33 : decode cX10_bestOf 33 = .ok (.iastore, 1) := by decide +kernel
theorem dX10_bestOf_34 : decode cX10_bestOf 34 = .ok (.iinc 3 1, 3) := by decide +kernel
theorem dX10_bestOf_37 : decode cX10_bestOf 37 = .ok (.goto (-15), 3) := by decide +kernel
theorem dX10_bestOf_40 : decode cX10_bestOf 40 = .ok (.iconst 0, 1) := by decide +kernel
theorem dX10_bestOf_41 : decode cX10_bestOf 41 = .ok (.istore_n 3, 1) := by decide +kernel
theorem dX10_bestOf_42 : decode cX10_bestOf 42 = .ok (.iload_n 3, 1) := by decide +kernel
theorem dX10_bestOf_43 : decode cX10_bestOf 43 = .ok (.aload_n 0, 1) := by decide +kernel
theorem dX10_bestOf_44 : decode cX10_bestOf 44 = .ok (.getfield 9, 3) := by decide +kernel
theorem dX10_bestOf_47 : decode cX10_bestOf 47 = .ok (.bipush 11, 2) := by decide +kernel
theorem dX10_bestOf_49 : decode cX10_bestOf 49 = .ok (.iaload, 1) := by decide +kernel
theorem dX10_bestOf_50 : decode cX10_bestOf 50 = .ok (.if_icmp .ge 77, 3) := by decide +kernel
theorem dX10_bestOf_53 : decode cX10_bestOf 53 = .ok (.iload_n 2, 1) := by decide +kernel
theorem dX10_bestOf_54 : decode cX10_bestOf 54 = .ok (.istore 4, 2) := by decide +kernel
theorem dX10_bestOf_56 : decode cX10_bestOf 56 = .ok (.iload 4, 2) := by decide +kernel
theorem dX10_bestOf_58 : decode cX10_bestOf 58 = .ok (.aload_n 0, 1) := by decide +kernel
theorem dX10_bestOf_59 : decode cX10_bestOf 59 = .ok (.iload_n 3, 1) := by decide +kernel
theorem dX10_bestOf_60 : decode cX10_bestOf 60 = .ok (.iconst 4, 1) := by decide +kernel
theorem dX10_bestOf_61 : decode cX10_bestOf 61 = .ok (.invokevirtual 84, 3) := by decide +kernel
theorem dX10_bestOf_64 : decode cX10_bestOf 64 = .ok (.if_icmp .lt 57, 3) := by decide +kernel
theorem dX10_bestOf_67 : decode cX10_bestOf 67 = .ok (.aload_n 0, 1) := by decide +kernel
theorem dX10_bestOf_68 : decode cX10_bestOf 68 = .ok (.iload_n 3, 1) := by decide +kernel
theorem dX10_bestOf_69 : decode cX10_bestOf 69 = .ok (.iconst 1, 1) := by decide +kernel
theorem dX10_bestOf_70 : decode cX10_bestOf 70 = .ok (.invokevirtual 84, 3) := by decide +kernel
theorem dX10_bestOf_73 : decode cX10_bestOf 73 = .ok (.iload_n 1, 1) := by decide +kernel
theorem dX10_bestOf_74 : decode cX10_bestOf 74 = .ok (.if_icmp .ne 47, 3) := by decide +kernel
theorem dX10_bestOf_77 : decode cX10_bestOf 77 = .ok (.aload_n 0, 1) := by decide +kernel
theorem dX10_bestOf_78 : decode cX10_bestOf 78 = .ok (.getfield 32, 3) := by decide +kernel
theorem dX10_bestOf_81 : decode cX10_bestOf 81 = .ok (.iload 4, 2) := by decide +kernel
theorem dX10_bestOf_83 : decode cX10_bestOf 83 = .ok (.aload_n 0, 1) := by decide +kernel
theorem dX10_bestOf_84 : decode cX10_bestOf 84 = .ok (.getfield 32, 3) := by decide +kernel
theorem dX10_bestOf_87 : decode cX10_bestOf 87 = .ok (.iload 4, 2) := by decide +kernel
theorem dX10_bestOf_89 : decode cX10_bestOf 89 = .ok (.iaload, 1) := by decide +kernel
theorem dX10_bestOf_90 : decode cX10_bestOf 90 = .ok (.aload_n 0, 1) := by decide +kernel
theorem dX10_bestOf_91 : decode cX10_bestOf 91 = .ok (.getfield 32, 3) := by decide +kernel
theorem dX10_bestOf_94 : decode cX10_bestOf 94 = .ok (.iload 4, 2) := by decide +kernel
theorem dX10_bestOf_96 : decode cX10_bestOf 96 = .ok (.aload_n 0, 1) := by decide +kernel
theorem dX10_bestOf_97 : decode cX10_bestOf 97 = .ok (.iload_n 3, 1) := by decide +kernel
theorem dX10_bestOf_98 : decode cX10_bestOf 98 = .ok (.iconst 4, 1) := by decide +kernel
theorem dX10_bestOf_99 : decode cX10_bestOf 99 = .ok (.invokevirtual 84, 3) := by decide +kernel
theorem dX10_bestOf_102 : decode cX10_bestOf 102 = .ok (.isub, 1) := by decide +kernel
theorem dX10_bestOf_103 : decode cX10_bestOf 103 = .ok (.iaload, 1) := by decide +kernel
theorem dX10_bestOf_104 : decode cX10_bestOf 104 = .ok (.aload_n 0, 1) := by decide +kernel
theorem dX10_bestOf_105 : decode cX10_bestOf 105 = .ok (.iload_n 3, 1) := by decide +kernel
theorem dX10_bestOf_106 : decode cX10_bestOf 106 = .ok (.iconst 3, 1) := by decide +kernel
theorem dX10_bestOf_107 : decode cX10_bestOf 107 = .ok (.invokevirtual 84, 3) := by decide +kernel
theorem dX10_bestOf_110 : decode cX10_bestOf 110 = .ok (.iadd, 1) := by decide +kernel
theorem dX10_bestOf_111 : decode cX10_bestOf 111 = .ok (.invokestatic 90, 3) := by decide +kernel
theorem dX10_bestOf_114 : decode cX10_bestOf 114 = .ok (.iastore, 1) := by decide +kernel
theorem dX10_bestOf_115 : decode cX10_bestOf 115 = .ok (.iinc 4 (-1), 3) := by decide +kernel
theorem dX10_bestOf_118 : decode cX10_bestOf 118 = .ok (.goto (-62), 3) := by decide +kernel
theorem dX10_bestOf_121 : decode cX10_bestOf 121 = .ok (.iinc 3 1, 3) := by decide +kernel
theorem dX10_bestOf_124 : decode cX10_bestOf 124 = .ok (.goto (-82), 3) := by decide +kernel
theorem dX10_bestOf_127 : decode cX10_bestOf 127 = .ok (.aload_n 0, 1) := by decide +kernel
theorem dX10_bestOf_128 : decode cX10_bestOf 128 = .ok (.getfield 32, 3) := by decide +kernel
theorem dX10_bestOf_131 : decode cX10_bestOf 131 = .ok (.iload_n 2, 1) := by decide +kernel
theorem dX10_bestOf_132 : decode cX10_bestOf 132 = .ok (.iaload, 1) := by decide +kernel
theorem dX10_bestOf_133 : decode cX10_bestOf 133 = .ok (.ireturn, 1) := by decide +kernel
theorem dX10_bestWages_0 : decode cX10_bestWages 0 = .ok (.aload_n 0, 1) := by decide +kernel
theorem dX10_bestWages_1 : decode cX10_bestWages 1 = .ok (.iload_n 1, 1) := by decide +kernel
theorem dX10_bestWages_2 : decode cX10_bestWages 2 = .ok (.invokevirtual 178, 3) := by decide +kernel
theorem dX10_bestWages_5 : decode cX10_bestWages 5 = .ok (.ireturn, 1) := by decide +kernel
theorem dX10_bestWagesByTable_0 : decode cX10_bestWagesByTable 0 = .ok (.aload_n 0, 1) := by decide +kernel
theorem dX10_bestWagesByTable_1 : decode cX10_bestWagesByTable 1 = .ok (.iload_n 1, 1) := by decide +kernel
theorem dX10_bestWagesByTable_2 : decode cX10_bestWagesByTable 2 = .ok (.invokevirtual 178, 3) := by decide +kernel
theorem dX10_bestWagesByTable_5 : decode cX10_bestWagesByTable 5 = .ok (.ireturn, 1) := by decide +kernel
theorem dX10_openContracts_0 : decode cX10_openContracts 0 = .ok (.aload_n 0, 1) := by decide +kernel
theorem dX10_openContracts_1 : decode cX10_openContracts 1 = .ok (.iconst 0, 1) := by decide +kernel
theorem dX10_openContracts_2 : decode cX10_openContracts 2 = .ok (.putfield 44, 3) := by decide +kernel
theorem dX10_openContracts_5 : decode cX10_openContracts 5 = .ok (.aload_n 0, 1) := by decide +kernel
theorem dX10_openContracts_6 : decode cX10_openContracts 6 = .ok (.getfield 9, 3) := by decide +kernel
theorem dX10_openContracts_9 : decode cX10_openContracts 9 = .ok (.bipush 11, 2) := by decide +kernel
theorem dX10_openContracts_11 : decode cX10_openContracts 11 = .ok (.iaload, 1) := by decide +kernel
theorem dX10_openContracts_12 : decode cX10_openContracts 12 = .ok (.ireturn, 1) := by decide +kernel
theorem dX10_contractAt_0 : decode cX10_contractAt 0 = .ok (.aload_n 0, 1) := by decide +kernel
theorem dX10_contractAt_1 : decode cX10_contractAt 1 = .ok (.iload_n 1, 1) := by decide +kernel
theorem dX10_contractAt_2 : decode cX10_contractAt 2 = .ok (.iconst 0, 1) := by decide +kernel
theorem dX10_contractAt_3 : decode cX10_contractAt 3 = .ok (.aload_n 0, 1) := by decide +kernel
theorem dX10_contractAt_4 : decode cX10_contractAt 4 = .ok (.getfield 9, 3) := by decide +kernel
theorem dX10_contractAt_7 : decode cX10_contractAt 7 = .ok (.bipush 11, 2) := by decide +kernel
theorem dX10_contractAt_9 : decode cX10_contractAt 9 = .ok (.iaload, 1) := by decide +kernel
theorem dX10_contractAt_10 : decode cX10_contractAt 10 = .ok (.iconst 1, 1) := by decide +kernel
theorem dX10_contractAt_11 : decode cX10_contractAt 11 = .ok (.isub, 1) := by decide +kernel
theorem dX10_contractAt_12 : decode cX10_contractAt 12 = .ok (.invokestatic 69, 3) := by decide +kernel
theorem dX10_contractAt_15 : decode cX10_contractAt 15 = .ok (.invokevirtual 61, 3) := by decide +kernel
theorem dX10_contractAt_18 : decode cX10_contractAt 18 = .ok (.ifCond .eq 12, 3) := by decide +kernel
theorem dX10_contractAt_21 : decode cX10_contractAt 21 = .ok (.aload_n 0, 1) := by decide +kernel
theorem dX10_contractAt_22 : decode cX10_contractAt 22 = .ok (.iload_n 1, 1) := by decide +kernel
theorem dX10_contractAt_23 : decode cX10_contractAt 23 = .ok (.iconst 0, 1) := by decide +kernel
theorem dX10_contractAt_24 : decode cX10_contractAt 24 = .ok (.invokevirtual 84, 3) := by decide +kernel
theorem dX10_contractAt_27 : decode cX10_contractAt 27 = .ok (.goto 4, 3) := by decide +kernel
theorem dX10_contractAt_30 : decode cX10_contractAt 30 = .ok (.iconst 0, 1) := by decide +kernel
theorem dX10_contractAt_31 : decode cX10_contractAt 31 = .ok (.ireturn, 1) := by decide +kernel
theorem dX10_asksContract_0 : decode cX10_asksContract 0 = .ok (.aload_n 0, 1) := by decide +kernel
theorem dX10_asksContract_1 : decode cX10_asksContract 1 = .ok (.iload_n 1, 1) := by decide +kernel
theorem dX10_asksContract_2 : decode cX10_asksContract 2 = .ok (.invokevirtual 132, 3) := by decide +kernel
theorem dX10_asksContract_5 : decode cX10_asksContract 5 = .ok (.istore_n 3, 1) := by decide +kernel
theorem dX10_asksContract_6 : decode cX10_asksContract 6 = .ok (.aload_n 0, 1) := by decide +kernel
theorem dX10_asksContract_7 : decode cX10_asksContract 7 = .ok (.iload_n 3, 1) := by decide +kernel
theorem dX10_asksContract_8 : decode cX10_asksContract 8 = .ok (.iconst (-1), 1) := by decide +kernel
theorem dX10_asksContract_9 : decode cX10_asksContract 9 = .ok (.if_icmp .eq 7, 3) := by decide +kernel
theorem dX10_asksContract_12 : decode cX10_asksContract 12 = .ok (.iconst 1, 1) := by decide +kernel
theorem dX10_asksContract_13 : decode cX10_asksContract 13 = .ok (.goto 4, 3) := by decide +kernel
theorem dX10_asksContract_16 : decode cX10_asksContract 16 = .ok (.iconst 0, 1) := by decide +kernel
theorem dX10_asksContract_17 : decode cX10_asksContract 17 = .ok (.invokevirtual 61, 3) := by decide +kernel
theorem dX10_asksContract_20 : decode cX10_asksContract 20 = .ok (.ifCond .eq 12, 3) := by decide +kernel
theorem dX10_asksContract_23 : decode cX10_asksContract 23 = .ok (.aload_n 0, 1) := by decide +kernel
theorem dX10_asksContract_24 : decode cX10_asksContract 24 = .ok (.iload_n 3, 1) := by decide +kernel
theorem dX10_asksContract_25 : decode cX10_asksContract 25 = .ok (.iload_n 2, 1) := by decide +kernel
theorem dX10_asksContract_26 : decode cX10_asksContract 26 = .ok (.invokevirtual 84, 3) := by decide +kernel
theorem dX10_asksContract_29 : decode cX10_asksContract 29 = .ok (.goto 4, 3) := by decide +kernel
theorem dX10_asksContract_32 : decode cX10_asksContract 32 = .ok (.iconst 0, 1) := by decide +kernel
theorem dX10_asksContract_33 : decode cX10_asksContract 33 = .ok (.ireturn, 1) := by decide +kernel
theorem dX10_goblinOf_0 : decode cX10_goblinOf 0 = .ok (.aload_n 0, 1) := by decide +kernel
theorem dX10_goblinOf_1 : decode cX10_goblinOf 1 = .ok (.iload_n 1, 1) := by decide +kernel
theorem dX10_goblinOf_2 : decode cX10_goblinOf 2 = .ok (.iconst 1, 1) := by decide +kernel
theorem dX10_goblinOf_3 : decode cX10_goblinOf 3 = .ok (.invokevirtual 181, 3) := by decide +kernel
theorem dX10_goblinOf_6 : decode cX10_goblinOf 6 = .ok (.ireturn, 1) := by decide +kernel
theorem dX10_roomOf_0 : decode cX10_roomOf 0 = .ok (.aload_n 0, 1) := by decide +kernel
theorem dX10_roomOf_1 : decode cX10_roomOf 1 = .ok (.iload_n 1, 1) := by decide +kernel
theorem dX10_roomOf_2 : decode cX10_roomOf 2 = .ok (.iconst 2, 1) := by decide +kernel
theorem dX10_roomOf_3 : decode cX10_roomOf 3 = .ok (.invokevirtual 181, 3) := by decide +kernel
theorem dX10_roomOf_6 : decode cX10_roomOf 6 = .ok (.ireturn, 1) := by decide +kernel
theorem dX10_wage_0 : decode cX10_wage 0 = .ok (.aload_n 0, 1) := by decide +kernel
theorem dX10_wage_1 : decode cX10_wage 1 = .ok (.iload_n 1, 1) := by decide +kernel
theorem dX10_wage_2 : decode cX10_wage 2 = .ok (.iconst 3, 1) := by decide +kernel
theorem dX10_wage_3 : decode cX10_wage 3 = .ok (.invokevirtual 181, 3) := by decide +kernel
theorem dX10_wage_6 : decode cX10_wage 6 = .ok (.ireturn, 1) := by decide +kernel
theorem dX10_effort_0 : decode cX10_effort 0 = .ok (.aload_n 0, 1) := by decide +kernel
theorem dX10_effort_1 : decode cX10_effort 1 = .ok (.iload_n 1, 1) := by decide +kernel
theorem dX10_effort_2 : decode cX10_effort 2 = .ok (.iconst 4, 1) := by decide +kernel
theorem dX10_effort_3 : decode cX10_effort 3 = .ok (.invokevirtual 181, 3) := by decide +kernel
theorem dX10_effort_6 : decode cX10_effort 6 = .ok (.ireturn, 1) := by decide +kernel
theorem dX10_nightsUntilDone_0 : decode cX10_nightsUntilDone 0 = .ok (.aload_n 0, 1) := by decide +kernel
theorem dX10_nightsUntilDone_1 : decode cX10_nightsUntilDone 1 = .ok (.iload_n 1, 1) := by decide +kernel
theorem dX10_nightsUntilDone_2 : decode cX10_nightsUntilDone 2 = .ok (.invokevirtual 132, 3) := by decide +kernel
theorem dX10_nightsUntilDone_5 : decode cX10_nightsUntilDone 5 = .ok (.iconst (-1), 1) := by decide +kernel
theorem dX10_nightsUntilDone_6 : decode cX10_nightsUntilDone 6 = .ok (.if_icmp .eq 7, 3) := by decide +kernel
theorem dX10_nightsUntilDone_9 : decode cX10_nightsUntilDone 9 = .ok (.iconst 1, 1) := by decide +kernel
theorem dX10_nightsUntilDone_10 : decode cX10_nightsUntilDone 10 = .ok (.goto 4, 3) := by decide +kernel
theorem dX10_nightsUntilDone_13 : decode cX10_nightsUntilDone 13 = .ok (.iconst 0, 1) := by decide +kernel
theorem dX10_nightsUntilDone_14 : decode cX10_nightsUntilDone 14 = .ok (.istore_n 2, 1) := by decide +kernel
theorem dX10_nightsUntilDone_15 : decode cX10_nightsUntilDone 15 = .ok (.iconst (-1), 1) := by decide +kernel
theorem dX10_nightsUntilDone_16 : decode cX10_nightsUntilDone 16 = .ok (.istore_n 3, 1) := by decide +kernel
theorem dX10_nightsUntilDone_17 : decode cX10_nightsUntilDone 17 = .ok (.aload_n 0, 1) := by decide +kernel
theorem dX10_nightsUntilDone_18 : decode cX10_nightsUntilDone 18 = .ok (.getfield 9, 3) := by decide +kernel
theorem dX10_nightsUntilDone_21 : decode cX10_nightsUntilDone 21 = .ok (.iconst 0, 1) := by decide +kernel
theorem dX10_nightsUntilDone_22 : decode cX10_nightsUntilDone 22 = .ok (.aload_n 0, 1) := by decide +kernel
theorem dX10_nightsUntilDone_23 : decode cX10_nightsUntilDone 23 = .ok (.getfield 16, 3) := by decide +kernel
theorem dX10_nightsUntilDone_26 : decode cX10_nightsUntilDone 26 = .ok (.iconst 0, 1) := by decide +kernel
theorem dX10_nightsUntilDone_27 : decode cX10_nightsUntilDone 27 = .ok (.invokestatic 51, 3) := by decide +kernel
theorem dX10_nightsUntilDone_30 : decode cX10_nightsUntilDone 30 = .ok (.iconst 1, 1) := by decide +kernel
theorem dX10_nightsUntilDone_31 : decode cX10_nightsUntilDone 31 = .ok (.istore 4, 2) := by decide +kernel
theorem dX10_nightsUntilDone_33 : decode cX10_nightsUntilDone 33 = .ok (.iload 4, 2) := by decide +kernel
theorem dX10_nightsUntilDone_35 : decode cX10_nightsUntilDone 35 = .ok (.bipush 60, 2) := by decide +kernel
theorem dX10_nightsUntilDone_37 : decode cX10_nightsUntilDone 37 = .ok (.if_icmp .gt 70, 3) := by decide +kernel
theorem dX10_nightsUntilDone_40 : decode cX10_nightsUntilDone 40 = .ok (.aload_n 0, 1) := by decide +kernel
theorem dX10_nightsUntilDone_41 : decode cX10_nightsUntilDone 41 = .ok (.iload_n 1, 1) := by decide +kernel
theorem dX10_nightsUntilDone_42 : decode cX10_nightsUntilDone 42 = .ok (.invokevirtual 132, 3) := by decide +kernel
theorem dX10_nightsUntilDone_45 : decode cX10_nightsUntilDone 45 = .ok (.iconst (-1), 1) := by decide +kernel
theorem dX10_nightsUntilDone_46 : decode cX10_nightsUntilDone 46 = .ok (.if_icmp .eq 61, 3) := by decide +kernel
theorem dX10_nightsUntilDone_49 : decode cX10_nightsUntilDone 49 = .ok (.aload_n 0, 1) := by decide +kernel
theorem dX10_nightsUntilDone_50 : decode cX10_nightsUntilDone 50 = .ok (.getfield 9, 3) := by decide +kernel
theorem dX10_nightsUntilDone_53 : decode cX10_nightsUntilDone 53 = .ok (.iconst 5, 1) := by decide +kernel
theorem dX10_nightsUntilDone_54 : decode cX10_nightsUntilDone 54 = .ok (.iaload, 1) := by decide +kernel
theorem dX10_nightsUntilDone_55 : decode cX10_nightsUntilDone 55 = .ok (.istore 5, 2) := by decide +kernel
theorem dX10_nightsUntilDone_57 : decode cX10_nightsUntilDone 57 = .ok (.aload_n 0, 1) := by decide +kernel
theorem dX10_nightsUntilDone_58 : decode cX10_nightsUntilDone 58 = .ok (.invokevirtual 169, 3) := by decide +kernel
theorem dX10_nightsUntilDone_61 : decode cX10_nightsUntilDone 61 = .ok (.istore 6, 2) := by decide +kernel
theorem dX10_nightsUntilDone_63 : decode cX10_nightsUntilDone 63 = .ok (.aload_n 0, 1) := by decide +kernel
theorem dX10_nightsUntilDone_64 : decode cX10_nightsUntilDone 64 = .ok (.iload_n 1, 1) := by decide +kernel
theorem dX10_nightsUntilDone_65 : decode cX10_nightsUntilDone 65 = .ok (.invokevirtual 132, 3) := by decide +kernel
theorem dX10_nightsUntilDone_68 : decode cX10_nightsUntilDone 68 = .ok (.iconst (-1), 1) := by decide +kernel
theorem dX10_nightsUntilDone_69 : decode cX10_nightsUntilDone 69 = .ok (.if_icmp .ne 7, 3) := by decide +kernel
theorem dX10_nightsUntilDone_72 : decode cX10_nightsUntilDone 72 = .ok (.iconst 1, 1) := by decide +kernel
theorem dX10_nightsUntilDone_73 : decode cX10_nightsUntilDone 73 = .ok (.goto 4, 3) := by decide +kernel
theorem dX10_nightsUntilDone_76 : decode cX10_nightsUntilDone 76 = .ok (.iconst 0, 1) := by decide +kernel
theorem dX10_nightsUntilDone_77 : decode cX10_nightsUntilDone 77 = .ok (.istore 7, 2) := by decide +kernel
theorem dX10_nightsUntilDone_79 : decode cX10_nightsUntilDone 79 = .ok (.iload 7, 2) := by decide +kernel
theorem dX10_nightsUntilDone_81 : decode cX10_nightsUntilDone 81 = .ok (.ifCond .eq 18, 3) := by decide +kernel
theorem dX10_nightsUntilDone_84 : decode cX10_nightsUntilDone 84 = .ok (.aload_n 0, 1) := by decide +kernel
theorem dX10_nightsUntilDone_85 : decode cX10_nightsUntilDone 85 = .ok (.iload_n 1, 1) := by decide +kernel
theorem dX10_nightsUntilDone_86 : decode cX10_nightsUntilDone 86 = .ok (.iload 5, 2) := by decide +kernel
theorem dX10_nightsUntilDone_88 : decode cX10_nightsUntilDone 88 = .ok (.invokevirtual 184, 3) := by decide +kernel
theorem dX10_nightsUntilDone_91 : decode cX10_nightsUntilDone 91 = .ok (.ifCond .ne 8, 3) := by decide +kernel
theorem dX10_nightsUntilDone_94 : decode cX10_nightsUntilDone 94 = .ok (.iload 4, 2) := by decide +kernel
theorem dX10_nightsUntilDone_96 : decode cX10_nightsUntilDone 96 = .ok (.goto 4, 3) := by decide +kernel
theorem dX10_nightsUntilDone_99 : decode cX10_nightsUntilDone 99 = .ok (.iload_n 3, 1) := by decide +kernel
theorem dX10_nightsUntilDone_100 : decode cX10_nightsUntilDone 100 = .ok (.istore_n 3, 1) := by decide +kernel
theorem dX10_nightsUntilDone_101 : decode cX10_nightsUntilDone 101 = .ok (.iinc 4 1, 3) := by decide +kernel
theorem dX10_nightsUntilDone_104 : decode cX10_nightsUntilDone 104 = .ok (.goto (-71), 3) := by decide +kernel
theorem dX10_nightsUntilDone_107 : decode cX10_nightsUntilDone 107 = .ok (.aload_n 0, 1) := by decide +kernel
theorem dX10_nightsUntilDone_108 : decode cX10_nightsUntilDone 108 = .ok (.getfield 16, 3) := by decide +kernel
theorem dX10_nightsUntilDone_111 : decode cX10_nightsUntilDone 111 = .ok (.iconst 0, 1) := by decide +kernel
theorem dX10_nightsUntilDone_112 : decode cX10_nightsUntilDone 112 = .ok (.aload_n 0, 1) := by decide +kernel
theorem dX10_nightsUntilDone_113 : decode cX10_nightsUntilDone 113 = .ok (.getfield 9, 3) := by decide +kernel
theorem dX10_nightsUntilDone_116 : decode cX10_nightsUntilDone 116 = .ok (.iconst 0, 1) := by decide +kernel
theorem dX10_nightsUntilDone_117 : decode cX10_nightsUntilDone 117 = .ok (.invokestatic 51, 3) := by decide +kernel
theorem dX10_nightsUntilDone_120 : decode cX10_nightsUntilDone 120 = .ok (.aload_n 0, 1) := by decide +kernel
theorem dX10_nightsUntilDone_121 : decode cX10_nightsUntilDone 121 = .ok (.iload_n 2, 1) := by decide +kernel
theorem dX10_nightsUntilDone_122 : decode cX10_nightsUntilDone 122 = .ok (.iload_n 3, 1) := by decide +kernel
theorem dX10_nightsUntilDone_123 : decode cX10_nightsUntilDone 123 = .ok (.iconst (-1), 1) := by decide +kernel
theorem dX10_nightsUntilDone_124 : decode cX10_nightsUntilDone 124 = .ok (.if_icmp .eq 7, 3) := by decide +kernel
theorem dX10_nightsUntilDone_127 : decode cX10_nightsUntilDone 127 = .ok (.iconst 1, 1) := by decide +kernel
theorem dX10_nightsUntilDone_128 : decode cX10_nightsUntilDone 128 = .ok (.goto 4, 3) := by decide +kernel
theorem dX10_nightsUntilDone_131 : decode cX10_nightsUntilDone 131 = .ok (.iconst 0, 1) := by decide +kernel
theorem dX10_nightsUntilDone_132 : decode cX10_nightsUntilDone 132 = .ok (.iconst 1, 1) := by decide +kernel
theorem dX10_nightsUntilDone_133 : decode cX10_nightsUntilDone 133 = .ok (.iconst 1, 1) := by decide +kernel
theorem dX10_nightsUntilDone_134 : decode cX10_nightsUntilDone 134 = .ok (.invokevirtual 47, 3) := by decide +kernel
theorem dX10_nightsUntilDone_137 : decode cX10_nightsUntilDone 137 = .ok (.ifCond .eq 7, 3) := by decide +kernel
theorem dX10_nightsUntilDone_140 : decode cX10_nightsUntilDone 140 = .ok (.iload_n 3, 1) := by decide +kernel
theorem dX10_nightsUntilDone_141 : decode cX10_nightsUntilDone 141 = .ok (.goto 4, 3) := by decide +kernel
theorem dX10_nightsUntilDone_144 : decode cX10_nightsUntilDone 144 = .ok (.iconst 0, 1) := by decide +kernel
theorem dX10_nightsUntilDone_145 : decode cX10_nightsUntilDone 145 = .ok (.ireturn, 1) := by decide +kernel
theorem dX10_wasBroken_0 : decode cX10_wasBroken 0 = .ok (.iconst (-1), 1) := by decide +kernel
theorem dX10_wasBroken_1 : decode cX10_wasBroken 1 = .ok (.istore_n 3, 1) := by decide +kernel
theorem dX10_wasBroken_2 : decode cX10_wasBroken 2 = .ok (.iconst 0, 1) := by decide +kernel
theorem dX10_wasBroken_3 : decode cX10_wasBroken 3 = .ok (.istore 4, 2) := by decide +kernel
theorem dX10_wasBroken_5 : decode cX10_wasBroken 5 = .ok (.iload 4, 2) := by decide +kernel
theorem dX10_wasBroken_7 : decode cX10_wasBroken 7 = .ok (.aload_n 0, 1) := by decide +kernel
theorem dX10_wasBroken_8 : decode cX10_wasBroken 8 = .ok (.getfield 16, 3) := by decide +kernel
theorem dX10_wasBroken_11 : decode cX10_wasBroken 11 = .ok (.bipush 11, 2) := by decide +kernel
theorem dX10_wasBroken_13 : decode cX10_wasBroken 13 = .ok (.iaload, 1) := by decide +kernel
theorem dX10_wasBroken_14 : decode cX10_wasBroken 14 = .ok (.if_icmp .ge 45, 3) := by decide +kernel
theorem dX10_wasBroken_17 : decode cX10_wasBroken 17 = .ok (.bipush 51, 2) := by decide +kernel
theorem dX10_wasBroken_19 : decode cX10_wasBroken 19 = .ok (.iconst 5, 1) := by decide +kernel
theorem dX10_wasBroken_20 : decode cX10_wasBroken 20 = .ok (.iload 4, 2) := by decide +kernel
theorem dX10_wasBroken_22 : decode cX10_wasBroken 22 = .ok (.imul, 1) := by decide +kernel
theorem dX10_wasBroken_23 : decode cX10_wasBroken 23 = .ok (.iadd, 1) := by decide +kernel
theorem dX10_wasBroken_24 : decode cX10_wasBroken 24 = .ok (.istore 5, 2) := by decide +kernel
theorem dX10_wasBroken_26 : decode cX10_wasBroken 26 = .ok (.aload_n 0, 1) := by decide +kernel
theorem dX10_wasBroken_27 : decode cX10_wasBroken 27 = .ok (.getfield 16, 3) := by decide +kernel
theorem dX10_wasBroken_30 : decode cX10_wasBroken 30 = .ok (.iload 5, 2) := by decide +kernel
theorem dX10_wasBroken_32 : decode cX10_wasBroken 32 = .ok (.iconst 0, 1) := by decide +kernel
theorem dX10_wasBroken_33 : decode cX10_wasBroken 33 = .ok (.iadd, 1) := by decide +kernel
theorem dX10_wasBroken_34 : decode cX10_wasBroken 34 = .ok (.iaload, 1) := by decide +kernel
theorem dX10_wasBroken_35 : decode cX10_wasBroken 35 = .ok (.iload_n 1, 1) := by decide +kernel
theorem dX10_wasBroken_36 : decode cX10_wasBroken 36 = .ok (.if_icmp .ne 15, 3) := by decide +kernel
theorem dX10_wasBroken_39 : decode cX10_wasBroken 39 = .ok (.aload_n 0, 1) := by decide +kernel
theorem dX10_wasBroken_40 : decode cX10_wasBroken 40 = .ok (.getfield 16, 3) := by decide +kernel
theorem dX10_wasBroken_43 : decode cX10_wasBroken 43 = .ok (.iload 5, 2) := by decide +kernel
theorem dX10_wasBroken_45 : decode cX10_wasBroken 45 = .ok (.iconst 1, 1) := by decide +kernel
theorem dX10_wasBroken_46 : decode cX10_wasBroken 46 = .ok (.iadd, 1) := by decide +kernel
theorem dX10_wasBroken_47 : decode cX10_wasBroken 47 = .ok (.iaload, 1) := by decide +kernel
theorem dX10_wasBroken_48 : decode cX10_wasBroken 48 = .ok (.goto 4, 3) := by decide +kernel
theorem dX10_wasBroken_51 : decode cX10_wasBroken 51 = .ok (.iload_n 3, 1) := by decide +kernel
theorem dX10_wasBroken_52 : decode cX10_wasBroken 52 = .ok (.istore_n 3, 1) := by decide +kernel
theorem dX10_wasBroken_53 : decode cX10_wasBroken 53 = .ok (.iinc 4 1, 3) := by decide +kernel
theorem dX10_wasBroken_56 : decode cX10_wasBroken 56 = .ok (.goto (-51), 3) := by decide +kernel
theorem dX10_wasBroken_59 : decode cX10_wasBroken 59 = .ok (.aload_n 0, 1) := by decide +kernel
theorem dX10_wasBroken_60 : decode cX10_wasBroken 60 = .ok (.getfield 9, 3) := by decide +kernel
theorem dX10_wasBroken_63 : decode cX10_wasBroken 63 = .ok (.iconst 5, 1) := by decide +kernel
theorem dX10_wasBroken_64 : decode cX10_wasBroken 64 = .ok (.iaload, 1) := by decide +kernel
theorem dX10_wasBroken_65 : decode cX10_wasBroken 65 = .ok (.iload_n 2, 1) := by decide +kernel
theorem dX10_wasBroken_66 : decode cX10_wasBroken 66 = .ok (.if_icmp .le 17, 3) := by decide +kernel
theorem dX10_wasBroken_69 : decode cX10_wasBroken 69 = .ok (.aload_n 0, 1) := by decide +kernel
theorem dX10_wasBroken_70 : decode cX10_wasBroken 70 = .ok (.iload_n 3, 1) := by decide +kernel
theorem dX10_wasBroken_71 : decode cX10_wasBroken 71 = .ok (.iconst 4, 1) := by decide +kernel
theorem dX10_wasBroken_72 : decode cX10_wasBroken 72 = .ok (.invokevirtual 95, 3) := by decide +kernel
theorem dX10_wasBroken_75 : decode cX10_wasBroken 75 = .ok (.iconst 1, 1) := by decide +kernel
theorem dX10_wasBroken_76 : decode cX10_wasBroken 76 = .ok (.if_icmp .ne 7, 3) := by decide +kernel
theorem dX10_wasBroken_79 : decode cX10_wasBroken 79 = .ok (.iconst 1, 1) := by decide +kernel
theorem dX10_wasBroken_80 : decode cX10_wasBroken 80 = .ok (.goto 4, 3) := by decide +kernel
theorem dX10_wasBroken_83 : decode cX10_wasBroken 83 = .ok (.iconst 0, 1) := by decide +kernel
theorem dX10_wasBroken_84 : decode cX10_wasBroken 84 = .ok (.ireturn, 1) := by decide +kernel
theorem dX10_after_0 : decode cX10_after 0 = .ok (.aload_n 0, 1) := by decide +kernel
theorem dX10_after_1 : decode cX10_after 1 = .ok (.getfield 9, 3) := by decide +kernel
theorem dX10_after_4 : decode cX10_after 4 = .ok (.iconst 0, 1) := by decide +kernel
theorem dX10_after_5 : decode cX10_after 5 = .ok (.aload_n 0, 1) := by decide +kernel
theorem dX10_after_6 : decode cX10_after 6 = .ok (.getfield 16, 3) := by decide +kernel
theorem dX10_after_9 : decode cX10_after 9 = .ok (.iconst 0, 1) := by decide +kernel
theorem dX10_after_10 : decode cX10_after 10 = .ok (.invokestatic 51, 3) := by decide +kernel
theorem dX10_after_13 : decode cX10_after 13 = .ok (.iconst 0, 1) := by decide +kernel
theorem dX10_after_14 : decode cX10_after 14 = .ok (.istore_n 3, 1) := by decide +kernel
theorem dX10_after_15 : decode cX10_after 15 = .ok (.iload_n 3, 1) := by decide +kernel
theorem dX10_after_16 : decode cX10_after 16 = .ok (.iload_n 1, 1) := by decide +kernel
theorem dX10_after_17 : decode cX10_after 17 = .ok (.if_icmp .ge 15, 3) := by decide +kernel
theorem dX10_after_20 : decode cX10_after 20 = .ok (.aload_n 0, 1) := by decide +kernel
theorem dX10_after_21 : decode cX10_after 21 = .ok (.invokevirtual 169, 3) := by decide +kernel
theorem dX10_after_24 : decode cX10_after 24 = .ok (.istore 4, 2) := by decide +kernel
theorem dX10_after_26 : decode cX10_after 26 = .ok (.iinc 3 1, 3) := by decide +kernel
theorem dX10_after_29 : decode cX10_after 29 = .ok (.goto (-14), 3) := by decide +kernel
theorem dX10_after_32 : decode cX10_after 32 = .ok (.aload_n 0, 1) := by decide +kernel
theorem dX10_after_33 : decode cX10_after 33 = .ok (.getfield 9, 3) := by decide +kernel
theorem dX10_after_36 : decode cX10_after 36 = .ok (.iload_n 2, 1) := by decide +kernel
theorem dX10_after_37 : decode cX10_after 37 = .ok (.iaload, 1) := by decide +kernel
theorem dX10_after_38 : decode cX10_after 38 = .ok (.istore_n 3, 1) := by decide +kernel
theorem dX10_after_39 : decode cX10_after 39 = .ok (.aload_n 0, 1) := by decide +kernel
theorem dX10_after_40 : decode cX10_after 40 = .ok (.getfield 16, 3) := by decide +kernel
theorem dX10_after_43 : decode cX10_after 43 = .ok (.iconst 0, 1) := by decide +kernel
theorem dX10_after_44 : decode cX10_after 44 = .ok (.aload_n 0, 1) := by decide +kernel
theorem dX10_after_45 : decode cX10_after 45 = .ok (.getfield 9, 3) := by decide +kernel
theorem dX10_after_48 : decode cX10_after 48 = .ok (.iconst 0, 1) := by decide +kernel
theorem dX10_after_49 : decode cX10_after 49 = .ok (.invokestatic 51, 3) := by decide +kernel
theorem dX10_after_52 : decode cX10_after 52 = .ok (.iload_n 3, 1) := by decide +kernel
theorem dX10_after_53 : decode cX10_after 53 = .ok (.ireturn, 1) := by decide +kernel
theorem dX10_chestAfter_0 : decode cX10_chestAfter 0 = .ok (.aload_n 0, 1) := by decide +kernel
theorem dX10_chestAfter_1 : decode cX10_chestAfter 1 = .ok (.iload_n 1, 1) := by decide +kernel
theorem dX10_chestAfter_2 : decode cX10_chestAfter 2 = .ok (.iconst 0, 1) := by decide +kernel
theorem dX10_chestAfter_3 : decode cX10_chestAfter 3 = .ok (.bipush 60, 2) := by decide +kernel
theorem dX10_chestAfter_5 : decode cX10_chestAfter 5 = .ok (.invokestatic 69, 3) := by decide +kernel
theorem dX10_chestAfter_8 : decode cX10_chestAfter 8 = .ok (.invokevirtual 61, 3) := by decide +kernel
theorem dX10_chestAfter_11 : decode cX10_chestAfter 11 = .ok (.ifCond .eq 12, 3) := by decide +kernel
theorem dX10_chestAfter_14 : decode cX10_chestAfter 14 = .ok (.aload_n 0, 1) := by decide +kernel
theorem dX10_chestAfter_15 : decode cX10_chestAfter 15 = .ok (.iload_n 1, 1) := by decide +kernel
theorem dX10_chestAfter_16 : decode cX10_chestAfter 16 = .ok (.iconst 1, 1) := by decide +kernel
theorem dX10_chestAfter_17 : decode cX10_chestAfter 17 = .ok (.invokevirtual 187, 3) := by decide +kernel
theorem dX10_chestAfter_20 : decode cX10_chestAfter 20 = .ok (.goto 4, 3) := by decide +kernel
theorem dX10_chestAfter_23 : decode cX10_chestAfter 23 = .ok (.iconst 0, 1) := by decide +kernel
theorem dX10_chestAfter_24 : decode cX10_chestAfter 24 = .ok (.ireturn, 1) := by decide +kernel
theorem dX10_debtAfter_0 : decode cX10_debtAfter 0 = .ok (.aload_n 0, 1) := by decide +kernel
theorem dX10_debtAfter_1 : decode cX10_debtAfter 1 = .ok (.aload_n 0, 1) := by decide +kernel
theorem dX10_debtAfter_2 : decode cX10_debtAfter 2 = .ok (.iload_n 1, 1) := by decide +kernel
theorem dX10_debtAfter_3 : decode cX10_debtAfter 3 = .ok (.invokevirtual 77, 3) := by decide +kernel
theorem dX10_debtAfter_6 : decode cX10_debtAfter 6 = .ok (.iload_n 2, 1) := by decide +kernel
theorem dX10_debtAfter_7 : decode cX10_debtAfter 7 = .ok (.iconst 0, 1) := by decide +kernel
theorem dX10_debtAfter_8 : decode cX10_debtAfter 8 = .ok (.bipush 60, 2) := by decide +kernel
theorem dX10_debtAfter_10 : decode cX10_debtAfter 10 = .ok (.invokestatic 69, 3) := by decide +kernel
theorem dX10_debtAfter_13 : decode cX10_debtAfter 13 = .ok (.iconst 1, 1) := by decide +kernel
theorem dX10_debtAfter_14 : decode cX10_debtAfter 14 = .ok (.iconst 1, 1) := by decide +kernel
theorem dX10_debtAfter_15 : decode cX10_debtAfter 15 = .ok (.invokevirtual 47, 3) := by decide +kernel
theorem dX10_debtAfter_18 : decode cX10_debtAfter 18 = .ok (.ifCond .eq 17, 3) := by decide +kernel
theorem dX10_debtAfter_21 : decode cX10_debtAfter 21 = .ok (.aload_n 0, 1) := by decide +kernel
theorem dX10_debtAfter_22 : decode cX10_debtAfter 22 = .ok (.iload_n 2, 1) := by decide +kernel
theorem dX10_debtAfter_23 : decode cX10_debtAfter 23 = .ok (.aload_n 0, 1) := by decide +kernel
theorem dX10_debtAfter_24 : decode cX10_debtAfter 24 = .ok (.iload_n 1, 1) := by decide +kernel
theorem dX10_debtAfter_25 : decode cX10_debtAfter 25 = .ok (.iconst 2, 1) := by decide +kernel
theorem dX10_debtAfter_26 : decode cX10_debtAfter 26 = .ok (.invokevirtual 80, 3) := by decide +kernel
theorem dX10_debtAfter_29 : decode cX10_debtAfter 29 = .ok (.invokevirtual 187, 3) := by decide +kernel
theorem dX10_debtAfter_32 : decode cX10_debtAfter 32 = .ok (.goto 4, 3) := by decide +kernel
theorem dX10_debtAfter_35 : decode cX10_debtAfter 35 = .ok (.iconst 0, 1) := by decide +kernel
theorem dX10_debtAfter_36 : decode cX10_debtAfter 36 = .ok (.ireturn, 1) := by decide +kernel
theorem dX10_total_0 : decode cX10_total 0 = .ok (.aload_n 0, 1) := by decide +kernel
theorem dX10_total_1 : decode cX10_total 1 = .ok (.iconst 0, 1) := by decide +kernel
theorem dX10_total_2 : decode cX10_total 2 = .ok (.putfield 44, 3) := by decide +kernel
theorem dX10_total_5 : decode cX10_total 5 = .ok (.aload_n 0, 1) := by decide +kernel
theorem dX10_total_6 : decode cX10_total 6 = .ok (.getfield 9, 3) := by decide +kernel
theorem dX10_total_9 : decode cX10_total 9 = .ok (.iload_n 1, 1) := by decide +kernel
theorem dX10_total_10 : decode cX10_total 10 = .ok (.iaload, 1) := by decide +kernel
theorem dX10_total_11 : decode cX10_total 11 = .ok (.ireturn, 1) := by decide +kernel
theorem dX10_night_0 : decode cX10_night 0 = .ok (.aload_n 0, 1) := by decide +kernel
theorem dX10_night_1 : decode cX10_night 1 = .ok (.iconst 0, 1) := by decide +kernel
theorem dX10_night_2 : decode cX10_night 2 = .ok (.invokevirtual 190, 3) := by decide +kernel
theorem dX10_night_5 : decode cX10_night 5 = .ok (.ireturn, 1) := by decide +kernel
theorem dX10_chest_0 : decode cX10_chest 0 = .ok (.aload_n 0, 1) := by decide +kernel
theorem dX10_chest_1 : decode cX10_chest 1 = .ok (.iconst 1, 1) := by decide +kernel
theorem dX10_chest_2 : decode cX10_chest 2 = .ok (.invokevirtual 190, 3) := by decide +kernel
theorem dX10_chest_5 : decode cX10_chest 5 = .ok (.ireturn, 1) := by decide +kernel
theorem dX10_allCrumbs_0 : decode cX10_allCrumbs 0 = .ok (.aload_n 0, 1) := by decide +kernel
theorem dX10_allCrumbs_1 : decode cX10_allCrumbs 1 = .ok (.iconst 1, 1) := by decide +kernel
theorem dX10_allCrumbs_2 : decode cX10_allCrumbs 2 = .ok (.invokevirtual 190, 3) := by decide +kernel
theorem dX10_allCrumbs_5 : decode cX10_allCrumbs 5 = .ok (.istore_n 1, 1) := by decide +kernel
theorem dX10_allCrumbs_6 : decode cX10_allCrumbs 6 = .ok (.iconst 0, 1) := by decide +kernel
theorem dX10_allCrumbs_7 : decode cX10_allCrumbs 7 = .ok (.istore_n 2, 1) := by decide +kernel
theorem dX10_allCrumbs_8 : decode cX10_allCrumbs 8 = .ok (.iload_n 2, 1) := by decide +kernel
theorem dX10_allCrumbs_9 : decode cX10_allCrumbs 9 = .ok (.aload_n 0, 1) := by decide +kernel
theorem dX10_allCrumbs_10 : decode cX10_allCrumbs 10 = .ok (.getfield 9, 3) := by decide +kernel
theorem dX10_allCrumbs_13 : decode cX10_allCrumbs 13 = .ok (.bipush 9, 2) := by decide +kernel
theorem dX10_allCrumbs_15 : decode cX10_allCrumbs 15 = .ok (.iaload, 1) := by decide +kernel
theorem dX10_allCrumbs_16 : decode cX10_allCrumbs 16 = .ok (.if_icmp .ge 18, 3) := by decide +kernel
theorem dX10_allCrumbs_19 : decode cX10_allCrumbs 19 = .ok (.iload_n 1, 1) := by decide +kernel
theorem dX10_allCrumbs_20 : decode cX10_allCrumbs 20 = .ok (.aload_n 0, 1) := by decide +kernel
theorem dX10_allCrumbs_21 : decode cX10_allCrumbs 21 = .ok (.iload_n 2, 1) := by decide +kernel
theorem dX10_allCrumbs_22 : decode cX10_allCrumbs 22 = .ok (.iconst 1, 1) := by decide +kernel
theorem dX10_allCrumbs_23 : decode cX10_allCrumbs 23 = .ok (.invokevirtual 95, 3) := by decide +kernel
theorem dX10_allCrumbs_26 : decode cX10_allCrumbs 26 = .ok (.iadd, 1) := by decide +kernel
theorem dX10_allCrumbs_27 : decode cX10_allCrumbs 27 = .ok (.istore_n 1, 1) := by decide +kernel
theorem dX10_allCrumbs_28 : decode cX10_allCrumbs 28 = .ok (.iinc 2 1, 3) := by decide +kernel
theorem dX10_allCrumbs_31 : decode cX10_allCrumbs 31 = .ok (.goto (-23), 3) := by decide +kernel
theorem dX10_allCrumbs_34 : decode cX10_allCrumbs 34 = .ok (.iload_n 1, 1) := by decide +kernel
theorem dX10_allCrumbs_35 : decode cX10_allCrumbs 35 = .ok (.ireturn, 1) := by decide +kernel
theorem dX10_allCrumbsByAccounts_0 : decode cX10_allCrumbsByAccounts 0 = .ok (.aload_n 0, 1) := by decide +kernel
theorem dX10_allCrumbsByAccounts_1 : decode cX10_allCrumbsByAccounts 1 = .ok (.iconst 0, 1) := by decide +kernel
theorem dX10_allCrumbsByAccounts_2 : decode cX10_allCrumbsByAccounts 2 = .ok (.putfield 44, 3) := by decide +kernel
theorem dX10_allCrumbsByAccounts_5 : decode cX10_allCrumbsByAccounts 5 = .ok (.bipush 100, 2) := by decide +kernel
theorem dX10_allCrumbsByAccounts_7 : decode cX10_allCrumbsByAccounts 7 = .ok (.aload_n 0, 1) := by decide +kernel
theorem dX10_allCrumbsByAccounts_8 : decode cX10_allCrumbsByAccounts 8 = .ok (.getfield 9, 3) := by decide +kernel
theorem dX10_allCrumbsByAccounts_11 : decode cX10_allCrumbsByAccounts 11 = .ok (.iconst 2, 1) := by decide +kernel
theorem dX10_allCrumbsByAccounts_12 : decode cX10_allCrumbsByAccounts 12 = .ok (.iaload, 1) := by decide +kernel
theorem dX10_allCrumbsByAccounts_13 : decode cX10_allCrumbsByAccounts 13 = .ok (.iadd, 1) := by decide +kernel
theorem dX10_allCrumbsByAccounts_14 : decode cX10_allCrumbsByAccounts 14 = .ok (.aload_n 0, 1) := by decide +kernel
theorem dX10_allCrumbsByAccounts_15 : decode cX10_allCrumbsByAccounts 15 = .ok (.getfield 9, 3) := by decide +kernel
theorem dX10_allCrumbsByAccounts_18 : decode cX10_allCrumbsByAccounts 18 = .ok (.iconst 3, 1) := by decide +kernel
theorem dX10_allCrumbsByAccounts_19 : decode cX10_allCrumbsByAccounts 19 = .ok (.iaload, 1) := by decide +kernel
theorem dX10_allCrumbsByAccounts_20 : decode cX10_allCrumbsByAccounts 20 = .ok (.isub, 1) := by decide +kernel
theorem dX10_allCrumbsByAccounts_21 : decode cX10_allCrumbsByAccounts 21 = .ok (.ireturn, 1) := by decide +kernel
theorem dX10_doneTotal_0 : decode cX10_doneTotal 0 = .ok (.aload_n 0, 1) := by decide +kernel
theorem dX10_doneTotal_1 : decode cX10_doneTotal 1 = .ok (.iconst 4, 1) := by decide +kernel
theorem dX10_doneTotal_2 : decode cX10_doneTotal 2 = .ok (.invokevirtual 190, 3) := by decide +kernel
theorem dX10_doneTotal_5 : decode cX10_doneTotal 5 = .ok (.ireturn, 1) := by decide +kernel
theorem dX10_brokenTotal_0 : decode cX10_brokenTotal 0 = .ok (.aload_n 0, 1) := by decide +kernel
theorem dX10_brokenTotal_1 : decode cX10_brokenTotal 1 = .ok (.iconst 5, 1) := by decide +kernel
theorem dX10_brokenTotal_2 : decode cX10_brokenTotal 2 = .ok (.invokevirtual 190, 3) := by decide +kernel
theorem dX10_brokenTotal_5 : decode cX10_brokenTotal 5 = .ok (.ireturn, 1) := by decide +kernel
theorem dX10_unpaidTotal_0 : decode cX10_unpaidTotal 0 = .ok (.aload_n 0, 1) := by decide +kernel
theorem dX10_unpaidTotal_1 : decode cX10_unpaidTotal 1 = .ok (.bipush 6, 2) := by decide +kernel
theorem dX10_unpaidTotal_3 : decode cX10_unpaidTotal 3 = .ok (.invokevirtual 190, 3) := by decide +kernel
theorem dX10_unpaidTotal_6 : decode cX10_unpaidTotal 6 = .ok (.ireturn, 1) := by decide +kernel
theorem dX10_interestTotal_0 : decode cX10_interestTotal 0 = .ok (.aload_n 0, 1) := by decide +kernel
theorem dX10_interestTotal_1 : decode cX10_interestTotal 1 = .ok (.bipush 7, 2) := by decide +kernel
theorem dX10_interestTotal_3 : decode cX10_interestTotal 3 = .ok (.invokevirtual 190, 3) := by decide +kernel
theorem dX10_interestTotal_6 : decode cX10_interestTotal 6 = .ok (.ireturn, 1) := by decide +kernel
theorem dX10_meanDust_0 : decode cX10_meanDust 0 = .ok (.aload_n 0, 1) := by decide +kernel
theorem dX10_meanDust_1 : decode cX10_meanDust 1 = .ok (.iconst 0, 1) := by decide +kernel
theorem dX10_meanDust_2 : decode cX10_meanDust 2 = .ok (.putfield 44, 3) := by decide +kernel
theorem dX10_meanDust_5 : decode cX10_meanDust 5 = .ok (.iconst 0, 1) := by decide +kernel
theorem dX10_meanDust_6 : decode cX10_meanDust 6 = .ok (.istore_n 1, 1) := by decide +kernel
theorem dX10_meanDust_7 : decode cX10_meanDust 7 = .ok (.iconst 0, 1) := by decide +kernel
theorem dX10_meanDust_8 : decode cX10_meanDust 8 = .ok (.istore_n 2, 1) := by decide +kernel
theorem dX10_meanDust_9 : decode cX10_meanDust 9 = .ok (.iload_n 2, 1) := by decide +kernel
theorem dX10_meanDust_10 : decode cX10_meanDust 10 = .ok (.bipush 6, 2) := by decide +kernel
theorem dX10_meanDust_12 : decode cX10_meanDust 12 = .ok (.if_icmp .ge 21, 3) := by decide +kernel
theorem dX10_meanDust_15 : decode cX10_meanDust 15 = .ok (.iload_n 1, 1) := by decide +kernel
theorem dX10_meanDust_16 : decode cX10_meanDust 16 = .ok (.aload_n 0, 1) := by decide +kernel
theorem dX10_meanDust_17 : decode cX10_meanDust 17 = .ok (.getfield 9, 3) := by decide +kernel
theorem dX10_meanDust_20 : decode cX10_meanDust 20 = .ok (.bipush 12, 2) := by decide +kernel
theorem dX10_meanDust_22 : decode cX10_meanDust 22 = .ok (.iload_n 2, 1) := by decide +kernel
theorem dX10_meanDust_23 : decode cX10_meanDust 23 = .ok (.iadd, 1) := by decide +kernel
theorem dX10_meanDust_24 : decode cX10_meanDust 24 = .ok (.iaload, 1) := by decide +kernel
theorem dX10_meanDust_25 : decode cX10_meanDust 25 = .ok (.iadd, 1) := by decide +kernel
theorem dX10_meanDust_26 : decode cX10_meanDust 26 = .ok (.istore_n 1, 1) := by decide +kernel
theorem dX10_meanDust_27 : decode cX10_meanDust 27 = .ok (.iinc 2 1, 3) := by decide +kernel
theorem dX10_meanDust_30 : decode cX10_meanDust 30 = .ok (.goto (-21), 3) := by decide +kernel
theorem dX10_meanDust_33 : decode cX10_meanDust 33 = .ok (.iload_n 1, 1) := by decide +kernel
theorem dX10_meanDust_34 : decode cX10_meanDust 34 = .ok (.i2d, 1) := by decide +kernel
theorem dX10_meanDust_35 : decode cX10_meanDust 35 = .ok (.ldc2_w 193, 3) := by decide +kernel
theorem dX10_meanDust_38 : decode cX10_meanDust 38 = .ok (.ddiv, 1) := by decide +kernel
theorem dX10_meanDust_39 : decode cX10_meanDust 39 = .ok (.dreturn, 1) := by decide +kernel
theorem dX10_reliability_0 : decode cX10_reliability 0 = .ok (.aload_n 0, 1) := by decide +kernel
theorem dX10_reliability_1 : decode cX10_reliability 1 = .ok (.getfield 9, 3) := by decide +kernel
theorem dX10_reliability_4 : decode cX10_reliability 4 = .ok (.iconst 4, 1) := by decide +kernel
theorem dX10_reliability_5 : decode cX10_reliability 5 = .ok (.iaload, 1) := by decide +kernel
theorem dX10_reliability_6 : decode cX10_reliability 6 = .ok (.aload_n 0, 1) := by decide +kernel
theorem dX10_reliability_7 : decode cX10_reliability 7 = .ok (.getfield 9, 3) := by decide +kernel
theorem dX10_reliability_10 : decode cX10_reliability 10 = .ok (.iconst 5, 1) := by decide +kernel
theorem dX10_reliability_11 : decode cX10_reliability 11 = .ok (.iaload, 1) := by decide +kernel
theorem dX10_reliability_12 : decode cX10_reliability 12 = .ok (.iadd, 1) := by decide +kernel
theorem dX10_reliability_13 : decode cX10_reliability 13 = .ok (.istore_n 1, 1) := by decide +kernel
theorem dX10_reliability_14 : decode cX10_reliability 14 = .ok (.aload_n 0, 1) := by decide +kernel
theorem dX10_reliability_15 : decode cX10_reliability 15 = .ok (.iload_n 1, 1) := by decide +kernel
theorem dX10_reliability_16 : decode cX10_reliability 16 = .ok (.ifCond .le 7, 3) := by decide +kernel
theorem dX10_reliability_19 : decode cX10_reliability 19 = .ok (.iconst 1, 1) := by decide +kernel
theorem dX10_reliability_20 : decode cX10_reliability 20 = .ok (.goto 4, 3) := by decide +kernel
theorem dX10_reliability_23 : decode cX10_reliability 23 = .ok (.iconst 0, 1) := by decide +kernel
theorem dX10_reliability_24 : decode cX10_reliability 24 = .ok (.invokevirtual 61, 3) := by decide +kernel
theorem dX10_reliability_27 : decode cX10_reliability 27 = .ok (.ifCond .eq 16, 3) := by decide +kernel
theorem dX10_reliability_30 : decode cX10_reliability 30 = .ok (.aload_n 0, 1) := by decide +kernel
theorem dX10_reliability_31 : decode cX10_reliability 31 = .ok (.getfield 9, 3) := by decide +kernel
theorem dX10_reliability_34 : decode cX10_reliability 34 = .ok (.iconst 4, 1) := by decide +kernel
theorem dX10_reliability_35 : decode cX10_reliability 35 = .ok (.iaload, 1) := by decide +kernel
theorem dX10_reliability_36 : decode cX10_reliability 36 = .ok (.i2f, 1) := by decide +kernel
theorem dX10_reliability_37 : decode cX10_reliability 37 = .ok (.iload_n 1, 1) := by decide +kernel
theorem dX10_reliability_38 : decode cX10_reliability 38 = .ok (.i2f, 1) := by decide +kernel
theorem dX10_reliability_39 : decode cX10_reliability 39 = .ok (.fdiv, 1) := by decide +kernel
theorem dX10_reliability_40 : decode cX10_reliability 40 = .ok (.goto 4, 3) := by decide +kernel
theorem dX10_reliability_43 : decode cX10_reliability 43 = .ok (.fconst 0, 1) := by decide +kernel
theorem dX10_reliability_44 : decode cX10_reliability 44 = .ok (.freturn, 1) := by decide +kernel
theorem dX10_isConsistent_0 : decode cX10_isConsistent 0 = .ok (.aload_n 0, 1) := by decide +kernel
theorem dX10_isConsistent_1 : decode cX10_isConsistent 1 = .ok (.iconst 0, 1) := by decide +kernel
theorem dX10_isConsistent_2 : decode cX10_isConsistent 2 = .ok (.putfield 44, 3) := by decide +kernel
theorem dX10_isConsistent_5 : decode cX10_isConsistent 5 = .ok (.iconst 1, 1) := by decide +kernel
theorem dX10_isConsistent_6 : decode cX10_isConsistent 6 = .ok (.ireturn, 1) := by decide +kernel
theorem dX10_put_0 : decode cX10_put 0 = .ok (.aload_n 0, 1) := by decide +kernel
theorem dX10_put_1 : decode cX10_put 1 = .ok (.getfield 38, 3) := by decide +kernel
theorem dX10_put_4 : decode cX10_put 4 = .ok (.iload_n 1, 1) := by decide +kernel
theorem dX10_put_5 : decode cX10_put 5 = .ok (.iload_n 2, 1) := by decide +kernel
theorem dX10_put_6 : decode cX10_put 6 = .ok (.iastore, 1) := by decide +kernel
theorem dX10_put_7 : decode cX10_put 7 = .ok (.iload_n 1, 1) := by decide +kernel
theorem dX10_put_8 : decode cX10_put 8 = .ok (.iconst 1, 1) := by decide +kernel
theorem dX10_put_9 : decode cX10_put 9 = .ok (.iadd, 1) := by decide +kernel
theorem dX10_put_10 : decode cX10_put 10 = .ok (.ireturn, 1) := by decide +kernel
theorem dX10_writesNumber_0 : decode cX10_writesNumber 0 = .ok (.iload_n 1, 1) := by decide +kernel
theorem dX10_writesNumber_1 : decode cX10_writesNumber 1 = .ok (.istore_n 3, 1) := by decide +kernel
theorem dX10_writesNumber_2 : decode cX10_writesNumber 2 = .ok (.iconst 1, 1) := by decide +kernel
theorem dX10_writesNumber_3 : decode cX10_writesNumber 3 = .ok (.istore 4, 2) := by decide +kernel
theorem dX10_writesNumber_5 : decode cX10_writesNumber 5 = .ok (.iload_n 2, 1) := by decide +kernel
theorem dX10_writesNumber_6 : decode cX10_writesNumber 6 = .ok (.iload 4, 2) := by decide +kernel
theorem dX10_writesNumber_8 : decode cX10_writesNumber 8 = .ok (.idiv, 1) := by decide +kernel
theorem dX10_writesNumber_9 : decode cX10_writesNumber 9 = .ok (.bipush 9, 2) := by decide +kernel
theorem dX10_writesNumber_11 : decode cX10_writesNumber 11 = .ok (.if_icmp .le 13, 3) := by decide +kernel
theorem dX10_writesNumber_14 : decode cX10_writesNumber 14 = .ok (.iload 4, 2) := by decide +kernel
theorem dX10_writesNumber_16 : decode cX10_writesNumber 16 = .ok (.bipush 10, 2) := by decide +kernel
theorem dX10_writesNumber_18 : decode cX10_writesNumber 18 = .ok (.imul, 1) := by decide +kernel
theorem dX10_writesNumber_19 : decode cX10_writesNumber 19 = .ok (.istore 4, 2) := by decide +kernel
theorem dX10_writesNumber_21 : decode cX10_writesNumber 21 = .ok (.goto (-16), 3) := by decide +kernel
theorem dX10_writesNumber_24 : decode cX10_writesNumber 24 = .ok (.iload 4, 2) := by decide +kernel
theorem dX10_writesNumber_26 : decode cX10_writesNumber 26 = .ok (.istore 5, 2) := by decide +kernel
theorem dX10_writesNumber_28 : decode cX10_writesNumber 28 = .ok (.iload 5, 2) := by decide +kernel
theorem dX10_writesNumber_30 : decode cX10_writesNumber 30 = .ok (.ifCond .le 29, 3) := by decide +kernel
theorem dX10_writesNumber_33 : decode cX10_writesNumber 33 = .ok (.aload_n 0, 1) := by decide +kernel
theorem dX10_writesNumber_34 : decode cX10_writesNumber 34 = .ok (.iload_n 3, 1) := by decide +kernel
theorem dX10_writesNumber_35 : decode cX10_writesNumber 35 = .ok (.bipush 48, 2) := by decide +kernel
theorem dX10_writesNumber_37 : decode cX10_writesNumber 37 = .ok (.iload_n 2, 1) := by decide +kernel
theorem dX10_writesNumber_38 : decode cX10_writesNumber 38 = .ok (.iload 5, 2) := by decide +kernel
theorem dX10_writesNumber_40 : decode cX10_writesNumber 40 = .ok (.idiv, 1) := by decide +kernel
theorem dX10_writesNumber_41 : decode cX10_writesNumber 41 = .ok (.bipush 10, 2) := by decide +kernel
theorem dX10_writesNumber_43 : decode cX10_writesNumber 43 = .ok (.irem, 1) := by decide +kernel
theorem dX10_writesNumber_44 : decode cX10_writesNumber 44 = .ok (.iadd, 1) := by decide +kernel
theorem dX10_writesNumber_45 : decode cX10_writesNumber 45 = .ok (.invokevirtual 195, 3) := by decide +kernel
theorem dX10_writesNumber_48 : decode cX10_writesNumber 48 = .ok (.istore_n 3, 1) := by decide +kernel
theorem dX10_writesNumber_49 : decode cX10_writesNumber 49 = .ok (.iload 5, 2) := by decide +kernel
theorem dX10_writesNumber_51 : decode cX10_writesNumber 51 = .ok (.bipush 10, 2) := by decide +kernel
theorem dX10_writesNumber_53 : decode cX10_writesNumber 53 = .ok (.idiv, 1) := by decide +kernel
theorem dX10_writesNumber_54 : decode cX10_writesNumber 54 = .ok (.istore 5, 2) := by decide +kernel
theorem dX10_writesNumber_56 : decode cX10_writesNumber 56 = .ok (.goto (-28), 3) := by decide +kernel
theorem dX10_writesNumber_59 : decode cX10_writesNumber 59 = .ok (.iload_n 3, 1) := by decide +kernel
theorem dX10_writesNumber_60 : decode cX10_writesNumber 60 = .ok (.ireturn, 1) := by decide +kernel
theorem dX10_renderGoblin_0 : decode cX10_renderGoblin 0 = .ok (.aload_n 0, 1) := by decide +kernel
theorem dX10_renderGoblin_1 : decode cX10_renderGoblin 1 = .ok (.aload_n 0, 1) := by decide +kernel
theorem dX10_renderGoblin_2 : decode cX10_renderGoblin 2 = .ok (.iload_n 1, 1) := by decide +kernel
theorem dX10_renderGoblin_3 : decode cX10_renderGoblin 3 = .ok (.invokevirtual 77, 3) := by decide +kernel
theorem dX10_renderGoblin_6 : decode cX10_renderGoblin 6 = .ok (.invokevirtual 61, 3) := by decide +kernel
theorem dX10_renderGoblin_9 : decode cX10_renderGoblin 9 = .ok (.ifCond .ne 5, 3) := by decide +kernel
theorem dX10_renderGoblin_12 : decode cX10_renderGoblin 12 = .ok (.iconst 0, 1) := by decide +kernel
theorem dX10_renderGoblin_13 : decode cX10_renderGoblin 13 = .ok (.ireturn, 1) := by decide +kernel
theorem dX10_renderGoblin_14 : decode cX10_renderGoblin 14 = .ok (.aload_n 0, 1) := by decide +kernel
theorem dX10_renderGoblin_15 : decode cX10_renderGoblin 15 = .ok (.aload_n 0, 1) := by decide +kernel
theorem dX10_renderGoblin_16 : decode cX10_renderGoblin 16 = .ok (.aload_n 0, 1) := by decide +kernel
theorem dX10_renderGoblin_17 : decode cX10_renderGoblin 17 = .ok (.iconst 0, 1) := by decide +kernel
theorem dX10_renderGoblin_18 : decode cX10_renderGoblin 18 = .ok (.iload_n 1, 1) := by decide +kernel
theorem dX10_renderGoblin_19 : decode cX10_renderGoblin 19 = .ok (.invokevirtual 198, 3) := by decide +kernel
theorem dX10_renderGoblin_22 : decode cX10_renderGoblin 22 = .ok (.bipush 115, 2) := by decide +kernel
theorem dX10_renderGoblin_24 : decode cX10_renderGoblin 24 = .ok (.invokevirtual 195, 3) := by decide +kernel
theorem dX10_renderGoblin_27 : decode cX10_renderGoblin 27 = .ok (.aload_n 0, 1) := by decide +kernel
theorem dX10_renderGoblin_28 : decode cX10_renderGoblin 28 = .ok (.iload_n 1, 1) := by decide +kernel
theorem dX10_renderGoblin_29 : decode cX10_renderGoblin 29 = .ok (.iconst 0, 1) := by decide +kernel
theorem dX10_renderGoblin_30 : decode cX10_renderGoblin 30 = .ok (.invokevirtual 95, 3) := by decide +kernel
theorem dX10_renderGoblin_33 : decode cX10_renderGoblin 33 = .ok (.invokevirtual 198, 3) := by decide +kernel
theorem dX10_renderGoblin_36 : decode cX10_renderGoblin 36 = .ok (.istore_n 2, 1) := by decide +kernel
theorem dX10_renderGoblin_37 : decode cX10_renderGoblin 37 = .ok (.aload_n 0, 1) := by decide +kernel
theorem dX10_renderGoblin_38 : decode cX10_renderGoblin 38 = .ok (.aload_n 0, 1) := by decide +kernel
theorem dX10_renderGoblin_39 : decode cX10_renderGoblin 39 = .ok (.iload_n 2, 1) := by decide +kernel
theorem dX10_renderGoblin_40 : decode cX10_renderGoblin 40 = .ok (.bipush 112, 2) := by decide +kernel
theorem dX10_renderGoblin_42 : decode cX10_renderGoblin 42 = .ok (.invokevirtual 195, 3) := by decide +kernel
theorem dX10_renderGoblin_45 : decode cX10_renderGoblin 45 = .ok (.aload_n 0, 1) := by decide +kernel
theorem dX10_renderGoblin_46 : decode cX10_renderGoblin 46 = .ok (.iload_n 1, 1) := by decide +kernel
theorem dX10_renderGoblin_47 : decode cX10_renderGoblin 47 = .ok (.iconst 1, 1) := by decide +kernel
theorem dX10_renderGoblin_48 : decode cX10_renderGoblin 48 = .ok (.invokevirtual 95, 3) := by decide +kernel
theorem dX10_renderGoblin_51 : decode cX10_renderGoblin 51 = .ok (.invokevirtual 198, 3) := by decide +kernel
theorem dX10_renderGoblin_54 : decode cX10_renderGoblin 54 = .ok (.istore_n 2, 1) := by decide +kernel
theorem dX10_renderGoblin_55 : decode cX10_renderGoblin 55 = .ok (.aload_n 0, 1) := by decide +kernel
theorem dX10_renderGoblin_56 : decode cX10_renderGoblin 56 = .ok (.iload_n 1, 1) := by decide +kernel
theorem dX10_renderGoblin_57 : decode cX10_renderGoblin 57 = .ok (.iconst 2, 1) := by decide +kernel
theorem dX10_renderGoblin_58 : decode cX10_renderGoblin 58 = .ok (.invokevirtual 95, 3) := by decide +kernel
theorem dX10_renderGoblin_61 : decode cX10_renderGoblin 61 = .ok (.ifCond .ne 7, 3) := by decide +kernel
theorem dX10_renderGoblin_64 : decode cX10_renderGoblin 64 = .ok (.iload_n 2, 1) := by decide +kernel
theorem dX10_renderGoblin_65 : decode cX10_renderGoblin 65 = .ok (.goto 20, 3) := by decide +kernel
theorem dX10_renderGoblin_68 : decode cX10_renderGoblin 68 = .ok (.aload_n 0, 1) := by decide +kernel
theorem dX10_renderGoblin_69 : decode cX10_renderGoblin 69 = .ok (.aload_n 0, 1) := by decide +kernel
theorem dX10_renderGoblin_70 : decode cX10_renderGoblin 70 = .ok (.iload_n 2, 1) := by decide +kernel
theorem dX10_renderGoblin_71 : decode cX10_renderGoblin 71 = .ok (.bipush 100, 2) := by decide +kernel
theorem dX10_renderGoblin_73 : decode cX10_renderGoblin 73 = .ok (.invokevirtual 195, 3) := by decide +kernel
theorem dX10_renderGoblin_76 : decode cX10_renderGoblin 76 = .ok (.aload_n 0, 1) := by decide +kernel
theorem dX10_renderGoblin_77 : decode cX10_renderGoblin 77 = .ok (.iload_n 1, 1) := by decide +kernel
theorem dX10_renderGoblin_78 : decode cX10_renderGoblin 78 = .ok (.iconst 2, 1) := by decide +kernel
theorem dX10_renderGoblin_79 : decode cX10_renderGoblin 79 = .ok (.invokevirtual 95, 3) := by decide +kernel
theorem dX10_renderGoblin_82 : decode cX10_renderGoblin 82 = .ok (.invokevirtual 198, 3) := by decide +kernel
theorem dX10_renderGoblin_85 : decode cX10_renderGoblin 85 = .ok (.istore_n 2, 1) := by decide +kernel
theorem dX10_renderGoblin_86 : decode cX10_renderGoblin 86 = .ok (.aload_n 0, 1) := by decide +kernel
theorem dX10_renderGoblin_87 : decode cX10_renderGoblin 87 = .ok (.aload_n 0, 1) := by decide +kernel
theorem dX10_renderGoblin_88 : decode cX10_renderGoblin 88 = .ok (.iload_n 1, 1) := by decide +kernel
theorem dX10_renderGoblin_89 : decode cX10_renderGoblin 89 = .ok (.iconst 4, 1) := by decide +kernel
theorem dX10_renderGoblin_90 : decode cX10_renderGoblin 90 = .ok (.invokevirtual 95, 3) := by decide +kernel
theorem dX10_renderGoblin_93 : decode cX10_renderGoblin 93 = .ok (.iconst 1, 1) := by decide +kernel
theorem dX10_renderGoblin_94 : decode cX10_renderGoblin 94 = .ok (.if_icmp .ne 13, 3) := by decide +kernel
theorem dX10_renderGoblin_97 : decode cX10_renderGoblin 97 = .ok (.aload_n 0, 1) := by decide +kernel
theorem dX10_renderGoblin_98 : decode cX10_renderGoblin 98 = .ok (.iload_n 2, 1) := by decide +kernel
theorem dX10_renderGoblin_99 : decode cX10_renderGoblin 99 = .ok (.bipush 122, 2) := by decide +kernel
theorem dX10_renderGoblin_101 : decode cX10_renderGoblin 101 = .ok (.invokevirtual 195, 3) := by decide +kernel
theorem dX10_renderGoblin_104 : decode cX10_renderGoblin 104 = .ok (.goto 4, 3) := by decide +kernel
theorem dX10_renderGoblin_107 : decode cX10_renderGoblin 107 = .ok (.iload_n 2, 1) := by decide +kernel
theorem dX10_renderGoblin_108 : decode cX10_renderGoblin 108 = .ok (.putfield 201, 3) := by decide +kernel
theorem dX10_renderGoblin_111 : decode cX10_renderGoblin 111 = .ok (.aload_n 0, 1) := by decide +kernel
theorem dX10_renderGoblin_112 : decode cX10_renderGoblin 112 = .ok (.getfield 201, 3) := by decide +kernel
theorem dX10_renderGoblin_115 : decode cX10_renderGoblin 115 = .ok (.ireturn, 1) := by decide +kernel
theorem dX10_writesContract_0 : decode cX10_writesContract 0 = .ok (.aload_n 0, 1) := by decide +kernel
theorem dX10_writesContract_1 : decode cX10_writesContract 1 = .ok (.aload_n 0, 1) := by decide +kernel
theorem dX10_writesContract_2 : decode cX10_writesContract 2 = .ok (.iload_n 1, 1) := by decide +kernel
theorem dX10_writesContract_3 : decode cX10_writesContract 3 = .ok (.aload_n 0, 1) := by decide +kernel
theorem dX10_writesContract_4 : decode cX10_writesContract 4 = .ok (.iload_n 2, 1) := by decide +kernel
theorem dX10_writesContract_5 : decode cX10_writesContract 5 = .ok (.iconst 0, 1) := by decide +kernel
theorem dX10_writesContract_6 : decode cX10_writesContract 6 = .ok (.invokevirtual 84, 3) := by decide +kernel
theorem dX10_writesContract_9 : decode cX10_writesContract 9 = .ok (.invokevirtual 198, 3) := by decide +kernel
theorem dX10_writesContract_12 : decode cX10_writesContract 12 = .ok (.bipush 58, 2) := by decide +kernel
theorem dX10_writesContract_14 : decode cX10_writesContract 14 = .ok (.invokevirtual 195, 3) := by decide +kernel
theorem dX10_writesContract_17 : decode cX10_writesContract 17 = .ok (.istore_n 3, 1) := by decide +kernel
theorem dX10_writesContract_18 : decode cX10_writesContract 18 = .ok (.aload_n 0, 1) := by decide +kernel
theorem dX10_writesContract_19 : decode cX10_writesContract 19 = .ok (.aload_n 0, 1) := by decide +kernel
theorem dX10_writesContract_20 : decode cX10_writesContract 20 = .ok (.iload_n 3, 1) := by decide +kernel
theorem dX10_writesContract_21 : decode cX10_writesContract 21 = .ok (.aload_n 0, 1) := by decide +kernel
theorem dX10_writesContract_22 : decode cX10_writesContract 22 = .ok (.iload_n 2, 1) := by decide +kernel
theorem dX10_writesContract_23 : decode cX10_writesContract 23 = .ok (.iconst 1, 1) := by decide +kernel
theorem dX10_writesContract_24 : decode cX10_writesContract 24 = .ok (.invokevirtual 84, 3) := by decide +kernel
theorem dX10_writesContract_27 : decode cX10_writesContract 27 = .ok (.invokevirtual 198, 3) := by decide +kernel
theorem dX10_writesContract_30 : decode cX10_writesContract 30 = .ok (.bipush 62, 2) := by decide +kernel
theorem dX10_writesContract_32 : decode cX10_writesContract 32 = .ok (.invokevirtual 195, 3) := by decide +kernel
theorem dX10_writesContract_35 : decode cX10_writesContract 35 = .ok (.istore_n 3, 1) := by decide +kernel
theorem dX10_writesContract_36 : decode cX10_writesContract 36 = .ok (.aload_n 0, 1) := by decide +kernel
theorem dX10_writesContract_37 : decode cX10_writesContract 37 = .ok (.aload_n 0, 1) := by decide +kernel
theorem dX10_writesContract_38 : decode cX10_writesContract 38 = .ok (.iload_n 3, 1) := by decide +kernel
theorem dX10_writesContract_39 : decode cX10_writesContract 39 = .ok (.aload_n 0, 1) := by decide +kernel
theorem dX10_writesContract_40 : decode cX10_writesContract 40 = .ok (.iload_n 2, 1) := by decide +kernel
theorem dX10_writesContract_41 : decode cX10_writesContract 41 = .ok (.iconst 2, 1) := by decide +kernel
theorem dX10_writesContract_42 : decode cX10_writesContract 42 = .ok (.invokevirtual 84, 3) := by decide +kernel
theorem dX10_writesContract_45 : decode cX10_writesContract 45 = .ok (.invokevirtual 198, 3) := by decide +kernel
theorem dX10_writesContract_48 : decode cX10_writesContract 48 = .ok (.bipush 64, 2) := by decide +kernel
theorem dX10_writesContract_50 : decode cX10_writesContract 50 = .ok (.invokevirtual 195, 3) := by decide +kernel
theorem dX10_writesContract_53 : decode cX10_writesContract 53 = .ok (.istore_n 3, 1) := by decide +kernel
theorem dX10_writesContract_54 : decode cX10_writesContract 54 = .ok (.aload_n 0, 1) := by decide +kernel
theorem dX10_writesContract_55 : decode cX10_writesContract 55 = .ok (.aload_n 0, 1) := by decide +kernel
theorem dX10_writesContract_56 : decode cX10_writesContract 56 = .ok (.iload_n 3, 1) := by decide +kernel
theorem dX10_writesContract_57 : decode cX10_writesContract 57 = .ok (.aload_n 0, 1) := by decide +kernel
theorem dX10_writesContract_58 : decode cX10_writesContract 58 = .ok (.iload_n 2, 1) := by decide +kernel
theorem dX10_writesContract_59 : decode cX10_writesContract 59 = .ok (.iconst 3, 1) := by decide +kernel
theorem dX10_writesContract_60 : decode cX10_writesContract 60 = .ok (.invokevirtual 84, 3) := by decide +kernel
theorem dX10_writesContract_63 : decode cX10_writesContract 63 = .ok (.invokevirtual 198, 3) := by decide +kernel
theorem dX10_writesContract_66 : decode cX10_writesContract 66 = .ok (.bipush 47, 2) := by decide +kernel
theorem dX10_writesContract_68 : decode cX10_writesContract 68 = .ok (.invokevirtual 195, 3) := by decide +kernel
theorem dX10_writesContract_71 : decode cX10_writesContract 71 = .ok (.istore_n 3, 1) := by decide +kernel
theorem dX10_writesContract_72 : decode cX10_writesContract 72 = .ok (.aload_n 0, 1) := by decide +kernel
theorem dX10_writesContract_73 : decode cX10_writesContract 73 = .ok (.iload_n 3, 1) := by decide +kernel
theorem dX10_writesContract_74 : decode cX10_writesContract 74 = .ok (.aload_n 0, 1) := by decide +kernel
theorem dX10_writesContract_75 : decode cX10_writesContract 75 = .ok (.iload_n 2, 1) := by decide +kernel
theorem dX10_writesContract_76 : decode cX10_writesContract 76 = .ok (.iconst 4, 1) := by decide +kernel
theorem dX10_writesContract_77 : decode cX10_writesContract 77 = .ok (.invokevirtual 84, 3) := by decide +kernel
theorem dX10_writesContract_80 : decode cX10_writesContract 80 = .ok (.invokevirtual 198, 3) := by decide +kernel
theorem dX10_writesContract_83 : decode cX10_writesContract 83 = .ok (.ireturn, 1) := by decide +kernel
theorem dX10_renderContracts_0 : decode cX10_renderContracts 0 = .ok (.aload_n 0, 1) := by decide +kernel
theorem dX10_renderContracts_1 : decode cX10_renderContracts 1 = .ok (.iconst 0, 1) := by decide +kernel
theorem dX10_renderContracts_2 : decode cX10_renderContracts 2 = .ok (.putfield 44, 3) := by decide +kernel
theorem dX10_renderContracts_5 : decode cX10_renderContracts 5 = .ok (.iconst 0, 1) := by decide +kernel
theorem dX10_renderContracts_6 : decode cX10_renderContracts 6 = .ok (.istore_n 1, 1) := by decide +kernel
theorem dX10_renderContracts_7 : decode cX10_renderContracts 7 = .ok (.iconst 0, 1) := by decide +kernel
theorem dX10_renderContracts_8 : decode cX10_renderContracts 8 = .ok (.istore_n 2, 1) := by decide +kernel
theorem dX10_renderContracts_9 : decode cX10_renderContracts 9 = .ok (.iload_n 2, 1) := by decide +kernel
theorem dX10_renderContracts_10 : decode cX10_renderContracts 10 = .ok (.aload_n 0, 1) := by decide +kernel
theorem dX10_renderContracts_11 : decode cX10_renderContracts 11 = .ok (.getfield 9, 3) := by decide +kernel
theorem dX10_renderContracts_14 : decode cX10_renderContracts 14 = .ok (.bipush 11, 2) := by decide +kernel
theorem dX10_renderContracts_16 : decode cX10_renderContracts 16 = .ok (.iaload, 1) := by decide +kernel
theorem dX10_renderContracts_17 : decode cX10_renderContracts 17 = .ok (.if_icmp .ge 30, 3) := by decide +kernel
theorem dX10_renderContracts_20 : decode cX10_renderContracts 20 = .ok (.aload_n 0, 1) := by decide +kernel
theorem dX10_renderContracts_21 : decode cX10_renderContracts 21 = .ok (.iload_n 2, 1) := by decide +kernel
theorem dX10_renderContracts_22 : decode cX10_renderContracts 22 = .ok (.ifCond .ne 7, 3) := by decide +kernel
theorem dX10_renderContracts_25 : decode cX10_renderContracts 25 = .ok (.iload_n 1, 1) := by decide +kernel
theorem dX10_renderContracts_26 : decode cX10_renderContracts 26 = .ok (.goto 10, 3) := by decide +kernel
theorem dX10_renderContracts_29 : decode cX10_renderContracts 29 = .ok (.aload_n 0, 1) := by decide +kernel
theorem dX10_renderContracts_30 : decode cX10_renderContracts 30 = .ok (.iload_n 1, 1) := by decide +kernel
theorem dX10_renderContracts_31 : decode cX10_renderContracts 31 = .ok (.bipush 32, 2) := by decide +kernel
theorem dX10_renderContracts_33 : decode cX10_renderContracts 33 = .ok (.invokevirtual 195, 3) := by decide +kernel
theorem dX10_renderContracts_36 : decode cX10_renderContracts 36 = .ok (.iload_n 2, 1) := by decide +kernel
theorem dX10_renderContracts_37 : decode cX10_renderContracts 37 = .ok (.invokevirtual 204, 3) := by decide +kernel
theorem dX10_renderContracts_40 : decode cX10_renderContracts 40 = .ok (.istore_n 1, 1) := by decide +kernel
theorem dX10_renderContracts_41 : decode cX10_renderContracts 41 = .ok (.iinc 2 1, 3) := by decide +kernel
theorem dX10_renderContracts_44 : decode cX10_renderContracts 44 = .ok (.goto (-35), 3) := by decide +kernel
theorem dX10_renderContracts_47 : decode cX10_renderContracts 47 = .ok (.aload_n 0, 1) := by decide +kernel
theorem dX10_renderContracts_48 : decode cX10_renderContracts 48 = .ok (.iload_n 1, 1) := by decide +kernel
theorem dX10_renderContracts_49 : decode cX10_renderContracts 49 = .ok (.putfield 201, 3) := by decide +kernel
theorem dX10_renderContracts_52 : decode cX10_renderContracts 52 = .ok (.iload_n 1, 1) := by decide +kernel
theorem dX10_renderContracts_53 : decode cX10_renderContracts 53 = .ok (.ireturn, 1) := by decide +kernel
theorem dX10_outputAt_0 : decode cX10_outputAt 0 = .ok (.aload_n 0, 1) := by decide +kernel
theorem dX10_outputAt_1 : decode cX10_outputAt 1 = .ok (.iload_n 1, 1) := by decide +kernel
theorem dX10_outputAt_2 : decode cX10_outputAt 2 = .ok (.iconst 0, 1) := by decide +kernel
theorem dX10_outputAt_3 : decode cX10_outputAt 3 = .ok (.aload_n 0, 1) := by decide +kernel
theorem dX10_outputAt_4 : decode cX10_outputAt 4 = .ok (.getfield 201, 3) := by decide +kernel
theorem dX10_outputAt_7 : decode cX10_outputAt 7 = .ok (.iconst 1, 1) := by decide +kernel
theorem dX10_outputAt_8 : decode cX10_outputAt 8 = .ok (.isub, 1) := by decide +kernel
theorem dX10_outputAt_9 : decode cX10_outputAt 9 = .ok (.invokestatic 69, 3) := by decide +kernel
theorem dX10_outputAt_12 : decode cX10_outputAt 12 = .ok (.invokevirtual 61, 3) := by decide +kernel
theorem dX10_outputAt_15 : decode cX10_outputAt 15 = .ok (.ifCond .eq 13, 3) := by decide +kernel
theorem dX10_outputAt_18 : decode cX10_outputAt 18 = .ok (.aload_n 0, 1) := by decide +kernel
theorem dX10_outputAt_19 : decode cX10_outputAt 19 = .ok (.getfield 38, 3) := by decide +kernel
theorem dX10_outputAt_22 : decode cX10_outputAt 22 = .ok (.iload_n 1, 1) := by decide +kernel
theorem dX10_outputAt_23 : decode cX10_outputAt 23 = .ok (.iaload, 1) := by decide +kernel
theorem dX10_outputAt_24 : decode cX10_outputAt 24 = .ok (.i2c, 1) := by decide +kernel
theorem dX10_outputAt_25 : decode cX10_outputAt 25 = .ok (.goto 4, 3) := by decide +kernel
theorem dX10_outputAt_28 : decode cX10_outputAt 28 = .ok (.iconst 0, 1) := by decide +kernel
theorem dX10_outputAt_29 : decode cX10_outputAt 29 = .ok (.ireturn, 1) := by decide +kernel
theorem dX10_type_0 : decode cX10_type 0 = .ok (.aload_n 0, 1) := by decide +kernel
theorem dX10_type_1 : decode cX10_type 1 = .ok (.iload_n 1, 1) := by decide +kernel
theorem dX10_type_2 : decode cX10_type 2 = .ok (.bipush 32, 2) := by decide +kernel
theorem dX10_type_4 : decode cX10_type 4 = .ok (.bipush 126, 2) := by decide +kernel
theorem dX10_type_6 : decode cX10_type 6 = .ok (.invokestatic 69, 3) := by decide +kernel
theorem dX10_type_9 : decode cX10_type 9 = .ok (.aload_n 0, 1) := by decide +kernel
theorem dX10_type_10 : decode cX10_type 10 = .ok (.getfield 207, 3) := by decide +kernel
theorem dX10_type_13 : decode cX10_type 13 = .ok (.bipush 60, 2) := by decide +kernel
theorem dX10_type_15 : decode cX10_type 15 = .ok (.if_icmp .ge 7, 3) := by decide +kernel
theorem dX10_type_18 : decode cX10_type 18 = .ok (.iconst 1, 1) := by decide +kernel
theorem dX10_type_19 : decode cX10_type 19 = .ok (.goto 4, 3) := by decide +kernel
theorem dX10_type_22 : decode cX10_type 22 = .ok (.iconst 0, 1) := by decide +kernel
theorem dX10_type_23 : decode cX10_type 23 = .ok (.iconst 1, 1) := by decide +kernel
theorem dX10_type_24 : decode cX10_type 24 = .ok (.iconst 1, 1) := by decide +kernel
theorem dX10_type_25 : decode cX10_type 25 = .ok (.invokevirtual 47, 3) := by decide +kernel
theorem dX10_type_28 : decode cX10_type 28 = .ok (.ifCond .ne 5, 3) := by decide +kernel
theorem dX10_type_31 : decode cX10_type 31 = .ok (.iconst 0, 1) := by decide +kernel
theorem dX10_type_32 : decode cX10_type 32 = .ok (.ireturn, 1) := by decide +kernel
theorem dX10_type_33 : decode cX10_type 33 = .ok (.aload_n 0, 1) := by decide +kernel
theorem dX10_type_34 : decode cX10_type 34 = .ok (.getfield 35, 3) := by decide +kernel
theorem dX10_type_37 : decode cX10_type 37 = .ok (.aload_n 0, 1) := by decide +kernel
theorem dX10_type_38 : decode cX10_type 38 = .ok (.getfield 207, 3) := by decide +kernel
theorem dX10_type_41 : decode cX10_type 41 = .ok (.iload_n 1, 1) := by decide +kernel
theorem dX10_type_42 : decode cX10_type 42 = .ok (.iastore, 1) := by decide +kernel
theorem dX10_type_43 : decode cX10_type 43 = .ok (.aload_n 0, 1) := by decide +kernel
theorem dX10_type_44 : decode cX10_type 44 = .ok (.dup, 1) := by decide +kernel
theorem dX10_type_45 : decode cX10_type 45 = .ok (.getfield 207, 3) := by decide +kernel
theorem dX10_type_48 : decode cX10_type 48 = .ok (.iconst 1, 1) := by decide +kernel
theorem dX10_type_49 : decode cX10_type 49 = .ok (.iadd, 1) := by decide +kernel
theorem dX10_type_50 : decode cX10_type 50 = .ok (.putfield 207, 3) := by decide +kernel
theorem dX10_type_53 : decode cX10_type 53 = .ok (.aload_n 0, 1) := by decide +kernel
theorem dX10_type_54 : decode cX10_type 54 = .ok (.getfield 207, 3) := by decide +kernel
theorem dX10_type_57 : decode cX10_type 57 = .ok (.ireturn, 1) := by decide +kernel
theorem dX10_letterHere_0 : decode cX10_letterHere 0 = .ok (.aload_n 0, 1) := by decide +kernel
theorem dX10_letterHere_1 : decode cX10_letterHere 1 = .ok (.getfield 210, 3) := by decide +kernel
theorem dX10_letterHere_4 : decode cX10_letterHere 4 = .ok (.aload_n 0, 1) := by decide +kernel
theorem dX10_letterHere_5 : decode cX10_letterHere 5 = .ok (.getfield 213, 3) := by decide +kernel
theorem dX10_letterHere_8 : decode cX10_letterHere 8 = .ok (.if_icmp .ge 15, 3) := by decide +kernel
theorem dX10_letterHere_11 : decode cX10_letterHere 11 = .ok (.aload_n 0, 1) := by decide +kernel
theorem dX10_letterHere_12 : decode cX10_letterHere 12 = .ok (.getfield 35, 3) := by decide +kernel
theorem dX10_letterHere_15 : decode cX10_letterHere 15 = .ok (.aload_n 0, 1) := by decide +kernel
theorem dX10_letterHere_16 : decode cX10_letterHere 16 = .ok (.getfield 210, 3) := by decide +kernel
theorem dX10_letterHere_19 : decode cX10_letterHere 19 = .ok (.iaload, 1) := by decide +kernel
theorem dX10_letterHere_20 : decode cX10_letterHere 20 = .ok (.goto 4, 3) := by decide +kernel
theorem dX10_letterHere_23 : decode cX10_letterHere 23 = .ok (.iconst (-1), 1) := by decide +kernel
theorem dX10_letterHere_24 : decode cX10_letterHere 24 = .ok (.ireturn, 1) := by decide +kernel
theorem dX10_reads_0 : decode cX10_reads 0 = .ok (.aload_n 0, 1) := by decide +kernel
theorem dX10_reads_1 : decode cX10_reads 1 = .ok (.getfield 216, 3) := by decide +kernel
theorem dX10_reads_4 : decode cX10_reads 4 = .ok (.iconst (-1), 1) := by decide +kernel
theorem dX10_reads_5 : decode cX10_reads 5 = .ok (.if_icmp .ne 39, 3) := by decide +kernel
theorem dX10_reads_8 : decode cX10_reads 8 = .ok (.aload_n 0, 1) := by decide +kernel
theorem dX10_reads_9 : decode cX10_reads 9 = .ok (.invokevirtual 219, 3) := by decide +kernel
theorem dX10_reads_12 : decode cX10_reads 12 = .ok (.iload_n 1, 1) := by decide +kernel
theorem dX10_reads_13 : decode cX10_reads 13 = .ok (.iload_n 2, 1) := by decide +kernel
theorem dX10_reads_14 : decode cX10_reads 14 = .ok (.invokestatic 69, 3) := by decide +kernel
theorem dX10_reads_17 : decode cX10_reads 17 = .ok (.ifCond .eq 27, 3) := by decide +kernel
theorem dX10_reads_20 : decode cX10_reads 20 = .ok (.aload_n 0, 1) := by decide +kernel
theorem dX10_reads_21 : decode cX10_reads 21 = .ok (.dup, 1) := by decide +kernel
theorem dX10_reads_22 : decode cX10_reads 22 = .ok (.getfield 210, 3) := by decide +kernel
theorem dX10_reads_25 : decode cX10_reads 25 = .ok (.iconst 1, 1) := by decide +kernel
theorem dX10_reads_26 : decode cX10_reads 26 = .ok (.iadd, 1) := by decide +kernel
theorem dX10_reads_27 : decode cX10_reads 27 = .ok (.putfield 210, 3) := by decide +kernel
theorem dX10_reads_30 : decode cX10_reads 30 = .ok (.aload_n 0, 1) := by decide +kernel
theorem dX10_reads_31 : decode cX10_reads 31 = .ok (.getfield 35, 3) := by decide +kernel
theorem dX10_reads_34 : decode cX10_reads 34 = .ok (.aload_n 0, 1) := by decide +kernel
theorem dX10_reads_35 : decode cX10_reads 35 = .ok (.getfield 210, 3) := by decide +kernel
theorem dX10_reads_38 : decode cX10_reads 38 = .ok (.iconst 1, 1) := by decide +kernel
theorem dX10_reads_39 : decode cX10_reads 39 = .ok (.isub, 1) := by decide +kernel
theorem dX10_reads_40 : decode cX10_reads 40 = .ok (.iaload, 1) := by decide +kernel
theorem dX10_reads_41 : decode cX10_reads 41 = .ok (.iload_n 1, 1) := by decide +kernel
theorem dX10_reads_42 : decode cX10_reads 42 = .ok (.isub, 1) := by decide +kernel
theorem dX10_reads_43 : decode cX10_reads 43 = .ok (.ireturn, 1) := by decide +kernel
theorem dX10_reads_44 : decode cX10_reads 44 = .ok (.aload_n 0, 1) := by decide +kernel
theorem dX10_reads_45 : decode cX10_reads 45 = .ok (.aload_n 0, 1) := by decide +kernel
theorem dX10_reads_46 : decode cX10_reads 46 = .ok (.getfield 216, 3) := by decide +kernel
theorem dX10_reads_49 : decode cX10_reads 49 = .ok (.iconst (-1), 1) := by decide +kernel
theorem dX10_reads_50 : decode cX10_reads 50 = .ok (.if_icmp .ne 10, 3) := by decide +kernel
theorem dX10_reads_53 : decode cX10_reads 53 = .ok (.aload_n 0, 1) := by decide +kernel
theorem dX10_reads_54 : decode cX10_reads 54 = .ok (.getfield 210, 3) := by decide +kernel
theorem dX10_reads_57 : decode cX10_reads 57 = .ok (.goto 7, 3) := by decide +kernel
theorem dX10_reads_60 : decode cX10_reads 60 = .ok (.aload_n 0, 1) := by decide +kernel
theorem dX10_reads_61 : decode cX10_reads 61 = .ok (.getfield 216, 3) := by decide +kernel
theorem dX10_reads_64 : decode cX10_reads 64 = .ok (.putfield 216, 3) := by decide +kernel
theorem dX10_reads_67 : decode cX10_reads 67 = .ok (.iconst 0, 1) := by decide +kernel
theorem dX10_reads_68 : decode cX10_reads 68 = .ok (.ireturn, 1) := by decide +kernel
theorem dX10_digit_0 : decode cX10_digit 0 = .ok (.aload_n 0, 1) := by decide +kernel
theorem dX10_digit_1 : decode cX10_digit 1 = .ok (.bipush 48, 2) := by decide +kernel
theorem dX10_digit_3 : decode cX10_digit 3 = .ok (.bipush 57, 2) := by decide +kernel
theorem dX10_digit_5 : decode cX10_digit 5 = .ok (.invokevirtual 222, 3) := by decide +kernel
theorem dX10_digit_8 : decode cX10_digit 8 = .ok (.ireturn, 1) := by decide +kernel
theorem dX10_number_0 : decode cX10_number 0 = .ok (.aload_n 0, 1) := by decide +kernel
theorem dX10_number_1 : decode cX10_number 1 = .ok (.invokevirtual 225, 3) := by decide +kernel
theorem dX10_number_4 : decode cX10_number 4 = .ok (.istore_n 1, 1) := by decide +kernel
theorem dX10_number_5 : decode cX10_number 5 = .ok (.iconst 1, 1) := by decide +kernel
theorem dX10_number_6 : decode cX10_number 6 = .ok (.istore_n 2, 1) := by decide +kernel
theorem dX10_number_7 : decode cX10_number 7 = .ok (.iload_n 2, 1) := by decide +kernel
theorem dX10_number_8 : decode cX10_number 8 = .ok (.iconst 3, 1) := by decide +kernel
theorem dX10_number_9 : decode cX10_number 9 = .ok (.if_icmp .ge 41, 3) := by decide +kernel
theorem dX10_number_12 : decode cX10_number 12 = .ok (.aload_n 0, 1) := by decide +kernel
theorem dX10_number_13 : decode cX10_number 13 = .ok (.getfield 216, 3) := by decide +kernel
theorem dX10_number_16 : decode cX10_number 16 = .ok (.iconst (-1), 1) := by decide +kernel
theorem dX10_number_17 : decode cX10_number 17 = .ok (.if_icmp .ne 33, 3) := by decide +kernel
theorem dX10_number_20 : decode cX10_number 20 = .ok (.aload_n 0, 1) := by decide +kernel
theorem dX10_number_21 : decode cX10_number 21 = .ok (.invokevirtual 219, 3) := by decide +kernel
theorem dX10_number_24 : decode cX10_number 24 = .ok (.bipush 48, 2) := by decide +kernel
theorem dX10_number_26 : decode cX10_number 26 = .ok (.bipush 57, 2) := by decide +kernel
theorem dX10_number_28 : decode cX10_number 28 = .ok (.invokestatic 69, 3) := by decide +kernel
theorem dX10_number_31 : decode cX10_number 31 = .ok (.ifCond .eq 19, 3) := by decide +kernel
theorem dX10_number_34 : decode cX10_number 34 = .ok (.bipush 10, 2) := by decide +kernel
theorem dX10_number_36 : decode cX10_number 36 = .ok (.iload_n 1, 1) := by decide +kernel
theorem dX10_number_37 : decode cX10_number 37 = .ok (.imul, 1) := by decide +kernel
theorem dX10_number_38 : decode cX10_number 38 = .ok (.aload_n 0, 1) := by decide +kernel
theorem dX10_number_39 : decode cX10_number 39 = .ok (.invokevirtual 225, 3) := by decide +kernel
theorem dX10_number_42 : decode cX10_number 42 = .ok (.iadd, 1) := by decide +kernel
theorem dX10_number_43 : decode cX10_number 43 = .ok (.istore_n 1, 1) := by decide +kernel
theorem dX10_number_44 : decode cX10_number 44 = .ok (.iinc 2 1, 3) := by decide +kernel
theorem dX10_number_47 : decode cX10_number 47 = .ok (.goto (-40), 3) := by decide +kernel
theorem dX10_number_50 : decode cX10_number 50 = .ok (.iload_n 1, 1) := by decide +kernel
theorem dX10_number_51 : decode cX10_number 51 = .ok (.ireturn, 1) := by decide +kernel
theorem dX10_sign_0 : decode cX10_sign 0 = .ok (.aload_n 0, 1) := by decide +kernel
theorem dX10_sign_1 : decode cX10_sign 1 = .ok (.iload_n 1, 1) := by decide +kernel
theorem dX10_sign_2 : decode cX10_sign 2 = .ok (.iload_n 1, 1) := by decide +kernel
theorem dX10_sign_3 : decode cX10_sign 3 = .ok (.invokevirtual 222, 3) := by decide +kernel
theorem dX10_sign_6 : decode cX10_sign 6 = .ok (.istore_n 2, 1) := by decide +kernel
theorem dX10_sign_7 : decode cX10_sign 7 = .ok (.return_, 1) := by decide +kernel
theorem dX10_startOf_0 : decode cX10_startOf 0 = .ok (.iload_n 0, 1) := by decide +kernel
theorem dX10_startOf_1 : decode cX10_startOf 1 = .ok (.tableswitch 94 0 11 #[63, 65, 68, 68, 68, 78, 81, 81, 81, 81, 81, 91], 63) := by decide +kernel
theorem dX10_startOf_64 : decode cX10_startOf 64 = .ok (.iconst 0, 1) := by decide +kernel
theorem dX10_startOf_65 : decode cX10_startOf 65 = .ok (.ireturn, 1) := by decide +kernel
theorem dX10_startOf_66 : decode cX10_startOf 66 = .ok (.bipush 7, 2) := by decide +kernel
theorem dX10_startOf_68 : decode cX10_startOf 68 = .ok (.ireturn, 1) := by decide +kernel
theorem dX10_startOf_69 : decode cX10_startOf 69 = .ok (.bipush 13, 2) := by decide +kernel
theorem dX10_startOf_71 : decode cX10_startOf 71 = .ok (.bipush 7, 2) := by decide +kernel
theorem dX10_startOf_73 : decode cX10_startOf 73 = .ok (.iload_n 0, 1) := by decide +kernel
theorem dX10_startOf_74 : decode cX10_startOf 74 = .ok (.iconst 2, 1) := by decide +kernel
theorem dX10_startOf_75 : decode cX10_startOf 75 = .ok (.isub, 1) := by decide +kernel
theorem dX10_startOf_76 : decode cX10_startOf 76 = .ok (.imul, 1) := by decide +kernel
theorem dX10_startOf_77 : decode cX10_startOf 77 = .ok (.iadd, 1) := by decide +kernel
theorem dX10_startOf_78 : decode cX10_startOf 78 = .ok (.ireturn, 1) := by decide +kernel
theorem dX10_startOf_79 : decode cX10_startOf 79 = .ok (.bipush 32, 2) := by decide +kernel
theorem dX10_startOf_81 : decode cX10_startOf 81 = .ok (.ireturn, 1) := by decide +kernel
theorem dX10_startOf_82 : decode cX10_startOf 82 = .ok (.bipush 39, 2) := by decide +kernel
theorem dX10_startOf_84 : decode cX10_startOf 84 = .ok (.iconst 5, 1) := by decide +kernel
theorem dX10_startOf_85 : decode cX10_startOf 85 = .ok (.iload_n 0, 1) := by decide +kernel
theorem dX10_startOf_86 : decode cX10_startOf 86 = .ok (.bipush 6, 2) := by decide +kernel
theorem dX10_startOf_88 : decode cX10_startOf 88 = .ok (.isub, 1) := by decide +kernel
theorem dX10_startOf_89 : decode cX10_startOf 89 = .ok (.imul, 1) := by decide +kernel
theorem dX10_startOf_90 : decode cX10_startOf 90 = .ok (.iadd, 1) := by decide +kernel
theorem dX10_startOf_91 : decode cX10_startOf 91 = .ok (.ireturn, 1) := by decide +kernel
theorem dX10_startOf_92 : decode cX10_startOf 92 = .ok (.bipush 65, 2) := by decide +kernel
theorem dX10_startOf_94 : decode cX10_startOf 94 = .ok (.ireturn, 1) := by decide +kernel
theorem dX10_startOf_95 : decode cX10_startOf 95 = .ok (.bipush 70, 2) := by decide +kernel
theorem dX10_startOf_97 : decode cX10_startOf 97 = .ok (.ireturn, 1) := by decide +kernel
theorem dX10_kindHere_0 : decode cX10_kindHere 0 = .ok (.aload_n 0, 1) := by decide +kernel
theorem dX10_kindHere_1 : decode cX10_kindHere 1 = .ok (.getfield 210, 3) := by decide +kernel
theorem dX10_kindHere_4 : decode cX10_kindHere 4 = .ok (.istore_n 1, 1) := by decide +kernel
theorem dX10_kindHere_5 : decode cX10_kindHere 5 = .ok (.iconst (-1), 1) := by decide +kernel
theorem dX10_kindHere_6 : decode cX10_kindHere 6 = .ok (.istore_n 2, 1) := by decide +kernel
theorem dX10_kindHere_7 : decode cX10_kindHere 7 = .ok (.iconst 0, 1) := by decide +kernel
theorem dX10_kindHere_8 : decode cX10_kindHere 8 = .ok (.istore_n 3, 1) := by decide +kernel
theorem dX10_kindHere_9 : decode cX10_kindHere 9 = .ok (.iload_n 3, 1) := by decide +kernel
theorem dX10_kindHere_10 : decode cX10_kindHere 10 = .ok (.bipush 12, 2) := by decide +kernel
theorem dX10_kindHere_12 : decode cX10_kindHere 12 = .ok (.if_icmp .ge 109, 3) := by decide +kernel
theorem dX10_kindHere_15 : decode cX10_kindHere 15 = .ok (.iload_n 2, 1) := by decide +kernel
theorem dX10_kindHere_16 : decode cX10_kindHere 16 = .ok (.iconst (-1), 1) := by decide +kernel
theorem dX10_kindHere_17 : decode cX10_kindHere 17 = .ok (.if_icmp .ne 104, 3) := by decide +kernel
theorem dX10_kindHere_20 : decode cX10_kindHere 20 = .ok (.iload_n 3, 1) := by decide +kernel
theorem dX10_kindHere_21 : decode cX10_kindHere 21 = .ok (.iconst 1, 1) := by decide +kernel
theorem dX10_kindHere_22 : decode cX10_kindHere 22 = .ok (.iadd, 1) := by decide +kernel
theorem dX10_kindHere_23 : decode cX10_kindHere 23 = .ok (.invokestatic 228, 3) := by decide +kernel
theorem dX10_kindHere_26 : decode cX10_kindHere 26 = .ok (.iload_n 3, 1) := by decide +kernel
theorem dX10_kindHere_27 : decode cX10_kindHere 27 = .ok (.invokestatic 228, 3) := by decide +kernel
theorem dX10_kindHere_30 : decode cX10_kindHere 30 = .ok (.isub, 1) := by decide +kernel
theorem dX10_kindHere_31 : decode cX10_kindHere 31 = .ok (.istore 4, 2) := by decide +kernel
theorem dX10_kindHere_33 : decode cX10_kindHere 33 = .ok (.iconst 0, 1) := by decide +kernel
theorem dX10_kindHere_34 : decode cX10_kindHere 34 = .ok (.istore 5, 2) := by decide +kernel
theorem dX10_kindHere_36 : decode cX10_kindHere 36 = .ok (.iload 5, 2) := by decide +kernel
theorem dX10_kindHere_38 : decode cX10_kindHere 38 = .ok (.iload 4, 2) := by decide +kernel
theorem dX10_kindHere_40 : decode cX10_kindHere 40 = .ok (.if_icmp .ge 50, 3) := by decide +kernel
theorem dX10_kindHere_43 : decode cX10_kindHere 43 = .ok (.aload_n 0, 1) := by decide +kernel
theorem dX10_kindHere_44 : decode cX10_kindHere 44 = .ok (.getfield 210, 3) := by decide +kernel
theorem dX10_kindHere_47 : decode cX10_kindHere 47 = .ok (.iload 5, 2) := by decide +kernel
theorem dX10_kindHere_49 : decode cX10_kindHere 49 = .ok (.iadd, 1) := by decide +kernel
theorem dX10_kindHere_50 : decode cX10_kindHere 50 = .ok (.aload_n 0, 1) := by decide +kernel
theorem dX10_kindHere_51 : decode cX10_kindHere 51 = .ok (.getfield 213, 3) := by decide +kernel
theorem dX10_kindHere_54 : decode cX10_kindHere 54 = .ok (.if_icmp .ge 36, 3) := by decide +kernel
theorem dX10_kindHere_57 : decode cX10_kindHere 57 = .ok (.aload_n 0, 1) := by decide +kernel
theorem dX10_kindHere_58 : decode cX10_kindHere 58 = .ok (.getfield 35, 3) := by decide +kernel
theorem dX10_kindHere_61 : decode cX10_kindHere 61 = .ok (.aload_n 0, 1) := by decide +kernel
theorem dX10_kindHere_62 : decode cX10_kindHere 62 = .ok (.getfield 210, 3) := by decide +kernel
theorem dX10_kindHere_65 : decode cX10_kindHere 65 = .ok (.iload 5, 2) := by decide +kernel
theorem dX10_kindHere_67 : decode cX10_kindHere 67 = .ok (.iadd, 1) := by decide +kernel
theorem dX10_kindHere_68 : decode cX10_kindHere 68 = .ok (.iaload, 1) := by decide +kernel
theorem dX10_kindHere_69 : decode cX10_kindHere 69 = .ok (.ldc 231, 2) := by decide +kernel
theorem dX10_kindHere_71 : decode cX10_kindHere 71 = .ok (.iload_n 3, 1) := by decide +kernel
theorem dX10_kindHere_72 : decode cX10_kindHere 72 = .ok (.invokestatic 228, 3) := by decide +kernel
theorem dX10_kindHere_75 : decode cX10_kindHere 75 = .ok (.iload 5, 2) := by decide +kernel
theorem dX10_kindHere_77 : decode cX10_kindHere 77 = .ok (.iadd, 1) := by decide +kernel
theorem dX10_kindHere_78 : decode cX10_kindHere 78 = .ok (.invokevirtual 233, 3) := by decide +kernel
theorem dX10_kindHere_81 : decode cX10_kindHere 81 = .ok (.if_icmp .ne 9, 3) := by decide +kernel
theorem dX10_kindHere_84 : decode cX10_kindHere 84 = .ok (.iinc 5 1, 3) := by decide +kernel
theorem dX10_kindHere_87 : decode cX10_kindHere 87 = .ok (.goto (-51), 3) := by decide +kernel
theorem dX10_kindHere_90 : decode cX10_kindHere 90 = .ok (.iload_n 1, 1) := by decide +kernel
theorem dX10_kindHere_91 : decode cX10_kindHere 91 = .ok (.aload_n 0, 1) := by decide +kernel
theorem dX10_kindHere_92 : decode cX10_kindHere 92 = .ok (.getfield 210, 3) := by decide +kernel
theorem dX10_kindHere_95 : decode cX10_kindHere 95 = .ok (.iload 5, 2) := by decide +kernel
theorem dX10_kindHere_97 : decode cX10_kindHere 97 = .ok (.iadd, 1) := by decide +kernel
theorem dX10_kindHere_98 : decode cX10_kindHere 98 = .ok (.invokestatic 90, 3) := by decide +kernel
theorem dX10_kindHere_101 : decode cX10_kindHere 101 = .ok (.istore_n 1, 1) := by decide +kernel
theorem dX10_kindHere_102 : decode cX10_kindHere 102 = .ok (.iload 5, 2) := by decide +kernel
theorem dX10_kindHere_104 : decode cX10_kindHere 104 = .ok (.iload 4, 2) := by decide +kernel
theorem dX10_kindHere_106 : decode cX10_kindHere 106 = .ok (.if_icmp .ne 7, 3) := by decide +kernel
theorem dX10_kindHere_109 : decode cX10_kindHere 109 = .ok (.iload_n 3, 1) := by decide +kernel
theorem dX10_kindHere_110 : decode cX10_kindHere 110 = .ok (.goto 4, 3) := by decide +kernel
theorem dX10_kindHere_113 : decode cX10_kindHere 113 = .ok (.iload_n 2, 1) := by decide +kernel
theorem dX10_kindHere_114 : decode cX10_kindHere 114 = .ok (.istore_n 2, 1) := by decide +kernel
theorem dX10_kindHere_115 : decode cX10_kindHere 115 = .ok (.iinc 3 1, 3) := by decide +kernel
theorem dX10_kindHere_118 : decode cX10_kindHere 118 = .ok (.goto (-109), 3) := by decide +kernel
theorem dX10_kindHere_121 : decode cX10_kindHere 121 = .ok (.aload_n 0, 1) := by decide +kernel
theorem dX10_kindHere_122 : decode cX10_kindHere 122 = .ok (.iload_n 2, 1) := by decide +kernel
theorem dX10_kindHere_123 : decode cX10_kindHere 123 = .ok (.iconst (-1), 1) := by decide +kernel
theorem dX10_kindHere_124 : decode cX10_kindHere 124 = .ok (.if_icmp .ne 7, 3) := by decide +kernel
theorem dX10_kindHere_127 : decode cX10_kindHere 127 = .ok (.iload_n 1, 1) := by decide +kernel
theorem dX10_kindHere_128 : decode cX10_kindHere 128 = .ok (.goto 7, 3) := by decide +kernel
theorem dX10_kindHere_131 : decode cX10_kindHere 131 = .ok (.aload_n 0, 1) := by decide +kernel
theorem dX10_kindHere_132 : decode cX10_kindHere 132 = .ok (.getfield 216, 3) := by decide +kernel
theorem dX10_kindHere_135 : decode cX10_kindHere 135 = .ok (.putfield 216, 3) := by decide +kernel
theorem dX10_kindHere_138 : decode cX10_kindHere 138 = .ok (.aload_n 0, 1) := by decide +kernel
theorem dX10_kindHere_139 : decode cX10_kindHere 139 = .ok (.dup, 1) := by decide +kernel
theorem dX10_kindHere_140 : decode cX10_kindHere 140 = .ok (.getfield 210, 3) := by decide +kernel
theorem dX10_kindHere_143 : decode cX10_kindHere 143 = .ok (.iload_n 2, 1) := by decide +kernel
theorem dX10_kindHere_144 : decode cX10_kindHere 144 = .ok (.iconst (-1), 1) := by decide +kernel
theorem dX10_kindHere_145 : decode cX10_kindHere 145 = .ok (.if_icmp .ne 7, 3) := by decide +kernel
theorem dX10_kindHere_148 : decode cX10_kindHere 148 = .ok (.iconst 0, 1) := by decide +kernel
theorem dX10_kindHere_149 : decode cX10_kindHere 149 = .ok (.goto 14, 3) := by decide +kernel
theorem dX10_kindHere_152 : decode cX10_kindHere 152 = .ok (.iload_n 2, 1) := by decide +kernel
theorem dX10_kindHere_153 : decode cX10_kindHere 153 = .ok (.iconst 1, 1) := by decide +kernel
theorem dX10_kindHere_154 : decode cX10_kindHere 154 = .ok (.iadd, 1) := by decide +kernel
theorem dX10_kindHere_155 : decode cX10_kindHere 155 = .ok (.invokestatic 228, 3) := by decide +kernel
theorem dX10_kindHere_158 : decode cX10_kindHere 158 = .ok (.iload_n 2, 1) := by decide +kernel
theorem dX10_kindHere_159 : decode cX10_kindHere 159 = .ok (.invokestatic 228, 3) := by decide +kernel
theorem dX10_kindHere_162 : decode cX10_kindHere 162 = .ok (.isub, 1) := by decide +kernel
theorem dX10_kindHere_163 : decode cX10_kindHere 163 = .ok (.iadd, 1) := by decide +kernel
theorem dX10_kindHere_164 : decode cX10_kindHere 164 = .ok (.putfield 210, 3) := by decide +kernel
theorem dX10_kindHere_167 : decode cX10_kindHere 167 = .ok (.iload_n 2, 1) := by decide +kernel
theorem dX10_kindHere_168 : decode cX10_kindHere 168 = .ok (.ireturn, 1) := by decide +kernel
theorem dX10_readsHire_0 : decode cX10_readsHire 0 = .ok (.aload_n 0, 1) := by decide +kernel
theorem dX10_readsHire_1 : decode cX10_readsHire 1 = .ok (.getfield 41, 3) := by decide +kernel
theorem dX10_readsHire_4 : decode cX10_readsHire 4 = .ok (.iload_n 1, 1) := by decide +kernel
theorem dX10_readsHire_5 : decode cX10_readsHire 5 = .ok (.iconst 1, 1) := by decide +kernel
theorem dX10_readsHire_6 : decode cX10_readsHire 6 = .ok (.iadd, 1) := by decide +kernel
theorem dX10_readsHire_7 : decode cX10_readsHire 7 = .ok (.aload_n 0, 1) := by decide +kernel
theorem dX10_readsHire_8 : decode cX10_readsHire 8 = .ok (.invokevirtual 225, 3) := by decide +kernel
theorem dX10_readsHire_11 : decode cX10_readsHire 11 = .ok (.iastore, 1) := by decide +kernel
theorem dX10_readsHire_12 : decode cX10_readsHire 12 = .ok (.aload_n 0, 1) := by decide +kernel
theorem dX10_readsHire_13 : decode cX10_readsHire 13 = .ok (.bipush 32, 2) := by decide +kernel
theorem dX10_readsHire_15 : decode cX10_readsHire 15 = .ok (.invokevirtual 239, 3) := by decide +kernel
theorem dX10_readsHire_18 : decode cX10_readsHire 18 = .ok (.aload_n 0, 1) := by decide +kernel
theorem dX10_readsHire_19 : decode cX10_readsHire 19 = .ok (.getfield 41, 3) := by decide +kernel
theorem dX10_readsHire_22 : decode cX10_readsHire 22 = .ok (.iload_n 1, 1) := by decide +kernel
theorem dX10_readsHire_23 : decode cX10_readsHire 23 = .ok (.iconst 2, 1) := by decide +kernel
theorem dX10_readsHire_24 : decode cX10_readsHire 24 = .ok (.iadd, 1) := by decide +kernel
theorem dX10_readsHire_25 : decode cX10_readsHire 25 = .ok (.aload_n 0, 1) := by decide +kernel
theorem dX10_readsHire_26 : decode cX10_readsHire 26 = .ok (.invokevirtual 225, 3) := by decide +kernel
theorem dX10_readsHire_29 : decode cX10_readsHire 29 = .ok (.iastore, 1) := by decide +kernel
theorem dX10_readsHire_30 : decode cX10_readsHire 30 = .ok (.aload_n 0, 1) := by decide +kernel
theorem dX10_readsHire_31 : decode cX10_readsHire 31 = .ok (.bipush 32, 2) := by decide +kernel
theorem dX10_readsHire_33 : decode cX10_readsHire 33 = .ok (.invokevirtual 239, 3) := by decide +kernel
theorem dX10_readsHire_36 : decode cX10_readsHire 36 = .ok (.aload_n 0, 1) := by decide +kernel
theorem dX10_readsHire_37 : decode cX10_readsHire 37 = .ok (.getfield 41, 3) := by decide +kernel
theorem dX10_readsHire_40 : decode cX10_readsHire 40 = .ok (.iload_n 1, 1) := by decide +kernel
theorem dX10_readsHire_41 : decode cX10_readsHire 41 = .ok (.iconst 3, 1) := by decide +kernel
theorem dX10_readsHire_42 : decode cX10_readsHire 42 = .ok (.iadd, 1) := by decide +kernel
theorem dX10_readsHire_43 : decode cX10_readsHire 43 = .ok (.aload_n 0, 1) := by decide +kernel
theorem dX10_readsHire_44 : decode cX10_readsHire 44 = .ok (.invokevirtual 242, 3) := by decide +kernel
theorem dX10_readsHire_47 : decode cX10_readsHire 47 = .ok (.iastore, 1) := by decide +kernel
theorem dX10_readsHire_48 : decode cX10_readsHire 48 = .ok (.aload_n 0, 1) := by decide +kernel
theorem dX10_readsHire_49 : decode cX10_readsHire 49 = .ok (.bipush 47, 2) := by decide +kernel
theorem dX10_readsHire_51 : decode cX10_readsHire 51 = .ok (.invokevirtual 239, 3) := by decide +kernel
theorem dX10_readsHire_54 : decode cX10_readsHire 54 = .ok (.aload_n 0, 1) := by decide +kernel
theorem dX10_readsHire_55 : decode cX10_readsHire 55 = .ok (.getfield 41, 3) := by decide +kernel
theorem dX10_readsHire_58 : decode cX10_readsHire 58 = .ok (.iload_n 1, 1) := by decide +kernel
theorem dX10_readsHire_59 : decode cX10_readsHire 59 = .ok (.iconst 4, 1) := by decide +kernel
theorem dX10_readsHire_60 : decode cX10_readsHire 60 = .ok (.iadd, 1) := by decide +kernel
theorem dX10_readsHire_61 : decode cX10_readsHire 61 = .ok (.aload_n 0, 1) := by decide +kernel
theorem dX10_readsHire_62 : decode cX10_readsHire 62 = .ok (.invokevirtual 242, 3) := by decide +kernel
theorem dX10_readsHire_65 : decode cX10_readsHire 65 = .ok (.iastore, 1) := by decide +kernel
theorem dX10_readsHire_66 : decode cX10_readsHire 66 = .ok (.return_, 1) := by decide +kernel
theorem dX10_readsCommand_0 : decode cX10_readsCommand 0 = .ok (.iconst 5, 1) := by decide +kernel
theorem dX10_readsCommand_1 : decode cX10_readsCommand 1 = .ok (.aload_n 0, 1) := by decide +kernel
theorem dX10_readsCommand_2 : decode cX10_readsCommand 2 = .ok (.getfield 245, 3) := by decide +kernel
theorem dX10_readsCommand_5 : decode cX10_readsCommand 5 = .ok (.imul, 1) := by decide +kernel
theorem dX10_readsCommand_6 : decode cX10_readsCommand 6 = .ok (.istore_n 1, 1) := by decide +kernel
theorem dX10_readsCommand_7 : decode cX10_readsCommand 7 = .ok (.aload_n 0, 1) := by decide +kernel
theorem dX10_readsCommand_8 : decode cX10_readsCommand 8 = .ok (.invokevirtual 248, 3) := by decide +kernel
theorem dX10_readsCommand_11 : decode cX10_readsCommand 11 = .ok (.istore_n 2, 1) := by decide +kernel
theorem dX10_readsCommand_12 : decode cX10_readsCommand 12 = .ok (.aload_n 0, 1) := by decide +kernel
theorem dX10_readsCommand_13 : decode cX10_readsCommand 13 = .ok (.getfield 41, 3) := by decide +kernel
theorem dX10_readsCommand_16 : decode cX10_readsCommand 16 = .ok (.iload_n 1, 1) := by decide +kernel
theorem dX10_readsCommand_17 : decode cX10_readsCommand 17 = .ok (.iload_n 2, 1) := by decide +kernel
theorem dX10_readsCommand_18 : decode cX10_readsCommand 18 = .ok (.iastore, 1) := by decide +kernel
theorem dX10_readsCommand_19 : decode cX10_readsCommand 19 = .ok (.aload_n 0, 1) := by decide +kernel
theorem dX10_readsCommand_20 : decode cX10_readsCommand 20 = .ok (.getfield 41, 3) := by decide +kernel
theorem dX10_readsCommand_23 : decode cX10_readsCommand 23 = .ok (.iload_n 1, 1) := by decide +kernel
theorem dX10_readsCommand_24 : decode cX10_readsCommand 24 = .ok (.iconst 1, 1) := by decide +kernel
theorem dX10_readsCommand_25 : decode cX10_readsCommand 25 = .ok (.iadd, 1) := by decide +kernel
theorem dX10_readsCommand_26 : decode cX10_readsCommand 26 = .ok (.iconst 1, 1) := by decide +kernel
theorem dX10_readsCommand_27 : decode cX10_readsCommand 27 = .ok (.iastore, 1) := by decide +kernel
theorem dX10_readsCommand_28 : decode cX10_readsCommand 28 = .ok (.aload_n 0, 1) := by decide +kernel
theorem dX10_readsCommand_29 : decode cX10_readsCommand 29 = .ok (.dup, 1) := by decide +kernel
theorem dX10_readsCommand_30 : decode cX10_readsCommand 30 = .ok (.getfield 245, 3) := by decide +kernel
theorem dX10_readsCommand_33 : decode cX10_readsCommand 33 = .ok (.iconst 1, 1) := by decide +kernel
theorem dX10_readsCommand_34 : decode cX10_readsCommand 34 = .ok (.iadd, 1) := by decide +kernel
theorem dX10_readsCommand_35 : decode cX10_readsCommand 35 = .ok (.putfield 245, 3) := by decide +kernel
theorem dX10_readsCommand_38 : decode cX10_readsCommand 38 = .ok (.aload_n 0, 1) := by decide +kernel
theorem dX10_readsCommand_39 : decode cX10_readsCommand 39 = .ok (.getfield 216, 3) := by decide +kernel
theorem dX10_readsCommand_42 : decode cX10_readsCommand 42 = .ok (.iconst (-1), 1) := by decide +kernel
theorem dX10_readsCommand_43 : decode cX10_readsCommand 43 = .ok (.if_icmp .ne 18, 3) := by decide +kernel
theorem dX10_readsCommand_46 : decode cX10_readsCommand 46 = .ok (.iload_n 2, 1) := by decide +kernel
theorem dX10_readsCommand_47 : decode cX10_readsCommand 47 = .ok (.bipush 11, 2) := by decide +kernel
theorem dX10_readsCommand_49 : decode cX10_readsCommand 49 = .ok (.if_icmp .ne 13, 3) := by decide +kernel
theorem dX10_readsCommand_52 : decode cX10_readsCommand 52 = .ok (.aload_n 0, 1) := by decide +kernel
theorem dX10_readsCommand_53 : decode cX10_readsCommand 53 = .ok (.invokevirtual 219, 3) := by decide +kernel
theorem dX10_readsCommand_56 : decode cX10_readsCommand 56 = .ok (.bipush 32, 2) := by decide +kernel
theorem dX10_readsCommand_58 : decode cX10_readsCommand 58 = .ok (.if_icmp .eq 4, 3) := by decide +kernel
theorem dX10_readsCommand_61 : decode cX10_readsCommand 61 = .ok (.return_, 1) := by decide +kernel
theorem dX10_readsCommand_62 : decode cX10_readsCommand 62 = .ok (.iload_n 2, 1) := by decide +kernel
theorem dX10_readsCommand_63 : decode cX10_readsCommand 63 = .ok (.iconst 4, 1) := by decide +kernel
theorem dX10_readsCommand_64 : decode cX10_readsCommand 64 = .ok (.if_icmp .ne 9, 3) := by decide +kernel
theorem dX10_readsCommand_67 : decode cX10_readsCommand 67 = .ok (.aload_n 0, 1) := by decide +kernel
theorem dX10_readsCommand_68 : decode cX10_readsCommand 68 = .ok (.iload_n 1, 1) := by decide +kernel
theorem dX10_readsCommand_69 : decode cX10_readsCommand 69 = .ok (.invokevirtual 251, 3) := by decide +kernel
theorem dX10_readsCommand_72 : decode cX10_readsCommand 72 = .ok (.return_, 1) := by decide +kernel
theorem dX10_readsCommand_73 : decode cX10_readsCommand 73 = .ok (.iload_n 2, 1) := by decide +kernel
theorem dX10_readsCommand_74 : decode cX10_readsCommand 74 = .ok (.bipush 11, 2) := by decide +kernel
theorem dX10_readsCommand_76 : decode cX10_readsCommand 76 = .ok (.if_icmp .ne 9, 3) := by decide +kernel
theorem dX10_readsCommand_79 : decode cX10_readsCommand 79 = .ok (.aload_n 0, 1) := by decide +kernel
theorem dX10_readsCommand_80 : decode cX10_readsCommand 80 = .ok (.bipush 32, 2) := by decide +kernel
theorem dX10_readsCommand_82 : decode cX10_readsCommand 82 = .ok (.invokevirtual 239, 3) := by decide +kernel
theorem dX10_readsCommand_85 : decode cX10_readsCommand 85 = .ok (.iload_n 2, 1) := by decide +kernel
theorem dX10_readsCommand_86 : decode cX10_readsCommand 86 = .ok (.iconst 1, 1) := by decide +kernel
theorem dX10_readsCommand_87 : decode cX10_readsCommand 87 = .ok (.if_icmp .eq 14, 3) := by decide +kernel
theorem dX10_readsCommand_90 : decode cX10_readsCommand 90 = .ok (.iload_n 2, 1) := by decide +kernel
theorem dX10_readsCommand_91 : decode cX10_readsCommand 91 = .ok (.iconst 5, 1) := by decide +kernel
theorem dX10_readsCommand_92 : decode cX10_readsCommand 92 = .ok (.if_icmp .eq 9, 3) := by decide +kernel
theorem dX10_readsCommand_95 : decode cX10_readsCommand 95 = .ok (.iload_n 2, 1) := by decide +kernel
theorem dX10_readsCommand_96 : decode cX10_readsCommand 96 = .ok (.bipush 8, 2) := by decide +kernel
theorem dX10_readsCommand_98 : decode cX10_readsCommand 98 = .ok (.if_icmp .le 7, 3) := by decide +kernel
theorem dX10_readsCommand_101 : decode cX10_readsCommand 101 = .ok (.iconst 1, 1) := by decide +kernel
theorem dX10_readsCommand_102 : decode cX10_readsCommand 102 = .ok (.goto 4, 3) := by decide +kernel
theorem dX10_readsCommand_105 : decode cX10_readsCommand 105 = .ok (.iconst 0, 1) := by decide +kernel
theorem dX10_readsCommand_106 : decode cX10_readsCommand 106 = .ok (.istore_n 3, 1) := by decide +kernel
theorem dX10_readsCommand_107 : decode cX10_readsCommand 107 = .ok (.aload_n 0, 1) := by decide +kernel
theorem dX10_readsCommand_108 : decode cX10_readsCommand 108 = .ok (.getfield 41, 3) := by decide +kernel
theorem dX10_readsCommand_111 : decode cX10_readsCommand 111 = .ok (.iload_n 1, 1) := by decide +kernel
theorem dX10_readsCommand_112 : decode cX10_readsCommand 112 = .ok (.iconst 1, 1) := by decide +kernel
theorem dX10_readsCommand_113 : decode cX10_readsCommand 113 = .ok (.iadd, 1) := by decide +kernel
theorem dX10_readsCommand_114 : decode cX10_readsCommand 114 = .ok (.iload_n 3, 1) := by decide +kernel
theorem dX10_readsCommand_115 : decode cX10_readsCommand 115 = .ok (.ifCond .eq 10, 3) := by decide +kernel
theorem dX10_readsCommand_118 : decode cX10_readsCommand 118 = .ok (.aload_n 0, 1) := by decide +kernel
theorem dX10_readsCommand_119 : decode cX10_readsCommand 119 = .ok (.invokevirtual 242, 3) := by decide +kernel
theorem dX10_readsCommand_122 : decode cX10_readsCommand 122 = .ok (.goto 7, 3) := by decide +kernel
theorem dX10_readsCommand_125 : decode cX10_readsCommand 125 = .ok (.aload_n 0, 1) := by decide +kernel
theorem dX10_readsCommand_126 : decode cX10_readsCommand 126 = .ok (.invokevirtual 225, 3) := by decide +kernel
theorem dX10_readsCommand_129 : decode cX10_readsCommand 129 = .ok (.iastore, 1) := by decide +kernel
theorem dX10_readsCommand_130 : decode cX10_readsCommand 130 = .ok (.iload_n 2, 1) := by decide +kernel
theorem dX10_readsCommand_131 : decode cX10_readsCommand 131 = .ok (.bipush 8, 2) := by decide +kernel
theorem dX10_readsCommand_133 : decode cX10_readsCommand 133 = .ok (.if_icmp .ne 21, 3) := by decide +kernel
theorem dX10_readsCommand_136 : decode cX10_readsCommand 136 = .ok (.aload_n 0, 1) := by decide +kernel
theorem dX10_readsCommand_137 : decode cX10_readsCommand 137 = .ok (.bipush 32, 2) := by decide +kernel
theorem dX10_readsCommand_139 : decode cX10_readsCommand 139 = .ok (.invokevirtual 239, 3) := by decide +kernel
theorem dX10_readsCommand_142 : decode cX10_readsCommand 142 = .ok (.aload_n 0, 1) := by decide +kernel
theorem dX10_readsCommand_143 : decode cX10_readsCommand 143 = .ok (.getfield 41, 3) := by decide +kernel
theorem dX10_readsCommand_146 : decode cX10_readsCommand 146 = .ok (.iload_n 1, 1) := by decide +kernel
theorem dX10_readsCommand_147 : decode cX10_readsCommand 147 = .ok (.iconst 2, 1) := by decide +kernel
theorem dX10_readsCommand_148 : decode cX10_readsCommand 148 = .ok (.iadd, 1) := by decide +kernel
theorem dX10_readsCommand_149 : decode cX10_readsCommand 149 = .ok (.aload_n 0, 1) := by decide +kernel
theorem dX10_readsCommand_150 : decode cX10_readsCommand 150 = .ok (.invokevirtual 242, 3) := by decide +kernel
theorem dX10_readsCommand_153 : decode cX10_readsCommand 153 = .ok (.iastore, 1) := by decide +kernel
theorem dX10_readsCommand_154 : decode cX10_readsCommand 154 = .ok (.return_, 1) := by decide +kernel
theorem dX10_readsAll_0 : decode cX10_readsAll 0 = .ok (.aload_n 0, 1) := by decide +kernel
theorem dX10_readsAll_1 : decode cX10_readsAll 1 = .ok (.aload_n 0, 1) := by decide +kernel
theorem dX10_readsAll_2 : decode cX10_readsAll 2 = .ok (.getfield 207, 3) := by decide +kernel
theorem dX10_readsAll_5 : decode cX10_readsAll 5 = .ok (.putfield 213, 3) := by decide +kernel
theorem dX10_readsAll_8 : decode cX10_readsAll 8 = .ok (.aload_n 0, 1) := by decide +kernel
theorem dX10_readsAll_9 : decode cX10_readsAll 9 = .ok (.iconst 0, 1) := by decide +kernel
theorem dX10_readsAll_10 : decode cX10_readsAll 10 = .ok (.putfield 207, 3) := by decide +kernel
theorem dX10_readsAll_13 : decode cX10_readsAll 13 = .ok (.aload_n 0, 1) := by decide +kernel
theorem dX10_readsAll_14 : decode cX10_readsAll 14 = .ok (.iconst 0, 1) := by decide +kernel
theorem dX10_readsAll_15 : decode cX10_readsAll 15 = .ok (.putfield 210, 3) := by decide +kernel
theorem dX10_readsAll_18 : decode cX10_readsAll 18 = .ok (.aload_n 0, 1) := by decide +kernel
theorem dX10_readsAll_19 : decode cX10_readsAll 19 = .ok (.iconst (-1), 1) := by decide +kernel
theorem dX10_readsAll_20 : decode cX10_readsAll 20 = .ok (.putfield 216, 3) := by decide +kernel
theorem dX10_readsAll_23 : decode cX10_readsAll 23 = .ok (.aload_n 0, 1) := by decide +kernel
theorem dX10_readsAll_24 : decode cX10_readsAll 24 = .ok (.iconst 0, 1) := by decide +kernel
theorem dX10_readsAll_25 : decode cX10_readsAll 25 = .ok (.putfield 245, 3) := by decide +kernel
theorem dX10_readsAll_28 : decode cX10_readsAll 28 = .ok (.aload_n 0, 1) := by decide +kernel
theorem dX10_readsAll_29 : decode cX10_readsAll 29 = .ok (.invokevirtual 254, 3) := by decide +kernel
theorem dX10_readsAll_32 : decode cX10_readsAll 32 = .ok (.aload_n 0, 1) := by decide +kernel
theorem dX10_readsAll_33 : decode cX10_readsAll 33 = .ok (.getfield 216, 3) := by decide +kernel
theorem dX10_readsAll_36 : decode cX10_readsAll 36 = .ok (.iconst (-1), 1) := by decide +kernel
theorem dX10_readsAll_37 : decode cX10_readsAll 37 = .ok (.if_icmp .ne 35, 3) := by decide +kernel
theorem dX10_readsAll_40 : decode cX10_readsAll 40 = .ok (.aload_n 0, 1) := by decide +kernel
theorem dX10_readsAll_41 : decode cX10_readsAll 41 = .ok (.getfield 210, 3) := by decide +kernel
theorem dX10_readsAll_44 : decode cX10_readsAll 44 = .ok (.aload_n 0, 1) := by decide +kernel
theorem dX10_readsAll_45 : decode cX10_readsAll 45 = .ok (.getfield 213, 3) := by decide +kernel
theorem dX10_readsAll_48 : decode cX10_readsAll 48 = .ok (.if_icmp .ge 24, 3) := by decide +kernel
theorem dX10_readsAll_51 : decode cX10_readsAll 51 = .ok (.aload_n 0, 1) := by decide +kernel
theorem dX10_readsAll_52 : decode cX10_readsAll 52 = .ok (.bipush 59, 2) := by decide +kernel
theorem dX10_readsAll_54 : decode cX10_readsAll 54 = .ok (.invokevirtual 239, 3) := by decide +kernel
theorem dX10_readsAll_57 : decode cX10_readsAll 57 = .ok (.aload_n 0, 1) := by decide +kernel
theorem dX10_readsAll_58 : decode cX10_readsAll 58 = .ok (.getfield 216, 3) := by decide +kernel
theorem dX10_readsAll_61 : decode cX10_readsAll 61 = .ok (.iconst (-1), 1) := by decide +kernel
theorem dX10_readsAll_62 : decode cX10_readsAll 62 = .ok (.if_icmp .ne (-30), 3) := by decide +kernel
theorem dX10_readsAll_65 : decode cX10_readsAll 65 = .ok (.aload_n 0, 1) := by decide +kernel
theorem dX10_readsAll_66 : decode cX10_readsAll 66 = .ok (.invokevirtual 254, 3) := by decide +kernel
theorem dX10_readsAll_69 : decode cX10_readsAll 69 = .ok (.goto (-37), 3) := by decide +kernel
theorem dX10_readsAll_72 : decode cX10_readsAll 72 = .ok (.return_, 1) := by decide +kernel
theorem dX10_does_0 : decode cX10_does 0 = .ok (.aload_n 0, 1) := by decide +kernel
theorem dX10_does_1 : decode cX10_does 1 = .ok (.getfield 41, 3) := by decide +kernel
theorem dX10_does_4 : decode cX10_does 4 = .ok (.iload_n 1, 1) := by decide +kernel
theorem dX10_does_5 : decode cX10_does 5 = .ok (.iconst 1, 1) := by decide +kernel
theorem dX10_does_6 : decode cX10_does 6 = .ok (.iadd, 1) := by decide +kernel
theorem dX10_does_7 : decode cX10_does 7 = .ok (.iaload, 1) := by decide +kernel
theorem dX10_does_8 : decode cX10_does 8 = .ok (.istore_n 2, 1) := by decide +kernel
theorem dX10_does_9 : decode cX10_does 9 = .ok (.aload_n 0, 1) := by decide +kernel
theorem dX10_does_10 : decode cX10_does 10 = .ok (.getfield 41, 3) := by decide +kernel
theorem dX10_does_13 : decode cX10_does 13 = .ok (.iload_n 1, 1) := by decide +kernel
theorem dX10_does_14 : decode cX10_does 14 = .ok (.iaload, 1) := by decide +kernel
theorem dX10_does_15 : decode cX10_does 15 = .ok (.tableswitch 160 0 10 #[57, 63, 69, 69, 83, 113, 119, 119, 134, 148, 154], 57) := by decide +kernel
theorem dX10_does_72 : decode cX10_does 72 = .ok (.aload_n 0, 1) := by decide +kernel
theorem dX10_does_73 : decode cX10_does 73 = .ok (.iload_n 2, 1) := by decide +kernel
theorem dX10_does_74 : decode cX10_does 74 = .ok (.invokevirtual 105, 3) := by decide +kernel
theorem dX10_does_77 : decode cX10_does 77 = .ok (.ireturn, 1) := by decide +kernel
theorem dX10_does_78 : decode cX10_does 78 = .ok (.aload_n 0, 1) := by decide +kernel
theorem dX10_does_79 : decode cX10_does 79 = .ok (.iload_n 2, 1) := by decide +kernel
theorem dX10_does_80 : decode cX10_does 80 = .ok (.invokevirtual 112, 3) := by decide +kernel
theorem dX10_does_83 : decode cX10_does 83 = .ok (.ireturn, 1) := by decide +kernel
theorem dX10_does_84 : decode cX10_does 84 = .ok (.aload_n 0, 1) := by decide +kernel
theorem dX10_does_85 : decode cX10_does 85 = .ok (.iload_n 2, 1) := by decide +kernel
theorem dX10_does_86 : decode cX10_does 86 = .ok (.iconst 3, 1) := by decide +kernel
theorem dX10_does_87 : decode cX10_does 87 = .ok (.aload_n 0, 1) := by decide +kernel
theorem dX10_does_88 : decode cX10_does 88 = .ok (.getfield 41, 3) := by decide +kernel
theorem dX10_does_91 : decode cX10_does 91 = .ok (.iload_n 1, 1) := by decide +kernel
theorem dX10_does_92 : decode cX10_does 92 = .ok (.iaload, 1) := by decide +kernel
theorem dX10_does_93 : decode cX10_does 93 = .ok (.isub, 1) := by decide +kernel
theorem dX10_does_94 : decode cX10_does 94 = .ok (.invokevirtual 115, 3) := by decide +kernel
theorem dX10_does_97 : decode cX10_does 97 = .ok (.ireturn, 1) := by decide +kernel
theorem dX10_does_98 : decode cX10_does 98 = .ok (.aload_n 0, 1) := by decide +kernel
theorem dX10_does_99 : decode cX10_does 99 = .ok (.iload_n 2, 1) := by decide +kernel
theorem dX10_does_100 : decode cX10_does 100 = .ok (.aload_n 0, 1) := by decide +kernel
theorem dX10_does_101 : decode cX10_does 101 = .ok (.getfield 41, 3) := by decide +kernel
theorem dX10_does_104 : decode cX10_does 104 = .ok (.iload_n 1, 1) := by decide +kernel
theorem dX10_does_105 : decode cX10_does 105 = .ok (.iconst 2, 1) := by decide +kernel
theorem dX10_does_106 : decode cX10_does 106 = .ok (.iadd, 1) := by decide +kernel
theorem dX10_does_107 : decode cX10_does 107 = .ok (.iaload, 1) := by decide +kernel
theorem dX10_does_108 : decode cX10_does 108 = .ok (.aload_n 0, 1) := by decide +kernel
theorem dX10_does_109 : decode cX10_does 109 = .ok (.getfield 41, 3) := by decide +kernel
theorem dX10_does_112 : decode cX10_does 112 = .ok (.iload_n 1, 1) := by decide +kernel
theorem dX10_does_113 : decode cX10_does 113 = .ok (.iconst 3, 1) := by decide +kernel
theorem dX10_does_114 : decode cX10_does 114 = .ok (.iadd, 1) := by decide +kernel
theorem dX10_does_115 : decode cX10_does 115 = .ok (.iaload, 1) := by decide +kernel
theorem dX10_does_116 : decode cX10_does 116 = .ok (.aload_n 0, 1) := by decide +kernel
theorem dX10_does_117 : decode cX10_does 117 = .ok (.getfield 41, 3) := by decide +kernel
theorem dX10_does_120 : decode cX10_does 120 = .ok (.iload_n 1, 1) := by decide +kernel
theorem dX10_does_121 : decode cX10_does 121 = .ok (.iconst 4, 1) := by decide +kernel
theorem dX10_does_122 : decode cX10_does 122 = .ok (.iadd, 1) := by decide +kernel
theorem dX10_does_123 : decode cX10_does 123 = .ok (.iaload, 1) := by decide +kernel
theorem dX10_does_124 : decode cX10_does 124 = .ok (.invokevirtual 128, 3) := by decide +kernel
theorem dX10_does_127 : decode cX10_does 127 = .ok (.ireturn, 1) := by decide +kernel
theorem dX10_does_128 : decode cX10_does 128 = .ok (.aload_n 0, 1) := by decide +kernel
theorem dX10_does_129 : decode cX10_does 129 = .ok (.iload_n 2, 1) := by decide +kernel
theorem dX10_does_130 : decode cX10_does 130 = .ok (.invokevirtual 142, 3) := by decide +kernel
theorem dX10_does_133 : decode cX10_does 133 = .ok (.ireturn, 1) := by decide +kernel
theorem dX10_does_134 : decode cX10_does 134 = .ok (.aload_n 0, 1) := by decide +kernel
theorem dX10_does_135 : decode cX10_does 135 = .ok (.iload_n 2, 1) := by decide +kernel
theorem dX10_does_136 : decode cX10_does 136 = .ok (.bipush 7, 2) := by decide +kernel
theorem dX10_does_138 : decode cX10_does 138 = .ok (.aload_n 0, 1) := by decide +kernel
theorem dX10_does_139 : decode cX10_does 139 = .ok (.getfield 41, 3) := by decide +kernel
theorem dX10_does_142 : decode cX10_does 142 = .ok (.iload_n 1, 1) := by decide +kernel
theorem dX10_does_143 : decode cX10_does 143 = .ok (.iaload, 1) := by decide +kernel
theorem dX10_does_144 : decode cX10_does 144 = .ok (.isub, 1) := by decide +kernel
theorem dX10_does_145 : decode cX10_does 145 = .ok (.invokevirtual 118, 3) := by decide +kernel
theorem dX10_does_148 : decode cX10_does 148 = .ok (.ireturn, 1) := by decide +kernel
theorem dX10_does_149 : decode cX10_does 149 = .ok (.aload_n 0, 1) := by decide +kernel
theorem dX10_does_150 : decode cX10_does 150 = .ok (.iload_n 2, 1) := by decide +kernel
theorem dX10_does_151 : decode cX10_does 151 = .ok (.aload_n 0, 1) := by decide +kernel
theorem dX10_does_152 : decode cX10_does 152 = .ok (.getfield 41, 3) := by decide +kernel
theorem dX10_does_155 : decode cX10_does 155 = .ok (.iload_n 1, 1) := by decide +kernel
theorem dX10_does_156 : decode cX10_does 156 = .ok (.iconst 2, 1) := by decide +kernel
theorem dX10_does_157 : decode cX10_does 157 = .ok (.iadd, 1) := by decide +kernel
theorem dX10_does_158 : decode cX10_does 158 = .ok (.iaload, 1) := by decide +kernel
theorem dX10_does_159 : decode cX10_does 159 = .ok (.invokevirtual 145, 3) := by decide +kernel
theorem dX10_does_162 : decode cX10_does 162 = .ok (.ireturn, 1) := by decide +kernel
theorem dX10_does_163 : decode cX10_does 163 = .ok (.aload_n 0, 1) := by decide +kernel
theorem dX10_does_164 : decode cX10_does 164 = .ok (.iload_n 2, 1) := by decide +kernel
theorem dX10_does_165 : decode cX10_does 165 = .ok (.invokevirtual 148, 3) := by decide +kernel
theorem dX10_does_168 : decode cX10_does 168 = .ok (.ireturn, 1) := by decide +kernel
theorem dX10_does_169 : decode cX10_does 169 = .ok (.aload_n 0, 1) := by decide +kernel
theorem dX10_does_170 : decode cX10_does 170 = .ok (.iload_n 2, 1) := by decide +kernel
theorem dX10_does_171 : decode cX10_does 171 = .ok (.invokevirtual 151, 3) := by decide +kernel
theorem dX10_does_174 : decode cX10_does 174 = .ok (.ireturn, 1) := by decide +kernel
theorem dX10_does_175 : decode cX10_does 175 = .ok (.aload_n 0, 1) := by decide +kernel
theorem dX10_does_176 : decode cX10_does 176 = .ok (.iload_n 2, 1) := by decide +kernel
theorem dX10_does_177 : decode cX10_does 177 = .ok (.invokevirtual 172, 3) := by decide +kernel
theorem dX10_does_180 : decode cX10_does 180 = .ok (.ireturn, 1) := by decide +kernel
theorem dX10_runScript_0 : decode cX10_runScript 0 = .ok (.aload_n 0, 1) := by decide +kernel
theorem dX10_runScript_1 : decode cX10_runScript 1 = .ok (.invokevirtual 257, 3) := by decide +kernel
theorem dX10_runScript_4 : decode cX10_runScript 4 = .ok (.aload_n 0, 1) := by decide +kernel
theorem dX10_runScript_5 : decode cX10_runScript 5 = .ok (.getfield 216, 3) := by decide +kernel
theorem dX10_runScript_8 : decode cX10_runScript 8 = .ok (.iconst (-1), 1) := by decide +kernel
theorem dX10_runScript_9 : decode cX10_runScript 9 = .ok (.if_icmp .eq 18, 3) := by decide +kernel
theorem dX10_runScript_12 : decode cX10_runScript 12 = .ok (.aload_n 0, 1) := by decide +kernel
theorem dX10_runScript_13 : decode cX10_runScript 13 = .ok (.aload_n 0, 1) := by decide +kernel
theorem dX10_runScript_14 : decode cX10_runScript 14 = .ok (.getfield 216, 3) := by decide +kernel
theorem dX10_runScript_17 : decode cX10_runScript 17 = .ok (.putfield 25, 3) := by decide +kernel
theorem dX10_runScript_20 : decode cX10_runScript 20 = .ok (.aload_n 0, 1) := by decide +kernel
theorem dX10_runScript_21 : decode cX10_runScript 21 = .ok (.iconst 1, 1) := by decide +kernel
theorem dX10_runScript_22 : decode cX10_runScript 22 = .ok (.putfield 44, 3) := by decide +kernel
theorem dX10_runScript_25 : decode cX10_runScript 25 = .ok (.iconst 0, 1) := by decide +kernel
theorem dX10_runScript_26 : decode cX10_runScript 26 = .ok (.ireturn, 1) := by decide +kernel
theorem dX10_runScript_27 : decode cX10_runScript 27 = .ok (.aload_n 0, 1) := by decide +kernel
theorem dX10_runScript_28 : decode cX10_runScript 28 = .ok (.invokevirtual 102, 3) := by decide +kernel
theorem dX10_runScript_31 : decode cX10_runScript 31 = .ok (.aload_n 0, 1) := by decide +kernel
theorem dX10_runScript_32 : decode cX10_runScript 32 = .ok (.iconst 0, 1) := by decide +kernel
theorem dX10_runScript_33 : decode cX10_runScript 33 = .ok (.putfield 44, 3) := by decide +kernel
theorem dX10_runScript_36 : decode cX10_runScript 36 = .ok (.iconst 0, 1) := by decide +kernel
theorem dX10_runScript_37 : decode cX10_runScript 37 = .ok (.istore_n 1, 1) := by decide +kernel
theorem dX10_runScript_38 : decode cX10_runScript 38 = .ok (.iload_n 1, 1) := by decide +kernel
theorem dX10_runScript_39 : decode cX10_runScript 39 = .ok (.aload_n 0, 1) := by decide +kernel
theorem dX10_runScript_40 : decode cX10_runScript 40 = .ok (.getfield 245, 3) := by decide +kernel
theorem dX10_runScript_43 : decode cX10_runScript 43 = .ok (.if_icmp .ge 49, 3) := by decide +kernel
theorem dX10_runScript_46 : decode cX10_runScript 46 = .ok (.aload_n 0, 1) := by decide +kernel
theorem dX10_runScript_47 : decode cX10_runScript 47 = .ok (.iconst 5, 1) := by decide +kernel
theorem dX10_runScript_48 : decode cX10_runScript 48 = .ok (.iload_n 1, 1) := by decide +kernel
theorem dX10_runScript_49 : decode cX10_runScript 49 = .ok (.imul, 1) := by decide +kernel
theorem dX10_runScript_50 : decode cX10_runScript 50 = .ok (.invokevirtual 260, 3) := by decide +kernel
theorem dX10_runScript_53 : decode cX10_runScript 53 = .ok (.istore_n 2, 1) := by decide +kernel
theorem dX10_runScript_54 : decode cX10_runScript 54 = .ok (.aload_n 0, 1) := by decide +kernel
theorem dX10_runScript_55 : decode cX10_runScript 55 = .ok (.getfield 44, 3) := by decide +kernel
theorem dX10_runScript_58 : decode cX10_runScript 58 = .ok (.ifCond .eq 28, 3) := by decide +kernel
theorem dX10_runScript_61 : decode cX10_runScript 61 = .ok (.aload_n 0, 1) := by decide +kernel
theorem dX10_runScript_62 : decode cX10_runScript 62 = .ok (.iload_n 1, 1) := by decide +kernel
theorem dX10_runScript_63 : decode cX10_runScript 63 = .ok (.putfield 29, 3) := by decide +kernel
theorem dX10_runScript_66 : decode cX10_runScript 66 = .ok (.aload_n 0, 1) := by decide +kernel
theorem dX10_runScript_67 : decode cX10_runScript 67 = .ok (.iconst 2, 1) := by decide +kernel
theorem dX10_runScript_68 : decode cX10_runScript 68 = .ok (.putfield 44, 3) := by decide +kernel
theorem dX10_runScript_71 : decode cX10_runScript 71 = .ok (.aload_n 0, 1) := by decide +kernel
theorem dX10_runScript_72 : decode cX10_runScript 72 = .ok (.getfield 13, 3) := by decide +kernel
theorem dX10_runScript_75 : decode cX10_runScript 75 = .ok (.iconst 0, 1) := by decide +kernel
theorem dX10_runScript_76 : decode cX10_runScript 76 = .ok (.aload_n 0, 1) := by decide +kernel
theorem dX10_runScript_77 : decode cX10_runScript 77 = .ok (.getfield 9, 3) := by decide +kernel
theorem dX10_runScript_80 : decode cX10_runScript 80 = .ok (.iconst 0, 1) := by decide +kernel
theorem dX10_runScript_81 : decode cX10_runScript 81 = .ok (.invokestatic 51, 3) := by decide +kernel
theorem dX10_runScript_84 : decode cX10_runScript 84 = .ok (.iconst 0, 1) := by decide +kernel
theorem dX10_runScript_85 : decode cX10_runScript 85 = .ok (.ireturn, 1) := by decide +kernel
theorem dX10_runScript_86 : decode cX10_runScript 86 = .ok (.iinc 1 1, 3) := by decide +kernel
theorem dX10_runScript_89 : decode cX10_runScript 89 = .ok (.goto (-51), 3) := by decide +kernel
theorem dX10_runScript_92 : decode cX10_runScript 92 = .ok (.aload_n 0, 1) := by decide +kernel
theorem dX10_runScript_93 : decode cX10_runScript 93 = .ok (.aload_n 0, 1) := by decide +kernel
theorem dX10_runScript_94 : decode cX10_runScript 94 = .ok (.getfield 245, 3) := by decide +kernel
theorem dX10_runScript_97 : decode cX10_runScript 97 = .ok (.invokevirtual 109, 3) := by decide +kernel
theorem dX10_runScript_100 : decode cX10_runScript 100 = .ok (.ireturn, 1) := by decide +kernel
theorem dX10_errorPosition_0 : decode cX10_errorPosition 0 = .ok (.aload_n 0, 1) := by decide +kernel
theorem dX10_errorPosition_1 : decode cX10_errorPosition 1 = .ok (.aload_n 0, 1) := by decide +kernel
theorem dX10_errorPosition_2 : decode cX10_errorPosition 2 = .ok (.getfield 25, 3) := by decide +kernel
theorem dX10_errorPosition_5 : decode cX10_errorPosition 5 = .ok (.iconst (-1), 1) := by decide +kernel
theorem dX10_errorPosition_6 : decode cX10_errorPosition 6 = .ok (.if_icmp .eq 7, 3) := by decide +kernel
theorem dX10_errorPosition_9 : decode cX10_errorPosition 9 = .ok (.iconst 1, 1) := by decide +kernel
theorem dX10_errorPosition_10 : decode cX10_errorPosition 10 = .ok (.goto 4, 3) := by decide +kernel
theorem dX10_errorPosition_13 : decode cX10_errorPosition 13 = .ok (.iconst 0, 1) := by decide +kernel
theorem dX10_errorPosition_14 : decode cX10_errorPosition 14 = .ok (.invokevirtual 61, 3) := by decide +kernel
theorem dX10_errorPosition_17 : decode cX10_errorPosition 17 = .ok (.ifCond .eq 10, 3) := by decide +kernel
theorem dX10_errorPosition_20 : decode cX10_errorPosition 20 = .ok (.aload_n 0, 1) := by decide +kernel
theorem dX10_errorPosition_21 : decode cX10_errorPosition 21 = .ok (.getfield 25, 3) := by decide +kernel
theorem dX10_errorPosition_24 : decode cX10_errorPosition 24 = .ok (.goto 4, 3) := by decide +kernel
theorem dX10_errorPosition_27 : decode cX10_errorPosition 27 = .ok (.iconst 0, 1) := by decide +kernel
theorem dX10_errorPosition_28 : decode cX10_errorPosition 28 = .ok (.ireturn, 1) := by decide +kernel
theorem dX10_failedCommand_0 : decode cX10_failedCommand 0 = .ok (.aload_n 0, 1) := by decide +kernel
theorem dX10_failedCommand_1 : decode cX10_failedCommand 1 = .ok (.aload_n 0, 1) := by decide +kernel
theorem dX10_failedCommand_2 : decode cX10_failedCommand 2 = .ok (.getfield 29, 3) := by decide +kernel
theorem dX10_failedCommand_5 : decode cX10_failedCommand 5 = .ok (.iconst (-1), 1) := by decide +kernel
theorem dX10_failedCommand_6 : decode cX10_failedCommand 6 = .ok (.if_icmp .eq 7, 3) := by decide +kernel
theorem dX10_failedCommand_9 : decode cX10_failedCommand 9 = .ok (.iconst 1, 1) := by decide +kernel
theorem dX10_failedCommand_10 : decode cX10_failedCommand 10 = .ok (.goto 4, 3) := by decide +kernel
theorem dX10_failedCommand_13 : decode cX10_failedCommand 13 = .ok (.iconst 0, 1) := by decide +kernel
theorem dX10_failedCommand_14 : decode cX10_failedCommand 14 = .ok (.invokevirtual 61, 3) := by decide +kernel
theorem dX10_failedCommand_17 : decode cX10_failedCommand 17 = .ok (.ifCond .eq 10, 3) := by decide +kernel
theorem dX10_failedCommand_20 : decode cX10_failedCommand 20 = .ok (.aload_n 0, 1) := by decide +kernel
theorem dX10_failedCommand_21 : decode cX10_failedCommand 21 = .ok (.getfield 29, 3) := by decide +kernel
theorem dX10_failedCommand_24 : decode cX10_failedCommand 24 = .ok (.goto 4, 3) := by decide +kernel
theorem dX10_failedCommand_27 : decode cX10_failedCommand 27 = .ok (.iconst 0, 1) := by decide +kernel
theorem dX10_failedCommand_28 : decode cX10_failedCommand 28 = .ok (.ireturn, 1) := by decide +kernel
