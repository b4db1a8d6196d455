theorem dL_cell_0 : decode cL_cell 0 = .ok (.ldc 7, 2) := by decide +kernel
theorem dL_cell_2 : decode cL_cell 2 = .ok (.iload_n 1, 1) := by decide +kernel
theorem dL_cell_3 : decode cL_cell 3 = .ok (.aload_n 0, 1) := by decide +kernel
theorem dL_cell_4 : decode cL_cell 4 = .ok (.arraylength, 1) := by decide +kernel
theorem dL_cell_5 : decode cL_cell 5 = .ok (.if_icmp .ge 9, 3) := by decide +kernel
theorem dL_cell_8 : decode cL_cell 8 = .ok (.aload_n 0, 1) := by decide +kernel
theorem dL_cell_9 : decode cL_cell 9 = .ok (.iload_n 1, 1) := by decide +kernel
theorem dL_cell_10 : decode cL_cell 10 = .ok (.iaload, 1) := by decide +kernel
theorem dL_cell_11 : decode cL_cell 11 = .ok (.goto 4, 3) := by decide +kernel
theorem dL_cell_14 : decode cL_cell 14 = .ok (.iconst 0, 1) := by decide +kernel
theorem dL_cell_15 : decode cL_cell 15 = .ok (.sipush 1009, 3) := by decide +kernel
theorem dL_cell_18 : decode cL_cell 18 = .ok (.iload_n 1, 1) := by decide +kernel
theorem dL_cell_19 : decode cL_cell 19 = .ok (.imul, 1) := by decide +kernel
theorem dL_cell_20 : decode cL_cell 20 = .ok (.iadd, 1) := by decide +kernel
theorem dL_cell_21 : decode cL_cell 21 = .ok (.imul, 1) := by decide +kernel
theorem dL_cell_22 : decode cL_cell 22 = .ok (.sipush 12345, 3) := by decide +kernel
theorem dL_cell_25 : decode cL_cell 25 = .ok (.iadd, 1) := by decide +kernel
theorem dL_cell_26 : decode cL_cell 26 = .ok (.istore_n 2, 1) := by decide +kernel
theorem dL_cell_27 : decode cL_cell 27 = .ok (.iload_n 2, 1) := by decide +kernel
theorem dL_cell_28 : decode cL_cell 28 = .ok (.iload_n 2, 1) := by decide +kernel
theorem dL_cell_29 : decode cL_cell 29 = .ok (.bipush 13, 2) := by decide +kernel
theorem dL_cell_31 : decode cL_cell 31 = .ok (.iushr, 1) := by decide +kernel
theorem dL_cell_32 : decode cL_cell 32 = .ok (.ixor, 1) := by decide +kernel
theorem dL_cell_33 : decode cL_cell 33 = .ok (.ldc 8, 2) := by decide +kernel
theorem dL_cell_35 : decode cL_cell 35 = .ok (.imul, 1) := by decide +kernel
theorem dL_cell_36 : decode cL_cell 36 = .ok (.istore_n 2, 1) := by decide +kernel
theorem dL_cell_37 : decode cL_cell 37 = .ok (.iload_n 2, 1) := by decide +kernel
theorem dL_cell_38 : decode cL_cell 38 = .ok (.iload_n 2, 1) := by decide +kernel
theorem dL_cell_39 : decode cL_cell 39 = .ok (.bipush 16, 2) := by decide +kernel
theorem dL_cell_41 : decode cL_cell 41 = .ok (.iushr, 1) := by decide +kernel
theorem dL_cell_42 : decode cL_cell 42 = .ok (.ixor, 1) := by decide +kernel
theorem dL_cell_43 : decode cL_cell 43 = .ok (.ireturn, 1) := by decide +kernel
theorem dL_pick_0 : decode cL_pick 0 = .ok (.aload_n 0, 1) := by decide +kernel
theorem dL_pick_1 : decode cL_pick 1 = .ok (.iload_n 1, 1) := by decide +kernel
theorem dL_pick_2 : decode cL_pick 2 = .ok (.invokestatic 9, 3) := by decide +kernel
theorem dL_pick_5 : decode cL_pick 5 = .ok (.bipush 8, 2) := by decide +kernel
theorem dL_pick_7 : decode cL_pick 7 = .ok (.iushr, 1) := by decide +kernel
theorem dL_pick_8 : decode cL_pick 8 = .ok (.iload_n 2, 1) := by decide +kernel
theorem dL_pick_9 : decode cL_pick 9 = .ok (.irem, 1) := by decide +kernel
theorem dL_pick_10 : decode cL_pick 10 = .ok (.ireturn, 1) := by decide +kernel
theorem dL_told_0 : decode cL_told 0 = .ok (.iload_n 0, 1) := by decide +kernel
theorem dL_told_1 : decode cL_told 1 = .ok (.ifCond .eq 7, 3) := by decide +kernel
theorem dL_told_4 : decode cL_told 4 = .ok (.iconst 1, 1) := by decide +kernel
theorem dL_told_5 : decode cL_told 5 = .ok (.goto 4, 3) := by decide +kernel
theorem dL_told_8 : decode cL_told 8 = .ok (.iconst 0, 1) := by decide +kernel
theorem dL_told_9 : decode cL_told 9 = .ok (.ireturn, 1) := by decide +kernel
theorem dL_plain_0 : decode cL_plain 0 = .ok (.iload_n 1, 1) := by decide +kernel
theorem dL_plain_1 : decode cL_plain 1 = .ok (.tableswitch 141 0 11 #[63, 69, 75, 81, 87, 98, 104, 110, 116, 123, 129, 135], 63) := by decide +kernel
theorem dL_plain_64 : decode cL_plain 64 = .ok (.aload_n 0, 1) := by decide +kernel
theorem dL_plain_65 : decode cL_plain 65 = .ok (.iload_n 2, 1) := by decide +kernel
theorem dL_plain_66 : decode cL_plain 66 = .ok (.invokevirtual 15, 3) := by decide +kernel
theorem dL_plain_69 : decode cL_plain 69 = .ok (.ireturn, 1) := by decide +kernel
theorem dL_plain_70 : decode cL_plain 70 = .ok (.aload_n 0, 1) := by decide +kernel
theorem dL_plain_71 : decode cL_plain 71 = .ok (.iload_n 2, 1) := by decide +kernel
theorem dL_plain_72 : decode cL_plain 72 = .ok (.invokevirtual 21, 3) := by decide +kernel
theorem dL_plain_75 : decode cL_plain 75 = .ok (.ireturn, 1) := by decide +kernel
theorem dL_plain_76 : decode cL_plain 76 = .ok (.aload_n 0, 1) := by decide +kernel
theorem dL_plain_77 : decode cL_plain 77 = .ok (.iload_n 2, 1) := by decide +kernel
theorem dL_plain_78 : decode cL_plain 78 = .ok (.invokevirtual 24, 3) := by decide +kernel
theorem dL_plain_81 : decode cL_plain 81 = .ok (.ireturn, 1) := by decide +kernel
theorem dL_plain_82 : decode cL_plain 82 = .ok (.aload_n 0, 1) := by decide +kernel
theorem dL_plain_83 : decode cL_plain 83 = .ok (.iload_n 2, 1) := by decide +kernel
theorem dL_plain_84 : decode cL_plain 84 = .ok (.invokevirtual 27, 3) := by decide +kernel
theorem dL_plain_87 : decode cL_plain 87 = .ok (.ireturn, 1) := by decide +kernel
theorem dL_plain_88 : decode cL_plain 88 = .ok (.aload_n 0, 1) := by decide +kernel
theorem dL_plain_89 : decode cL_plain 89 = .ok (.iload_n 2, 1) := by decide +kernel
theorem dL_plain_90 : decode cL_plain 90 = .ok (.iload_n 3, 1) := by decide +kernel
theorem dL_plain_91 : decode cL_plain 91 = .ok (.iload 4, 2) := by decide +kernel
theorem dL_plain_93 : decode cL_plain 93 = .ok (.iload 5, 2) := by decide +kernel
theorem dL_plain_95 : decode cL_plain 95 = .ok (.invokevirtual 30, 3) := by decide +kernel
theorem dL_plain_98 : decode cL_plain 98 = .ok (.ireturn, 1) := by decide +kernel
theorem dL_plain_99 : decode cL_plain 99 = .ok (.aload_n 0, 1) := by decide +kernel
theorem dL_plain_100 : decode cL_plain 100 = .ok (.iload_n 2, 1) := by decide +kernel
theorem dL_plain_101 : decode cL_plain 101 = .ok (.invokevirtual 34, 3) := by decide +kernel
theorem dL_plain_104 : decode cL_plain 104 = .ok (.ireturn, 1) := by decide +kernel
theorem dL_plain_105 : decode cL_plain 105 = .ok (.aload_n 0, 1) := by decide +kernel
theorem dL_plain_106 : decode cL_plain 106 = .ok (.iload_n 2, 1) := by decide +kernel
theorem dL_plain_107 : decode cL_plain 107 = .ok (.invokevirtual 37, 3) := by decide +kernel
theorem dL_plain_110 : decode cL_plain 110 = .ok (.ireturn, 1) := by decide +kernel
theorem dL_plain_111 : decode cL_plain 111 = .ok (.aload_n 0, 1) := by decide +kernel
theorem dL_plain_112 : decode cL_plain 112 = .ok (.iload_n 2, 1) := by decide +kernel
theorem dL_plain_113 : decode cL_plain 113 = .ok (.invokevirtual 40, 3) := by decide +kernel
theorem dL_plain_116 : decode cL_plain 116 = .ok (.ireturn, 1) := by decide +kernel
theorem dL_plain_117 : decode cL_plain 117 = .ok (.aload_n 0, 1) := by decide +kernel
theorem dL_plain_118 : decode cL_plain 118 = .ok (.iload_n 2, 1) := by decide +kernel
theorem dL_plain_119 : decode cL_plain 119 = .ok (.iload_n 3, 1) := by decide +kernel
theorem dL_plain_120 : decode cL_plain 120 = .ok (.invokevirtual 43, 3) := by decide +kernel
theorem dL_plain_123 : decode cL_plain 123 = .ok (.ireturn, 1) := by decide +kernel
theorem dL_plain_124 : decode cL_plain 124 = .ok (.aload_n 0, 1) := by decide +kernel
theorem dL_plain_125 : decode cL_plain 125 = .ok (.iload_n 2, 1) := by decide +kernel
theorem dL_plain_126 : decode cL_plain 126 = .ok (.invokevirtual 47, 3) := by decide +kernel
theorem dL_plain_129 : decode cL_plain 129 = .ok (.ireturn, 1) := by decide +kernel
theorem dL_plain_130 : decode cL_plain 130 = .ok (.aload_n 0, 1) := by decide +kernel
theorem dL_plain_131 : decode cL_plain 131 = .ok (.iload_n 2, 1) := by decide +kernel
theorem dL_plain_132 : decode cL_plain 132 = .ok (.invokevirtual 50, 3) := by decide +kernel
theorem dL_plain_135 : decode cL_plain 135 = .ok (.ireturn, 1) := by decide +kernel
theorem dL_plain_136 : decode cL_plain 136 = .ok (.aload_n 0, 1) := by decide +kernel
theorem dL_plain_137 : decode cL_plain 137 = .ok (.iload_n 2, 1) := by decide +kernel
theorem dL_plain_138 : decode cL_plain 138 = .ok (.invokevirtual 53, 3) := by decide +kernel
theorem dL_plain_141 : decode cL_plain 141 = .ok (.ireturn, 1) := by decide +kernel
theorem dL_plain_142 : decode cL_plain 142 = .ok (.aload_n 0, 1) := by decide +kernel
theorem dL_plain_143 : decode cL_plain 143 = .ok (.invokevirtual 56, 3) := by decide +kernel
theorem dL_plain_146 : decode cL_plain 146 = .ok (.ireturn, 1) := by decide +kernel
theorem dL_deed_0 : decode cL_deed 0 = .ok (.aload_n 0, 1) := by decide +kernel
theorem dL_deed_1 : decode cL_deed 1 = .ok (.iload_n 1, 1) := by decide +kernel
theorem dL_deed_2 : decode cL_deed 2 = .ok (.iload_n 2, 1) := by decide +kernel
theorem dL_deed_3 : decode cL_deed 3 = .ok (.iload_n 3, 1) := by decide +kernel
theorem dL_deed_4 : decode cL_deed 4 = .ok (.iload 4, 2) := by decide +kernel
theorem dL_deed_6 : decode cL_deed 6 = .ok (.iload 5, 2) := by decide +kernel
theorem dL_deed_8 : decode cL_deed 8 = .ok (.invokestatic 60, 3) := by decide +kernel
theorem dL_deed_11 : decode cL_deed 11 = .ok (.ireturn, 1) := by decide +kernel
theorem dL_deed_12 : decode cL_deed 12 = .ok (.astore 6, 2) := by decide +kernel
theorem dL_deed_14 : decode cL_deed 14 = .ok (.sipush (-20002), 3) := by decide +kernel
theorem dL_deed_17 : decode cL_deed 17 = .ok (.ireturn, 1) := by decide +kernel
theorem dL_deed_18 : decode cL_deed 18 = .ok (.astore 6, 2) := by decide +kernel
theorem dL_deed_20 : decode cL_deed 20 = .ok (.sipush (-20003), 3) := by decide +kernel
theorem dL_deed_23 : decode cL_deed 23 = .ok (.ireturn, 1) := by decide +kernel
theorem dL_deed_24 : decode cL_deed 24 = .ok (.astore 6, 2) := by decide +kernel
theorem dL_deed_26 : decode cL_deed 26 = .ok (.sipush (-20005), 3) := by decide +kernel
theorem dL_deed_29 : decode cL_deed 29 = .ok (.ireturn, 1) := by decide +kernel
theorem dL_deed_30 : decode cL_deed 30 = .ok (.astore 6, 2) := by decide +kernel
theorem dL_deed_32 : decode cL_deed 32 = .ok (.sipush (-20001), 3) := by decide +kernel
theorem dL_deed_35 : decode cL_deed 35 = .ok (.ireturn, 1) := by decide +kernel
theorem dL_deed_36 : decode cL_deed 36 = .ok (.astore 6, 2) := by decide +kernel
theorem dL_deed_38 : decode cL_deed 38 = .ok (.sipush (-20004), 3) := by decide +kernel
theorem dL_deed_41 : decode cL_deed 41 = .ok (.ireturn, 1) := by decide +kernel
theorem dL_asked_0 : decode cL_asked 0 = .ok (.iload_n 1, 1) := by decide +kernel
theorem dL_asked_1 : decode cL_asked 1 = .ok (.tableswitch 134 0 11 #[63, 69, 75, 81, 87, 93, 99, 105, 111, 117, 124, 129], 63) := by decide +kernel
theorem dL_asked_64 : decode cL_asked 64 = .ok (.aload_n 0, 1) := by decide +kernel
theorem dL_asked_65 : decode cL_asked 65 = .ok (.iload_n 2, 1) := by decide +kernel
theorem dL_asked_66 : decode cL_asked 66 = .ok (.invokevirtual 74, 3) := by decide +kernel
theorem dL_asked_69 : decode cL_asked 69 = .ok (.ireturn, 1) := by decide +kernel
theorem dL_asked_70 : decode cL_asked 70 = .ok (.aload_n 0, 1) := by decide +kernel
theorem dL_asked_71 : decode cL_asked 71 = .ok (.iload_n 2, 1) := by decide +kernel
theorem dL_asked_72 : decode cL_asked 72 = .ok (.invokevirtual 77, 3) := by decide +kernel
theorem dL_asked_75 : decode cL_asked 75 = .ok (.ireturn, 1) := by decide +kernel
theorem dL_asked_76 : decode cL_asked 76 = .ok (.aload_n 0, 1) := by decide +kernel
theorem dL_asked_77 : decode cL_asked 77 = .ok (.iload_n 2, 1) := by decide +kernel
theorem dL_asked_78 : decode cL_asked 78 = .ok (.invokevirtual 80, 3) := by decide +kernel
theorem dL_asked_81 : decode cL_asked 81 = .ok (.ireturn, 1) := by decide +kernel
theorem dL_asked_82 : decode cL_asked 82 = .ok (.aload_n 0, 1) := by decide +kernel
theorem dL_asked_83 : decode cL_asked 83 = .ok (.iload_n 2, 1) := by decide +kernel
theorem dL_asked_84 : decode cL_asked 84 = .ok (.invokevirtual 83, 3) := by decide +kernel
theorem dL_asked_87 : decode cL_asked 87 = .ok (.ireturn, 1) := by decide +kernel
theorem dL_asked_88 : decode cL_asked 88 = .ok (.aload_n 0, 1) := by decide +kernel
theorem dL_asked_89 : decode cL_asked 89 = .ok (.iload_n 2, 1) := by decide +kernel
theorem dL_asked_90 : decode cL_asked 90 = .ok (.invokevirtual 86, 3) := by decide +kernel
theorem dL_asked_93 : decode cL_asked 93 = .ok (.ireturn, 1) := by decide +kernel
theorem dL_asked_94 : decode cL_asked 94 = .ok (.aload_n 0, 1) := by decide +kernel
theorem dL_asked_95 : decode cL_asked 95 = .ok (.iload_n 2, 1) := by decide +kernel
theorem dL_asked_96 : decode cL_asked 96 = .ok (.invokevirtual 89, 3) := by decide +kernel
theorem dL_asked_99 : decode cL_asked 99 = .ok (.ireturn, 1) := by decide +kernel
theorem dL_asked_100 : decode cL_asked 100 = .ok (.aload_n 0, 1) := by decide +kernel
theorem dL_asked_101 : decode cL_asked 101 = .ok (.iload_n 2, 1) := by decide +kernel
theorem dL_asked_102 : decode cL_asked 102 = .ok (.invokevirtual 92, 3) := by decide +kernel
theorem dL_asked_105 : decode cL_asked 105 = .ok (.ireturn, 1) := by decide +kernel
theorem dL_asked_106 : decode cL_asked 106 = .ok (.aload_n 0, 1) := by decide +kernel
theorem dL_asked_107 : decode cL_asked 107 = .ok (.iload_n 2, 1) := by decide +kernel
theorem dL_asked_108 : decode cL_asked 108 = .ok (.invokevirtual 95, 3) := by decide +kernel
theorem dL_asked_111 : decode cL_asked 111 = .ok (.ireturn, 1) := by decide +kernel
theorem dL_asked_112 : decode cL_asked 112 = .ok (.aload_n 0, 1) := by decide +kernel
theorem dL_asked_113 : decode cL_asked 113 = .ok (.iload_n 2, 1) := by decide +kernel
theorem dL_asked_114 : decode cL_asked 114 = .ok (.invokevirtual 98, 3) := by decide +kernel
theorem dL_asked_117 : decode cL_asked 117 = .ok (.ireturn, 1) := by decide +kernel
theorem dL_asked_118 : decode cL_asked 118 = .ok (.aload_n 0, 1) := by decide +kernel
theorem dL_asked_119 : decode cL_asked 119 = .ok (.iload_n 2, 1) := by decide +kernel
theorem dL_asked_120 : decode cL_asked 120 = .ok (.iload_n 3, 1) := by decide +kernel
theorem dL_asked_121 : decode cL_asked 121 = .ok (.invokevirtual 101, 3) := by decide +kernel
theorem dL_asked_124 : decode cL_asked 124 = .ok (.ireturn, 1) := by decide +kernel
theorem dL_asked_125 : decode cL_asked 125 = .ok (.aload_n 0, 1) := by decide +kernel
theorem dL_asked_126 : decode cL_asked 126 = .ok (.invokevirtual 104, 3) := by decide +kernel
theorem dL_asked_129 : decode cL_asked 129 = .ok (.ireturn, 1) := by decide +kernel
theorem dL_asked_130 : decode cL_asked 130 = .ok (.aload_n 0, 1) := by decide +kernel
theorem dL_asked_131 : decode cL_asked 131 = .ok (.invokevirtual 107, 3) := by decide +kernel
theorem dL_asked_134 : decode cL_asked 134 = .ok (.ireturn, 1) := by decide +kernel
theorem dL_asked_135 : decode cL_asked 135 = .ok (.aload_n 0, 1) := by decide +kernel
theorem dL_asked_136 : decode cL_asked 136 = .ok (.invokevirtual 110, 3) := by decide +kernel
theorem dL_asked_139 : decode cL_asked 139 = .ok (.ireturn, 1) := by decide +kernel
theorem dL_ask_0 : decode cL_ask 0 = .ok (.aload_n 0, 1) := by decide +kernel
theorem dL_ask_1 : decode cL_ask 1 = .ok (.iload_n 1, 1) := by decide +kernel
theorem dL_ask_2 : decode cL_ask 2 = .ok (.iload_n 2, 1) := by decide +kernel
theorem dL_ask_3 : decode cL_ask 3 = .ok (.iload_n 3, 1) := by decide +kernel
theorem dL_ask_4 : decode cL_ask 4 = .ok (.invokestatic 113, 3) := by decide +kernel
theorem dL_ask_7 : decode cL_ask 7 = .ok (.ireturn, 1) := by decide +kernel
theorem dL_ask_8 : decode cL_ask 8 = .ok (.astore 4, 2) := by decide +kernel
theorem dL_ask_10 : decode cL_ask 10 = .ok (.sipush (-20002), 3) := by decide +kernel
theorem dL_ask_13 : decode cL_ask 13 = .ok (.ireturn, 1) := by decide +kernel
theorem dL_ask_14 : decode cL_ask 14 = .ok (.astore 4, 2) := by decide +kernel
theorem dL_ask_16 : decode cL_ask 16 = .ok (.sipush (-20003), 3) := by decide +kernel
theorem dL_ask_19 : decode cL_ask 19 = .ok (.ireturn, 1) := by decide +kernel
theorem dL_ask_20 : decode cL_ask 20 = .ok (.astore 4, 2) := by decide +kernel
theorem dL_ask_22 : decode cL_ask 22 = .ok (.sipush (-20005), 3) := by decide +kernel
theorem dL_ask_25 : decode cL_ask 25 = .ok (.ireturn, 1) := by decide +kernel
theorem dL_ask_26 : decode cL_ask 26 = .ok (.astore 4, 2) := by decide +kernel
theorem dL_ask_28 : decode cL_ask 28 = .ok (.sipush (-20004), 3) := by decide +kernel
theorem dL_ask_31 : decode cL_ask 31 = .ok (.ireturn, 1) := by decide +kernel
theorem dL_lay_0 : decode cL_lay 0 = .ok (.iconst 0, 1) := by decide +kernel
theorem dL_lay_1 : decode cL_lay 1 = .ok (.istore_n 2, 1) := by decide +kernel
theorem dL_lay_2 : decode cL_lay 2 = .ok (.iconst 0, 1) := by decide +kernel
theorem dL_lay_3 : decode cL_lay 3 = .ok (.istore_n 3, 1) := by decide +kernel
theorem dL_lay_4 : decode cL_lay 4 = .ok (.iload_n 3, 1) := by decide +kernel
theorem dL_lay_5 : decode cL_lay 5 = .ok (.aload_n 1, 1) := by decide +kernel
theorem dL_lay_6 : decode cL_lay 6 = .ok (.iconst 0, 1) := by decide +kernel
theorem dL_lay_7 : decode cL_lay 7 = .ok (.bipush 7, 2) := by decide +kernel
theorem dL_lay_9 : decode cL_lay 9 = .ok (.invokestatic 117, 3) := by decide +kernel
theorem dL_lay_12 : decode cL_lay 12 = .ok (.if_icmp .ge 32, 3) := by decide +kernel
theorem dL_lay_15 : decode cL_lay 15 = .ok (.iload_n 2, 1) := by decide +kernel
theorem dL_lay_16 : decode cL_lay 16 = .ok (.aload_n 0, 1) := by decide +kernel
theorem dL_lay_17 : decode cL_lay 17 = .ok (.iconst 0, 1) := by decide +kernel
theorem dL_lay_18 : decode cL_lay 18 = .ok (.iconst 1, 1) := by decide +kernel
theorem dL_lay_19 : decode cL_lay 19 = .ok (.aload_n 1, 1) := by decide +kernel
theorem dL_lay_20 : decode cL_lay 20 = .ok (.bipush 11, 2) := by decide +kernel
theorem dL_lay_22 : decode cL_lay 22 = .ok (.iload_n 3, 1) := by decide +kernel
theorem dL_lay_23 : decode cL_lay 23 = .ok (.iadd, 1) := by decide +kernel
theorem dL_lay_24 : decode cL_lay 24 = .ok (.bipush 9, 2) := by decide +kernel
theorem dL_lay_26 : decode cL_lay 26 = .ok (.invokestatic 117, 3) := by decide +kernel
theorem dL_lay_29 : decode cL_lay 29 = .ok (.iadd, 1) := by decide +kernel
theorem dL_lay_30 : decode cL_lay 30 = .ok (.iconst 0, 1) := by decide +kernel
theorem dL_lay_31 : decode cL_lay 31 = .ok (.iconst 0, 1) := by decide +kernel
theorem dL_lay_32 : decode cL_lay 32 = .ok (.iconst 0, 1) := by decide +kernel
theorem dL_lay_33 : decode cL_lay 33 = .ok (.invokestatic 121, 3) := by decide +kernel
theorem dL_lay_36 : decode cL_lay 36 = .ok (.iadd, 1) := by decide +kernel
theorem dL_lay_37 : decode cL_lay 37 = .ok (.istore_n 2, 1) := by decide +kernel
theorem dL_lay_38 : decode cL_lay 38 = .ok (.iinc 3 1, 3) := by decide +kernel
theorem dL_lay_41 : decode cL_lay 41 = .ok (.goto (-37), 3) := by decide +kernel
theorem dL_lay_44 : decode cL_lay 44 = .ok (.iconst 0, 1) := by decide +kernel
theorem dL_lay_45 : decode cL_lay 45 = .ok (.istore_n 3, 1) := by decide +kernel
theorem dL_lay_46 : decode cL_lay 46 = .ok (.iload_n 3, 1) := by decide +kernel
theorem dL_lay_47 : decode cL_lay 47 = .ok (.aload_n 1, 1) := by decide +kernel
theorem dL_lay_48 : decode cL_lay 48 = .ok (.iconst 1, 1) := by decide +kernel
theorem dL_lay_49 : decode cL_lay 49 = .ok (.bipush 6, 2) := by decide +kernel
theorem dL_lay_51 : decode cL_lay 51 = .ok (.invokestatic 117, 3) := by decide +kernel
theorem dL_lay_54 : decode cL_lay 54 = .ok (.if_icmp .ge 32, 3) := by decide +kernel
theorem dL_lay_57 : decode cL_lay 57 = .ok (.iload_n 2, 1) := by decide +kernel
theorem dL_lay_58 : decode cL_lay 58 = .ok (.aload_n 0, 1) := by decide +kernel
theorem dL_lay_59 : decode cL_lay 59 = .ok (.iconst 1, 1) := by decide +kernel
theorem dL_lay_60 : decode cL_lay 60 = .ok (.iconst 1, 1) := by decide +kernel
theorem dL_lay_61 : decode cL_lay 61 = .ok (.aload_n 1, 1) := by decide +kernel
theorem dL_lay_62 : decode cL_lay 62 = .ok (.bipush 21, 2) := by decide +kernel
theorem dL_lay_64 : decode cL_lay 64 = .ok (.iload_n 3, 1) := by decide +kernel
theorem dL_lay_65 : decode cL_lay 65 = .ok (.iadd, 1) := by decide +kernel
theorem dL_lay_66 : decode cL_lay 66 = .ok (.bipush 20, 2) := by decide +kernel
theorem dL_lay_68 : decode cL_lay 68 = .ok (.invokestatic 117, 3) := by decide +kernel
theorem dL_lay_71 : decode cL_lay 71 = .ok (.iadd, 1) := by decide +kernel
theorem dL_lay_72 : decode cL_lay 72 = .ok (.iconst 0, 1) := by decide +kernel
theorem dL_lay_73 : decode cL_lay 73 = .ok (.iconst 0, 1) := by decide +kernel
theorem dL_lay_74 : decode cL_lay 74 = .ok (.iconst 0, 1) := by decide +kernel
theorem dL_lay_75 : decode cL_lay 75 = .ok (.invokestatic 121, 3) := by decide +kernel
theorem dL_lay_78 : decode cL_lay 78 = .ok (.iadd, 1) := by decide +kernel
theorem dL_lay_79 : decode cL_lay 79 = .ok (.istore_n 2, 1) := by decide +kernel
theorem dL_lay_80 : decode cL_lay 80 = .ok (.iinc 3 1, 3) := by decide +kernel
theorem dL_lay_83 : decode cL_lay 83 = .ok (.goto (-37), 3) := by decide +kernel
theorem dL_lay_86 : decode cL_lay 86 = .ok (.iconst 1, 1) := by decide +kernel
theorem dL_lay_87 : decode cL_lay 87 = .ok (.aload_n 0, 1) := by decide +kernel
theorem dL_lay_88 : decode cL_lay 88 = .ok (.invokevirtual 124, 3) := by decide +kernel
theorem dL_lay_91 : decode cL_lay 91 = .ok (.invokestatic 127, 3) := by decide +kernel
theorem dL_lay_94 : decode cL_lay 94 = .ok (.istore_n 3, 1) := by decide +kernel
theorem dL_lay_95 : decode cL_lay 95 = .ok (.iconst 0, 1) := by decide +kernel
theorem dL_lay_96 : decode cL_lay 96 = .ok (.istore 4, 2) := by decide +kernel
theorem dL_lay_98 : decode cL_lay 98 = .ok (.iload 4, 2) := by decide +kernel
theorem dL_lay_100 : decode cL_lay 100 = .ok (.aload_n 1, 1) := by decide +kernel
theorem dL_lay_101 : decode cL_lay 101 = .ok (.iconst 2, 1) := by decide +kernel
theorem dL_lay_102 : decode cL_lay 102 = .ok (.bipush 11, 2) := by decide +kernel
theorem dL_lay_104 : decode cL_lay 104 = .ok (.invokestatic 117, 3) := by decide +kernel
theorem dL_lay_107 : decode cL_lay 107 = .ok (.if_icmp .ge 64, 3) := by decide +kernel
theorem dL_lay_110 : decode cL_lay 110 = .ok (.iload_n 2, 1) := by decide +kernel
theorem dL_lay_111 : decode cL_lay 111 = .ok (.aload_n 0, 1) := by decide +kernel
theorem dL_lay_112 : decode cL_lay 112 = .ok (.iconst 4, 1) := by decide +kernel
theorem dL_lay_113 : decode cL_lay 113 = .ok (.aload_n 1, 1) := by decide +kernel
theorem dL_lay_114 : decode cL_lay 114 = .ok (.bipush 31, 2) := by decide +kernel
theorem dL_lay_116 : decode cL_lay 116 = .ok (.iload 4, 2) := by decide +kernel
theorem dL_lay_118 : decode cL_lay 118 = .ok (.iadd, 1) := by decide +kernel
theorem dL_lay_119 : decode cL_lay 119 = .ok (.iload_n 3, 1) := by decide +kernel
theorem dL_lay_120 : decode cL_lay 120 = .ok (.invokestatic 117, 3) := by decide +kernel
theorem dL_lay_123 : decode cL_lay 123 = .ok (.aload_n 1, 1) := by decide +kernel
theorem dL_lay_124 : decode cL_lay 124 = .ok (.bipush 51, 2) := by decide +kernel
theorem dL_lay_126 : decode cL_lay 126 = .ok (.iload 4, 2) := by decide +kernel
theorem dL_lay_128 : decode cL_lay 128 = .ok (.iadd, 1) := by decide +kernel
theorem dL_lay_129 : decode cL_lay 129 = .ok (.bipush 6, 2) := by decide +kernel
theorem dL_lay_131 : decode cL_lay 131 = .ok (.invokestatic 117, 3) := by decide +kernel
theorem dL_lay_134 : decode cL_lay 134 = .ok (.iconst 1, 1) := by decide +kernel
theorem dL_lay_135 : decode cL_lay 135 = .ok (.aload_n 1, 1) := by decide +kernel
theorem dL_lay_136 : decode cL_lay 136 = .ok (.bipush 71, 2) := by decide +kernel
theorem dL_lay_138 : decode cL_lay 138 = .ok (.iload 4, 2) := by decide +kernel
theorem dL_lay_140 : decode cL_lay 140 = .ok (.iadd, 1) := by decide +kernel
theorem dL_lay_141 : decode cL_lay 141 = .ok (.bipush 50, 2) := by decide +kernel
theorem dL_lay_143 : decode cL_lay 143 = .ok (.invokestatic 117, 3) := by decide +kernel
theorem dL_lay_146 : decode cL_lay 146 = .ok (.iadd, 1) := by decide +kernel
theorem dL_lay_147 : decode cL_lay 147 = .ok (.iconst 1, 1) := by decide +kernel
theorem dL_lay_148 : decode cL_lay 148 = .ok (.aload_n 1, 1) := by decide +kernel
theorem dL_lay_149 : decode cL_lay 149 = .ok (.bipush 91, 2) := by decide +kernel
theorem dL_lay_151 : decode cL_lay 151 = .ok (.iload 4, 2) := by decide +kernel
theorem dL_lay_153 : decode cL_lay 153 = .ok (.iadd, 1) := by decide +kernel
theorem dL_lay_154 : decode cL_lay 154 = .ok (.bipush 20, 2) := by decide +kernel
theorem dL_lay_156 : decode cL_lay 156 = .ok (.invokestatic 117, 3) := by decide +kernel
theorem dL_lay_159 : decode cL_lay 159 = .ok (.iadd, 1) := by decide +kernel
theorem dL_lay_160 : decode cL_lay 160 = .ok (.invokestatic 121, 3) := by decide +kernel
theorem dL_lay_163 : decode cL_lay 163 = .ok (.iadd, 1) := by decide +kernel
theorem dL_lay_164 : decode cL_lay 164 = .ok (.istore_n 2, 1) := by decide +kernel
theorem dL_lay_165 : decode cL_lay 165 = .ok (.iinc 4 1, 3) := by decide +kernel
theorem dL_lay_168 : decode cL_lay 168 = .ok (.goto (-70), 3) := by decide +kernel
theorem dL_lay_171 : decode cL_lay 171 = .ok (.iconst 0, 1) := by decide +kernel
theorem dL_lay_172 : decode cL_lay 172 = .ok (.istore 4, 2) := by decide +kernel
theorem dL_lay_174 : decode cL_lay 174 = .ok (.iload 4, 2) := by decide +kernel
theorem dL_lay_176 : decode cL_lay 176 = .ok (.aload_n 1, 1) := by decide +kernel
theorem dL_lay_177 : decode cL_lay 177 = .ok (.iconst 3, 1) := by decide +kernel
theorem dL_lay_178 : decode cL_lay 178 = .ok (.iconst 4, 1) := by decide +kernel
theorem dL_lay_179 : decode cL_lay 179 = .ok (.invokestatic 117, 3) := by decide +kernel
theorem dL_lay_182 : decode cL_lay 182 = .ok (.if_icmp .ge 64, 3) := by decide +kernel
theorem dL_lay_185 : decode cL_lay 185 = .ok (.iload_n 2, 1) := by decide +kernel
theorem dL_lay_186 : decode cL_lay 186 = .ok (.aload_n 0, 1) := by decide +kernel
theorem dL_lay_187 : decode cL_lay 187 = .ok (.bipush 8, 2) := by decide +kernel
theorem dL_lay_189 : decode cL_lay 189 = .ok (.aload_n 1, 1) := by decide +kernel
theorem dL_lay_190 : decode cL_lay 190 = .ok (.bipush 111, 2) := by decide +kernel
theorem dL_lay_192 : decode cL_lay 192 = .ok (.iload 4, 2) := by decide +kernel
theorem dL_lay_194 : decode cL_lay 194 = .ok (.iadd, 1) := by decide +kernel
theorem dL_lay_195 : decode cL_lay 195 = .ok (.iload_n 3, 1) := by decide +kernel
theorem dL_lay_196 : decode cL_lay 196 = .ok (.invokestatic 117, 3) := by decide +kernel
theorem dL_lay_199 : decode cL_lay 199 = .ok (.iconst 1, 1) := by decide +kernel
theorem dL_lay_200 : decode cL_lay 200 = .ok (.aload_n 1, 1) := by decide +kernel
theorem dL_lay_201 : decode cL_lay 201 = .ok (.bipush 121, 2) := by decide +kernel
theorem dL_lay_203 : decode cL_lay 203 = .ok (.iload 4, 2) := by decide +kernel
theorem dL_lay_205 : decode cL_lay 205 = .ok (.iadd, 1) := by decide +kernel
theorem dL_lay_206 : decode cL_lay 206 = .ok (.bipush 60, 2) := by decide +kernel
theorem dL_lay_208 : decode cL_lay 208 = .ok (.invokestatic 117, 3) := by decide +kernel
theorem dL_lay_211 : decode cL_lay 211 = .ok (.iadd, 1) := by decide +kernel
theorem dL_lay_212 : decode cL_lay 212 = .ok (.iconst 0, 1) := by decide +kernel
theorem dL_lay_213 : decode cL_lay 213 = .ok (.iconst 0, 1) := by decide +kernel
theorem dL_lay_214 : decode cL_lay 214 = .ok (.invokestatic 121, 3) := by decide +kernel
theorem dL_lay_217 : decode cL_lay 217 = .ok (.aload_n 0, 1) := by decide +kernel
theorem dL_lay_218 : decode cL_lay 218 = .ok (.bipush 6, 2) := by decide +kernel
theorem dL_lay_220 : decode cL_lay 220 = .ok (.aload_n 1, 1) := by decide +kernel
theorem dL_lay_221 : decode cL_lay 221 = .ok (.sipush 131, 3) := by decide +kernel
theorem dL_lay_224 : decode cL_lay 224 = .ok (.iload 4, 2) := by decide +kernel
theorem dL_lay_226 : decode cL_lay 226 = .ok (.iadd, 1) := by decide +kernel
theorem dL_lay_227 : decode cL_lay 227 = .ok (.iload_n 3, 1) := by decide +kernel
theorem dL_lay_228 : decode cL_lay 228 = .ok (.invokestatic 117, 3) := by decide +kernel
theorem dL_lay_231 : decode cL_lay 231 = .ok (.iconst 0, 1) := by decide +kernel
theorem dL_lay_232 : decode cL_lay 232 = .ok (.iconst 0, 1) := by decide +kernel
theorem dL_lay_233 : decode cL_lay 233 = .ok (.iconst 0, 1) := by decide +kernel
theorem dL_lay_234 : decode cL_lay 234 = .ok (.invokestatic 121, 3) := by decide +kernel
theorem dL_lay_237 : decode cL_lay 237 = .ok (.iadd, 1) := by decide +kernel
theorem dL_lay_238 : decode cL_lay 238 = .ok (.iadd, 1) := by decide +kernel
theorem dL_lay_239 : decode cL_lay 239 = .ok (.istore_n 2, 1) := by decide +kernel
theorem dL_lay_240 : decode cL_lay 240 = .ok (.iinc 4 1, 3) := by decide +kernel
theorem dL_lay_243 : decode cL_lay 243 = .ok (.goto (-69), 3) := by decide +kernel
theorem dL_lay_246 : decode cL_lay 246 = .ok (.iload_n 2, 1) := by decide +kernel
theorem dL_lay_247 : decode cL_lay 247 = .ok (.aload_n 1, 1) := by decide +kernel
theorem dL_lay_248 : decode cL_lay 248 = .ok (.iconst 4, 1) := by decide +kernel
theorem dL_lay_249 : decode cL_lay 249 = .ok (.iconst 2, 1) := by decide +kernel
theorem dL_lay_250 : decode cL_lay 250 = .ok (.invokestatic 117, 3) := by decide +kernel
theorem dL_lay_253 : decode cL_lay 253 = .ok (.ifCond .ne 25, 3) := by decide +kernel
theorem dL_lay_256 : decode cL_lay 256 = .ok (.aload_n 0, 1) := by decide +kernel
theorem dL_lay_257 : decode cL_lay 257 = .ok (.bipush 9, 2) := by decide +kernel
theorem dL_lay_259 : decode cL_lay 259 = .ok (.iconst 1, 1) := by decide +kernel
theorem dL_lay_260 : decode cL_lay 260 = .ok (.aload_n 1, 1) := by decide +kernel
theorem dL_lay_261 : decode cL_lay 261 = .ok (.iconst 5, 1) := by decide +kernel
theorem dL_lay_262 : decode cL_lay 262 = .ok (.sipush 300, 3) := by decide +kernel
theorem dL_lay_265 : decode cL_lay 265 = .ok (.invokestatic 117, 3) := by decide +kernel
theorem dL_lay_268 : decode cL_lay 268 = .ok (.iadd, 1) := by decide +kernel
theorem dL_lay_269 : decode cL_lay 269 = .ok (.iconst 0, 1) := by decide +kernel
theorem dL_lay_270 : decode cL_lay 270 = .ok (.iconst 0, 1) := by decide +kernel
theorem dL_lay_271 : decode cL_lay 271 = .ok (.iconst 0, 1) := by decide +kernel
theorem dL_lay_272 : decode cL_lay 272 = .ok (.invokestatic 121, 3) := by decide +kernel
theorem dL_lay_275 : decode cL_lay 275 = .ok (.goto 4, 3) := by decide +kernel
theorem dL_lay_278 : decode cL_lay 278 = .ok (.iconst 0, 1) := by decide +kernel
theorem dL_lay_279 : decode cL_lay 279 = .ok (.iadd, 1) := by decide +kernel
theorem dL_lay_280 : decode cL_lay 280 = .ok (.istore_n 2, 1) := by decide +kernel
theorem dL_lay_281 : decode cL_lay 281 = .ok (.return_, 1) := by decide +kernel
theorem dL_any_0 : decode cL_any 0 = .ok (.aload_n 1, 1) := by decide +kernel
theorem dL_any_1 : decode cL_any 1 = .ok (.iload_n 2, 1) := by decide +kernel
theorem dL_any_2 : decode cL_any 2 = .ok (.iconst 1, 1) := by decide +kernel
theorem dL_any_3 : decode cL_any 3 = .ok (.iadd, 1) := by decide +kernel
theorem dL_any_4 : decode cL_any 4 = .ok (.iconst 1, 1) := by decide +kernel
theorem dL_any_5 : decode cL_any 5 = .ok (.aload_n 0, 1) := by decide +kernel
theorem dL_any_6 : decode cL_any 6 = .ok (.invokevirtual 124, 3) := by decide +kernel
theorem dL_any_9 : decode cL_any 9 = .ok (.invokestatic 127, 3) := by decide +kernel
theorem dL_any_12 : decode cL_any 12 = .ok (.invokestatic 117, 3) := by decide +kernel
theorem dL_any_15 : decode cL_any 15 = .ok (.istore_n 3, 1) := by decide +kernel
theorem dL_any_16 : decode cL_any 16 = .ok (.aload_n 1, 1) := by decide +kernel
theorem dL_any_17 : decode cL_any 17 = .ok (.iload_n 2, 1) := by decide +kernel
theorem dL_any_18 : decode cL_any 18 = .ok (.iconst 1, 1) := by decide +kernel
theorem dL_any_19 : decode cL_any 19 = .ok (.iadd, 1) := by decide +kernel
theorem dL_any_20 : decode cL_any 20 = .ok (.iconst 1, 1) := by decide +kernel
theorem dL_any_21 : decode cL_any 21 = .ok (.aload_n 0, 1) := by decide +kernel
theorem dL_any_22 : decode cL_any 22 = .ok (.invokevirtual 132, 3) := by decide +kernel
theorem dL_any_25 : decode cL_any 25 = .ok (.invokestatic 127, 3) := by decide +kernel
theorem dL_any_28 : decode cL_any 28 = .ok (.invokestatic 117, 3) := by decide +kernel
theorem dL_any_31 : decode cL_any 31 = .ok (.istore 4, 2) := by decide +kernel
theorem dL_any_33 : decode cL_any 33 = .ok (.aload_n 1, 1) := by decide +kernel
theorem dL_any_34 : decode cL_any 34 = .ok (.iload_n 2, 1) := by decide +kernel
theorem dL_any_35 : decode cL_any 35 = .ok (.bipush 24, 2) := by decide +kernel
theorem dL_any_37 : decode cL_any 37 = .ok (.invokestatic 117, 3) := by decide +kernel
theorem dL_any_40 : decode cL_any 40 = .ok (.tableswitch 319 0 19 #[96, 116, 136, 136, 147, 147, 158, 158, 158, 158, 158, 196, 233, 233, 244, 244, 255, 255, 276, 298], 96) := by decide +kernel
theorem dL_any_136 : decode cL_any 136 = .ok (.aload_n 0, 1) := by decide +kernel
theorem dL_any_137 : decode cL_any 137 = .ok (.iconst 0, 1) := by decide +kernel
theorem dL_any_138 : decode cL_any 138 = .ok (.iconst 1, 1) := by decide +kernel
theorem dL_any_139 : decode cL_any 139 = .ok (.aload_n 1, 1) := by decide +kernel
theorem dL_any_140 : decode cL_any 140 = .ok (.iload_n 2, 1) := by decide +kernel
theorem dL_any_141 : decode cL_any 141 = .ok (.iconst 2, 1) := by decide +kernel
theorem dL_any_142 : decode cL_any 142 = .ok (.iadd, 1) := by decide +kernel
theorem dL_any_143 : decode cL_any 143 = .ok (.bipush 9, 2) := by decide +kernel
theorem dL_any_145 : decode cL_any 145 = .ok (.invokestatic 117, 3) := by decide +kernel
theorem dL_any_148 : decode cL_any 148 = .ok (.iadd, 1) := by decide +kernel
theorem dL_any_149 : decode cL_any 149 = .ok (.iconst 0, 1) := by decide +kernel
theorem dL_any_150 : decode cL_any 150 = .ok (.iconst 0, 1) := by decide +kernel
theorem dL_any_151 : decode cL_any 151 = .ok (.iconst 0, 1) := by decide +kernel
theorem dL_any_152 : decode cL_any 152 = .ok (.invokestatic 121, 3) := by decide +kernel
theorem dL_any_155 : decode cL_any 155 = .ok (.ireturn, 1) := by decide +kernel
theorem dL_any_156 : decode cL_any 156 = .ok (.aload_n 0, 1) := by decide +kernel
theorem dL_any_157 : decode cL_any 157 = .ok (.iconst 1, 1) := by decide +kernel
theorem dL_any_158 : decode cL_any 158 = .ok (.iconst 1, 1) := by decide +kernel
theorem dL_any_159 : decode cL_any 159 = .ok (.aload_n 1, 1) := by decide +kernel
theorem dL_any_160 : decode cL_any 160 = .ok (.iload_n 2, 1) := by decide +kernel
theorem dL_any_161 : decode cL_any 161 = .ok (.iconst 2, 1) := by decide +kernel
theorem dL_any_162 : decode cL_any 162 = .ok (.iadd, 1) := by decide +kernel
theorem dL_any_163 : decode cL_any 163 = .ok (.bipush 20, 2) := by decide +kernel
theorem dL_any_165 : decode cL_any 165 = .ok (.invokestatic 117, 3) := by decide +kernel
theorem dL_any_168 : decode cL_any 168 = .ok (.iadd, 1) := by decide +kernel
theorem dL_any_169 : decode cL_any 169 = .ok (.iconst 0, 1) := by decide +kernel
theorem dL_any_170 : decode cL_any 170 = .ok (.iconst 0, 1) := by decide +kernel
theorem dL_any_171 : decode cL_any 171 = .ok (.iconst 0, 1) := by decide +kernel
theorem dL_any_172 : decode cL_any 172 = .ok (.invokestatic 121, 3) := by decide +kernel
theorem dL_any_175 : decode cL_any 175 = .ok (.ireturn, 1) := by decide +kernel
theorem dL_any_176 : decode cL_any 176 = .ok (.aload_n 0, 1) := by decide +kernel
theorem dL_any_177 : decode cL_any 177 = .ok (.iconst 2, 1) := by decide +kernel
theorem dL_any_178 : decode cL_any 178 = .ok (.iload 4, 2) := by decide +kernel
theorem dL_any_180 : decode cL_any 180 = .ok (.iconst 0, 1) := by decide +kernel
theorem dL_any_181 : decode cL_any 181 = .ok (.iconst 0, 1) := by decide +kernel
theorem dL_any_182 : decode cL_any 182 = .ok (.iconst 0, 1) := by decide +kernel
theorem dL_any_183 : decode cL_any 183 = .ok (.invokestatic 121, 3) := by decide +kernel
theorem dL_any_186 : decode cL_any 186 = .ok (.ireturn, 1) := by decide +kernel
theorem dL_any_187 : decode cL_any 187 = .ok (.aload_n 0, 1) := by decide +kernel
theorem dL_any_188 : decode cL_any 188 = .ok (.iconst 3, 1) := by decide +kernel
theorem dL_any_189 : decode cL_any 189 = .ok (.iload 4, 2) := by decide +kernel
theorem dL_any_191 : decode cL_any 191 = .ok (.iconst 0, 1) := by decide +kernel
theorem dL_any_192 : decode cL_any 192 = .ok (.iconst 0, 1) := by decide +kernel
theorem dL_any_193 : decode cL_any 193 = .ok (.iconst 0, 1) := by decide +kernel
theorem dL_any_194 : decode cL_any 194 = .ok (.invokestatic 121, 3) := by decide +kernel
theorem dL_any_197 : decode cL_any 197 = .ok (.ireturn, 1) := by decide +kernel
theorem dL_any_198 : decode cL_any 198 = .ok (.aload_n 0, 1) := by decide +kernel
theorem dL_any_199 : decode cL_any 199 = .ok (.iconst 4, 1) := by decide +kernel
theorem dL_any_200 : decode cL_any 200 = .ok (.iload_n 3, 1) := by decide +kernel
theorem dL_any_201 : decode cL_any 201 = .ok (.aload_n 1, 1) := by decide +kernel
theorem dL_any_202 : decode cL_any 202 = .ok (.iload_n 2, 1) := by decide +kernel
theorem dL_any_203 : decode cL_any 203 = .ok (.iconst 2, 1) := by decide +kernel
theorem dL_any_204 : decode cL_any 204 = .ok (.iadd, 1) := by decide +kernel
theorem dL_any_205 : decode cL_any 205 = .ok (.bipush 6, 2) := by decide +kernel
theorem dL_any_207 : decode cL_any 207 = .ok (.invokestatic 117, 3) := by decide +kernel
theorem dL_any_210 : decode cL_any 210 = .ok (.iconst 1, 1) := by decide +kernel
theorem dL_any_211 : decode cL_any 211 = .ok (.aload_n 1, 1) := by decide +kernel
theorem dL_any_212 : decode cL_any 212 = .ok (.iload_n 2, 1) := by decide +kernel
theorem dL_any_213 : decode cL_any 213 = .ok (.iconst 3, 1) := by decide +kernel
theorem dL_any_214 : decode cL_any 214 = .ok (.iadd, 1) := by decide +kernel
theorem dL_any_215 : decode cL_any 215 = .ok (.bipush 50, 2) := by decide +kernel
theorem dL_any_217 : decode cL_any 217 = .ok (.invokestatic 117, 3) := by decide +kernel
theorem dL_any_220 : decode cL_any 220 = .ok (.iadd, 1) := by decide +kernel
theorem dL_any_221 : decode cL_any 221 = .ok (.iconst 1, 1) := by decide +kernel
theorem dL_any_222 : decode cL_any 222 = .ok (.aload_n 1, 1) := by decide +kernel
theorem dL_any_223 : decode cL_any 223 = .ok (.iload_n 2, 1) := by decide +kernel
theorem dL_any_224 : decode cL_any 224 = .ok (.iconst 4, 1) := by decide +kernel
theorem dL_any_225 : decode cL_any 225 = .ok (.iadd, 1) := by decide +kernel
theorem dL_any_226 : decode cL_any 226 = .ok (.bipush 20, 2) := by decide +kernel
theorem dL_any_228 : decode cL_any 228 = .ok (.invokestatic 117, 3) := by decide +kernel
theorem dL_any_231 : decode cL_any 231 = .ok (.iadd, 1) := by decide +kernel
theorem dL_any_232 : decode cL_any 232 = .ok (.invokestatic 121, 3) := by decide +kernel
theorem dL_any_235 : decode cL_any 235 = .ok (.ireturn, 1) := by decide +kernel
theorem dL_any_236 : decode cL_any 236 = .ok (.aload_n 0, 1) := by decide +kernel
theorem dL_any_237 : decode cL_any 237 = .ok (.invokevirtual 135, 3) := by decide +kernel
theorem dL_any_240 : decode cL_any 240 = .ok (.ifCond .ne 9, 3) := by decide +kernel
theorem dL_any_243 : decode cL_any 243 = .ok (.sipush (-20004), 3) := by decide +kernel
theorem dL_any_246 : decode cL_any 246 = .ok (.goto 26, 3) := by decide +kernel
theorem dL_any_249 : decode cL_any 249 = .ok (.aload_n 0, 1) := by decide +kernel
theorem dL_any_250 : decode cL_any 250 = .ok (.iconst 5, 1) := by decide +kernel
theorem dL_any_251 : decode cL_any 251 = .ok (.aload_n 0, 1) := by decide +kernel
theorem dL_any_252 : decode cL_any 252 = .ok (.aload_n 1, 1) := by decide +kernel
theorem dL_any_253 : decode cL_any 253 = .ok (.iload_n 2, 1) := by decide +kernel
theorem dL_any_254 : decode cL_any 254 = .ok (.iconst 2, 1) := by decide +kernel
theorem dL_any_255 : decode cL_any 255 = .ok (.iadd, 1) := by decide +kernel
theorem dL_any_256 : decode cL_any 256 = .ok (.aload_n 0, 1) := by decide +kernel
theorem dL_any_257 : decode cL_any 257 = .ok (.invokevirtual 135, 3) := by decide +kernel
theorem dL_any_260 : decode cL_any 260 = .ok (.invokestatic 117, 3) := by decide +kernel
theorem dL_any_263 : decode cL_any 263 = .ok (.invokevirtual 89, 3) := by decide +kernel
theorem dL_any_266 : decode cL_any 266 = .ok (.iconst 0, 1) := by decide +kernel
theorem dL_any_267 : decode cL_any 267 = .ok (.iconst 0, 1) := by decide +kernel
theorem dL_any_268 : decode cL_any 268 = .ok (.iconst 0, 1) := by decide +kernel
theorem dL_any_269 : decode cL_any 269 = .ok (.invokestatic 121, 3) := by decide +kernel
theorem dL_any_272 : decode cL_any 272 = .ok (.ireturn, 1) := by decide +kernel
theorem dL_any_273 : decode cL_any 273 = .ok (.aload_n 0, 1) := by decide +kernel
theorem dL_any_274 : decode cL_any 274 = .ok (.bipush 6, 2) := by decide +kernel
theorem dL_any_276 : decode cL_any 276 = .ok (.iload_n 3, 1) := by decide +kernel
theorem dL_any_277 : decode cL_any 277 = .ok (.iconst 0, 1) := by decide +kernel
theorem dL_any_278 : decode cL_any 278 = .ok (.iconst 0, 1) := by decide +kernel
theorem dL_any_279 : decode cL_any 279 = .ok (.iconst 0, 1) := by decide +kernel
theorem dL_any_280 : decode cL_any 280 = .ok (.invokestatic 121, 3) := by decide +kernel
theorem dL_any_283 : decode cL_any 283 = .ok (.ireturn, 1) := by decide +kernel
theorem dL_any_284 : decode cL_any 284 = .ok (.aload_n 0, 1) := by decide +kernel
theorem dL_any_285 : decode cL_any 285 = .ok (.bipush 7, 2) := by decide +kernel
theorem dL_any_287 : decode cL_any 287 = .ok (.iload_n 3, 1) := by decide +kernel
theorem dL_any_288 : decode cL_any 288 = .ok (.iconst 0, 1) := by decide +kernel
theorem dL_any_289 : decode cL_any 289 = .ok (.iconst 0, 1) := by decide +kernel
theorem dL_any_290 : decode cL_any 290 = .ok (.iconst 0, 1) := by decide +kernel
theorem dL_any_291 : decode cL_any 291 = .ok (.invokestatic 121, 3) := by decide +kernel
theorem dL_any_294 : decode cL_any 294 = .ok (.ireturn, 1) := by decide +kernel
theorem dL_any_295 : decode cL_any 295 = .ok (.aload_n 0, 1) := by decide +kernel
theorem dL_any_296 : decode cL_any 296 = .ok (.bipush 8, 2) := by decide +kernel
theorem dL_any_298 : decode cL_any 298 = .ok (.iload_n 3, 1) := by decide +kernel
theorem dL_any_299 : decode cL_any 299 = .ok (.iconst 1, 1) := by decide +kernel
theorem dL_any_300 : decode cL_any 300 = .ok (.aload_n 1, 1) := by decide +kernel
theorem dL_any_301 : decode cL_any 301 = .ok (.iload_n 2, 1) := by decide +kernel
theorem dL_any_302 : decode cL_any 302 = .ok (.iconst 2, 1) := by decide +kernel
theorem dL_any_303 : decode cL_any 303 = .ok (.iadd, 1) := by decide +kernel
theorem dL_any_304 : decode cL_any 304 = .ok (.bipush 99, 2) := by decide +kernel
theorem dL_any_306 : decode cL_any 306 = .ok (.invokestatic 117, 3) := by decide +kernel
theorem dL_any_309 : decode cL_any 309 = .ok (.iadd, 1) := by decide +kernel
theorem dL_any_310 : decode cL_any 310 = .ok (.iconst 0, 1) := by decide +kernel
theorem dL_any_311 : decode cL_any 311 = .ok (.iconst 0, 1) := by decide +kernel
theorem dL_any_312 : decode cL_any 312 = .ok (.invokestatic 121, 3) := by decide +kernel
theorem dL_any_315 : decode cL_any 315 = .ok (.ireturn, 1) := by decide +kernel
theorem dL_any_316 : decode cL_any 316 = .ok (.aload_n 0, 1) := by decide +kernel
theorem dL_any_317 : decode cL_any 317 = .ok (.bipush 9, 2) := by decide +kernel
theorem dL_any_319 : decode cL_any 319 = .ok (.iconst 1, 1) := by decide +kernel
theorem dL_any_320 : decode cL_any 320 = .ok (.aload_n 1, 1) := by decide +kernel
theorem dL_any_321 : decode cL_any 321 = .ok (.iload_n 2, 1) := by decide +kernel
theorem dL_any_322 : decode cL_any 322 = .ok (.iconst 2, 1) := by decide +kernel
theorem dL_any_323 : decode cL_any 323 = .ok (.iadd, 1) := by decide +kernel
theorem dL_any_324 : decode cL_any 324 = .ok (.sipush 200, 3) := by decide +kernel
theorem dL_any_327 : decode cL_any 327 = .ok (.invokestatic 117, 3) := by decide +kernel
theorem dL_any_330 : decode cL_any 330 = .ok (.iadd, 1) := by decide +kernel
theorem dL_any_331 : decode cL_any 331 = .ok (.iconst 0, 1) := by decide +kernel
theorem dL_any_332 : decode cL_any 332 = .ok (.iconst 0, 1) := by decide +kernel
theorem dL_any_333 : decode cL_any 333 = .ok (.iconst 0, 1) := by decide +kernel
theorem dL_any_334 : decode cL_any 334 = .ok (.invokestatic 121, 3) := by decide +kernel
theorem dL_any_337 : decode cL_any 337 = .ok (.ireturn, 1) := by decide +kernel
theorem dL_any_338 : decode cL_any 338 = .ok (.aload_n 0, 1) := by decide +kernel
theorem dL_any_339 : decode cL_any 339 = .ok (.bipush 10, 2) := by decide +kernel
theorem dL_any_341 : decode cL_any 341 = .ok (.iconst 1, 1) := by decide +kernel
theorem dL_any_342 : decode cL_any 342 = .ok (.aload_n 1, 1) := by decide +kernel
theorem dL_any_343 : decode cL_any 343 = .ok (.iload_n 2, 1) := by decide +kernel
theorem dL_any_344 : decode cL_any 344 = .ok (.iconst 2, 1) := by decide +kernel
theorem dL_any_345 : decode cL_any 345 = .ok (.iadd, 1) := by decide +kernel
theorem dL_any_346 : decode cL_any 346 = .ok (.bipush 80, 2) := by decide +kernel
theorem dL_any_348 : decode cL_any 348 = .ok (.invokestatic 117, 3) := by decide +kernel
theorem dL_any_351 : decode cL_any 351 = .ok (.iadd, 1) := by decide +kernel
theorem dL_any_352 : decode cL_any 352 = .ok (.iconst 0, 1) := by decide +kernel
theorem dL_any_353 : decode cL_any 353 = .ok (.iconst 0, 1) := by decide +kernel
theorem dL_any_354 : decode cL_any 354 = .ok (.iconst 0, 1) := by decide +kernel
theorem dL_any_355 : decode cL_any 355 = .ok (.invokestatic 121, 3) := by decide +kernel
theorem dL_any_358 : decode cL_any 358 = .ok (.ireturn, 1) := by decide +kernel
theorem dL_any_359 : decode cL_any 359 = .ok (.aload_n 0, 1) := by decide +kernel
theorem dL_any_360 : decode cL_any 360 = .ok (.bipush 11, 2) := by decide +kernel
theorem dL_any_362 : decode cL_any 362 = .ok (.iconst 1, 1) := by decide +kernel
theorem dL_any_363 : decode cL_any 363 = .ok (.aload_n 1, 1) := by decide +kernel
theorem dL_any_364 : decode cL_any 364 = .ok (.iload_n 2, 1) := by decide +kernel
theorem dL_any_365 : decode cL_any 365 = .ok (.iconst 2, 1) := by decide +kernel
theorem dL_any_366 : decode cL_any 366 = .ok (.iadd, 1) := by decide +kernel
theorem dL_any_367 : decode cL_any 367 = .ok (.aload_n 1, 1) := by decide +kernel
theorem dL_any_368 : decode cL_any 368 = .ok (.iload_n 2, 1) := by decide +kernel
theorem dL_any_369 : decode cL_any 369 = .ok (.iconst 3, 1) := by decide +kernel
theorem dL_any_370 : decode cL_any 370 = .ok (.iadd, 1) := by decide +kernel
theorem dL_any_371 : decode cL_any 371 = .ok (.iconst 3, 1) := by decide +kernel
theorem dL_any_372 : decode cL_any 372 = .ok (.invokestatic 117, 3) := by decide +kernel
theorem dL_any_375 : decode cL_any 375 = .ok (.ifCond .ne 8, 3) := by decide +kernel
theorem dL_any_378 : decode cL_any 378 = .ok (.bipush 30, 2) := by decide +kernel
theorem dL_any_380 : decode cL_any 380 = .ok (.goto 4, 3) := by decide +kernel
theorem dL_any_383 : decode cL_any 383 = .ok (.iconst 4, 1) := by decide +kernel
theorem dL_any_384 : decode cL_any 384 = .ok (.invokestatic 117, 3) := by decide +kernel
theorem dL_any_387 : decode cL_any 387 = .ok (.iadd, 1) := by decide +kernel
theorem dL_any_388 : decode cL_any 388 = .ok (.iconst 0, 1) := by decide +kernel
theorem dL_any_389 : decode cL_any 389 = .ok (.iconst 0, 1) := by decide +kernel
theorem dL_any_390 : decode cL_any 390 = .ok (.iconst 0, 1) := by decide +kernel
theorem dL_any_391 : decode cL_any 391 = .ok (.invokestatic 121, 3) := by decide +kernel
theorem dL_any_394 : decode cL_any 394 = .ok (.ireturn, 1) := by decide +kernel
theorem dL_looks_0 : decode cL_looks 0 = .ok (.bipush 31, 2) := by decide +kernel
theorem dL_looks_2 : decode cL_looks 2 = .ok (.bipush 31, 2) := by decide +kernel
theorem dL_looks_4 : decode cL_looks 4 = .ok (.bipush 31, 2) := by decide +kernel
theorem dL_looks_6 : decode cL_looks 6 = .ok (.aload_n 0, 1) := by decide +kernel
theorem dL_looks_7 : decode cL_looks 7 = .ok (.invokevirtual 138, 3) := by decide +kernel
theorem dL_looks_10 : decode cL_looks 10 = .ok (.imul, 1) := by decide +kernel
theorem dL_looks_11 : decode cL_looks 11 = .ok (.aload_n 0, 1) := by decide +kernel
theorem dL_looks_12 : decode cL_looks 12 = .ok (.invokevirtual 141, 3) := by decide +kernel
theorem dL_looks_15 : decode cL_looks 15 = .ok (.iadd, 1) := by decide +kernel
theorem dL_looks_16 : decode cL_looks 16 = .ok (.imul, 1) := by decide +kernel
theorem dL_looks_17 : decode cL_looks 17 = .ok (.aload_n 0, 1) := by decide +kernel
theorem dL_looks_18 : decode cL_looks 18 = .ok (.invokevirtual 144, 3) := by decide +kernel
theorem dL_looks_21 : decode cL_looks 21 = .ok (.iadd, 1) := by decide +kernel
theorem dL_looks_22 : decode cL_looks 22 = .ok (.imul, 1) := by decide +kernel
theorem dL_looks_23 : decode cL_looks 23 = .ok (.aload_n 0, 1) := by decide +kernel
theorem dL_looks_24 : decode cL_looks 24 = .ok (.invokevirtual 147, 3) := by decide +kernel
theorem dL_looks_27 : decode cL_looks 27 = .ok (.iadd, 1) := by decide +kernel
theorem dL_looks_28 : decode cL_looks 28 = .ok (.istore_n 1, 1) := by decide +kernel
theorem dL_looks_29 : decode cL_looks 29 = .ok (.bipush 31, 2) := by decide +kernel
theorem dL_looks_31 : decode cL_looks 31 = .ok (.bipush 31, 2) := by decide +kernel
theorem dL_looks_33 : decode cL_looks 33 = .ok (.bipush 31, 2) := by decide +kernel
theorem dL_looks_35 : decode cL_looks 35 = .ok (.iload_n 1, 1) := by decide +kernel
theorem dL_looks_36 : decode cL_looks 36 = .ok (.imul, 1) := by decide +kernel
theorem dL_looks_37 : decode cL_looks 37 = .ok (.aload_n 0, 1) := by decide +kernel
theorem dL_looks_38 : decode cL_looks 38 = .ok (.invokevirtual 150, 3) := by decide +kernel
theorem dL_looks_41 : decode cL_looks 41 = .ok (.iadd, 1) := by decide +kernel
theorem dL_looks_42 : decode cL_looks 42 = .ok (.imul, 1) := by decide +kernel
theorem dL_looks_43 : decode cL_looks 43 = .ok (.aload_n 0, 1) := by decide +kernel
theorem dL_looks_44 : decode cL_looks 44 = .ok (.invokevirtual 153, 3) := by decide +kernel
theorem dL_looks_47 : decode cL_looks 47 = .ok (.iadd, 1) := by decide +kernel
theorem dL_looks_48 : decode cL_looks 48 = .ok (.imul, 1) := by decide +kernel
theorem dL_looks_49 : decode cL_looks 49 = .ok (.aload_n 0, 1) := by decide +kernel
theorem dL_looks_50 : decode cL_looks 50 = .ok (.invokevirtual 156, 3) := by decide +kernel
theorem dL_looks_53 : decode cL_looks 53 = .ok (.iadd, 1) := by decide +kernel
theorem dL_looks_54 : decode cL_looks 54 = .ok (.istore_n 1, 1) := by decide +kernel
theorem dL_looks_55 : decode cL_looks 55 = .ok (.iconst 0, 1) := by decide +kernel
theorem dL_looks_56 : decode cL_looks 56 = .ok (.istore_n 2, 1) := by decide +kernel
theorem dL_looks_57 : decode cL_looks 57 = .ok (.iload_n 2, 1) := by decide +kernel
theorem dL_looks_58 : decode cL_looks 58 = .ok (.bipush 6, 2) := by decide +kernel
theorem dL_looks_60 : decode cL_looks 60 = .ok (.if_icmp .ge 20, 3) := by decide +kernel
theorem dL_looks_63 : decode cL_looks 63 = .ok (.bipush 31, 2) := by decide +kernel
theorem dL_looks_65 : decode cL_looks 65 = .ok (.iload_n 1, 1) := by decide +kernel
theorem dL_looks_66 : decode cL_looks 66 = .ok (.imul, 1) := by decide +kernel
theorem dL_looks_67 : decode cL_looks 67 = .ok (.aload_n 0, 1) := by decide +kernel
theorem dL_looks_68 : decode cL_looks 68 = .ok (.iload_n 2, 1) := by decide +kernel
theorem dL_looks_69 : decode cL_looks 69 = .ok (.invokevirtual 74, 3) := by decide +kernel
theorem dL_looks_72 : decode cL_looks 72 = .ok (.iadd, 1) := by decide +kernel
theorem dL_looks_73 : decode cL_looks 73 = .ok (.istore_n 1, 1) := by decide +kernel
theorem dL_looks_74 : decode cL_looks 74 = .ok (.iinc 2 1, 3) := by decide +kernel
theorem dL_looks_77 : decode cL_looks 77 = .ok (.goto (-20), 3) := by decide +kernel
theorem dL_looks_80 : decode cL_looks 80 = .ok (.iconst 0, 1) := by decide +kernel
theorem dL_looks_81 : decode cL_looks 81 = .ok (.istore_n 2, 1) := by decide +kernel
theorem dL_looks_82 : decode cL_looks 82 = .ok (.iload_n 2, 1) := by decide +kernel
theorem dL_looks_83 : decode cL_looks 83 = .ok (.aload_n 0, 1) := by decide +kernel
theorem dL_looks_84 : decode cL_looks 84 = .ok (.invokevirtual 132, 3) := by decide +kernel
theorem dL_looks_87 : decode cL_looks 87 = .ok (.if_icmp .ge 32, 3) := by decide +kernel
theorem dL_looks_90 : decode cL_looks 90 = .ok (.bipush 31, 2) := by decide +kernel
theorem dL_looks_92 : decode cL_looks 92 = .ok (.bipush 31, 2) := by decide +kernel
theorem dL_looks_94 : decode cL_looks 94 = .ok (.iload_n 1, 1) := by decide +kernel
theorem dL_looks_95 : decode cL_looks 95 = .ok (.imul, 1) := by decide +kernel
theorem dL_looks_96 : decode cL_looks 96 = .ok (.aload_n 0, 1) := by decide +kernel
theorem dL_looks_97 : decode cL_looks 97 = .ok (.iload_n 2, 1) := by decide +kernel
theorem dL_looks_98 : decode cL_looks 98 = .ok (.invokevirtual 159, 3) := by decide +kernel
theorem dL_looks_101 : decode cL_looks 101 = .ok (.iadd, 1) := by decide +kernel
theorem dL_looks_102 : decode cL_looks 102 = .ok (.imul, 1) := by decide +kernel
theorem dL_looks_103 : decode cL_looks 103 = .ok (.aload_n 0, 1) := by decide +kernel
theorem dL_looks_104 : decode cL_looks 104 = .ok (.iload_n 2, 1) := by decide +kernel
theorem dL_looks_105 : decode cL_looks 105 = .ok (.invokevirtual 162, 3) := by decide +kernel
theorem dL_looks_108 : decode cL_looks 108 = .ok (.invokestatic 166, 3) := by decide +kernel
theorem dL_looks_111 : decode cL_looks 111 = .ok (.iadd, 1) := by decide +kernel
theorem dL_looks_112 : decode cL_looks 112 = .ok (.istore_n 1, 1) := by decide +kernel
theorem dL_looks_113 : decode cL_looks 113 = .ok (.iinc 2 1, 3) := by decide +kernel
theorem dL_looks_116 : decode cL_looks 116 = .ok (.goto (-34), 3) := by decide +kernel
theorem dL_looks_119 : decode cL_looks 119 = .ok (.iconst 0, 1) := by decide +kernel
theorem dL_looks_120 : decode cL_looks 120 = .ok (.istore_n 2, 1) := by decide +kernel
theorem dL_looks_121 : decode cL_looks 121 = .ok (.iload_n 2, 1) := by decide +kernel
theorem dL_looks_122 : decode cL_looks 122 = .ok (.aload_n 0, 1) := by decide +kernel
theorem dL_looks_123 : decode cL_looks 123 = .ok (.invokevirtual 124, 3) := by decide +kernel
theorem dL_looks_126 : decode cL_looks 126 = .ok (.if_icmp .ge 59, 3) := by decide +kernel
theorem dL_looks_129 : decode cL_looks 129 = .ok (.bipush 31, 2) := by decide +kernel
theorem dL_looks_131 : decode cL_looks 131 = .ok (.bipush 31, 2) := by decide +kernel
theorem dL_looks_133 : decode cL_looks 133 = .ok (.bipush 31, 2) := by decide +kernel
theorem dL_looks_135 : decode cL_looks 135 = .ok (.bipush 31, 2) := by decide +kernel
theorem dL_looks_137 : decode cL_looks 137 = .ok (.bipush 31, 2) := by decide +kernel
theorem dL_looks_139 : decode cL_looks 139 = .ok (.iload_n 1, 1) := by decide +kernel
theorem dL_looks_140 : decode cL_looks 140 = .ok (.imul, 1) := by decide +kernel
theorem dL_looks_141 : decode cL_looks 141 = .ok (.aload_n 0, 1) := by decide +kernel
theorem dL_looks_142 : decode cL_looks 142 = .ok (.iload_n 2, 1) := by decide +kernel
theorem dL_looks_143 : decode cL_looks 143 = .ok (.invokevirtual 170, 3) := by decide +kernel
theorem dL_looks_146 : decode cL_looks 146 = .ok (.iadd, 1) := by decide +kernel
theorem dL_looks_147 : decode cL_looks 147 = .ok (.imul, 1) := by decide +kernel
theorem dL_looks_148 : decode cL_looks 148 = .ok (.aload_n 0, 1) := by decide +kernel
theorem dL_looks_149 : decode cL_looks 149 = .ok (.iload_n 2, 1) := by decide +kernel
theorem dL_looks_150 : decode cL_looks 150 = .ok (.invokevirtual 173, 3) := by decide +kernel
theorem dL_looks_153 : decode cL_looks 153 = .ok (.iadd, 1) := by decide +kernel
theorem dL_looks_154 : decode cL_looks 154 = .ok (.imul, 1) := by decide +kernel
theorem dL_looks_155 : decode cL_looks 155 = .ok (.aload_n 0, 1) := by decide +kernel
theorem dL_looks_156 : decode cL_looks 156 = .ok (.iload_n 2, 1) := by decide +kernel
theorem dL_looks_157 : decode cL_looks 157 = .ok (.invokevirtual 176, 3) := by decide +kernel
theorem dL_looks_160 : decode cL_looks 160 = .ok (.iadd, 1) := by decide +kernel
theorem dL_looks_161 : decode cL_looks 161 = .ok (.imul, 1) := by decide +kernel
theorem dL_looks_162 : decode cL_looks 162 = .ok (.aload_n 0, 1) := by decide +kernel
theorem dL_looks_163 : decode cL_looks 163 = .ok (.iload_n 2, 1) := by decide +kernel
theorem dL_looks_164 : decode cL_looks 164 = .ok (.invokevirtual 179, 3) := by decide +kernel
theorem dL_looks_167 : decode cL_looks 167 = .ok (.iadd, 1) := by decide +kernel
theorem dL_looks_168 : decode cL_looks 168 = .ok (.imul, 1) := by decide +kernel
theorem dL_looks_169 : decode cL_looks 169 = .ok (.aload_n 0, 1) := by decide +kernel
theorem dL_looks_170 : decode cL_looks 170 = .ok (.iload_n 2, 1) := by decide +kernel
theorem dL_looks_171 : decode cL_looks 171 = .ok (.invokevirtual 182, 3) := by decide +kernel
theorem dL_looks_174 : decode cL_looks 174 = .ok (.invokestatic 166, 3) := by decide +kernel
theorem dL_looks_177 : decode cL_looks 177 = .ok (.iadd, 1) := by decide +kernel
theorem dL_looks_178 : decode cL_looks 178 = .ok (.istore_n 1, 1) := by decide +kernel
theorem dL_looks_179 : decode cL_looks 179 = .ok (.iinc 2 1, 3) := by decide +kernel
theorem dL_looks_182 : decode cL_looks 182 = .ok (.goto (-61), 3) := by decide +kernel
theorem dL_looks_185 : decode cL_looks 185 = .ok (.iconst 0, 1) := by decide +kernel
theorem dL_looks_186 : decode cL_looks 186 = .ok (.istore_n 2, 1) := by decide +kernel
theorem dL_looks_187 : decode cL_looks 187 = .ok (.iload_n 2, 1) := by decide +kernel
theorem dL_looks_188 : decode cL_looks 188 = .ok (.aload_n 0, 1) := by decide +kernel
theorem dL_looks_189 : decode cL_looks 189 = .ok (.invokevirtual 135, 3) := by decide +kernel
theorem dL_looks_192 : decode cL_looks 192 = .ok (.if_icmp .ge 58, 3) := by decide +kernel
theorem dL_looks_195 : decode cL_looks 195 = .ok (.aload_n 0, 1) := by decide +kernel
theorem dL_looks_196 : decode cL_looks 196 = .ok (.iload_n 2, 1) := by decide +kernel
theorem dL_looks_197 : decode cL_looks 197 = .ok (.invokevirtual 89, 3) := by decide +kernel
theorem dL_looks_200 : decode cL_looks 200 = .ok (.istore_n 3, 1) := by decide +kernel
theorem dL_looks_201 : decode cL_looks 201 = .ok (.bipush 31, 2) := by decide +kernel
theorem dL_looks_203 : decode cL_looks 203 = .ok (.bipush 31, 2) := by decide +kernel
theorem dL_looks_205 : decode cL_looks 205 = .ok (.bipush 31, 2) := by decide +kernel
theorem dL_looks_207 : decode cL_looks 207 = .ok (.bipush 31, 2) := by decide +kernel
theorem dL_looks_209 : decode cL_looks 209 = .ok (.bipush 31, 2) := by decide +kernel
theorem dL_looks_211 : decode cL_looks 211 = .ok (.iload_n 1, 1) := by decide +kernel
theorem dL_looks_212 : decode cL_looks 212 = .ok (.imul, 1) := by decide +kernel
theorem dL_looks_213 : decode cL_looks 213 = .ok (.iload_n 3, 1) := by decide +kernel
theorem dL_looks_214 : decode cL_looks 214 = .ok (.iadd, 1) := by decide +kernel
theorem dL_looks_215 : decode cL_looks 215 = .ok (.imul, 1) := by decide +kernel
theorem dL_looks_216 : decode cL_looks 216 = .ok (.aload_n 0, 1) := by decide +kernel
theorem dL_looks_217 : decode cL_looks 217 = .ok (.iload_n 3, 1) := by decide +kernel
theorem dL_looks_218 : decode cL_looks 218 = .ok (.invokevirtual 185, 3) := by decide +kernel
theorem dL_looks_221 : decode cL_looks 221 = .ok (.iadd, 1) := by decide +kernel
theorem dL_looks_222 : decode cL_looks 222 = .ok (.imul, 1) := by decide +kernel
theorem dL_looks_223 : decode cL_looks 223 = .ok (.aload_n 0, 1) := by decide +kernel
theorem dL_looks_224 : decode cL_looks 224 = .ok (.iload_n 3, 1) := by decide +kernel
theorem dL_looks_225 : decode cL_looks 225 = .ok (.invokevirtual 188, 3) := by decide +kernel
theorem dL_looks_228 : decode cL_looks 228 = .ok (.iadd, 1) := by decide +kernel
theorem dL_looks_229 : decode cL_looks 229 = .ok (.imul, 1) := by decide +kernel
theorem dL_looks_230 : decode cL_looks 230 = .ok (.aload_n 0, 1) := by decide +kernel
theorem dL_looks_231 : decode cL_looks 231 = .ok (.iload_n 3, 1) := by decide +kernel
theorem dL_looks_232 : decode cL_looks 232 = .ok (.invokevirtual 92, 3) := by decide +kernel
theorem dL_looks_235 : decode cL_looks 235 = .ok (.iadd, 1) := by decide +kernel
theorem dL_looks_236 : decode cL_looks 236 = .ok (.imul, 1) := by decide +kernel
theorem dL_looks_237 : decode cL_looks 237 = .ok (.aload_n 0, 1) := by decide +kernel
theorem dL_looks_238 : decode cL_looks 238 = .ok (.iload_n 3, 1) := by decide +kernel
theorem dL_looks_239 : decode cL_looks 239 = .ok (.invokevirtual 191, 3) := by decide +kernel
theorem dL_looks_242 : decode cL_looks 242 = .ok (.iadd, 1) := by decide +kernel
theorem dL_looks_243 : decode cL_looks 243 = .ok (.istore_n 1, 1) := by decide +kernel
theorem dL_looks_244 : decode cL_looks 244 = .ok (.iinc 2 1, 3) := by decide +kernel
theorem dL_looks_247 : decode cL_looks 247 = .ok (.goto (-60), 3) := by decide +kernel
theorem dL_looks_250 : decode cL_looks 250 = .ok (.bipush 31, 2) := by decide +kernel
theorem dL_looks_252 : decode cL_looks 252 = .ok (.iload_n 1, 1) := by decide +kernel
theorem dL_looks_253 : decode cL_looks 253 = .ok (.imul, 1) := by decide +kernel
theorem dL_looks_254 : decode cL_looks 254 = .ok (.aload_n 0, 1) := by decide +kernel
theorem dL_looks_255 : decode cL_looks 255 = .ok (.invokevirtual 124, 3) := by decide +kernel
theorem dL_looks_258 : decode cL_looks 258 = .ok (.iadd, 1) := by decide +kernel
theorem dL_looks_259 : decode cL_looks 259 = .ok (.ireturn, 1) := by decide +kernel
theorem dL_areRoomsRight_0 : decode cL_areRoomsRight 0 = .ok (.iconst 0, 1) := by decide +kernel
theorem dL_areRoomsRight_1 : decode cL_areRoomsRight 1 = .ok (.istore_n 1, 1) := by decide +kernel
theorem dL_areRoomsRight_2 : decode cL_areRoomsRight 2 = .ok (.aload_n 0, 1) := by decide +kernel
theorem dL_areRoomsRight_3 : decode cL_areRoomsRight 3 = .ok (.iconst 0, 1) := by decide +kernel
theorem dL_areRoomsRight_4 : decode cL_areRoomsRight 4 = .ok (.bipush 6, 2) := by decide +kernel
theorem dL_areRoomsRight_6 : decode cL_areRoomsRight 6 = .ok (.iconst 0, 1) := by decide +kernel
theorem dL_areRoomsRight_7 : decode cL_areRoomsRight 7 = .ok (.invokestatic 194, 3) := by decide +kernel
theorem dL_areRoomsRight_10 : decode cL_areRoomsRight 10 = .ok (.sipush (-20002), 3) := by decide +kernel
theorem dL_areRoomsRight_13 : decode cL_areRoomsRight 13 = .ok (.if_icmp .ne 47, 3) := by decide +kernel
theorem dL_areRoomsRight_16 : decode cL_areRoomsRight 16 = .ok (.aload_n 0, 1) := by decide +kernel
theorem dL_areRoomsRight_17 : decode cL_areRoomsRight 17 = .ok (.iconst 0, 1) := by decide +kernel
theorem dL_areRoomsRight_18 : decode cL_areRoomsRight 18 = .ok (.iconst (-1), 1) := by decide +kernel
theorem dL_areRoomsRight_19 : decode cL_areRoomsRight 19 = .ok (.iconst 0, 1) := by decide +kernel
theorem dL_areRoomsRight_20 : decode cL_areRoomsRight 20 = .ok (.invokestatic 194, 3) := by decide +kernel
theorem dL_areRoomsRight_23 : decode cL_areRoomsRight 23 = .ok (.sipush (-20002), 3) := by decide +kernel
theorem dL_areRoomsRight_26 : decode cL_areRoomsRight 26 = .ok (.if_icmp .ne 34, 3) := by decide +kernel
theorem dL_areRoomsRight_29 : decode cL_areRoomsRight 29 = .ok (.aload_n 0, 1) := by decide +kernel
theorem dL_areRoomsRight_30 : decode cL_areRoomsRight 30 = .ok (.iconst 1, 1) := by decide +kernel
theorem dL_areRoomsRight_31 : decode cL_areRoomsRight 31 = .ok (.bipush 6, 2) := by decide +kernel
theorem dL_areRoomsRight_33 : decode cL_areRoomsRight 33 = .ok (.iconst 0, 1) := by decide +kernel
theorem dL_areRoomsRight_34 : decode cL_areRoomsRight 34 = .ok (.invokestatic 194, 3) := by decide +kernel
theorem dL_areRoomsRight_37 : decode cL_areRoomsRight 37 = .ok (.sipush (-20004), 3) := by decide +kernel
theorem dL_areRoomsRight_40 : decode cL_areRoomsRight 40 = .ok (.if_icmp .ne 20, 3) := by decide +kernel
theorem dL_areRoomsRight_43 : decode cL_areRoomsRight 43 = .ok (.aload_n 0, 1) := by decide +kernel
theorem dL_areRoomsRight_44 : decode cL_areRoomsRight 44 = .ok (.iconst 1, 1) := by decide +kernel
theorem dL_areRoomsRight_45 : decode cL_areRoomsRight 45 = .ok (.iconst (-1), 1) := by decide +kernel
theorem dL_areRoomsRight_46 : decode cL_areRoomsRight 46 = .ok (.iconst 0, 1) := by decide +kernel
theorem dL_areRoomsRight_47 : decode cL_areRoomsRight 47 = .ok (.invokestatic 194, 3) := by decide +kernel
theorem dL_areRoomsRight_50 : decode cL_areRoomsRight 50 = .ok (.sipush (-20004), 3) := by decide +kernel
theorem dL_areRoomsRight_53 : decode cL_areRoomsRight 53 = .ok (.if_icmp .ne 7, 3) := by decide +kernel
theorem dL_areRoomsRight_56 : decode cL_areRoomsRight 56 = .ok (.iconst 1, 1) := by decide +kernel
theorem dL_areRoomsRight_57 : decode cL_areRoomsRight 57 = .ok (.goto 4, 3) := by decide +kernel
theorem dL_areRoomsRight_60 : decode cL_areRoomsRight 60 = .ok (.iconst 0, 1) := by decide +kernel
theorem dL_areRoomsRight_61 : decode cL_areRoomsRight 61 = .ok (.istore_n 2, 1) := by decide +kernel
theorem dL_areRoomsRight_62 : decode cL_areRoomsRight 62 = .ok (.iconst 0, 1) := by decide +kernel
theorem dL_areRoomsRight_63 : decode cL_areRoomsRight 63 = .ok (.istore_n 3, 1) := by decide +kernel
theorem dL_areRoomsRight_64 : decode cL_areRoomsRight 64 = .ok (.iload_n 3, 1) := by decide +kernel
theorem dL_areRoomsRight_65 : decode cL_areRoomsRight 65 = .ok (.bipush 6, 2) := by decide +kernel
theorem dL_areRoomsRight_67 : decode cL_areRoomsRight 67 = .ok (.if_icmp .ge 45, 3) := by decide +kernel
theorem dL_areRoomsRight_70 : decode cL_areRoomsRight 70 = .ok (.iload_n 1, 1) := by decide +kernel
theorem dL_areRoomsRight_71 : decode cL_areRoomsRight 71 = .ok (.aload_n 0, 1) := by decide +kernel
theorem dL_areRoomsRight_72 : decode cL_areRoomsRight 72 = .ok (.iload_n 3, 1) := by decide +kernel
theorem dL_areRoomsRight_73 : decode cL_areRoomsRight 73 = .ok (.invokevirtual 74, 3) := by decide +kernel
theorem dL_areRoomsRight_76 : decode cL_areRoomsRight 76 = .ok (.iadd, 1) := by decide +kernel
theorem dL_areRoomsRight_77 : decode cL_areRoomsRight 77 = .ok (.istore_n 1, 1) := by decide +kernel
theorem dL_areRoomsRight_78 : decode cL_areRoomsRight 78 = .ok (.iload_n 2, 1) := by decide +kernel
theorem dL_areRoomsRight_79 : decode cL_areRoomsRight 79 = .ok (.ifCond .eq 25, 3) := by decide +kernel
theorem dL_areRoomsRight_82 : decode cL_areRoomsRight 82 = .ok (.aload_n 0, 1) := by decide +kernel
theorem dL_areRoomsRight_83 : decode cL_areRoomsRight 83 = .ok (.iload_n 3, 1) := by decide +kernel
theorem dL_areRoomsRight_84 : decode cL_areRoomsRight 84 = .ok (.invokevirtual 74, 3) := by decide +kernel
theorem dL_areRoomsRight_87 : decode cL_areRoomsRight 87 = .ok (.ifCond .lt 17, 3) := by decide +kernel
theorem dL_areRoomsRight_90 : decode cL_areRoomsRight 90 = .ok (.aload_n 0, 1) := by decide +kernel
theorem dL_areRoomsRight_91 : decode cL_areRoomsRight 91 = .ok (.iload_n 3, 1) := by decide +kernel
theorem dL_areRoomsRight_92 : decode cL_areRoomsRight 92 = .ok (.invokevirtual 74, 3) := by decide +kernel
theorem dL_areRoomsRight_95 : decode cL_areRoomsRight 95 = .ok (.bipush 100, 2) := by decide +kernel
theorem dL_areRoomsRight_97 : decode cL_areRoomsRight 97 = .ok (.if_icmp .ge 7, 3) := by decide +kernel
theorem dL_areRoomsRight_100 : decode cL_areRoomsRight 100 = .ok (.iconst 1, 1) := by decide +kernel
theorem dL_areRoomsRight_101 : decode cL_areRoomsRight 101 = .ok (.goto 4, 3) := by decide +kernel
theorem dL_areRoomsRight_104 : decode cL_areRoomsRight 104 = .ok (.iconst 0, 1) := by decide +kernel
theorem dL_areRoomsRight_105 : decode cL_areRoomsRight 105 = .ok (.istore_n 2, 1) := by decide +kernel
theorem dL_areRoomsRight_106 : decode cL_areRoomsRight 106 = .ok (.iinc 3 1, 3) := by decide +kernel
theorem dL_areRoomsRight_109 : decode cL_areRoomsRight 109 = .ok (.goto (-45), 3) := by decide +kernel
theorem dL_areRoomsRight_112 : decode cL_areRoomsRight 112 = .ok (.iconst 0, 1) := by decide +kernel
theorem dL_areRoomsRight_113 : decode cL_areRoomsRight 113 = .ok (.istore_n 3, 1) := by decide +kernel
theorem dL_areRoomsRight_114 : decode cL_areRoomsRight 114 = .ok (.iload_n 3, 1) := by decide +kernel
theorem dL_areRoomsRight_115 : decode cL_areRoomsRight 115 = .ok (.iconst 5, 1) := by decide +kernel
theorem dL_areRoomsRight_116 : decode cL_areRoomsRight 116 = .ok (.if_icmp .ge 67, 3) := by decide +kernel
theorem dL_areRoomsRight_119 : decode cL_areRoomsRight 119 = .ok (.aload_n 0, 1) := by decide +kernel
theorem dL_areRoomsRight_120 : decode cL_areRoomsRight 120 = .ok (.aload_n 0, 1) := by decide +kernel
theorem dL_areRoomsRight_121 : decode cL_areRoomsRight 121 = .ok (.iload_n 3, 1) := by decide +kernel
theorem dL_areRoomsRight_122 : decode cL_areRoomsRight 122 = .ok (.invokevirtual 77, 3) := by decide +kernel
theorem dL_areRoomsRight_125 : decode cL_areRoomsRight 125 = .ok (.invokevirtual 74, 3) := by decide +kernel
theorem dL_areRoomsRight_128 : decode cL_areRoomsRight 128 = .ok (.aload_n 0, 1) := by decide +kernel
theorem dL_areRoomsRight_129 : decode cL_areRoomsRight 129 = .ok (.aload_n 0, 1) := by decide +kernel
theorem dL_areRoomsRight_130 : decode cL_areRoomsRight 130 = .ok (.iload_n 3, 1) := by decide +kernel
theorem dL_areRoomsRight_131 : decode cL_areRoomsRight 131 = .ok (.iconst 1, 1) := by decide +kernel
theorem dL_areRoomsRight_132 : decode cL_areRoomsRight 132 = .ok (.iadd, 1) := by decide +kernel
theorem dL_areRoomsRight_133 : decode cL_areRoomsRight 133 = .ok (.invokevirtual 77, 3) := by decide +kernel
theorem dL_areRoomsRight_136 : decode cL_areRoomsRight 136 = .ok (.invokevirtual 74, 3) := by decide +kernel
theorem dL_areRoomsRight_139 : decode cL_areRoomsRight 139 = .ok (.isub, 1) := by decide +kernel
theorem dL_areRoomsRight_140 : decode cL_areRoomsRight 140 = .ok (.istore 4, 2) := by decide +kernel
theorem dL_areRoomsRight_142 : decode cL_areRoomsRight 142 = .ok (.iload_n 2, 1) := by decide +kernel
theorem dL_areRoomsRight_143 : decode cL_areRoomsRight 143 = .ok (.ifCond .eq 32, 3) := by decide +kernel
theorem dL_areRoomsRight_146 : decode cL_areRoomsRight 146 = .ok (.iload 4, 2) := by decide +kernel
theorem dL_areRoomsRight_148 : decode cL_areRoomsRight 148 = .ok (.ifCond .gt 23, 3) := by decide +kernel
theorem dL_areRoomsRight_151 : decode cL_areRoomsRight 151 = .ok (.iload 4, 2) := by decide +kernel
theorem dL_areRoomsRight_153 : decode cL_areRoomsRight 153 = .ok (.ifCond .ne 22, 3) := by decide +kernel
theorem dL_areRoomsRight_156 : decode cL_areRoomsRight 156 = .ok (.aload_n 0, 1) := by decide +kernel
theorem dL_areRoomsRight_157 : decode cL_areRoomsRight 157 = .ok (.iload_n 3, 1) := by decide +kernel
theorem dL_areRoomsRight_158 : decode cL_areRoomsRight 158 = .ok (.invokevirtual 77, 3) := by decide +kernel
theorem dL_areRoomsRight_161 : decode cL_areRoomsRight 161 = .ok (.aload_n 0, 1) := by decide +kernel
theorem dL_areRoomsRight_162 : decode cL_areRoomsRight 162 = .ok (.iload_n 3, 1) := by decide +kernel
theorem dL_areRoomsRight_163 : decode cL_areRoomsRight 163 = .ok (.iconst 1, 1) := by decide +kernel
theorem dL_areRoomsRight_164 : decode cL_areRoomsRight 164 = .ok (.iadd, 1) := by decide +kernel
theorem dL_areRoomsRight_165 : decode cL_areRoomsRight 165 = .ok (.invokevirtual 77, 3) := by decide +kernel
theorem dL_areRoomsRight_168 : decode cL_areRoomsRight 168 = .ok (.if_icmp .ge 7, 3) := by decide +kernel
theorem dL_areRoomsRight_171 : decode cL_areRoomsRight 171 = .ok (.iconst 1, 1) := by decide +kernel
theorem dL_areRoomsRight_172 : decode cL_areRoomsRight 172 = .ok (.goto 4, 3) := by decide +kernel
theorem dL_areRoomsRight_175 : decode cL_areRoomsRight 175 = .ok (.iconst 0, 1) := by decide +kernel
theorem dL_areRoomsRight_176 : decode cL_areRoomsRight 176 = .ok (.istore_n 2, 1) := by decide +kernel
theorem dL_areRoomsRight_177 : decode cL_areRoomsRight 177 = .ok (.iinc 3 1, 3) := by decide +kernel
theorem dL_areRoomsRight_180 : decode cL_areRoomsRight 180 = .ok (.goto (-66), 3) := by decide +kernel
theorem dL_areRoomsRight_183 : decode cL_areRoomsRight 183 = .ok (.iload_n 2, 1) := by decide +kernel
theorem dL_areRoomsRight_184 : decode cL_areRoomsRight 184 = .ok (.ifCond .eq 21, 3) := by decide +kernel
theorem dL_areRoomsRight_187 : decode cL_areRoomsRight 187 = .ok (.aload_n 0, 1) := by decide +kernel
theorem dL_areRoomsRight_188 : decode cL_areRoomsRight 188 = .ok (.invokevirtual 197, 3) := by decide +kernel
theorem dL_areRoomsRight_191 : decode cL_areRoomsRight 191 = .ok (.iload_n 1, 1) := by decide +kernel
theorem dL_areRoomsRight_192 : decode cL_areRoomsRight 192 = .ok (.i2d, 1) := by decide +kernel
theorem dL_areRoomsRight_193 : decode cL_areRoomsRight 193 = .ok (.ldc2_w 201, 3) := by decide +kernel
theorem dL_areRoomsRight_196 : decode cL_areRoomsRight 196 = .ok (.ddiv, 1) := by decide +kernel
theorem dL_areRoomsRight_197 : decode cL_areRoomsRight 197 = .ok (.dcmp .l, 1) := by decide +kernel
theorem dL_areRoomsRight_198 : decode cL_areRoomsRight 198 = .ok (.ifCond .ne 7, 3) := by decide +kernel
theorem dL_areRoomsRight_201 : decode cL_areRoomsRight 201 = .ok (.iconst 1, 1) := by decide +kernel
theorem dL_areRoomsRight_202 : decode cL_areRoomsRight 202 = .ok (.goto 4, 3) := by decide +kernel
theorem dL_areRoomsRight_205 : decode cL_areRoomsRight 205 = .ok (.iconst 0, 1) := by decide +kernel
theorem dL_areRoomsRight_206 : decode cL_areRoomsRight 206 = .ok (.ireturn, 1) := by decide +kernel
theorem dL_energy_0 : decode cL_energy 0 = .ok (.iconst 1, 1) := by decide +kernel
theorem dL_energy_1 : decode cL_energy 1 = .ok (.istore_n 2, 1) := by decide +kernel
theorem dL_energy_2 : decode cL_energy 2 = .ok (.iconst 0, 1) := by decide +kernel
theorem dL_energy_3 : decode cL_energy 3 = .ok (.istore_n 3, 1) := by decide +kernel
theorem dL_energy_4 : decode cL_energy 4 = .ok (.iload_n 3, 1) := by decide +kernel
theorem dL_energy_5 : decode cL_energy 5 = .ok (.aload_n 0, 1) := by decide +kernel
theorem dL_energy_6 : decode cL_energy 6 = .ok (.invokevirtual 132, 3) := by decide +kernel
theorem dL_energy_9 : decode cL_energy 9 = .ok (.if_icmp .ge 28, 3) := by decide +kernel
theorem dL_energy_12 : decode cL_energy 12 = .ok (.iload_n 2, 1) := by decide +kernel
theorem dL_energy_13 : decode cL_energy 13 = .ok (.aload_n 0, 1) := by decide +kernel
theorem dL_energy_14 : decode cL_energy 14 = .ok (.iload_n 3, 1) := by decide +kernel
theorem dL_energy_15 : decode cL_energy 15 = .ok (.invokevirtual 162, 3) := by decide +kernel
theorem dL_energy_18 : decode cL_energy 18 = .ok (.ifCond .ne 7, 3) := by decide +kernel
theorem dL_energy_21 : decode cL_energy 21 = .ok (.iconst 1, 1) := by decide +kernel
theorem dL_energy_22 : decode cL_energy 22 = .ok (.goto 4, 3) := by decide +kernel
theorem dL_energy_25 : decode cL_energy 25 = .ok (.iconst 0, 1) := by decide +kernel
theorem dL_energy_26 : decode cL_energy 26 = .ok (.invokestatic 166, 3) := by decide +kernel
theorem dL_energy_29 : decode cL_energy 29 = .ok (.iadd, 1) := by decide +kernel
theorem dL_energy_30 : decode cL_energy 30 = .ok (.istore_n 2, 1) := by decide +kernel
theorem dL_energy_31 : decode cL_energy 31 = .ok (.iinc 3 1, 3) := by decide +kernel
theorem dL_energy_34 : decode cL_energy 34 = .ok (.goto (-30), 3) := by decide +kernel
theorem dL_energy_37 : decode cL_energy 37 = .ok (.aload_n 0, 1) := by decide +kernel
theorem dL_energy_38 : decode cL_energy 38 = .ok (.iload_n 1, 1) := by decide +kernel
theorem dL_energy_39 : decode cL_energy 39 = .ok (.invokevirtual 170, 3) := by decide +kernel
theorem dL_energy_42 : decode cL_energy 42 = .ok (.iload_n 2, 1) := by decide +kernel
theorem dL_energy_43 : decode cL_energy 43 = .ok (.imul, 1) := by decide +kernel
theorem dL_energy_44 : decode cL_energy 44 = .ok (.ireturn, 1) := by decide +kernel
theorem dL_best_0 : decode cL_best 0 = .ok (.iload_n 2, 1) := by decide +kernel
theorem dL_best_1 : decode cL_best 1 = .ok (.aload_n 0, 1) := by decide +kernel
theorem dL_best_2 : decode cL_best 2 = .ok (.invokevirtual 135, 3) := by decide +kernel
theorem dL_best_5 : decode cL_best 5 = .ok (.if_icmp .ne 5, 3) := by decide +kernel
theorem dL_best_8 : decode cL_best 8 = .ok (.iconst 0, 1) := by decide +kernel
theorem dL_best_9 : decode cL_best 9 = .ok (.ireturn, 1) := by decide +kernel
theorem dL_best_10 : decode cL_best 10 = .ok (.aload_n 0, 1) := by decide +kernel
theorem dL_best_11 : decode cL_best 11 = .ok (.iload_n 2, 1) := by decide +kernel
theorem dL_best_12 : decode cL_best 12 = .ok (.invokevirtual 89, 3) := by decide +kernel
theorem dL_best_15 : decode cL_best 15 = .ok (.istore 4, 2) := by decide +kernel
theorem dL_best_17 : decode cL_best 17 = .ok (.aload_n 0, 1) := by decide +kernel
theorem dL_best_18 : decode cL_best 18 = .ok (.iload_n 1, 1) := by decide +kernel
theorem dL_best_19 : decode cL_best 19 = .ok (.iload_n 2, 1) := by decide +kernel
theorem dL_best_20 : decode cL_best 20 = .ok (.iconst 1, 1) := by decide +kernel
theorem dL_best_21 : decode cL_best 21 = .ok (.iadd, 1) := by decide +kernel
theorem dL_best_22 : decode cL_best 22 = .ok (.iload_n 3, 1) := by decide +kernel
theorem dL_best_23 : decode cL_best 23 = .ok (.invokestatic 203, 3) := by decide +kernel
theorem dL_best_26 : decode cL_best 26 = .ok (.istore 5, 2) := by decide +kernel
theorem dL_best_28 : decode cL_best 28 = .ok (.aload_n 0, 1) := by decide +kernel
theorem dL_best_29 : decode cL_best 29 = .ok (.iload 4, 2) := by decide +kernel
theorem dL_best_31 : decode cL_best 31 = .ok (.invokevirtual 185, 3) := by decide +kernel
theorem dL_best_34 : decode cL_best 34 = .ok (.iload_n 1, 1) := by decide +kernel
theorem dL_best_35 : decode cL_best 35 = .ok (.if_icmp .ne 17, 3) := by decide +kernel
theorem dL_best_38 : decode cL_best 38 = .ok (.aload_n 0, 1) := by decide +kernel
theorem dL_best_39 : decode cL_best 39 = .ok (.iload 4, 2) := by decide +kernel
theorem dL_best_41 : decode cL_best 41 = .ok (.invokevirtual 191, 3) := by decide +kernel
theorem dL_best_44 : decode cL_best 44 = .ok (.iload_n 3, 1) := by decide +kernel
theorem dL_best_45 : decode cL_best 45 = .ok (.if_icmp .gt 7, 3) := by decide +kernel
theorem dL_best_48 : decode cL_best 48 = .ok (.iconst 1, 1) := by decide +kernel
theorem dL_best_49 : decode cL_best 49 = .ok (.goto 4, 3) := by decide +kernel
theorem dL_best_52 : decode cL_best 52 = .ok (.iconst 0, 1) := by decide +kernel
theorem dL_best_53 : decode cL_best 53 = .ok (.istore 6, 2) := by decide +kernel
theorem dL_best_55 : decode cL_best 55 = .ok (.iload 6, 2) := by decide +kernel
theorem dL_best_57 : decode cL_best 57 = .ok (.ifCond .eq 34, 3) := by decide +kernel
theorem dL_best_60 : decode cL_best 60 = .ok (.iload 5, 2) := by decide +kernel
theorem dL_best_62 : decode cL_best 62 = .ok (.aload_n 0, 1) := by decide +kernel
theorem dL_best_63 : decode cL_best 63 = .ok (.iload 4, 2) := by decide +kernel
theorem dL_best_65 : decode cL_best 65 = .ok (.invokevirtual 92, 3) := by decide +kernel
theorem dL_best_68 : decode cL_best 68 = .ok (.aload_n 0, 1) := by decide +kernel
theorem dL_best_69 : decode cL_best 69 = .ok (.iload_n 1, 1) := by decide +kernel
theorem dL_best_70 : decode cL_best 70 = .ok (.iload_n 2, 1) := by decide +kernel
theorem dL_best_71 : decode cL_best 71 = .ok (.iconst 1, 1) := by decide +kernel
theorem dL_best_72 : decode cL_best 72 = .ok (.iadd, 1) := by decide +kernel
theorem dL_best_73 : decode cL_best 73 = .ok (.iload_n 3, 1) := by decide +kernel
theorem dL_best_74 : decode cL_best 74 = .ok (.aload_n 0, 1) := by decide +kernel
theorem dL_best_75 : decode cL_best 75 = .ok (.iload 4, 2) := by decide +kernel
theorem dL_best_77 : decode cL_best 77 = .ok (.invokevirtual 191, 3) := by decide +kernel
theorem dL_best_80 : decode cL_best 80 = .ok (.isub, 1) := by decide +kernel
theorem dL_best_81 : decode cL_best 81 = .ok (.invokestatic 203, 3) := by decide +kernel
theorem dL_best_84 : decode cL_best 84 = .ok (.iadd, 1) := by decide +kernel
theorem dL_best_85 : decode cL_best 85 = .ok (.invokestatic 127, 3) := by decide +kernel
theorem dL_best_88 : decode cL_best 88 = .ok (.goto 5, 3) := by decide +kernel
theorem dL_best_91 : decode cL_best 91 = .ok (.iload 5, 2) := by decide +kernel
theorem dL_best_93 : decode cL_best 93 = .ok (.ireturn, 1) := by decide +kernel
theorem dL_areGoblinsRight_0 : decode cL_areGoblinsRight 0 = .ok (.aload_n 0, 1) := by decide +kernel
theorem dL_areGoblinsRight_1 : decode cL_areGoblinsRight 1 = .ok (.invokevirtual 124, 3) := by decide +kernel
theorem dL_areGoblinsRight_4 : decode cL_areGoblinsRight 4 = .ok (.istore_n 1, 1) := by decide +kernel
theorem dL_areGoblinsRight_5 : decode cL_areGoblinsRight 5 = .ok (.aload_n 0, 1) := by decide +kernel
theorem dL_areGoblinsRight_6 : decode cL_areGoblinsRight 6 = .ok (.invokevirtual 141, 3) := by decide +kernel
theorem dL_areGoblinsRight_9 : decode cL_areGoblinsRight 9 = .ok (.istore_n 2, 1) := by decide +kernel
theorem dL_areGoblinsRight_10 : decode cL_areGoblinsRight 10 = .ok (.aload_n 0, 1) := by decide +kernel
theorem dL_areGoblinsRight_11 : decode cL_areGoblinsRight 11 = .ok (.iconst 2, 1) := by decide +kernel
theorem dL_areGoblinsRight_12 : decode cL_areGoblinsRight 12 = .ok (.iload_n 1, 1) := by decide +kernel
theorem dL_areGoblinsRight_13 : decode cL_areGoblinsRight 13 = .ok (.iconst 0, 1) := by decide +kernel
theorem dL_areGoblinsRight_14 : decode cL_areGoblinsRight 14 = .ok (.invokestatic 194, 3) := by decide +kernel
theorem dL_areGoblinsRight_17 : decode cL_areGoblinsRight 17 = .ok (.sipush (-20002), 3) := by decide +kernel
theorem dL_areGoblinsRight_20 : decode cL_areGoblinsRight 20 = .ok (.if_icmp .ne 46, 3) := by decide +kernel
theorem dL_areGoblinsRight_23 : decode cL_areGoblinsRight 23 = .ok (.aload_n 0, 1) := by decide +kernel
theorem dL_areGoblinsRight_24 : decode cL_areGoblinsRight 24 = .ok (.iconst 3, 1) := by decide +kernel
theorem dL_areGoblinsRight_25 : decode cL_areGoblinsRight 25 = .ok (.iload_n 1, 1) := by decide +kernel
theorem dL_areGoblinsRight_26 : decode cL_areGoblinsRight 26 = .ok (.iconst 0, 1) := by decide +kernel
theorem dL_areGoblinsRight_27 : decode cL_areGoblinsRight 27 = .ok (.invokestatic 194, 3) := by decide +kernel
theorem dL_areGoblinsRight_30 : decode cL_areGoblinsRight 30 = .ok (.sipush (-20004), 3) := by decide +kernel
theorem dL_areGoblinsRight_33 : decode cL_areGoblinsRight 33 = .ok (.if_icmp .ne 33, 3) := by decide +kernel
theorem dL_areGoblinsRight_36 : decode cL_areGoblinsRight 36 = .ok (.aload_n 0, 1) := by decide +kernel
theorem dL_areGoblinsRight_37 : decode cL_areGoblinsRight 37 = .ok (.iconst 3, 1) := by decide +kernel
theorem dL_areGoblinsRight_38 : decode cL_areGoblinsRight 38 = .ok (.iconst (-1), 1) := by decide +kernel
theorem dL_areGoblinsRight_39 : decode cL_areGoblinsRight 39 = .ok (.iconst 0, 1) := by decide +kernel
theorem dL_areGoblinsRight_40 : decode cL_areGoblinsRight 40 = .ok (.invokestatic 194, 3) := by decide +kernel
theorem dL_areGoblinsRight_43 : decode cL_areGoblinsRight 43 = .ok (.sipush (-20004), 3) := by decide +kernel
theorem dL_areGoblinsRight_46 : decode cL_areGoblinsRight 46 = .ok (.if_icmp .ne 20, 3) := by decide +kernel
theorem dL_areGoblinsRight_49 : decode cL_areGoblinsRight 49 = .ok (.aload_n 0, 1) := by decide +kernel
theorem dL_areGoblinsRight_50 : decode cL_areGoblinsRight 50 = .ok (.iconst 4, 1) := by decide +kernel
theorem dL_areGoblinsRight_51 : decode cL_areGoblinsRight 51 = .ok (.iload_n 1, 1) := by decide +kernel
theorem dL_areGoblinsRight_52 : decode cL_areGoblinsRight 52 = .ok (.iconst 0, 1) := by decide +kernel
theorem dL_areGoblinsRight_53 : decode cL_areGoblinsRight 53 = .ok (.invokestatic 194, 3) := by decide +kernel
theorem dL_areGoblinsRight_56 : decode cL_areGoblinsRight 56 = .ok (.sipush (-20002), 3) := by decide +kernel
theorem dL_areGoblinsRight_59 : decode cL_areGoblinsRight 59 = .ok (.if_icmp .ne 7, 3) := by decide +kernel
theorem dL_areGoblinsRight_62 : decode cL_areGoblinsRight 62 = .ok (.iconst 1, 1) := by decide +kernel
theorem dL_areGoblinsRight_63 : decode cL_areGoblinsRight 63 = .ok (.goto 4, 3) := by decide +kernel
theorem dL_areGoblinsRight_66 : decode cL_areGoblinsRight 66 = .ok (.iconst 0, 1) := by decide +kernel
theorem dL_areGoblinsRight_67 : decode cL_areGoblinsRight 67 = .ok (.istore_n 3, 1) := by decide +kernel
theorem dL_areGoblinsRight_68 : decode cL_areGoblinsRight 68 = .ok (.iconst 0, 1) := by decide +kernel
theorem dL_areGoblinsRight_69 : decode cL_areGoblinsRight 69 = .ok (.istore 4, 2) := by decide +kernel
theorem dL_areGoblinsRight_71 : decode cL_areGoblinsRight 71 = .ok (.iload 4, 2) := by decide +kernel
theorem dL_areGoblinsRight_73 : decode cL_areGoblinsRight 73 = .ok (.iload_n 1, 1) := by decide +kernel
theorem dL_areGoblinsRight_74 : decode cL_areGoblinsRight 74 = .ok (.if_icmp .ge 230, 3) := by decide +kernel
theorem dL_areGoblinsRight_77 : decode cL_areGoblinsRight 77 = .ok (.aload_n 0, 1) := by decide +kernel
theorem dL_areGoblinsRight_78 : decode cL_areGoblinsRight 78 = .ok (.iload 4, 2) := by decide +kernel
theorem dL_areGoblinsRight_80 : decode cL_areGoblinsRight 80 = .ok (.iconst 0, 1) := by decide +kernel
theorem dL_areGoblinsRight_81 : decode cL_areGoblinsRight 81 = .ok (.aload_n 0, 1) := by decide +kernel
theorem dL_areGoblinsRight_82 : decode cL_areGoblinsRight 82 = .ok (.iload 4, 2) := by decide +kernel
theorem dL_areGoblinsRight_84 : decode cL_areGoblinsRight 84 = .ok (.invokestatic 206, 3) := by decide +kernel
theorem dL_areGoblinsRight_87 : decode cL_areGoblinsRight 87 = .ok (.invokestatic 203, 3) := by decide +kernel
theorem dL_areGoblinsRight_90 : decode cL_areGoblinsRight 90 = .ok (.istore 5, 2) := by decide +kernel
theorem dL_areGoblinsRight_92 : decode cL_areGoblinsRight 92 = .ok (.new 209, 3) := by decide +kernel
theorem dL_areGoblinsRight_95 : decode cL_areGoblinsRight 95 = .ok (.dup, 1) := by decide +kernel
theorem dL_areGoblinsRight_96 : decode cL_areGoblinsRight 96 = .ok (.invokespecial 211, 3) := by decide +kernel
theorem dL_areGoblinsRight_99 : decode cL_areGoblinsRight 99 = .ok (.iload 4, 2) := by decide +kernel
theorem dL_areGoblinsRight_101 : decode cL_areGoblinsRight 101 = .ok (.invokevirtual 212, 3) := by decide +kernel
theorem dL_areGoblinsRight_104 : decode cL_areGoblinsRight 104 = .ok (.ldc 216, 2) := by decide +kernel
theorem dL_areGoblinsRight_106 : decode cL_areGoblinsRight 106 = .ok (.invokevirtual 218, 3) := by decide +kernel
theorem dL_areGoblinsRight_109 : decode cL_areGoblinsRight 109 = .ok (.aload_n 0, 1) := by decide +kernel
theorem dL_areGoblinsRight_110 : decode cL_areGoblinsRight 110 = .ok (.iload 4, 2) := by decide +kernel
theorem dL_areGoblinsRight_112 : decode cL_areGoblinsRight 112 = .ok (.invokevirtual 170, 3) := by decide +kernel
theorem dL_areGoblinsRight_115 : decode cL_areGoblinsRight 115 = .ok (.invokevirtual 212, 3) := by decide +kernel
theorem dL_areGoblinsRight_118 : decode cL_areGoblinsRight 118 = .ok (.ldc 221, 2) := by decide +kernel
theorem dL_areGoblinsRight_120 : decode cL_areGoblinsRight 120 = .ok (.invokevirtual 218, 3) := by decide +kernel
theorem dL_areGoblinsRight_123 : decode cL_areGoblinsRight 123 = .ok (.aload_n 0, 1) := by decide +kernel
theorem dL_areGoblinsRight_124 : decode cL_areGoblinsRight 124 = .ok (.iload 4, 2) := by decide +kernel
theorem dL_areGoblinsRight_126 : decode cL_areGoblinsRight 126 = .ok (.invokevirtual 173, 3) := by decide +kernel
theorem dL_areGoblinsRight_129 : decode cL_areGoblinsRight 129 = .ok (.invokevirtual 212, 3) := by decide +kernel
theorem dL_areGoblinsRight_132 : decode cL_areGoblinsRight 132 = .ok (.aload_n 0, 1) := by decide +kernel
theorem dL_areGoblinsRight_133 : decode cL_areGoblinsRight 133 = .ok (.iload 4, 2) := by decide +kernel
theorem dL_areGoblinsRight_135 : decode cL_areGoblinsRight 135 = .ok (.invokevirtual 176, 3) := by decide +kernel
theorem dL_areGoblinsRight_138 : decode cL_areGoblinsRight 138 = .ok (.ifCond .ne 8, 3) := by decide +kernel
theorem dL_areGoblinsRight_141 : decode cL_areGoblinsRight 141 = .ok (.ldc 223, 2) := by decide +kernel
theorem dL_areGoblinsRight_143 : decode cL_areGoblinsRight 143 = .ok (.goto 27, 3) := by decide +kernel
theorem dL_areGoblinsRight_146 : decode cL_areGoblinsRight 146 = .ok (.new 209, 3) := by decide +kernel
theorem dL_areGoblinsRight_149 : decode cL_areGoblinsRight 149 = .ok (.dup, 1) := by decide +kernel
theorem dL_areGoblinsRight_150 : decode cL_areGoblinsRight 150 = .ok (.invokespecial 211, 3) := by decide +kernel
theorem dL_areGoblinsRight_153 : decode cL_areGoblinsRight 153 = .ok (.ldc 225, 2) := by decide +kernel
theorem dL_areGoblinsRight_155 : decode cL_areGoblinsRight 155 = .ok (.invokevirtual 218, 3) := by decide +kernel
theorem dL_areGoblinsRight_158 : decode cL_areGoblinsRight 158 = .ok (.aload_n 0, 1) := by decide +kernel
theorem dL_areGoblinsRight_159 : decode cL_areGoblinsRight 159 = .ok (.iload 4, 2) := by decide +kernel
theorem dL_areGoblinsRight_161 : decode cL_areGoblinsRight 161 = .ok (.invokevirtual 176, 3) := by decide +kernel
theorem dL_areGoblinsRight_164 : decode cL_areGoblinsRight 164 = .ok (.invokevirtual 212, 3) := by decide +kernel
theorem dL_areGoblinsRight_167 : decode cL_areGoblinsRight 167 = .ok (.invokevirtual 227, 3) := by decide +kernel
theorem dL_areGoblinsRight_170 : decode cL_areGoblinsRight 170 = .ok (.invokevirtual 218, 3) := by decide +kernel
theorem dL_areGoblinsRight_173 : decode cL_areGoblinsRight 173 = .ok (.aload_n 0, 1) := by decide +kernel
theorem dL_areGoblinsRight_174 : decode cL_areGoblinsRight 174 = .ok (.iload 4, 2) := by decide +kernel
theorem dL_areGoblinsRight_176 : decode cL_areGoblinsRight 176 = .ok (.invokevirtual 182, 3) := by decide +kernel
theorem dL_areGoblinsRight_179 : decode cL_areGoblinsRight 179 = .ok (.ifCond .eq 8, 3) := by decide +kernel
theorem dL_areGoblinsRight_182 : decode cL_areGoblinsRight 182 = .ok (.ldc 231, 2) := by decide +kernel
theorem dL_areGoblinsRight_184 : decode cL_areGoblinsRight 184 = .ok (.goto 5, 3) := by decide +kernel
theorem dL_areGoblinsRight_187 : decode cL_areGoblinsRight 187 = .ok (.ldc 223, 2) := by decide +kernel
theorem dL_areGoblinsRight_189 : decode cL_areGoblinsRight 189 = .ok (.invokevirtual 218, 3) := by decide +kernel
theorem dL_areGoblinsRight_192 : decode cL_areGoblinsRight 192 = .ok (.invokevirtual 227, 3) := by decide +kernel
theorem dL_areGoblinsRight_195 : decode cL_areGoblinsRight 195 = .ok (.astore 6, 2) := by decide +kernel
theorem dL_areGoblinsRight_197 : decode cL_areGoblinsRight 197 = .ok (.iload_n 2, 1) := by decide +kernel
theorem dL_areGoblinsRight_198 : decode cL_areGoblinsRight 198 = .ok (.aload_n 0, 1) := by decide +kernel
theorem dL_areGoblinsRight_199 : decode cL_areGoblinsRight 199 = .ok (.iload 4, 2) := by decide +kernel
theorem dL_areGoblinsRight_201 : decode cL_areGoblinsRight 201 = .ok (.invokevirtual 173, 3) := by decide +kernel
theorem dL_areGoblinsRight_204 : decode cL_areGoblinsRight 204 = .ok (.iadd, 1) := by decide +kernel
theorem dL_areGoblinsRight_205 : decode cL_areGoblinsRight 205 = .ok (.istore_n 2, 1) := by decide +kernel
theorem dL_areGoblinsRight_206 : decode cL_areGoblinsRight 206 = .ok (.iload_n 3, 1) := by decide +kernel
theorem dL_areGoblinsRight_207 : decode cL_areGoblinsRight 207 = .ok (.ifCond .eq 89, 3) := by decide +kernel
theorem dL_areGoblinsRight_210 : decode cL_areGoblinsRight 210 = .ok (.aload_n 0, 1) := by decide +kernel
theorem dL_areGoblinsRight_211 : decode cL_areGoblinsRight 211 = .ok (.iload 4, 2) := by decide +kernel
theorem dL_areGoblinsRight_213 : decode cL_areGoblinsRight 213 = .ok (.invokevirtual 80, 3) := by decide +kernel
theorem dL_areGoblinsRight_216 : decode cL_areGoblinsRight 216 = .ok (.aload_n 0, 1) := by decide +kernel
theorem dL_areGoblinsRight_217 : decode cL_areGoblinsRight 217 = .ok (.iload 4, 2) := by decide +kernel
theorem dL_areGoblinsRight_219 : decode cL_areGoblinsRight 219 = .ok (.invokestatic 206, 3) := by decide +kernel
theorem dL_areGoblinsRight_222 : decode cL_areGoblinsRight 222 = .ok (.if_icmp .ne 74, 3) := by decide +kernel
theorem dL_areGoblinsRight_225 : decode cL_areGoblinsRight 225 = .ok (.aload_n 0, 1) := by decide +kernel
theorem dL_areGoblinsRight_226 : decode cL_areGoblinsRight 226 = .ok (.iload 4, 2) := by decide +kernel
theorem dL_areGoblinsRight_228 : decode cL_areGoblinsRight 228 = .ok (.invokevirtual 86, 3) := by decide +kernel
theorem dL_areGoblinsRight_231 : decode cL_areGoblinsRight 231 = .ok (.iload 5, 2) := by decide +kernel
theorem dL_areGoblinsRight_233 : decode cL_areGoblinsRight 233 = .ok (.if_icmp .ne 63, 3) := by decide +kernel
theorem dL_areGoblinsRight_236 : decode cL_areGoblinsRight 236 = .ok (.aload_n 0, 1) := by decide +kernel
theorem dL_areGoblinsRight_237 : decode cL_areGoblinsRight 237 = .ok (.iload 4, 2) := by decide +kernel
theorem dL_areGoblinsRight_239 : decode cL_areGoblinsRight 239 = .ok (.invokevirtual 233, 3) := by decide +kernel
theorem dL_areGoblinsRight_242 : decode cL_areGoblinsRight 242 = .ok (.iload 5, 2) := by decide +kernel
theorem dL_areGoblinsRight_244 : decode cL_areGoblinsRight 244 = .ok (.if_icmp .ne 52, 3) := by decide +kernel
theorem dL_areGoblinsRight_247 : decode cL_areGoblinsRight 247 = .ok (.aload_n 0, 1) := by decide +kernel
theorem dL_areGoblinsRight_248 : decode cL_areGoblinsRight 248 = .ok (.iload 4, 2) := by decide +kernel
theorem dL_areGoblinsRight_250 : decode cL_areGoblinsRight 250 = .ok (.invokevirtual 173, 3) := by decide +kernel
theorem dL_areGoblinsRight_253 : decode cL_areGoblinsRight 253 = .ok (.ifCond .lt 43, 3) := by decide +kernel
theorem dL_areGoblinsRight_256 : decode cL_areGoblinsRight 256 = .ok (.aload_n 0, 1) := by decide +kernel
theorem dL_areGoblinsRight_257 : decode cL_areGoblinsRight 257 = .ok (.iload 4, 2) := by decide +kernel
theorem dL_areGoblinsRight_259 : decode cL_areGoblinsRight 259 = .ok (.invokevirtual 176, 3) := by decide +kernel
theorem dL_areGoblinsRight_262 : decode cL_areGoblinsRight 262 = .ok (.ifCond .lt 34, 3) := by decide +kernel
theorem dL_areGoblinsRight_265 : decode cL_areGoblinsRight 265 = .ok (.aload_n 0, 1) := by decide +kernel
theorem dL_areGoblinsRight_266 : decode cL_areGoblinsRight 266 = .ok (.iload 4, 2) := by decide +kernel
theorem dL_areGoblinsRight_268 : decode cL_areGoblinsRight 268 = .ok (.invokevirtual 176, 3) := by decide +kernel
theorem dL_areGoblinsRight_271 : decode cL_areGoblinsRight 271 = .ok (.sipush 1000, 3) := by decide +kernel
theorem dL_areGoblinsRight_274 : decode cL_areGoblinsRight 274 = .ok (.if_icmp .ge 22, 3) := by decide +kernel
theorem dL_areGoblinsRight_277 : decode cL_areGoblinsRight 277 = .ok (.aload_n 0, 1) := by decide +kernel
theorem dL_areGoblinsRight_278 : decode cL_areGoblinsRight 278 = .ok (.aload_n 0, 1) := by decide +kernel
theorem dL_areGoblinsRight_279 : decode cL_areGoblinsRight 279 = .ok (.iload 4, 2) := by decide +kernel
theorem dL_areGoblinsRight_281 : decode cL_areGoblinsRight 281 = .ok (.invokevirtual 236, 3) := by decide +kernel
theorem dL_areGoblinsRight_284 : decode cL_areGoblinsRight 284 = .ok (.aload 6, 2) := by decide +kernel
theorem dL_areGoblinsRight_286 : decode cL_areGoblinsRight 286 = .ok (.invokestatic 239, 3) := by decide +kernel
theorem dL_areGoblinsRight_289 : decode cL_areGoblinsRight 289 = .ok (.ifCond .eq 7, 3) := by decide +kernel
theorem dL_areGoblinsRight_292 : decode cL_areGoblinsRight 292 = .ok (.iconst 1, 1) := by decide +kernel
theorem dL_areGoblinsRight_293 : decode cL_areGoblinsRight 293 = .ok (.goto 4, 3) := by decide +kernel
theorem dL_areGoblinsRight_296 : decode cL_areGoblinsRight 296 = .ok (.iconst 0, 1) := by decide +kernel
theorem dL_areGoblinsRight_297 : decode cL_areGoblinsRight 297 = .ok (.istore_n 3, 1) := by decide +kernel
theorem dL_areGoblinsRight_298 : decode cL_areGoblinsRight 298 = .ok (.iinc 4 1, 3) := by decide +kernel
theorem dL_areGoblinsRight_301 : decode cL_areGoblinsRight 301 = .ok (.goto (-230), 3) := by decide +kernel
theorem dL_areGoblinsRight_304 : decode cL_areGoblinsRight 304 = .ok (.iconst 0, 1) := by decide +kernel
theorem dL_areGoblinsRight_305 : decode cL_areGoblinsRight 305 = .ok (.istore 4, 2) := by decide +kernel
theorem dL_areGoblinsRight_307 : decode cL_areGoblinsRight 307 = .ok (.iload 4, 2) := by decide +kernel
theorem dL_areGoblinsRight_309 : decode cL_areGoblinsRight 309 = .ok (.iconst 1, 1) := by decide +kernel
theorem dL_areGoblinsRight_310 : decode cL_areGoblinsRight 310 = .ok (.iadd, 1) := by decide +kernel
theorem dL_areGoblinsRight_311 : decode cL_areGoblinsRight 311 = .ok (.iload_n 1, 1) := by decide +kernel
theorem dL_areGoblinsRight_312 : decode cL_areGoblinsRight 312 = .ok (.if_icmp .ge 108, 3) := by decide +kernel
theorem dL_areGoblinsRight_315 : decode cL_areGoblinsRight 315 = .ok (.aload_n 0, 1) := by decide +kernel
theorem dL_areGoblinsRight_316 : decode cL_areGoblinsRight 316 = .ok (.iload 4, 2) := by decide +kernel
theorem dL_areGoblinsRight_318 : decode cL_areGoblinsRight 318 = .ok (.invokevirtual 83, 3) := by decide +kernel
theorem dL_areGoblinsRight_321 : decode cL_areGoblinsRight 321 = .ok (.istore 5, 2) := by decide +kernel
theorem dL_areGoblinsRight_323 : decode cL_areGoblinsRight 323 = .ok (.aload_n 0, 1) := by decide +kernel
theorem dL_areGoblinsRight_324 : decode cL_areGoblinsRight 324 = .ok (.iload 4, 2) := by decide +kernel
theorem dL_areGoblinsRight_326 : decode cL_areGoblinsRight 326 = .ok (.iconst 1, 1) := by decide +kernel
theorem dL_areGoblinsRight_327 : decode cL_areGoblinsRight 327 = .ok (.iadd, 1) := by decide +kernel
theorem dL_areGoblinsRight_328 : decode cL_areGoblinsRight 328 = .ok (.invokevirtual 83, 3) := by decide +kernel
theorem dL_areGoblinsRight_331 : decode cL_areGoblinsRight 331 = .ok (.istore 6, 2) := by decide +kernel
theorem dL_areGoblinsRight_333 : decode cL_areGoblinsRight 333 = .ok (.aload_n 0, 1) := by decide +kernel
theorem dL_areGoblinsRight_334 : decode cL_areGoblinsRight 334 = .ok (.iload 5, 2) := by decide +kernel
theorem dL_areGoblinsRight_336 : decode cL_areGoblinsRight 336 = .ok (.invokevirtual 173, 3) := by decide +kernel
theorem dL_areGoblinsRight_339 : decode cL_areGoblinsRight 339 = .ok (.aload_n 0, 1) := by decide +kernel
theorem dL_areGoblinsRight_340 : decode cL_areGoblinsRight 340 = .ok (.iload 5, 2) := by decide +kernel
theorem dL_areGoblinsRight_342 : decode cL_areGoblinsRight 342 = .ok (.invokevirtual 176, 3) := by decide +kernel
theorem dL_areGoblinsRight_345 : decode cL_areGoblinsRight 345 = .ok (.isub, 1) := by decide +kernel
theorem dL_areGoblinsRight_346 : decode cL_areGoblinsRight 346 = .ok (.aload_n 0, 1) := by decide +kernel
theorem dL_areGoblinsRight_347 : decode cL_areGoblinsRight 347 = .ok (.iload 6, 2) := by decide +kernel
theorem dL_areGoblinsRight_349 : decode cL_areGoblinsRight 349 = .ok (.invokevirtual 173, 3) := by decide +kernel
theorem dL_areGoblinsRight_352 : decode cL_areGoblinsRight 352 = .ok (.isub, 1) := by decide +kernel
theorem dL_areGoblinsRight_353 : decode cL_areGoblinsRight 353 = .ok (.aload_n 0, 1) := by decide +kernel
theorem dL_areGoblinsRight_354 : decode cL_areGoblinsRight 354 = .ok (.iload 6, 2) := by decide +kernel
theorem dL_areGoblinsRight_356 : decode cL_areGoblinsRight 356 = .ok (.invokevirtual 176, 3) := by decide +kernel
theorem dL_areGoblinsRight_359 : decode cL_areGoblinsRight 359 = .ok (.iadd, 1) := by decide +kernel
theorem dL_areGoblinsRight_360 : decode cL_areGoblinsRight 360 = .ok (.istore 7, 2) := by decide +kernel
theorem dL_areGoblinsRight_362 : decode cL_areGoblinsRight 362 = .ok (.aload_n 0, 1) := by decide +kernel
theorem dL_areGoblinsRight_363 : decode cL_areGoblinsRight 363 = .ok (.iload 5, 2) := by decide +kernel
theorem dL_areGoblinsRight_365 : decode cL_areGoblinsRight 365 = .ok (.invokevirtual 170, 3) := by decide +kernel
theorem dL_areGoblinsRight_368 : decode cL_areGoblinsRight 368 = .ok (.aload_n 0, 1) := by decide +kernel
theorem dL_areGoblinsRight_369 : decode cL_areGoblinsRight 369 = .ok (.iload 6, 2) := by decide +kernel
theorem dL_areGoblinsRight_371 : decode cL_areGoblinsRight 371 = .ok (.invokevirtual 170, 3) := by decide +kernel
theorem dL_areGoblinsRight_374 : decode cL_areGoblinsRight 374 = .ok (.isub, 1) := by decide +kernel
theorem dL_areGoblinsRight_375 : decode cL_areGoblinsRight 375 = .ok (.istore 8, 2) := by decide +kernel
theorem dL_areGoblinsRight_377 : decode cL_areGoblinsRight 377 = .ok (.iload_n 3, 1) := by decide +kernel
theorem dL_areGoblinsRight_378 : decode cL_areGoblinsRight 378 = .ok (.ifCond .eq 34, 3) := by decide +kernel
theorem dL_areGoblinsRight_381 : decode cL_areGoblinsRight 381 = .ok (.iload 7, 2) := by decide +kernel
theorem dL_areGoblinsRight_383 : decode cL_areGoblinsRight 383 = .ok (.ifCond .gt 25, 3) := by decide +kernel
theorem dL_areGoblinsRight_386 : decode cL_areGoblinsRight 386 = .ok (.iload 7, 2) := by decide +kernel
theorem dL_areGoblinsRight_388 : decode cL_areGoblinsRight 388 = .ok (.ifCond .ne 24, 3) := by decide +kernel
theorem dL_areGoblinsRight_391 : decode cL_areGoblinsRight 391 = .ok (.iload 8, 2) := by decide +kernel
theorem dL_areGoblinsRight_393 : decode cL_areGoblinsRight 393 = .ok (.ifCond .gt 15, 3) := by decide +kernel
theorem dL_areGoblinsRight_396 : decode cL_areGoblinsRight 396 = .ok (.iload 8, 2) := by decide +kernel
theorem dL_areGoblinsRight_398 : decode cL_areGoblinsRight 398 = .ok (.ifCond .ne 14, 3) := by decide +kernel
theorem dL_areGoblinsRight_401 : decode cL_areGoblinsRight 401 = .ok (.iload 5, 2) := by decide +kernel
theorem dL_areGoblinsRight_403 : decode cL_areGoblinsRight 403 = .ok (.iload 6, 2) := by decide +kernel
theorem dL_areGoblinsRight_405 : decode cL_areGoblinsRight 405 = .ok (.if_icmp .ge 7, 3) := by decide +kernel
theorem dL_areGoblinsRight_408 : decode cL_areGoblinsRight 408 = .ok (.iconst 1, 1) := by decide +kernel
theorem dL_areGoblinsRight_409 : decode cL_areGoblinsRight 409 = .ok (.goto 4, 3) := by decide +kernel
theorem dL_areGoblinsRight_412 : decode cL_areGoblinsRight 412 = .ok (.iconst 0, 1) := by decide +kernel
theorem dL_areGoblinsRight_413 : decode cL_areGoblinsRight 413 = .ok (.istore_n 3, 1) := by decide +kernel
theorem dL_areGoblinsRight_414 : decode cL_areGoblinsRight 414 = .ok (.iinc 4 1, 3) := by decide +kernel
theorem dL_areGoblinsRight_417 : decode cL_areGoblinsRight 417 = .ok (.goto (-110), 3) := by decide +kernel
theorem dL_areGoblinsRight_420 : decode cL_areGoblinsRight 420 = .ok (.aload_n 0, 1) := by decide +kernel
theorem dL_areGoblinsRight_421 : decode cL_areGoblinsRight 421 = .ok (.invokevirtual 144, 3) := by decide +kernel
theorem dL_areGoblinsRight_424 : decode cL_areGoblinsRight 424 = .ok (.aload_n 0, 1) := by decide +kernel
theorem dL_areGoblinsRight_425 : decode cL_areGoblinsRight 425 = .ok (.invokevirtual 147, 3) := by decide +kernel
theorem dL_areGoblinsRight_428 : decode cL_areGoblinsRight 428 = .ok (.iadd, 1) := by decide +kernel
theorem dL_areGoblinsRight_429 : decode cL_areGoblinsRight 429 = .ok (.istore 4, 2) := by decide +kernel
theorem dL_areGoblinsRight_431 : decode cL_areGoblinsRight 431 = .ok (.iload_n 3, 1) := by decide +kernel
theorem dL_areGoblinsRight_432 : decode cL_areGoblinsRight 432 = .ok (.ifCond .eq 29, 3) := by decide +kernel
theorem dL_areGoblinsRight_435 : decode cL_areGoblinsRight 435 = .ok (.iload 4, 2) := by decide +kernel
theorem dL_areGoblinsRight_437 : decode cL_areGoblinsRight 437 = .ok (.ifCond .eq 20, 3) := by decide +kernel
theorem dL_areGoblinsRight_440 : decode cL_areGoblinsRight 440 = .ok (.aload_n 0, 1) := by decide +kernel
theorem dL_areGoblinsRight_441 : decode cL_areGoblinsRight 441 = .ok (.invokevirtual 243, 3) := by decide +kernel
theorem dL_areGoblinsRight_444 : decode cL_areGoblinsRight 444 = .ok (.aload_n 0, 1) := by decide +kernel
theorem dL_areGoblinsRight_445 : decode cL_areGoblinsRight 445 = .ok (.invokevirtual 144, 3) := by decide +kernel
theorem dL_areGoblinsRight_448 : decode cL_areGoblinsRight 448 = .ok (.i2f, 1) := by decide +kernel
theorem dL_areGoblinsRight_449 : decode cL_areGoblinsRight 449 = .ok (.iload 4, 2) := by decide +kernel
theorem dL_areGoblinsRight_451 : decode cL_areGoblinsRight 451 = .ok (.i2f, 1) := by decide +kernel
theorem dL_areGoblinsRight_452 : decode cL_areGoblinsRight 452 = .ok (.fdiv, 1) := by decide +kernel
theorem dL_areGoblinsRight_453 : decode cL_areGoblinsRight 453 = .ok (.fcmp .l, 1) := by decide +kernel
theorem dL_areGoblinsRight_454 : decode cL_areGoblinsRight 454 = .ok (.ifCond .ne 7, 3) := by decide +kernel
theorem dL_areGoblinsRight_457 : decode cL_areGoblinsRight 457 = .ok (.iconst 1, 1) := by decide +kernel
theorem dL_areGoblinsRight_458 : decode cL_areGoblinsRight 458 = .ok (.goto 4, 3) := by decide +kernel
theorem dL_areGoblinsRight_461 : decode cL_areGoblinsRight 461 = .ok (.iconst 0, 1) := by decide +kernel
theorem dL_areGoblinsRight_462 : decode cL_areGoblinsRight 462 = .ok (.istore_n 3, 1) := by decide +kernel
theorem dL_areGoblinsRight_463 : decode cL_areGoblinsRight 463 = .ok (.iload_n 3, 1) := by decide +kernel
theorem dL_areGoblinsRight_464 : decode cL_areGoblinsRight 464 = .ok (.ifCond .eq 37, 3) := by decide +kernel
theorem dL_areGoblinsRight_467 : decode cL_areGoblinsRight 467 = .ok (.aload_n 0, 1) := by decide +kernel
theorem dL_areGoblinsRight_468 : decode cL_areGoblinsRight 468 = .ok (.invokevirtual 247, 3) := by decide +kernel
theorem dL_areGoblinsRight_471 : decode cL_areGoblinsRight 471 = .ok (.iload_n 2, 1) := by decide +kernel
theorem dL_areGoblinsRight_472 : decode cL_areGoblinsRight 472 = .ok (.if_icmp .ne 29, 3) := by decide +kernel
theorem dL_areGoblinsRight_475 : decode cL_areGoblinsRight 475 = .ok (.aload_n 0, 1) := by decide +kernel
theorem dL_areGoblinsRight_476 : decode cL_areGoblinsRight 476 = .ok (.invokevirtual 156, 3) := by decide +kernel
theorem dL_areGoblinsRight_479 : decode cL_areGoblinsRight 479 = .ok (.iload_n 2, 1) := by decide +kernel
theorem dL_areGoblinsRight_480 : decode cL_areGoblinsRight 480 = .ok (.if_icmp .ne 21, 3) := by decide +kernel
theorem dL_areGoblinsRight_483 : decode cL_areGoblinsRight 483 = .ok (.aload_n 0, 1) := by decide +kernel
theorem dL_areGoblinsRight_484 : decode cL_areGoblinsRight 484 = .ok (.invokevirtual 141, 3) := by decide +kernel
theorem dL_areGoblinsRight_487 : decode cL_areGoblinsRight 487 = .ok (.ifCond .lt 14, 3) := by decide +kernel
theorem dL_areGoblinsRight_490 : decode cL_areGoblinsRight 490 = .ok (.aload_n 0, 1) := by decide +kernel
theorem dL_areGoblinsRight_491 : decode cL_areGoblinsRight 491 = .ok (.invokevirtual 250, 3) := by decide +kernel
theorem dL_areGoblinsRight_494 : decode cL_areGoblinsRight 494 = .ok (.ifCond .eq 7, 3) := by decide +kernel
theorem dL_areGoblinsRight_497 : decode cL_areGoblinsRight 497 = .ok (.iconst 1, 1) := by decide +kernel
theorem dL_areGoblinsRight_498 : decode cL_areGoblinsRight 498 = .ok (.goto 4, 3) := by decide +kernel
theorem dL_areGoblinsRight_501 : decode cL_areGoblinsRight 501 = .ok (.iconst 0, 1) := by decide +kernel
theorem dL_areGoblinsRight_502 : decode cL_areGoblinsRight 502 = .ok (.ireturn, 1) := by decide +kernel
theorem dL_isLine_0 : decode cL_isLine 0 = .ok (.iload_n 1, 1) := by decide +kernel
theorem dL_isLine_1 : decode cL_isLine 1 = .ok (.aload_n 2, 1) := by decide +kernel
theorem dL_isLine_2 : decode cL_isLine 2 = .ok (.invokevirtual 254, 3) := by decide +kernel
theorem dL_isLine_5 : decode cL_isLine 5 = .ok (.if_icmp .ne 7, 3) := by decide +kernel
theorem dL_isLine_8 : decode cL_isLine 8 = .ok (.iconst 1, 1) := by decide +kernel
theorem dL_isLine_9 : decode cL_isLine 9 = .ok (.goto 4, 3) := by decide +kernel
theorem dL_isLine_12 : decode cL_isLine 12 = .ok (.iconst 0, 1) := by decide +kernel
theorem dL_isLine_13 : decode cL_isLine 13 = .ok (.istore_n 3, 1) := by decide +kernel
theorem dL_isLine_14 : decode cL_isLine 14 = .ok (.iconst 0, 1) := by decide +kernel
theorem dL_isLine_15 : decode cL_isLine 15 = .ok (.istore 4, 2) := by decide +kernel
theorem dL_isLine_17 : decode cL_isLine 17 = .ok (.iload 4, 2) := by decide +kernel
theorem dL_isLine_19 : decode cL_isLine 19 = .ok (.aload_n 2, 1) := by decide +kernel
theorem dL_isLine_20 : decode cL_isLine 20 = .ok (.invokevirtual 254, 3) := by decide +kernel
theorem dL_isLine_23 : decode cL_isLine 23 = .ok (.if_icmp .ge 34, 3) := by decide +kernel
theorem dL_isLine_26 : decode cL_isLine 26 = .ok (.iload_n 3, 1) := by decide +kernel
theorem dL_isLine_27 : decode cL_isLine 27 = .ok (.ifCond .eq 30, 3) := by decide +kernel
theorem dL_isLine_30 : decode cL_isLine 30 = .ok (.aload_n 0, 1) := by decide +kernel
theorem dL_isLine_31 : decode cL_isLine 31 = .ok (.iload 4, 2) := by decide +kernel
theorem dL_isLine_33 : decode cL_isLine 33 = .ok (.invokevirtual 259, 3) := by decide +kernel
theorem dL_isLine_36 : decode cL_isLine 36 = .ok (.aload_n 2, 1) := by decide +kernel
theorem dL_isLine_37 : decode cL_isLine 37 = .ok (.iload 4, 2) := by decide +kernel
theorem dL_isLine_39 : decode cL_isLine 39 = .ok (.invokevirtual 263, 3) := by decide +kernel
theorem dL_isLine_42 : decode cL_isLine 42 = .ok (.if_icmp .ne 7, 3) := by decide +kernel
theorem dL_isLine_45 : decode cL_isLine 45 = .ok (.iconst 1, 1) := by decide +kernel
theorem dL_isLine_46 : decode cL_isLine 46 = .ok (.goto 4, 3) := by decide +kernel
theorem dL_isLine_49 : decode cL_isLine 49 = .ok (.iconst 0, 1) := by decide +kernel
theorem dL_isLine_50 : decode cL_isLine 50 = .ok (.istore_n 3, 1) := by decide +kernel
theorem dL_isLine_51 : decode cL_isLine 51 = .ok (.iinc 4 1, 3) := by decide +kernel
theorem dL_isLine_54 : decode cL_isLine 54 = .ok (.goto (-37), 3) := by decide +kernel
theorem dL_isLine_57 : decode cL_isLine 57 = .ok (.iload_n 3, 1) := by decide +kernel
theorem dL_isLine_58 : decode cL_isLine 58 = .ok (.ireturn, 1) := by decide +kernel
theorem dL_areContractsRight_0 : decode cL_areContractsRight 0 = .ok (.aload_n 0, 1) := by decide +kernel
theorem dL_areContractsRight_1 : decode cL_areContractsRight 1 = .ok (.invokevirtual 135, 3) := by decide +kernel
theorem dL_areContractsRight_4 : decode cL_areContractsRight 4 = .ok (.istore_n 1, 1) := by decide +kernel
theorem dL_areContractsRight_5 : decode cL_areContractsRight 5 = .ok (.ldc 223, 2) := by decide +kernel
theorem dL_areContractsRight_7 : decode cL_areContractsRight 7 = .ok (.astore_n 2, 1) := by decide +kernel
theorem dL_areContractsRight_8 : decode cL_areContractsRight 8 = .ok (.iload_n 1, 1) := by decide +kernel
theorem dL_areContractsRight_9 : decode cL_areContractsRight 9 = .ok (.bipush 8, 2) := by decide +kernel
theorem dL_areContractsRight_11 : decode cL_areContractsRight 11 = .ok (.if_icmp .gt 61, 3) := by decide +kernel
theorem dL_areContractsRight_14 : decode cL_areContractsRight 14 = .ok (.aload_n 0, 1) := by decide +kernel
theorem dL_areContractsRight_15 : decode cL_areContractsRight 15 = .ok (.iconst 5, 1) := by decide +kernel
theorem dL_areContractsRight_16 : decode cL_areContractsRight 16 = .ok (.iload_n 1, 1) := by decide +kernel
theorem dL_areContractsRight_17 : decode cL_areContractsRight 17 = .ok (.iconst 0, 1) := by decide +kernel
theorem dL_areContractsRight_18 : decode cL_areContractsRight 18 = .ok (.invokestatic 194, 3) := by decide +kernel
theorem dL_areContractsRight_21 : decode cL_areContractsRight 21 = .ok (.sipush (-20004), 3) := by decide +kernel
theorem dL_areContractsRight_24 : decode cL_areContractsRight 24 = .ok (.if_icmp .ne 48, 3) := by decide +kernel
theorem dL_areContractsRight_27 : decode cL_areContractsRight 27 = .ok (.aload_n 0, 1) := by decide +kernel
theorem dL_areContractsRight_28 : decode cL_areContractsRight 28 = .ok (.iconst 5, 1) := by decide +kernel
theorem dL_areContractsRight_29 : decode cL_areContractsRight 29 = .ok (.iconst (-1), 1) := by decide +kernel
theorem dL_areContractsRight_30 : decode cL_areContractsRight 30 = .ok (.iconst 0, 1) := by decide +kernel
theorem dL_areContractsRight_31 : decode cL_areContractsRight 31 = .ok (.invokestatic 194, 3) := by decide +kernel
theorem dL_areContractsRight_34 : decode cL_areContractsRight 34 = .ok (.sipush (-20004), 3) := by decide +kernel
theorem dL_areContractsRight_37 : decode cL_areContractsRight 37 = .ok (.if_icmp .ne 35, 3) := by decide +kernel
theorem dL_areContractsRight_40 : decode cL_areContractsRight 40 = .ok (.aload_n 0, 1) := by decide +kernel
theorem dL_areContractsRight_41 : decode cL_areContractsRight 41 = .ok (.bipush 6, 2) := by decide +kernel
theorem dL_areContractsRight_43 : decode cL_areContractsRight 43 = .ok (.iconst (-1), 1) := by decide +kernel
theorem dL_areContractsRight_44 : decode cL_areContractsRight 44 = .ok (.iconst 0, 1) := by decide +kernel
theorem dL_areContractsRight_45 : decode cL_areContractsRight 45 = .ok (.invokestatic 194, 3) := by decide +kernel
theorem dL_areContractsRight_48 : decode cL_areContractsRight 48 = .ok (.sipush (-20004), 3) := by decide +kernel
theorem dL_areContractsRight_51 : decode cL_areContractsRight 51 = .ok (.if_icmp .ne 21, 3) := by decide +kernel
theorem dL_areContractsRight_54 : decode cL_areContractsRight 54 = .ok (.aload_n 0, 1) := by decide +kernel
theorem dL_areContractsRight_55 : decode cL_areContractsRight 55 = .ok (.bipush 7, 2) := by decide +kernel
theorem dL_areContractsRight_57 : decode cL_areContractsRight 57 = .ok (.iconst (-1), 1) := by decide +kernel
theorem dL_areContractsRight_58 : decode cL_areContractsRight 58 = .ok (.iconst 0, 1) := by decide +kernel
theorem dL_areContractsRight_59 : decode cL_areContractsRight 59 = .ok (.invokestatic 194, 3) := by decide +kernel
theorem dL_areContractsRight_62 : decode cL_areContractsRight 62 = .ok (.sipush (-20004), 3) := by decide +kernel
theorem dL_areContractsRight_65 : decode cL_areContractsRight 65 = .ok (.if_icmp .ne 7, 3) := by decide +kernel
theorem dL_areContractsRight_68 : decode cL_areContractsRight 68 = .ok (.iconst 1, 1) := by decide +kernel
theorem dL_areContractsRight_69 : decode cL_areContractsRight 69 = .ok (.goto 4, 3) := by decide +kernel
theorem dL_areContractsRight_72 : decode cL_areContractsRight 72 = .ok (.iconst 0, 1) := by decide +kernel
theorem dL_areContractsRight_73 : decode cL_areContractsRight 73 = .ok (.istore_n 3, 1) := by decide +kernel
theorem dL_areContractsRight_74 : decode cL_areContractsRight 74 = .ok (.iconst 0, 1) := by decide +kernel
theorem dL_areContractsRight_75 : decode cL_areContractsRight 75 = .ok (.istore 4, 2) := by decide +kernel
theorem dL_areContractsRight_77 : decode cL_areContractsRight 77 = .ok (.iload 4, 2) := by decide +kernel
theorem dL_areContractsRight_79 : decode cL_areContractsRight 79 = .ok (.iload_n 1, 1) := by decide +kernel
theorem dL_areContractsRight_80 : decode cL_areContractsRight 80 = .ok (.if_icmp .ge 205, 3) := by decide +kernel
theorem dL_areContractsRight_83 : decode cL_areContractsRight 83 = .ok (.aload_n 0, 1) := by decide +kernel
theorem dL_areContractsRight_84 : decode cL_areContractsRight 84 = .ok (.iload 4, 2) := by decide +kernel
theorem dL_areContractsRight_86 : decode cL_areContractsRight 86 = .ok (.invokevirtual 89, 3) := by decide +kernel
theorem dL_areContractsRight_89 : decode cL_areContractsRight 89 = .ok (.istore 5, 2) := by decide +kernel
theorem dL_areContractsRight_91 : decode cL_areContractsRight 91 = .ok (.new 209, 3) := by decide +kernel
theorem dL_areContractsRight_94 : decode cL_areContractsRight 94 = .ok (.dup, 1) := by decide +kernel
theorem dL_areContractsRight_95 : decode cL_areContractsRight 95 = .ok (.invokespecial 211, 3) := by decide +kernel
theorem dL_areContractsRight_98 : decode cL_areContractsRight 98 = .ok (.aload_n 2, 1) := by decide +kernel
theorem dL_areContractsRight_99 : decode cL_areContractsRight 99 = .ok (.invokevirtual 218, 3) := by decide +kernel
theorem dL_areContractsRight_102 : decode cL_areContractsRight 102 = .ok (.iload 4, 2) := by decide +kernel
theorem dL_areContractsRight_104 : decode cL_areContractsRight 104 = .ok (.ifCond .ne 8, 3) := by decide +kernel
theorem dL_areContractsRight_107 : decode cL_areContractsRight 107 = .ok (.ldc 223, 2) := by decide +kernel
theorem dL_areContractsRight_109 : decode cL_areContractsRight 109 = .ok (.goto 6, 3) := by decide +kernel
theorem dL_areContractsRight_112 : decode cL_areContractsRight 112 = .ok (.ldc_w 266, 3) := by decide +kernel
theorem dL_areContractsRight_115 : decode cL_areContractsRight 115 = .ok (.invokevirtual 218, 3) := by decide +kernel
theorem dL_areContractsRight_118 : decode cL_areContractsRight 118 = .ok (.iload 5, 2) := by decide +kernel
theorem dL_areContractsRight_120 : decode cL_areContractsRight 120 = .ok (.invokevirtual 212, 3) := by decide +kernel
theorem dL_areContractsRight_123 : decode cL_areContractsRight 123 = .ok (.ldc_w 268, 3) := by decide +kernel
theorem dL_areContractsRight_126 : decode cL_areContractsRight 126 = .ok (.invokevirtual 218, 3) := by decide +kernel
theorem dL_areContractsRight_129 : decode cL_areContractsRight 129 = .ok (.aload_n 0, 1) := by decide +kernel
theorem dL_areContractsRight_130 : decode cL_areContractsRight 130 = .ok (.iload 5, 2) := by decide +kernel
theorem dL_areContractsRight_132 : decode cL_areContractsRight 132 = .ok (.invokevirtual 185, 3) := by decide +kernel
theorem dL_areContractsRight_135 : decode cL_areContractsRight 135 = .ok (.invokevirtual 212, 3) := by decide +kernel
theorem dL_areContractsRight_138 : decode cL_areContractsRight 138 = .ok (.ldc_w 270, 3) := by decide +kernel
theorem dL_areContractsRight_141 : decode cL_areContractsRight 141 = .ok (.invokevirtual 218, 3) := by decide +kernel
theorem dL_areContractsRight_144 : decode cL_areContractsRight 144 = .ok (.aload_n 0, 1) := by decide +kernel
theorem dL_areContractsRight_145 : decode cL_areContractsRight 145 = .ok (.iload 5, 2) := by decide +kernel
theorem dL_areContractsRight_147 : decode cL_areContractsRight 147 = .ok (.invokevirtual 188, 3) := by decide +kernel
theorem dL_areContractsRight_150 : decode cL_areContractsRight 150 = .ok (.invokevirtual 212, 3) := by decide +kernel
theorem dL_areContractsRight_153 : decode cL_areContractsRight 153 = .ok (.ldc_w 272, 3) := by decide +kernel
theorem dL_areContractsRight_156 : decode cL_areContractsRight 156 = .ok (.invokevirtual 218, 3) := by decide +kernel
theorem dL_areContractsRight_159 : decode cL_areContractsRight 159 = .ok (.aload_n 0, 1) := by decide +kernel
theorem dL_areContractsRight_160 : decode cL_areContractsRight 160 = .ok (.iload 5, 2) := by decide +kernel
theorem dL_areContractsRight_162 : decode cL_areContractsRight 162 = .ok (.invokevirtual 92, 3) := by decide +kernel
theorem dL_areContractsRight_165 : decode cL_areContractsRight 165 = .ok (.invokevirtual 212, 3) := by decide +kernel
theorem dL_areContractsRight_168 : decode cL_areContractsRight 168 = .ok (.ldc_w 274, 3) := by decide +kernel
theorem dL_areContractsRight_171 : decode cL_areContractsRight 171 = .ok (.invokevirtual 218, 3) := by decide +kernel
theorem dL_areContractsRight_174 : decode cL_areContractsRight 174 = .ok (.aload_n 0, 1) := by decide +kernel
theorem dL_areContractsRight_175 : decode cL_areContractsRight 175 = .ok (.iload 5, 2) := by decide +kernel
theorem dL_areContractsRight_177 : decode cL_areContractsRight 177 = .ok (.invokevirtual 191, 3) := by decide +kernel
theorem dL_areContractsRight_180 : decode cL_areContractsRight 180 = .ok (.invokevirtual 212, 3) := by decide +kernel
theorem dL_areContractsRight_183 : decode cL_areContractsRight 183 = .ok (.invokevirtual 227, 3) := by decide +kernel
theorem dL_areContractsRight_186 : decode cL_areContractsRight 186 = .ok (.astore_n 2, 1) := by decide +kernel
theorem dL_areContractsRight_187 : decode cL_areContractsRight 187 = .ok (.iload_n 3, 1) := by decide +kernel
theorem dL_areContractsRight_188 : decode cL_areContractsRight 188 = .ok (.ifCond .eq 25, 3) := by decide +kernel
theorem dL_areContractsRight_191 : decode cL_areContractsRight 191 = .ok (.iload 4, 2) := by decide +kernel
theorem dL_areContractsRight_193 : decode cL_areContractsRight 193 = .ok (.ifCond .eq 16, 3) := by decide +kernel
theorem dL_areContractsRight_196 : decode cL_areContractsRight 196 = .ok (.aload_n 0, 1) := by decide +kernel
theorem dL_areContractsRight_197 : decode cL_areContractsRight 197 = .ok (.iload 4, 2) := by decide +kernel
theorem dL_areContractsRight_199 : decode cL_areContractsRight 199 = .ok (.iconst 1, 1) := by decide +kernel
theorem dL_areContractsRight_200 : decode cL_areContractsRight 200 = .ok (.isub, 1) := by decide +kernel
theorem dL_areContractsRight_201 : decode cL_areContractsRight 201 = .ok (.invokevirtual 89, 3) := by decide +kernel
theorem dL_areContractsRight_204 : decode cL_areContractsRight 204 = .ok (.iload 5, 2) := by decide +kernel
theorem dL_areContractsRight_206 : decode cL_areContractsRight 206 = .ok (.if_icmp .ge 7, 3) := by decide +kernel
theorem dL_areContractsRight_209 : decode cL_areContractsRight 209 = .ok (.iconst 1, 1) := by decide +kernel
theorem dL_areContractsRight_210 : decode cL_areContractsRight 210 = .ok (.goto 4, 3) := by decide +kernel
theorem dL_areContractsRight_213 : decode cL_areContractsRight 213 = .ok (.iconst 0, 1) := by decide +kernel
theorem dL_areContractsRight_214 : decode cL_areContractsRight 214 = .ok (.istore_n 3, 1) := by decide +kernel
theorem dL_areContractsRight_215 : decode cL_areContractsRight 215 = .ok (.iconst 0, 1) := by decide +kernel
theorem dL_areContractsRight_216 : decode cL_areContractsRight 216 = .ok (.istore 6, 2) := by decide +kernel
theorem dL_areContractsRight_218 : decode cL_areContractsRight 218 = .ok (.iload 6, 2) := by decide +kernel
theorem dL_areContractsRight_220 : decode cL_areContractsRight 220 = .ok (.iload 4, 2) := by decide +kernel
theorem dL_areContractsRight_222 : decode cL_areContractsRight 222 = .ok (.if_icmp .ge 57, 3) := by decide +kernel
theorem dL_areContractsRight_225 : decode cL_areContractsRight 225 = .ok (.aload_n 0, 1) := by decide +kernel
theorem dL_areContractsRight_226 : decode cL_areContractsRight 226 = .ok (.iload 6, 2) := by decide +kernel
theorem dL_areContractsRight_228 : decode cL_areContractsRight 228 = .ok (.invokevirtual 89, 3) := by decide +kernel
theorem dL_areContractsRight_231 : decode cL_areContractsRight 231 = .ok (.istore 7, 2) := by decide +kernel
theorem dL_areContractsRight_233 : decode cL_areContractsRight 233 = .ok (.iload_n 3, 1) := by decide +kernel
theorem dL_areContractsRight_234 : decode cL_areContractsRight 234 = .ok (.ifCond .eq 37, 3) := by decide +kernel
theorem dL_areContractsRight_237 : decode cL_areContractsRight 237 = .ok (.aload_n 0, 1) := by decide +kernel
theorem dL_areContractsRight_238 : decode cL_areContractsRight 238 = .ok (.iload 7, 2) := by decide +kernel
theorem dL_areContractsRight_240 : decode cL_areContractsRight 240 = .ok (.invokevirtual 185, 3) := by decide +kernel
theorem dL_areContractsRight_243 : decode cL_areContractsRight 243 = .ok (.aload_n 0, 1) := by decide +kernel
theorem dL_areContractsRight_244 : decode cL_areContractsRight 244 = .ok (.iload 5, 2) := by decide +kernel
theorem dL_areContractsRight_246 : decode cL_areContractsRight 246 = .ok (.invokevirtual 185, 3) := by decide +kernel
theorem dL_areContractsRight_249 : decode cL_areContractsRight 249 = .ok (.if_icmp .ne 18, 3) := by decide +kernel
theorem dL_areContractsRight_252 : decode cL_areContractsRight 252 = .ok (.aload_n 0, 1) := by decide +kernel
theorem dL_areContractsRight_253 : decode cL_areContractsRight 253 = .ok (.iload 7, 2) := by decide +kernel
theorem dL_areContractsRight_255 : decode cL_areContractsRight 255 = .ok (.invokevirtual 188, 3) := by decide +kernel
theorem dL_areContractsRight_258 : decode cL_areContractsRight 258 = .ok (.aload_n 0, 1) := by decide +kernel
theorem dL_areContractsRight_259 : decode cL_areContractsRight 259 = .ok (.iload 5, 2) := by decide +kernel
theorem dL_areContractsRight_261 : decode cL_areContractsRight 261 = .ok (.invokevirtual 188, 3) := by decide +kernel
theorem dL_areContractsRight_264 : decode cL_areContractsRight 264 = .ok (.if_icmp .eq 7, 3) := by decide +kernel
theorem dL_areContractsRight_267 : decode cL_areContractsRight 267 = .ok (.iconst 1, 1) := by decide +kernel
theorem dL_areContractsRight_268 : decode cL_areContractsRight 268 = .ok (.goto 4, 3) := by decide +kernel
theorem dL_areContractsRight_271 : decode cL_areContractsRight 271 = .ok (.iconst 0, 1) := by decide +kernel
theorem dL_areContractsRight_272 : decode cL_areContractsRight 272 = .ok (.istore_n 3, 1) := by decide +kernel
theorem dL_areContractsRight_273 : decode cL_areContractsRight 273 = .ok (.iinc 6 1, 3) := by decide +kernel
theorem dL_areContractsRight_276 : decode cL_areContractsRight 276 = .ok (.goto (-58), 3) := by decide +kernel
theorem dL_areContractsRight_279 : decode cL_areContractsRight 279 = .ok (.iinc 4 1, 3) := by decide +kernel
theorem dL_areContractsRight_282 : decode cL_areContractsRight 282 = .ok (.goto (-205), 3) := by decide +kernel
theorem dL_areContractsRight_285 : decode cL_areContractsRight 285 = .ok (.iload_n 3, 1) := by decide +kernel
theorem dL_areContractsRight_286 : decode cL_areContractsRight 286 = .ok (.ifCond .eq 19, 3) := by decide +kernel
theorem dL_areContractsRight_289 : decode cL_areContractsRight 289 = .ok (.aload_n 0, 1) := by decide +kernel
theorem dL_areContractsRight_290 : decode cL_areContractsRight 290 = .ok (.aload_n 0, 1) := by decide +kernel
theorem dL_areContractsRight_291 : decode cL_areContractsRight 291 = .ok (.invokevirtual 276, 3) := by decide +kernel
theorem dL_areContractsRight_294 : decode cL_areContractsRight 294 = .ok (.aload_n 2, 1) := by decide +kernel
theorem dL_areContractsRight_295 : decode cL_areContractsRight 295 = .ok (.invokestatic 239, 3) := by decide +kernel
theorem dL_areContractsRight_298 : decode cL_areContractsRight 298 = .ok (.ifCond .eq 7, 3) := by decide +kernel
theorem dL_areContractsRight_301 : decode cL_areContractsRight 301 = .ok (.iconst 1, 1) := by decide +kernel
theorem dL_areContractsRight_302 : decode cL_areContractsRight 302 = .ok (.goto 4, 3) := by decide +kernel
theorem dL_areContractsRight_305 : decode cL_areContractsRight 305 = .ok (.iconst 0, 1) := by decide +kernel
theorem dL_areContractsRight_306 : decode cL_areContractsRight 306 = .ok (.ireturn, 1) := by decide +kernel
theorem dL_arePredictionsRight_0 : decode cL_arePredictionsRight 0 = .ok (.aload_n 0, 1) := by decide +kernel
theorem dL_arePredictionsRight_1 : decode cL_arePredictionsRight 1 = .ok (.invokestatic 279, 3) := by decide +kernel
theorem dL_arePredictionsRight_4 : decode cL_arePredictionsRight 4 = .ok (.istore_n 2, 1) := by decide +kernel
theorem dL_arePredictionsRight_5 : decode cL_arePredictionsRight 5 = .ok (.aload_n 0, 1) := by decide +kernel
theorem dL_arePredictionsRight_6 : decode cL_arePredictionsRight 6 = .ok (.invokevirtual 124, 3) := by decide +kernel
theorem dL_arePredictionsRight_9 : decode cL_arePredictionsRight 9 = .ok (.istore_n 3, 1) := by decide +kernel
theorem dL_arePredictionsRight_10 : decode cL_arePredictionsRight 10 = .ok (.aload_n 0, 1) := by decide +kernel
theorem dL_arePredictionsRight_11 : decode cL_arePredictionsRight 11 = .ok (.invokevirtual 135, 3) := by decide +kernel
theorem dL_arePredictionsRight_14 : decode cL_arePredictionsRight 14 = .ok (.istore 4, 2) := by decide +kernel
theorem dL_arePredictionsRight_16 : decode cL_arePredictionsRight 16 = .ok (.aload_n 0, 1) := by decide +kernel
theorem dL_arePredictionsRight_17 : decode cL_arePredictionsRight 17 = .ok (.iload_n 1, 1) := by decide +kernel
theorem dL_arePredictionsRight_18 : decode cL_arePredictionsRight 18 = .ok (.invokevirtual 98, 3) := by decide +kernel
theorem dL_arePredictionsRight_21 : decode cL_arePredictionsRight 21 = .ok (.istore 5, 2) := by decide +kernel
theorem dL_arePredictionsRight_23 : decode cL_arePredictionsRight 23 = .ok (.iload_n 3, 1) := by decide +kernel
theorem dL_arePredictionsRight_24 : decode cL_arePredictionsRight 24 = .ok (.newarray .int, 2) := by decide +kernel
theorem dL_arePredictionsRight_26 : decode cL_arePredictionsRight 26 = .ok (.astore 6, 2) := by decide +kernel
theorem dL_arePredictionsRight_28 : decode cL_arePredictionsRight 28 = .ok (.iload 4, 2) := by decide +kernel
theorem dL_arePredictionsRight_30 : decode cL_arePredictionsRight 30 = .ok (.newarray .int, 2) := by decide +kernel
theorem dL_arePredictionsRight_32 : decode cL_arePredictionsRight 32 = .ok (.astore 7, 2) := by decide +kernel
theorem dL_arePredictionsRight_34 : decode cL_arePredictionsRight 34 = .ok (.iload 4, 2) := by decide +kernel
theorem dL_arePredictionsRight_36 : decode cL_arePredictionsRight 36 = .ok (.newarray .int, 2) := by decide +kernel
theorem dL_arePredictionsRight_38 : decode cL_arePredictionsRight 38 = .ok (.astore 8, 2) := by decide +kernel
theorem dL_arePredictionsRight_40 : decode cL_arePredictionsRight 40 = .ok (.aload_n 0, 1) := by decide +kernel
theorem dL_arePredictionsRight_41 : decode cL_arePredictionsRight 41 = .ok (.bipush 8, 2) := by decide +kernel
theorem dL_arePredictionsRight_43 : decode cL_arePredictionsRight 43 = .ok (.bipush 61, 2) := by decide +kernel
theorem dL_arePredictionsRight_45 : decode cL_arePredictionsRight 45 = .ok (.iconst 0, 1) := by decide +kernel
theorem dL_arePredictionsRight_46 : decode cL_arePredictionsRight 46 = .ok (.invokestatic 194, 3) := by decide +kernel
theorem dL_arePredictionsRight_49 : decode cL_arePredictionsRight 49 = .ok (.sipush (-20003), 3) := by decide +kernel
theorem dL_arePredictionsRight_52 : decode cL_arePredictionsRight 52 = .ok (.if_icmp .ne 66, 3) := by decide +kernel
theorem dL_arePredictionsRight_55 : decode cL_arePredictionsRight 55 = .ok (.aload_n 0, 1) := by decide +kernel
theorem dL_arePredictionsRight_56 : decode cL_arePredictionsRight 56 = .ok (.bipush 8, 2) := by decide +kernel
theorem dL_arePredictionsRight_58 : decode cL_arePredictionsRight 58 = .ok (.iconst (-1), 1) := by decide +kernel
theorem dL_arePredictionsRight_59 : decode cL_arePredictionsRight 59 = .ok (.iconst 0, 1) := by decide +kernel
theorem dL_arePredictionsRight_60 : decode cL_arePredictionsRight 60 = .ok (.invokestatic 194, 3) := by decide +kernel
theorem dL_arePredictionsRight_63 : decode cL_arePredictionsRight 63 = .ok (.sipush (-20003), 3) := by decide +kernel
theorem dL_arePredictionsRight_66 : decode cL_arePredictionsRight 66 = .ok (.if_icmp .ne 52, 3) := by decide +kernel
theorem dL_arePredictionsRight_69 : decode cL_arePredictionsRight 69 = .ok (.aload_n 0, 1) := by decide +kernel
theorem dL_arePredictionsRight_70 : decode cL_arePredictionsRight 70 = .ok (.iconst 0, 1) := by decide +kernel
theorem dL_arePredictionsRight_71 : decode cL_arePredictionsRight 71 = .ok (.invokevirtual 98, 3) := by decide +kernel
theorem dL_arePredictionsRight_74 : decode cL_arePredictionsRight 74 = .ok (.aload_n 0, 1) := by decide +kernel
theorem dL_arePredictionsRight_75 : decode cL_arePredictionsRight 75 = .ok (.invokevirtual 141, 3) := by decide +kernel
theorem dL_arePredictionsRight_78 : decode cL_arePredictionsRight 78 = .ok (.if_icmp .ne 40, 3) := by decide +kernel
theorem dL_arePredictionsRight_81 : decode cL_arePredictionsRight 81 = .ok (.aload_n 0, 1) := by decide +kernel
theorem dL_arePredictionsRight_82 : decode cL_arePredictionsRight 82 = .ok (.bipush 9, 2) := by decide +kernel
theorem dL_arePredictionsRight_84 : decode cL_arePredictionsRight 84 = .ok (.iload_n 3, 1) := by decide +kernel
theorem dL_arePredictionsRight_85 : decode cL_arePredictionsRight 85 = .ok (.iconst 1, 1) := by decide +kernel
theorem dL_arePredictionsRight_86 : decode cL_arePredictionsRight 86 = .ok (.invokestatic 194, 3) := by decide +kernel
theorem dL_arePredictionsRight_89 : decode cL_arePredictionsRight 89 = .ok (.sipush (-20002), 3) := by decide +kernel
theorem dL_arePredictionsRight_92 : decode cL_arePredictionsRight 92 = .ok (.if_icmp .ne 26, 3) := by decide +kernel
theorem dL_arePredictionsRight_95 : decode cL_arePredictionsRight 95 = .ok (.iload_n 3, 1) := by decide +kernel
theorem dL_arePredictionsRight_96 : decode cL_arePredictionsRight 96 = .ok (.ifCond .eq 18, 3) := by decide +kernel
theorem dL_arePredictionsRight_99 : decode cL_arePredictionsRight 99 = .ok (.aload_n 0, 1) := by decide +kernel
theorem dL_arePredictionsRight_100 : decode cL_arePredictionsRight 100 = .ok (.bipush 9, 2) := by decide +kernel
theorem dL_arePredictionsRight_102 : decode cL_arePredictionsRight 102 = .ok (.iconst 0, 1) := by decide +kernel
theorem dL_arePredictionsRight_103 : decode cL_arePredictionsRight 103 = .ok (.bipush 61, 2) := by decide +kernel
theorem dL_arePredictionsRight_105 : decode cL_arePredictionsRight 105 = .ok (.invokestatic 194, 3) := by decide +kernel
theorem dL_arePredictionsRight_108 : decode cL_arePredictionsRight 108 = .ok (.sipush (-20003), 3) := by decide +kernel
theorem dL_arePredictionsRight_111 : decode cL_arePredictionsRight 111 = .ok (.if_icmp .ne 7, 3) := by decide +kernel
theorem dL_arePredictionsRight_114 : decode cL_arePredictionsRight 114 = .ok (.iconst 1, 1) := by decide +kernel
theorem dL_arePredictionsRight_115 : decode cL_arePredictionsRight 115 = .ok (.goto 4, 3) := by decide +kernel
theorem dL_arePredictionsRight_118 : decode cL_arePredictionsRight 118 = .ok (.iconst 0, 1) := by decide +kernel
theorem dL_arePredictionsRight_119 : decode cL_arePredictionsRight 119 = .ok (.istore 9, 2) := by decide +kernel
theorem dL_arePredictionsRight_121 : decode cL_arePredictionsRight 121 = .ok (.iconst 0, 1) := by decide +kernel
theorem dL_arePredictionsRight_122 : decode cL_arePredictionsRight 122 = .ok (.istore 10, 2) := by decide +kernel
theorem dL_arePredictionsRight_124 : decode cL_arePredictionsRight 124 = .ok (.iload 10, 2) := by decide +kernel
theorem dL_arePredictionsRight_126 : decode cL_arePredictionsRight 126 = .ok (.iload_n 3, 1) := by decide +kernel
theorem dL_arePredictionsRight_127 : decode cL_arePredictionsRight 127 = .ok (.if_icmp .ge 21, 3) := by decide +kernel
theorem dL_arePredictionsRight_130 : decode cL_arePredictionsRight 130 = .ok (.aload 6, 2) := by decide +kernel
theorem dL_arePredictionsRight_132 : decode cL_arePredictionsRight 132 = .ok (.iload 10, 2) := by decide +kernel
theorem dL_arePredictionsRight_134 : decode cL_arePredictionsRight 134 = .ok (.aload_n 0, 1) := by decide +kernel
theorem dL_arePredictionsRight_135 : decode cL_arePredictionsRight 135 = .ok (.iload 10, 2) := by decide +kernel
theorem dL_arePredictionsRight_137 : decode cL_arePredictionsRight 137 = .ok (.iload_n 1, 1) := by decide +kernel
theorem dL_arePredictionsRight_138 : decode cL_arePredictionsRight 138 = .ok (.invokevirtual 101, 3) := by decide +kernel
theorem dL_arePredictionsRight_141 : decode cL_arePredictionsRight 141 = .ok (.iastore, 1) := by decide +kernel
theorem dL_arePredictionsRight_142 : decode cL_arePredictionsRight 142 = .ok (.iinc 10 1, 3) := by decide +kernel
theorem dL_arePredictionsRight_145 : decode cL_arePredictionsRight 145 = .ok (.goto (-21), 3) := by decide +kernel
theorem dL_arePredictionsRight_148 : decode cL_arePredictionsRight 148 = .ok (.iconst 0, 1) := by decide +kernel
theorem dL_arePredictionsRight_149 : decode cL_arePredictionsRight 149 = .ok (.istore 10, 2) := by decide +kernel
theorem dL_arePredictionsRight_151 : decode cL_arePredictionsRight 151 = .ok (.iload 10, 2) := by decide +kernel
theorem dL_arePredictionsRight_153 : decode cL_arePredictionsRight 153 = .ok (.iload 4, 2) := by decide +kernel
theorem dL_arePredictionsRight_155 : decode cL_arePredictionsRight 155 = .ok (.if_icmp .ge 37, 3) := by decide +kernel
theorem dL_arePredictionsRight_158 : decode cL_arePredictionsRight 158 = .ok (.aload 7, 2) := by decide +kernel
theorem dL_arePredictionsRight_160 : decode cL_arePredictionsRight 160 = .ok (.iload 10, 2) := by decide +kernel
theorem dL_arePredictionsRight_162 : decode cL_arePredictionsRight 162 = .ok (.aload_n 0, 1) := by decide +kernel
theorem dL_arePredictionsRight_163 : decode cL_arePredictionsRight 163 = .ok (.iload 10, 2) := by decide +kernel
theorem dL_arePredictionsRight_165 : decode cL_arePredictionsRight 165 = .ok (.invokevirtual 89, 3) := by decide +kernel
theorem dL_arePredictionsRight_168 : decode cL_arePredictionsRight 168 = .ok (.iastore, 1) := by decide +kernel
theorem dL_arePredictionsRight_169 : decode cL_arePredictionsRight 169 = .ok (.aload 8, 2) := by decide +kernel
theorem dL_arePredictionsRight_171 : decode cL_arePredictionsRight 171 = .ok (.iload 10, 2) := by decide +kernel
theorem dL_arePredictionsRight_173 : decode cL_arePredictionsRight 173 = .ok (.aload_n 0, 1) := by decide +kernel
theorem dL_arePredictionsRight_174 : decode cL_arePredictionsRight 174 = .ok (.bipush 7, 2) := by decide +kernel
theorem dL_arePredictionsRight_176 : decode cL_arePredictionsRight 176 = .ok (.aload 7, 2) := by decide +kernel
theorem dL_arePredictionsRight_178 : decode cL_arePredictionsRight 178 = .ok (.iload 10, 2) := by decide +kernel
theorem dL_arePredictionsRight_180 : decode cL_arePredictionsRight 180 = .ok (.iaload, 1) := by decide +kernel
theorem dL_arePredictionsRight_181 : decode cL_arePredictionsRight 181 = .ok (.iconst 0, 1) := by decide +kernel
theorem dL_arePredictionsRight_182 : decode cL_arePredictionsRight 182 = .ok (.invokestatic 194, 3) := by decide +kernel
theorem dL_arePredictionsRight_185 : decode cL_arePredictionsRight 185 = .ok (.iastore, 1) := by decide +kernel
theorem dL_arePredictionsRight_186 : decode cL_arePredictionsRight 186 = .ok (.iinc 10 1, 3) := by decide +kernel
theorem dL_arePredictionsRight_189 : decode cL_arePredictionsRight 189 = .ok (.goto (-38), 3) := by decide +kernel
theorem dL_arePredictionsRight_192 : decode cL_arePredictionsRight 192 = .ok (.aload_n 0, 1) := by decide +kernel
theorem dL_arePredictionsRight_193 : decode cL_arePredictionsRight 193 = .ok (.invokevirtual 283, 3) := by decide +kernel
theorem dL_arePredictionsRight_196 : decode cL_arePredictionsRight 196 = .ok (.istore 10, 2) := by decide +kernel
theorem dL_arePredictionsRight_198 : decode cL_arePredictionsRight 198 = .ok (.aload_n 0, 1) := by decide +kernel
theorem dL_arePredictionsRight_199 : decode cL_arePredictionsRight 199 = .ok (.invokevirtual 144, 3) := by decide +kernel
theorem dL_arePredictionsRight_202 : decode cL_arePredictionsRight 202 = .ok (.istore 11, 2) := by decide +kernel
theorem dL_arePredictionsRight_204 : decode cL_arePredictionsRight 204 = .ok (.aload_n 0, 1) := by decide +kernel
theorem dL_arePredictionsRight_205 : decode cL_arePredictionsRight 205 = .ok (.iload_n 1, 1) := by decide +kernel
theorem dL_arePredictionsRight_206 : decode cL_arePredictionsRight 206 = .ok (.invokevirtual 53, 3) := by decide +kernel
theorem dL_arePredictionsRight_209 : decode cL_arePredictionsRight 209 = .ok (.istore 12, 2) := by decide +kernel
theorem dL_arePredictionsRight_211 : decode cL_arePredictionsRight 211 = .ok (.iconst 0, 1) := by decide +kernel
theorem dL_arePredictionsRight_212 : decode cL_arePredictionsRight 212 = .ok (.istore 13, 2) := by decide +kernel
theorem dL_arePredictionsRight_214 : decode cL_arePredictionsRight 214 = .ok (.iconst 0, 1) := by decide +kernel
theorem dL_arePredictionsRight_215 : decode cL_arePredictionsRight 215 = .ok (.istore 14, 2) := by decide +kernel
theorem dL_arePredictionsRight_217 : decode cL_arePredictionsRight 217 = .ok (.iload 14, 2) := by decide +kernel
theorem dL_arePredictionsRight_219 : decode cL_arePredictionsRight 219 = .ok (.iload 4, 2) := by decide +kernel
theorem dL_arePredictionsRight_221 : decode cL_arePredictionsRight 221 = .ok (.if_icmp .ge 102, 3) := by decide +kernel
theorem dL_arePredictionsRight_224 : decode cL_arePredictionsRight 224 = .ok (.aload 8, 2) := by decide +kernel
theorem dL_arePredictionsRight_226 : decode cL_arePredictionsRight 226 = .ok (.iload 14, 2) := by decide +kernel
theorem dL_arePredictionsRight_228 : decode cL_arePredictionsRight 228 = .ok (.iaload, 1) := by decide +kernel
theorem dL_arePredictionsRight_229 : decode cL_arePredictionsRight 229 = .ok (.ifCond .le 16, 3) := by decide +kernel
theorem dL_arePredictionsRight_232 : decode cL_arePredictionsRight 232 = .ok (.aload 8, 2) := by decide +kernel
theorem dL_arePredictionsRight_234 : decode cL_arePredictionsRight 234 = .ok (.iload 14, 2) := by decide +kernel
theorem dL_arePredictionsRight_236 : decode cL_arePredictionsRight 236 = .ok (.iaload, 1) := by decide +kernel
theorem dL_arePredictionsRight_237 : decode cL_arePredictionsRight 237 = .ok (.iload_n 1, 1) := by decide +kernel
theorem dL_arePredictionsRight_238 : decode cL_arePredictionsRight 238 = .ok (.if_icmp .gt 7, 3) := by decide +kernel
theorem dL_arePredictionsRight_241 : decode cL_arePredictionsRight 241 = .ok (.iconst 1, 1) := by decide +kernel
theorem dL_arePredictionsRight_242 : decode cL_arePredictionsRight 242 = .ok (.goto 4, 3) := by decide +kernel
theorem dL_arePredictionsRight_245 : decode cL_arePredictionsRight 245 = .ok (.iconst 0, 1) := by decide +kernel
theorem dL_arePredictionsRight_246 : decode cL_arePredictionsRight 246 = .ok (.istore 15, 2) := by decide +kernel
theorem dL_arePredictionsRight_248 : decode cL_arePredictionsRight 248 = .ok (.iload 13, 2) := by decide +kernel
theorem dL_arePredictionsRight_250 : decode cL_arePredictionsRight 250 = .ok (.iload 15, 2) := by decide +kernel
theorem dL_arePredictionsRight_252 : decode cL_arePredictionsRight 252 = .ok (.invokestatic 166, 3) := by decide +kernel
theorem dL_arePredictionsRight_255 : decode cL_arePredictionsRight 255 = .ok (.iadd, 1) := by decide +kernel
theorem dL_arePredictionsRight_256 : decode cL_arePredictionsRight 256 = .ok (.istore 13, 2) := by decide +kernel
theorem dL_arePredictionsRight_258 : decode cL_arePredictionsRight 258 = .ok (.iload 9, 2) := by decide +kernel
theorem dL_arePredictionsRight_260 : decode cL_arePredictionsRight 260 = .ok (.ifCond .eq 54, 3) := by decide +kernel
theorem dL_arePredictionsRight_263 : decode cL_arePredictionsRight 263 = .ok (.iload 15, 2) := by decide +kernel
theorem dL_arePredictionsRight_265 : decode cL_arePredictionsRight 265 = .ok (.ifCond .eq 21, 3) := by decide +kernel
theorem dL_arePredictionsRight_268 : decode cL_arePredictionsRight 268 = .ok (.aload_n 0, 1) := by decide +kernel
theorem dL_arePredictionsRight_269 : decode cL_arePredictionsRight 269 = .ok (.bipush 6, 2) := by decide +kernel
theorem dL_arePredictionsRight_271 : decode cL_arePredictionsRight 271 = .ok (.aload 7, 2) := by decide +kernel
theorem dL_arePredictionsRight_273 : decode cL_arePredictionsRight 273 = .ok (.iload 14, 2) := by decide +kernel
theorem dL_arePredictionsRight_275 : decode cL_arePredictionsRight 275 = .ok (.iaload, 1) := by decide +kernel
theorem dL_arePredictionsRight_276 : decode cL_arePredictionsRight 276 = .ok (.iconst 0, 1) := by decide +kernel
theorem dL_arePredictionsRight_277 : decode cL_arePredictionsRight 277 = .ok (.invokestatic 194, 3) := by decide +kernel
theorem dL_arePredictionsRight_280 : decode cL_arePredictionsRight 280 = .ok (.sipush (-20004), 3) := by decide +kernel
theorem dL_arePredictionsRight_283 : decode cL_arePredictionsRight 283 = .ok (.if_icmp .ne 31, 3) := by decide +kernel
theorem dL_arePredictionsRight_286 : decode cL_arePredictionsRight 286 = .ok (.aload 8, 2) := by decide +kernel
theorem dL_arePredictionsRight_288 : decode cL_arePredictionsRight 288 = .ok (.iload 14, 2) := by decide +kernel
theorem dL_arePredictionsRight_290 : decode cL_arePredictionsRight 290 = .ok (.iaload, 1) := by decide +kernel
theorem dL_arePredictionsRight_291 : decode cL_arePredictionsRight 291 = .ok (.iload_n 1, 1) := by decide +kernel
theorem dL_arePredictionsRight_292 : decode cL_arePredictionsRight 292 = .ok (.if_icmp .le 18, 3) := by decide +kernel
theorem dL_arePredictionsRight_295 : decode cL_arePredictionsRight 295 = .ok (.aload_n 0, 1) := by decide +kernel
theorem dL_arePredictionsRight_296 : decode cL_arePredictionsRight 296 = .ok (.bipush 6, 2) := by decide +kernel
theorem dL_arePredictionsRight_298 : decode cL_arePredictionsRight 298 = .ok (.aload 7, 2) := by decide +kernel
theorem dL_arePredictionsRight_300 : decode cL_arePredictionsRight 300 = .ok (.iload 14, 2) := by decide +kernel
theorem dL_arePredictionsRight_302 : decode cL_arePredictionsRight 302 = .ok (.iaload, 1) := by decide +kernel
theorem dL_arePredictionsRight_303 : decode cL_arePredictionsRight 303 = .ok (.iconst 0, 1) := by decide +kernel
theorem dL_arePredictionsRight_304 : decode cL_arePredictionsRight 304 = .ok (.invokestatic 194, 3) := by decide +kernel
theorem dL_arePredictionsRight_307 : decode cL_arePredictionsRight 307 = .ok (.ifCond .lt 7, 3) := by decide +kernel
theorem dL_arePredictionsRight_310 : decode cL_arePredictionsRight 310 = .ok (.iconst 1, 1) := by decide +kernel
theorem dL_arePredictionsRight_311 : decode cL_arePredictionsRight 311 = .ok (.goto 4, 3) := by decide +kernel
theorem dL_arePredictionsRight_314 : decode cL_arePredictionsRight 314 = .ok (.iconst 0, 1) := by decide +kernel
theorem dL_arePredictionsRight_315 : decode cL_arePredictionsRight 315 = .ok (.istore 9, 2) := by decide +kernel
theorem dL_arePredictionsRight_317 : decode cL_arePredictionsRight 317 = .ok (.iinc 14 1, 3) := by decide +kernel
theorem dL_arePredictionsRight_320 : decode cL_arePredictionsRight 320 = .ok (.goto (-103), 3) := by decide +kernel
theorem dL_arePredictionsRight_323 : decode cL_arePredictionsRight 323 = .ok (.iload 9, 2) := by decide +kernel
theorem dL_arePredictionsRight_325 : decode cL_arePredictionsRight 325 = .ok (.ifCond .eq 35, 3) := by decide +kernel
theorem dL_arePredictionsRight_328 : decode cL_arePredictionsRight 328 = .ok (.iload 12, 2) := by decide +kernel
theorem dL_arePredictionsRight_330 : decode cL_arePredictionsRight 330 = .ok (.iload 13, 2) := by decide +kernel
theorem dL_arePredictionsRight_332 : decode cL_arePredictionsRight 332 = .ok (.if_icmp .ne 28, 3) := by decide +kernel
theorem dL_arePredictionsRight_335 : decode cL_arePredictionsRight 335 = .ok (.aload_n 0, 1) := by decide +kernel
theorem dL_arePredictionsRight_336 : decode cL_arePredictionsRight 336 = .ok (.invokevirtual 144, 3) := by decide +kernel
theorem dL_arePredictionsRight_339 : decode cL_arePredictionsRight 339 = .ok (.iload 11, 2) := by decide +kernel
theorem dL_arePredictionsRight_341 : decode cL_arePredictionsRight 341 = .ok (.iload 13, 2) := by decide +kernel
theorem dL_arePredictionsRight_343 : decode cL_arePredictionsRight 343 = .ok (.iadd, 1) := by decide +kernel
theorem dL_arePredictionsRight_344 : decode cL_arePredictionsRight 344 = .ok (.if_icmp .ne 16, 3) := by decide +kernel
theorem dL_arePredictionsRight_347 : decode cL_arePredictionsRight 347 = .ok (.aload_n 0, 1) := by decide +kernel
theorem dL_arePredictionsRight_348 : decode cL_arePredictionsRight 348 = .ok (.invokevirtual 141, 3) := by decide +kernel
theorem dL_arePredictionsRight_351 : decode cL_arePredictionsRight 351 = .ok (.iload 5, 2) := by decide +kernel
theorem dL_arePredictionsRight_353 : decode cL_arePredictionsRight 353 = .ok (.if_icmp .ne 7, 3) := by decide +kernel
theorem dL_arePredictionsRight_356 : decode cL_arePredictionsRight 356 = .ok (.iconst 1, 1) := by decide +kernel
theorem dL_arePredictionsRight_357 : decode cL_arePredictionsRight 357 = .ok (.goto 4, 3) := by decide +kernel
theorem dL_arePredictionsRight_360 : decode cL_arePredictionsRight 360 = .ok (.iconst 0, 1) := by decide +kernel
theorem dL_arePredictionsRight_361 : decode cL_arePredictionsRight 361 = .ok (.istore 9, 2) := by decide +kernel
theorem dL_arePredictionsRight_363 : decode cL_arePredictionsRight 363 = .ok (.iconst 0, 1) := by decide +kernel
theorem dL_arePredictionsRight_364 : decode cL_arePredictionsRight 364 = .ok (.istore 14, 2) := by decide +kernel
theorem dL_arePredictionsRight_366 : decode cL_arePredictionsRight 366 = .ok (.iload 14, 2) := by decide +kernel
theorem dL_arePredictionsRight_368 : decode cL_arePredictionsRight 368 = .ok (.iload_n 3, 1) := by decide +kernel
theorem dL_arePredictionsRight_369 : decode cL_arePredictionsRight 369 = .ok (.if_icmp .ge 35, 3) := by decide +kernel
theorem dL_arePredictionsRight_372 : decode cL_arePredictionsRight 372 = .ok (.iload 9, 2) := by decide +kernel
theorem dL_arePredictionsRight_374 : decode cL_arePredictionsRight 374 = .ok (.ifCond .eq 21, 3) := by decide +kernel
theorem dL_arePredictionsRight_377 : decode cL_arePredictionsRight 377 = .ok (.aload_n 0, 1) := by decide +kernel
theorem dL_arePredictionsRight_378 : decode cL_arePredictionsRight 378 = .ok (.iload 14, 2) := by decide +kernel
theorem dL_arePredictionsRight_380 : decode cL_arePredictionsRight 380 = .ok (.invokevirtual 176, 3) := by decide +kernel
theorem dL_arePredictionsRight_383 : decode cL_arePredictionsRight 383 = .ok (.aload 6, 2) := by decide +kernel
theorem dL_arePredictionsRight_385 : decode cL_arePredictionsRight 385 = .ok (.iload 14, 2) := by decide +kernel
theorem dL_arePredictionsRight_387 : decode cL_arePredictionsRight 387 = .ok (.iaload, 1) := by decide +kernel
theorem dL_arePredictionsRight_388 : decode cL_arePredictionsRight 388 = .ok (.if_icmp .ne 7, 3) := by decide +kernel
theorem dL_arePredictionsRight_391 : decode cL_arePredictionsRight 391 = .ok (.iconst 1, 1) := by decide +kernel
theorem dL_arePredictionsRight_392 : decode cL_arePredictionsRight 392 = .ok (.goto 4, 3) := by decide +kernel
theorem dL_arePredictionsRight_395 : decode cL_arePredictionsRight 395 = .ok (.iconst 0, 1) := by decide +kernel
theorem dL_arePredictionsRight_396 : decode cL_arePredictionsRight 396 = .ok (.istore 9, 2) := by decide +kernel
theorem dL_arePredictionsRight_398 : decode cL_arePredictionsRight 398 = .ok (.iinc 14 1, 3) := by decide +kernel
theorem dL_arePredictionsRight_401 : decode cL_arePredictionsRight 401 = .ok (.goto (-35), 3) := by decide +kernel
theorem dL_arePredictionsRight_404 : decode cL_arePredictionsRight 404 = .ok (.aload_n 0, 1) := by decide +kernel
theorem dL_arePredictionsRight_405 : decode cL_arePredictionsRight 405 = .ok (.invokevirtual 286, 3) := by decide +kernel
theorem dL_arePredictionsRight_408 : decode cL_arePredictionsRight 408 = .ok (.istore 10, 2) := by decide +kernel
theorem dL_arePredictionsRight_410 : decode cL_arePredictionsRight 410 = .ok (.iload 9, 2) := by decide +kernel
theorem dL_arePredictionsRight_412 : decode cL_arePredictionsRight 412 = .ok (.ifCond .eq 15, 3) := by decide +kernel
theorem dL_arePredictionsRight_415 : decode cL_arePredictionsRight 415 = .ok (.aload_n 0, 1) := by decide +kernel
theorem dL_arePredictionsRight_416 : decode cL_arePredictionsRight 416 = .ok (.invokestatic 279, 3) := by decide +kernel
theorem dL_arePredictionsRight_419 : decode cL_arePredictionsRight 419 = .ok (.iload_n 2, 1) := by decide +kernel
theorem dL_arePredictionsRight_420 : decode cL_arePredictionsRight 420 = .ok (.if_icmp .ne 7, 3) := by decide +kernel
theorem dL_arePredictionsRight_423 : decode cL_arePredictionsRight 423 = .ok (.iconst 1, 1) := by decide +kernel
theorem dL_arePredictionsRight_424 : decode cL_arePredictionsRight 424 = .ok (.goto 4, 3) := by decide +kernel
theorem dL_arePredictionsRight_427 : decode cL_arePredictionsRight 427 = .ok (.iconst 0, 1) := by decide +kernel
theorem dL_arePredictionsRight_428 : decode cL_arePredictionsRight 428 = .ok (.ireturn, 1) := by decide +kernel
theorem dL_law_0 : decode cL_law 0 = .ok (.new 16, 3) := by decide +kernel
theorem dL_law_3 : decode cL_law 3 = .ok (.dup, 1) := by decide +kernel
theorem dL_law_4 : decode cL_law 4 = .ok (.invokespecial 289, 3) := by decide +kernel
theorem dL_law_7 : decode cL_law 7 = .ok (.astore_n 1, 1) := by decide +kernel
theorem dL_law_8 : decode cL_law 8 = .ok (.aload_n 1, 1) := by decide +kernel
theorem dL_law_9 : decode cL_law 9 = .ok (.aload_n 0, 1) := by decide +kernel
theorem dL_law_10 : decode cL_law 10 = .ok (.invokestatic 290, 3) := by decide +kernel
theorem dL_law_13 : decode cL_law 13 = .ok (.iconst 0, 1) := by decide +kernel
theorem dL_law_14 : decode cL_law 14 = .ok (.istore_n 2, 1) := by decide +kernel
theorem dL_law_15 : decode cL_law 15 = .ok (.iload_n 2, 1) := by decide +kernel
theorem dL_law_16 : decode cL_law 16 = .ok (.bipush 14, 2) := by decide +kernel
theorem dL_law_18 : decode cL_law 18 = .ok (.if_icmp .ge 83, 3) := by decide +kernel
theorem dL_law_21 : decode cL_law 21 = .ok (.aload_n 1, 1) := by decide +kernel
theorem dL_law_22 : decode cL_law 22 = .ok (.aload_n 0, 1) := by decide +kernel
theorem dL_law_23 : decode cL_law 23 = .ok (.sipush 200, 3) := by decide +kernel
theorem dL_law_26 : decode cL_law 26 = .ok (.bipush 6, 2) := by decide +kernel
theorem dL_law_28 : decode cL_law 28 = .ok (.iload_n 2, 1) := by decide +kernel
theorem dL_law_29 : decode cL_law 29 = .ok (.imul, 1) := by decide +kernel
theorem dL_law_30 : decode cL_law 30 = .ok (.iadd, 1) := by decide +kernel
theorem dL_law_31 : decode cL_law 31 = .ok (.invokestatic 294, 3) := by decide +kernel
theorem dL_law_34 : decode cL_law 34 = .ok (.istore_n 3, 1) := by decide +kernel
theorem dL_law_35 : decode cL_law 35 = .ok (.aload_n 1, 1) := by decide +kernel
theorem dL_law_36 : decode cL_law 36 = .ok (.invokestatic 298, 3) := by decide +kernel
theorem dL_law_39 : decode cL_law 39 = .ok (.ifCond .eq 54, 3) := by decide +kernel
theorem dL_law_42 : decode cL_law 42 = .ok (.aload_n 1, 1) := by decide +kernel
theorem dL_law_43 : decode cL_law 43 = .ok (.invokestatic 302, 3) := by decide +kernel
theorem dL_law_46 : decode cL_law 46 = .ok (.ifCond .eq 47, 3) := by decide +kernel
theorem dL_law_49 : decode cL_law 49 = .ok (.aload_n 1, 1) := by decide +kernel
theorem dL_law_50 : decode cL_law 50 = .ok (.invokestatic 305, 3) := by decide +kernel
theorem dL_law_53 : decode cL_law 53 = .ok (.ifCond .eq 40, 3) := by decide +kernel
theorem dL_law_56 : decode cL_law 56 = .ok (.aload_n 1, 1) := by decide +kernel
theorem dL_law_57 : decode cL_law 57 = .ok (.iconst 1, 1) := by decide +kernel
theorem dL_law_58 : decode cL_law 58 = .ok (.aload_n 0, 1) := by decide +kernel
theorem dL_law_59 : decode cL_law 59 = .ok (.sipush 300, 3) := by decide +kernel
theorem dL_law_62 : decode cL_law 62 = .ok (.iload_n 2, 1) := by decide +kernel
theorem dL_law_63 : decode cL_law 63 = .ok (.iadd, 1) := by decide +kernel
theorem dL_law_64 : decode cL_law 64 = .ok (.aload_n 0, 1) := by decide +kernel
theorem dL_law_65 : decode cL_law 65 = .ok (.sipush 320, 3) := by decide +kernel
theorem dL_law_68 : decode cL_law 68 = .ok (.iload_n 2, 1) := by decide +kernel
theorem dL_law_69 : decode cL_law 69 = .ok (.iadd, 1) := by decide +kernel
theorem dL_law_70 : decode cL_law 70 = .ok (.iconst 2, 1) := by decide +kernel
theorem dL_law_71 : decode cL_law 71 = .ok (.invokestatic 117, 3) := by decide +kernel
theorem dL_law_74 : decode cL_law 74 = .ok (.ifCond .ne 7, 3) := by decide +kernel
theorem dL_law_77 : decode cL_law 77 = .ok (.iconst 3, 1) := by decide +kernel
theorem dL_law_78 : decode cL_law 78 = .ok (.goto 5, 3) := by decide +kernel
theorem dL_law_81 : decode cL_law 81 = .ok (.bipush 30, 2) := by decide +kernel
theorem dL_law_83 : decode cL_law 83 = .ok (.invokestatic 117, 3) := by decide +kernel
theorem dL_law_86 : decode cL_law 86 = .ok (.iadd, 1) := by decide +kernel
theorem dL_law_87 : decode cL_law 87 = .ok (.invokestatic 308, 3) := by decide +kernel
theorem dL_law_90 : decode cL_law 90 = .ok (.ifCond .ne 5, 3) := by decide +kernel
theorem dL_law_93 : decode cL_law 93 = .ok (.iconst 0, 1) := by decide +kernel
theorem dL_law_94 : decode cL_law 94 = .ok (.ireturn, 1) := by decide +kernel
theorem dL_law_95 : decode cL_law 95 = .ok (.iinc 2 1, 3) := by decide +kernel
theorem dL_law_98 : decode cL_law 98 = .ok (.goto (-83), 3) := by decide +kernel
theorem dL_law_101 : decode cL_law 101 = .ok (.iconst 1, 1) := by decide +kernel
theorem dL_law_102 : decode cL_law 102 = .ok (.ireturn, 1) := by decide +kernel
