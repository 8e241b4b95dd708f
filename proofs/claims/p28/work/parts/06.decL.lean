theorem dL_dice_0 : decode cL_dice 0 = .ok (.iload_n 1, 1) := by decide +kernel
theorem dL_dice_1 : decode cL_dice 1 = .ok (.aload_n 0, 1) := by decide +kernel
theorem dL_dice_2 : decode cL_dice 2 = .ok (.arraylength, 1) := by decide +kernel
theorem dL_dice_3 : decode cL_dice 3 = .ok (.if_icmp .ge 9, 3) := by decide +kernel
theorem dL_dice_6 : decode cL_dice 6 = .ok (.aload_n 0, 1) := by decide +kernel
theorem dL_dice_7 : decode cL_dice 7 = .ok (.iload_n 1, 1) := by decide +kernel
theorem dL_dice_8 : decode cL_dice 8 = .ok (.iaload, 1) := by decide +kernel
theorem dL_dice_9 : decode cL_dice 9 = .ok (.goto 22, 3) := by decide +kernel
theorem dL_dice_12 : decode cL_dice 12 = .ok (.ldc 7, 2) := by decide +kernel
theorem dL_dice_14 : decode cL_dice 14 = .ok (.iload_n 1, 1) := by decide +kernel
theorem dL_dice_15 : decode cL_dice 15 = .ok (.bipush 53, 2) := by decide +kernel
theorem dL_dice_17 : decode cL_dice 17 = .ok (.iadd, 1) := by decide +kernel
theorem dL_dice_18 : decode cL_dice 18 = .ok (.imul, 1) := by decide +kernel
theorem dL_dice_19 : decode cL_dice 19 = .ok (.sipush 395, 3) := by decide +kernel
theorem dL_dice_22 : decode cL_dice 22 = .ok (.iload_n 1, 1) := by decide +kernel
theorem dL_dice_23 : decode cL_dice 23 = .ok (.imul, 1) := by decide +kernel
theorem dL_dice_24 : decode cL_dice 24 = .ok (.iload_n 1, 1) := by decide +kernel
theorem dL_dice_25 : decode cL_dice 25 = .ok (.imul, 1) := by decide +kernel
theorem dL_dice_26 : decode cL_dice 26 = .ok (.iadd, 1) := by decide +kernel
theorem dL_dice_27 : decode cL_dice 27 = .ok (.sipush 2003, 3) := by decide +kernel
theorem dL_dice_30 : decode cL_dice 30 = .ok (.iadd, 1) := by decide +kernel
theorem dL_dice_31 : decode cL_dice 31 = .ok (.ldc 8, 2) := by decide +kernel
theorem dL_dice_33 : decode cL_dice 33 = .ok (.iand, 1) := by decide +kernel
theorem dL_dice_34 : decode cL_dice 34 = .ok (.ireturn, 1) := by decide +kernel
theorem dL_store_0 : decode cL_store 0 = .ok (.aload_n 0, 1) := by decide +kernel
theorem dL_store_1 : decode cL_store 1 = .ok (.iload_n 1, 1) := by decide +kernel
theorem dL_store_2 : decode cL_store 2 = .ok (.lload_n 2, 1) := by decide +kernel
theorem dL_store_3 : decode cL_store 3 = .ok (.invokevirtual 9, 3) := by decide +kernel
theorem dL_store_6 : decode cL_store 6 = .ok (.ireturn, 1) := by decide +kernel
theorem dL_store_7 : decode cL_store 7 = .ok (.astore 4, 2) := by decide +kernel
theorem dL_store_9 : decode cL_store 9 = .ok (.bipush (-102), 2) := by decide +kernel
theorem dL_store_11 : decode cL_store 11 = .ok (.ireturn, 1) := by decide +kernel
theorem dL_store_12 : decode cL_store 12 = .ok (.astore 4, 2) := by decide +kernel
theorem dL_store_14 : decode cL_store 14 = .ok (.bipush (-103), 2) := by decide +kernel
theorem dL_store_16 : decode cL_store 16 = .ok (.ireturn, 1) := by decide +kernel
theorem dL_of_0 : decode cL_of 0 = .ok (.iload_n 1, 1) := by decide +kernel
theorem dL_of_1 : decode cL_of 1 = .ok (.ifCond .ne 11, 3) := by decide +kernel
theorem dL_of_4 : decode cL_of 4 = .ok (.aload_n 0, 1) := by decide +kernel
theorem dL_of_5 : decode cL_of 5 = .ok (.iload_n 2, 1) := by decide +kernel
theorem dL_of_6 : decode cL_of 6 = .ok (.invokevirtual 19, 3) := by decide +kernel
theorem dL_of_9 : decode cL_of 9 = .ok (.goto 153, 3) := by decide +kernel
theorem dL_of_12 : decode cL_of 12 = .ok (.iload_n 1, 1) := by decide +kernel
theorem dL_of_13 : decode cL_of 13 = .ok (.iconst 1, 1) := by decide +kernel
theorem dL_of_14 : decode cL_of 14 = .ok (.if_icmp .ne 11, 3) := by decide +kernel
theorem dL_of_17 : decode cL_of 17 = .ok (.aload_n 0, 1) := by decide +kernel
theorem dL_of_18 : decode cL_of 18 = .ok (.iload_n 2, 1) := by decide +kernel
theorem dL_of_19 : decode cL_of 19 = .ok (.invokevirtual 23, 3) := by decide +kernel
theorem dL_of_22 : decode cL_of 22 = .ok (.goto 140, 3) := by decide +kernel
theorem dL_of_25 : decode cL_of 25 = .ok (.iload_n 1, 1) := by decide +kernel
theorem dL_of_26 : decode cL_of 26 = .ok (.iconst 2, 1) := by decide +kernel
theorem dL_of_27 : decode cL_of 27 = .ok (.if_icmp .ne 11, 3) := by decide +kernel
theorem dL_of_30 : decode cL_of 30 = .ok (.aload_n 0, 1) := by decide +kernel
theorem dL_of_31 : decode cL_of 31 = .ok (.iload_n 2, 1) := by decide +kernel
theorem dL_of_32 : decode cL_of 32 = .ok (.invokevirtual 26, 3) := by decide +kernel
theorem dL_of_35 : decode cL_of 35 = .ok (.goto 127, 3) := by decide +kernel
theorem dL_of_38 : decode cL_of 38 = .ok (.iload_n 1, 1) := by decide +kernel
theorem dL_of_39 : decode cL_of 39 = .ok (.iconst 3, 1) := by decide +kernel
theorem dL_of_40 : decode cL_of 40 = .ok (.if_icmp .ne 11, 3) := by decide +kernel
theorem dL_of_43 : decode cL_of 43 = .ok (.aload_n 0, 1) := by decide +kernel
theorem dL_of_44 : decode cL_of 44 = .ok (.iload_n 2, 1) := by decide +kernel
theorem dL_of_45 : decode cL_of 45 = .ok (.invokevirtual 29, 3) := by decide +kernel
theorem dL_of_48 : decode cL_of 48 = .ok (.goto 114, 3) := by decide +kernel
theorem dL_of_51 : decode cL_of 51 = .ok (.iload_n 1, 1) := by decide +kernel
theorem dL_of_52 : decode cL_of 52 = .ok (.iconst 4, 1) := by decide +kernel
theorem dL_of_53 : decode cL_of 53 = .ok (.if_icmp .ne 11, 3) := by decide +kernel
theorem dL_of_56 : decode cL_of 56 = .ok (.aload_n 0, 1) := by decide +kernel
theorem dL_of_57 : decode cL_of 57 = .ok (.iload_n 2, 1) := by decide +kernel
theorem dL_of_58 : decode cL_of 58 = .ok (.invokevirtual 32, 3) := by decide +kernel
theorem dL_of_61 : decode cL_of 61 = .ok (.goto 101, 3) := by decide +kernel
theorem dL_of_64 : decode cL_of 64 = .ok (.iload_n 1, 1) := by decide +kernel
theorem dL_of_65 : decode cL_of 65 = .ok (.iconst 5, 1) := by decide +kernel
theorem dL_of_66 : decode cL_of 66 = .ok (.if_icmp .ne 11, 3) := by decide +kernel
theorem dL_of_69 : decode cL_of 69 = .ok (.aload_n 0, 1) := by decide +kernel
theorem dL_of_70 : decode cL_of 70 = .ok (.iload_n 2, 1) := by decide +kernel
theorem dL_of_71 : decode cL_of 71 = .ok (.invokevirtual 35, 3) := by decide +kernel
theorem dL_of_74 : decode cL_of 74 = .ok (.goto 88, 3) := by decide +kernel
theorem dL_of_77 : decode cL_of 77 = .ok (.iload_n 1, 1) := by decide +kernel
theorem dL_of_78 : decode cL_of 78 = .ok (.bipush 6, 2) := by decide +kernel
theorem dL_of_80 : decode cL_of 80 = .ok (.if_icmp .ne 11, 3) := by decide +kernel
theorem dL_of_83 : decode cL_of 83 = .ok (.aload_n 0, 1) := by decide +kernel
theorem dL_of_84 : decode cL_of 84 = .ok (.iload_n 2, 1) := by decide +kernel
theorem dL_of_85 : decode cL_of 85 = .ok (.invokevirtual 38, 3) := by decide +kernel
theorem dL_of_88 : decode cL_of 88 = .ok (.goto 74, 3) := by decide +kernel
theorem dL_of_91 : decode cL_of 91 = .ok (.iload_n 1, 1) := by decide +kernel
theorem dL_of_92 : decode cL_of 92 = .ok (.bipush 7, 2) := by decide +kernel
theorem dL_of_94 : decode cL_of 94 = .ok (.if_icmp .ne 19, 3) := by decide +kernel
theorem dL_of_97 : decode cL_of 97 = .ok (.aload_n 0, 1) := by decide +kernel
theorem dL_of_98 : decode cL_of 98 = .ok (.iload_n 2, 1) := by decide +kernel
theorem dL_of_99 : decode cL_of 99 = .ok (.invokevirtual 41, 3) := by decide +kernel
theorem dL_of_102 : decode cL_of 102 = .ok (.ifCond .eq 7, 3) := by decide +kernel
theorem dL_of_105 : decode cL_of 105 = .ok (.iconst 1, 1) := by decide +kernel
theorem dL_of_106 : decode cL_of 106 = .ok (.goto 56, 3) := by decide +kernel
theorem dL_of_109 : decode cL_of 109 = .ok (.iconst 0, 1) := by decide +kernel
theorem dL_of_110 : decode cL_of 110 = .ok (.goto 52, 3) := by decide +kernel
theorem dL_of_113 : decode cL_of 113 = .ok (.iload_n 1, 1) := by decide +kernel
theorem dL_of_114 : decode cL_of 114 = .ok (.bipush 8, 2) := by decide +kernel
theorem dL_of_116 : decode cL_of 116 = .ok (.if_icmp .ne 19, 3) := by decide +kernel
theorem dL_of_119 : decode cL_of 119 = .ok (.aload_n 0, 1) := by decide +kernel
theorem dL_of_120 : decode cL_of 120 = .ok (.iload_n 2, 1) := by decide +kernel
theorem dL_of_121 : decode cL_of 121 = .ok (.invokevirtual 45, 3) := by decide +kernel
theorem dL_of_124 : decode cL_of 124 = .ok (.ifCond .eq 7, 3) := by decide +kernel
theorem dL_of_127 : decode cL_of 127 = .ok (.iconst 1, 1) := by decide +kernel
theorem dL_of_128 : decode cL_of 128 = .ok (.goto 34, 3) := by decide +kernel
theorem dL_of_131 : decode cL_of 131 = .ok (.iconst 0, 1) := by decide +kernel
theorem dL_of_132 : decode cL_of 132 = .ok (.goto 30, 3) := by decide +kernel
theorem dL_of_135 : decode cL_of 135 = .ok (.iload_n 1, 1) := by decide +kernel
theorem dL_of_136 : decode cL_of 136 = .ok (.bipush 9, 2) := by decide +kernel
theorem dL_of_138 : decode cL_of 138 = .ok (.if_icmp .ne 19, 3) := by decide +kernel
theorem dL_of_141 : decode cL_of 141 = .ok (.aload_n 0, 1) := by decide +kernel
theorem dL_of_142 : decode cL_of 142 = .ok (.iload_n 2, 1) := by decide +kernel
theorem dL_of_143 : decode cL_of 143 = .ok (.invokevirtual 48, 3) := by decide +kernel
theorem dL_of_146 : decode cL_of 146 = .ok (.ifCond .eq 7, 3) := by decide +kernel
theorem dL_of_149 : decode cL_of 149 = .ok (.iconst 1, 1) := by decide +kernel
theorem dL_of_150 : decode cL_of 150 = .ok (.goto 12, 3) := by decide +kernel
theorem dL_of_153 : decode cL_of 153 = .ok (.iconst 0, 1) := by decide +kernel
theorem dL_of_154 : decode cL_of 154 = .ok (.goto 8, 3) := by decide +kernel
theorem dL_of_157 : decode cL_of 157 = .ok (.aload_n 0, 1) := by decide +kernel
theorem dL_of_158 : decode cL_of 158 = .ok (.iload_n 2, 1) := by decide +kernel
theorem dL_of_159 : decode cL_of 159 = .ok (.invokevirtual 51, 3) := by decide +kernel
theorem dL_of_162 : decode cL_of 162 = .ok (.ireturn, 1) := by decide +kernel
theorem dL_of_163 : decode cL_of 163 = .ok (.astore_n 3, 1) := by decide +kernel
theorem dL_of_164 : decode cL_of 164 = .ok (.bipush (-101), 2) := by decide +kernel
theorem dL_of_166 : decode cL_of 166 = .ok (.ireturn, 1) := by decide +kernel
theorem dL_of_167 : decode cL_of 167 = .ok (.astore_n 3, 1) := by decide +kernel
theorem dL_of_168 : decode cL_of 168 = .ok (.bipush (-103), 2) := by decide +kernel
theorem dL_of_170 : decode cL_of 170 = .ok (.ireturn, 1) := by decide +kernel
theorem dL_read_0 : decode cL_read 0 = .ok (.aload_n 0, 1) := by decide +kernel
theorem dL_read_1 : decode cL_read 1 = .ok (.iload_n 1, 1) := by decide +kernel
theorem dL_read_2 : decode cL_read 2 = .ok (.invokevirtual 56, 3) := by decide +kernel
theorem dL_read_5 : decode cL_read 5 = .ok (.lreturn, 1) := by decide +kernel
theorem dL_read_6 : decode cL_read 6 = .ok (.astore_n 2, 1) := by decide +kernel
theorem dL_read_7 : decode cL_read 7 = .ok (.ldc2_w 60, 3) := by decide +kernel
theorem dL_read_10 : decode cL_read 10 = .ok (.lreturn, 1) := by decide +kernel
theorem dL_read_11 : decode cL_read 11 = .ok (.astore_n 2, 1) := by decide +kernel
theorem dL_read_12 : decode cL_read 12 = .ok (.ldc2_w 62, 3) := by decide +kernel
theorem dL_read_15 : decode cL_read 15 = .ok (.lreturn, 1) := by decide +kernel
theorem dL_pack_0 : decode cL_pack 0 = .ok (.aload_n 0, 1) := by decide +kernel
theorem dL_pack_1 : decode cL_pack 1 = .ok (.iload_n 1, 1) := by decide +kernel
theorem dL_pack_2 : decode cL_pack 2 = .ok (.iload_n 2, 1) := by decide +kernel
theorem dL_pack_3 : decode cL_pack 3 = .ok (.iload_n 3, 1) := by decide +kernel
theorem dL_pack_4 : decode cL_pack 4 = .ok (.invokevirtual 64, 3) := by decide +kernel
theorem dL_pack_7 : decode cL_pack 7 = .ok (.ireturn, 1) := by decide +kernel
theorem dL_pack_8 : decode cL_pack 8 = .ok (.astore 4, 2) := by decide +kernel
theorem dL_pack_10 : decode cL_pack 10 = .ok (.bipush (-102), 2) := by decide +kernel
theorem dL_pack_12 : decode cL_pack 12 = .ok (.ireturn, 1) := by decide +kernel
theorem dL_deltaCost_0 : decode cL_deltaCost 0 = .ok (.aload_n 0, 1) := by decide +kernel
theorem dL_deltaCost_1 : decode cL_deltaCost 1 = .ok (.iload_n 1, 1) := by decide +kernel
theorem dL_deltaCost_2 : decode cL_deltaCost 2 = .ok (.iload_n 2, 1) := by decide +kernel
theorem dL_deltaCost_3 : decode cL_deltaCost 3 = .ok (.invokevirtual 68, 3) := by decide +kernel
theorem dL_deltaCost_6 : decode cL_deltaCost 6 = .ok (.ireturn, 1) := by decide +kernel
theorem dL_deltaCost_7 : decode cL_deltaCost 7 = .ok (.astore_n 3, 1) := by decide +kernel
theorem dL_deltaCost_8 : decode cL_deltaCost 8 = .ok (.bipush (-101), 2) := by decide +kernel
theorem dL_deltaCost_10 : decode cL_deltaCost 10 = .ok (.ireturn, 1) := by decide +kernel
theorem dL_ask_0 : decode cL_ask 0 = .ok (.iload_n 1, 1) := by decide +kernel
theorem dL_ask_1 : decode cL_ask 1 = .ok (.ifCond .ne 11, 3) := by decide +kernel
theorem dL_ask_4 : decode cL_ask 4 = .ok (.aload_n 0, 1) := by decide +kernel
theorem dL_ask_5 : decode cL_ask 5 = .ok (.iload_n 2, 1) := by decide +kernel
theorem dL_ask_6 : decode cL_ask 6 = .ok (.invokevirtual 72, 3) := by decide +kernel
theorem dL_ask_9 : decode cL_ask 9 = .ok (.goto 34, 3) := by decide +kernel
theorem dL_ask_12 : decode cL_ask 12 = .ok (.iload_n 1, 1) := by decide +kernel
theorem dL_ask_13 : decode cL_ask 13 = .ok (.iconst 1, 1) := by decide +kernel
theorem dL_ask_14 : decode cL_ask 14 = .ok (.if_icmp .ne 11, 3) := by decide +kernel
theorem dL_ask_17 : decode cL_ask 17 = .ok (.aload_n 0, 1) := by decide +kernel
theorem dL_ask_18 : decode cL_ask 18 = .ok (.iload_n 2, 1) := by decide +kernel
theorem dL_ask_19 : decode cL_ask 19 = .ok (.invokevirtual 75, 3) := by decide +kernel
theorem dL_ask_22 : decode cL_ask 22 = .ok (.goto 21, 3) := by decide +kernel
theorem dL_ask_25 : decode cL_ask 25 = .ok (.iload_n 1, 1) := by decide +kernel
theorem dL_ask_26 : decode cL_ask 26 = .ok (.iconst 2, 1) := by decide +kernel
theorem dL_ask_27 : decode cL_ask 27 = .ok (.if_icmp .ne 11, 3) := by decide +kernel
theorem dL_ask_30 : decode cL_ask 30 = .ok (.aload_n 0, 1) := by decide +kernel
theorem dL_ask_31 : decode cL_ask 31 = .ok (.iload_n 2, 1) := by decide +kernel
theorem dL_ask_32 : decode cL_ask 32 = .ok (.invokevirtual 78, 3) := by decide +kernel
theorem dL_ask_35 : decode cL_ask 35 = .ok (.goto 8, 3) := by decide +kernel
theorem dL_ask_38 : decode cL_ask 38 = .ok (.aload_n 0, 1) := by decide +kernel
theorem dL_ask_39 : decode cL_ask 39 = .ok (.lload_n 3, 1) := by decide +kernel
theorem dL_ask_40 : decode cL_ask 40 = .ok (.invokevirtual 81, 3) := by decide +kernel
theorem dL_ask_43 : decode cL_ask 43 = .ok (.ireturn, 1) := by decide +kernel
theorem dL_ask_44 : decode cL_ask 44 = .ok (.astore 5, 2) := by decide +kernel
theorem dL_ask_46 : decode cL_ask 46 = .ok (.bipush (-102), 2) := by decide +kernel
theorem dL_ask_48 : decode cL_ask 48 = .ok (.ireturn, 1) := by decide +kernel
theorem dL_letters_0 : decode cL_letters 0 = .ok (.iconst 1, 1) := by decide +kernel
theorem dL_letters_1 : decode cL_letters 1 = .ok (.istore_n 2, 1) := by decide +kernel
theorem dL_letters_2 : decode cL_letters 2 = .ok (.lload_n 0, 1) := by decide +kernel
theorem dL_letters_3 : decode cL_letters 3 = .ok (.lconst 1, 1) := by decide +kernel
theorem dL_letters_4 : decode cL_letters 4 = .ok (.iconst 4, 1) := by decide +kernel
theorem dL_letters_5 : decode cL_letters 5 = .ok (.iload_n 2, 1) := by decide +kernel
theorem dL_letters_6 : decode cL_letters 6 = .ok (.imul, 1) := by decide +kernel
theorem dL_letters_7 : decode cL_letters 7 = .ok (.lshl, 1) := by decide +kernel
theorem dL_letters_8 : decode cL_letters 8 = .ok (.lcmp, 1) := by decide +kernel
theorem dL_letters_9 : decode cL_letters 9 = .ok (.ifCond .lt 15, 3) := by decide +kernel
theorem dL_letters_12 : decode cL_letters 12 = .ok (.iload_n 2, 1) := by decide +kernel
theorem dL_letters_13 : decode cL_letters 13 = .ok (.bipush 15, 2) := by decide +kernel
theorem dL_letters_15 : decode cL_letters 15 = .ok (.if_icmp .ge 9, 3) := by decide +kernel
theorem dL_letters_18 : decode cL_letters 18 = .ok (.iinc 2 1, 3) := by decide +kernel
theorem dL_letters_21 : decode cL_letters 21 = .ok (.goto (-19), 3) := by decide +kernel
theorem dL_letters_24 : decode cL_letters 24 = .ok (.iload_n 2, 1) := by decide +kernel
theorem dL_letters_25 : decode cL_letters 25 = .ok (.ireturn, 1) := by decide +kernel
theorem dL_hasForm_0 : decode cL_hasForm 0 = .ok (.aload_n 0, 1) := by decide +kernel
theorem dL_hasForm_1 : decode cL_hasForm 1 = .ok (.iconst 2, 1) := by decide +kernel
theorem dL_hasForm_2 : decode cL_hasForm 2 = .ok (.iload_n 1, 1) := by decide +kernel
theorem dL_hasForm_3 : decode cL_hasForm 3 = .ok (.invokestatic 85, 3) := by decide +kernel
theorem dL_hasForm_6 : decode cL_hasForm 6 = .ok (.ifCond .le 7, 3) := by decide +kernel
theorem dL_hasForm_9 : decode cL_hasForm 9 = .ok (.iconst 1, 1) := by decide +kernel
theorem dL_hasForm_10 : decode cL_hasForm 10 = .ok (.goto 4, 3) := by decide +kernel
theorem dL_hasForm_13 : decode cL_hasForm 13 = .ok (.iconst 0, 1) := by decide +kernel
theorem dL_hasForm_14 : decode cL_hasForm 14 = .ok (.ireturn, 1) := by decide +kernel
theorem dL_all_0 : decode cL_all 0 = .ok (.aload_n 0, 1) := by decide +kernel
theorem dL_all_1 : decode cL_all 1 = .ok (.invokevirtual 91, 3) := by decide +kernel
theorem dL_all_4 : decode cL_all 4 = .ok (.i2l, 1) := by decide +kernel
theorem dL_all_5 : decode cL_all 5 = .ok (.ldc2_w 95, 3) := by decide +kernel
theorem dL_all_8 : decode cL_all 8 = .ok (.aload_n 0, 1) := by decide +kernel
theorem dL_all_9 : decode cL_all 9 = .ok (.invokevirtual 97, 3) := by decide +kernel
theorem dL_all_12 : decode cL_all 12 = .ok (.i2l, 1) := by decide +kernel
theorem dL_all_13 : decode cL_all 13 = .ok (.lmul, 1) := by decide +kernel
theorem dL_all_14 : decode cL_all 14 = .ok (.ladd, 1) := by decide +kernel
theorem dL_all_15 : decode cL_all 15 = .ok (.ldc2_w 100, 3) := by decide +kernel
theorem dL_all_18 : decode cL_all 18 = .ok (.aload_n 0, 1) := by decide +kernel
theorem dL_all_19 : decode cL_all 19 = .ok (.invokevirtual 102, 3) := by decide +kernel
theorem dL_all_22 : decode cL_all 22 = .ok (.i2l, 1) := by decide +kernel
theorem dL_all_23 : decode cL_all 23 = .ok (.lmul, 1) := by decide +kernel
theorem dL_all_24 : decode cL_all 24 = .ok (.ladd, 1) := by decide +kernel
theorem dL_all_25 : decode cL_all 25 = .ok (.ldc2_w 105, 3) := by decide +kernel
theorem dL_all_28 : decode cL_all 28 = .ok (.aload_n 0, 1) := by decide +kernel
theorem dL_all_29 : decode cL_all 29 = .ok (.invokevirtual 107, 3) := by decide +kernel
theorem dL_all_32 : decode cL_all 32 = .ok (.i2l, 1) := by decide +kernel
theorem dL_all_33 : decode cL_all 33 = .ok (.lmul, 1) := by decide +kernel
theorem dL_all_34 : decode cL_all 34 = .ok (.ladd, 1) := by decide +kernel
theorem dL_all_35 : decode cL_all 35 = .ok (.ldc2_w 110, 3) := by decide +kernel
theorem dL_all_38 : decode cL_all 38 = .ok (.aload_n 0, 1) := by decide +kernel
theorem dL_all_39 : decode cL_all 39 = .ok (.invokevirtual 112, 3) := by decide +kernel
theorem dL_all_42 : decode cL_all 42 = .ok (.i2l, 1) := by decide +kernel
theorem dL_all_43 : decode cL_all 43 = .ok (.lmul, 1) := by decide +kernel
theorem dL_all_44 : decode cL_all 44 = .ok (.ladd, 1) := by decide +kernel
theorem dL_all_45 : decode cL_all 45 = .ok (.lstore_n 1, 1) := by decide +kernel
theorem dL_all_46 : decode cL_all 46 = .ok (.iconst 0, 1) := by decide +kernel
theorem dL_all_47 : decode cL_all 47 = .ok (.istore_n 3, 1) := by decide +kernel
theorem dL_all_48 : decode cL_all 48 = .ok (.iload_n 3, 1) := by decide +kernel
theorem dL_all_49 : decode cL_all 49 = .ok (.aload_n 0, 1) := by decide +kernel
theorem dL_all_50 : decode cL_all 50 = .ok (.invokevirtual 91, 3) := by decide +kernel
theorem dL_all_53 : decode cL_all 53 = .ok (.if_icmp .ge 108, 3) := by decide +kernel
theorem dL_all_56 : decode cL_all 56 = .ok (.ldc2_w 115, 3) := by decide +kernel
theorem dL_all_59 : decode cL_all 59 = .ok (.lload_n 1, 1) := by decide +kernel
theorem dL_all_60 : decode cL_all 60 = .ok (.lmul, 1) := by decide +kernel
theorem dL_all_61 : decode cL_all 61 = .ok (.aload_n 0, 1) := by decide +kernel
theorem dL_all_62 : decode cL_all 62 = .ok (.iconst 2, 1) := by decide +kernel
theorem dL_all_63 : decode cL_all 63 = .ok (.iload_n 3, 1) := by decide +kernel
theorem dL_all_64 : decode cL_all 64 = .ok (.invokestatic 85, 3) := by decide +kernel
theorem dL_all_67 : decode cL_all 67 = .ok (.i2l, 1) := by decide +kernel
theorem dL_all_68 : decode cL_all 68 = .ok (.ladd, 1) := by decide +kernel
theorem dL_all_69 : decode cL_all 69 = .ok (.ldc2_w 117, 3) := by decide +kernel
theorem dL_all_72 : decode cL_all 72 = .ok (.aload_n 0, 1) := by decide +kernel
theorem dL_all_73 : decode cL_all 73 = .ok (.iconst 3, 1) := by decide +kernel
theorem dL_all_74 : decode cL_all 74 = .ok (.iload_n 3, 1) := by decide +kernel
theorem dL_all_75 : decode cL_all 75 = .ok (.invokestatic 85, 3) := by decide +kernel
theorem dL_all_78 : decode cL_all 78 = .ok (.i2l, 1) := by decide +kernel
theorem dL_all_79 : decode cL_all 79 = .ok (.lmul, 1) := by decide +kernel
theorem dL_all_80 : decode cL_all 80 = .ok (.ladd, 1) := by decide +kernel
theorem dL_all_81 : decode cL_all 81 = .ok (.ldc2_w 119, 3) := by decide +kernel
theorem dL_all_84 : decode cL_all 84 = .ok (.aload_n 0, 1) := by decide +kernel
theorem dL_all_85 : decode cL_all 85 = .ok (.iconst 4, 1) := by decide +kernel
theorem dL_all_86 : decode cL_all 86 = .ok (.iload_n 3, 1) := by decide +kernel
theorem dL_all_87 : decode cL_all 87 = .ok (.invokestatic 85, 3) := by decide +kernel
theorem dL_all_90 : decode cL_all 90 = .ok (.i2l, 1) := by decide +kernel
theorem dL_all_91 : decode cL_all 91 = .ok (.lmul, 1) := by decide +kernel
theorem dL_all_92 : decode cL_all 92 = .ok (.ladd, 1) := by decide +kernel
theorem dL_all_93 : decode cL_all 93 = .ok (.ldc2_w 121, 3) := by decide +kernel
theorem dL_all_96 : decode cL_all 96 = .ok (.aload_n 0, 1) := by decide +kernel
theorem dL_all_97 : decode cL_all 97 = .ok (.bipush 6, 2) := by decide +kernel
theorem dL_all_99 : decode cL_all 99 = .ok (.iload_n 3, 1) := by decide +kernel
theorem dL_all_100 : decode cL_all 100 = .ok (.invokestatic 85, 3) := by decide +kernel
theorem dL_all_103 : decode cL_all 103 = .ok (.i2l, 1) := by decide +kernel
theorem dL_all_104 : decode cL_all 104 = .ok (.lmul, 1) := by decide +kernel
theorem dL_all_105 : decode cL_all 105 = .ok (.ladd, 1) := by decide +kernel
theorem dL_all_106 : decode cL_all 106 = .ok (.aload_n 0, 1) := by decide +kernel
theorem dL_all_107 : decode cL_all 107 = .ok (.iload_n 3, 1) := by decide +kernel
theorem dL_all_108 : decode cL_all 108 = .ok (.invokevirtual 41, 3) := by decide +kernel
theorem dL_all_111 : decode cL_all 111 = .ok (.ifCond .eq 9, 3) := by decide +kernel
theorem dL_all_114 : decode cL_all 114 = .ok (.ldc2_w 123, 3) := by decide +kernel
theorem dL_all_117 : decode cL_all 117 = .ok (.goto 4, 3) := by decide +kernel
theorem dL_all_120 : decode cL_all 120 = .ok (.lconst 0, 1) := by decide +kernel
theorem dL_all_121 : decode cL_all 121 = .ok (.ladd, 1) := by decide +kernel
theorem dL_all_122 : decode cL_all 122 = .ok (.aload_n 0, 1) := by decide +kernel
theorem dL_all_123 : decode cL_all 123 = .ok (.iload_n 3, 1) := by decide +kernel
theorem dL_all_124 : decode cL_all 124 = .ok (.invokevirtual 45, 3) := by decide +kernel
theorem dL_all_127 : decode cL_all 127 = .ok (.ifCond .eq 9, 3) := by decide +kernel
theorem dL_all_130 : decode cL_all 130 = .ok (.ldc2_w 125, 3) := by decide +kernel
theorem dL_all_133 : decode cL_all 133 = .ok (.goto 4, 3) := by decide +kernel
theorem dL_all_136 : decode cL_all 136 = .ok (.lconst 0, 1) := by decide +kernel
theorem dL_all_137 : decode cL_all 137 = .ok (.ladd, 1) := by decide +kernel
theorem dL_all_138 : decode cL_all 138 = .ok (.aload_n 0, 1) := by decide +kernel
theorem dL_all_139 : decode cL_all 139 = .ok (.iload_n 3, 1) := by decide +kernel
theorem dL_all_140 : decode cL_all 140 = .ok (.invokevirtual 48, 3) := by decide +kernel
theorem dL_all_143 : decode cL_all 143 = .ok (.ifCond .eq 9, 3) := by decide +kernel
theorem dL_all_146 : decode cL_all 146 = .ok (.ldc2_w 127, 3) := by decide +kernel
theorem dL_all_149 : decode cL_all 149 = .ok (.goto 4, 3) := by decide +kernel
theorem dL_all_152 : decode cL_all 152 = .ok (.lconst 0, 1) := by decide +kernel
theorem dL_all_153 : decode cL_all 153 = .ok (.ladd, 1) := by decide +kernel
theorem dL_all_154 : decode cL_all 154 = .ok (.lstore_n 1, 1) := by decide +kernel
theorem dL_all_155 : decode cL_all 155 = .ok (.iinc 3 1, 3) := by decide +kernel
theorem dL_all_158 : decode cL_all 158 = .ok (.goto (-110), 3) := by decide +kernel
theorem dL_all_161 : decode cL_all 161 = .ok (.lload_n 1, 1) := by decide +kernel
theorem dL_all_162 : decode cL_all 162 = .ok (.lreturn, 1) := by decide +kernel
theorem dL_isObject_0 : decode cL_isObject 0 = .ok (.aload_n 0, 1) := by decide +kernel
theorem dL_isObject_1 : decode cL_isObject 1 = .ok (.iload 4, 2) := by decide +kernel
theorem dL_isObject_3 : decode cL_isObject 3 = .ok (.invokestatic 129, 3) := by decide +kernel
theorem dL_isObject_6 : decode cL_isObject 6 = .ok (.istore 5, 2) := by decide +kernel
theorem dL_isObject_8 : decode cL_isObject 8 = .ok (.aload_n 3, 1) := by decide +kernel
theorem dL_isObject_9 : decode cL_isObject 9 = .ok (.iload 4, 2) := by decide +kernel
theorem dL_isObject_11 : decode cL_isObject 11 = .ok (.iaload, 1) := by decide +kernel
theorem dL_isObject_12 : decode cL_isObject 12 = .ok (.iconst 2, 1) := by decide +kernel
theorem dL_isObject_13 : decode cL_isObject 13 = .ok (.irem, 1) := by decide +kernel
theorem dL_isObject_14 : decode cL_isObject 14 = .ok (.iconst 1, 1) := by decide +kernel
theorem dL_isObject_15 : decode cL_isObject 15 = .ok (.if_icmp .ne 7, 3) := by decide +kernel
theorem dL_isObject_18 : decode cL_isObject 18 = .ok (.iconst 1, 1) := by decide +kernel
theorem dL_isObject_19 : decode cL_isObject 19 = .ok (.goto 4, 3) := by decide +kernel
theorem dL_isObject_22 : decode cL_isObject 22 = .ok (.iconst 0, 1) := by decide +kernel
theorem dL_isObject_23 : decode cL_isObject 23 = .ok (.istore 6, 2) := by decide +kernel
theorem dL_isObject_25 : decode cL_isObject 25 = .ok (.aload_n 3, 1) := by decide +kernel
theorem dL_isObject_26 : decode cL_isObject 26 = .ok (.iload 4, 2) := by decide +kernel
theorem dL_isObject_28 : decode cL_isObject 28 = .ok (.iaload, 1) := by decide +kernel
theorem dL_isObject_29 : decode cL_isObject 29 = .ok (.iconst 2, 1) := by decide +kernel
theorem dL_isObject_30 : decode cL_isObject 30 = .ok (.idiv, 1) := by decide +kernel
theorem dL_isObject_31 : decode cL_isObject 31 = .ok (.iconst 2, 1) := by decide +kernel
theorem dL_isObject_32 : decode cL_isObject 32 = .ok (.irem, 1) := by decide +kernel
theorem dL_isObject_33 : decode cL_isObject 33 = .ok (.iconst 1, 1) := by decide +kernel
theorem dL_isObject_34 : decode cL_isObject 34 = .ok (.if_icmp .ne 7, 3) := by decide +kernel
theorem dL_isObject_37 : decode cL_isObject 37 = .ok (.iconst 1, 1) := by decide +kernel
theorem dL_isObject_38 : decode cL_isObject 38 = .ok (.goto 4, 3) := by decide +kernel
theorem dL_isObject_41 : decode cL_isObject 41 = .ok (.iconst 0, 1) := by decide +kernel
theorem dL_isObject_42 : decode cL_isObject 42 = .ok (.istore 7, 2) := by decide +kernel
theorem dL_isObject_44 : decode cL_isObject 44 = .ok (.aload_n 0, 1) := by decide +kernel
theorem dL_isObject_45 : decode cL_isObject 45 = .ok (.iload 4, 2) := by decide +kernel
theorem dL_isObject_47 : decode cL_isObject 47 = .ok (.invokevirtual 41, 3) := by decide +kernel
theorem dL_isObject_50 : decode cL_isObject 50 = .ok (.iload 6, 2) := by decide +kernel
theorem dL_isObject_52 : decode cL_isObject 52 = .ok (.if_icmp .ne 119, 3) := by decide +kernel
theorem dL_isObject_55 : decode cL_isObject 55 = .ok (.aload_n 0, 1) := by decide +kernel
theorem dL_isObject_56 : decode cL_isObject 56 = .ok (.iload 4, 2) := by decide +kernel
theorem dL_isObject_58 : decode cL_isObject 58 = .ok (.invokevirtual 45, 3) := by decide +kernel
theorem dL_isObject_61 : decode cL_isObject 61 = .ok (.iload 7, 2) := by decide +kernel
theorem dL_isObject_63 : decode cL_isObject 63 = .ok (.if_icmp .ne 108, 3) := by decide +kernel
theorem dL_isObject_66 : decode cL_isObject 66 = .ok (.aload_n 0, 1) := by decide +kernel
theorem dL_isObject_67 : decode cL_isObject 67 = .ok (.iload 4, 2) := by decide +kernel
theorem dL_isObject_69 : decode cL_isObject 69 = .ok (.invokestatic 133, 3) := by decide +kernel
theorem dL_isObject_72 : decode cL_isObject 72 = .ok (.aload_n 0, 1) := by decide +kernel
theorem dL_isObject_73 : decode cL_isObject 73 = .ok (.iload 4, 2) := by decide +kernel
theorem dL_isObject_75 : decode cL_isObject 75 = .ok (.invokevirtual 48, 3) := by decide +kernel
theorem dL_isObject_78 : decode cL_isObject 78 = .ok (.ifCond .eq 10, 3) := by decide +kernel
theorem dL_isObject_81 : decode cL_isObject 81 = .ok (.aload_n 1, 1) := by decide +kernel
theorem dL_isObject_82 : decode cL_isObject 82 = .ok (.iload 4, 2) := by decide +kernel
theorem dL_isObject_84 : decode cL_isObject 84 = .ok (.laload, 1) := by decide +kernel
theorem dL_isObject_85 : decode cL_isObject 85 = .ok (.goto 6, 3) := by decide +kernel
theorem dL_isObject_88 : decode cL_isObject 88 = .ok (.ldc2_w 62, 3) := by decide +kernel
theorem dL_isObject_91 : decode cL_isObject 91 = .ok (.lcmp, 1) := by decide +kernel
theorem dL_isObject_92 : decode cL_isObject 92 = .ok (.ifCond .ne 79, 3) := by decide +kernel
theorem dL_isObject_95 : decode cL_isObject 95 = .ok (.iload 6, 2) := by decide +kernel
theorem dL_isObject_97 : decode cL_isObject 97 = .ok (.ifCond .ne 12, 3) := by decide +kernel
theorem dL_isObject_100 : decode cL_isObject 100 = .ok (.aload_n 0, 1) := by decide +kernel
theorem dL_isObject_101 : decode cL_isObject 101 = .ok (.iload 4, 2) := by decide +kernel
theorem dL_isObject_103 : decode cL_isObject 103 = .ok (.invokevirtual 48, 3) := by decide +kernel
theorem dL_isObject_106 : decode cL_isObject 106 = .ok (.ifCond .ne 65, 3) := by decide +kernel
theorem dL_isObject_109 : decode cL_isObject 109 = .ok (.iload 7, 2) := by decide +kernel
theorem dL_isObject_111 : decode cL_isObject 111 = .ok (.ifCond .eq 12, 3) := by decide +kernel
theorem dL_isObject_114 : decode cL_isObject 114 = .ok (.aload_n 0, 1) := by decide +kernel
theorem dL_isObject_115 : decode cL_isObject 115 = .ok (.iload 4, 2) := by decide +kernel
theorem dL_isObject_117 : decode cL_isObject 117 = .ok (.invokevirtual 48, 3) := by decide +kernel
theorem dL_isObject_120 : decode cL_isObject 120 = .ok (.ifCond .eq 51, 3) := by decide +kernel
theorem dL_isObject_123 : decode cL_isObject 123 = .ok (.aload_n 0, 1) := by decide +kernel
theorem dL_isObject_124 : decode cL_isObject 124 = .ok (.aload_n 1, 1) := by decide +kernel
theorem dL_isObject_125 : decode cL_isObject 125 = .ok (.iload 4, 2) := by decide +kernel
theorem dL_isObject_127 : decode cL_isObject 127 = .ok (.laload, 1) := by decide +kernel
theorem dL_isObject_128 : decode cL_isObject 128 = .ok (.invokevirtual 81, 3) := by decide +kernel
theorem dL_isObject_131 : decode cL_isObject 131 = .ok (.ifCond .lt 40, 3) := by decide +kernel
theorem dL_isObject_134 : decode cL_isObject 134 = .ok (.aload_n 0, 1) := by decide +kernel
theorem dL_isObject_135 : decode cL_isObject 135 = .ok (.aload_n 1, 1) := by decide +kernel
theorem dL_isObject_136 : decode cL_isObject 136 = .ok (.iload 4, 2) := by decide +kernel
theorem dL_isObject_138 : decode cL_isObject 138 = .ok (.laload, 1) := by decide +kernel
theorem dL_isObject_139 : decode cL_isObject 139 = .ok (.invokevirtual 81, 3) := by decide +kernel
theorem dL_isObject_142 : decode cL_isObject 142 = .ok (.sipush 4096, 3) := by decide +kernel
theorem dL_isObject_145 : decode cL_isObject 145 = .ok (.if_icmp .ge 26, 3) := by decide +kernel
theorem dL_isObject_148 : decode cL_isObject 148 = .ok (.iload 5, 2) := by decide +kernel
theorem dL_isObject_150 : decode cL_isObject 150 = .ok (.ifCond .ne 17, 3) := by decide +kernel
theorem dL_isObject_153 : decode cL_isObject 153 = .ok (.iload 7, 2) := by decide +kernel
theorem dL_isObject_155 : decode cL_isObject 155 = .ok (.ifCond .ne 12, 3) := by decide +kernel
theorem dL_isObject_158 : decode cL_isObject 158 = .ok (.aload_n 0, 1) := by decide +kernel
theorem dL_isObject_159 : decode cL_isObject 159 = .ok (.iload 4, 2) := by decide +kernel
theorem dL_isObject_161 : decode cL_isObject 161 = .ok (.invokevirtual 48, 3) := by decide +kernel
theorem dL_isObject_164 : decode cL_isObject 164 = .ok (.ifCond .ne 7, 3) := by decide +kernel
theorem dL_isObject_167 : decode cL_isObject 167 = .ok (.iconst 1, 1) := by decide +kernel
theorem dL_isObject_168 : decode cL_isObject 168 = .ok (.goto 4, 3) := by decide +kernel
theorem dL_isObject_171 : decode cL_isObject 171 = .ok (.iconst 0, 1) := by decide +kernel
theorem dL_isObject_172 : decode cL_isObject 172 = .ok (.istore 8, 2) := by decide +kernel
theorem dL_isObject_174 : decode cL_isObject 174 = .ok (.iload 8, 2) := by decide +kernel
theorem dL_isObject_176 : decode cL_isObject 176 = .ok (.ifCond .eq 8, 3) := by decide +kernel
theorem dL_isObject_179 : decode cL_isObject 179 = .ok (.iload 5, 2) := by decide +kernel
theorem dL_isObject_181 : decode cL_isObject 181 = .ok (.ifCond .ne 75, 3) := by decide +kernel
theorem dL_isObject_184 : decode cL_isObject 184 = .ok (.iload 8, 2) := by decide +kernel
theorem dL_isObject_186 : decode cL_isObject 186 = .ok (.ifCond .eq 68, 3) := by decide +kernel
theorem dL_isObject_189 : decode cL_isObject 189 = .ok (.aload_n 0, 1) := by decide +kernel
theorem dL_isObject_190 : decode cL_isObject 190 = .ok (.iconst 3, 1) := by decide +kernel
theorem dL_isObject_191 : decode cL_isObject 191 = .ok (.iload 4, 2) := by decide +kernel
theorem dL_isObject_193 : decode cL_isObject 193 = .ok (.invokestatic 85, 3) := by decide +kernel
theorem dL_isObject_196 : decode cL_isObject 196 = .ok (.bipush (-103), 2) := by decide +kernel
theorem dL_isObject_198 : decode cL_isObject 198 = .ok (.if_icmp .ne 56, 3) := by decide +kernel
theorem dL_isObject_201 : decode cL_isObject 201 = .ok (.aload_n 0, 1) := by decide +kernel
theorem dL_isObject_202 : decode cL_isObject 202 = .ok (.iconst 4, 1) := by decide +kernel
theorem dL_isObject_203 : decode cL_isObject 203 = .ok (.iload 4, 2) := by decide +kernel
theorem dL_isObject_205 : decode cL_isObject 205 = .ok (.invokestatic 85, 3) := by decide +kernel
theorem dL_isObject_208 : decode cL_isObject 208 = .ok (.bipush (-103), 2) := by decide +kernel
theorem dL_isObject_210 : decode cL_isObject 210 = .ok (.if_icmp .ne 44, 3) := by decide +kernel
theorem dL_isObject_213 : decode cL_isObject 213 = .ok (.aload_n 0, 1) := by decide +kernel
theorem dL_isObject_214 : decode cL_isObject 214 = .ok (.iconst 5, 1) := by decide +kernel
theorem dL_isObject_215 : decode cL_isObject 215 = .ok (.iload 4, 2) := by decide +kernel
theorem dL_isObject_217 : decode cL_isObject 217 = .ok (.invokestatic 85, 3) := by decide +kernel
theorem dL_isObject_220 : decode cL_isObject 220 = .ok (.bipush (-103), 2) := by decide +kernel
theorem dL_isObject_222 : decode cL_isObject 222 = .ok (.if_icmp .ne 32, 3) := by decide +kernel
theorem dL_isObject_225 : decode cL_isObject 225 = .ok (.aload_n 0, 1) := by decide +kernel
theorem dL_isObject_226 : decode cL_isObject 226 = .ok (.bipush 6, 2) := by decide +kernel
theorem dL_isObject_228 : decode cL_isObject 228 = .ok (.iload 4, 2) := by decide +kernel
theorem dL_isObject_230 : decode cL_isObject 230 = .ok (.invokestatic 85, 3) := by decide +kernel
theorem dL_isObject_233 : decode cL_isObject 233 = .ok (.bipush (-103), 2) := by decide +kernel
theorem dL_isObject_235 : decode cL_isObject 235 = .ok (.if_icmp .ne 19, 3) := by decide +kernel
theorem dL_isObject_238 : decode cL_isObject 238 = .ok (.aload_n 0, 1) := by decide +kernel
theorem dL_isObject_239 : decode cL_isObject 239 = .ok (.iconst 1, 1) := by decide +kernel
theorem dL_isObject_240 : decode cL_isObject 240 = .ok (.iload 4, 2) := by decide +kernel
theorem dL_isObject_242 : decode cL_isObject 242 = .ok (.invokestatic 85, 3) := by decide +kernel
theorem dL_isObject_245 : decode cL_isObject 245 = .ok (.bipush (-103), 2) := by decide +kernel
theorem dL_isObject_247 : decode cL_isObject 247 = .ok (.if_icmp .ne 7, 3) := by decide +kernel
theorem dL_isObject_250 : decode cL_isObject 250 = .ok (.iconst 1, 1) := by decide +kernel
theorem dL_isObject_251 : decode cL_isObject 251 = .ok (.goto 4, 3) := by decide +kernel
theorem dL_isObject_254 : decode cL_isObject 254 = .ok (.iconst 0, 1) := by decide +kernel
theorem dL_isObject_255 : decode cL_isObject 255 = .ok (.ireturn, 1) := by decide +kernel
theorem dL_isObject_256 : decode cL_isObject 256 = .ok (.aload_n 0, 1) := by decide +kernel
theorem dL_isObject_257 : decode cL_isObject 257 = .ok (.iload 4, 2) := by decide +kernel
theorem dL_isObject_259 : decode cL_isObject 259 = .ok (.invokevirtual 29, 3) := by decide +kernel
theorem dL_isObject_262 : decode cL_isObject 262 = .ok (.istore 9, 2) := by decide +kernel
theorem dL_isObject_264 : decode cL_isObject 264 = .ok (.iconst 0, 1) := by decide +kernel
theorem dL_isObject_265 : decode cL_isObject 265 = .ok (.istore 10, 2) := by decide +kernel
theorem dL_isObject_267 : decode cL_isObject 267 = .ok (.iconst 1, 1) := by decide +kernel
theorem dL_isObject_268 : decode cL_isObject 268 = .ok (.istore 11, 2) := by decide +kernel
theorem dL_isObject_270 : decode cL_isObject 270 = .ok (.iload 4, 2) := by decide +kernel
theorem dL_isObject_272 : decode cL_isObject 272 = .ok (.istore 12, 2) := by decide +kernel
theorem dL_isObject_274 : decode cL_isObject 274 = .ok (.iload 12, 2) := by decide +kernel
theorem dL_isObject_276 : decode cL_isObject 276 = .ok (.ifCond .lt 45, 3) := by decide +kernel
theorem dL_isObject_279 : decode cL_isObject 279 = .ok (.iload 10, 2) := by decide +kernel
theorem dL_isObject_281 : decode cL_isObject 281 = .ok (.bipush 8, 2) := by decide +kernel
theorem dL_isObject_283 : decode cL_isObject 283 = .ok (.if_icmp .ge 38, 3) := by decide +kernel
theorem dL_isObject_286 : decode cL_isObject 286 = .ok (.iload 11, 2) := by decide +kernel
theorem dL_isObject_288 : decode cL_isObject 288 = .ok (.ifCond .eq 16, 3) := by decide +kernel
theorem dL_isObject_291 : decode cL_isObject 291 = .ok (.aload_n 3, 1) := by decide +kernel
theorem dL_isObject_292 : decode cL_isObject 292 = .ok (.iload 12, 2) := by decide +kernel
theorem dL_isObject_294 : decode cL_isObject 294 = .ok (.iaload, 1) := by decide +kernel
theorem dL_isObject_295 : decode cL_isObject 295 = .ok (.iconst 4, 1) := by decide +kernel
theorem dL_isObject_296 : decode cL_isObject 296 = .ok (.idiv, 1) := by decide +kernel
theorem dL_isObject_297 : decode cL_isObject 297 = .ok (.ifCond .ne 7, 3) := by decide +kernel
theorem dL_isObject_300 : decode cL_isObject 300 = .ok (.iconst 1, 1) := by decide +kernel
theorem dL_isObject_301 : decode cL_isObject 301 = .ok (.goto 4, 3) := by decide +kernel
theorem dL_isObject_304 : decode cL_isObject 304 = .ok (.iconst 0, 1) := by decide +kernel
theorem dL_isObject_305 : decode cL_isObject 305 = .ok (.istore 11, 2) := by decide +kernel
theorem dL_isObject_307 : decode cL_isObject 307 = .ok (.iinc 10 1, 3) := by decide +kernel
theorem dL_isObject_310 : decode cL_isObject 310 = .ok (.aload_n 0, 1) := by decide +kernel
theorem dL_isObject_311 : decode cL_isObject 311 = .ok (.iload 12, 2) := by decide +kernel
theorem dL_isObject_313 : decode cL_isObject 313 = .ok (.invokevirtual 29, 3) := by decide +kernel
theorem dL_isObject_316 : decode cL_isObject 316 = .ok (.istore 12, 2) := by decide +kernel
theorem dL_isObject_318 : decode cL_isObject 318 = .ok (.goto (-44), 3) := by decide +kernel
theorem dL_isObject_321 : decode cL_isObject 321 = .ok (.iload 10, 2) := by decide +kernel
theorem dL_isObject_323 : decode cL_isObject 323 = .ok (.aload_n 0, 1) := by decide +kernel
theorem dL_isObject_324 : decode cL_isObject 324 = .ok (.iload 4, 2) := by decide +kernel
theorem dL_isObject_326 : decode cL_isObject 326 = .ok (.invokevirtual 32, 3) := by decide +kernel
theorem dL_isObject_329 : decode cL_isObject 329 = .ok (.iconst 1, 1) := by decide +kernel
theorem dL_isObject_330 : decode cL_isObject 330 = .ok (.iadd, 1) := by decide +kernel
theorem dL_isObject_331 : decode cL_isObject 331 = .ok (.if_icmp .ne 189, 3) := by decide +kernel
theorem dL_isObject_334 : decode cL_isObject 334 = .ok (.iload 6, 2) := by decide +kernel
theorem dL_isObject_336 : decode cL_isObject 336 = .ok (.ifCond .eq 19, 3) := by decide +kernel
theorem dL_isObject_339 : decode cL_isObject 339 = .ok (.iload 7, 2) := by decide +kernel
theorem dL_isObject_341 : decode cL_isObject 341 = .ok (.ifCond .ne 14, 3) := by decide +kernel
theorem dL_isObject_344 : decode cL_isObject 344 = .ok (.aload_n 0, 1) := by decide +kernel
theorem dL_isObject_345 : decode cL_isObject 345 = .ok (.iload 4, 2) := by decide +kernel
theorem dL_isObject_347 : decode cL_isObject 347 = .ok (.invokevirtual 48, 3) := by decide +kernel
theorem dL_isObject_350 : decode cL_isObject 350 = .ok (.iload 11, 2) := by decide +kernel
theorem dL_isObject_352 : decode cL_isObject 352 = .ok (.if_icmp .ne 168, 3) := by decide +kernel
theorem dL_isObject_355 : decode cL_isObject 355 = .ok (.iload 9, 2) := by decide +kernel
theorem dL_isObject_357 : decode cL_isObject 357 = .ok (.ifCond .ge 32, 3) := by decide +kernel
theorem dL_isObject_360 : decode cL_isObject 360 = .ok (.aload_n 0, 1) := by decide +kernel
theorem dL_isObject_361 : decode cL_isObject 361 = .ok (.iload 4, 2) := by decide +kernel
theorem dL_isObject_363 : decode cL_isObject 363 = .ok (.invokevirtual 26, 3) := by decide +kernel
theorem dL_isObject_366 : decode cL_isObject 366 = .ok (.aload_n 1, 1) := by decide +kernel
theorem dL_isObject_367 : decode cL_isObject 367 = .ok (.iload 4, 2) := by decide +kernel
theorem dL_isObject_369 : decode cL_isObject 369 = .ok (.laload, 1) := by decide +kernel
theorem dL_isObject_370 : decode cL_isObject 370 = .ok (.invokestatic 136, 3) := by decide +kernel
theorem dL_isObject_373 : decode cL_isObject 373 = .ok (.if_icmp .ne 147, 3) := by decide +kernel
theorem dL_isObject_376 : decode cL_isObject 376 = .ok (.aload_n 0, 1) := by decide +kernel
theorem dL_isObject_377 : decode cL_isObject 377 = .ok (.iload 4, 2) := by decide +kernel
theorem dL_isObject_379 : decode cL_isObject 379 = .ok (.invokevirtual 35, 3) := by decide +kernel
theorem dL_isObject_382 : decode cL_isObject 382 = .ok (.iconst 1, 1) := by decide +kernel
theorem dL_isObject_383 : decode cL_isObject 383 = .ok (.if_icmp .ne 137, 3) := by decide +kernel
theorem dL_isObject_386 : decode cL_isObject 386 = .ok (.goto 130, 3) := by decide +kernel
theorem dL_isObject_389 : decode cL_isObject 389 = .ok (.aload_n 0, 1) := by decide +kernel
theorem dL_isObject_390 : decode cL_isObject 390 = .ok (.iload 9, 2) := by decide +kernel
theorem dL_isObject_392 : decode cL_isObject 392 = .ok (.invokestatic 129, 3) := by decide +kernel
theorem dL_isObject_395 : decode cL_isObject 395 = .ok (.ifCond .eq 125, 3) := by decide +kernel
theorem dL_isObject_398 : decode cL_isObject 398 = .ok (.iload 9, 2) := by decide +kernel
theorem dL_isObject_400 : decode cL_isObject 400 = .ok (.iload 4, 2) := by decide +kernel
theorem dL_isObject_402 : decode cL_isObject 402 = .ok (.if_icmp .eq 118, 3) := by decide +kernel
theorem dL_isObject_405 : decode cL_isObject 405 = .ok (.aload_n 0, 1) := by decide +kernel
theorem dL_isObject_406 : decode cL_isObject 406 = .ok (.iload 4, 2) := by decide +kernel
theorem dL_isObject_408 : decode cL_isObject 408 = .ok (.invokevirtual 26, 3) := by decide +kernel
theorem dL_isObject_411 : decode cL_isObject 411 = .ok (.aload_n 0, 1) := by decide +kernel
theorem dL_isObject_412 : decode cL_isObject 412 = .ok (.iload 4, 2) := by decide +kernel
theorem dL_isObject_414 : decode cL_isObject 414 = .ok (.iload 9, 2) := by decide +kernel
theorem dL_isObject_416 : decode cL_isObject 416 = .ok (.invokevirtual 68, 3) := by decide +kernel
theorem dL_isObject_419 : decode cL_isObject 419 = .ok (.if_icmp .ne 101, 3) := by decide +kernel
theorem dL_isObject_422 : decode cL_isObject 422 = .ok (.aload_n 0, 1) := by decide +kernel
theorem dL_isObject_423 : decode cL_isObject 423 = .ok (.iload 4, 2) := by decide +kernel
theorem dL_isObject_425 : decode cL_isObject 425 = .ok (.invokevirtual 26, 3) := by decide +kernel
theorem dL_isObject_428 : decode cL_isObject 428 = .ok (.aload_n 1, 1) := by decide +kernel
theorem dL_isObject_429 : decode cL_isObject 429 = .ok (.iload 4, 2) := by decide +kernel
theorem dL_isObject_431 : decode cL_isObject 431 = .ok (.laload, 1) := by decide +kernel
theorem dL_isObject_432 : decode cL_isObject 432 = .ok (.invokestatic 136, 3) := by decide +kernel
theorem dL_isObject_435 : decode cL_isObject 435 = .ok (.if_icmp .ge 85, 3) := by decide +kernel
theorem dL_isObject_438 : decode cL_isObject 438 = .ok (.aload_n 0, 1) := by decide +kernel
theorem dL_isObject_439 : decode cL_isObject 439 = .ok (.iload 9, 2) := by decide +kernel
theorem dL_isObject_441 : decode cL_isObject 441 = .ok (.invokevirtual 38, 3) := by decide +kernel
theorem dL_isObject_444 : decode cL_isObject 444 = .ok (.aload_n 0, 1) := by decide +kernel
theorem dL_isObject_445 : decode cL_isObject 445 = .ok (.iload 4, 2) := by decide +kernel
theorem dL_isObject_447 : decode cL_isObject 447 = .ok (.invokevirtual 38, 3) := by decide +kernel
theorem dL_isObject_450 : decode cL_isObject 450 = .ok (.if_icmp .le 70, 3) := by decide +kernel
theorem dL_isObject_453 : decode cL_isObject 453 = .ok (.aload_n 2, 1) := by decide +kernel
theorem dL_isObject_454 : decode cL_isObject 454 = .ok (.iload 9, 2) := by decide +kernel
theorem dL_isObject_456 : decode cL_isObject 456 = .ok (.iaload, 1) := by decide +kernel
theorem dL_isObject_457 : decode cL_isObject 457 = .ok (.aload_n 2, 1) := by decide +kernel
theorem dL_isObject_458 : decode cL_isObject 458 = .ok (.iload 4, 2) := by decide +kernel
theorem dL_isObject_460 : decode cL_isObject 460 = .ok (.iaload, 1) := by decide +kernel
theorem dL_isObject_461 : decode cL_isObject 461 = .ok (.if_icmp .lt 55, 3) := by decide +kernel
theorem dL_isObject_464 : decode cL_isObject 464 = .ok (.aload_n 2, 1) := by decide +kernel
theorem dL_isObject_465 : decode cL_isObject 465 = .ok (.iload 9, 2) := by decide +kernel
theorem dL_isObject_467 : decode cL_isObject 467 = .ok (.iaload, 1) := by decide +kernel
theorem dL_isObject_468 : decode cL_isObject 468 = .ok (.aload_n 2, 1) := by decide +kernel
theorem dL_isObject_469 : decode cL_isObject 469 = .ok (.iload 4, 2) := by decide +kernel
theorem dL_isObject_471 : decode cL_isObject 471 = .ok (.iaload, 1) := by decide +kernel
theorem dL_isObject_472 : decode cL_isObject 472 = .ok (.if_icmp .ne 48, 3) := by decide +kernel
theorem dL_isObject_475 : decode cL_isObject 475 = .ok (.aload_n 1, 1) := by decide +kernel
theorem dL_isObject_476 : decode cL_isObject 476 = .ok (.iload 9, 2) := by decide +kernel
theorem dL_isObject_478 : decode cL_isObject 478 = .ok (.laload, 1) := by decide +kernel
theorem dL_isObject_479 : decode cL_isObject 479 = .ok (.invokestatic 136, 3) := by decide +kernel
theorem dL_isObject_482 : decode cL_isObject 482 = .ok (.aload_n 1, 1) := by decide +kernel
theorem dL_isObject_483 : decode cL_isObject 483 = .ok (.iload 4, 2) := by decide +kernel
theorem dL_isObject_485 : decode cL_isObject 485 = .ok (.laload, 1) := by decide +kernel
theorem dL_isObject_486 : decode cL_isObject 486 = .ok (.invokestatic 136, 3) := by decide +kernel
theorem dL_isObject_489 : decode cL_isObject 489 = .ok (.if_icmp .gt 27, 3) := by decide +kernel
theorem dL_isObject_492 : decode cL_isObject 492 = .ok (.aload_n 1, 1) := by decide +kernel
theorem dL_isObject_493 : decode cL_isObject 493 = .ok (.iload 9, 2) := by decide +kernel
theorem dL_isObject_495 : decode cL_isObject 495 = .ok (.laload, 1) := by decide +kernel
theorem dL_isObject_496 : decode cL_isObject 496 = .ok (.invokestatic 136, 3) := by decide +kernel
theorem dL_isObject_499 : decode cL_isObject 499 = .ok (.aload_n 1, 1) := by decide +kernel
theorem dL_isObject_500 : decode cL_isObject 500 = .ok (.iload 4, 2) := by decide +kernel
theorem dL_isObject_502 : decode cL_isObject 502 = .ok (.laload, 1) := by decide +kernel
theorem dL_isObject_503 : decode cL_isObject 503 = .ok (.invokestatic 136, 3) := by decide +kernel
theorem dL_isObject_506 : decode cL_isObject 506 = .ok (.if_icmp .ne 14, 3) := by decide +kernel
theorem dL_isObject_509 : decode cL_isObject 509 = .ok (.iload 9, 2) := by decide +kernel
theorem dL_isObject_511 : decode cL_isObject 511 = .ok (.iload 4, 2) := by decide +kernel
theorem dL_isObject_513 : decode cL_isObject 513 = .ok (.if_icmp .ge 7, 3) := by decide +kernel
theorem dL_isObject_516 : decode cL_isObject 516 = .ok (.iconst 1, 1) := by decide +kernel
theorem dL_isObject_517 : decode cL_isObject 517 = .ok (.goto 4, 3) := by decide +kernel
theorem dL_isObject_520 : decode cL_isObject 520 = .ok (.iconst 0, 1) := by decide +kernel
theorem dL_isObject_521 : decode cL_isObject 521 = .ok (.ireturn, 1) := by decide +kernel
theorem dL_areDeltas_0 : decode cL_areDeltas 0 = .ok (.aload_n 0, 1) := by decide +kernel
theorem dL_areDeltas_1 : decode cL_areDeltas 1 = .ok (.iload_n 2, 1) := by decide +kernel
theorem dL_areDeltas_2 : decode cL_areDeltas 2 = .ok (.iload_n 3, 1) := by decide +kernel
theorem dL_areDeltas_3 : decode cL_areDeltas 3 = .ok (.invokevirtual 68, 3) := by decide +kernel
theorem dL_areDeltas_6 : decode cL_areDeltas 6 = .ok (.istore 4, 2) := by decide +kernel
theorem dL_areDeltas_8 : decode cL_areDeltas 8 = .ok (.aload_n 1, 1) := by decide +kernel
theorem dL_areDeltas_9 : decode cL_areDeltas 9 = .ok (.iload_n 2, 1) := by decide +kernel
theorem dL_areDeltas_10 : decode cL_areDeltas 10 = .ok (.laload, 1) := by decide +kernel
theorem dL_areDeltas_11 : decode cL_areDeltas 11 = .ok (.invokestatic 136, 3) := by decide +kernel
theorem dL_areDeltas_14 : decode cL_areDeltas 14 = .ok (.istore 5, 2) := by decide +kernel
theorem dL_areDeltas_16 : decode cL_areDeltas 16 = .ok (.iload 4, 2) := by decide +kernel
theorem dL_areDeltas_18 : decode cL_areDeltas 18 = .ok (.iconst 2, 1) := by decide +kernel
theorem dL_areDeltas_19 : decode cL_areDeltas 19 = .ok (.if_icmp .lt 101, 3) := by decide +kernel
theorem dL_areDeltas_22 : decode cL_areDeltas 22 = .ok (.iload 4, 2) := by decide +kernel
theorem dL_areDeltas_24 : decode cL_areDeltas 24 = .ok (.iload 5, 2) := by decide +kernel
theorem dL_areDeltas_26 : decode cL_areDeltas 26 = .ok (.iconst 1, 1) := by decide +kernel
theorem dL_areDeltas_27 : decode cL_areDeltas 27 = .ok (.iadd, 1) := by decide +kernel
theorem dL_areDeltas_28 : decode cL_areDeltas 28 = .ok (.if_icmp .gt 92, 3) := by decide +kernel
theorem dL_areDeltas_31 : decode cL_areDeltas 31 = .ok (.aload_n 1, 1) := by decide +kernel
theorem dL_areDeltas_32 : decode cL_areDeltas 32 = .ok (.iload_n 2, 1) := by decide +kernel
theorem dL_areDeltas_33 : decode cL_areDeltas 33 = .ok (.laload, 1) := by decide +kernel
theorem dL_areDeltas_34 : decode cL_areDeltas 34 = .ok (.aload_n 1, 1) := by decide +kernel
theorem dL_areDeltas_35 : decode cL_areDeltas 35 = .ok (.iload_n 3, 1) := by decide +kernel
theorem dL_areDeltas_36 : decode cL_areDeltas 36 = .ok (.laload, 1) := by decide +kernel
theorem dL_areDeltas_37 : decode cL_areDeltas 37 = .ok (.lcmp, 1) := by decide +kernel
theorem dL_areDeltas_38 : decode cL_areDeltas 38 = .ok (.ifCond .ne 19, 3) := by decide +kernel
theorem dL_areDeltas_41 : decode cL_areDeltas 41 = .ok (.iload 4, 2) := by decide +kernel
theorem dL_areDeltas_43 : decode cL_areDeltas 43 = .ok (.iload 5, 2) := by decide +kernel
theorem dL_areDeltas_45 : decode cL_areDeltas 45 = .ok (.iconst 1, 1) := by decide +kernel
theorem dL_areDeltas_46 : decode cL_areDeltas 46 = .ok (.if_icmp .le 7, 3) := by decide +kernel
theorem dL_areDeltas_49 : decode cL_areDeltas 49 = .ok (.iconst 3, 1) := by decide +kernel
theorem dL_areDeltas_50 : decode cL_areDeltas 50 = .ok (.goto 4, 3) := by decide +kernel
theorem dL_areDeltas_53 : decode cL_areDeltas 53 = .ok (.iconst 2, 1) := by decide +kernel
theorem dL_areDeltas_54 : decode cL_areDeltas 54 = .ok (.if_icmp .ne 66, 3) := by decide +kernel
theorem dL_areDeltas_57 : decode cL_areDeltas 57 = .ok (.aload_n 0, 1) := by decide +kernel
theorem dL_areDeltas_58 : decode cL_areDeltas 58 = .ok (.iload_n 2, 1) := by decide +kernel
theorem dL_areDeltas_59 : decode cL_areDeltas 59 = .ok (.iload_n 2, 1) := by decide +kernel
theorem dL_areDeltas_60 : decode cL_areDeltas 60 = .ok (.invokevirtual 68, 3) := by decide +kernel
theorem dL_areDeltas_63 : decode cL_areDeltas 63 = .ok (.iload 5, 2) := by decide +kernel
theorem dL_areDeltas_65 : decode cL_areDeltas 65 = .ok (.iconst 1, 1) := by decide +kernel
theorem dL_areDeltas_66 : decode cL_areDeltas 66 = .ok (.if_icmp .le 7, 3) := by decide +kernel
theorem dL_areDeltas_69 : decode cL_areDeltas 69 = .ok (.iconst 3, 1) := by decide +kernel
theorem dL_areDeltas_70 : decode cL_areDeltas 70 = .ok (.goto 4, 3) := by decide +kernel
theorem dL_areDeltas_73 : decode cL_areDeltas 73 = .ok (.iconst 2, 1) := by decide +kernel
theorem dL_areDeltas_74 : decode cL_areDeltas 74 = .ok (.if_icmp .ne 46, 3) := by decide +kernel
theorem dL_areDeltas_77 : decode cL_areDeltas 77 = .ok (.iload 4, 2) := by decide +kernel
theorem dL_areDeltas_79 : decode cL_areDeltas 79 = .ok (.iconst 2, 1) := by decide +kernel
theorem dL_areDeltas_80 : decode cL_areDeltas 80 = .ok (.if_icmp .gt 9, 3) := by decide +kernel
theorem dL_areDeltas_83 : decode cL_areDeltas 83 = .ok (.iload 5, 2) := by decide +kernel
theorem dL_areDeltas_85 : decode cL_areDeltas 85 = .ok (.iconst 1, 1) := by decide +kernel
theorem dL_areDeltas_86 : decode cL_areDeltas 86 = .ok (.if_icmp .ne 34, 3) := by decide +kernel
theorem dL_areDeltas_89 : decode cL_areDeltas 89 = .ok (.aload_n 0, 1) := by decide +kernel
theorem dL_areDeltas_90 : decode cL_areDeltas 90 = .ok (.aload_n 1, 1) := by decide +kernel
theorem dL_areDeltas_91 : decode cL_areDeltas 91 = .ok (.iload_n 2, 1) := by decide +kernel
theorem dL_areDeltas_92 : decode cL_areDeltas 92 = .ok (.laload, 1) := by decide +kernel
theorem dL_areDeltas_93 : decode cL_areDeltas 93 = .ok (.invokevirtual 81, 3) := by decide +kernel
theorem dL_areDeltas_96 : decode cL_areDeltas 96 = .ok (.aload_n 0, 1) := by decide +kernel
theorem dL_areDeltas_97 : decode cL_areDeltas 97 = .ok (.aload_n 1, 1) := by decide +kernel
theorem dL_areDeltas_98 : decode cL_areDeltas 98 = .ok (.iload_n 3, 1) := by decide +kernel
theorem dL_areDeltas_99 : decode cL_areDeltas 99 = .ok (.laload, 1) := by decide +kernel
theorem dL_areDeltas_100 : decode cL_areDeltas 100 = .ok (.invokevirtual 81, 3) := by decide +kernel
theorem dL_areDeltas_103 : decode cL_areDeltas 103 = .ok (.if_icmp .eq 13, 3) := by decide +kernel
theorem dL_areDeltas_106 : decode cL_areDeltas 106 = .ok (.aload_n 1, 1) := by decide +kernel
theorem dL_areDeltas_107 : decode cL_areDeltas 107 = .ok (.iload_n 2, 1) := by decide +kernel
theorem dL_areDeltas_108 : decode cL_areDeltas 108 = .ok (.laload, 1) := by decide +kernel
theorem dL_areDeltas_109 : decode cL_areDeltas 109 = .ok (.aload_n 1, 1) := by decide +kernel
theorem dL_areDeltas_110 : decode cL_areDeltas 110 = .ok (.iload_n 3, 1) := by decide +kernel
theorem dL_areDeltas_111 : decode cL_areDeltas 111 = .ok (.laload, 1) := by decide +kernel
theorem dL_areDeltas_112 : decode cL_areDeltas 112 = .ok (.lcmp, 1) := by decide +kernel
theorem dL_areDeltas_113 : decode cL_areDeltas 113 = .ok (.ifCond .eq 7, 3) := by decide +kernel
theorem dL_areDeltas_116 : decode cL_areDeltas 116 = .ok (.iconst 1, 1) := by decide +kernel
theorem dL_areDeltas_117 : decode cL_areDeltas 117 = .ok (.goto 4, 3) := by decide +kernel
theorem dL_areDeltas_120 : decode cL_areDeltas 120 = .ok (.iconst 0, 1) := by decide +kernel
theorem dL_areDeltas_121 : decode cL_areDeltas 121 = .ok (.ireturn, 1) := by decide +kernel
theorem dL_isIndex_0 : decode cL_isIndex 0 = .ok (.aload_n 0, 1) := by decide +kernel
theorem dL_isIndex_1 : decode cL_isIndex 1 = .ok (.invokevirtual 97, 3) := by decide +kernel
theorem dL_isIndex_4 : decode cL_isIndex 4 = .ok (.istore_n 2, 1) := by decide +kernel
theorem dL_isIndex_5 : decode cL_isIndex 5 = .ok (.iconst (-1), 1) := by decide +kernel
theorem dL_isIndex_6 : decode cL_isIndex 6 = .ok (.istore_n 3, 1) := by decide +kernel
theorem dL_isIndex_7 : decode cL_isIndex 7 = .ok (.iconst (-1), 1) := by decide +kernel
theorem dL_isIndex_8 : decode cL_isIndex 8 = .ok (.istore 4, 2) := by decide +kernel
theorem dL_isIndex_10 : decode cL_isIndex 10 = .ok (.aload_n 0, 1) := by decide +kernel
theorem dL_isIndex_11 : decode cL_isIndex 11 = .ok (.bipush 15, 2) := by decide +kernel
theorem dL_isIndex_13 : decode cL_isIndex 13 = .ok (.invokevirtual 72, 3) := by decide +kernel
theorem dL_isIndex_16 : decode cL_isIndex 16 = .ok (.iload_n 2, 1) := by decide +kernel
theorem dL_isIndex_17 : decode cL_isIndex 17 = .ok (.if_icmp .ne 31, 3) := by decide +kernel
theorem dL_isIndex_20 : decode cL_isIndex 20 = .ok (.aload_n 0, 1) := by decide +kernel
theorem dL_isIndex_21 : decode cL_isIndex 21 = .ok (.bipush 10, 2) := by decide +kernel
theorem dL_isIndex_23 : decode cL_isIndex 23 = .ok (.iload_n 2, 1) := by decide +kernel
theorem dL_isIndex_24 : decode cL_isIndex 24 = .ok (.invokestatic 85, 3) := by decide +kernel
theorem dL_isIndex_27 : decode cL_isIndex 27 = .ok (.bipush (-101), 2) := by decide +kernel
theorem dL_isIndex_29 : decode cL_isIndex 29 = .ok (.if_icmp .ne 19, 3) := by decide +kernel
theorem dL_isIndex_32 : decode cL_isIndex 32 = .ok (.aload_n 0, 1) := by decide +kernel
theorem dL_isIndex_33 : decode cL_isIndex 33 = .ok (.bipush 10, 2) := by decide +kernel
theorem dL_isIndex_35 : decode cL_isIndex 35 = .ok (.iconst (-1), 1) := by decide +kernel
theorem dL_isIndex_36 : decode cL_isIndex 36 = .ok (.invokestatic 85, 3) := by decide +kernel
theorem dL_isIndex_39 : decode cL_isIndex 39 = .ok (.bipush (-101), 2) := by decide +kernel
theorem dL_isIndex_41 : decode cL_isIndex 41 = .ok (.if_icmp .ne 7, 3) := by decide +kernel
theorem dL_isIndex_44 : decode cL_isIndex 44 = .ok (.iconst 1, 1) := by decide +kernel
theorem dL_isIndex_45 : decode cL_isIndex 45 = .ok (.goto 4, 3) := by decide +kernel
theorem dL_isIndex_48 : decode cL_isIndex 48 = .ok (.iconst 0, 1) := by decide +kernel
theorem dL_isIndex_49 : decode cL_isIndex 49 = .ok (.istore 5, 2) := by decide +kernel
theorem dL_isIndex_51 : decode cL_isIndex 51 = .ok (.iconst 0, 1) := by decide +kernel
theorem dL_isIndex_52 : decode cL_isIndex 52 = .ok (.istore 6, 2) := by decide +kernel
theorem dL_isIndex_54 : decode cL_isIndex 54 = .ok (.iload 6, 2) := by decide +kernel
theorem dL_isIndex_56 : decode cL_isIndex 56 = .ok (.iload_n 2, 1) := by decide +kernel
theorem dL_isIndex_57 : decode cL_isIndex 57 = .ok (.if_icmp .ge 189, 3) := by decide +kernel
theorem dL_isIndex_60 : decode cL_isIndex 60 = .ok (.iload 5, 2) := by decide +kernel
theorem dL_isIndex_62 : decode cL_isIndex 62 = .ok (.ifCond .eq 184, 3) := by decide +kernel
theorem dL_isIndex_65 : decode cL_isIndex 65 = .ok (.aload_n 0, 1) := by decide +kernel
theorem dL_isIndex_66 : decode cL_isIndex 66 = .ok (.iload 6, 2) := by decide +kernel
theorem dL_isIndex_68 : decode cL_isIndex 68 = .ok (.invokevirtual 51, 3) := by decide +kernel
theorem dL_isIndex_71 : decode cL_isIndex 71 = .ok (.istore 7, 2) := by decide +kernel
theorem dL_isIndex_73 : decode cL_isIndex 73 = .ok (.aload_n 0, 1) := by decide +kernel
theorem dL_isIndex_74 : decode cL_isIndex 74 = .ok (.aload_n 1, 1) := by decide +kernel
theorem dL_isIndex_75 : decode cL_isIndex 75 = .ok (.iload 7, 2) := by decide +kernel
theorem dL_isIndex_77 : decode cL_isIndex 77 = .ok (.laload, 1) := by decide +kernel
theorem dL_isIndex_78 : decode cL_isIndex 78 = .ok (.invokevirtual 81, 3) := by decide +kernel
theorem dL_isIndex_81 : decode cL_isIndex 81 = .ok (.istore 8, 2) := by decide +kernel
theorem dL_isIndex_83 : decode cL_isIndex 83 = .ok (.aload_n 0, 1) := by decide +kernel
theorem dL_isIndex_84 : decode cL_isIndex 84 = .ok (.iload 8, 2) := by decide +kernel
theorem dL_isIndex_86 : decode cL_isIndex 86 = .ok (.invokevirtual 75, 3) := by decide +kernel
theorem dL_isIndex_89 : decode cL_isIndex 89 = .ok (.istore 9, 2) := by decide +kernel
theorem dL_isIndex_91 : decode cL_isIndex 91 = .ok (.iload 8, 2) := by decide +kernel
theorem dL_isIndex_93 : decode cL_isIndex 93 = .ok (.sipush 256, 3) := by decide +kernel
theorem dL_isIndex_96 : decode cL_isIndex 96 = .ok (.idiv, 1) := by decide +kernel
theorem dL_isIndex_97 : decode cL_isIndex 97 = .ok (.istore 10, 2) := by decide +kernel
theorem dL_isIndex_99 : decode cL_isIndex 99 = .ok (.aload_n 0, 1) := by decide +kernel
theorem dL_isIndex_100 : decode cL_isIndex 100 = .ok (.iload 7, 2) := by decide +kernel
theorem dL_isIndex_102 : decode cL_isIndex 102 = .ok (.invokestatic 129, 3) := by decide +kernel
theorem dL_isIndex_105 : decode cL_isIndex 105 = .ok (.ifCond .eq 125, 3) := by decide +kernel
theorem dL_isIndex_108 : decode cL_isIndex 108 = .ok (.iload 8, 2) := by decide +kernel
theorem dL_isIndex_110 : decode cL_isIndex 110 = .ok (.iload_n 3, 1) := by decide +kernel
theorem dL_isIndex_111 : decode cL_isIndex 111 = .ok (.if_icmp .gt 16, 3) := by decide +kernel
theorem dL_isIndex_114 : decode cL_isIndex 114 = .ok (.iload 8, 2) := by decide +kernel
theorem dL_isIndex_116 : decode cL_isIndex 116 = .ok (.iload_n 3, 1) := by decide +kernel
theorem dL_isIndex_117 : decode cL_isIndex 117 = .ok (.if_icmp .ne 113, 3) := by decide +kernel
theorem dL_isIndex_120 : decode cL_isIndex 120 = .ok (.iload 7, 2) := by decide +kernel
theorem dL_isIndex_122 : decode cL_isIndex 122 = .ok (.iload 4, 2) := by decide +kernel
theorem dL_isIndex_124 : decode cL_isIndex 124 = .ok (.if_icmp .le 106, 3) := by decide +kernel
theorem dL_isIndex_127 : decode cL_isIndex 127 = .ok (.iload 9, 2) := by decide +kernel
theorem dL_isIndex_129 : decode cL_isIndex 129 = .ok (.ifCond .lt 101, 3) := by decide +kernel
theorem dL_isIndex_132 : decode cL_isIndex 132 = .ok (.aload_n 0, 1) := by decide +kernel
theorem dL_isIndex_133 : decode cL_isIndex 133 = .ok (.aload_n 1, 1) := by decide +kernel
theorem dL_isIndex_134 : decode cL_isIndex 134 = .ok (.iload 9, 2) := by decide +kernel
theorem dL_isIndex_136 : decode cL_isIndex 136 = .ok (.laload, 1) := by decide +kernel
theorem dL_isIndex_137 : decode cL_isIndex 137 = .ok (.invokevirtual 81, 3) := by decide +kernel
theorem dL_isIndex_140 : decode cL_isIndex 140 = .ok (.iload 8, 2) := by decide +kernel
theorem dL_isIndex_142 : decode cL_isIndex 142 = .ok (.if_icmp .ne 88, 3) := by decide +kernel
theorem dL_isIndex_145 : decode cL_isIndex 145 = .ok (.aload_n 0, 1) := by decide +kernel
theorem dL_isIndex_146 : decode cL_isIndex 146 = .ok (.iload 8, 2) := by decide +kernel
theorem dL_isIndex_148 : decode cL_isIndex 148 = .ok (.invokevirtual 78, 3) := by decide +kernel
theorem dL_isIndex_151 : decode cL_isIndex 151 = .ok (.iconst 1, 1) := by decide +kernel
theorem dL_isIndex_152 : decode cL_isIndex 152 = .ok (.if_icmp .lt 78, 3) := by decide +kernel
theorem dL_isIndex_155 : decode cL_isIndex 155 = .ok (.aload_n 0, 1) := by decide +kernel
theorem dL_isIndex_156 : decode cL_isIndex 156 = .ok (.iload 8, 2) := by decide +kernel
theorem dL_isIndex_158 : decode cL_isIndex 158 = .ok (.invokevirtual 78, 3) := by decide +kernel
theorem dL_isIndex_161 : decode cL_isIndex 161 = .ok (.bipush 6, 2) := by decide +kernel
theorem dL_isIndex_163 : decode cL_isIndex 163 = .ok (.if_icmp .gt 67, 3) := by decide +kernel
theorem dL_isIndex_166 : decode cL_isIndex 166 = .ok (.aload_n 0, 1) := by decide +kernel
theorem dL_isIndex_167 : decode cL_isIndex 167 = .ok (.iload 10, 2) := by decide +kernel
theorem dL_isIndex_169 : decode cL_isIndex 169 = .ok (.invokevirtual 72, 3) := by decide +kernel
theorem dL_isIndex_172 : decode cL_isIndex 172 = .ok (.iload 6, 2) := by decide +kernel
theorem dL_isIndex_174 : decode cL_isIndex 174 = .ok (.if_icmp .le 56, 3) := by decide +kernel
theorem dL_isIndex_177 : decode cL_isIndex 177 = .ok (.iload 10, 2) := by decide +kernel
theorem dL_isIndex_179 : decode cL_isIndex 179 = .ok (.ifCond .eq 16, 3) := by decide +kernel
theorem dL_isIndex_182 : decode cL_isIndex 182 = .ok (.aload_n 0, 1) := by decide +kernel
theorem dL_isIndex_183 : decode cL_isIndex 183 = .ok (.iload 10, 2) := by decide +kernel
theorem dL_isIndex_185 : decode cL_isIndex 185 = .ok (.iconst 1, 1) := by decide +kernel
theorem dL_isIndex_186 : decode cL_isIndex 186 = .ok (.isub, 1) := by decide +kernel
theorem dL_isIndex_187 : decode cL_isIndex 187 = .ok (.invokevirtual 72, 3) := by decide +kernel
theorem dL_isIndex_190 : decode cL_isIndex 190 = .ok (.iload 6, 2) := by decide +kernel
theorem dL_isIndex_192 : decode cL_isIndex 192 = .ok (.if_icmp .gt 38, 3) := by decide +kernel
theorem dL_isIndex_195 : decode cL_isIndex 195 = .ok (.iload 8, 2) := by decide +kernel
theorem dL_isIndex_197 : decode cL_isIndex 197 = .ok (.iload_n 3, 1) := by decide +kernel
theorem dL_isIndex_198 : decode cL_isIndex 198 = .ok (.if_icmp .eq 28, 3) := by decide +kernel
theorem dL_isIndex_201 : decode cL_isIndex 201 = .ok (.iload 8, 2) := by decide +kernel
theorem dL_isIndex_203 : decode cL_isIndex 203 = .ok (.ifCond .eq 23, 3) := by decide +kernel
theorem dL_isIndex_206 : decode cL_isIndex 206 = .ok (.iload 8, 2) := by decide +kernel
theorem dL_isIndex_208 : decode cL_isIndex 208 = .ok (.iconst 1, 1) := by decide +kernel
theorem dL_isIndex_209 : decode cL_isIndex 209 = .ok (.isub, 1) := by decide +kernel
theorem dL_isIndex_210 : decode cL_isIndex 210 = .ok (.iload_n 3, 1) := by decide +kernel
theorem dL_isIndex_211 : decode cL_isIndex 211 = .ok (.if_icmp .eq 15, 3) := by decide +kernel
theorem dL_isIndex_214 : decode cL_isIndex 214 = .ok (.aload_n 0, 1) := by decide +kernel
theorem dL_isIndex_215 : decode cL_isIndex 215 = .ok (.iload 8, 2) := by decide +kernel
theorem dL_isIndex_217 : decode cL_isIndex 217 = .ok (.iconst 1, 1) := by decide +kernel
theorem dL_isIndex_218 : decode cL_isIndex 218 = .ok (.isub, 1) := by decide +kernel
theorem dL_isIndex_219 : decode cL_isIndex 219 = .ok (.invokevirtual 75, 3) := by decide +kernel
theorem dL_isIndex_222 : decode cL_isIndex 222 = .ok (.iconst (-1), 1) := by decide +kernel
theorem dL_isIndex_223 : decode cL_isIndex 223 = .ok (.if_icmp .ne 7, 3) := by decide +kernel
theorem dL_isIndex_226 : decode cL_isIndex 226 = .ok (.iconst 1, 1) := by decide +kernel
theorem dL_isIndex_227 : decode cL_isIndex 227 = .ok (.goto 4, 3) := by decide +kernel
theorem dL_isIndex_230 : decode cL_isIndex 230 = .ok (.iconst 0, 1) := by decide +kernel
theorem dL_isIndex_231 : decode cL_isIndex 231 = .ok (.istore 5, 2) := by decide +kernel
theorem dL_isIndex_233 : decode cL_isIndex 233 = .ok (.iload 8, 2) := by decide +kernel
theorem dL_isIndex_235 : decode cL_isIndex 235 = .ok (.istore_n 3, 1) := by decide +kernel
theorem dL_isIndex_236 : decode cL_isIndex 236 = .ok (.iload 7, 2) := by decide +kernel
theorem dL_isIndex_238 : decode cL_isIndex 238 = .ok (.istore 4, 2) := by decide +kernel
theorem dL_isIndex_240 : decode cL_isIndex 240 = .ok (.iinc 6 1, 3) := by decide +kernel
theorem dL_isIndex_243 : decode cL_isIndex 243 = .ok (.goto (-189), 3) := by decide +kernel
theorem dL_isIndex_246 : decode cL_isIndex 246 = .ok (.iconst 1, 1) := by decide +kernel
theorem dL_isIndex_247 : decode cL_isIndex 247 = .ok (.istore 6, 2) := by decide +kernel
theorem dL_isIndex_249 : decode cL_isIndex 249 = .ok (.iload 6, 2) := by decide +kernel
theorem dL_isIndex_251 : decode cL_isIndex 251 = .ok (.bipush 16, 2) := by decide +kernel
theorem dL_isIndex_253 : decode cL_isIndex 253 = .ok (.if_icmp .ge 88, 3) := by decide +kernel
theorem dL_isIndex_256 : decode cL_isIndex 256 = .ok (.iload 5, 2) := by decide +kernel
theorem dL_isIndex_258 : decode cL_isIndex 258 = .ok (.ifCond .eq 83, 3) := by decide +kernel
theorem dL_isIndex_261 : decode cL_isIndex 261 = .ok (.aload_n 0, 1) := by decide +kernel
theorem dL_isIndex_262 : decode cL_isIndex 262 = .ok (.iload 6, 2) := by decide +kernel
theorem dL_isIndex_264 : decode cL_isIndex 264 = .ok (.invokevirtual 72, 3) := by decide +kernel
theorem dL_isIndex_267 : decode cL_isIndex 267 = .ok (.aload_n 0, 1) := by decide +kernel
theorem dL_isIndex_268 : decode cL_isIndex 268 = .ok (.iload 6, 2) := by decide +kernel
theorem dL_isIndex_270 : decode cL_isIndex 270 = .ok (.iconst 1, 1) := by decide +kernel
theorem dL_isIndex_271 : decode cL_isIndex 271 = .ok (.isub, 1) := by decide +kernel
theorem dL_isIndex_272 : decode cL_isIndex 272 = .ok (.invokevirtual 72, 3) := by decide +kernel
theorem dL_isIndex_275 : decode cL_isIndex 275 = .ok (.if_icmp .lt 57, 3) := by decide +kernel
theorem dL_isIndex_278 : decode cL_isIndex 278 = .ok (.aload_n 0, 1) := by decide +kernel
theorem dL_isIndex_279 : decode cL_isIndex 279 = .ok (.iload 6, 2) := by decide +kernel
theorem dL_isIndex_281 : decode cL_isIndex 281 = .ok (.invokevirtual 72, 3) := by decide +kernel
theorem dL_isIndex_284 : decode cL_isIndex 284 = .ok (.aload_n 0, 1) := by decide +kernel
theorem dL_isIndex_285 : decode cL_isIndex 285 = .ok (.iload 6, 2) := by decide +kernel
theorem dL_isIndex_287 : decode cL_isIndex 287 = .ok (.iconst 1, 1) := by decide +kernel
theorem dL_isIndex_288 : decode cL_isIndex 288 = .ok (.isub, 1) := by decide +kernel
theorem dL_isIndex_289 : decode cL_isIndex 289 = .ok (.invokevirtual 72, 3) := by decide +kernel
theorem dL_isIndex_292 : decode cL_isIndex 292 = .ok (.if_icmp .gt 36, 3) := by decide +kernel
theorem dL_isIndex_295 : decode cL_isIndex 295 = .ok (.aload_n 0, 1) := by decide +kernel
theorem dL_isIndex_296 : decode cL_isIndex 296 = .ok (.sipush 256, 3) := by decide +kernel
theorem dL_isIndex_299 : decode cL_isIndex 299 = .ok (.iload 6, 2) := by decide +kernel
theorem dL_isIndex_301 : decode cL_isIndex 301 = .ok (.imul, 1) := by decide +kernel
theorem dL_isIndex_302 : decode cL_isIndex 302 = .ok (.bipush 77, 2) := by decide +kernel
theorem dL_isIndex_304 : decode cL_isIndex 304 = .ok (.iadd, 1) := by decide +kernel
theorem dL_isIndex_305 : decode cL_isIndex 305 = .ok (.invokevirtual 78, 3) := by decide +kernel
theorem dL_isIndex_308 : decode cL_isIndex 308 = .ok (.ifCond .ne 24, 3) := by decide +kernel
theorem dL_isIndex_311 : decode cL_isIndex 311 = .ok (.aload_n 0, 1) := by decide +kernel
theorem dL_isIndex_312 : decode cL_isIndex 312 = .ok (.sipush 256, 3) := by decide +kernel
theorem dL_isIndex_315 : decode cL_isIndex 315 = .ok (.iload 6, 2) := by decide +kernel
theorem dL_isIndex_317 : decode cL_isIndex 317 = .ok (.imul, 1) := by decide +kernel
theorem dL_isIndex_318 : decode cL_isIndex 318 = .ok (.bipush 77, 2) := by decide +kernel
theorem dL_isIndex_320 : decode cL_isIndex 320 = .ok (.iadd, 1) := by decide +kernel
theorem dL_isIndex_321 : decode cL_isIndex 321 = .ok (.invokevirtual 75, 3) := by decide +kernel
theorem dL_isIndex_324 : decode cL_isIndex 324 = .ok (.iconst (-1), 1) := by decide +kernel
theorem dL_isIndex_325 : decode cL_isIndex 325 = .ok (.if_icmp .ne 7, 3) := by decide +kernel
theorem dL_isIndex_328 : decode cL_isIndex 328 = .ok (.iconst 1, 1) := by decide +kernel
theorem dL_isIndex_329 : decode cL_isIndex 329 = .ok (.goto 4, 3) := by decide +kernel
theorem dL_isIndex_332 : decode cL_isIndex 332 = .ok (.iconst 0, 1) := by decide +kernel
theorem dL_isIndex_333 : decode cL_isIndex 333 = .ok (.istore 5, 2) := by decide +kernel
theorem dL_isIndex_335 : decode cL_isIndex 335 = .ok (.iinc 6 1, 3) := by decide +kernel
theorem dL_isIndex_338 : decode cL_isIndex 338 = .ok (.goto (-89), 3) := by decide +kernel
theorem dL_isIndex_341 : decode cL_isIndex 341 = .ok (.iload 5, 2) := by decide +kernel
theorem dL_isIndex_343 : decode cL_isIndex 343 = .ok (.ireturn, 1) := by decide +kernel
theorem dL_isRefused_0 : decode cL_isRefused 0 = .ok (.iload_n 1, 1) := by decide +kernel
theorem dL_isRefused_1 : decode cL_isRefused 1 = .ok (.iconst 2, 1) := by decide +kernel
theorem dL_isRefused_2 : decode cL_isRefused 2 = .ok (.irem, 1) := by decide +kernel
theorem dL_isRefused_3 : decode cL_isRefused 3 = .ok (.ifCond .ne 7, 3) := by decide +kernel
theorem dL_isRefused_6 : decode cL_isRefused 6 = .ok (.iconst 1, 1) := by decide +kernel
theorem dL_isRefused_7 : decode cL_isRefused 7 = .ok (.goto 4, 3) := by decide +kernel
theorem dL_isRefused_10 : decode cL_isRefused 10 = .ok (.iconst 0, 1) := by decide +kernel
theorem dL_isRefused_11 : decode cL_isRefused 11 = .ok (.istore_n 2, 1) := by decide +kernel
theorem dL_isRefused_12 : decode cL_isRefused 12 = .ok (.iload_n 2, 1) := by decide +kernel
theorem dL_isRefused_13 : decode cL_isRefused 13 = .ok (.ifCond .eq 12, 3) := by decide +kernel
theorem dL_isRefused_16 : decode cL_isRefused 16 = .ok (.iconst (-1), 1) := by decide +kernel
theorem dL_isRefused_17 : decode cL_isRefused 17 = .ok (.iload_n 1, 1) := by decide +kernel
theorem dL_isRefused_18 : decode cL_isRefused 18 = .ok (.bipush 70, 2) := by decide +kernel
theorem dL_isRefused_20 : decode cL_isRefused 20 = .ok (.irem, 1) := by decide +kernel
theorem dL_isRefused_21 : decode cL_isRefused 21 = .ok (.isub, 1) := by decide +kernel
theorem dL_isRefused_22 : decode cL_isRefused 22 = .ok (.goto 12, 3) := by decide +kernel
theorem dL_isRefused_25 : decode cL_isRefused 25 = .ok (.aload_n 0, 1) := by decide +kernel
theorem dL_isRefused_26 : decode cL_isRefused 26 = .ok (.invokevirtual 91, 3) := by decide +kernel
theorem dL_isRefused_29 : decode cL_isRefused 29 = .ok (.iload_n 1, 1) := by decide +kernel
theorem dL_isRefused_30 : decode cL_isRefused 30 = .ok (.bipush 70, 2) := by decide +kernel
theorem dL_isRefused_32 : decode cL_isRefused 32 = .ok (.irem, 1) := by decide +kernel
theorem dL_isRefused_33 : decode cL_isRefused 33 = .ok (.iadd, 1) := by decide +kernel
theorem dL_isRefused_34 : decode cL_isRefused 34 = .ok (.istore_n 3, 1) := by decide +kernel
theorem dL_isRefused_35 : decode cL_isRefused 35 = .ok (.iload_n 2, 1) := by decide +kernel
theorem dL_isRefused_36 : decode cL_isRefused 36 = .ok (.ifCond .eq 12, 3) := by decide +kernel
theorem dL_isRefused_39 : decode cL_isRefused 39 = .ok (.iconst (-1), 1) := by decide +kernel
theorem dL_isRefused_40 : decode cL_isRefused 40 = .ok (.iload_n 1, 1) := by decide +kernel
theorem dL_isRefused_41 : decode cL_isRefused 41 = .ok (.bipush 70, 2) := by decide +kernel
theorem dL_isRefused_43 : decode cL_isRefused 43 = .ok (.irem, 1) := by decide +kernel
theorem dL_isRefused_44 : decode cL_isRefused 44 = .ok (.isub, 1) := by decide +kernel
theorem dL_isRefused_45 : decode cL_isRefused 45 = .ok (.goto 11, 3) := by decide +kernel
theorem dL_isRefused_48 : decode cL_isRefused 48 = .ok (.sipush 4096, 3) := by decide +kernel
theorem dL_isRefused_51 : decode cL_isRefused 51 = .ok (.iload_n 1, 1) := by decide +kernel
theorem dL_isRefused_52 : decode cL_isRefused 52 = .ok (.bipush 70, 2) := by decide +kernel
theorem dL_isRefused_54 : decode cL_isRefused 54 = .ok (.irem, 1) := by decide +kernel
theorem dL_isRefused_55 : decode cL_isRefused 55 = .ok (.iadd, 1) := by decide +kernel
theorem dL_isRefused_56 : decode cL_isRefused 56 = .ok (.istore 4, 2) := by decide +kernel
theorem dL_isRefused_58 : decode cL_isRefused 58 = .ok (.aload_n 0, 1) := by decide +kernel
theorem dL_isRefused_59 : decode cL_isRefused 59 = .ok (.invokestatic 139, 3) := by decide +kernel
theorem dL_isRefused_62 : decode cL_isRefused 62 = .ok (.lstore 5, 2) := by decide +kernel
theorem dL_isRefused_64 : decode cL_isRefused 64 = .ok (.aload_n 0, 1) := by decide +kernel
theorem dL_isRefused_65 : decode cL_isRefused 65 = .ok (.iload_n 2, 1) := by decide +kernel
theorem dL_isRefused_66 : decode cL_isRefused 66 = .ok (.ifCond .eq 12, 3) := by decide +kernel
theorem dL_isRefused_69 : decode cL_isRefused 69 = .ok (.iconst (-1), 1) := by decide +kernel
theorem dL_isRefused_70 : decode cL_isRefused 70 = .ok (.iload_n 1, 1) := by decide +kernel
theorem dL_isRefused_71 : decode cL_isRefused 71 = .ok (.bipush 70, 2) := by decide +kernel
theorem dL_isRefused_73 : decode cL_isRefused 73 = .ok (.irem, 1) := by decide +kernel
theorem dL_isRefused_74 : decode cL_isRefused 74 = .ok (.isub, 1) := by decide +kernel
theorem dL_isRefused_75 : decode cL_isRefused 75 = .ok (.goto 10, 3) := by decide +kernel
theorem dL_isRefused_78 : decode cL_isRefused 78 = .ok (.bipush 100, 2) := by decide +kernel
theorem dL_isRefused_80 : decode cL_isRefused 80 = .ok (.iload_n 1, 1) := by decide +kernel
theorem dL_isRefused_81 : decode cL_isRefused 81 = .ok (.bipush 70, 2) := by decide +kernel
theorem dL_isRefused_83 : decode cL_isRefused 83 = .ok (.irem, 1) := by decide +kernel
theorem dL_isRefused_84 : decode cL_isRefused 84 = .ok (.iadd, 1) := by decide +kernel
theorem dL_isRefused_85 : decode cL_isRefused 85 = .ok (.ldc2_w 123, 3) := by decide +kernel
theorem dL_isRefused_88 : decode cL_isRefused 88 = .ok (.invokestatic 143, 3) := by decide +kernel
theorem dL_isRefused_91 : decode cL_isRefused 91 = .ok (.bipush (-102), 2) := by decide +kernel
theorem dL_isRefused_93 : decode cL_isRefused 93 = .ok (.if_icmp .ne 269, 3) := by decide +kernel
theorem dL_isRefused_96 : decode cL_isRefused 96 = .ok (.aload_n 0, 1) := by decide +kernel
theorem dL_isRefused_97 : decode cL_isRefused 97 = .ok (.iconst 5, 1) := by decide +kernel
theorem dL_isRefused_98 : decode cL_isRefused 98 = .ok (.lconst 0, 1) := by decide +kernel
theorem dL_isRefused_99 : decode cL_isRefused 99 = .ok (.iload_n 1, 1) := by decide +kernel
theorem dL_isRefused_100 : decode cL_isRefused 100 = .ok (.bipush 70, 2) := by decide +kernel
theorem dL_isRefused_102 : decode cL_isRefused 102 = .ok (.irem, 1) := by decide +kernel
theorem dL_isRefused_103 : decode cL_isRefused 103 = .ok (.i2l, 1) := by decide +kernel
theorem dL_isRefused_104 : decode cL_isRefused 104 = .ok (.lsub, 1) := by decide +kernel
theorem dL_isRefused_105 : decode cL_isRefused 105 = .ok (.invokestatic 143, 3) := by decide +kernel
theorem dL_isRefused_108 : decode cL_isRefused 108 = .ok (.bipush (-102), 2) := by decide +kernel
theorem dL_isRefused_110 : decode cL_isRefused 110 = .ok (.if_icmp .ne 252, 3) := by decide +kernel
theorem dL_isRefused_113 : decode cL_isRefused 113 = .ok (.aload_n 0, 1) := by decide +kernel
theorem dL_isRefused_114 : decode cL_isRefused 114 = .ok (.iconst 5, 1) := by decide +kernel
theorem dL_isRefused_115 : decode cL_isRefused 115 = .ok (.ldc2_w 146, 3) := by decide +kernel
theorem dL_isRefused_118 : decode cL_isRefused 118 = .ok (.iconst 1, 1) := by decide +kernel
theorem dL_isRefused_119 : decode cL_isRefused 119 = .ok (.iload_n 1, 1) := by decide +kernel
theorem dL_isRefused_120 : decode cL_isRefused 120 = .ok (.bipush 70, 2) := by decide +kernel
theorem dL_isRefused_122 : decode cL_isRefused 122 = .ok (.irem, 1) := by decide +kernel
theorem dL_isRefused_123 : decode cL_isRefused 123 = .ok (.iadd, 1) := by decide +kernel
theorem dL_isRefused_124 : decode cL_isRefused 124 = .ok (.i2l, 1) := by decide +kernel
theorem dL_isRefused_125 : decode cL_isRefused 125 = .ok (.lmul, 1) := by decide +kernel
theorem dL_isRefused_126 : decode cL_isRefused 126 = .ok (.invokestatic 143, 3) := by decide +kernel
theorem dL_isRefused_129 : decode cL_isRefused 129 = .ok (.bipush (-102), 2) := by decide +kernel
theorem dL_isRefused_131 : decode cL_isRefused 131 = .ok (.if_icmp .ne 231, 3) := by decide +kernel
theorem dL_isRefused_134 : decode cL_isRefused 134 = .ok (.aload_n 0, 1) := by decide +kernel
theorem dL_isRefused_135 : decode cL_isRefused 135 = .ok (.iconst 5, 1) := by decide +kernel
theorem dL_isRefused_136 : decode cL_isRefused 136 = .ok (.ldc2_w 148, 3) := by decide +kernel
theorem dL_isRefused_139 : decode cL_isRefused 139 = .ok (.invokestatic 143, 3) := by decide +kernel
theorem dL_isRefused_142 : decode cL_isRefused 142 = .ok (.bipush (-102), 2) := by decide +kernel
theorem dL_isRefused_144 : decode cL_isRefused 144 = .ok (.if_icmp .ne 218, 3) := by decide +kernel
theorem dL_isRefused_147 : decode cL_isRefused 147 = .ok (.aload_n 0, 1) := by decide +kernel
theorem dL_isRefused_148 : decode cL_isRefused 148 = .ok (.iconst 5, 1) := by decide +kernel
theorem dL_isRefused_149 : decode cL_isRefused 149 = .ok (.ldc2_w 150, 3) := by decide +kernel
theorem dL_isRefused_152 : decode cL_isRefused 152 = .ok (.iload_n 1, 1) := by decide +kernel
theorem dL_isRefused_153 : decode cL_isRefused 153 = .ok (.i2l, 1) := by decide +kernel
theorem dL_isRefused_154 : decode cL_isRefused 154 = .ok (.ladd, 1) := by decide +kernel
theorem dL_isRefused_155 : decode cL_isRefused 155 = .ok (.invokestatic 143, 3) := by decide +kernel
theorem dL_isRefused_158 : decode cL_isRefused 158 = .ok (.bipush (-102), 2) := by decide +kernel
theorem dL_isRefused_160 : decode cL_isRefused 160 = .ok (.if_icmp .ne 202, 3) := by decide +kernel
theorem dL_isRefused_163 : decode cL_isRefused 163 = .ok (.aload_n 0, 1) := by decide +kernel
theorem dL_isRefused_164 : decode cL_isRefused 164 = .ok (.invokevirtual 91, 3) := by decide +kernel
theorem dL_isRefused_167 : decode cL_isRefused 167 = .ok (.bipush 40, 2) := by decide +kernel
theorem dL_isRefused_169 : decode cL_isRefused 169 = .ok (.if_icmp .lt 16, 3) := by decide +kernel
theorem dL_isRefused_172 : decode cL_isRefused 172 = .ok (.aload_n 0, 1) := by decide +kernel
theorem dL_isRefused_173 : decode cL_isRefused 173 = .ok (.iconst 5, 1) := by decide +kernel
theorem dL_isRefused_174 : decode cL_isRefused 174 = .ok (.ldc2_w 123, 3) := by decide +kernel
theorem dL_isRefused_177 : decode cL_isRefused 177 = .ok (.invokestatic 143, 3) := by decide +kernel
theorem dL_isRefused_180 : decode cL_isRefused 180 = .ok (.bipush (-103), 2) := by decide +kernel
theorem dL_isRefused_182 : decode cL_isRefused 182 = .ok (.if_icmp .ne 180, 3) := by decide +kernel
theorem dL_isRefused_185 : decode cL_isRefused 185 = .ok (.aload_n 0, 1) := by decide +kernel
theorem dL_isRefused_186 : decode cL_isRefused 186 = .ok (.iload_n 2, 1) := by decide +kernel
theorem dL_isRefused_187 : decode cL_isRefused 187 = .ok (.ifCond .eq 7, 3) := by decide +kernel
theorem dL_isRefused_190 : decode cL_isRefused 190 = .ok (.iconst 0, 1) := by decide +kernel
theorem dL_isRefused_191 : decode cL_isRefused 191 = .ok (.goto 10, 3) := by decide +kernel
theorem dL_isRefused_194 : decode cL_isRefused 194 = .ok (.bipush 9, 2) := by decide +kernel
theorem dL_isRefused_196 : decode cL_isRefused 196 = .ok (.iload_n 1, 1) := by decide +kernel
theorem dL_isRefused_197 : decode cL_isRefused 197 = .ok (.bipush 70, 2) := by decide +kernel
theorem dL_isRefused_199 : decode cL_isRefused 199 = .ok (.irem, 1) := by decide +kernel
theorem dL_isRefused_200 : decode cL_isRefused 200 = .ok (.iadd, 1) := by decide +kernel
theorem dL_isRefused_201 : decode cL_isRefused 201 = .ok (.iconst 3, 1) := by decide +kernel
theorem dL_isRefused_202 : decode cL_isRefused 202 = .ok (.iload_n 2, 1) := by decide +kernel
theorem dL_isRefused_203 : decode cL_isRefused 203 = .ok (.invokestatic 152, 3) := by decide +kernel
theorem dL_isRefused_206 : decode cL_isRefused 206 = .ok (.bipush (-102), 2) := by decide +kernel
theorem dL_isRefused_208 : decode cL_isRefused 208 = .ok (.if_icmp .ne 154, 3) := by decide +kernel
theorem dL_isRefused_211 : decode cL_isRefused 211 = .ok (.aload_n 0, 1) := by decide +kernel
theorem dL_isRefused_212 : decode cL_isRefused 212 = .ok (.iconst 3, 1) := by decide +kernel
theorem dL_isRefused_213 : decode cL_isRefused 213 = .ok (.iload_n 2, 1) := by decide +kernel
theorem dL_isRefused_214 : decode cL_isRefused 214 = .ok (.ifCond .eq 7, 3) := by decide +kernel
theorem dL_isRefused_217 : decode cL_isRefused 217 = .ok (.iconst (-1), 1) := by decide +kernel
theorem dL_isRefused_218 : decode cL_isRefused 218 = .ok (.goto 10, 3) := by decide +kernel
theorem dL_isRefused_221 : decode cL_isRefused 221 = .ok (.bipush 7, 2) := by decide +kernel
theorem dL_isRefused_223 : decode cL_isRefused 223 = .ok (.iload_n 1, 1) := by decide +kernel
theorem dL_isRefused_224 : decode cL_isRefused 224 = .ok (.bipush 70, 2) := by decide +kernel
theorem dL_isRefused_226 : decode cL_isRefused 226 = .ok (.irem, 1) := by decide +kernel
theorem dL_isRefused_227 : decode cL_isRefused 227 = .ok (.iadd, 1) := by decide +kernel
theorem dL_isRefused_228 : decode cL_isRefused 228 = .ok (.iload_n 2, 1) := by decide +kernel
theorem dL_isRefused_229 : decode cL_isRefused 229 = .ok (.invokestatic 152, 3) := by decide +kernel
theorem dL_isRefused_232 : decode cL_isRefused 232 = .ok (.bipush (-102), 2) := by decide +kernel
theorem dL_isRefused_234 : decode cL_isRefused 234 = .ok (.if_icmp .ne 128, 3) := by decide +kernel
theorem dL_isRefused_237 : decode cL_isRefused 237 = .ok (.aload_n 0, 1) := by decide +kernel
theorem dL_isRefused_238 : decode cL_isRefused 238 = .ok (.iload_n 3, 1) := by decide +kernel
theorem dL_isRefused_239 : decode cL_isRefused 239 = .ok (.invokestatic 133, 3) := by decide +kernel
theorem dL_isRefused_242 : decode cL_isRefused 242 = .ok (.ldc2_w 60, 3) := by decide +kernel
theorem dL_isRefused_245 : decode cL_isRefused 245 = .ok (.lcmp, 1) := by decide +kernel
theorem dL_isRefused_246 : decode cL_isRefused 246 = .ok (.ifCond .ne 116, 3) := by decide +kernel
theorem dL_isRefused_249 : decode cL_isRefused 249 = .ok (.aload_n 0, 1) := by decide +kernel
theorem dL_isRefused_250 : decode cL_isRefused 250 = .ok (.iload_n 3, 1) := by decide +kernel
theorem dL_isRefused_251 : decode cL_isRefused 251 = .ok (.iload_n 3, 1) := by decide +kernel
theorem dL_isRefused_252 : decode cL_isRefused 252 = .ok (.invokestatic 155, 3) := by decide +kernel
theorem dL_isRefused_255 : decode cL_isRefused 255 = .ok (.bipush (-101), 2) := by decide +kernel
theorem dL_isRefused_257 : decode cL_isRefused 257 = .ok (.if_icmp .ne 105, 3) := by decide +kernel
theorem dL_isRefused_260 : decode cL_isRefused 260 = .ok (.aload_n 0, 1) := by decide +kernel
theorem dL_isRefused_261 : decode cL_isRefused 261 = .ok (.iconst 0, 1) := by decide +kernel
theorem dL_isRefused_262 : decode cL_isRefused 262 = .ok (.iload_n 2, 1) := by decide +kernel
theorem dL_isRefused_263 : decode cL_isRefused 263 = .ok (.ifCond .eq 7, 3) := by decide +kernel
theorem dL_isRefused_266 : decode cL_isRefused 266 = .ok (.iconst (-1), 1) := by decide +kernel
theorem dL_isRefused_267 : decode cL_isRefused 267 = .ok (.goto 10, 3) := by decide +kernel
theorem dL_isRefused_270 : decode cL_isRefused 270 = .ok (.bipush 16, 2) := by decide +kernel
theorem dL_isRefused_272 : decode cL_isRefused 272 = .ok (.iload_n 1, 1) := by decide +kernel
theorem dL_isRefused_273 : decode cL_isRefused 273 = .ok (.bipush 70, 2) := by decide +kernel
theorem dL_isRefused_275 : decode cL_isRefused 275 = .ok (.irem, 1) := by decide +kernel
theorem dL_isRefused_276 : decode cL_isRefused 276 = .ok (.iadd, 1) := by decide +kernel
theorem dL_isRefused_277 : decode cL_isRefused 277 = .ok (.ldc2_w 123, 3) := by decide +kernel
theorem dL_isRefused_280 : decode cL_isRefused 280 = .ok (.invokestatic 157, 3) := by decide +kernel
theorem dL_isRefused_283 : decode cL_isRefused 283 = .ok (.bipush (-102), 2) := by decide +kernel
theorem dL_isRefused_285 : decode cL_isRefused 285 = .ok (.if_icmp .ne 77, 3) := by decide +kernel
theorem dL_isRefused_288 : decode cL_isRefused 288 = .ok (.aload_n 0, 1) := by decide +kernel
theorem dL_isRefused_289 : decode cL_isRefused 289 = .ok (.iconst 1, 1) := by decide +kernel
theorem dL_isRefused_290 : decode cL_isRefused 290 = .ok (.iload 4, 2) := by decide +kernel
theorem dL_isRefused_292 : decode cL_isRefused 292 = .ok (.ldc2_w 123, 3) := by decide +kernel
theorem dL_isRefused_295 : decode cL_isRefused 295 = .ok (.invokestatic 157, 3) := by decide +kernel
theorem dL_isRefused_298 : decode cL_isRefused 298 = .ok (.bipush (-102), 2) := by decide +kernel
theorem dL_isRefused_300 : decode cL_isRefused 300 = .ok (.if_icmp .ne 62, 3) := by decide +kernel
theorem dL_isRefused_303 : decode cL_isRefused 303 = .ok (.aload_n 0, 1) := by decide +kernel
theorem dL_isRefused_304 : decode cL_isRefused 304 = .ok (.iconst 2, 1) := by decide +kernel
theorem dL_isRefused_305 : decode cL_isRefused 305 = .ok (.iload 4, 2) := by decide +kernel
theorem dL_isRefused_307 : decode cL_isRefused 307 = .ok (.ldc2_w 123, 3) := by decide +kernel
theorem dL_isRefused_310 : decode cL_isRefused 310 = .ok (.invokestatic 157, 3) := by decide +kernel
theorem dL_isRefused_313 : decode cL_isRefused 313 = .ok (.bipush (-102), 2) := by decide +kernel
theorem dL_isRefused_315 : decode cL_isRefused 315 = .ok (.if_icmp .ne 47, 3) := by decide +kernel
theorem dL_isRefused_318 : decode cL_isRefused 318 = .ok (.aload_n 0, 1) := by decide +kernel
theorem dL_isRefused_319 : decode cL_isRefused 319 = .ok (.iconst 3, 1) := by decide +kernel
theorem dL_isRefused_320 : decode cL_isRefused 320 = .ok (.iconst 0, 1) := by decide +kernel
theorem dL_isRefused_321 : decode cL_isRefused 321 = .ok (.lconst 0, 1) := by decide +kernel
theorem dL_isRefused_322 : decode cL_isRefused 322 = .ok (.invokestatic 157, 3) := by decide +kernel
theorem dL_isRefused_325 : decode cL_isRefused 325 = .ok (.bipush (-102), 2) := by decide +kernel
theorem dL_isRefused_327 : decode cL_isRefused 327 = .ok (.if_icmp .ne 35, 3) := by decide +kernel
theorem dL_isRefused_330 : decode cL_isRefused 330 = .ok (.aload_n 0, 1) := by decide +kernel
theorem dL_isRefused_331 : decode cL_isRefused 331 = .ok (.iconst 3, 1) := by decide +kernel
theorem dL_isRefused_332 : decode cL_isRefused 332 = .ok (.iconst 0, 1) := by decide +kernel
theorem dL_isRefused_333 : decode cL_isRefused 333 = .ok (.ldc2_w 161, 3) := by decide +kernel
theorem dL_isRefused_336 : decode cL_isRefused 336 = .ok (.invokestatic 157, 3) := by decide +kernel
theorem dL_isRefused_339 : decode cL_isRefused 339 = .ok (.bipush (-102), 2) := by decide +kernel
theorem dL_isRefused_341 : decode cL_isRefused 341 = .ok (.if_icmp .ne 21, 3) := by decide +kernel
theorem dL_isRefused_344 : decode cL_isRefused 344 = .ok (.aload_n 0, 1) := by decide +kernel
theorem dL_isRefused_345 : decode cL_isRefused 345 = .ok (.iconst 3, 1) := by decide +kernel
theorem dL_isRefused_346 : decode cL_isRefused 346 = .ok (.iconst 0, 1) := by decide +kernel
theorem dL_isRefused_347 : decode cL_isRefused 347 = .ok (.ldc2_w 163, 3) := by decide +kernel
theorem dL_isRefused_350 : decode cL_isRefused 350 = .ok (.invokestatic 157, 3) := by decide +kernel
theorem dL_isRefused_353 : decode cL_isRefused 353 = .ok (.bipush (-102), 2) := by decide +kernel
theorem dL_isRefused_355 : decode cL_isRefused 355 = .ok (.if_icmp .ne 7, 3) := by decide +kernel
theorem dL_isRefused_358 : decode cL_isRefused 358 = .ok (.iconst 1, 1) := by decide +kernel
theorem dL_isRefused_359 : decode cL_isRefused 359 = .ok (.goto 4, 3) := by decide +kernel
theorem dL_isRefused_362 : decode cL_isRefused 362 = .ok (.iconst 0, 1) := by decide +kernel
theorem dL_isRefused_363 : decode cL_isRefused 363 = .ok (.istore 7, 2) := by decide +kernel
theorem dL_isRefused_365 : decode cL_isRefused 365 = .ok (.iconst 0, 1) := by decide +kernel
theorem dL_isRefused_366 : decode cL_isRefused 366 = .ok (.istore 8, 2) := by decide +kernel
theorem dL_isRefused_368 : decode cL_isRefused 368 = .ok (.iload 8, 2) := by decide +kernel
theorem dL_isRefused_370 : decode cL_isRefused 370 = .ok (.bipush 10, 2) := by decide +kernel
theorem dL_isRefused_372 : decode cL_isRefused 372 = .ok (.if_icmp .ge 33, 3) := by decide +kernel
theorem dL_isRefused_375 : decode cL_isRefused 375 = .ok (.iload 7, 2) := by decide +kernel
theorem dL_isRefused_377 : decode cL_isRefused 377 = .ok (.ifCond .eq 28, 3) := by decide +kernel
theorem dL_isRefused_380 : decode cL_isRefused 380 = .ok (.aload_n 0, 1) := by decide +kernel
theorem dL_isRefused_381 : decode cL_isRefused 381 = .ok (.iload 8, 2) := by decide +kernel
theorem dL_isRefused_383 : decode cL_isRefused 383 = .ok (.iload_n 3, 1) := by decide +kernel
theorem dL_isRefused_384 : decode cL_isRefused 384 = .ok (.invokestatic 85, 3) := by decide +kernel
theorem dL_isRefused_387 : decode cL_isRefused 387 = .ok (.bipush (-101), 2) := by decide +kernel
theorem dL_isRefused_389 : decode cL_isRefused 389 = .ok (.if_icmp .ne 7, 3) := by decide +kernel
theorem dL_isRefused_392 : decode cL_isRefused 392 = .ok (.iconst 1, 1) := by decide +kernel
theorem dL_isRefused_393 : decode cL_isRefused 393 = .ok (.goto 4, 3) := by decide +kernel
theorem dL_isRefused_396 : decode cL_isRefused 396 = .ok (.iconst 0, 1) := by decide +kernel
theorem dL_isRefused_397 : decode cL_isRefused 397 = .ok (.istore 7, 2) := by decide +kernel
theorem dL_isRefused_399 : decode cL_isRefused 399 = .ok (.iinc 8 1, 3) := by decide +kernel
theorem dL_isRefused_402 : decode cL_isRefused 402 = .ok (.goto (-34), 3) := by decide +kernel
theorem dL_isRefused_405 : decode cL_isRefused 405 = .ok (.iconst 0, 1) := by decide +kernel
theorem dL_isRefused_406 : decode cL_isRefused 406 = .ok (.istore 8, 2) := by decide +kernel
theorem dL_isRefused_408 : decode cL_isRefused 408 = .ok (.iload 8, 2) := by decide +kernel
theorem dL_isRefused_410 : decode cL_isRefused 410 = .ok (.aload_n 0, 1) := by decide +kernel
theorem dL_isRefused_411 : decode cL_isRefused 411 = .ok (.invokevirtual 91, 3) := by decide +kernel
theorem dL_isRefused_414 : decode cL_isRefused 414 = .ok (.if_icmp .ge 66, 3) := by decide +kernel
theorem dL_isRefused_417 : decode cL_isRefused 417 = .ok (.iload 7, 2) := by decide +kernel
theorem dL_isRefused_419 : decode cL_isRefused 419 = .ok (.ifCond .eq 61, 3) := by decide +kernel
theorem dL_isRefused_422 : decode cL_isRefused 422 = .ok (.aload_n 0, 1) := by decide +kernel
theorem dL_isRefused_423 : decode cL_isRefused 423 = .ok (.iload 8, 2) := by decide +kernel
theorem dL_isRefused_425 : decode cL_isRefused 425 = .ok (.invokevirtual 41, 3) := by decide +kernel
theorem dL_isRefused_428 : decode cL_isRefused 428 = .ok (.ifCond .ne 15, 3) := by decide +kernel
theorem dL_isRefused_431 : decode cL_isRefused 431 = .ok (.aload_n 0, 1) := by decide +kernel
theorem dL_isRefused_432 : decode cL_isRefused 432 = .ok (.iconst 0, 1) := by decide +kernel
theorem dL_isRefused_433 : decode cL_isRefused 433 = .ok (.iload 8, 2) := by decide +kernel
theorem dL_isRefused_435 : decode cL_isRefused 435 = .ok (.invokestatic 85, 3) := by decide +kernel
theorem dL_isRefused_438 : decode cL_isRefused 438 = .ok (.bipush (-103), 2) := by decide +kernel
theorem dL_isRefused_440 : decode cL_isRefused 440 = .ok (.if_icmp .ne 31, 3) := by decide +kernel
theorem dL_isRefused_443 : decode cL_isRefused 443 = .ok (.aload_n 0, 1) := by decide +kernel
theorem dL_isRefused_444 : decode cL_isRefused 444 = .ok (.iload 8, 2) := by decide +kernel
theorem dL_isRefused_446 : decode cL_isRefused 446 = .ok (.iload_n 3, 1) := by decide +kernel
theorem dL_isRefused_447 : decode cL_isRefused 447 = .ok (.invokestatic 155, 3) := by decide +kernel
theorem dL_isRefused_450 : decode cL_isRefused 450 = .ok (.bipush (-101), 2) := by decide +kernel
theorem dL_isRefused_452 : decode cL_isRefused 452 = .ok (.if_icmp .ne 19, 3) := by decide +kernel
theorem dL_isRefused_455 : decode cL_isRefused 455 = .ok (.aload_n 0, 1) := by decide +kernel
theorem dL_isRefused_456 : decode cL_isRefused 456 = .ok (.iload_n 3, 1) := by decide +kernel
theorem dL_isRefused_457 : decode cL_isRefused 457 = .ok (.iload 8, 2) := by decide +kernel
theorem dL_isRefused_459 : decode cL_isRefused 459 = .ok (.invokestatic 155, 3) := by decide +kernel
theorem dL_isRefused_462 : decode cL_isRefused 462 = .ok (.bipush (-101), 2) := by decide +kernel
theorem dL_isRefused_464 : decode cL_isRefused 464 = .ok (.if_icmp .ne 7, 3) := by decide +kernel
theorem dL_isRefused_467 : decode cL_isRefused 467 = .ok (.iconst 1, 1) := by decide +kernel
theorem dL_isRefused_468 : decode cL_isRefused 468 = .ok (.goto 4, 3) := by decide +kernel
theorem dL_isRefused_471 : decode cL_isRefused 471 = .ok (.iconst 0, 1) := by decide +kernel
theorem dL_isRefused_472 : decode cL_isRefused 472 = .ok (.istore 7, 2) := by decide +kernel
theorem dL_isRefused_474 : decode cL_isRefused 474 = .ok (.iinc 8 1, 3) := by decide +kernel
theorem dL_isRefused_477 : decode cL_isRefused 477 = .ok (.goto (-69), 3) := by decide +kernel
theorem dL_isRefused_480 : decode cL_isRefused 480 = .ok (.iload 7, 2) := by decide +kernel
theorem dL_isRefused_482 : decode cL_isRefused 482 = .ok (.ifCond .eq 17, 3) := by decide +kernel
theorem dL_isRefused_485 : decode cL_isRefused 485 = .ok (.aload_n 0, 1) := by decide +kernel
theorem dL_isRefused_486 : decode cL_isRefused 486 = .ok (.invokestatic 139, 3) := by decide +kernel
theorem dL_isRefused_489 : decode cL_isRefused 489 = .ok (.lload 5, 2) := by decide +kernel
theorem dL_isRefused_491 : decode cL_isRefused 491 = .ok (.lcmp, 1) := by decide +kernel
theorem dL_isRefused_492 : decode cL_isRefused 492 = .ok (.ifCond .ne 7, 3) := by decide +kernel
theorem dL_isRefused_495 : decode cL_isRefused 495 = .ok (.iconst 1, 1) := by decide +kernel
theorem dL_isRefused_496 : decode cL_isRefused 496 = .ok (.goto 4, 3) := by decide +kernel
theorem dL_isRefused_499 : decode cL_isRefused 499 = .ok (.iconst 0, 1) := by decide +kernel
theorem dL_isRefused_500 : decode cL_isRefused 500 = .ok (.ireturn, 1) := by decide +kernel
theorem dL_isPacked_0 : decode cL_isPacked 0 = .ok (.iconst 0, 1) := by decide +kernel
theorem dL_isPacked_1 : decode cL_isPacked 1 = .ok (.istore 6, 2) := by decide +kernel
theorem dL_isPacked_3 : decode cL_isPacked 3 = .ok (.iconst 0, 1) := by decide +kernel
theorem dL_isPacked_4 : decode cL_isPacked 4 = .ok (.istore 7, 2) := by decide +kernel
theorem dL_isPacked_6 : decode cL_isPacked 6 = .ok (.iconst 0, 1) := by decide +kernel
theorem dL_isPacked_7 : decode cL_isPacked 7 = .ok (.istore 8, 2) := by decide +kernel
theorem dL_isPacked_9 : decode cL_isPacked 9 = .ok (.iconst 0, 1) := by decide +kernel
theorem dL_isPacked_10 : decode cL_isPacked 10 = .ok (.istore 9, 2) := by decide +kernel
theorem dL_isPacked_12 : decode cL_isPacked 12 = .ok (.lconst 0, 1) := by decide +kernel
theorem dL_isPacked_13 : decode cL_isPacked 13 = .ok (.lstore 10, 2) := by decide +kernel
theorem dL_isPacked_15 : decode cL_isPacked 15 = .ok (.iconst 0, 1) := by decide +kernel
theorem dL_isPacked_16 : decode cL_isPacked 16 = .ok (.istore 12, 2) := by decide +kernel
theorem dL_isPacked_18 : decode cL_isPacked 18 = .ok (.iload 12, 2) := by decide +kernel
theorem dL_isPacked_20 : decode cL_isPacked 20 = .ok (.aload_n 0, 1) := by decide +kernel
theorem dL_isPacked_21 : decode cL_isPacked 21 = .ok (.invokevirtual 91, 3) := by decide +kernel
theorem dL_isPacked_24 : decode cL_isPacked 24 = .ok (.if_icmp .ge 75, 3) := by decide +kernel
theorem dL_isPacked_27 : decode cL_isPacked 27 = .ok (.iload 6, 2) := by decide +kernel
theorem dL_isPacked_29 : decode cL_isPacked 29 = .ok (.aload_n 0, 1) := by decide +kernel
theorem dL_isPacked_30 : decode cL_isPacked 30 = .ok (.iload 12, 2) := by decide +kernel
theorem dL_isPacked_32 : decode cL_isPacked 32 = .ok (.invokevirtual 48, 3) := by decide +kernel
theorem dL_isPacked_35 : decode cL_isPacked 35 = .ok (.ifCond .eq 7, 3) := by decide +kernel
theorem dL_isPacked_38 : decode cL_isPacked 38 = .ok (.iconst 1, 1) := by decide +kernel
theorem dL_isPacked_39 : decode cL_isPacked 39 = .ok (.goto 4, 3) := by decide +kernel
theorem dL_isPacked_42 : decode cL_isPacked 42 = .ok (.iconst 0, 1) := by decide +kernel
theorem dL_isPacked_43 : decode cL_isPacked 43 = .ok (.iadd, 1) := by decide +kernel
theorem dL_isPacked_44 : decode cL_isPacked 44 = .ok (.istore 6, 2) := by decide +kernel
theorem dL_isPacked_46 : decode cL_isPacked 46 = .ok (.iload 7, 2) := by decide +kernel
theorem dL_isPacked_48 : decode cL_isPacked 48 = .ok (.aload_n 0, 1) := by decide +kernel
theorem dL_isPacked_49 : decode cL_isPacked 49 = .ok (.iload 12, 2) := by decide +kernel
theorem dL_isPacked_51 : decode cL_isPacked 51 = .ok (.invokevirtual 48, 3) := by decide +kernel
theorem dL_isPacked_54 : decode cL_isPacked 54 = .ok (.ifCond .eq 13, 3) := by decide +kernel
theorem dL_isPacked_57 : decode cL_isPacked 57 = .ok (.aload_n 1, 1) := by decide +kernel
theorem dL_isPacked_58 : decode cL_isPacked 58 = .ok (.iload 12, 2) := by decide +kernel
theorem dL_isPacked_60 : decode cL_isPacked 60 = .ok (.laload, 1) := by decide +kernel
theorem dL_isPacked_61 : decode cL_isPacked 61 = .ok (.invokestatic 136, 3) := by decide +kernel
theorem dL_isPacked_64 : decode cL_isPacked 64 = .ok (.goto 4, 3) := by decide +kernel
theorem dL_isPacked_67 : decode cL_isPacked 67 = .ok (.iconst 0, 1) := by decide +kernel
theorem dL_isPacked_68 : decode cL_isPacked 68 = .ok (.iadd, 1) := by decide +kernel
theorem dL_isPacked_69 : decode cL_isPacked 69 = .ok (.istore 7, 2) := by decide +kernel
theorem dL_isPacked_71 : decode cL_isPacked 71 = .ok (.lload 10, 2) := by decide +kernel
theorem dL_isPacked_73 : decode cL_isPacked 73 = .ok (.aload_n 0, 1) := by decide +kernel
theorem dL_isPacked_74 : decode cL_isPacked 74 = .ok (.iload 12, 2) := by decide +kernel
theorem dL_isPacked_76 : decode cL_isPacked 76 = .ok (.invokevirtual 48, 3) := by decide +kernel
theorem dL_isPacked_79 : decode cL_isPacked 79 = .ok (.ifCond .eq 10, 3) := by decide +kernel
theorem dL_isPacked_82 : decode cL_isPacked 82 = .ok (.lconst 1, 1) := by decide +kernel
theorem dL_isPacked_83 : decode cL_isPacked 83 = .ok (.iload 12, 2) := by decide +kernel
theorem dL_isPacked_85 : decode cL_isPacked 85 = .ok (.lshl, 1) := by decide +kernel
theorem dL_isPacked_86 : decode cL_isPacked 86 = .ok (.goto 4, 3) := by decide +kernel
theorem dL_isPacked_89 : decode cL_isPacked 89 = .ok (.lconst 0, 1) := by decide +kernel
theorem dL_isPacked_90 : decode cL_isPacked 90 = .ok (.lor, 1) := by decide +kernel
theorem dL_isPacked_91 : decode cL_isPacked 91 = .ok (.lstore 10, 2) := by decide +kernel
theorem dL_isPacked_93 : decode cL_isPacked 93 = .ok (.iinc 12 1, 3) := by decide +kernel
theorem dL_isPacked_96 : decode cL_isPacked 96 = .ok (.goto (-78), 3) := by decide +kernel
theorem dL_isPacked_99 : decode cL_isPacked 99 = .ok (.aload_n 0, 1) := by decide +kernel
theorem dL_isPacked_100 : decode cL_isPacked 100 = .ok (.iload_n 3, 1) := by decide +kernel
theorem dL_isPacked_101 : decode cL_isPacked 101 = .ok (.iload 4, 2) := by decide +kernel
theorem dL_isPacked_103 : decode cL_isPacked 103 = .ok (.iload 5, 2) := by decide +kernel
theorem dL_isPacked_105 : decode cL_isPacked 105 = .ok (.invokestatic 152, 3) := by decide +kernel
theorem dL_isPacked_108 : decode cL_isPacked 108 = .ok (.istore 12, 2) := by decide +kernel
theorem dL_isPacked_110 : decode cL_isPacked 110 = .ok (.iload 12, 2) := by decide +kernel
theorem dL_isPacked_112 : decode cL_isPacked 112 = .ok (.aload_n 0, 1) := by decide +kernel
theorem dL_isPacked_113 : decode cL_isPacked 113 = .ok (.invokevirtual 102, 3) := by decide +kernel
theorem dL_isPacked_116 : decode cL_isPacked 116 = .ok (.if_icmp .ne 71, 3) := by decide +kernel
theorem dL_isPacked_119 : decode cL_isPacked 119 = .ok (.iload 12, 2) := by decide +kernel
theorem dL_isPacked_121 : decode cL_isPacked 121 = .ok (.iload 7, 2) := by decide +kernel
theorem dL_isPacked_123 : decode cL_isPacked 123 = .ok (.if_icmp .gt 64, 3) := by decide +kernel
theorem dL_isPacked_126 : decode cL_isPacked 126 = .ok (.aload_n 0, 1) := by decide +kernel
theorem dL_isPacked_127 : decode cL_isPacked 127 = .ok (.invokevirtual 97, 3) := by decide +kernel
theorem dL_isPacked_130 : decode cL_isPacked 130 = .ok (.iload 6, 2) := by decide +kernel
theorem dL_isPacked_132 : decode cL_isPacked 132 = .ok (.if_icmp .ne 55, 3) := by decide +kernel
theorem dL_isPacked_135 : decode cL_isPacked 135 = .ok (.aload_n 0, 1) := by decide +kernel
theorem dL_isPacked_136 : decode cL_isPacked 136 = .ok (.invokevirtual 112, 3) := by decide +kernel
theorem dL_isPacked_139 : decode cL_isPacked 139 = .ok (.iload 5, 2) := by decide +kernel
theorem dL_isPacked_141 : decode cL_isPacked 141 = .ok (.ifCond .eq 8, 3) := by decide +kernel
theorem dL_isPacked_144 : decode cL_isPacked 144 = .ok (.iload 6, 2) := by decide +kernel
theorem dL_isPacked_146 : decode cL_isPacked 146 = .ok (.goto 4, 3) := by decide +kernel
theorem dL_isPacked_149 : decode cL_isPacked 149 = .ok (.iconst 0, 1) := by decide +kernel
theorem dL_isPacked_150 : decode cL_isPacked 150 = .ok (.if_icmp .gt 37, 3) := by decide +kernel
theorem dL_isPacked_153 : decode cL_isPacked 153 = .ok (.aload_n 0, 1) := by decide +kernel
theorem dL_isPacked_154 : decode cL_isPacked 154 = .ok (.invokevirtual 107, 3) := by decide +kernel
theorem dL_isPacked_157 : decode cL_isPacked 157 = .ok (.iload_n 3, 1) := by decide +kernel
theorem dL_isPacked_158 : decode cL_isPacked 158 = .ok (.iload 6, 2) := by decide +kernel
theorem dL_isPacked_160 : decode cL_isPacked 160 = .ok (.imul, 1) := by decide +kernel
theorem dL_isPacked_161 : decode cL_isPacked 161 = .ok (.if_icmp .gt 26, 3) := by decide +kernel
theorem dL_isPacked_164 : decode cL_isPacked 164 = .ok (.iload 4, 2) := by decide +kernel
theorem dL_isPacked_166 : decode cL_isPacked 166 = .ok (.ifCond .gt 17, 3) := by decide +kernel
theorem dL_isPacked_169 : decode cL_isPacked 169 = .ok (.aload_n 0, 1) := by decide +kernel
theorem dL_isPacked_170 : decode cL_isPacked 170 = .ok (.invokevirtual 107, 3) := by decide +kernel
theorem dL_isPacked_173 : decode cL_isPacked 173 = .ok (.ifCond .ne 14, 3) := by decide +kernel
theorem dL_isPacked_176 : decode cL_isPacked 176 = .ok (.iload 12, 2) := by decide +kernel
theorem dL_isPacked_178 : decode cL_isPacked 178 = .ok (.iload 7, 2) := by decide +kernel
theorem dL_isPacked_180 : decode cL_isPacked 180 = .ok (.if_icmp .ne 7, 3) := by decide +kernel
theorem dL_isPacked_183 : decode cL_isPacked 183 = .ok (.iconst 1, 1) := by decide +kernel
theorem dL_isPacked_184 : decode cL_isPacked 184 = .ok (.goto 4, 3) := by decide +kernel
theorem dL_isPacked_187 : decode cL_isPacked 187 = .ok (.iconst 0, 1) := by decide +kernel
theorem dL_isPacked_188 : decode cL_isPacked 188 = .ok (.istore 13, 2) := by decide +kernel
theorem dL_isPacked_190 : decode cL_isPacked 190 = .ok (.iconst 0, 1) := by decide +kernel
theorem dL_isPacked_191 : decode cL_isPacked 191 = .ok (.istore 14, 2) := by decide +kernel
theorem dL_isPacked_193 : decode cL_isPacked 193 = .ok (.iload 14, 2) := by decide +kernel
theorem dL_isPacked_195 : decode cL_isPacked 195 = .ok (.aload_n 0, 1) := by decide +kernel
theorem dL_isPacked_196 : decode cL_isPacked 196 = .ok (.invokevirtual 91, 3) := by decide +kernel
theorem dL_isPacked_199 : decode cL_isPacked 199 = .ok (.if_icmp .ge 142, 3) := by decide +kernel
theorem dL_isPacked_202 : decode cL_isPacked 202 = .ok (.iload 13, 2) := by decide +kernel
theorem dL_isPacked_204 : decode cL_isPacked 204 = .ok (.ifCond .eq 137, 3) := by decide +kernel
theorem dL_isPacked_207 : decode cL_isPacked 207 = .ok (.aload_n 0, 1) := by decide +kernel
theorem dL_isPacked_208 : decode cL_isPacked 208 = .ok (.iload 14, 2) := by decide +kernel
theorem dL_isPacked_210 : decode cL_isPacked 210 = .ok (.invokestatic 129, 3) := by decide +kernel
theorem dL_isPacked_213 : decode cL_isPacked 213 = .ok (.lload 10, 2) := by decide +kernel
theorem dL_isPacked_215 : decode cL_isPacked 215 = .ok (.iload 14, 2) := by decide +kernel
theorem dL_isPacked_217 : decode cL_isPacked 217 = .ok (.lshr, 1) := by decide +kernel
theorem dL_isPacked_218 : decode cL_isPacked 218 = .ok (.lconst 1, 1) := by decide +kernel
theorem dL_isPacked_219 : decode cL_isPacked 219 = .ok (.land, 1) := by decide +kernel
theorem dL_isPacked_220 : decode cL_isPacked 220 = .ok (.lconst 1, 1) := by decide +kernel
theorem dL_isPacked_221 : decode cL_isPacked 221 = .ok (.lcmp, 1) := by decide +kernel
theorem dL_isPacked_222 : decode cL_isPacked 222 = .ok (.ifCond .ne 7, 3) := by decide +kernel
theorem dL_isPacked_225 : decode cL_isPacked 225 = .ok (.iconst 1, 1) := by decide +kernel
theorem dL_isPacked_226 : decode cL_isPacked 226 = .ok (.goto 4, 3) := by decide +kernel
theorem dL_isPacked_229 : decode cL_isPacked 229 = .ok (.iconst 0, 1) := by decide +kernel
theorem dL_isPacked_230 : decode cL_isPacked 230 = .ok (.if_icmp .ne 42, 3) := by decide +kernel
theorem dL_isPacked_233 : decode cL_isPacked 233 = .ok (.aload_n 0, 1) := by decide +kernel
theorem dL_isPacked_234 : decode cL_isPacked 234 = .ok (.iload 14, 2) := by decide +kernel
theorem dL_isPacked_236 : decode cL_isPacked 236 = .ok (.invokevirtual 48, 3) := by decide +kernel
theorem dL_isPacked_239 : decode cL_isPacked 239 = .ok (.aload_n 0, 1) := by decide +kernel
theorem dL_isPacked_240 : decode cL_isPacked 240 = .ok (.iload 14, 2) := by decide +kernel
theorem dL_isPacked_242 : decode cL_isPacked 242 = .ok (.invokestatic 129, 3) := by decide +kernel
theorem dL_isPacked_245 : decode cL_isPacked 245 = .ok (.if_icmp .ne 27, 3) := by decide +kernel
theorem dL_isPacked_248 : decode cL_isPacked 248 = .ok (.aload_n 0, 1) := by decide +kernel
theorem dL_isPacked_249 : decode cL_isPacked 249 = .ok (.iload 14, 2) := by decide +kernel
theorem dL_isPacked_251 : decode cL_isPacked 251 = .ok (.invokestatic 129, 3) := by decide +kernel
theorem dL_isPacked_254 : decode cL_isPacked 254 = .ok (.ifCond .eq 14, 3) := by decide +kernel
theorem dL_isPacked_257 : decode cL_isPacked 257 = .ok (.aload_n 0, 1) := by decide +kernel
theorem dL_isPacked_258 : decode cL_isPacked 258 = .ok (.iload 14, 2) := by decide +kernel
theorem dL_isPacked_260 : decode cL_isPacked 260 = .ok (.invokevirtual 32, 3) := by decide +kernel
theorem dL_isPacked_263 : decode cL_isPacked 263 = .ok (.iload 4, 2) := by decide +kernel
theorem dL_isPacked_265 : decode cL_isPacked 265 = .ok (.if_icmp .gt 7, 3) := by decide +kernel
theorem dL_isPacked_268 : decode cL_isPacked 268 = .ok (.iconst 1, 1) := by decide +kernel
theorem dL_isPacked_269 : decode cL_isPacked 269 = .ok (.goto 4, 3) := by decide +kernel
theorem dL_isPacked_272 : decode cL_isPacked 272 = .ok (.iconst 0, 1) := by decide +kernel
theorem dL_isPacked_273 : decode cL_isPacked 273 = .ok (.istore 13, 2) := by decide +kernel
theorem dL_isPacked_275 : decode cL_isPacked 275 = .ok (.aload_n 2, 1) := by decide +kernel
theorem dL_isPacked_276 : decode cL_isPacked 276 = .ok (.iload 14, 2) := by decide +kernel
theorem dL_isPacked_278 : decode cL_isPacked 278 = .ok (.dup2, 1) := by decide +kernel
theorem dL_isPacked_279 : decode cL_isPacked 279 = .ok (.iaload, 1) := by decide +kernel
theorem dL_isPacked_280 : decode cL_isPacked 280 = .ok (.iconst 4, 1) := by decide +kernel
theorem dL_isPacked_281 : decode cL_isPacked 281 = .ok (.irem, 1) := by decide +kernel
theorem dL_isPacked_282 : decode cL_isPacked 282 = .ok (.iastore, 1) := by decide +kernel
theorem dL_isPacked_283 : decode cL_isPacked 283 = .ok (.iload 8, 2) := by decide +kernel
theorem dL_isPacked_285 : decode cL_isPacked 285 = .ok (.aload_n 0, 1) := by decide +kernel
theorem dL_isPacked_286 : decode cL_isPacked 286 = .ok (.iload 14, 2) := by decide +kernel
theorem dL_isPacked_288 : decode cL_isPacked 288 = .ok (.invokestatic 129, 3) := by decide +kernel
theorem dL_isPacked_291 : decode cL_isPacked 291 = .ok (.ifCond .eq 16, 3) := by decide +kernel
theorem dL_isPacked_294 : decode cL_isPacked 294 = .ok (.aload_n 0, 1) := by decide +kernel
theorem dL_isPacked_295 : decode cL_isPacked 295 = .ok (.iload 14, 2) := by decide +kernel
theorem dL_isPacked_297 : decode cL_isPacked 297 = .ok (.invokevirtual 29, 3) := by decide +kernel
theorem dL_isPacked_300 : decode cL_isPacked 300 = .ok (.ifCond .lt 7, 3) := by decide +kernel
theorem dL_isPacked_303 : decode cL_isPacked 303 = .ok (.iconst 1, 1) := by decide +kernel
theorem dL_isPacked_304 : decode cL_isPacked 304 = .ok (.goto 4, 3) := by decide +kernel
theorem dL_isPacked_307 : decode cL_isPacked 307 = .ok (.iconst 0, 1) := by decide +kernel
theorem dL_isPacked_308 : decode cL_isPacked 308 = .ok (.iadd, 1) := by decide +kernel
theorem dL_isPacked_309 : decode cL_isPacked 309 = .ok (.istore 8, 2) := by decide +kernel
theorem dL_isPacked_311 : decode cL_isPacked 311 = .ok (.iload 9, 2) := by decide +kernel
theorem dL_isPacked_313 : decode cL_isPacked 313 = .ok (.aload_n 0, 1) := by decide +kernel
theorem dL_isPacked_314 : decode cL_isPacked 314 = .ok (.iload 14, 2) := by decide +kernel
theorem dL_isPacked_316 : decode cL_isPacked 316 = .ok (.invokestatic 129, 3) := by decide +kernel
theorem dL_isPacked_319 : decode cL_isPacked 319 = .ok (.ifCond .eq 12, 3) := by decide +kernel
theorem dL_isPacked_322 : decode cL_isPacked 322 = .ok (.aload_n 0, 1) := by decide +kernel
theorem dL_isPacked_323 : decode cL_isPacked 323 = .ok (.iload 14, 2) := by decide +kernel
theorem dL_isPacked_325 : decode cL_isPacked 325 = .ok (.invokevirtual 26, 3) := by decide +kernel
theorem dL_isPacked_328 : decode cL_isPacked 328 = .ok (.goto 4, 3) := by decide +kernel
theorem dL_isPacked_331 : decode cL_isPacked 331 = .ok (.iconst 0, 1) := by decide +kernel
theorem dL_isPacked_332 : decode cL_isPacked 332 = .ok (.iadd, 1) := by decide +kernel
theorem dL_isPacked_333 : decode cL_isPacked 333 = .ok (.istore 9, 2) := by decide +kernel
theorem dL_isPacked_335 : decode cL_isPacked 335 = .ok (.iinc 14 1, 3) := by decide +kernel
theorem dL_isPacked_338 : decode cL_isPacked 338 = .ok (.goto (-145), 3) := by decide +kernel
theorem dL_isPacked_341 : decode cL_isPacked 341 = .ok (.iload 13, 2) := by decide +kernel
theorem dL_isPacked_343 : decode cL_isPacked 343 = .ok (.ifCond .eq 45, 3) := by decide +kernel
theorem dL_isPacked_346 : decode cL_isPacked 346 = .ok (.iload 9, 2) := by decide +kernel
theorem dL_isPacked_348 : decode cL_isPacked 348 = .ok (.iload 12, 2) := by decide +kernel
theorem dL_isPacked_350 : decode cL_isPacked 350 = .ok (.if_icmp .ne 38, 3) := by decide +kernel
theorem dL_isPacked_353 : decode cL_isPacked 353 = .ok (.aload_n 0, 1) := by decide +kernel
theorem dL_isPacked_354 : decode cL_isPacked 354 = .ok (.invokevirtual 112, 3) := by decide +kernel
theorem dL_isPacked_357 : decode cL_isPacked 357 = .ok (.iload 8, 2) := by decide +kernel
theorem dL_isPacked_359 : decode cL_isPacked 359 = .ok (.if_icmp .gt 29, 3) := by decide +kernel
theorem dL_isPacked_362 : decode cL_isPacked 362 = .ok (.aload_n 0, 1) := by decide +kernel
theorem dL_isPacked_363 : decode cL_isPacked 363 = .ok (.iload_n 3, 1) := by decide +kernel
theorem dL_isPacked_364 : decode cL_isPacked 364 = .ok (.iload 4, 2) := by decide +kernel
theorem dL_isPacked_366 : decode cL_isPacked 366 = .ok (.iconst 1, 1) := by decide +kernel
theorem dL_isPacked_367 : decode cL_isPacked 367 = .ok (.invokestatic 152, 3) := by decide +kernel
theorem dL_isPacked_370 : decode cL_isPacked 370 = .ok (.iload 12, 2) := by decide +kernel
theorem dL_isPacked_372 : decode cL_isPacked 372 = .ok (.if_icmp .ne 16, 3) := by decide +kernel
theorem dL_isPacked_375 : decode cL_isPacked 375 = .ok (.aload_n 0, 1) := by decide +kernel
theorem dL_isPacked_376 : decode cL_isPacked 376 = .ok (.invokevirtual 112, 3) := by decide +kernel
theorem dL_isPacked_379 : decode cL_isPacked 379 = .ok (.iload 8, 2) := by decide +kernel
theorem dL_isPacked_381 : decode cL_isPacked 381 = .ok (.if_icmp .ne 7, 3) := by decide +kernel
theorem dL_isPacked_384 : decode cL_isPacked 384 = .ok (.iconst 1, 1) := by decide +kernel
theorem dL_isPacked_385 : decode cL_isPacked 385 = .ok (.goto 4, 3) := by decide +kernel
theorem dL_isPacked_388 : decode cL_isPacked 388 = .ok (.iconst 0, 1) := by decide +kernel
theorem dL_isPacked_389 : decode cL_isPacked 389 = .ok (.ireturn, 1) := by decide +kernel
theorem dL_isPruned_0 : decode cL_isPruned 0 = .ok (.iconst 0, 1) := by decide +kernel
theorem dL_isPruned_1 : decode cL_isPruned 1 = .ok (.istore_n 3, 1) := by decide +kernel
theorem dL_isPruned_2 : decode cL_isPruned 2 = .ok (.iconst 0, 1) := by decide +kernel
theorem dL_isPruned_3 : decode cL_isPruned 3 = .ok (.istore 4, 2) := by decide +kernel
theorem dL_isPruned_5 : decode cL_isPruned 5 = .ok (.iload 4, 2) := by decide +kernel
theorem dL_isPruned_7 : decode cL_isPruned 7 = .ok (.iload_n 2, 1) := by decide +kernel
theorem dL_isPruned_8 : decode cL_isPruned 8 = .ok (.if_icmp .ge 112, 3) := by decide +kernel
theorem dL_isPruned_11 : decode cL_isPruned 11 = .ok (.aload_n 0, 1) := by decide +kernel
theorem dL_isPruned_12 : decode cL_isPruned 12 = .ok (.iload 4, 2) := by decide +kernel
theorem dL_isPruned_14 : decode cL_isPruned 14 = .ok (.invokestatic 129, 3) := by decide +kernel
theorem dL_isPruned_17 : decode cL_isPruned 17 = .ok (.istore 5, 2) := by decide +kernel
theorem dL_isPruned_19 : decode cL_isPruned 19 = .ok (.iload 4, 2) := by decide +kernel
theorem dL_isPruned_21 : decode cL_isPruned 21 = .ok (.istore 6, 2) := by decide +kernel
theorem dL_isPruned_23 : decode cL_isPruned 23 = .ok (.iload 5, 2) := by decide +kernel
theorem dL_isPruned_25 : decode cL_isPruned 25 = .ok (.ifCond .eq 35, 3) := by decide +kernel
theorem dL_isPruned_28 : decode cL_isPruned 28 = .ok (.iload 6, 2) := by decide +kernel
theorem dL_isPruned_30 : decode cL_isPruned 30 = .ok (.ifCond .lt 30, 3) := by decide +kernel
theorem dL_isPruned_33 : decode cL_isPruned 33 = .ok (.aload_n 1, 1) := by decide +kernel
theorem dL_isPruned_34 : decode cL_isPruned 34 = .ok (.iload 6, 2) := by decide +kernel
theorem dL_isPruned_36 : decode cL_isPruned 36 = .ok (.iaload, 1) := by decide +kernel
theorem dL_isPruned_37 : decode cL_isPruned 37 = .ok (.iconst 4, 1) := by decide +kernel
theorem dL_isPruned_38 : decode cL_isPruned 38 = .ok (.idiv, 1) := by decide +kernel
theorem dL_isPruned_39 : decode cL_isPruned 39 = .ok (.ifCond .ne 7, 3) := by decide +kernel
theorem dL_isPruned_42 : decode cL_isPruned 42 = .ok (.iconst 1, 1) := by decide +kernel
theorem dL_isPruned_43 : decode cL_isPruned 43 = .ok (.goto 4, 3) := by decide +kernel
theorem dL_isPruned_46 : decode cL_isPruned 46 = .ok (.iconst 0, 1) := by decide +kernel
theorem dL_isPruned_47 : decode cL_isPruned 47 = .ok (.istore 5, 2) := by decide +kernel
theorem dL_isPruned_49 : decode cL_isPruned 49 = .ok (.aload_n 0, 1) := by decide +kernel
theorem dL_isPruned_50 : decode cL_isPruned 50 = .ok (.iload 6, 2) := by decide +kernel
theorem dL_isPruned_52 : decode cL_isPruned 52 = .ok (.invokevirtual 29, 3) := by decide +kernel
theorem dL_isPruned_55 : decode cL_isPruned 55 = .ok (.istore 6, 2) := by decide +kernel
theorem dL_isPruned_57 : decode cL_isPruned 57 = .ok (.goto (-34), 3) := by decide +kernel
theorem dL_isPruned_60 : decode cL_isPruned 60 = .ok (.iload_n 3, 1) := by decide +kernel
theorem dL_isPruned_61 : decode cL_isPruned 61 = .ok (.iload 5, 2) := by decide +kernel
theorem dL_isPruned_63 : decode cL_isPruned 63 = .ok (.ifCond .eq 19, 3) := by decide +kernel
theorem dL_isPruned_66 : decode cL_isPruned 66 = .ok (.aload_n 1, 1) := by decide +kernel
theorem dL_isPruned_67 : decode cL_isPruned 67 = .ok (.iload 4, 2) := by decide +kernel
theorem dL_isPruned_69 : decode cL_isPruned 69 = .ok (.iaload, 1) := by decide +kernel
theorem dL_isPruned_70 : decode cL_isPruned 70 = .ok (.iconst 2, 1) := by decide +kernel
theorem dL_isPruned_71 : decode cL_isPruned 71 = .ok (.idiv, 1) := by decide +kernel
theorem dL_isPruned_72 : decode cL_isPruned 72 = .ok (.iconst 2, 1) := by decide +kernel
theorem dL_isPruned_73 : decode cL_isPruned 73 = .ok (.irem, 1) := by decide +kernel
theorem dL_isPruned_74 : decode cL_isPruned 74 = .ok (.iconst 1, 1) := by decide +kernel
theorem dL_isPruned_75 : decode cL_isPruned 75 = .ok (.if_icmp .ne 7, 3) := by decide +kernel
theorem dL_isPruned_78 : decode cL_isPruned 78 = .ok (.iconst 1, 1) := by decide +kernel
theorem dL_isPruned_79 : decode cL_isPruned 79 = .ok (.goto 4, 3) := by decide +kernel
theorem dL_isPruned_82 : decode cL_isPruned 82 = .ok (.iconst 0, 1) := by decide +kernel
theorem dL_isPruned_83 : decode cL_isPruned 83 = .ok (.iadd, 1) := by decide +kernel
theorem dL_isPruned_84 : decode cL_isPruned 84 = .ok (.istore_n 3, 1) := by decide +kernel
theorem dL_isPruned_85 : decode cL_isPruned 85 = .ok (.aload_n 1, 1) := by decide +kernel
theorem dL_isPruned_86 : decode cL_isPruned 86 = .ok (.iload 4, 2) := by decide +kernel
theorem dL_isPruned_88 : decode cL_isPruned 88 = .ok (.dup2, 1) := by decide +kernel
theorem dL_isPruned_89 : decode cL_isPruned 89 = .ok (.iaload, 1) := by decide +kernel
theorem dL_isPruned_90 : decode cL_isPruned 90 = .ok (.iload 5, 2) := by decide +kernel
theorem dL_isPruned_92 : decode cL_isPruned 92 = .ok (.ifCond .eq 19, 3) := by decide +kernel
theorem dL_isPruned_95 : decode cL_isPruned 95 = .ok (.aload_n 1, 1) := by decide +kernel
theorem dL_isPruned_96 : decode cL_isPruned 96 = .ok (.iload 4, 2) := by decide +kernel
theorem dL_isPruned_98 : decode cL_isPruned 98 = .ok (.iaload, 1) := by decide +kernel
theorem dL_isPruned_99 : decode cL_isPruned 99 = .ok (.iconst 2, 1) := by decide +kernel
theorem dL_isPruned_100 : decode cL_isPruned 100 = .ok (.idiv, 1) := by decide +kernel
theorem dL_isPruned_101 : decode cL_isPruned 101 = .ok (.iconst 2, 1) := by decide +kernel
theorem dL_isPruned_102 : decode cL_isPruned 102 = .ok (.irem, 1) := by decide +kernel
theorem dL_isPruned_103 : decode cL_isPruned 103 = .ok (.iconst 1, 1) := by decide +kernel
theorem dL_isPruned_104 : decode cL_isPruned 104 = .ok (.if_icmp .ne 7, 3) := by decide +kernel
theorem dL_isPruned_107 : decode cL_isPruned 107 = .ok (.iconst 2, 1) := by decide +kernel
theorem dL_isPruned_108 : decode cL_isPruned 108 = .ok (.goto 4, 3) := by decide +kernel
theorem dL_isPruned_111 : decode cL_isPruned 111 = .ok (.iconst 0, 1) := by decide +kernel
theorem dL_isPruned_112 : decode cL_isPruned 112 = .ok (.isub, 1) := by decide +kernel
theorem dL_isPruned_113 : decode cL_isPruned 113 = .ok (.iastore, 1) := by decide +kernel
theorem dL_isPruned_114 : decode cL_isPruned 114 = .ok (.iinc 4 1, 3) := by decide +kernel
theorem dL_isPruned_117 : decode cL_isPruned 117 = .ok (.goto (-112), 3) := by decide +kernel
theorem dL_isPruned_120 : decode cL_isPruned 120 = .ok (.aload_n 0, 1) := by decide +kernel
theorem dL_isPruned_121 : decode cL_isPruned 121 = .ok (.invokevirtual 102, 3) := by decide +kernel
theorem dL_isPruned_124 : decode cL_isPruned 124 = .ok (.istore 4, 2) := by decide +kernel
theorem dL_isPruned_126 : decode cL_isPruned 126 = .ok (.aload_n 0, 1) := by decide +kernel
theorem dL_isPruned_127 : decode cL_isPruned 127 = .ok (.invokevirtual 165, 3) := by decide +kernel
theorem dL_isPruned_130 : decode cL_isPruned 130 = .ok (.iload_n 3, 1) := by decide +kernel
theorem dL_isPruned_131 : decode cL_isPruned 131 = .ok (.if_icmp .ne 23, 3) := by decide +kernel
theorem dL_isPruned_134 : decode cL_isPruned 134 = .ok (.aload_n 0, 1) := by decide +kernel
theorem dL_isPruned_135 : decode cL_isPruned 135 = .ok (.invokevirtual 102, 3) := by decide +kernel
theorem dL_isPruned_138 : decode cL_isPruned 138 = .ok (.iload 4, 2) := by decide +kernel
theorem dL_isPruned_140 : decode cL_isPruned 140 = .ok (.if_icmp .ne 14, 3) := by decide +kernel
theorem dL_isPruned_143 : decode cL_isPruned 143 = .ok (.aload_n 0, 1) := by decide +kernel
theorem dL_isPruned_144 : decode cL_isPruned 144 = .ok (.invokevirtual 165, 3) := by decide +kernel
theorem dL_isPruned_147 : decode cL_isPruned 147 = .ok (.ifCond .ne 7, 3) := by decide +kernel
theorem dL_isPruned_150 : decode cL_isPruned 150 = .ok (.iconst 1, 1) := by decide +kernel
theorem dL_isPruned_151 : decode cL_isPruned 151 = .ok (.goto 4, 3) := by decide +kernel
theorem dL_isPruned_154 : decode cL_isPruned 154 = .ok (.iconst 0, 1) := by decide +kernel
theorem dL_isPruned_155 : decode cL_isPruned 155 = .ok (.ireturn, 1) := by decide +kernel
theorem dL_isDamaged_0 : decode cL_isDamaged 0 = .ok (.aload_n 0, 1) := by decide +kernel
theorem dL_isDamaged_1 : decode cL_isDamaged 1 = .ok (.iload_n 3, 1) := by decide +kernel
theorem dL_isDamaged_2 : decode cL_isDamaged 2 = .ok (.invokestatic 129, 3) := by decide +kernel
theorem dL_isDamaged_5 : decode cL_isDamaged 5 = .ok (.ifCond .eq 14, 3) := by decide +kernel
theorem dL_isDamaged_8 : decode cL_isDamaged 8 = .ok (.aload_n 1, 1) := by decide +kernel
theorem dL_isDamaged_9 : decode cL_isDamaged 9 = .ok (.iload_n 3, 1) := by decide +kernel
theorem dL_isDamaged_10 : decode cL_isDamaged 10 = .ok (.iaload, 1) := by decide +kernel
theorem dL_isDamaged_11 : decode cL_isDamaged 11 = .ok (.iconst 4, 1) := by decide +kernel
theorem dL_isDamaged_12 : decode cL_isDamaged 12 = .ok (.if_icmp .ge 7, 3) := by decide +kernel
theorem dL_isDamaged_15 : decode cL_isDamaged 15 = .ok (.iconst 1, 1) := by decide +kernel
theorem dL_isDamaged_16 : decode cL_isDamaged 16 = .ok (.goto 4, 3) := by decide +kernel
theorem dL_isDamaged_19 : decode cL_isDamaged 19 = .ok (.iconst 0, 1) := by decide +kernel
theorem dL_isDamaged_20 : decode cL_isDamaged 20 = .ok (.istore 4, 2) := by decide +kernel
theorem dL_isDamaged_22 : decode cL_isDamaged 22 = .ok (.iconst 0, 1) := by decide +kernel
theorem dL_isDamaged_23 : decode cL_isDamaged 23 = .ok (.istore 5, 2) := by decide +kernel
theorem dL_isDamaged_25 : decode cL_isDamaged 25 = .ok (.iconst 0, 1) := by decide +kernel
theorem dL_isDamaged_26 : decode cL_isDamaged 26 = .ok (.istore 6, 2) := by decide +kernel
theorem dL_isDamaged_28 : decode cL_isDamaged 28 = .ok (.iconst 0, 1) := by decide +kernel
theorem dL_isDamaged_29 : decode cL_isDamaged 29 = .ok (.istore 7, 2) := by decide +kernel
theorem dL_isDamaged_31 : decode cL_isDamaged 31 = .ok (.iload 7, 2) := by decide +kernel
theorem dL_isDamaged_33 : decode cL_isDamaged 33 = .ok (.iload_n 2, 1) := by decide +kernel
theorem dL_isDamaged_34 : decode cL_isDamaged 34 = .ok (.if_icmp .ge 118, 3) := by decide +kernel
theorem dL_isDamaged_37 : decode cL_isDamaged 37 = .ok (.aload_n 0, 1) := by decide +kernel
theorem dL_isDamaged_38 : decode cL_isDamaged 38 = .ok (.iload 7, 2) := by decide +kernel
theorem dL_isDamaged_40 : decode cL_isDamaged 40 = .ok (.invokestatic 129, 3) := by decide +kernel
theorem dL_isDamaged_43 : decode cL_isDamaged 43 = .ok (.istore 8, 2) := by decide +kernel
theorem dL_isDamaged_45 : decode cL_isDamaged 45 = .ok (.iconst 0, 1) := by decide +kernel
theorem dL_isDamaged_46 : decode cL_isDamaged 46 = .ok (.istore 9, 2) := by decide +kernel
theorem dL_isDamaged_48 : decode cL_isDamaged 48 = .ok (.iload 7, 2) := by decide +kernel
theorem dL_isDamaged_50 : decode cL_isDamaged 50 = .ok (.istore 10, 2) := by decide +kernel
theorem dL_isDamaged_52 : decode cL_isDamaged 52 = .ok (.iload 8, 2) := by decide +kernel
theorem dL_isDamaged_54 : decode cL_isDamaged 54 = .ok (.ifCond .eq 53, 3) := by decide +kernel
theorem dL_isDamaged_57 : decode cL_isDamaged 57 = .ok (.iload 10, 2) := by decide +kernel
theorem dL_isDamaged_59 : decode cL_isDamaged 59 = .ok (.ifCond .lt 48, 3) := by decide +kernel
theorem dL_isDamaged_62 : decode cL_isDamaged 62 = .ok (.aload_n 1, 1) := by decide +kernel
theorem dL_isDamaged_63 : decode cL_isDamaged 63 = .ok (.iload 10, 2) := by decide +kernel
theorem dL_isDamaged_65 : decode cL_isDamaged 65 = .ok (.iaload, 1) := by decide +kernel
theorem dL_isDamaged_66 : decode cL_isDamaged 66 = .ok (.iconst 4, 1) := by decide +kernel
theorem dL_isDamaged_67 : decode cL_isDamaged 67 = .ok (.idiv, 1) := by decide +kernel
theorem dL_isDamaged_68 : decode cL_isDamaged 68 = .ok (.ifCond .ne 7, 3) := by decide +kernel
theorem dL_isDamaged_71 : decode cL_isDamaged 71 = .ok (.iconst 1, 1) := by decide +kernel
theorem dL_isDamaged_72 : decode cL_isDamaged 72 = .ok (.goto 4, 3) := by decide +kernel
theorem dL_isDamaged_75 : decode cL_isDamaged 75 = .ok (.iconst 0, 1) := by decide +kernel
theorem dL_isDamaged_76 : decode cL_isDamaged 76 = .ok (.istore 8, 2) := by decide +kernel
theorem dL_isDamaged_78 : decode cL_isDamaged 78 = .ok (.iload 9, 2) := by decide +kernel
theorem dL_isDamaged_80 : decode cL_isDamaged 80 = .ok (.ifCond .ne 9, 3) := by decide +kernel
theorem dL_isDamaged_83 : decode cL_isDamaged 83 = .ok (.iload 10, 2) := by decide +kernel
theorem dL_isDamaged_85 : decode cL_isDamaged 85 = .ok (.iload_n 3, 1) := by decide +kernel
theorem dL_isDamaged_86 : decode cL_isDamaged 86 = .ok (.if_icmp .ne 7, 3) := by decide +kernel
theorem dL_isDamaged_89 : decode cL_isDamaged 89 = .ok (.iconst 1, 1) := by decide +kernel
theorem dL_isDamaged_90 : decode cL_isDamaged 90 = .ok (.goto 4, 3) := by decide +kernel
theorem dL_isDamaged_93 : decode cL_isDamaged 93 = .ok (.iconst 0, 1) := by decide +kernel
theorem dL_isDamaged_94 : decode cL_isDamaged 94 = .ok (.istore 9, 2) := by decide +kernel
theorem dL_isDamaged_96 : decode cL_isDamaged 96 = .ok (.aload_n 0, 1) := by decide +kernel
theorem dL_isDamaged_97 : decode cL_isDamaged 97 = .ok (.iload 10, 2) := by decide +kernel
theorem dL_isDamaged_99 : decode cL_isDamaged 99 = .ok (.invokevirtual 29, 3) := by decide +kernel
theorem dL_isDamaged_102 : decode cL_isDamaged 102 = .ok (.istore 10, 2) := by decide +kernel
theorem dL_isDamaged_104 : decode cL_isDamaged 104 = .ok (.goto (-52), 3) := by decide +kernel
theorem dL_isDamaged_107 : decode cL_isDamaged 107 = .ok (.iload 5, 2) := by decide +kernel
theorem dL_isDamaged_109 : decode cL_isDamaged 109 = .ok (.iload 8, 2) := by decide +kernel
theorem dL_isDamaged_111 : decode cL_isDamaged 111 = .ok (.ifCond .eq 12, 3) := by decide +kernel
theorem dL_isDamaged_114 : decode cL_isDamaged 114 = .ok (.iload 9, 2) := by decide +kernel
theorem dL_isDamaged_116 : decode cL_isDamaged 116 = .ok (.ifCond .eq 7, 3) := by decide +kernel
theorem dL_isDamaged_119 : decode cL_isDamaged 119 = .ok (.iconst 1, 1) := by decide +kernel
theorem dL_isDamaged_120 : decode cL_isDamaged 120 = .ok (.goto 4, 3) := by decide +kernel
theorem dL_isDamaged_123 : decode cL_isDamaged 123 = .ok (.iconst 0, 1) := by decide +kernel
theorem dL_isDamaged_124 : decode cL_isDamaged 124 = .ok (.iadd, 1) := by decide +kernel
theorem dL_isDamaged_125 : decode cL_isDamaged 125 = .ok (.istore 5, 2) := by decide +kernel
theorem dL_isDamaged_127 : decode cL_isDamaged 127 = .ok (.iload 6, 2) := by decide +kernel
theorem dL_isDamaged_129 : decode cL_isDamaged 129 = .ok (.aload_n 0, 1) := by decide +kernel
theorem dL_isDamaged_130 : decode cL_isDamaged 130 = .ok (.iload 7, 2) := by decide +kernel
theorem dL_isDamaged_132 : decode cL_isDamaged 132 = .ok (.invokevirtual 48, 3) := by decide +kernel
theorem dL_isDamaged_135 : decode cL_isDamaged 135 = .ok (.ifCond .eq 7, 3) := by decide +kernel
theorem dL_isDamaged_138 : decode cL_isDamaged 138 = .ok (.iconst 1, 1) := by decide +kernel
theorem dL_isDamaged_139 : decode cL_isDamaged 139 = .ok (.goto 4, 3) := by decide +kernel
theorem dL_isDamaged_142 : decode cL_isDamaged 142 = .ok (.iconst 0, 1) := by decide +kernel
theorem dL_isDamaged_143 : decode cL_isDamaged 143 = .ok (.iadd, 1) := by decide +kernel
theorem dL_isDamaged_144 : decode cL_isDamaged 144 = .ok (.istore 6, 2) := by decide +kernel
theorem dL_isDamaged_146 : decode cL_isDamaged 146 = .ok (.iinc 7 1, 3) := by decide +kernel
theorem dL_isDamaged_149 : decode cL_isDamaged 149 = .ok (.goto (-118), 3) := by decide +kernel
theorem dL_isDamaged_152 : decode cL_isDamaged 152 = .ok (.aload_n 0, 1) := by decide +kernel
theorem dL_isDamaged_153 : decode cL_isDamaged 153 = .ok (.iconst 1, 1) := by decide +kernel
theorem dL_isDamaged_154 : decode cL_isDamaged 154 = .ok (.iload_n 3, 1) := by decide +kernel
theorem dL_isDamaged_155 : decode cL_isDamaged 155 = .ok (.invokestatic 85, 3) := by decide +kernel
theorem dL_isDamaged_158 : decode cL_isDamaged 158 = .ok (.istore 7, 2) := by decide +kernel
theorem dL_isDamaged_160 : decode cL_isDamaged 160 = .ok (.aload_n 1, 1) := by decide +kernel
theorem dL_isDamaged_161 : decode cL_isDamaged 161 = .ok (.iload_n 3, 1) := by decide +kernel
theorem dL_isDamaged_162 : decode cL_isDamaged 162 = .ok (.dup2, 1) := by decide +kernel
theorem dL_isDamaged_163 : decode cL_isDamaged 163 = .ok (.iaload, 1) := by decide +kernel
theorem dL_isDamaged_164 : decode cL_isDamaged 164 = .ok (.iload 4, 2) := by decide +kernel
theorem dL_isDamaged_166 : decode cL_isDamaged 166 = .ok (.ifCond .eq 7, 3) := by decide +kernel
theorem dL_isDamaged_169 : decode cL_isDamaged 169 = .ok (.iconst 4, 1) := by decide +kernel
theorem dL_isDamaged_170 : decode cL_isDamaged 170 = .ok (.goto 4, 3) := by decide +kernel
theorem dL_isDamaged_173 : decode cL_isDamaged 173 = .ok (.iconst 0, 1) := by decide +kernel
theorem dL_isDamaged_174 : decode cL_isDamaged 174 = .ok (.iadd, 1) := by decide +kernel
theorem dL_isDamaged_175 : decode cL_isDamaged 175 = .ok (.iastore, 1) := by decide +kernel
theorem dL_isDamaged_176 : decode cL_isDamaged 176 = .ok (.iconst 0, 1) := by decide +kernel
theorem dL_isDamaged_177 : decode cL_isDamaged 177 = .ok (.istore 8, 2) := by decide +kernel
theorem dL_isDamaged_179 : decode cL_isDamaged 179 = .ok (.iload 8, 2) := by decide +kernel
theorem dL_isDamaged_181 : decode cL_isDamaged 181 = .ok (.iload_n 2, 1) := by decide +kernel
theorem dL_isDamaged_182 : decode cL_isDamaged 182 = .ok (.if_icmp .ge 28, 3) := by decide +kernel
theorem dL_isDamaged_185 : decode cL_isDamaged 185 = .ok (.iload 6, 2) := by decide +kernel
theorem dL_isDamaged_187 : decode cL_isDamaged 187 = .ok (.aload_n 0, 1) := by decide +kernel
theorem dL_isDamaged_188 : decode cL_isDamaged 188 = .ok (.iload 8, 2) := by decide +kernel
theorem dL_isDamaged_190 : decode cL_isDamaged 190 = .ok (.invokevirtual 48, 3) := by decide +kernel
theorem dL_isDamaged_193 : decode cL_isDamaged 193 = .ok (.ifCond .eq 7, 3) := by decide +kernel
theorem dL_isDamaged_196 : decode cL_isDamaged 196 = .ok (.iconst 1, 1) := by decide +kernel
theorem dL_isDamaged_197 : decode cL_isDamaged 197 = .ok (.goto 4, 3) := by decide +kernel
theorem dL_isDamaged_200 : decode cL_isDamaged 200 = .ok (.iconst 0, 1) := by decide +kernel
theorem dL_isDamaged_201 : decode cL_isDamaged 201 = .ok (.isub, 1) := by decide +kernel
theorem dL_isDamaged_202 : decode cL_isDamaged 202 = .ok (.istore 6, 2) := by decide +kernel
theorem dL_isDamaged_204 : decode cL_isDamaged 204 = .ok (.iinc 8 1, 3) := by decide +kernel
theorem dL_isDamaged_207 : decode cL_isDamaged 207 = .ok (.goto (-28), 3) := by decide +kernel
theorem dL_isDamaged_210 : decode cL_isDamaged 210 = .ok (.iload 7, 2) := by decide +kernel
theorem dL_isDamaged_212 : decode cL_isDamaged 212 = .ok (.iload 4, 2) := by decide +kernel
theorem dL_isDamaged_214 : decode cL_isDamaged 214 = .ok (.ifCond .eq 8, 3) := by decide +kernel
theorem dL_isDamaged_217 : decode cL_isDamaged 217 = .ok (.iload 5, 2) := by decide +kernel
theorem dL_isDamaged_219 : decode cL_isDamaged 219 = .ok (.goto 5, 3) := by decide +kernel
theorem dL_isDamaged_222 : decode cL_isDamaged 222 = .ok (.bipush (-103), 2) := by decide +kernel
theorem dL_isDamaged_224 : decode cL_isDamaged 224 = .ok (.if_icmp .ne 32, 3) := by decide +kernel
theorem dL_isDamaged_227 : decode cL_isDamaged 227 = .ok (.iload 4, 2) := by decide +kernel
theorem dL_isDamaged_229 : decode cL_isDamaged 229 = .ok (.ifCond .eq 18, 3) := by decide +kernel
theorem dL_isDamaged_232 : decode cL_isDamaged 232 = .ok (.iload 6, 2) := by decide +kernel
theorem dL_isDamaged_234 : decode cL_isDamaged 234 = .ok (.ifCond .lt 22, 3) := by decide +kernel
theorem dL_isDamaged_237 : decode cL_isDamaged 237 = .ok (.iload 6, 2) := by decide +kernel
theorem dL_isDamaged_239 : decode cL_isDamaged 239 = .ok (.iload 5, 2) := by decide +kernel
theorem dL_isDamaged_241 : decode cL_isDamaged 241 = .ok (.if_icmp .gt 15, 3) := by decide +kernel
theorem dL_isDamaged_244 : decode cL_isDamaged 244 = .ok (.goto 8, 3) := by decide +kernel
theorem dL_isDamaged_247 : decode cL_isDamaged 247 = .ok (.iload 6, 2) := by decide +kernel
theorem dL_isDamaged_249 : decode cL_isDamaged 249 = .ok (.ifCond .ne 7, 3) := by decide +kernel
theorem dL_isDamaged_252 : decode cL_isDamaged 252 = .ok (.iconst 1, 1) := by decide +kernel
theorem dL_isDamaged_253 : decode cL_isDamaged 253 = .ok (.goto 4, 3) := by decide +kernel
theorem dL_isDamaged_256 : decode cL_isDamaged 256 = .ok (.iconst 0, 1) := by decide +kernel
theorem dL_isDamaged_257 : decode cL_isDamaged 257 = .ok (.ireturn, 1) := by decide +kernel
theorem dL_law_0 : decode cL_law 0 = .ok (.new 10, 3) := by decide +kernel
theorem dL_law_3 : decode cL_law 3 = .ok (.dup, 1) := by decide +kernel
theorem dL_law_4 : decode cL_law 4 = .ok (.invokespecial 168, 3) := by decide +kernel
theorem dL_law_7 : decode cL_law 7 = .ok (.astore_n 1, 1) := by decide +kernel
theorem dL_law_8 : decode cL_law 8 = .ok (.bipush 40, 2) := by decide +kernel
theorem dL_law_10 : decode cL_law 10 = .ok (.newarray .long, 2) := by decide +kernel
theorem dL_law_12 : decode cL_law 12 = .ok (.astore_n 2, 1) := by decide +kernel
theorem dL_law_13 : decode cL_law 13 = .ok (.bipush 40, 2) := by decide +kernel
theorem dL_law_15 : decode cL_law 15 = .ok (.newarray .int, 2) := by decide +kernel
theorem dL_law_17 : decode cL_law 17 = .ok (.astore_n 3, 1) := by decide +kernel
theorem dL_law_18 : decode cL_law 18 = .ok (.bipush 40, 2) := by decide +kernel
theorem dL_law_20 : decode cL_law 20 = .ok (.newarray .int, 2) := by decide +kernel
theorem dL_law_22 : decode cL_law 22 = .ok (.astore 4, 2) := by decide +kernel
theorem dL_law_24 : decode cL_law 24 = .ok (.iconst 0, 1) := by decide +kernel
theorem dL_law_25 : decode cL_law 25 = .ok (.istore 5, 2) := by decide +kernel
theorem dL_law_27 : decode cL_law 27 = .ok (.aload_n 1, 1) := by decide +kernel
theorem dL_law_28 : decode cL_law 28 = .ok (.invokevirtual 91, 3) := by decide +kernel
theorem dL_law_31 : decode cL_law 31 = .ok (.ifCond .ne 30, 3) := by decide +kernel
theorem dL_law_34 : decode cL_law 34 = .ok (.aload_n 1, 1) := by decide +kernel
theorem dL_law_35 : decode cL_law 35 = .ok (.invokevirtual 97, 3) := by decide +kernel
theorem dL_law_38 : decode cL_law 38 = .ok (.ifCond .ne 23, 3) := by decide +kernel
theorem dL_law_41 : decode cL_law 41 = .ok (.aload_n 1, 1) := by decide +kernel
theorem dL_law_42 : decode cL_law 42 = .ok (.iconst 0, 1) := by decide +kernel
theorem dL_law_43 : decode cL_law 43 = .ok (.invokestatic 169, 3) := by decide +kernel
theorem dL_law_46 : decode cL_law 46 = .ok (.ifCond .eq 15, 3) := by decide +kernel
theorem dL_law_49 : decode cL_law 49 = .ok (.aload_n 1, 1) := by decide +kernel
theorem dL_law_50 : decode cL_law 50 = .ok (.iconst 1, 1) := by decide +kernel
theorem dL_law_51 : decode cL_law 51 = .ok (.invokestatic 169, 3) := by decide +kernel
theorem dL_law_54 : decode cL_law 54 = .ok (.ifCond .eq 7, 3) := by decide +kernel
theorem dL_law_57 : decode cL_law 57 = .ok (.iconst 1, 1) := by decide +kernel
theorem dL_law_58 : decode cL_law 58 = .ok (.goto 4, 3) := by decide +kernel
theorem dL_law_61 : decode cL_law 61 = .ok (.iconst 0, 1) := by decide +kernel
theorem dL_law_62 : decode cL_law 62 = .ok (.istore 6, 2) := by decide +kernel
theorem dL_law_64 : decode cL_law 64 = .ok (.iconst 0, 1) := by decide +kernel
theorem dL_law_65 : decode cL_law 65 = .ok (.istore 7, 2) := by decide +kernel
theorem dL_law_67 : decode cL_law 67 = .ok (.iload 7, 2) := by decide +kernel
theorem dL_law_69 : decode cL_law 69 = .ok (.bipush 80, 2) := by decide +kernel
theorem dL_law_71 : decode cL_law 71 = .ok (.if_icmp .ge 585, 3) := by decide +kernel
theorem dL_law_74 : decode cL_law 74 = .ok (.iload 6, 2) := by decide +kernel
theorem dL_law_76 : decode cL_law 76 = .ok (.ifCond .eq 580, 3) := by decide +kernel
theorem dL_law_79 : decode cL_law 79 = .ok (.aload_n 0, 1) := by decide +kernel
theorem dL_law_80 : decode cL_law 80 = .ok (.iload 7, 2) := by decide +kernel
theorem dL_law_82 : decode cL_law 82 = .ok (.invokestatic 172, 3) := by decide +kernel
theorem dL_law_85 : decode cL_law 85 = .ok (.istore 8, 2) := by decide +kernel
theorem dL_law_87 : decode cL_law 87 = .ok (.iload 8, 2) := by decide +kernel
theorem dL_law_89 : decode cL_law 89 = .ok (.bipush 32, 2) := by decide +kernel
theorem dL_law_91 : decode cL_law 91 = .ok (.idiv, 1) := by decide +kernel
theorem dL_law_92 : decode cL_law 92 = .ok (.istore 9, 2) := by decide +kernel
theorem dL_law_94 : decode cL_law 94 = .ok (.iload 8, 2) := by decide +kernel
theorem dL_law_96 : decode cL_law 96 = .ok (.bipush 32, 2) := by decide +kernel
theorem dL_law_98 : decode cL_law 98 = .ok (.irem, 1) := by decide +kernel
theorem dL_law_99 : decode cL_law 99 = .ok (.istore 10, 2) := by decide +kernel
theorem dL_law_101 : decode cL_law 101 = .ok (.iload 5, 2) := by decide +kernel
theorem dL_law_103 : decode cL_law 103 = .ok (.ifCond .ne 7, 3) := by decide +kernel
theorem dL_law_106 : decode cL_law 106 = .ok (.iconst 0, 1) := by decide +kernel
theorem dL_law_107 : decode cL_law 107 = .ok (.goto 8, 3) := by decide +kernel
theorem dL_law_110 : decode cL_law 110 = .ok (.iload 9, 2) := by decide +kernel
theorem dL_law_112 : decode cL_law 112 = .ok (.iload 5, 2) := by decide +kernel
theorem dL_law_114 : decode cL_law 114 = .ok (.irem, 1) := by decide +kernel
theorem dL_law_115 : decode cL_law 115 = .ok (.istore 11, 2) := by decide +kernel
theorem dL_law_117 : decode cL_law 117 = .ok (.iload 10, 2) := by decide +kernel
theorem dL_law_119 : decode cL_law 119 = .ok (.bipush 13, 2) := by decide +kernel
theorem dL_law_121 : decode cL_law 121 = .ok (.if_icmp .lt 8, 3) := by decide +kernel
theorem dL_law_124 : decode cL_law 124 = .ok (.iload 5, 2) := by decide +kernel
theorem dL_law_126 : decode cL_law 126 = .ok (.ifCond .ne 215, 3) := by decide +kernel
theorem dL_law_129 : decode cL_law 129 = .ok (.lconst 0, 1) := by decide +kernel
theorem dL_law_130 : decode cL_law 130 = .ok (.lstore 12, 2) := by decide +kernel
theorem dL_law_132 : decode cL_law 132 = .ok (.iconst 1, 1) := by decide +kernel
theorem dL_law_133 : decode cL_law 133 = .ok (.iload 9, 2) := by decide +kernel
theorem dL_law_135 : decode cL_law 135 = .ok (.iconst 3, 1) := by decide +kernel
theorem dL_law_136 : decode cL_law 136 = .ok (.idiv, 1) := by decide +kernel
theorem dL_law_137 : decode cL_law 137 = .ok (.bipush 15, 2) := by decide +kernel
theorem dL_law_139 : decode cL_law 139 = .ok (.irem, 1) := by decide +kernel
theorem dL_law_140 : decode cL_law 140 = .ok (.iadd, 1) := by decide +kernel
theorem dL_law_141 : decode cL_law 141 = .ok (.istore 14, 2) := by decide +kernel
theorem dL_law_143 : decode cL_law 143 = .ok (.iconst 0, 1) := by decide +kernel
theorem dL_law_144 : decode cL_law 144 = .ok (.istore 15, 2) := by decide +kernel
theorem dL_law_146 : decode cL_law 146 = .ok (.iload 15, 2) := by decide +kernel
theorem dL_law_148 : decode cL_law 148 = .ok (.iload 14, 2) := by decide +kernel
theorem dL_law_150 : decode cL_law 150 = .ok (.if_icmp .ge 67, 3) := by decide +kernel
theorem dL_law_153 : decode cL_law 153 = .ok (.ldc2_w 146, 3) := by decide +kernel
theorem dL_law_156 : decode cL_law 156 = .ok (.lload 12, 2) := by decide +kernel
theorem dL_law_158 : decode cL_law 158 = .ok (.lmul, 1) := by decide +kernel
theorem dL_law_159 : decode cL_law 159 = .ok (.lconst 1, 1) := by decide +kernel
theorem dL_law_160 : decode cL_law 160 = .ok (.ladd, 1) := by decide +kernel
theorem dL_law_161 : decode cL_law 161 = .ok (.iload 9, 2) := by decide +kernel
theorem dL_law_163 : decode cL_law 163 = .ok (.bipush 7, 2) := by decide +kernel
theorem dL_law_165 : decode cL_law 165 = .ok (.irem, 1) := by decide +kernel
theorem dL_law_166 : decode cL_law 166 = .ok (.iconst 4, 1) := by decide +kernel
theorem dL_law_167 : decode cL_law 167 = .ok (.if_icmp .ge 19, 3) := by decide +kernel
theorem dL_law_170 : decode cL_law 170 = .ok (.iload 15, 2) := by decide +kernel
theorem dL_law_172 : decode cL_law 172 = .ok (.iload 9, 2) := by decide +kernel
theorem dL_law_174 : decode cL_law 174 = .ok (.bipush 45, 2) := by decide +kernel
theorem dL_law_176 : decode cL_law 176 = .ok (.idiv, 1) := by decide +kernel
theorem dL_law_177 : decode cL_law 177 = .ok (.iconst 5, 1) := by decide +kernel
theorem dL_law_178 : decode cL_law 178 = .ok (.irem, 1) := by decide +kernel
theorem dL_law_179 : decode cL_law 179 = .ok (.iadd, 1) := by decide +kernel
theorem dL_law_180 : decode cL_law 180 = .ok (.bipush 15, 2) := by decide +kernel
theorem dL_law_182 : decode cL_law 182 = .ok (.irem, 1) := by decide +kernel
theorem dL_law_183 : decode cL_law 183 = .ok (.goto 24, 3) := by decide +kernel
theorem dL_law_186 : decode cL_law 186 = .ok (.iload 9, 2) := by decide +kernel
theorem dL_law_188 : decode cL_law 188 = .ok (.bipush 45, 2) := by decide +kernel
theorem dL_law_190 : decode cL_law 190 = .ok (.idiv, 1) := by decide +kernel
theorem dL_law_191 : decode cL_law 191 = .ok (.iload 15, 2) := by decide +kernel
theorem dL_law_193 : decode cL_law 193 = .ok (.iload 9, 2) := by decide +kernel
theorem dL_law_195 : decode cL_law 195 = .ok (.sipush 800, 3) := by decide +kernel
theorem dL_law_198 : decode cL_law 198 = .ok (.idiv, 1) := by decide +kernel
theorem dL_law_199 : decode cL_law 199 = .ok (.bipush 11, 2) := by decide +kernel
theorem dL_law_201 : decode cL_law 201 = .ok (.irem, 1) := by decide +kernel
theorem dL_law_202 : decode cL_law 202 = .ok (.imul, 1) := by decide +kernel
theorem dL_law_203 : decode cL_law 203 = .ok (.iadd, 1) := by decide +kernel
theorem dL_law_204 : decode cL_law 204 = .ok (.bipush 15, 2) := by decide +kernel
theorem dL_law_206 : decode cL_law 206 = .ok (.irem, 1) := by decide +kernel
theorem dL_law_207 : decode cL_law 207 = .ok (.i2l, 1) := by decide +kernel
theorem dL_law_208 : decode cL_law 208 = .ok (.ladd, 1) := by decide +kernel
theorem dL_law_209 : decode cL_law 209 = .ok (.lstore 12, 2) := by decide +kernel
theorem dL_law_211 : decode cL_law 211 = .ok (.iinc 15 1, 3) := by decide +kernel
theorem dL_law_214 : decode cL_law 214 = .ok (.goto (-68), 3) := by decide +kernel
theorem dL_law_217 : decode cL_law 217 = .ok (.iload 5, 2) := by decide +kernel
theorem dL_law_219 : decode cL_law 219 = .ok (.ifCond .le 24, 3) := by decide +kernel
theorem dL_law_222 : decode cL_law 222 = .ok (.iload 9, 2) := by decide +kernel
theorem dL_law_224 : decode cL_law 224 = .ok (.bipush 11, 2) := by decide +kernel
theorem dL_law_226 : decode cL_law 226 = .ok (.irem, 1) := by decide +kernel
theorem dL_law_227 : decode cL_law 227 = .ok (.ifCond .ne 16, 3) := by decide +kernel
theorem dL_law_230 : decode cL_law 230 = .ok (.aload_n 2, 1) := by decide +kernel
theorem dL_law_231 : decode cL_law 231 = .ok (.iload 9, 2) := by decide +kernel
theorem dL_law_233 : decode cL_law 233 = .ok (.bipush 11, 2) := by decide +kernel
theorem dL_law_235 : decode cL_law 235 = .ok (.idiv, 1) := by decide +kernel
theorem dL_law_236 : decode cL_law 236 = .ok (.iload 5, 2) := by decide +kernel
theorem dL_law_238 : decode cL_law 238 = .ok (.irem, 1) := by decide +kernel
theorem dL_law_239 : decode cL_law 239 = .ok (.laload, 1) := by decide +kernel
theorem dL_law_240 : decode cL_law 240 = .ok (.goto 5, 3) := by decide +kernel
theorem dL_law_243 : decode cL_law 243 = .ok (.lload 12, 2) := by decide +kernel
theorem dL_law_245 : decode cL_law 245 = .ok (.lstore 12, 2) := by decide +kernel
theorem dL_law_247 : decode cL_law 247 = .ok (.aload_n 1, 1) := by decide +kernel
theorem dL_law_248 : decode cL_law 248 = .ok (.invokestatic 139, 3) := by decide +kernel
theorem dL_law_251 : decode cL_law 251 = .ok (.lstore 15, 2) := by decide +kernel
theorem dL_law_253 : decode cL_law 253 = .ok (.aload_n 1, 1) := by decide +kernel
theorem dL_law_254 : decode cL_law 254 = .ok (.iload 9, 2) := by decide +kernel
theorem dL_law_256 : decode cL_law 256 = .ok (.iconst 4, 1) := by decide +kernel
theorem dL_law_257 : decode cL_law 257 = .ok (.irem, 1) := by decide +kernel
theorem dL_law_258 : decode cL_law 258 = .ok (.lload 12, 2) := by decide +kernel
theorem dL_law_260 : decode cL_law 260 = .ok (.invokestatic 143, 3) := by decide +kernel
theorem dL_law_263 : decode cL_law 263 = .ok (.istore 17, 2) := by decide +kernel
theorem dL_law_265 : decode cL_law 265 = .ok (.iload 17, 2) := by decide +kernel
theorem dL_law_267 : decode cL_law 267 = .ok (.iload 5, 2) := by decide +kernel
theorem dL_law_269 : decode cL_law 269 = .ok (.bipush 40, 2) := by decide +kernel
theorem dL_law_271 : decode cL_law 271 = .ok (.if_icmp .ne 8, 3) := by decide +kernel
theorem dL_law_274 : decode cL_law 274 = .ok (.bipush (-103), 2) := by decide +kernel
theorem dL_law_276 : decode cL_law 276 = .ok (.goto 5, 3) := by decide +kernel
theorem dL_law_279 : decode cL_law 279 = .ok (.iload 5, 2) := by decide +kernel
theorem dL_law_281 : decode cL_law 281 = .ok (.if_icmp .ne 24, 3) := by decide +kernel
theorem dL_law_284 : decode cL_law 284 = .ok (.iload 5, 2) := by decide +kernel
theorem dL_law_286 : decode cL_law 286 = .ok (.bipush 40, 2) := by decide +kernel
theorem dL_law_288 : decode cL_law 288 = .ok (.if_icmp .lt 13, 3) := by decide +kernel
theorem dL_law_291 : decode cL_law 291 = .ok (.aload_n 1, 1) := by decide +kernel
theorem dL_law_292 : decode cL_law 292 = .ok (.invokestatic 139, 3) := by decide +kernel
theorem dL_law_295 : decode cL_law 295 = .ok (.lload 15, 2) := by decide +kernel
theorem dL_law_297 : decode cL_law 297 = .ok (.lcmp, 1) := by decide +kernel
theorem dL_law_298 : decode cL_law 298 = .ok (.ifCond .ne 7, 3) := by decide +kernel
theorem dL_law_301 : decode cL_law 301 = .ok (.iconst 1, 1) := by decide +kernel
theorem dL_law_302 : decode cL_law 302 = .ok (.goto 4, 3) := by decide +kernel
theorem dL_law_305 : decode cL_law 305 = .ok (.iconst 0, 1) := by decide +kernel
theorem dL_law_306 : decode cL_law 306 = .ok (.istore 6, 2) := by decide +kernel
theorem dL_law_308 : decode cL_law 308 = .ok (.iload 5, 2) := by decide +kernel
theorem dL_law_310 : decode cL_law 310 = .ok (.bipush 40, 2) := by decide +kernel
theorem dL_law_312 : decode cL_law 312 = .ok (.if_icmp .ge 26, 3) := by decide +kernel
theorem dL_law_315 : decode cL_law 315 = .ok (.aload_n 2, 1) := by decide +kernel
theorem dL_law_316 : decode cL_law 316 = .ok (.iload 5, 2) := by decide +kernel
theorem dL_law_318 : decode cL_law 318 = .ok (.lload 12, 2) := by decide +kernel
theorem dL_law_320 : decode cL_law 320 = .ok (.lastore, 1) := by decide +kernel
theorem dL_law_321 : decode cL_law 321 = .ok (.aload_n 3, 1) := by decide +kernel
theorem dL_law_322 : decode cL_law 322 = .ok (.iload 5, 2) := by decide +kernel
theorem dL_law_324 : decode cL_law 324 = .ok (.iload 9, 2) := by decide +kernel
theorem dL_law_326 : decode cL_law 326 = .ok (.iconst 4, 1) := by decide +kernel
theorem dL_law_327 : decode cL_law 327 = .ok (.irem, 1) := by decide +kernel
theorem dL_law_328 : decode cL_law 328 = .ok (.iastore, 1) := by decide +kernel
theorem dL_law_329 : decode cL_law 329 = .ok (.aload 4, 2) := by decide +kernel
theorem dL_law_331 : decode cL_law 331 = .ok (.iload 5, 2) := by decide +kernel
theorem dL_law_333 : decode cL_law 333 = .ok (.iconst 3, 1) := by decide +kernel
theorem dL_law_334 : decode cL_law 334 = .ok (.iastore, 1) := by decide +kernel
theorem dL_law_335 : decode cL_law 335 = .ok (.iinc 5 1, 3) := by decide +kernel
theorem dL_law_338 : decode cL_law 338 = .ok (.goto 205, 3) := by decide +kernel
theorem dL_law_341 : decode cL_law 341 = .ok (.iload 10, 2) := by decide +kernel
theorem dL_law_343 : decode cL_law 343 = .ok (.bipush 15, 2) := by decide +kernel
theorem dL_law_345 : decode cL_law 345 = .ok (.if_icmp .ge 116, 3) := by decide +kernel
theorem dL_law_348 : decode cL_law 348 = .ok (.aload_n 1, 1) := by decide +kernel
theorem dL_law_349 : decode cL_law 349 = .ok (.iload 11, 2) := by decide +kernel
theorem dL_law_351 : decode cL_law 351 = .ok (.invokevirtual 41, 3) := by decide +kernel
theorem dL_law_354 : decode cL_law 354 = .ok (.istore 12, 2) := by decide +kernel
theorem dL_law_356 : decode cL_law 356 = .ok (.aload_n 1, 1) := by decide +kernel
theorem dL_law_357 : decode cL_law 357 = .ok (.invokevirtual 102, 3) := by decide +kernel
theorem dL_law_360 : decode cL_law 360 = .ok (.istore 13, 2) := by decide +kernel
theorem dL_law_362 : decode cL_law 362 = .ok (.aload_n 1, 1) := by decide +kernel
theorem dL_law_363 : decode cL_law 363 = .ok (.iconst 0, 1) := by decide +kernel
theorem dL_law_364 : decode cL_law 364 = .ok (.iload 11, 2) := by decide +kernel
theorem dL_law_366 : decode cL_law 366 = .ok (.invokestatic 85, 3) := by decide +kernel
theorem dL_law_369 : decode cL_law 369 = .ok (.istore 14, 2) := by decide +kernel
theorem dL_law_371 : decode cL_law 371 = .ok (.iconst 0, 1) := by decide +kernel
theorem dL_law_372 : decode cL_law 372 = .ok (.istore 15, 2) := by decide +kernel
theorem dL_law_374 : decode cL_law 374 = .ok (.aload 4, 2) := by decide +kernel
theorem dL_law_376 : decode cL_law 376 = .ok (.iload 11, 2) := by decide +kernel
theorem dL_law_378 : decode cL_law 378 = .ok (.aload 4, 2) := by decide +kernel
theorem dL_law_380 : decode cL_law 380 = .ok (.iload 11, 2) := by decide +kernel
theorem dL_law_382 : decode cL_law 382 = .ok (.iaload, 1) := by decide +kernel
theorem dL_law_383 : decode cL_law 383 = .ok (.iconst 4, 1) := by decide +kernel
theorem dL_law_384 : decode cL_law 384 = .ok (.idiv, 1) := by decide +kernel
theorem dL_law_385 : decode cL_law 385 = .ok (.iconst 4, 1) := by decide +kernel
theorem dL_law_386 : decode cL_law 386 = .ok (.imul, 1) := by decide +kernel
theorem dL_law_387 : decode cL_law 387 = .ok (.iastore, 1) := by decide +kernel
theorem dL_law_388 : decode cL_law 388 = .ok (.iconst 0, 1) := by decide +kernel
theorem dL_law_389 : decode cL_law 389 = .ok (.istore 16, 2) := by decide +kernel
theorem dL_law_391 : decode cL_law 391 = .ok (.iload 16, 2) := by decide +kernel
theorem dL_law_393 : decode cL_law 393 = .ok (.iload 5, 2) := by decide +kernel
theorem dL_law_395 : decode cL_law 395 = .ok (.if_icmp .ge 21, 3) := by decide +kernel
theorem dL_law_398 : decode cL_law 398 = .ok (.iload 15, 2) := by decide +kernel
theorem dL_law_400 : decode cL_law 400 = .ok (.aload 4, 2) := by decide +kernel
theorem dL_law_402 : decode cL_law 402 = .ok (.iload 16, 2) := by decide +kernel
theorem dL_law_404 : decode cL_law 404 = .ok (.iaload, 1) := by decide +kernel
theorem dL_law_405 : decode cL_law 405 = .ok (.iconst 2, 1) := by decide +kernel
theorem dL_law_406 : decode cL_law 406 = .ok (.irem, 1) := by decide +kernel
theorem dL_law_407 : decode cL_law 407 = .ok (.iadd, 1) := by decide +kernel
theorem dL_law_408 : decode cL_law 408 = .ok (.istore 15, 2) := by decide +kernel
theorem dL_law_410 : decode cL_law 410 = .ok (.iinc 16 1, 3) := by decide +kernel
theorem dL_law_413 : decode cL_law 413 = .ok (.goto (-22), 3) := by decide +kernel
theorem dL_law_416 : decode cL_law 416 = .ok (.iload 14, 2) := by decide +kernel
theorem dL_law_418 : decode cL_law 418 = .ok (.iload 12, 2) := by decide +kernel
theorem dL_law_420 : decode cL_law 420 = .ok (.ifCond .eq 8, 3) := by decide +kernel
theorem dL_law_423 : decode cL_law 423 = .ok (.iload 15, 2) := by decide +kernel
theorem dL_law_425 : decode cL_law 425 = .ok (.goto 5, 3) := by decide +kernel
theorem dL_law_428 : decode cL_law 428 = .ok (.bipush (-103), 2) := by decide +kernel
theorem dL_law_430 : decode cL_law 430 = .ok (.if_icmp .ne 25, 3) := by decide +kernel
theorem dL_law_433 : decode cL_law 433 = .ok (.aload_n 1, 1) := by decide +kernel
theorem dL_law_434 : decode cL_law 434 = .ok (.invokevirtual 102, 3) := by decide +kernel
theorem dL_law_437 : decode cL_law 437 = .ok (.iload 13, 2) := by decide +kernel
theorem dL_law_439 : decode cL_law 439 = .ok (.if_icmp .ne 16, 3) := by decide +kernel
theorem dL_law_442 : decode cL_law 442 = .ok (.aload_n 1, 1) := by decide +kernel
theorem dL_law_443 : decode cL_law 443 = .ok (.iload 11, 2) := by decide +kernel
theorem dL_law_445 : decode cL_law 445 = .ok (.invokevirtual 48, 3) := by decide +kernel
theorem dL_law_448 : decode cL_law 448 = .ok (.ifCond .ne 7, 3) := by decide +kernel
theorem dL_law_451 : decode cL_law 451 = .ok (.iconst 1, 1) := by decide +kernel
theorem dL_law_452 : decode cL_law 452 = .ok (.goto 4, 3) := by decide +kernel
theorem dL_law_455 : decode cL_law 455 = .ok (.iconst 0, 1) := by decide +kernel
theorem dL_law_456 : decode cL_law 456 = .ok (.istore 6, 2) := by decide +kernel
theorem dL_law_458 : decode cL_law 458 = .ok (.goto 85, 3) := by decide +kernel
theorem dL_law_461 : decode cL_law 461 = .ok (.iload 10, 2) := by decide +kernel
theorem dL_law_463 : decode cL_law 463 = .ok (.bipush 24, 2) := by decide +kernel
theorem dL_law_465 : decode cL_law 465 = .ok (.if_icmp .ge 46, 3) := by decide +kernel
theorem dL_law_468 : decode cL_law 468 = .ok (.aload_n 1, 1) := by decide +kernel
theorem dL_law_469 : decode cL_law 469 = .ok (.aload_n 2, 1) := by decide +kernel
theorem dL_law_470 : decode cL_law 470 = .ok (.aload 4, 2) := by decide +kernel
theorem dL_law_472 : decode cL_law 472 = .ok (.iconst 1, 1) := by decide +kernel
theorem dL_law_473 : decode cL_law 473 = .ok (.iload 9, 2) := by decide +kernel
theorem dL_law_475 : decode cL_law 475 = .ok (.bipush 40, 2) := by decide +kernel
theorem dL_law_477 : decode cL_law 477 = .ok (.idiv, 1) := by decide +kernel
theorem dL_law_478 : decode cL_law 478 = .ok (.bipush 8, 2) := by decide +kernel
theorem dL_law_480 : decode cL_law 480 = .ok (.irem, 1) := by decide +kernel
theorem dL_law_481 : decode cL_law 481 = .ok (.iadd, 1) := by decide +kernel
theorem dL_law_482 : decode cL_law 482 = .ok (.iload 9, 2) := by decide +kernel
theorem dL_law_484 : decode cL_law 484 = .ok (.sipush 320, 3) := by decide +kernel
theorem dL_law_487 : decode cL_law 487 = .ok (.idiv, 1) := by decide +kernel
theorem dL_law_488 : decode cL_law 488 = .ok (.bipush 7, 2) := by decide +kernel
theorem dL_law_490 : decode cL_law 490 = .ok (.irem, 1) := by decide +kernel
theorem dL_law_491 : decode cL_law 491 = .ok (.iload 9, 2) := by decide +kernel
theorem dL_law_493 : decode cL_law 493 = .ok (.iconst 2, 1) := by decide +kernel
theorem dL_law_494 : decode cL_law 494 = .ok (.irem, 1) := by decide +kernel
theorem dL_law_495 : decode cL_law 495 = .ok (.ifCond .ne 7, 3) := by decide +kernel
theorem dL_law_498 : decode cL_law 498 = .ok (.iconst 1, 1) := by decide +kernel
theorem dL_law_499 : decode cL_law 499 = .ok (.goto 4, 3) := by decide +kernel
theorem dL_law_502 : decode cL_law 502 = .ok (.iconst 0, 1) := by decide +kernel
theorem dL_law_503 : decode cL_law 503 = .ok (.invokestatic 176, 3) := by decide +kernel
theorem dL_law_506 : decode cL_law 506 = .ok (.istore 6, 2) := by decide +kernel
theorem dL_law_508 : decode cL_law 508 = .ok (.goto 35, 3) := by decide +kernel
theorem dL_law_511 : decode cL_law 511 = .ok (.iload 10, 2) := by decide +kernel
theorem dL_law_513 : decode cL_law 513 = .ok (.bipush 28, 2) := by decide +kernel
theorem dL_law_515 : decode cL_law 515 = .ok (.if_icmp .ge 16, 3) := by decide +kernel
theorem dL_law_518 : decode cL_law 518 = .ok (.aload_n 1, 1) := by decide +kernel
theorem dL_law_519 : decode cL_law 519 = .ok (.aload 4, 2) := by decide +kernel
theorem dL_law_521 : decode cL_law 521 = .ok (.iload 5, 2) := by decide +kernel
theorem dL_law_523 : decode cL_law 523 = .ok (.invokestatic 180, 3) := by decide +kernel
theorem dL_law_526 : decode cL_law 526 = .ok (.istore 6, 2) := by decide +kernel
theorem dL_law_528 : decode cL_law 528 = .ok (.goto 15, 3) := by decide +kernel
theorem dL_law_531 : decode cL_law 531 = .ok (.aload_n 1, 1) := by decide +kernel
theorem dL_law_532 : decode cL_law 532 = .ok (.aload 4, 2) := by decide +kernel
theorem dL_law_534 : decode cL_law 534 = .ok (.iload 5, 2) := by decide +kernel
theorem dL_law_536 : decode cL_law 536 = .ok (.iload 11, 2) := by decide +kernel
theorem dL_law_538 : decode cL_law 538 = .ok (.invokestatic 184, 3) := by decide +kernel
theorem dL_law_541 : decode cL_law 541 = .ok (.istore 6, 2) := by decide +kernel
theorem dL_law_543 : decode cL_law 543 = .ok (.iconst 0, 1) := by decide +kernel
theorem dL_law_544 : decode cL_law 544 = .ok (.istore 12, 2) := by decide +kernel
theorem dL_law_546 : decode cL_law 546 = .ok (.iload 12, 2) := by decide +kernel
theorem dL_law_548 : decode cL_law 548 = .ok (.iload 5, 2) := by decide +kernel
theorem dL_law_550 : decode cL_law 550 = .ok (.if_icmp .ge 26, 3) := by decide +kernel
theorem dL_law_553 : decode cL_law 553 = .ok (.iload 6, 2) := by decide +kernel
theorem dL_law_555 : decode cL_law 555 = .ok (.ifCond .eq 21, 3) := by decide +kernel
theorem dL_law_558 : decode cL_law 558 = .ok (.aload_n 1, 1) := by decide +kernel
theorem dL_law_559 : decode cL_law 559 = .ok (.aload_n 2, 1) := by decide +kernel
theorem dL_law_560 : decode cL_law 560 = .ok (.aload_n 3, 1) := by decide +kernel
theorem dL_law_561 : decode cL_law 561 = .ok (.aload 4, 2) := by decide +kernel
theorem dL_law_563 : decode cL_law 563 = .ok (.iload 12, 2) := by decide +kernel
theorem dL_law_565 : decode cL_law 565 = .ok (.invokestatic 188, 3) := by decide +kernel
theorem dL_law_568 : decode cL_law 568 = .ok (.istore 6, 2) := by decide +kernel
theorem dL_law_570 : decode cL_law 570 = .ok (.iinc 12 1, 3) := by decide +kernel
theorem dL_law_573 : decode cL_law 573 = .ok (.goto (-27), 3) := by decide +kernel
theorem dL_law_576 : decode cL_law 576 = .ok (.iload 6, 2) := by decide +kernel
theorem dL_law_578 : decode cL_law 578 = .ok (.ifCond .eq 69, 3) := by decide +kernel
theorem dL_law_581 : decode cL_law 581 = .ok (.aload_n 1, 1) := by decide +kernel
theorem dL_law_582 : decode cL_law 582 = .ok (.invokevirtual 91, 3) := by decide +kernel
theorem dL_law_585 : decode cL_law 585 = .ok (.iload 5, 2) := by decide +kernel
theorem dL_law_587 : decode cL_law 587 = .ok (.if_icmp .ne 60, 3) := by decide +kernel
theorem dL_law_590 : decode cL_law 590 = .ok (.aload_n 1, 1) := by decide +kernel
theorem dL_law_591 : decode cL_law 591 = .ok (.aload_n 2, 1) := by decide +kernel
theorem dL_law_592 : decode cL_law 592 = .ok (.invokestatic 192, 3) := by decide +kernel
theorem dL_law_595 : decode cL_law 595 = .ok (.ifCond .eq 52, 3) := by decide +kernel
theorem dL_law_598 : decode cL_law 598 = .ok (.iload 5, 2) := by decide +kernel
theorem dL_law_600 : decode cL_law 600 = .ok (.ifCond .eq 24, 3) := by decide +kernel
theorem dL_law_603 : decode cL_law 603 = .ok (.aload_n 1, 1) := by decide +kernel
theorem dL_law_604 : decode cL_law 604 = .ok (.aload_n 2, 1) := by decide +kernel
theorem dL_law_605 : decode cL_law 605 = .ok (.iload 9, 2) := by decide +kernel
theorem dL_law_607 : decode cL_law 607 = .ok (.iload 5, 2) := by decide +kernel
theorem dL_law_609 : decode cL_law 609 = .ok (.irem, 1) := by decide +kernel
theorem dL_law_610 : decode cL_law 610 = .ok (.iload 9, 2) := by decide +kernel
theorem dL_law_612 : decode cL_law 612 = .ok (.bipush 40, 2) := by decide +kernel
theorem dL_law_614 : decode cL_law 614 = .ok (.idiv, 1) := by decide +kernel
theorem dL_law_615 : decode cL_law 615 = .ok (.iload 5, 2) := by decide +kernel
theorem dL_law_617 : decode cL_law 617 = .ok (.irem, 1) := by decide +kernel
theorem dL_law_618 : decode cL_law 618 = .ok (.invokestatic 196, 3) := by decide +kernel
theorem dL_law_621 : decode cL_law 621 = .ok (.ifCond .eq 26, 3) := by decide +kernel
theorem dL_law_624 : decode cL_law 624 = .ok (.iload 7, 2) := by decide +kernel
theorem dL_law_626 : decode cL_law 626 = .ok (.bipush 20, 2) := by decide +kernel
theorem dL_law_628 : decode cL_law 628 = .ok (.irem, 1) := by decide +kernel
theorem dL_law_629 : decode cL_law 629 = .ok (.ifCond .gt 14, 3) := by decide +kernel
theorem dL_law_632 : decode cL_law 632 = .ok (.aload_n 1, 1) := by decide +kernel
theorem dL_law_633 : decode cL_law 633 = .ok (.iload 8, 2) := by decide +kernel
theorem dL_law_635 : decode cL_law 635 = .ok (.iconst 3, 1) := by decide +kernel
theorem dL_law_636 : decode cL_law 636 = .ok (.idiv, 1) := by decide +kernel
theorem dL_law_637 : decode cL_law 637 = .ok (.invokestatic 169, 3) := by decide +kernel
theorem dL_law_640 : decode cL_law 640 = .ok (.ifCond .eq 7, 3) := by decide +kernel
theorem dL_law_643 : decode cL_law 643 = .ok (.iconst 1, 1) := by decide +kernel
theorem dL_law_644 : decode cL_law 644 = .ok (.goto 4, 3) := by decide +kernel
theorem dL_law_647 : decode cL_law 647 = .ok (.iconst 0, 1) := by decide +kernel
theorem dL_law_648 : decode cL_law 648 = .ok (.istore 6, 2) := by decide +kernel
theorem dL_law_650 : decode cL_law 650 = .ok (.iinc 7 1, 3) := by decide +kernel
theorem dL_law_653 : decode cL_law 653 = .ok (.goto (-586), 3) := by decide +kernel
theorem dL_law_656 : decode cL_law 656 = .ok (.iload 6, 2) := by decide +kernel
theorem dL_law_658 : decode cL_law 658 = .ok (.ireturn, 1) := by decide +kernel
