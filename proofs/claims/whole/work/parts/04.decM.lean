theorem dX4_init_0 : decode cX4_init 0 = .ok (.aload_n 0, 1) := by decide +kernel
theorem dX4_init_1 : decode cX4_init 1 = .ok (.invokespecial 1, 3) := by decide +kernel
theorem dX4_init_4 : decode cX4_init 4 = .ok (.aload_n 0, 1) := by decide +kernel
theorem dX4_init_5 : decode cX4_init 5 = .ok (.bipush 40, 2) := by decide +kernel
theorem dX4_init_7 : decode cX4_init 7 = .ok (.newarray .int, 2) := by decide +kernel
theorem dX4_init_9 : decode cX4_init 9 = .ok (.putfield 7, 3) := by decide +kernel
theorem dX4_init_12 : decode cX4_init 12 = .ok (.aload_n 0, 1) := by decide +kernel
theorem dX4_init_13 : decode cX4_init 13 = .ok (.bipush 40, 2) := by decide +kernel
theorem dX4_init_15 : decode cX4_init 15 = .ok (.newarray .long, 2) := by decide +kernel
theorem dX4_init_17 : decode cX4_init 17 = .ok (.putfield 13, 3) := by decide +kernel
theorem dX4_init_20 : decode cX4_init 20 = .ok (.aload_n 0, 1) := by decide +kernel
theorem dX4_init_21 : decode cX4_init 21 = .ok (.bipush 40, 2) := by decide +kernel
theorem dX4_init_23 : decode cX4_init 23 = .ok (.newarray .boolean, 2) := by decide +kernel
theorem dX4_init_25 : decode cX4_init 25 = .ok (.putfield 17, 3) := by decide +kernel
theorem dX4_init_28 : decode cX4_init 28 = .ok (.aload_n 0, 1) := by decide +kernel
theorem dX4_init_29 : decode cX4_init 29 = .ok (.bipush 40, 2) := by decide +kernel
theorem dX4_init_31 : decode cX4_init 31 = .ok (.newarray .boolean, 2) := by decide +kernel
theorem dX4_init_33 : decode cX4_init 33 = .ok (.putfield 21, 3) := by decide +kernel
theorem dX4_init_36 : decode cX4_init 36 = .ok (.aload_n 0, 1) := by decide +kernel
theorem dX4_init_37 : decode cX4_init 37 = .ok (.bipush 40, 2) := by decide +kernel
theorem dX4_init_39 : decode cX4_init 39 = .ok (.newarray .boolean, 2) := by decide +kernel
theorem dX4_init_41 : decode cX4_init 41 = .ok (.putfield 24, 3) := by decide +kernel
theorem dX4_init_44 : decode cX4_init 44 = .ok (.aload_n 0, 1) := by decide +kernel
theorem dX4_init_45 : decode cX4_init 45 = .ok (.bipush 40, 2) := by decide +kernel
theorem dX4_init_47 : decode cX4_init 47 = .ok (.newarray .boolean, 2) := by decide +kernel
theorem dX4_init_49 : decode cX4_init 49 = .ok (.putfield 27, 3) := by decide +kernel
theorem dX4_init_52 : decode cX4_init 52 = .ok (.aload_n 0, 1) := by decide +kernel
theorem dX4_init_53 : decode cX4_init 53 = .ok (.bipush 40, 2) := by decide +kernel
theorem dX4_init_55 : decode cX4_init 55 = .ok (.newarray .int, 2) := by decide +kernel
theorem dX4_init_57 : decode cX4_init 57 = .ok (.putfield 30, 3) := by decide +kernel
theorem dX4_init_60 : decode cX4_init 60 = .ok (.aload_n 0, 1) := by decide +kernel
theorem dX4_init_61 : decode cX4_init 61 = .ok (.bipush 40, 2) := by decide +kernel
theorem dX4_init_63 : decode cX4_init 63 = .ok (.newarray .int, 2) := by decide +kernel
theorem dX4_init_65 : decode cX4_init 65 = .ok (.putfield 33, 3) := by decide +kernel
theorem dX4_init_68 : decode cX4_init 68 = .ok (.aload_n 0, 1) := by decide +kernel
theorem dX4_init_69 : decode cX4_init 69 = .ok (.bipush 40, 2) := by decide +kernel
theorem dX4_init_71 : decode cX4_init 71 = .ok (.newarray .int, 2) := by decide +kernel
theorem dX4_init_73 : decode cX4_init 73 = .ok (.putfield 36, 3) := by decide +kernel
theorem dX4_init_76 : decode cX4_init 76 = .ok (.aload_n 0, 1) := by decide +kernel
theorem dX4_init_77 : decode cX4_init 77 = .ok (.bipush 40, 2) := by decide +kernel
theorem dX4_init_79 : decode cX4_init 79 = .ok (.newarray .int, 2) := by decide +kernel
theorem dX4_init_81 : decode cX4_init 81 = .ok (.putfield 39, 3) := by decide +kernel
theorem dX4_init_84 : decode cX4_init 84 = .ok (.aload_n 0, 1) := by decide +kernel
theorem dX4_init_85 : decode cX4_init 85 = .ok (.bipush 40, 2) := by decide +kernel
theorem dX4_init_87 : decode cX4_init 87 = .ok (.newarray .int, 2) := by decide +kernel
theorem dX4_init_89 : decode cX4_init 89 = .ok (.putfield 42, 3) := by decide +kernel
theorem dX4_init_92 : decode cX4_init 92 = .ok (.aload_n 0, 1) := by decide +kernel
theorem dX4_init_93 : decode cX4_init 93 = .ok (.bipush 40, 2) := by decide +kernel
theorem dX4_init_95 : decode cX4_init 95 = .ok (.newarray .int, 2) := by decide +kernel
theorem dX4_init_97 : decode cX4_init 97 = .ok (.putfield 45, 3) := by decide +kernel
theorem dX4_init_100 : decode cX4_init 100 = .ok (.aload_n 0, 1) := by decide +kernel
theorem dX4_init_101 : decode cX4_init 101 = .ok (.bipush 40, 2) := by decide +kernel
theorem dX4_init_103 : decode cX4_init 103 = .ok (.newarray .int, 2) := by decide +kernel
theorem dX4_init_105 : decode cX4_init 105 = .ok (.putfield 48, 3) := by decide +kernel
theorem dX4_init_108 : decode cX4_init 108 = .ok (.aload_n 0, 1) := by decide +kernel
theorem dX4_init_109 : decode cX4_init 109 = .ok (.bipush 40, 2) := by decide +kernel
theorem dX4_init_111 : decode cX4_init 111 = .ok (.newarray .int, 2) := by decide +kernel
theorem dX4_init_113 : decode cX4_init 113 = .ok (.putfield 51, 3) := by decide +kernel
theorem dX4_init_116 : decode cX4_init 116 = .ok (.aload_n 0, 1) := by decide +kernel
theorem dX4_init_117 : decode cX4_init 117 = .ok (.bipush 16, 2) := by decide +kernel
theorem dX4_init_119 : decode cX4_init 119 = .ok (.newarray .int, 2) := by decide +kernel
theorem dX4_init_121 : decode cX4_init 121 = .ok (.putfield 54, 3) := by decide +kernel
theorem dX4_init_124 : decode cX4_init 124 = .ok (.aload_n 0, 1) := by decide +kernel
theorem dX4_init_125 : decode cX4_init 125 = .ok (.bipush 16, 2) := by decide +kernel
theorem dX4_init_127 : decode cX4_init 127 = .ok (.newarray .int, 2) := by decide +kernel
theorem dX4_init_129 : decode cX4_init 129 = .ok (.putfield 57, 3) := by decide +kernel
theorem dX4_init_132 : decode cX4_init 132 = .ok (.aload_n 0, 1) := by decide +kernel
theorem dX4_init_133 : decode cX4_init 133 = .ok (.bipush 40, 2) := by decide +kernel
theorem dX4_init_135 : decode cX4_init 135 = .ok (.newarray .int, 2) := by decide +kernel
theorem dX4_init_137 : decode cX4_init 137 = .ok (.putfield 60, 3) := by decide +kernel
theorem dX4_init_140 : decode cX4_init 140 = .ok (.return_, 1) := by decide +kernel
theorem dX4_thrown_0 : decode cX4_thrown 0 = .ok (.aload_n 0, 1) := by decide +kernel
theorem dX4_thrown_1 : decode cX4_thrown 1 = .ok (.getfield 63, 3) := by decide +kernel
theorem dX4_thrown_4 : decode cX4_thrown 4 = .ok (.ireturn, 1) := by decide +kernel
theorem dX4_goes_0 : decode cX4_goes 0 = .ok (.aload_n 0, 1) := by decide +kernel
theorem dX4_goes_1 : decode cX4_goes 1 = .ok (.iload_n 1, 1) := by decide +kernel
theorem dX4_goes_2 : decode cX4_goes 2 = .ok (.putfield 63, 3) := by decide +kernel
theorem dX4_goes_5 : decode cX4_goes 5 = .ok (.iload_n 1, 1) := by decide +kernel
theorem dX4_goes_6 : decode cX4_goes 6 = .ok (.ifCond .ne 7, 3) := by decide +kernel
theorem dX4_goes_9 : decode cX4_goes 9 = .ok (.iconst 1, 1) := by decide +kernel
theorem dX4_goes_10 : decode cX4_goes 10 = .ok (.goto 4, 3) := by decide +kernel
theorem dX4_goes_13 : decode cX4_goes 13 = .ok (.iconst 0, 1) := by decide +kernel
theorem dX4_goes_14 : decode cX4_goes 14 = .ok (.ireturn, 1) := by decide +kernel
theorem dX4_isIn_0 : decode cX4_isIn 0 = .ok (.iload_n 0, 1) := by decide +kernel
theorem dX4_isIn_1 : decode cX4_isIn 1 = .ok (.iload_n 1, 1) := by decide +kernel
theorem dX4_isIn_2 : decode cX4_isIn 2 = .ok (.if_icmp .lt 12, 3) := by decide +kernel
theorem dX4_isIn_5 : decode cX4_isIn 5 = .ok (.iload_n 0, 1) := by decide +kernel
theorem dX4_isIn_6 : decode cX4_isIn 6 = .ok (.iload_n 2, 1) := by decide +kernel
theorem dX4_isIn_7 : decode cX4_isIn 7 = .ok (.if_icmp .gt 7, 3) := by decide +kernel
theorem dX4_isIn_10 : decode cX4_isIn 10 = .ok (.iconst 1, 1) := by decide +kernel
theorem dX4_isIn_11 : decode cX4_isIn 11 = .ok (.goto 4, 3) := by decide +kernel
theorem dX4_isIn_14 : decode cX4_isIn 14 = .ok (.iconst 0, 1) := by decide +kernel
theorem dX4_isIn_15 : decode cX4_isIn 15 = .ok (.ireturn, 1) := by decide +kernel
theorem dX4_isObject_0 : decode cX4_isObject 0 = .ok (.iload_n 1, 1) := by decide +kernel
theorem dX4_isObject_1 : decode cX4_isObject 1 = .ok (.iconst 0, 1) := by decide +kernel
theorem dX4_isObject_2 : decode cX4_isObject 2 = .ok (.aload_n 0, 1) := by decide +kernel
theorem dX4_isObject_3 : decode cX4_isObject 3 = .ok (.getfield 67, 3) := by decide +kernel
theorem dX4_isObject_6 : decode cX4_isObject 6 = .ok (.iconst 1, 1) := by decide +kernel
theorem dX4_isObject_7 : decode cX4_isObject 7 = .ok (.isub, 1) := by decide +kernel
theorem dX4_isObject_8 : decode cX4_isObject 8 = .ok (.invokestatic 70, 3) := by decide +kernel
theorem dX4_isObject_11 : decode cX4_isObject 11 = .ok (.ireturn, 1) := by decide +kernel
theorem dX4_size_0 : decode cX4_size 0 = .ok (.iconst 0, 1) := by decide +kernel
theorem dX4_size_1 : decode cX4_size 1 = .ok (.istore_n 2, 1) := by decide +kernel
theorem dX4_size_2 : decode cX4_size 2 = .ok (.lload_n 0, 1) := by decide +kernel
theorem dX4_size_3 : decode cX4_size 3 = .ok (.lstore_n 3, 1) := by decide +kernel
theorem dX4_size_4 : decode cX4_size 4 = .ok (.lload_n 3, 1) := by decide +kernel
theorem dX4_size_5 : decode cX4_size 5 = .ok (.lconst 0, 1) := by decide +kernel
theorem dX4_size_6 : decode cX4_size 6 = .ok (.lcmp, 1) := by decide +kernel
theorem dX4_size_7 : decode cX4_size 7 = .ok (.ifCond .le 15, 3) := by decide +kernel
theorem dX4_size_10 : decode cX4_size 10 = .ok (.iinc 2 1, 3) := by decide +kernel
theorem dX4_size_13 : decode cX4_size 13 = .ok (.lload_n 3, 1) := by decide +kernel
theorem dX4_size_14 : decode cX4_size 14 = .ok (.ldc2_w 74, 3) := by decide +kernel
theorem dX4_size_17 : decode cX4_size 17 = .ok (.ldiv, 1) := by decide +kernel
theorem dX4_size_18 : decode cX4_size 18 = .ok (.lstore_n 3, 1) := by decide +kernel
theorem dX4_size_19 : decode cX4_size 19 = .ok (.goto (-15), 3) := by decide +kernel
theorem dX4_size_22 : decode cX4_size 22 = .ok (.iload_n 2, 1) := by decide +kernel
theorem dX4_size_23 : decode cX4_size 23 = .ok (.ireturn, 1) := by decide +kernel
theorem dX4_isContent_0 : decode cX4_isContent 0 = .ok (.lload_n 0, 1) := by decide +kernel
theorem dX4_isContent_1 : decode cX4_isContent 1 = .ok (.lconst 0, 1) := by decide +kernel
theorem dX4_isContent_2 : decode cX4_isContent 2 = .ok (.lcmp, 1) := by decide +kernel
theorem dX4_isContent_3 : decode cX4_isContent 3 = .ok (.ifCond .le 16, 3) := by decide +kernel
theorem dX4_isContent_6 : decode cX4_isContent 6 = .ok (.lload_n 0, 1) := by decide +kernel
theorem dX4_isContent_7 : decode cX4_isContent 7 = .ok (.invokestatic 76, 3) := by decide +kernel
theorem dX4_isContent_10 : decode cX4_isContent 10 = .ok (.bipush 15, 2) := by decide +kernel
theorem dX4_isContent_12 : decode cX4_isContent 12 = .ok (.if_icmp .gt 7, 3) := by decide +kernel
theorem dX4_isContent_15 : decode cX4_isContent 15 = .ok (.iconst 1, 1) := by decide +kernel
theorem dX4_isContent_16 : decode cX4_isContent 16 = .ok (.goto 4, 3) := by decide +kernel
theorem dX4_isContent_19 : decode cX4_isContent 19 = .ok (.iconst 0, 1) := by decide +kernel
theorem dX4_isContent_20 : decode cX4_isContent 20 = .ok (.istore_n 2, 1) := by decide +kernel
theorem dX4_isContent_21 : decode cX4_isContent 21 = .ok (.lload_n 0, 1) := by decide +kernel
theorem dX4_isContent_22 : decode cX4_isContent 22 = .ok (.lstore_n 3, 1) := by decide +kernel
theorem dX4_isContent_23 : decode cX4_isContent 23 = .ok (.lload_n 3, 1) := by decide +kernel
theorem dX4_isContent_24 : decode cX4_isContent 24 = .ok (.lconst 0, 1) := by decide +kernel
theorem dX4_isContent_25 : decode cX4_isContent 25 = .ok (.lcmp, 1) := by decide +kernel
theorem dX4_isContent_26 : decode cX4_isContent 26 = .ok (.ifCond .le 32, 3) := by decide +kernel
theorem dX4_isContent_29 : decode cX4_isContent 29 = .ok (.iload_n 2, 1) := by decide +kernel
theorem dX4_isContent_30 : decode cX4_isContent 30 = .ok (.ifCond .eq 17, 3) := by decide +kernel
theorem dX4_isContent_33 : decode cX4_isContent 33 = .ok (.lload_n 3, 1) := by decide +kernel
theorem dX4_isContent_34 : decode cX4_isContent 34 = .ok (.ldc2_w 74, 3) := by decide +kernel
theorem dX4_isContent_37 : decode cX4_isContent 37 = .ok (.lrem, 1) := by decide +kernel
theorem dX4_isContent_38 : decode cX4_isContent 38 = .ok (.lconst 0, 1) := by decide +kernel
theorem dX4_isContent_39 : decode cX4_isContent 39 = .ok (.lcmp, 1) := by decide +kernel
theorem dX4_isContent_40 : decode cX4_isContent 40 = .ok (.ifCond .eq 7, 3) := by decide +kernel
theorem dX4_isContent_43 : decode cX4_isContent 43 = .ok (.iconst 1, 1) := by decide +kernel
theorem dX4_isContent_44 : decode cX4_isContent 44 = .ok (.goto 4, 3) := by decide +kernel
theorem dX4_isContent_47 : decode cX4_isContent 47 = .ok (.iconst 0, 1) := by decide +kernel
theorem dX4_isContent_48 : decode cX4_isContent 48 = .ok (.istore_n 2, 1) := by decide +kernel
theorem dX4_isContent_49 : decode cX4_isContent 49 = .ok (.lload_n 3, 1) := by decide +kernel
theorem dX4_isContent_50 : decode cX4_isContent 50 = .ok (.ldc2_w 74, 3) := by decide +kernel
theorem dX4_isContent_53 : decode cX4_isContent 53 = .ok (.ldiv, 1) := by decide +kernel
theorem dX4_isContent_54 : decode cX4_isContent 54 = .ok (.lstore_n 3, 1) := by decide +kernel
theorem dX4_isContent_55 : decode cX4_isContent 55 = .ok (.goto (-32), 3) := by decide +kernel
theorem dX4_isContent_58 : decode cX4_isContent 58 = .ok (.iload_n 2, 1) := by decide +kernel
theorem dX4_isContent_59 : decode cX4_isContent 59 = .ok (.ireturn, 1) := by decide +kernel
theorem dX4_hashOf_0 : decode cX4_hashOf 0 = .ok (.bipush 7, 2) := by decide +kernel
theorem dX4_hashOf_2 : decode cX4_hashOf 2 = .ok (.istore_n 2, 1) := by decide +kernel
theorem dX4_hashOf_3 : decode cX4_hashOf 3 = .ok (.lload_n 0, 1) := by decide +kernel
theorem dX4_hashOf_4 : decode cX4_hashOf 4 = .ok (.invokestatic 76, 3) := by decide +kernel
theorem dX4_hashOf_7 : decode cX4_hashOf 7 = .ok (.iconst 1, 1) := by decide +kernel
theorem dX4_hashOf_8 : decode cX4_hashOf 8 = .ok (.isub, 1) := by decide +kernel
theorem dX4_hashOf_9 : decode cX4_hashOf 9 = .ok (.istore_n 3, 1) := by decide +kernel
theorem dX4_hashOf_10 : decode cX4_hashOf 10 = .ok (.iload_n 3, 1) := by decide +kernel
theorem dX4_hashOf_11 : decode cX4_hashOf 11 = .ok (.ifCond .lt 29, 3) := by decide +kernel
theorem dX4_hashOf_14 : decode cX4_hashOf 14 = .ok (.bipush 33, 2) := by decide +kernel
theorem dX4_hashOf_16 : decode cX4_hashOf 16 = .ok (.iload_n 2, 1) := by decide +kernel
theorem dX4_hashOf_17 : decode cX4_hashOf 17 = .ok (.imul, 1) := by decide +kernel
theorem dX4_hashOf_18 : decode cX4_hashOf 18 = .ok (.lload_n 0, 1) := by decide +kernel
theorem dX4_hashOf_19 : decode cX4_hashOf 19 = .ok (.iconst 4, 1) := by decide +kernel
theorem dX4_hashOf_20 : decode cX4_hashOf 20 = .ok (.iload_n 3, 1) := by decide +kernel
theorem dX4_hashOf_21 : decode cX4_hashOf 21 = .ok (.imul, 1) := by decide +kernel
theorem dX4_hashOf_22 : decode cX4_hashOf 22 = .ok (.lshr, 1) := by decide +kernel
theorem dX4_hashOf_23 : decode cX4_hashOf 23 = .ok (.ldc2_w 80, 3) := by decide +kernel
theorem dX4_hashOf_26 : decode cX4_hashOf 26 = .ok (.land, 1) := by decide +kernel
theorem dX4_hashOf_27 : decode cX4_hashOf 27 = .ok (.l2i, 1) := by decide +kernel
theorem dX4_hashOf_28 : decode cX4_hashOf 28 = .ok (.iadd, 1) := by decide +kernel
theorem dX4_hashOf_29 : decode cX4_hashOf 29 = .ok (.sipush 4096, 3) := by decide +kernel
theorem dX4_hashOf_32 : decode cX4_hashOf 32 = .ok (.irem, 1) := by decide +kernel
theorem dX4_hashOf_33 : decode cX4_hashOf 33 = .ok (.istore_n 2, 1) := by decide +kernel
theorem dX4_hashOf_34 : decode cX4_hashOf 34 = .ok (.iinc 3 (-1), 3) := by decide +kernel
theorem dX4_hashOf_37 : decode cX4_hashOf 37 = .ok (.goto (-27), 3) := by decide +kernel
theorem dX4_hashOf_40 : decode cX4_hashOf 40 = .ok (.iload_n 2, 1) := by decide +kernel
theorem dX4_hashOf_41 : decode cX4_hashOf 41 = .ok (.ireturn, 1) := by decide +kernel
theorem dX4_lays_0 : decode cX4_lays 0 = .ok (.lload_n 0, 1) := by decide +kernel
theorem dX4_lays_1 : decode cX4_lays 1 = .ok (.invokestatic 76, 3) := by decide +kernel
theorem dX4_lays_4 : decode cX4_lays 4 = .ok (.istore_n 3, 1) := by decide +kernel
theorem dX4_lays_5 : decode cX4_lays 5 = .ok (.iconst 0, 1) := by decide +kernel
theorem dX4_lays_6 : decode cX4_lays 6 = .ok (.istore 4, 2) := by decide +kernel
theorem dX4_lays_8 : decode cX4_lays 8 = .ok (.iload 4, 2) := by decide +kernel
theorem dX4_lays_10 : decode cX4_lays 10 = .ok (.iload_n 3, 1) := by decide +kernel
theorem dX4_lays_11 : decode cX4_lays 11 = .ok (.if_icmp .ge 28, 3) := by decide +kernel
theorem dX4_lays_14 : decode cX4_lays 14 = .ok (.aload_n 2, 1) := by decide +kernel
theorem dX4_lays_15 : decode cX4_lays 15 = .ok (.iload 4, 2) := by decide +kernel
theorem dX4_lays_17 : decode cX4_lays 17 = .ok (.lload_n 0, 1) := by decide +kernel
theorem dX4_lays_18 : decode cX4_lays 18 = .ok (.iconst 4, 1) := by decide +kernel
theorem dX4_lays_19 : decode cX4_lays 19 = .ok (.iload_n 3, 1) := by decide +kernel
theorem dX4_lays_20 : decode cX4_lays 20 = .ok (.iconst 1, 1) := by decide +kernel
theorem dX4_lays_21 : decode cX4_lays 21 = .ok (.isub, 1) := by decide +kernel
theorem dX4_lays_22 : decode cX4_lays 22 = .ok (.iload 4, 2) := by decide +kernel
theorem dX4_lays_24 : decode cX4_lays 24 = .ok (.isub, 1) := by decide +kernel
theorem dX4_lays_25 : decode cX4_lays 25 = .ok (.imul, 1) := by decide +kernel
theorem dX4_lays_26 : decode cX4_lays 26 = .ok (.lshr, 1) := by decide +kernel
theorem dX4_lays_27 : decode cX4_lays 27 = .ok (.ldc2_w 80, 3) := by decide +kernel
theorem dX4_lays_30 : decode cX4_lays 30 = .ok (.land, 1) := by decide +kernel
theorem dX4_lays_31 : decode cX4_lays 31 = .ok (.l2i, 1) := by decide +kernel
theorem dX4_lays_32 : decode cX4_lays 32 = .ok (.iastore, 1) := by decide +kernel
theorem dX4_lays_33 : decode cX4_lays 33 = .ok (.iinc 4 1, 3) := by decide +kernel
theorem dX4_lays_36 : decode cX4_lays 36 = .ok (.goto (-28), 3) := by decide +kernel
theorem dX4_lays_39 : decode cX4_lays 39 = .ok (.aload_n 2, 1) := by decide +kernel
theorem dX4_lays_40 : decode cX4_lays 40 = .ok (.iload_n 3, 1) := by decide +kernel
theorem dX4_lays_41 : decode cX4_lays 41 = .ok (.iconst 0, 1) := by decide +kernel
theorem dX4_lays_42 : decode cX4_lays 42 = .ok (.iastore, 1) := by decide +kernel
theorem dX4_lays_43 : decode cX4_lays 43 = .ok (.iload_n 3, 1) := by decide +kernel
theorem dX4_lays_44 : decode cX4_lays 44 = .ok (.ireturn, 1) := by decide +kernel
theorem dX4_common_0 : decode cX4_common 0 = .ok (.iconst 0, 1) := by decide +kernel
theorem dX4_common_1 : decode cX4_common 1 = .ok (.istore_n 3, 1) := by decide +kernel
theorem dX4_common_2 : decode cX4_common 2 = .ok (.aload_n 0, 1) := by decide +kernel
theorem dX4_common_3 : decode cX4_common 3 = .ok (.getfield 54, 3) := by decide +kernel
theorem dX4_common_6 : decode cX4_common 6 = .ok (.iload_n 1, 1) := by decide +kernel
theorem dX4_common_7 : decode cX4_common 7 = .ok (.iload_n 3, 1) := by decide +kernel
theorem dX4_common_8 : decode cX4_common 8 = .ok (.iadd, 1) := by decide +kernel
theorem dX4_common_9 : decode cX4_common 9 = .ok (.iaload, 1) := by decide +kernel
theorem dX4_common_10 : decode cX4_common 10 = .ok (.ifCond .eq 28, 3) := by decide +kernel
theorem dX4_common_13 : decode cX4_common 13 = .ok (.aload_n 0, 1) := by decide +kernel
theorem dX4_common_14 : decode cX4_common 14 = .ok (.getfield 54, 3) := by decide +kernel
theorem dX4_common_17 : decode cX4_common 17 = .ok (.iload_n 1, 1) := by decide +kernel
theorem dX4_common_18 : decode cX4_common 18 = .ok (.iload_n 3, 1) := by decide +kernel
theorem dX4_common_19 : decode cX4_common 19 = .ok (.iadd, 1) := by decide +kernel
theorem dX4_common_20 : decode cX4_common 20 = .ok (.iaload, 1) := by decide +kernel
theorem dX4_common_21 : decode cX4_common 21 = .ok (.aload_n 0, 1) := by decide +kernel
theorem dX4_common_22 : decode cX4_common 22 = .ok (.getfield 57, 3) := by decide +kernel
theorem dX4_common_25 : decode cX4_common 25 = .ok (.iload_n 2, 1) := by decide +kernel
theorem dX4_common_26 : decode cX4_common 26 = .ok (.iload_n 3, 1) := by decide +kernel
theorem dX4_common_27 : decode cX4_common 27 = .ok (.iadd, 1) := by decide +kernel
theorem dX4_common_28 : decode cX4_common 28 = .ok (.iaload, 1) := by decide +kernel
theorem dX4_common_29 : decode cX4_common 29 = .ok (.if_icmp .ne 9, 3) := by decide +kernel
theorem dX4_common_32 : decode cX4_common 32 = .ok (.iinc 3 1, 3) := by decide +kernel
theorem dX4_common_35 : decode cX4_common 35 = .ok (.goto (-33), 3) := by decide +kernel
theorem dX4_common_38 : decode cX4_common 38 = .ok (.iload_n 3, 1) := by decide +kernel
theorem dX4_common_39 : decode cX4_common 39 = .ok (.ireturn, 1) := by decide +kernel
theorem dX4_longest_0 : decode cX4_longest 0 = .ok (.iconst 0, 1) := by decide +kernel
theorem dX4_longest_1 : decode cX4_longest 1 = .ok (.istore_n 3, 1) := by decide +kernel
theorem dX4_longest_2 : decode cX4_longest 2 = .ok (.iconst 0, 1) := by decide +kernel
theorem dX4_longest_3 : decode cX4_longest 3 = .ok (.istore 4, 2) := by decide +kernel
theorem dX4_longest_5 : decode cX4_longest 5 = .ok (.iload 4, 2) := by decide +kernel
theorem dX4_longest_7 : decode cX4_longest 7 = .ok (.iload_n 2, 1) := by decide +kernel
theorem dX4_longest_8 : decode cX4_longest 8 = .ok (.if_icmp .ge 31, 3) := by decide +kernel
theorem dX4_longest_11 : decode cX4_longest 11 = .ok (.aload_n 0, 1) := by decide +kernel
theorem dX4_longest_12 : decode cX4_longest 12 = .ok (.iload_n 1, 1) := by decide +kernel
theorem dX4_longest_13 : decode cX4_longest 13 = .ok (.iload 4, 2) := by decide +kernel
theorem dX4_longest_15 : decode cX4_longest 15 = .ok (.invokevirtual 82, 3) := by decide +kernel
theorem dX4_longest_18 : decode cX4_longest 18 = .ok (.istore 5, 2) := by decide +kernel
theorem dX4_longest_20 : decode cX4_longest 20 = .ok (.iload 5, 2) := by decide +kernel
theorem dX4_longest_22 : decode cX4_longest 22 = .ok (.iload_n 3, 1) := by decide +kernel
theorem dX4_longest_23 : decode cX4_longest 23 = .ok (.if_icmp .le 8, 3) := by decide +kernel
theorem dX4_longest_26 : decode cX4_longest 26 = .ok (.iload 5, 2) := by decide +kernel
theorem dX4_longest_28 : decode cX4_longest 28 = .ok (.goto 4, 3) := by decide +kernel
theorem dX4_longest_31 : decode cX4_longest 31 = .ok (.iload_n 3, 1) := by decide +kernel
theorem dX4_longest_32 : decode cX4_longest 32 = .ok (.istore_n 3, 1) := by decide +kernel
theorem dX4_longest_33 : decode cX4_longest 33 = .ok (.iinc 4 1, 3) := by decide +kernel
theorem dX4_longest_36 : decode cX4_longest 36 = .ok (.goto (-31), 3) := by decide +kernel
theorem dX4_longest_39 : decode cX4_longest 39 = .ok (.iload_n 3, 1) := by decide +kernel
theorem dX4_longest_40 : decode cX4_longest 40 = .ok (.ireturn, 1) := by decide +kernel
theorem dX4_deltas_0 : decode cX4_deltas 0 = .ok (.lload_n 1, 1) := by decide +kernel
theorem dX4_deltas_1 : decode cX4_deltas 1 = .ok (.aload_n 0, 1) := by decide +kernel
theorem dX4_deltas_2 : decode cX4_deltas 2 = .ok (.getfield 54, 3) := by decide +kernel
theorem dX4_deltas_5 : decode cX4_deltas 5 = .ok (.invokestatic 86, 3) := by decide +kernel
theorem dX4_deltas_8 : decode cX4_deltas 8 = .ok (.istore 5, 2) := by decide +kernel
theorem dX4_deltas_10 : decode cX4_deltas 10 = .ok (.lload_n 3, 1) := by decide +kernel
theorem dX4_deltas_11 : decode cX4_deltas 11 = .ok (.aload_n 0, 1) := by decide +kernel
theorem dX4_deltas_12 : decode cX4_deltas 12 = .ok (.getfield 57, 3) := by decide +kernel
theorem dX4_deltas_15 : decode cX4_deltas 15 = .ok (.invokestatic 86, 3) := by decide +kernel
theorem dX4_deltas_18 : decode cX4_deltas 18 = .ok (.istore 6, 2) := by decide +kernel
theorem dX4_deltas_20 : decode cX4_deltas 20 = .ok (.aload_n 0, 1) := by decide +kernel
theorem dX4_deltas_21 : decode cX4_deltas 21 = .ok (.iconst 0, 1) := by decide +kernel
theorem dX4_deltas_22 : decode cX4_deltas 22 = .ok (.putfield 90, 3) := by decide +kernel
theorem dX4_deltas_25 : decode cX4_deltas 25 = .ok (.aload_n 0, 1) := by decide +kernel
theorem dX4_deltas_26 : decode cX4_deltas 26 = .ok (.iconst 0, 1) := by decide +kernel
theorem dX4_deltas_27 : decode cX4_deltas 27 = .ok (.putfield 93, 3) := by decide +kernel
theorem dX4_deltas_30 : decode cX4_deltas 30 = .ok (.iconst 0, 1) := by decide +kernel
theorem dX4_deltas_31 : decode cX4_deltas 31 = .ok (.istore 7, 2) := by decide +kernel
theorem dX4_deltas_33 : decode cX4_deltas 33 = .ok (.iload 7, 2) := by decide +kernel
theorem dX4_deltas_35 : decode cX4_deltas 35 = .ok (.iload 5, 2) := by decide +kernel
theorem dX4_deltas_37 : decode cX4_deltas 37 = .ok (.if_icmp .ge 73, 3) := by decide +kernel
theorem dX4_deltas_40 : decode cX4_deltas 40 = .ok (.aload_n 0, 1) := by decide +kernel
theorem dX4_deltas_41 : decode cX4_deltas 41 = .ok (.iload 7, 2) := by decide +kernel
theorem dX4_deltas_43 : decode cX4_deltas 43 = .ok (.iload 6, 2) := by decide +kernel
theorem dX4_deltas_45 : decode cX4_deltas 45 = .ok (.invokevirtual 96, 3) := by decide +kernel
theorem dX4_deltas_48 : decode cX4_deltas 48 = .ok (.istore 8, 2) := by decide +kernel
theorem dX4_deltas_50 : decode cX4_deltas 50 = .ok (.aload_n 0, 1) := by decide +kernel
theorem dX4_deltas_51 : decode cX4_deltas 51 = .ok (.dup, 1) := by decide +kernel
theorem dX4_deltas_52 : decode cX4_deltas 52 = .ok (.getfield 90, 3) := by decide +kernel
theorem dX4_deltas_55 : decode cX4_deltas 55 = .ok (.iload 8, 2) := by decide +kernel
theorem dX4_deltas_57 : decode cX4_deltas 57 = .ok (.iconst 1, 1) := by decide +kernel
theorem dX4_deltas_58 : decode cX4_deltas 58 = .ok (.if_icmp .le 7, 3) := by decide +kernel
theorem dX4_deltas_61 : decode cX4_deltas 61 = .ok (.iconst 1, 1) := by decide +kernel
theorem dX4_deltas_62 : decode cX4_deltas 62 = .ok (.goto 4, 3) := by decide +kernel
theorem dX4_deltas_65 : decode cX4_deltas 65 = .ok (.iconst 0, 1) := by decide +kernel
theorem dX4_deltas_66 : decode cX4_deltas 66 = .ok (.iadd, 1) := by decide +kernel
theorem dX4_deltas_67 : decode cX4_deltas 67 = .ok (.putfield 90, 3) := by decide +kernel
theorem dX4_deltas_70 : decode cX4_deltas 70 = .ok (.aload_n 0, 1) := by decide +kernel
theorem dX4_deltas_71 : decode cX4_deltas 71 = .ok (.dup, 1) := by decide +kernel
theorem dX4_deltas_72 : decode cX4_deltas 72 = .ok (.getfield 93, 3) := by decide +kernel
theorem dX4_deltas_75 : decode cX4_deltas 75 = .ok (.iload 8, 2) := by decide +kernel
theorem dX4_deltas_77 : decode cX4_deltas 77 = .ok (.iconst 1, 1) := by decide +kernel
theorem dX4_deltas_78 : decode cX4_deltas 78 = .ok (.if_icmp .le 7, 3) := by decide +kernel
theorem dX4_deltas_81 : decode cX4_deltas 81 = .ok (.iconst 0, 1) := by decide +kernel
theorem dX4_deltas_82 : decode cX4_deltas 82 = .ok (.goto 4, 3) := by decide +kernel
theorem dX4_deltas_85 : decode cX4_deltas 85 = .ok (.iconst 1, 1) := by decide +kernel
theorem dX4_deltas_86 : decode cX4_deltas 86 = .ok (.iadd, 1) := by decide +kernel
theorem dX4_deltas_87 : decode cX4_deltas 87 = .ok (.putfield 93, 3) := by decide +kernel
theorem dX4_deltas_90 : decode cX4_deltas 90 = .ok (.iload 7, 2) := by decide +kernel
theorem dX4_deltas_92 : decode cX4_deltas 92 = .ok (.iload 8, 2) := by decide +kernel
theorem dX4_deltas_94 : decode cX4_deltas 94 = .ok (.iconst 1, 1) := by decide +kernel
theorem dX4_deltas_95 : decode cX4_deltas 95 = .ok (.if_icmp .le 8, 3) := by decide +kernel
theorem dX4_deltas_98 : decode cX4_deltas 98 = .ok (.iload 8, 2) := by decide +kernel
theorem dX4_deltas_100 : decode cX4_deltas 100 = .ok (.goto 4, 3) := by decide +kernel
theorem dX4_deltas_103 : decode cX4_deltas 103 = .ok (.iconst 1, 1) := by decide +kernel
theorem dX4_deltas_104 : decode cX4_deltas 104 = .ok (.iadd, 1) := by decide +kernel
theorem dX4_deltas_105 : decode cX4_deltas 105 = .ok (.istore 7, 2) := by decide +kernel
theorem dX4_deltas_107 : decode cX4_deltas 107 = .ok (.goto (-74), 3) := by decide +kernel
theorem dX4_deltas_110 : decode cX4_deltas 110 = .ok (.iconst 1, 1) := by decide +kernel
theorem dX4_deltas_111 : decode cX4_deltas 111 = .ok (.iconst 2, 1) := by decide +kernel
theorem dX4_deltas_112 : decode cX4_deltas 112 = .ok (.aload_n 0, 1) := by decide +kernel
theorem dX4_deltas_113 : decode cX4_deltas 113 = .ok (.getfield 90, 3) := by decide +kernel
theorem dX4_deltas_116 : decode cX4_deltas 116 = .ok (.imul, 1) := by decide +kernel
theorem dX4_deltas_117 : decode cX4_deltas 117 = .ok (.iadd, 1) := by decide +kernel
theorem dX4_deltas_118 : decode cX4_deltas 118 = .ok (.aload_n 0, 1) := by decide +kernel
theorem dX4_deltas_119 : decode cX4_deltas 119 = .ok (.getfield 93, 3) := by decide +kernel
theorem dX4_deltas_122 : decode cX4_deltas 122 = .ok (.iadd, 1) := by decide +kernel
theorem dX4_deltas_123 : decode cX4_deltas 123 = .ok (.ireturn, 1) := by decide +kernel
theorem dX4_store_0 : decode cX4_store 0 = .ok (.aload_n 0, 1) := by decide +kernel
theorem dX4_store_1 : decode cX4_store 1 = .ok (.iload_n 1, 1) := by decide +kernel
theorem dX4_store_2 : decode cX4_store 2 = .ok (.iconst 0, 1) := by decide +kernel
theorem dX4_store_3 : decode cX4_store 3 = .ok (.bipush 99, 2) := by decide +kernel
theorem dX4_store_5 : decode cX4_store 5 = .ok (.invokestatic 70, 3) := by decide +kernel
theorem dX4_store_8 : decode cX4_store 8 = .ok (.ifCond .eq 10, 3) := by decide +kernel
theorem dX4_store_11 : decode cX4_store 11 = .ok (.lload_n 2, 1) := by decide +kernel
theorem dX4_store_12 : decode cX4_store 12 = .ok (.invokestatic 99, 3) := by decide +kernel
theorem dX4_store_15 : decode cX4_store 15 = .ok (.ifCond .ne 7, 3) := by decide +kernel
theorem dX4_store_18 : decode cX4_store 18 = .ok (.iconst 1, 1) := by decide +kernel
theorem dX4_store_19 : decode cX4_store 19 = .ok (.goto 17, 3) := by decide +kernel
theorem dX4_store_22 : decode cX4_store 22 = .ok (.aload_n 0, 1) := by decide +kernel
theorem dX4_store_23 : decode cX4_store 23 = .ok (.getfield 67, 3) := by decide +kernel
theorem dX4_store_26 : decode cX4_store 26 = .ok (.bipush 40, 2) := by decide +kernel
theorem dX4_store_28 : decode cX4_store 28 = .ok (.if_icmp .ne 7, 3) := by decide +kernel
theorem dX4_store_31 : decode cX4_store 31 = .ok (.iconst 2, 1) := by decide +kernel
theorem dX4_store_32 : decode cX4_store 32 = .ok (.goto 4, 3) := by decide +kernel
theorem dX4_store_35 : decode cX4_store 35 = .ok (.iconst 0, 1) := by decide +kernel
theorem dX4_store_36 : decode cX4_store 36 = .ok (.invokevirtual 103, 3) := by decide +kernel
theorem dX4_store_39 : decode cX4_store 39 = .ok (.ifCond .ne 5, 3) := by decide +kernel
theorem dX4_store_42 : decode cX4_store 42 = .ok (.iconst 0, 1) := by decide +kernel
theorem dX4_store_43 : decode cX4_store 43 = .ok (.ireturn, 1) := by decide +kernel
theorem dX4_store_44 : decode cX4_store 44 = .ok (.aload_n 0, 1) := by decide +kernel
theorem dX4_store_45 : decode cX4_store 45 = .ok (.getfield 7, 3) := by decide +kernel
theorem dX4_store_48 : decode cX4_store 48 = .ok (.aload_n 0, 1) := by decide +kernel
theorem dX4_store_49 : decode cX4_store 49 = .ok (.getfield 67, 3) := by decide +kernel
theorem dX4_store_52 : decode cX4_store 52 = .ok (.iload_n 1, 1) := by decide +kernel
theorem dX4_store_53 : decode cX4_store 53 = .ok (.iastore, 1) := by decide +kernel
theorem dX4_store_54 : decode cX4_store 54 = .ok (.aload_n 0, 1) := by decide +kernel
theorem dX4_store_55 : decode cX4_store 55 = .ok (.getfield 13, 3) := by decide +kernel
theorem dX4_store_58 : decode cX4_store 58 = .ok (.aload_n 0, 1) := by decide +kernel
theorem dX4_store_59 : decode cX4_store 59 = .ok (.getfield 67, 3) := by decide +kernel
theorem dX4_store_62 : decode cX4_store 62 = .ok (.lload_n 2, 1) := by decide +kernel
theorem dX4_store_63 : decode cX4_store 63 = .ok (.lastore, 1) := by decide +kernel
theorem dX4_store_64 : decode cX4_store 64 = .ok (.aload_n 0, 1) := by decide +kernel
theorem dX4_store_65 : decode cX4_store 65 = .ok (.getfield 17, 3) := by decide +kernel
theorem dX4_store_68 : decode cX4_store 68 = .ok (.aload_n 0, 1) := by decide +kernel
theorem dX4_store_69 : decode cX4_store 69 = .ok (.getfield 67, 3) := by decide +kernel
theorem dX4_store_72 : decode cX4_store 72 = .ok (.iconst 1, 1) := by decide +kernel
theorem dX4_store_73 : decode cX4_store 73 = .ok (.bastore, 1) := by decide +kernel
theorem dX4_store_74 : decode cX4_store 74 = .ok (.aload_n 0, 1) := by decide +kernel
theorem dX4_store_75 : decode cX4_store 75 = .ok (.getfield 21, 3) := by decide +kernel
theorem dX4_store_78 : decode cX4_store 78 = .ok (.aload_n 0, 1) := by decide +kernel
theorem dX4_store_79 : decode cX4_store 79 = .ok (.getfield 67, 3) := by decide +kernel
theorem dX4_store_82 : decode cX4_store 82 = .ok (.iconst 1, 1) := by decide +kernel
theorem dX4_store_83 : decode cX4_store 83 = .ok (.bastore, 1) := by decide +kernel
theorem dX4_store_84 : decode cX4_store 84 = .ok (.aload_n 0, 1) := by decide +kernel
theorem dX4_store_85 : decode cX4_store 85 = .ok (.getfield 24, 3) := by decide +kernel
theorem dX4_store_88 : decode cX4_store 88 = .ok (.aload_n 0, 1) := by decide +kernel
theorem dX4_store_89 : decode cX4_store 89 = .ok (.getfield 67, 3) := by decide +kernel
theorem dX4_store_92 : decode cX4_store 92 = .ok (.iconst 0, 1) := by decide +kernel
theorem dX4_store_93 : decode cX4_store 93 = .ok (.bastore, 1) := by decide +kernel
theorem dX4_store_94 : decode cX4_store 94 = .ok (.aload_n 0, 1) := by decide +kernel
theorem dX4_store_95 : decode cX4_store 95 = .ok (.dup, 1) := by decide +kernel
theorem dX4_store_96 : decode cX4_store 96 = .ok (.getfield 67, 3) := by decide +kernel
theorem dX4_store_99 : decode cX4_store 99 = .ok (.iconst 1, 1) := by decide +kernel
theorem dX4_store_100 : decode cX4_store 100 = .ok (.iadd, 1) := by decide +kernel
theorem dX4_store_101 : decode cX4_store 101 = .ok (.putfield 67, 3) := by decide +kernel
theorem dX4_store_104 : decode cX4_store 104 = .ok (.aload_n 0, 1) := by decide +kernel
theorem dX4_store_105 : decode cX4_store 105 = .ok (.getfield 67, 3) := by decide +kernel
theorem dX4_store_108 : decode cX4_store 108 = .ok (.iconst 1, 1) := by decide +kernel
theorem dX4_store_109 : decode cX4_store 109 = .ok (.isub, 1) := by decide +kernel
theorem dX4_store_110 : decode cX4_store 110 = .ok (.ireturn, 1) := by decide +kernel
theorem dX4_delete_0 : decode cX4_delete 0 = .ok (.aload_n 0, 1) := by decide +kernel
theorem dX4_delete_1 : decode cX4_delete 1 = .ok (.aload_n 0, 1) := by decide +kernel
theorem dX4_delete_2 : decode cX4_delete 2 = .ok (.iload_n 1, 1) := by decide +kernel
theorem dX4_delete_3 : decode cX4_delete 3 = .ok (.invokevirtual 107, 3) := by decide +kernel
theorem dX4_delete_6 : decode cX4_delete 6 = .ok (.ifCond .ne 7, 3) := by decide +kernel
theorem dX4_delete_9 : decode cX4_delete 9 = .ok (.iconst 1, 1) := by decide +kernel
theorem dX4_delete_10 : decode cX4_delete 10 = .ok (.goto 17, 3) := by decide +kernel
theorem dX4_delete_13 : decode cX4_delete 13 = .ok (.aload_n 0, 1) := by decide +kernel
theorem dX4_delete_14 : decode cX4_delete 14 = .ok (.getfield 17, 3) := by decide +kernel
theorem dX4_delete_17 : decode cX4_delete 17 = .ok (.iload_n 1, 1) := by decide +kernel
theorem dX4_delete_18 : decode cX4_delete 18 = .ok (.baload, 1) := by decide +kernel
theorem dX4_delete_19 : decode cX4_delete 19 = .ok (.ifCond .eq 7, 3) := by decide +kernel
theorem dX4_delete_22 : decode cX4_delete 22 = .ok (.iconst 0, 1) := by decide +kernel
theorem dX4_delete_23 : decode cX4_delete 23 = .ok (.goto 4, 3) := by decide +kernel
theorem dX4_delete_26 : decode cX4_delete 26 = .ok (.iconst 2, 1) := by decide +kernel
theorem dX4_delete_27 : decode cX4_delete 27 = .ok (.invokevirtual 103, 3) := by decide +kernel
theorem dX4_delete_30 : decode cX4_delete 30 = .ok (.ifCond .ne 5, 3) := by decide +kernel
theorem dX4_delete_33 : decode cX4_delete 33 = .ok (.iconst 0, 1) := by decide +kernel
theorem dX4_delete_34 : decode cX4_delete 34 = .ok (.ireturn, 1) := by decide +kernel
theorem dX4_delete_35 : decode cX4_delete 35 = .ok (.aload_n 0, 1) := by decide +kernel
theorem dX4_delete_36 : decode cX4_delete 36 = .ok (.getfield 17, 3) := by decide +kernel
theorem dX4_delete_39 : decode cX4_delete 39 = .ok (.iload_n 1, 1) := by decide +kernel
theorem dX4_delete_40 : decode cX4_delete 40 = .ok (.iconst 0, 1) := by decide +kernel
theorem dX4_delete_41 : decode cX4_delete 41 = .ok (.bastore, 1) := by decide +kernel
theorem dX4_delete_42 : decode cX4_delete 42 = .ok (.aload_n 0, 1) := by decide +kernel
theorem dX4_delete_43 : decode cX4_delete 43 = .ok (.getfield 21, 3) := by decide +kernel
theorem dX4_delete_46 : decode cX4_delete 46 = .ok (.iload_n 1, 1) := by decide +kernel
theorem dX4_delete_47 : decode cX4_delete 47 = .ok (.iconst 0, 1) := by decide +kernel
theorem dX4_delete_48 : decode cX4_delete 48 = .ok (.bastore, 1) := by decide +kernel
theorem dX4_delete_49 : decode cX4_delete 49 = .ok (.iconst 0, 1) := by decide +kernel
theorem dX4_delete_50 : decode cX4_delete 50 = .ok (.istore_n 2, 1) := by decide +kernel
theorem dX4_delete_51 : decode cX4_delete 51 = .ok (.iconst 0, 1) := by decide +kernel
theorem dX4_delete_52 : decode cX4_delete 52 = .ok (.istore_n 3, 1) := by decide +kernel
theorem dX4_delete_53 : decode cX4_delete 53 = .ok (.iload_n 3, 1) := by decide +kernel
theorem dX4_delete_54 : decode cX4_delete 54 = .ok (.aload_n 0, 1) := by decide +kernel
theorem dX4_delete_55 : decode cX4_delete 55 = .ok (.getfield 67, 3) := by decide +kernel
theorem dX4_delete_58 : decode cX4_delete 58 = .ok (.if_icmp .ge 26, 3) := by decide +kernel
theorem dX4_delete_61 : decode cX4_delete 61 = .ok (.iload_n 2, 1) := by decide +kernel
theorem dX4_delete_62 : decode cX4_delete 62 = .ok (.aload_n 0, 1) := by decide +kernel
theorem dX4_delete_63 : decode cX4_delete 63 = .ok (.getfield 17, 3) := by decide +kernel
theorem dX4_delete_66 : decode cX4_delete 66 = .ok (.iload_n 3, 1) := by decide +kernel
theorem dX4_delete_67 : decode cX4_delete 67 = .ok (.baload, 1) := by decide +kernel
theorem dX4_delete_68 : decode cX4_delete 68 = .ok (.ifCond .eq 7, 3) := by decide +kernel
theorem dX4_delete_71 : decode cX4_delete 71 = .ok (.iconst 1, 1) := by decide +kernel
theorem dX4_delete_72 : decode cX4_delete 72 = .ok (.goto 4, 3) := by decide +kernel
theorem dX4_delete_75 : decode cX4_delete 75 = .ok (.iconst 0, 1) := by decide +kernel
theorem dX4_delete_76 : decode cX4_delete 76 = .ok (.iadd, 1) := by decide +kernel
theorem dX4_delete_77 : decode cX4_delete 77 = .ok (.istore_n 2, 1) := by decide +kernel
theorem dX4_delete_78 : decode cX4_delete 78 = .ok (.iinc 3 1, 3) := by decide +kernel
theorem dX4_delete_81 : decode cX4_delete 81 = .ok (.goto (-28), 3) := by decide +kernel
theorem dX4_delete_84 : decode cX4_delete 84 = .ok (.iload_n 2, 1) := by decide +kernel
theorem dX4_delete_85 : decode cX4_delete 85 = .ok (.ireturn, 1) := by decide +kernel
theorem dX4_objects_0 : decode cX4_objects 0 = .ok (.aload_n 0, 1) := by decide +kernel
theorem dX4_objects_1 : decode cX4_objects 1 = .ok (.iconst 0, 1) := by decide +kernel
theorem dX4_objects_2 : decode cX4_objects 2 = .ok (.putfield 63, 3) := by decide +kernel
theorem dX4_objects_5 : decode cX4_objects 5 = .ok (.aload_n 0, 1) := by decide +kernel
theorem dX4_objects_6 : decode cX4_objects 6 = .ok (.getfield 67, 3) := by decide +kernel
theorem dX4_objects_9 : decode cX4_objects 9 = .ok (.ireturn, 1) := by decide +kernel
theorem dX4_isLive_0 : decode cX4_isLive 0 = .ok (.aload_n 0, 1) := by decide +kernel
theorem dX4_isLive_1 : decode cX4_isLive 1 = .ok (.aload_n 0, 1) := by decide +kernel
theorem dX4_isLive_2 : decode cX4_isLive 2 = .ok (.iload_n 1, 1) := by decide +kernel
theorem dX4_isLive_3 : decode cX4_isLive 3 = .ok (.invokevirtual 107, 3) := by decide +kernel
theorem dX4_isLive_6 : decode cX4_isLive 6 = .ok (.ifCond .eq 7, 3) := by decide +kernel
theorem dX4_isLive_9 : decode cX4_isLive 9 = .ok (.iconst 0, 1) := by decide +kernel
theorem dX4_isLive_10 : decode cX4_isLive 10 = .ok (.goto 4, 3) := by decide +kernel
theorem dX4_isLive_13 : decode cX4_isLive 13 = .ok (.iconst 1, 1) := by decide +kernel
theorem dX4_isLive_14 : decode cX4_isLive 14 = .ok (.invokevirtual 103, 3) := by decide +kernel
theorem dX4_isLive_17 : decode cX4_isLive 17 = .ok (.ifCond .eq 16, 3) := by decide +kernel
theorem dX4_isLive_20 : decode cX4_isLive 20 = .ok (.aload_n 0, 1) := by decide +kernel
theorem dX4_isLive_21 : decode cX4_isLive 21 = .ok (.getfield 17, 3) := by decide +kernel
theorem dX4_isLive_24 : decode cX4_isLive 24 = .ok (.iload_n 1, 1) := by decide +kernel
theorem dX4_isLive_25 : decode cX4_isLive 25 = .ok (.baload, 1) := by decide +kernel
theorem dX4_isLive_26 : decode cX4_isLive 26 = .ok (.ifCond .eq 7, 3) := by decide +kernel
theorem dX4_isLive_29 : decode cX4_isLive 29 = .ok (.iconst 1, 1) := by decide +kernel
theorem dX4_isLive_30 : decode cX4_isLive 30 = .ok (.goto 4, 3) := by decide +kernel
theorem dX4_isLive_33 : decode cX4_isLive 33 = .ok (.iconst 0, 1) := by decide +kernel
theorem dX4_isLive_34 : decode cX4_isLive 34 = .ok (.ireturn, 1) := by decide +kernel
theorem dX4_isLoose_0 : decode cX4_isLoose 0 = .ok (.aload_n 0, 1) := by decide +kernel
theorem dX4_isLoose_1 : decode cX4_isLoose 1 = .ok (.aload_n 0, 1) := by decide +kernel
theorem dX4_isLoose_2 : decode cX4_isLoose 2 = .ok (.iload_n 1, 1) := by decide +kernel
theorem dX4_isLoose_3 : decode cX4_isLoose 3 = .ok (.invokevirtual 107, 3) := by decide +kernel
theorem dX4_isLoose_6 : decode cX4_isLoose 6 = .ok (.ifCond .eq 7, 3) := by decide +kernel
theorem dX4_isLoose_9 : decode cX4_isLoose 9 = .ok (.iconst 0, 1) := by decide +kernel
theorem dX4_isLoose_10 : decode cX4_isLoose 10 = .ok (.goto 4, 3) := by decide +kernel
theorem dX4_isLoose_13 : decode cX4_isLoose 13 = .ok (.iconst 1, 1) := by decide +kernel
theorem dX4_isLoose_14 : decode cX4_isLoose 14 = .ok (.invokevirtual 103, 3) := by decide +kernel
theorem dX4_isLoose_17 : decode cX4_isLoose 17 = .ok (.ifCond .eq 16, 3) := by decide +kernel
theorem dX4_isLoose_20 : decode cX4_isLoose 20 = .ok (.aload_n 0, 1) := by decide +kernel
theorem dX4_isLoose_21 : decode cX4_isLoose 21 = .ok (.getfield 21, 3) := by decide +kernel
theorem dX4_isLoose_24 : decode cX4_isLoose 24 = .ok (.iload_n 1, 1) := by decide +kernel
theorem dX4_isLoose_25 : decode cX4_isLoose 25 = .ok (.baload, 1) := by decide +kernel
theorem dX4_isLoose_26 : decode cX4_isLoose 26 = .ok (.ifCond .eq 7, 3) := by decide +kernel
theorem dX4_isLoose_29 : decode cX4_isLoose 29 = .ok (.iconst 1, 1) := by decide +kernel
theorem dX4_isLoose_30 : decode cX4_isLoose 30 = .ok (.goto 4, 3) := by decide +kernel
theorem dX4_isLoose_33 : decode cX4_isLoose 33 = .ok (.iconst 0, 1) := by decide +kernel
theorem dX4_isLoose_34 : decode cX4_isLoose 34 = .ok (.ireturn, 1) := by decide +kernel
theorem dX4_isPacked_0 : decode cX4_isPacked 0 = .ok (.iload_n 1, 1) := by decide +kernel
theorem dX4_isPacked_1 : decode cX4_isPacked 1 = .ok (.istore_n 2, 1) := by decide +kernel
theorem dX4_isPacked_2 : decode cX4_isPacked 2 = .ok (.aload_n 0, 1) := by decide +kernel
theorem dX4_isPacked_3 : decode cX4_isPacked 3 = .ok (.getfield 24, 3) := by decide +kernel
theorem dX4_isPacked_6 : decode cX4_isPacked 6 = .ok (.iload_n 2, 1) := by decide +kernel
theorem dX4_isPacked_7 : decode cX4_isPacked 7 = .ok (.baload, 1) := by decide +kernel
theorem dX4_isPacked_8 : decode cX4_isPacked 8 = .ok (.ifCond .eq 32, 3) := by decide +kernel
theorem dX4_isPacked_11 : decode cX4_isPacked 11 = .ok (.aload_n 0, 1) := by decide +kernel
theorem dX4_isPacked_12 : decode cX4_isPacked 12 = .ok (.getfield 27, 3) := by decide +kernel
theorem dX4_isPacked_15 : decode cX4_isPacked 15 = .ok (.iload_n 2, 1) := by decide +kernel
theorem dX4_isPacked_16 : decode cX4_isPacked 16 = .ok (.baload, 1) := by decide +kernel
theorem dX4_isPacked_17 : decode cX4_isPacked 17 = .ok (.ifCond .ne 23, 3) := by decide +kernel
theorem dX4_isPacked_20 : decode cX4_isPacked 20 = .ok (.aload_n 0, 1) := by decide +kernel
theorem dX4_isPacked_21 : decode cX4_isPacked 21 = .ok (.getfield 30, 3) := by decide +kernel
theorem dX4_isPacked_24 : decode cX4_isPacked 24 = .ok (.iload_n 2, 1) := by decide +kernel
theorem dX4_isPacked_25 : decode cX4_isPacked 25 = .ok (.iaload, 1) := by decide +kernel
theorem dX4_isPacked_26 : decode cX4_isPacked 26 = .ok (.iconst (-1), 1) := by decide +kernel
theorem dX4_isPacked_27 : decode cX4_isPacked 27 = .ok (.if_icmp .eq 13, 3) := by decide +kernel
theorem dX4_isPacked_30 : decode cX4_isPacked 30 = .ok (.aload_n 0, 1) := by decide +kernel
theorem dX4_isPacked_31 : decode cX4_isPacked 31 = .ok (.getfield 30, 3) := by decide +kernel
theorem dX4_isPacked_34 : decode cX4_isPacked 34 = .ok (.iload_n 2, 1) := by decide +kernel
theorem dX4_isPacked_35 : decode cX4_isPacked 35 = .ok (.iaload, 1) := by decide +kernel
theorem dX4_isPacked_36 : decode cX4_isPacked 36 = .ok (.istore_n 2, 1) := by decide +kernel
theorem dX4_isPacked_37 : decode cX4_isPacked 37 = .ok (.goto (-35), 3) := by decide +kernel
theorem dX4_isPacked_40 : decode cX4_isPacked 40 = .ok (.aload_n 0, 1) := by decide +kernel
theorem dX4_isPacked_41 : decode cX4_isPacked 41 = .ok (.getfield 24, 3) := by decide +kernel
theorem dX4_isPacked_44 : decode cX4_isPacked 44 = .ok (.iload_n 2, 1) := by decide +kernel
theorem dX4_isPacked_45 : decode cX4_isPacked 45 = .ok (.baload, 1) := by decide +kernel
theorem dX4_isPacked_46 : decode cX4_isPacked 46 = .ok (.ifCond .eq 16, 3) := by decide +kernel
theorem dX4_isPacked_49 : decode cX4_isPacked 49 = .ok (.aload_n 0, 1) := by decide +kernel
theorem dX4_isPacked_50 : decode cX4_isPacked 50 = .ok (.getfield 27, 3) := by decide +kernel
theorem dX4_isPacked_53 : decode cX4_isPacked 53 = .ok (.iload_n 2, 1) := by decide +kernel
theorem dX4_isPacked_54 : decode cX4_isPacked 54 = .ok (.baload, 1) := by decide +kernel
theorem dX4_isPacked_55 : decode cX4_isPacked 55 = .ok (.ifCond .ne 7, 3) := by decide +kernel
theorem dX4_isPacked_58 : decode cX4_isPacked 58 = .ok (.iconst 1, 1) := by decide +kernel
theorem dX4_isPacked_59 : decode cX4_isPacked 59 = .ok (.goto 4, 3) := by decide +kernel
theorem dX4_isPacked_62 : decode cX4_isPacked 62 = .ok (.iconst 0, 1) := by decide +kernel
theorem dX4_isPacked_63 : decode cX4_isPacked 63 = .ok (.ireturn, 1) := by decide +kernel
theorem dX4_isReadable_0 : decode cX4_isReadable 0 = .ok (.aload_n 0, 1) := by decide +kernel
theorem dX4_isReadable_1 : decode cX4_isReadable 1 = .ok (.getfield 17, 3) := by decide +kernel
theorem dX4_isReadable_4 : decode cX4_isReadable 4 = .ok (.iload_n 1, 1) := by decide +kernel
theorem dX4_isReadable_5 : decode cX4_isReadable 5 = .ok (.baload, 1) := by decide +kernel
theorem dX4_isReadable_6 : decode cX4_isReadable 6 = .ok (.ifCond .eq 24, 3) := by decide +kernel
theorem dX4_isReadable_9 : decode cX4_isReadable 9 = .ok (.aload_n 0, 1) := by decide +kernel
theorem dX4_isReadable_10 : decode cX4_isReadable 10 = .ok (.getfield 21, 3) := by decide +kernel
theorem dX4_isReadable_13 : decode cX4_isReadable 13 = .ok (.iload_n 1, 1) := by decide +kernel
theorem dX4_isReadable_14 : decode cX4_isReadable 14 = .ok (.baload, 1) := by decide +kernel
theorem dX4_isReadable_15 : decode cX4_isReadable 15 = .ok (.ifCond .ne 11, 3) := by decide +kernel
theorem dX4_isReadable_18 : decode cX4_isReadable 18 = .ok (.aload_n 0, 1) := by decide +kernel
theorem dX4_isReadable_19 : decode cX4_isReadable 19 = .ok (.iload_n 1, 1) := by decide +kernel
theorem dX4_isReadable_20 : decode cX4_isReadable 20 = .ok (.invokevirtual 110, 3) := by decide +kernel
theorem dX4_isReadable_23 : decode cX4_isReadable 23 = .ok (.ifCond .eq 7, 3) := by decide +kernel
theorem dX4_isReadable_26 : decode cX4_isReadable 26 = .ok (.iconst 1, 1) := by decide +kernel
theorem dX4_isReadable_27 : decode cX4_isReadable 27 = .ok (.goto 4, 3) := by decide +kernel
theorem dX4_isReadable_30 : decode cX4_isReadable 30 = .ok (.iconst 0, 1) := by decide +kernel
theorem dX4_isReadable_31 : decode cX4_isReadable 31 = .ok (.ireturn, 1) := by decide +kernel
theorem dX4_canRead_0 : decode cX4_canRead 0 = .ok (.aload_n 0, 1) := by decide +kernel
theorem dX4_canRead_1 : decode cX4_canRead 1 = .ok (.aload_n 0, 1) := by decide +kernel
theorem dX4_canRead_2 : decode cX4_canRead 2 = .ok (.iload_n 1, 1) := by decide +kernel
theorem dX4_canRead_3 : decode cX4_canRead 3 = .ok (.invokevirtual 107, 3) := by decide +kernel
theorem dX4_canRead_6 : decode cX4_canRead 6 = .ok (.ifCond .eq 7, 3) := by decide +kernel
theorem dX4_canRead_9 : decode cX4_canRead 9 = .ok (.iconst 0, 1) := by decide +kernel
theorem dX4_canRead_10 : decode cX4_canRead 10 = .ok (.goto 4, 3) := by decide +kernel
theorem dX4_canRead_13 : decode cX4_canRead 13 = .ok (.iconst 1, 1) := by decide +kernel
theorem dX4_canRead_14 : decode cX4_canRead 14 = .ok (.invokevirtual 103, 3) := by decide +kernel
theorem dX4_canRead_17 : decode cX4_canRead 17 = .ok (.ifCond .eq 15, 3) := by decide +kernel
theorem dX4_canRead_20 : decode cX4_canRead 20 = .ok (.aload_n 0, 1) := by decide +kernel
theorem dX4_canRead_21 : decode cX4_canRead 21 = .ok (.iload_n 1, 1) := by decide +kernel
theorem dX4_canRead_22 : decode cX4_canRead 22 = .ok (.invokevirtual 113, 3) := by decide +kernel
theorem dX4_canRead_25 : decode cX4_canRead 25 = .ok (.ifCond .eq 7, 3) := by decide +kernel
theorem dX4_canRead_28 : decode cX4_canRead 28 = .ok (.iconst 1, 1) := by decide +kernel
theorem dX4_canRead_29 : decode cX4_canRead 29 = .ok (.goto 4, 3) := by decide +kernel
theorem dX4_canRead_32 : decode cX4_canRead 32 = .ok (.iconst 0, 1) := by decide +kernel
theorem dX4_canRead_33 : decode cX4_canRead 33 = .ok (.ireturn, 1) := by decide +kernel
theorem dX4_read_0 : decode cX4_read 0 = .ok (.aload_n 0, 1) := by decide +kernel
theorem dX4_read_1 : decode cX4_read 1 = .ok (.aload_n 0, 1) := by decide +kernel
theorem dX4_read_2 : decode cX4_read 2 = .ok (.iload_n 1, 1) := by decide +kernel
theorem dX4_read_3 : decode cX4_read 3 = .ok (.invokevirtual 107, 3) := by decide +kernel
theorem dX4_read_6 : decode cX4_read 6 = .ok (.ifCond .ne 7, 3) := by decide +kernel
theorem dX4_read_9 : decode cX4_read 9 = .ok (.iconst 1, 1) := by decide +kernel
theorem dX4_read_10 : decode cX4_read 10 = .ok (.goto 16, 3) := by decide +kernel
theorem dX4_read_13 : decode cX4_read 13 = .ok (.aload_n 0, 1) := by decide +kernel
theorem dX4_read_14 : decode cX4_read 14 = .ok (.iload_n 1, 1) := by decide +kernel
theorem dX4_read_15 : decode cX4_read 15 = .ok (.invokevirtual 113, 3) := by decide +kernel
theorem dX4_read_18 : decode cX4_read 18 = .ok (.ifCond .eq 7, 3) := by decide +kernel
theorem dX4_read_21 : decode cX4_read 21 = .ok (.iconst 0, 1) := by decide +kernel
theorem dX4_read_22 : decode cX4_read 22 = .ok (.goto 4, 3) := by decide +kernel
theorem dX4_read_25 : decode cX4_read 25 = .ok (.iconst 2, 1) := by decide +kernel
theorem dX4_read_26 : decode cX4_read 26 = .ok (.invokevirtual 103, 3) := by decide +kernel
theorem dX4_read_29 : decode cX4_read 29 = .ok (.ifCond .eq 12, 3) := by decide +kernel
theorem dX4_read_32 : decode cX4_read 32 = .ok (.aload_n 0, 1) := by decide +kernel
theorem dX4_read_33 : decode cX4_read 33 = .ok (.getfield 13, 3) := by decide +kernel
theorem dX4_read_36 : decode cX4_read 36 = .ok (.iload_n 1, 1) := by decide +kernel
theorem dX4_read_37 : decode cX4_read 37 = .ok (.laload, 1) := by decide +kernel
theorem dX4_read_38 : decode cX4_read 38 = .ok (.goto 4, 3) := by decide +kernel
theorem dX4_read_41 : decode cX4_read 41 = .ok (.lconst 0, 1) := by decide +kernel
theorem dX4_read_42 : decode cX4_read 42 = .ok (.lreturn, 1) := by decide +kernel
theorem dX4_isAhead_0 : decode cX4_isAhead 0 = .ok (.aload_n 0, 1) := by decide +kernel
theorem dX4_isAhead_1 : decode cX4_isAhead 1 = .ok (.getfield 13, 3) := by decide +kernel
theorem dX4_isAhead_4 : decode cX4_isAhead 4 = .ok (.iload_n 1, 1) := by decide +kernel
theorem dX4_isAhead_5 : decode cX4_isAhead 5 = .ok (.laload, 1) := by decide +kernel
theorem dX4_isAhead_6 : decode cX4_isAhead 6 = .ok (.invokestatic 76, 3) := by decide +kernel
theorem dX4_isAhead_9 : decode cX4_isAhead 9 = .ok (.istore_n 3, 1) := by decide +kernel
theorem dX4_isAhead_10 : decode cX4_isAhead 10 = .ok (.aload_n 0, 1) := by decide +kernel
theorem dX4_isAhead_11 : decode cX4_isAhead 11 = .ok (.getfield 13, 3) := by decide +kernel
theorem dX4_isAhead_14 : decode cX4_isAhead 14 = .ok (.iload_n 2, 1) := by decide +kernel
theorem dX4_isAhead_15 : decode cX4_isAhead 15 = .ok (.laload, 1) := by decide +kernel
theorem dX4_isAhead_16 : decode cX4_isAhead 16 = .ok (.invokestatic 76, 3) := by decide +kernel
theorem dX4_isAhead_19 : decode cX4_isAhead 19 = .ok (.istore 4, 2) := by decide +kernel
theorem dX4_isAhead_21 : decode cX4_isAhead 21 = .ok (.aload_n 0, 1) := by decide +kernel
theorem dX4_isAhead_22 : decode cX4_isAhead 22 = .ok (.getfield 7, 3) := by decide +kernel
theorem dX4_isAhead_25 : decode cX4_isAhead 25 = .ok (.iload_n 1, 1) := by decide +kernel
theorem dX4_isAhead_26 : decode cX4_isAhead 26 = .ok (.iaload, 1) := by decide +kernel
theorem dX4_isAhead_27 : decode cX4_isAhead 27 = .ok (.aload_n 0, 1) := by decide +kernel
theorem dX4_isAhead_28 : decode cX4_isAhead 28 = .ok (.getfield 7, 3) := by decide +kernel
theorem dX4_isAhead_31 : decode cX4_isAhead 31 = .ok (.iload_n 2, 1) := by decide +kernel
theorem dX4_isAhead_32 : decode cX4_isAhead 32 = .ok (.iaload, 1) := by decide +kernel
theorem dX4_isAhead_33 : decode cX4_isAhead 33 = .ok (.if_icmp .eq 26, 3) := by decide +kernel
theorem dX4_isAhead_36 : decode cX4_isAhead 36 = .ok (.aload_n 0, 1) := by decide +kernel
theorem dX4_isAhead_37 : decode cX4_isAhead 37 = .ok (.getfield 7, 3) := by decide +kernel
theorem dX4_isAhead_40 : decode cX4_isAhead 40 = .ok (.iload_n 1, 1) := by decide +kernel
theorem dX4_isAhead_41 : decode cX4_isAhead 41 = .ok (.iaload, 1) := by decide +kernel
theorem dX4_isAhead_42 : decode cX4_isAhead 42 = .ok (.aload_n 0, 1) := by decide +kernel
theorem dX4_isAhead_43 : decode cX4_isAhead 43 = .ok (.getfield 7, 3) := by decide +kernel
theorem dX4_isAhead_46 : decode cX4_isAhead 46 = .ok (.iload_n 2, 1) := by decide +kernel
theorem dX4_isAhead_47 : decode cX4_isAhead 47 = .ok (.iaload, 1) := by decide +kernel
theorem dX4_isAhead_48 : decode cX4_isAhead 48 = .ok (.if_icmp .ge 7, 3) := by decide +kernel
theorem dX4_isAhead_51 : decode cX4_isAhead 51 = .ok (.iconst 1, 1) := by decide +kernel
theorem dX4_isAhead_52 : decode cX4_isAhead 52 = .ok (.goto 37, 3) := by decide +kernel
theorem dX4_isAhead_55 : decode cX4_isAhead 55 = .ok (.iconst 0, 1) := by decide +kernel
theorem dX4_isAhead_56 : decode cX4_isAhead 56 = .ok (.goto 33, 3) := by decide +kernel
theorem dX4_isAhead_59 : decode cX4_isAhead 59 = .ok (.iload_n 3, 1) := by decide +kernel
theorem dX4_isAhead_60 : decode cX4_isAhead 60 = .ok (.iload 4, 2) := by decide +kernel
theorem dX4_isAhead_62 : decode cX4_isAhead 62 = .ok (.if_icmp .eq 17, 3) := by decide +kernel
theorem dX4_isAhead_65 : decode cX4_isAhead 65 = .ok (.iload_n 3, 1) := by decide +kernel
theorem dX4_isAhead_66 : decode cX4_isAhead 66 = .ok (.iload 4, 2) := by decide +kernel
theorem dX4_isAhead_68 : decode cX4_isAhead 68 = .ok (.if_icmp .le 7, 3) := by decide +kernel
theorem dX4_isAhead_71 : decode cX4_isAhead 71 = .ok (.iconst 1, 1) := by decide +kernel
theorem dX4_isAhead_72 : decode cX4_isAhead 72 = .ok (.goto 17, 3) := by decide +kernel
theorem dX4_isAhead_75 : decode cX4_isAhead 75 = .ok (.iconst 0, 1) := by decide +kernel
theorem dX4_isAhead_76 : decode cX4_isAhead 76 = .ok (.goto 13, 3) := by decide +kernel
theorem dX4_isAhead_79 : decode cX4_isAhead 79 = .ok (.iload_n 1, 1) := by decide +kernel
theorem dX4_isAhead_80 : decode cX4_isAhead 80 = .ok (.iload_n 2, 1) := by decide +kernel
theorem dX4_isAhead_81 : decode cX4_isAhead 81 = .ok (.if_icmp .ge 7, 3) := by decide +kernel
theorem dX4_isAhead_84 : decode cX4_isAhead 84 = .ok (.iconst 1, 1) := by decide +kernel
theorem dX4_isAhead_85 : decode cX4_isAhead 85 = .ok (.goto 4, 3) := by decide +kernel
theorem dX4_isAhead_88 : decode cX4_isAhead 88 = .ok (.iconst 0, 1) := by decide +kernel
theorem dX4_isAhead_89 : decode cX4_isAhead 89 = .ok (.ireturn, 1) := by decide +kernel
theorem dX4_orders_0 : decode cX4_orders 0 = .ok (.aload_n 0, 1) := by decide +kernel
theorem dX4_orders_1 : decode cX4_orders 1 = .ok (.iconst 0, 1) := by decide +kernel
theorem dX4_orders_2 : decode cX4_orders 2 = .ok (.putfield 116, 3) := by decide +kernel
theorem dX4_orders_5 : decode cX4_orders 5 = .ok (.iconst 0, 1) := by decide +kernel
theorem dX4_orders_6 : decode cX4_orders 6 = .ok (.istore_n 1, 1) := by decide +kernel
theorem dX4_orders_7 : decode cX4_orders 7 = .ok (.iload_n 1, 1) := by decide +kernel
theorem dX4_orders_8 : decode cX4_orders 8 = .ok (.aload_n 0, 1) := by decide +kernel
theorem dX4_orders_9 : decode cX4_orders 9 = .ok (.getfield 67, 3) := by decide +kernel
theorem dX4_orders_12 : decode cX4_orders 12 = .ok (.if_icmp .ge 86, 3) := by decide +kernel
theorem dX4_orders_15 : decode cX4_orders 15 = .ok (.aload_n 0, 1) := by decide +kernel
theorem dX4_orders_16 : decode cX4_orders 16 = .ok (.getfield 45, 3) := by decide +kernel
theorem dX4_orders_19 : decode cX4_orders 19 = .ok (.iload_n 1, 1) := by decide +kernel
theorem dX4_orders_20 : decode cX4_orders 20 = .ok (.iconst (-1), 1) := by decide +kernel
theorem dX4_orders_21 : decode cX4_orders 21 = .ok (.iastore, 1) := by decide +kernel
theorem dX4_orders_22 : decode cX4_orders 22 = .ok (.aload_n 0, 1) := by decide +kernel
theorem dX4_orders_23 : decode cX4_orders 23 = .ok (.iload_n 1, 1) := by decide +kernel
theorem dX4_orders_24 : decode cX4_orders 24 = .ok (.invokevirtual 113, 3) := by decide +kernel
theorem dX4_orders_27 : decode cX4_orders 27 = .ok (.ifCond .eq 65, 3) := by decide +kernel
theorem dX4_orders_30 : decode cX4_orders 30 = .ok (.aload_n 0, 1) := by decide +kernel
theorem dX4_orders_31 : decode cX4_orders 31 = .ok (.getfield 116, 3) := by decide +kernel
theorem dX4_orders_34 : decode cX4_orders 34 = .ok (.istore_n 2, 1) := by decide +kernel
theorem dX4_orders_35 : decode cX4_orders 35 = .ok (.iload_n 2, 1) := by decide +kernel
theorem dX4_orders_36 : decode cX4_orders 36 = .ok (.ifCond .le 39, 3) := by decide +kernel
theorem dX4_orders_39 : decode cX4_orders 39 = .ok (.aload_n 0, 1) := by decide +kernel
theorem dX4_orders_40 : decode cX4_orders 40 = .ok (.iload_n 1, 1) := by decide +kernel
theorem dX4_orders_41 : decode cX4_orders 41 = .ok (.aload_n 0, 1) := by decide +kernel
theorem dX4_orders_42 : decode cX4_orders 42 = .ok (.getfield 42, 3) := by decide +kernel
theorem dX4_orders_45 : decode cX4_orders 45 = .ok (.iload_n 2, 1) := by decide +kernel
theorem dX4_orders_46 : decode cX4_orders 46 = .ok (.iconst 1, 1) := by decide +kernel
theorem dX4_orders_47 : decode cX4_orders 47 = .ok (.isub, 1) := by decide +kernel
theorem dX4_orders_48 : decode cX4_orders 48 = .ok (.iaload, 1) := by decide +kernel
theorem dX4_orders_49 : decode cX4_orders 49 = .ok (.invokevirtual 119, 3) := by decide +kernel
theorem dX4_orders_52 : decode cX4_orders 52 = .ok (.ifCond .eq 23, 3) := by decide +kernel
theorem dX4_orders_55 : decode cX4_orders 55 = .ok (.aload_n 0, 1) := by decide +kernel
theorem dX4_orders_56 : decode cX4_orders 56 = .ok (.getfield 42, 3) := by decide +kernel
theorem dX4_orders_59 : decode cX4_orders 59 = .ok (.iload_n 2, 1) := by decide +kernel
theorem dX4_orders_60 : decode cX4_orders 60 = .ok (.aload_n 0, 1) := by decide +kernel
theorem dX4_orders_61 : decode cX4_orders 61 = .ok (.getfield 42, 3) := by decide +kernel
theorem dX4_orders_64 : decode cX4_orders 64 = .ok (.iload_n 2, 1) := by decide +kernel
theorem dX4_orders_65 : decode cX4_orders 65 = .ok (.iconst 1, 1) := by decide +kernel
theorem dX4_orders_66 : decode cX4_orders 66 = .ok (.isub, 1) := by decide +kernel
theorem dX4_orders_67 : decode cX4_orders 67 = .ok (.iaload, 1) := by decide +kernel
theorem dX4_orders_68 : decode cX4_orders 68 = .ok (.iastore, 1) := by decide +kernel
theorem dX4_orders_69 : decode cX4_orders 69 = .ok (.iinc 2 (-1), 3) := by decide +kernel
theorem dX4_orders_72 : decode cX4_orders 72 = .ok (.goto (-37), 3) := by decide +kernel
theorem dX4_orders_75 : decode cX4_orders 75 = .ok (.aload_n 0, 1) := by decide +kernel
theorem dX4_orders_76 : decode cX4_orders 76 = .ok (.getfield 42, 3) := by decide +kernel
theorem dX4_orders_79 : decode cX4_orders 79 = .ok (.iload_n 2, 1) := by decide +kernel
theorem dX4_orders_80 : decode cX4_orders 80 = .ok (.iload_n 1, 1) := by decide +kernel
theorem dX4_orders_81 : decode cX4_orders 81 = .ok (.iastore, 1) := by decide +kernel
theorem dX4_orders_82 : decode cX4_orders 82 = .ok (.aload_n 0, 1) := by decide +kernel
theorem dX4_orders_83 : decode cX4_orders 83 = .ok (.dup, 1) := by decide +kernel
theorem dX4_orders_84 : decode cX4_orders 84 = .ok (.getfield 116, 3) := by decide +kernel
theorem dX4_orders_87 : decode cX4_orders 87 = .ok (.iconst 1, 1) := by decide +kernel
theorem dX4_orders_88 : decode cX4_orders 88 = .ok (.iadd, 1) := by decide +kernel
theorem dX4_orders_89 : decode cX4_orders 89 = .ok (.putfield 116, 3) := by decide +kernel
theorem dX4_orders_92 : decode cX4_orders 92 = .ok (.iinc 1 1, 3) := by decide +kernel
theorem dX4_orders_95 : decode cX4_orders 95 = .ok (.goto (-88), 3) := by decide +kernel
theorem dX4_orders_98 : decode cX4_orders 98 = .ok (.iconst 0, 1) := by decide +kernel
theorem dX4_orders_99 : decode cX4_orders 99 = .ok (.istore_n 1, 1) := by decide +kernel
theorem dX4_orders_100 : decode cX4_orders 100 = .ok (.iload_n 1, 1) := by decide +kernel
theorem dX4_orders_101 : decode cX4_orders 101 = .ok (.aload_n 0, 1) := by decide +kernel
theorem dX4_orders_102 : decode cX4_orders 102 = .ok (.getfield 116, 3) := by decide +kernel
theorem dX4_orders_105 : decode cX4_orders 105 = .ok (.if_icmp .ge 21, 3) := by decide +kernel
theorem dX4_orders_108 : decode cX4_orders 108 = .ok (.aload_n 0, 1) := by decide +kernel
theorem dX4_orders_109 : decode cX4_orders 109 = .ok (.getfield 45, 3) := by decide +kernel
theorem dX4_orders_112 : decode cX4_orders 112 = .ok (.aload_n 0, 1) := by decide +kernel
theorem dX4_orders_113 : decode cX4_orders 113 = .ok (.getfield 42, 3) := by decide +kernel
theorem dX4_orders_116 : decode cX4_orders 116 = .ok (.iload_n 1, 1) := by decide +kernel
theorem dX4_orders_117 : decode cX4_orders 117 = .ok (.iaload, 1) := by decide +kernel
theorem dX4_orders_118 : decode cX4_orders 118 = .ok (.iload_n 1, 1) := by decide +kernel
theorem dX4_orders_119 : decode cX4_orders 119 = .ok (.iastore, 1) := by decide +kernel
theorem dX4_orders_120 : decode cX4_orders 120 = .ok (.iinc 1 1, 3) := by decide +kernel
theorem dX4_orders_123 : decode cX4_orders 123 = .ok (.goto (-23), 3) := by decide +kernel
theorem dX4_orders_126 : decode cX4_orders 126 = .ok (.return_, 1) := by decide +kernel
theorem dX4_oldBase_0 : decode cX4_oldBase 0 = .ok (.aload_n 0, 1) := by decide +kernel
theorem dX4_oldBase_1 : decode cX4_oldBase 1 = .ok (.getfield 42, 3) := by decide +kernel
theorem dX4_oldBase_4 : decode cX4_oldBase 4 = .ok (.iload_n 1, 1) := by decide +kernel
theorem dX4_oldBase_5 : decode cX4_oldBase 5 = .ok (.iaload, 1) := by decide +kernel
theorem dX4_oldBase_6 : decode cX4_oldBase 6 = .ok (.istore_n 3, 1) := by decide +kernel
theorem dX4_oldBase_7 : decode cX4_oldBase 7 = .ok (.aload_n 0, 1) := by decide +kernel
theorem dX4_oldBase_8 : decode cX4_oldBase 8 = .ok (.getfield 24, 3) := by decide +kernel
theorem dX4_oldBase_11 : decode cX4_oldBase 11 = .ok (.iload_n 3, 1) := by decide +kernel
theorem dX4_oldBase_12 : decode cX4_oldBase 12 = .ok (.baload, 1) := by decide +kernel
theorem dX4_oldBase_13 : decode cX4_oldBase 13 = .ok (.ifCond .eq 22, 3) := by decide +kernel
theorem dX4_oldBase_16 : decode cX4_oldBase 16 = .ok (.aload_n 0, 1) := by decide +kernel
theorem dX4_oldBase_17 : decode cX4_oldBase 17 = .ok (.getfield 27, 3) := by decide +kernel
theorem dX4_oldBase_20 : decode cX4_oldBase 20 = .ok (.iload_n 3, 1) := by decide +kernel
theorem dX4_oldBase_21 : decode cX4_oldBase 21 = .ok (.baload, 1) := by decide +kernel
theorem dX4_oldBase_22 : decode cX4_oldBase 22 = .ok (.ifCond .ne 13, 3) := by decide +kernel
theorem dX4_oldBase_25 : decode cX4_oldBase 25 = .ok (.aload_n 0, 1) := by decide +kernel
theorem dX4_oldBase_26 : decode cX4_oldBase 26 = .ok (.getfield 30, 3) := by decide +kernel
theorem dX4_oldBase_29 : decode cX4_oldBase 29 = .ok (.iload_n 3, 1) := by decide +kernel
theorem dX4_oldBase_30 : decode cX4_oldBase 30 = .ok (.iaload, 1) := by decide +kernel
theorem dX4_oldBase_31 : decode cX4_oldBase 31 = .ok (.iconst (-1), 1) := by decide +kernel
theorem dX4_oldBase_32 : decode cX4_oldBase 32 = .ok (.if_icmp .ne 5, 3) := by decide +kernel
theorem dX4_oldBase_35 : decode cX4_oldBase 35 = .ok (.iconst (-1), 1) := by decide +kernel
theorem dX4_oldBase_36 : decode cX4_oldBase 36 = .ok (.ireturn, 1) := by decide +kernel
theorem dX4_oldBase_37 : decode cX4_oldBase 37 = .ok (.aload_n 0, 1) := by decide +kernel
theorem dX4_oldBase_38 : decode cX4_oldBase 38 = .ok (.getfield 45, 3) := by decide +kernel
theorem dX4_oldBase_41 : decode cX4_oldBase 41 = .ok (.aload_n 0, 1) := by decide +kernel
theorem dX4_oldBase_42 : decode cX4_oldBase 42 = .ok (.getfield 30, 3) := by decide +kernel
theorem dX4_oldBase_45 : decode cX4_oldBase 45 = .ok (.iload_n 3, 1) := by decide +kernel
theorem dX4_oldBase_46 : decode cX4_oldBase 46 = .ok (.iaload, 1) := by decide +kernel
theorem dX4_oldBase_47 : decode cX4_oldBase 47 = .ok (.iaload, 1) := by decide +kernel
theorem dX4_oldBase_48 : decode cX4_oldBase 48 = .ok (.istore 4, 2) := by decide +kernel
theorem dX4_oldBase_50 : decode cX4_oldBase 50 = .ok (.iload 4, 2) := by decide +kernel
theorem dX4_oldBase_52 : decode cX4_oldBase 52 = .ok (.iconst (-1), 1) := by decide +kernel
theorem dX4_oldBase_53 : decode cX4_oldBase 53 = .ok (.if_icmp .eq 33, 3) := by decide +kernel
theorem dX4_oldBase_56 : decode cX4_oldBase 56 = .ok (.iload 4, 2) := by decide +kernel
theorem dX4_oldBase_58 : decode cX4_oldBase 58 = .ok (.iload_n 1, 1) := by decide +kernel
theorem dX4_oldBase_59 : decode cX4_oldBase 59 = .ok (.if_icmp .ge 27, 3) := by decide +kernel
theorem dX4_oldBase_62 : decode cX4_oldBase 62 = .ok (.aload_n 0, 1) := by decide +kernel
theorem dX4_oldBase_63 : decode cX4_oldBase 63 = .ok (.getfield 51, 3) := by decide +kernel
theorem dX4_oldBase_66 : decode cX4_oldBase 66 = .ok (.aload_n 0, 1) := by decide +kernel
theorem dX4_oldBase_67 : decode cX4_oldBase 67 = .ok (.getfield 30, 3) := by decide +kernel
theorem dX4_oldBase_70 : decode cX4_oldBase 70 = .ok (.iload_n 3, 1) := by decide +kernel
theorem dX4_oldBase_71 : decode cX4_oldBase 71 = .ok (.iaload, 1) := by decide +kernel
theorem dX4_oldBase_72 : decode cX4_oldBase 72 = .ok (.iaload, 1) := by decide +kernel
theorem dX4_oldBase_73 : decode cX4_oldBase 73 = .ok (.iload_n 2, 1) := by decide +kernel
theorem dX4_oldBase_74 : decode cX4_oldBase 74 = .ok (.if_icmp .ge 12, 3) := by decide +kernel
theorem dX4_oldBase_77 : decode cX4_oldBase 77 = .ok (.aload_n 0, 1) := by decide +kernel
theorem dX4_oldBase_78 : decode cX4_oldBase 78 = .ok (.getfield 30, 3) := by decide +kernel
theorem dX4_oldBase_81 : decode cX4_oldBase 81 = .ok (.iload_n 3, 1) := by decide +kernel
theorem dX4_oldBase_82 : decode cX4_oldBase 82 = .ok (.iaload, 1) := by decide +kernel
theorem dX4_oldBase_83 : decode cX4_oldBase 83 = .ok (.goto 4, 3) := by decide +kernel
theorem dX4_oldBase_86 : decode cX4_oldBase 86 = .ok (.iconst (-1), 1) := by decide +kernel
theorem dX4_oldBase_87 : decode cX4_oldBase 87 = .ok (.ireturn, 1) := by decide +kernel
theorem dX4_bestBase_0 : decode cX4_bestBase 0 = .ok (.iconst (-1), 1) := by decide +kernel
theorem dX4_bestBase_1 : decode cX4_bestBase 1 = .ok (.istore 4, 2) := by decide +kernel
theorem dX4_bestBase_3 : decode cX4_bestBase 3 = .ok (.aload_n 0, 1) := by decide +kernel
theorem dX4_bestBase_4 : decode cX4_bestBase 4 = .ok (.getfield 13, 3) := by decide +kernel
theorem dX4_bestBase_7 : decode cX4_bestBase 7 = .ok (.aload_n 0, 1) := by decide +kernel
theorem dX4_bestBase_8 : decode cX4_bestBase 8 = .ok (.getfield 42, 3) := by decide +kernel
theorem dX4_bestBase_11 : decode cX4_bestBase 11 = .ok (.iload_n 1, 1) := by decide +kernel
theorem dX4_bestBase_12 : decode cX4_bestBase 12 = .ok (.iaload, 1) := by decide +kernel
theorem dX4_bestBase_13 : decode cX4_bestBase 13 = .ok (.laload, 1) := by decide +kernel
theorem dX4_bestBase_14 : decode cX4_bestBase 14 = .ok (.invokestatic 76, 3) := by decide +kernel
theorem dX4_bestBase_17 : decode cX4_bestBase 17 = .ok (.istore 5, 2) := by decide +kernel
theorem dX4_bestBase_19 : decode cX4_bestBase 19 = .ok (.iconst 1, 1) := by decide +kernel
theorem dX4_bestBase_20 : decode cX4_bestBase 20 = .ok (.istore 6, 2) := by decide +kernel
theorem dX4_bestBase_22 : decode cX4_bestBase 22 = .ok (.iload 6, 2) := by decide +kernel
theorem dX4_bestBase_24 : decode cX4_bestBase 24 = .ok (.iload_n 2, 1) := by decide +kernel
theorem dX4_bestBase_25 : decode cX4_bestBase 25 = .ok (.if_icmp .gt 103, 3) := by decide +kernel
theorem dX4_bestBase_28 : decode cX4_bestBase 28 = .ok (.iload 6, 2) := by decide +kernel
theorem dX4_bestBase_30 : decode cX4_bestBase 30 = .ok (.iload_n 1, 1) := by decide +kernel
theorem dX4_bestBase_31 : decode cX4_bestBase 31 = .ok (.if_icmp .gt 97, 3) := by decide +kernel
theorem dX4_bestBase_34 : decode cX4_bestBase 34 = .ok (.aload_n 0, 1) := by decide +kernel
theorem dX4_bestBase_35 : decode cX4_bestBase 35 = .ok (.getfield 42, 3) := by decide +kernel
theorem dX4_bestBase_38 : decode cX4_bestBase 38 = .ok (.iload_n 1, 1) := by decide +kernel
theorem dX4_bestBase_39 : decode cX4_bestBase 39 = .ok (.iload 6, 2) := by decide +kernel
theorem dX4_bestBase_41 : decode cX4_bestBase 41 = .ok (.isub, 1) := by decide +kernel
theorem dX4_bestBase_42 : decode cX4_bestBase 42 = .ok (.iaload, 1) := by decide +kernel
theorem dX4_bestBase_43 : decode cX4_bestBase 43 = .ok (.istore 7, 2) := by decide +kernel
theorem dX4_bestBase_45 : decode cX4_bestBase 45 = .ok (.aload_n 0, 1) := by decide +kernel
theorem dX4_bestBase_46 : decode cX4_bestBase 46 = .ok (.getfield 51, 3) := by decide +kernel
theorem dX4_bestBase_49 : decode cX4_bestBase 49 = .ok (.iload 7, 2) := by decide +kernel
theorem dX4_bestBase_51 : decode cX4_bestBase 51 = .ok (.iaload, 1) := by decide +kernel
theorem dX4_bestBase_52 : decode cX4_bestBase 52 = .ok (.iload_n 3, 1) := by decide +kernel
theorem dX4_bestBase_53 : decode cX4_bestBase 53 = .ok (.if_icmp .ge 69, 3) := by decide +kernel
theorem dX4_bestBase_56 : decode cX4_bestBase 56 = .ok (.aload_n 0, 1) := by decide +kernel
theorem dX4_bestBase_57 : decode cX4_bestBase 57 = .ok (.aload_n 0, 1) := by decide +kernel
theorem dX4_bestBase_58 : decode cX4_bestBase 58 = .ok (.getfield 13, 3) := by decide +kernel
theorem dX4_bestBase_61 : decode cX4_bestBase 61 = .ok (.aload_n 0, 1) := by decide +kernel
theorem dX4_bestBase_62 : decode cX4_bestBase 62 = .ok (.getfield 42, 3) := by decide +kernel
theorem dX4_bestBase_65 : decode cX4_bestBase 65 = .ok (.iload_n 1, 1) := by decide +kernel
theorem dX4_bestBase_66 : decode cX4_bestBase 66 = .ok (.iaload, 1) := by decide +kernel
theorem dX4_bestBase_67 : decode cX4_bestBase 67 = .ok (.laload, 1) := by decide +kernel
theorem dX4_bestBase_68 : decode cX4_bestBase 68 = .ok (.aload_n 0, 1) := by decide +kernel
theorem dX4_bestBase_69 : decode cX4_bestBase 69 = .ok (.getfield 13, 3) := by decide +kernel
theorem dX4_bestBase_72 : decode cX4_bestBase 72 = .ok (.iload 7, 2) := by decide +kernel
theorem dX4_bestBase_74 : decode cX4_bestBase 74 = .ok (.laload, 1) := by decide +kernel
theorem dX4_bestBase_75 : decode cX4_bestBase 75 = .ok (.invokevirtual 123, 3) := by decide +kernel
theorem dX4_bestBase_78 : decode cX4_bestBase 78 = .ok (.istore 8, 2) := by decide +kernel
theorem dX4_bestBase_80 : decode cX4_bestBase 80 = .ok (.aload_n 0, 1) := by decide +kernel
theorem dX4_bestBase_81 : decode cX4_bestBase 81 = .ok (.dup, 1) := by decide +kernel
theorem dX4_bestBase_82 : decode cX4_bestBase 82 = .ok (.getfield 127, 3) := by decide +kernel
theorem dX4_bestBase_85 : decode cX4_bestBase 85 = .ok (.iconst 1, 1) := by decide +kernel
theorem dX4_bestBase_86 : decode cX4_bestBase 86 = .ok (.iadd, 1) := by decide +kernel
theorem dX4_bestBase_87 : decode cX4_bestBase 87 = .ok (.putfield 127, 3) := by decide +kernel
theorem dX4_bestBase_90 : decode cX4_bestBase 90 = .ok (.iload 8, 2) := by decide +kernel
theorem dX4_bestBase_92 : decode cX4_bestBase 92 = .ok (.iload 5, 2) := by decide +kernel
theorem dX4_bestBase_94 : decode cX4_bestBase 94 = .ok (.if_icmp .ge 8, 3) := by decide +kernel
theorem dX4_bestBase_97 : decode cX4_bestBase 97 = .ok (.iload 7, 2) := by decide +kernel
theorem dX4_bestBase_99 : decode cX4_bestBase 99 = .ok (.goto 5, 3) := by decide +kernel
theorem dX4_bestBase_102 : decode cX4_bestBase 102 = .ok (.iload 4, 2) := by decide +kernel
theorem dX4_bestBase_104 : decode cX4_bestBase 104 = .ok (.istore 4, 2) := by decide +kernel
theorem dX4_bestBase_106 : decode cX4_bestBase 106 = .ok (.iload 8, 2) := by decide +kernel
theorem dX4_bestBase_108 : decode cX4_bestBase 108 = .ok (.iload 5, 2) := by decide +kernel
theorem dX4_bestBase_110 : decode cX4_bestBase 110 = .ok (.if_icmp .ge 8, 3) := by decide +kernel
theorem dX4_bestBase_113 : decode cX4_bestBase 113 = .ok (.iload 8, 2) := by decide +kernel
theorem dX4_bestBase_115 : decode cX4_bestBase 115 = .ok (.goto 5, 3) := by decide +kernel
theorem dX4_bestBase_118 : decode cX4_bestBase 118 = .ok (.iload 5, 2) := by decide +kernel
theorem dX4_bestBase_120 : decode cX4_bestBase 120 = .ok (.istore 5, 2) := by decide +kernel
theorem dX4_bestBase_122 : decode cX4_bestBase 122 = .ok (.iinc 6 1, 3) := by decide +kernel
theorem dX4_bestBase_125 : decode cX4_bestBase 125 = .ok (.goto (-103), 3) := by decide +kernel
theorem dX4_bestBase_128 : decode cX4_bestBase 128 = .ok (.iload 4, 2) := by decide +kernel
theorem dX4_bestBase_130 : decode cX4_bestBase 130 = .ok (.ireturn, 1) := by decide +kernel
theorem dX4_forms_0 : decode cX4_forms 0 = .ok (.aload_n 0, 1) := by decide +kernel
theorem dX4_forms_1 : decode cX4_forms 1 = .ok (.getfield 48, 3) := by decide +kernel
theorem dX4_forms_4 : decode cX4_forms 4 = .ok (.iload_n 1, 1) := by decide +kernel
theorem dX4_forms_5 : decode cX4_forms 5 = .ok (.iaload, 1) := by decide +kernel
theorem dX4_forms_6 : decode cX4_forms 6 = .ok (.istore_n 2, 1) := by decide +kernel
theorem dX4_forms_7 : decode cX4_forms 7 = .ok (.aload_n 0, 1) := by decide +kernel
theorem dX4_forms_8 : decode cX4_forms 8 = .ok (.getfield 24, 3) := by decide +kernel
theorem dX4_forms_11 : decode cX4_forms 11 = .ok (.iload_n 1, 1) := by decide +kernel
theorem dX4_forms_12 : decode cX4_forms 12 = .ok (.iconst 1, 1) := by decide +kernel
theorem dX4_forms_13 : decode cX4_forms 13 = .ok (.bastore, 1) := by decide +kernel
theorem dX4_forms_14 : decode cX4_forms 14 = .ok (.aload_n 0, 1) := by decide +kernel
theorem dX4_forms_15 : decode cX4_forms 15 = .ok (.getfield 27, 3) := by decide +kernel
theorem dX4_forms_18 : decode cX4_forms 18 = .ok (.iload_n 1, 1) := by decide +kernel
theorem dX4_forms_19 : decode cX4_forms 19 = .ok (.iconst 0, 1) := by decide +kernel
theorem dX4_forms_20 : decode cX4_forms 20 = .ok (.bastore, 1) := by decide +kernel
theorem dX4_forms_21 : decode cX4_forms 21 = .ok (.aload_n 0, 1) := by decide +kernel
theorem dX4_forms_22 : decode cX4_forms 22 = .ok (.getfield 30, 3) := by decide +kernel
theorem dX4_forms_25 : decode cX4_forms 25 = .ok (.iload_n 1, 1) := by decide +kernel
theorem dX4_forms_26 : decode cX4_forms 26 = .ok (.iload_n 2, 1) := by decide +kernel
theorem dX4_forms_27 : decode cX4_forms 27 = .ok (.iastore, 1) := by decide +kernel
theorem dX4_forms_28 : decode cX4_forms 28 = .ok (.aload_n 0, 1) := by decide +kernel
theorem dX4_forms_29 : decode cX4_forms 29 = .ok (.getfield 39, 3) := by decide +kernel
theorem dX4_forms_32 : decode cX4_forms 32 = .ok (.iload_n 1, 1) := by decide +kernel
theorem dX4_forms_33 : decode cX4_forms 33 = .ok (.aload_n 0, 1) := by decide +kernel
theorem dX4_forms_34 : decode cX4_forms 34 = .ok (.getfield 51, 3) := by decide +kernel
theorem dX4_forms_37 : decode cX4_forms 37 = .ok (.iload_n 1, 1) := by decide +kernel
theorem dX4_forms_38 : decode cX4_forms 38 = .ok (.iaload, 1) := by decide +kernel
theorem dX4_forms_39 : decode cX4_forms 39 = .ok (.iastore, 1) := by decide +kernel
theorem dX4_forms_40 : decode cX4_forms 40 = .ok (.aload_n 0, 1) := by decide +kernel
theorem dX4_forms_41 : decode cX4_forms 41 = .ok (.getfield 33, 3) := by decide +kernel
theorem dX4_forms_44 : decode cX4_forms 44 = .ok (.iload_n 1, 1) := by decide +kernel
theorem dX4_forms_45 : decode cX4_forms 45 = .ok (.iload_n 2, 1) := by decide +kernel
theorem dX4_forms_46 : decode cX4_forms 46 = .ok (.iconst (-1), 1) := by decide +kernel
theorem dX4_forms_47 : decode cX4_forms 47 = .ok (.if_icmp .ne 15, 3) := by decide +kernel
theorem dX4_forms_50 : decode cX4_forms 50 = .ok (.aload_n 0, 1) := by decide +kernel
theorem dX4_forms_51 : decode cX4_forms 51 = .ok (.getfield 13, 3) := by decide +kernel
theorem dX4_forms_54 : decode cX4_forms 54 = .ok (.iload_n 1, 1) := by decide +kernel
theorem dX4_forms_55 : decode cX4_forms 55 = .ok (.laload, 1) := by decide +kernel
theorem dX4_forms_56 : decode cX4_forms 56 = .ok (.invokestatic 76, 3) := by decide +kernel
theorem dX4_forms_59 : decode cX4_forms 59 = .ok (.goto 19, 3) := by decide +kernel
theorem dX4_forms_62 : decode cX4_forms 62 = .ok (.aload_n 0, 1) := by decide +kernel
theorem dX4_forms_63 : decode cX4_forms 63 = .ok (.aload_n 0, 1) := by decide +kernel
theorem dX4_forms_64 : decode cX4_forms 64 = .ok (.getfield 13, 3) := by decide +kernel
theorem dX4_forms_67 : decode cX4_forms 67 = .ok (.iload_n 1, 1) := by decide +kernel
theorem dX4_forms_68 : decode cX4_forms 68 = .ok (.laload, 1) := by decide +kernel
theorem dX4_forms_69 : decode cX4_forms 69 = .ok (.aload_n 0, 1) := by decide +kernel
theorem dX4_forms_70 : decode cX4_forms 70 = .ok (.getfield 13, 3) := by decide +kernel
theorem dX4_forms_73 : decode cX4_forms 73 = .ok (.iload_n 2, 1) := by decide +kernel
theorem dX4_forms_74 : decode cX4_forms 74 = .ok (.laload, 1) := by decide +kernel
theorem dX4_forms_75 : decode cX4_forms 75 = .ok (.invokevirtual 123, 3) := by decide +kernel
theorem dX4_forms_78 : decode cX4_forms 78 = .ok (.iastore, 1) := by decide +kernel
theorem dX4_forms_79 : decode cX4_forms 79 = .ok (.aload_n 0, 1) := by decide +kernel
theorem dX4_forms_80 : decode cX4_forms 80 = .ok (.getfield 36, 3) := by decide +kernel
theorem dX4_forms_83 : decode cX4_forms 83 = .ok (.iload_n 1, 1) := by decide +kernel
theorem dX4_forms_84 : decode cX4_forms 84 = .ok (.iload_n 2, 1) := by decide +kernel
theorem dX4_forms_85 : decode cX4_forms 85 = .ok (.iconst (-1), 1) := by decide +kernel
theorem dX4_forms_86 : decode cX4_forms 86 = .ok (.if_icmp .ne 7, 3) := by decide +kernel
theorem dX4_forms_89 : decode cX4_forms 89 = .ok (.iconst 1, 1) := by decide +kernel
theorem dX4_forms_90 : decode cX4_forms 90 = .ok (.goto 12, 3) := by decide +kernel
theorem dX4_forms_93 : decode cX4_forms 93 = .ok (.aload_n 0, 1) := by decide +kernel
theorem dX4_forms_94 : decode cX4_forms 94 = .ok (.getfield 90, 3) := by decide +kernel
theorem dX4_forms_97 : decode cX4_forms 97 = .ok (.aload_n 0, 1) := by decide +kernel
theorem dX4_forms_98 : decode cX4_forms 98 = .ok (.getfield 93, 3) := by decide +kernel
theorem dX4_forms_101 : decode cX4_forms 101 = .ok (.iadd, 1) := by decide +kernel
theorem dX4_forms_102 : decode cX4_forms 102 = .ok (.iastore, 1) := by decide +kernel
theorem dX4_forms_103 : decode cX4_forms 103 = .ok (.return_, 1) := by decide +kernel
theorem dX4_pack_0 : decode cX4_pack 0 = .ok (.aload_n 0, 1) := by decide +kernel
theorem dX4_pack_1 : decode cX4_pack 1 = .ok (.iload_n 1, 1) := by decide +kernel
theorem dX4_pack_2 : decode cX4_pack 2 = .ok (.iconst 1, 1) := by decide +kernel
theorem dX4_pack_3 : decode cX4_pack 3 = .ok (.bipush 8, 2) := by decide +kernel
theorem dX4_pack_5 : decode cX4_pack 5 = .ok (.invokestatic 70, 3) := by decide +kernel
theorem dX4_pack_8 : decode cX4_pack 8 = .ok (.ifCond .eq 17, 3) := by decide +kernel
theorem dX4_pack_11 : decode cX4_pack 11 = .ok (.iload_n 2, 1) := by decide +kernel
theorem dX4_pack_12 : decode cX4_pack 12 = .ok (.iconst 0, 1) := by decide +kernel
theorem dX4_pack_13 : decode cX4_pack 13 = .ok (.bipush 6, 2) := by decide +kernel
theorem dX4_pack_15 : decode cX4_pack 15 = .ok (.invokestatic 70, 3) := by decide +kernel
theorem dX4_pack_18 : decode cX4_pack 18 = .ok (.ifCond .eq 7, 3) := by decide +kernel
theorem dX4_pack_21 : decode cX4_pack 21 = .ok (.iconst 0, 1) := by decide +kernel
theorem dX4_pack_22 : decode cX4_pack 22 = .ok (.goto 4, 3) := by decide +kernel
theorem dX4_pack_25 : decode cX4_pack 25 = .ok (.iconst 1, 1) := by decide +kernel
theorem dX4_pack_26 : decode cX4_pack 26 = .ok (.invokevirtual 103, 3) := by decide +kernel
theorem dX4_pack_29 : decode cX4_pack 29 = .ok (.ifCond .ne 5, 3) := by decide +kernel
theorem dX4_pack_32 : decode cX4_pack 32 = .ok (.iconst 0, 1) := by decide +kernel
theorem dX4_pack_33 : decode cX4_pack 33 = .ok (.ireturn, 1) := by decide +kernel
theorem dX4_pack_34 : decode cX4_pack 34 = .ok (.aload_n 0, 1) := by decide +kernel
theorem dX4_pack_35 : decode cX4_pack 35 = .ok (.invokevirtual 130, 3) := by decide +kernel
theorem dX4_pack_38 : decode cX4_pack 38 = .ok (.aload_n 0, 1) := by decide +kernel
theorem dX4_pack_39 : decode cX4_pack 39 = .ok (.iconst 0, 1) := by decide +kernel
theorem dX4_pack_40 : decode cX4_pack 40 = .ok (.putfield 127, 3) := by decide +kernel
theorem dX4_pack_43 : decode cX4_pack 43 = .ok (.aload_n 0, 1) := by decide +kernel
theorem dX4_pack_44 : decode cX4_pack 44 = .ok (.iconst 0, 1) := by decide +kernel
theorem dX4_pack_45 : decode cX4_pack 45 = .ok (.putfield 133, 3) := by decide +kernel
theorem dX4_pack_48 : decode cX4_pack 48 = .ok (.iconst 0, 1) := by decide +kernel
theorem dX4_pack_49 : decode cX4_pack 49 = .ok (.istore 4, 2) := by decide +kernel
theorem dX4_pack_51 : decode cX4_pack 51 = .ok (.iload 4, 2) := by decide +kernel
theorem dX4_pack_53 : decode cX4_pack 53 = .ok (.aload_n 0, 1) := by decide +kernel
theorem dX4_pack_54 : decode cX4_pack 54 = .ok (.getfield 116, 3) := by decide +kernel
theorem dX4_pack_57 : decode cX4_pack 57 = .ok (.if_icmp .ge 117, 3) := by decide +kernel
theorem dX4_pack_60 : decode cX4_pack 60 = .ok (.aload_n 0, 1) := by decide +kernel
theorem dX4_pack_61 : decode cX4_pack 61 = .ok (.getfield 42, 3) := by decide +kernel
theorem dX4_pack_64 : decode cX4_pack 64 = .ok (.iload 4, 2) := by decide +kernel
theorem dX4_pack_66 : decode cX4_pack 66 = .ok (.iaload, 1) := by decide +kernel
theorem dX4_pack_67 : decode cX4_pack 67 = .ok (.istore 5, 2) := by decide +kernel
theorem dX4_pack_69 : decode cX4_pack 69 = .ok (.iload_n 3, 1) := by decide +kernel
theorem dX4_pack_70 : decode cX4_pack 70 = .ok (.ifCond .eq 13, 3) := by decide +kernel
theorem dX4_pack_73 : decode cX4_pack 73 = .ok (.aload_n 0, 1) := by decide +kernel
theorem dX4_pack_74 : decode cX4_pack 74 = .ok (.iload 4, 2) := by decide +kernel
theorem dX4_pack_76 : decode cX4_pack 76 = .ok (.iload_n 2, 1) := by decide +kernel
theorem dX4_pack_77 : decode cX4_pack 77 = .ok (.invokevirtual 136, 3) := by decide +kernel
theorem dX4_pack_80 : decode cX4_pack 80 = .ok (.goto 4, 3) := by decide +kernel
theorem dX4_pack_83 : decode cX4_pack 83 = .ok (.iconst (-1), 1) := by decide +kernel
theorem dX4_pack_84 : decode cX4_pack 84 = .ok (.istore 6, 2) := by decide +kernel
theorem dX4_pack_86 : decode cX4_pack 86 = .ok (.aload_n 0, 1) := by decide +kernel
theorem dX4_pack_87 : decode cX4_pack 87 = .ok (.dup, 1) := by decide +kernel
theorem dX4_pack_88 : decode cX4_pack 88 = .ok (.getfield 133, 3) := by decide +kernel
theorem dX4_pack_91 : decode cX4_pack 91 = .ok (.iload 6, 2) := by decide +kernel
theorem dX4_pack_93 : decode cX4_pack 93 = .ok (.iconst (-1), 1) := by decide +kernel
theorem dX4_pack_94 : decode cX4_pack 94 = .ok (.if_icmp .ne 7, 3) := by decide +kernel
theorem dX4_pack_97 : decode cX4_pack 97 = .ok (.iconst 0, 1) := by decide +kernel
theorem dX4_pack_98 : decode cX4_pack 98 = .ok (.goto 4, 3) := by decide +kernel
theorem dX4_pack_101 : decode cX4_pack 101 = .ok (.iconst 1, 1) := by decide +kernel
theorem dX4_pack_102 : decode cX4_pack 102 = .ok (.iadd, 1) := by decide +kernel
theorem dX4_pack_103 : decode cX4_pack 103 = .ok (.putfield 133, 3) := by decide +kernel
theorem dX4_pack_106 : decode cX4_pack 106 = .ok (.aload_n 0, 1) := by decide +kernel
theorem dX4_pack_107 : decode cX4_pack 107 = .ok (.getfield 48, 3) := by decide +kernel
theorem dX4_pack_110 : decode cX4_pack 110 = .ok (.iload 5, 2) := by decide +kernel
theorem dX4_pack_112 : decode cX4_pack 112 = .ok (.iload 6, 2) := by decide +kernel
theorem dX4_pack_114 : decode cX4_pack 114 = .ok (.iconst (-1), 1) := by decide +kernel
theorem dX4_pack_115 : decode cX4_pack 115 = .ok (.if_icmp .ne 14, 3) := by decide +kernel
theorem dX4_pack_118 : decode cX4_pack 118 = .ok (.aload_n 0, 1) := by decide +kernel
theorem dX4_pack_119 : decode cX4_pack 119 = .ok (.iload 4, 2) := by decide +kernel
theorem dX4_pack_121 : decode cX4_pack 121 = .ok (.iload_n 1, 1) := by decide +kernel
theorem dX4_pack_122 : decode cX4_pack 122 = .ok (.iload_n 2, 1) := by decide +kernel
theorem dX4_pack_123 : decode cX4_pack 123 = .ok (.invokevirtual 139, 3) := by decide +kernel
theorem dX4_pack_126 : decode cX4_pack 126 = .ok (.goto 5, 3) := by decide +kernel
theorem dX4_pack_129 : decode cX4_pack 129 = .ok (.iload 6, 2) := by decide +kernel
theorem dX4_pack_131 : decode cX4_pack 131 = .ok (.iastore, 1) := by decide +kernel
theorem dX4_pack_132 : decode cX4_pack 132 = .ok (.aload_n 0, 1) := by decide +kernel
theorem dX4_pack_133 : decode cX4_pack 133 = .ok (.getfield 51, 3) := by decide +kernel
theorem dX4_pack_136 : decode cX4_pack 136 = .ok (.iload 5, 2) := by decide +kernel
theorem dX4_pack_138 : decode cX4_pack 138 = .ok (.aload_n 0, 1) := by decide +kernel
theorem dX4_pack_139 : decode cX4_pack 139 = .ok (.getfield 48, 3) := by decide +kernel
theorem dX4_pack_142 : decode cX4_pack 142 = .ok (.iload 5, 2) := by decide +kernel
theorem dX4_pack_144 : decode cX4_pack 144 = .ok (.iaload, 1) := by decide +kernel
theorem dX4_pack_145 : decode cX4_pack 145 = .ok (.iconst (-1), 1) := by decide +kernel
theorem dX4_pack_146 : decode cX4_pack 146 = .ok (.if_icmp .ne 7, 3) := by decide +kernel
theorem dX4_pack_149 : decode cX4_pack 149 = .ok (.iconst 0, 1) := by decide +kernel
theorem dX4_pack_150 : decode cX4_pack 150 = .ok (.goto 17, 3) := by decide +kernel
theorem dX4_pack_153 : decode cX4_pack 153 = .ok (.aload_n 0, 1) := by decide +kernel
theorem dX4_pack_154 : decode cX4_pack 154 = .ok (.getfield 51, 3) := by decide +kernel
theorem dX4_pack_157 : decode cX4_pack 157 = .ok (.aload_n 0, 1) := by decide +kernel
theorem dX4_pack_158 : decode cX4_pack 158 = .ok (.getfield 48, 3) := by decide +kernel
theorem dX4_pack_161 : decode cX4_pack 161 = .ok (.iload 5, 2) := by decide +kernel
theorem dX4_pack_163 : decode cX4_pack 163 = .ok (.iaload, 1) := by decide +kernel
theorem dX4_pack_164 : decode cX4_pack 164 = .ok (.iaload, 1) := by decide +kernel
theorem dX4_pack_165 : decode cX4_pack 165 = .ok (.iconst 1, 1) := by decide +kernel
theorem dX4_pack_166 : decode cX4_pack 166 = .ok (.iadd, 1) := by decide +kernel
theorem dX4_pack_167 : decode cX4_pack 167 = .ok (.iastore, 1) := by decide +kernel
theorem dX4_pack_168 : decode cX4_pack 168 = .ok (.iinc 4 1, 3) := by decide +kernel
theorem dX4_pack_171 : decode cX4_pack 171 = .ok (.goto (-120), 3) := by decide +kernel
theorem dX4_pack_174 : decode cX4_pack 174 = .ok (.iconst 0, 1) := by decide +kernel
theorem dX4_pack_175 : decode cX4_pack 175 = .ok (.istore 4, 2) := by decide +kernel
theorem dX4_pack_177 : decode cX4_pack 177 = .ok (.iload 4, 2) := by decide +kernel
theorem dX4_pack_179 : decode cX4_pack 179 = .ok (.aload_n 0, 1) := by decide +kernel
theorem dX4_pack_180 : decode cX4_pack 180 = .ok (.getfield 67, 3) := by decide +kernel
theorem dX4_pack_183 : decode cX4_pack 183 = .ok (.if_icmp .ge 17, 3) := by decide +kernel
theorem dX4_pack_186 : decode cX4_pack 186 = .ok (.aload_n 0, 1) := by decide +kernel
theorem dX4_pack_187 : decode cX4_pack 187 = .ok (.getfield 24, 3) := by decide +kernel
theorem dX4_pack_190 : decode cX4_pack 190 = .ok (.iload 4, 2) := by decide +kernel
theorem dX4_pack_192 : decode cX4_pack 192 = .ok (.iconst 0, 1) := by decide +kernel
theorem dX4_pack_193 : decode cX4_pack 193 = .ok (.bastore, 1) := by decide +kernel
theorem dX4_pack_194 : decode cX4_pack 194 = .ok (.iinc 4 1, 3) := by decide +kernel
theorem dX4_pack_197 : decode cX4_pack 197 = .ok (.goto (-20), 3) := by decide +kernel
theorem dX4_pack_200 : decode cX4_pack 200 = .ok (.iconst 0, 1) := by decide +kernel
theorem dX4_pack_201 : decode cX4_pack 201 = .ok (.istore 4, 2) := by decide +kernel
theorem dX4_pack_203 : decode cX4_pack 203 = .ok (.iload 4, 2) := by decide +kernel
theorem dX4_pack_205 : decode cX4_pack 205 = .ok (.aload_n 0, 1) := by decide +kernel
theorem dX4_pack_206 : decode cX4_pack 206 = .ok (.getfield 116, 3) := by decide +kernel
theorem dX4_pack_209 : decode cX4_pack 209 = .ok (.if_icmp .ge 20, 3) := by decide +kernel
theorem dX4_pack_212 : decode cX4_pack 212 = .ok (.aload_n 0, 1) := by decide +kernel
theorem dX4_pack_213 : decode cX4_pack 213 = .ok (.aload_n 0, 1) := by decide +kernel
theorem dX4_pack_214 : decode cX4_pack 214 = .ok (.getfield 42, 3) := by decide +kernel
theorem dX4_pack_217 : decode cX4_pack 217 = .ok (.iload 4, 2) := by decide +kernel
theorem dX4_pack_219 : decode cX4_pack 219 = .ok (.iaload, 1) := by decide +kernel
theorem dX4_pack_220 : decode cX4_pack 220 = .ok (.invokevirtual 143, 3) := by decide +kernel
theorem dX4_pack_223 : decode cX4_pack 223 = .ok (.iinc 4 1, 3) := by decide +kernel
theorem dX4_pack_226 : decode cX4_pack 226 = .ok (.goto (-23), 3) := by decide +kernel
theorem dX4_pack_229 : decode cX4_pack 229 = .ok (.aload_n 0, 1) := by decide +kernel
theorem dX4_pack_230 : decode cX4_pack 230 = .ok (.invokevirtual 147, 3) := by decide +kernel
theorem dX4_pack_233 : decode cX4_pack 233 = .ok (.ireturn, 1) := by decide +kernel
theorem dX4_prune_0 : decode cX4_prune 0 = .ok (.aload_n 0, 1) := by decide +kernel
theorem dX4_prune_1 : decode cX4_prune 1 = .ok (.iconst 0, 1) := by decide +kernel
theorem dX4_prune_2 : decode cX4_prune 2 = .ok (.putfield 63, 3) := by decide +kernel
theorem dX4_prune_5 : decode cX4_prune 5 = .ok (.iconst 0, 1) := by decide +kernel
theorem dX4_prune_6 : decode cX4_prune 6 = .ok (.istore_n 1, 1) := by decide +kernel
theorem dX4_prune_7 : decode cX4_prune 7 = .ok (.iconst 0, 1) := by decide +kernel
theorem dX4_prune_8 : decode cX4_prune 8 = .ok (.istore_n 2, 1) := by decide +kernel
theorem dX4_prune_9 : decode cX4_prune 9 = .ok (.iload_n 2, 1) := by decide +kernel
theorem dX4_prune_10 : decode cX4_prune 10 = .ok (.aload_n 0, 1) := by decide +kernel
theorem dX4_prune_11 : decode cX4_prune 11 = .ok (.getfield 67, 3) := by decide +kernel
theorem dX4_prune_14 : decode cX4_prune 14 = .ok (.if_icmp .ge 36, 3) := by decide +kernel
theorem dX4_prune_17 : decode cX4_prune 17 = .ok (.aload_n 0, 1) := by decide +kernel
theorem dX4_prune_18 : decode cX4_prune 18 = .ok (.getfield 21, 3) := by decide +kernel
theorem dX4_prune_21 : decode cX4_prune 21 = .ok (.iload_n 2, 1) := by decide +kernel
theorem dX4_prune_22 : decode cX4_prune 22 = .ok (.baload, 1) := by decide +kernel
theorem dX4_prune_23 : decode cX4_prune 23 = .ok (.ifCond .eq 21, 3) := by decide +kernel
theorem dX4_prune_26 : decode cX4_prune 26 = .ok (.aload_n 0, 1) := by decide +kernel
theorem dX4_prune_27 : decode cX4_prune 27 = .ok (.iload_n 2, 1) := by decide +kernel
theorem dX4_prune_28 : decode cX4_prune 28 = .ok (.invokevirtual 110, 3) := by decide +kernel
theorem dX4_prune_31 : decode cX4_prune 31 = .ok (.ifCond .eq 13, 3) := by decide +kernel
theorem dX4_prune_34 : decode cX4_prune 34 = .ok (.aload_n 0, 1) := by decide +kernel
theorem dX4_prune_35 : decode cX4_prune 35 = .ok (.getfield 21, 3) := by decide +kernel
theorem dX4_prune_38 : decode cX4_prune 38 = .ok (.iload_n 2, 1) := by decide +kernel
theorem dX4_prune_39 : decode cX4_prune 39 = .ok (.iconst 0, 1) := by decide +kernel
theorem dX4_prune_40 : decode cX4_prune 40 = .ok (.bastore, 1) := by decide +kernel
theorem dX4_prune_41 : decode cX4_prune 41 = .ok (.iinc 1 1, 3) := by decide +kernel
theorem dX4_prune_44 : decode cX4_prune 44 = .ok (.iinc 2 1, 3) := by decide +kernel
theorem dX4_prune_47 : decode cX4_prune 47 = .ok (.goto (-38), 3) := by decide +kernel
theorem dX4_prune_50 : decode cX4_prune 50 = .ok (.iload_n 1, 1) := by decide +kernel
theorem dX4_prune_51 : decode cX4_prune 51 = .ok (.ireturn, 1) := by decide +kernel
theorem dX4_allPacked_0 : decode cX4_allPacked 0 = .ok (.iconst 0, 1) := by decide +kernel
theorem dX4_allPacked_1 : decode cX4_allPacked 1 = .ok (.istore_n 1, 1) := by decide +kernel
theorem dX4_allPacked_2 : decode cX4_allPacked 2 = .ok (.iconst 0, 1) := by decide +kernel
theorem dX4_allPacked_3 : decode cX4_allPacked 3 = .ok (.istore_n 2, 1) := by decide +kernel
theorem dX4_allPacked_4 : decode cX4_allPacked 4 = .ok (.iload_n 2, 1) := by decide +kernel
theorem dX4_allPacked_5 : decode cX4_allPacked 5 = .ok (.aload_n 0, 1) := by decide +kernel
theorem dX4_allPacked_6 : decode cX4_allPacked 6 = .ok (.getfield 67, 3) := by decide +kernel
theorem dX4_allPacked_9 : decode cX4_allPacked 9 = .ok (.if_icmp .ge 25, 3) := by decide +kernel
theorem dX4_allPacked_12 : decode cX4_allPacked 12 = .ok (.iload_n 1, 1) := by decide +kernel
theorem dX4_allPacked_13 : decode cX4_allPacked 13 = .ok (.aload_n 0, 1) := by decide +kernel
theorem dX4_allPacked_14 : decode cX4_allPacked 14 = .ok (.iload_n 2, 1) := by decide +kernel
theorem dX4_allPacked_15 : decode cX4_allPacked 15 = .ok (.invokevirtual 110, 3) := by decide +kernel
theorem dX4_allPacked_18 : decode cX4_allPacked 18 = .ok (.ifCond .eq 7, 3) := by decide +kernel
theorem dX4_allPacked_21 : decode cX4_allPacked 21 = .ok (.iconst 1, 1) := by decide +kernel
theorem dX4_allPacked_22 : decode cX4_allPacked 22 = .ok (.goto 4, 3) := by decide +kernel
theorem dX4_allPacked_25 : decode cX4_allPacked 25 = .ok (.iconst 0, 1) := by decide +kernel
theorem dX4_allPacked_26 : decode cX4_allPacked 26 = .ok (.iadd, 1) := by decide +kernel
theorem dX4_allPacked_27 : decode cX4_allPacked 27 = .ok (.istore_n 1, 1) := by decide +kernel
theorem dX4_allPacked_28 : decode cX4_allPacked 28 = .ok (.iinc 2 1, 3) := by decide +kernel
theorem dX4_allPacked_31 : decode cX4_allPacked 31 = .ok (.goto (-27), 3) := by decide +kernel
theorem dX4_allPacked_34 : decode cX4_allPacked 34 = .ok (.iload_n 1, 1) := by decide +kernel
theorem dX4_allPacked_35 : decode cX4_allPacked 35 = .ok (.ireturn, 1) := by decide +kernel
theorem dX4_damage_0 : decode cX4_damage 0 = .ok (.aload_n 0, 1) := by decide +kernel
theorem dX4_damage_1 : decode cX4_damage 1 = .ok (.aload_n 0, 1) := by decide +kernel
theorem dX4_damage_2 : decode cX4_damage 2 = .ok (.iload_n 1, 1) := by decide +kernel
theorem dX4_damage_3 : decode cX4_damage 3 = .ok (.invokevirtual 107, 3) := by decide +kernel
theorem dX4_damage_6 : decode cX4_damage 6 = .ok (.ifCond .ne 7, 3) := by decide +kernel
theorem dX4_damage_9 : decode cX4_damage 9 = .ok (.iconst 1, 1) := by decide +kernel
theorem dX4_damage_10 : decode cX4_damage 10 = .ok (.goto 26, 3) := by decide +kernel
theorem dX4_damage_13 : decode cX4_damage 13 = .ok (.aload_n 0, 1) := by decide +kernel
theorem dX4_damage_14 : decode cX4_damage 14 = .ok (.getfield 24, 3) := by decide +kernel
theorem dX4_damage_17 : decode cX4_damage 17 = .ok (.iload_n 1, 1) := by decide +kernel
theorem dX4_damage_18 : decode cX4_damage 18 = .ok (.baload, 1) := by decide +kernel
theorem dX4_damage_19 : decode cX4_damage 19 = .ok (.ifCond .eq 12, 3) := by decide +kernel
theorem dX4_damage_22 : decode cX4_damage 22 = .ok (.aload_n 0, 1) := by decide +kernel
theorem dX4_damage_23 : decode cX4_damage 23 = .ok (.getfield 27, 3) := by decide +kernel
theorem dX4_damage_26 : decode cX4_damage 26 = .ok (.iload_n 1, 1) := by decide +kernel
theorem dX4_damage_27 : decode cX4_damage 27 = .ok (.baload, 1) := by decide +kernel
theorem dX4_damage_28 : decode cX4_damage 28 = .ok (.ifCond .eq 7, 3) := by decide +kernel
theorem dX4_damage_31 : decode cX4_damage 31 = .ok (.iconst 2, 1) := by decide +kernel
theorem dX4_damage_32 : decode cX4_damage 32 = .ok (.goto 4, 3) := by decide +kernel
theorem dX4_damage_35 : decode cX4_damage 35 = .ok (.iconst 0, 1) := by decide +kernel
theorem dX4_damage_36 : decode cX4_damage 36 = .ok (.invokevirtual 103, 3) := by decide +kernel
theorem dX4_damage_39 : decode cX4_damage 39 = .ok (.ifCond .ne 5, 3) := by decide +kernel
theorem dX4_damage_42 : decode cX4_damage 42 = .ok (.iconst 0, 1) := by decide +kernel
theorem dX4_damage_43 : decode cX4_damage 43 = .ok (.ireturn, 1) := by decide +kernel
theorem dX4_damage_44 : decode cX4_damage 44 = .ok (.aload_n 0, 1) := by decide +kernel
theorem dX4_damage_45 : decode cX4_damage 45 = .ok (.invokevirtual 151, 3) := by decide +kernel
theorem dX4_damage_48 : decode cX4_damage 48 = .ok (.istore_n 2, 1) := by decide +kernel
theorem dX4_damage_49 : decode cX4_damage 49 = .ok (.aload_n 0, 1) := by decide +kernel
theorem dX4_damage_50 : decode cX4_damage 50 = .ok (.getfield 27, 3) := by decide +kernel
theorem dX4_damage_53 : decode cX4_damage 53 = .ok (.iload_n 1, 1) := by decide +kernel
theorem dX4_damage_54 : decode cX4_damage 54 = .ok (.iconst 1, 1) := by decide +kernel
theorem dX4_damage_55 : decode cX4_damage 55 = .ok (.bastore, 1) := by decide +kernel
theorem dX4_damage_56 : decode cX4_damage 56 = .ok (.iload_n 2, 1) := by decide +kernel
theorem dX4_damage_57 : decode cX4_damage 57 = .ok (.aload_n 0, 1) := by decide +kernel
theorem dX4_damage_58 : decode cX4_damage 58 = .ok (.invokevirtual 151, 3) := by decide +kernel
theorem dX4_damage_61 : decode cX4_damage 61 = .ok (.isub, 1) := by decide +kernel
theorem dX4_damage_62 : decode cX4_damage 62 = .ok (.ireturn, 1) := by decide +kernel
theorem dX4_compared_0 : decode cX4_compared 0 = .ok (.aload_n 0, 1) := by decide +kernel
theorem dX4_compared_1 : decode cX4_compared 1 = .ok (.iconst 0, 1) := by decide +kernel
theorem dX4_compared_2 : decode cX4_compared 2 = .ok (.putfield 63, 3) := by decide +kernel
theorem dX4_compared_5 : decode cX4_compared 5 = .ok (.aload_n 0, 1) := by decide +kernel
theorem dX4_compared_6 : decode cX4_compared 6 = .ok (.getfield 127, 3) := by decide +kernel
theorem dX4_compared_9 : decode cX4_compared 9 = .ok (.ireturn, 1) := by decide +kernel
theorem dX4_reused_0 : decode cX4_reused 0 = .ok (.aload_n 0, 1) := by decide +kernel
theorem dX4_reused_1 : decode cX4_reused 1 = .ok (.iconst 0, 1) := by decide +kernel
theorem dX4_reused_2 : decode cX4_reused 2 = .ok (.putfield 63, 3) := by decide +kernel
theorem dX4_reused_5 : decode cX4_reused 5 = .ok (.aload_n 0, 1) := by decide +kernel
theorem dX4_reused_6 : decode cX4_reused 6 = .ok (.getfield 133, 3) := by decide +kernel
theorem dX4_reused_9 : decode cX4_reused 9 = .ok (.ireturn, 1) := by decide +kernel
theorem dX4_forms__0 : decode cX4_forms_ 0 = .ok (.aload_n 0, 1) := by decide +kernel
theorem dX4_forms__1 : decode cX4_forms_ 1 = .ok (.iconst 0, 1) := by decide +kernel
theorem dX4_forms__2 : decode cX4_forms_ 2 = .ok (.putfield 63, 3) := by decide +kernel
theorem dX4_forms__5 : decode cX4_forms_ 5 = .ok (.iconst 0, 1) := by decide +kernel
theorem dX4_forms__6 : decode cX4_forms_ 6 = .ok (.istore_n 1, 1) := by decide +kernel
theorem dX4_forms__7 : decode cX4_forms_ 7 = .ok (.iconst 0, 1) := by decide +kernel
theorem dX4_forms__8 : decode cX4_forms_ 8 = .ok (.istore_n 2, 1) := by decide +kernel
theorem dX4_forms__9 : decode cX4_forms_ 9 = .ok (.iload_n 2, 1) := by decide +kernel
theorem dX4_forms__10 : decode cX4_forms_ 10 = .ok (.aload_n 0, 1) := by decide +kernel
theorem dX4_forms__11 : decode cX4_forms_ 11 = .ok (.getfield 67, 3) := by decide +kernel
theorem dX4_forms__14 : decode cX4_forms_ 14 = .ok (.if_icmp .ge 26, 3) := by decide +kernel
theorem dX4_forms__17 : decode cX4_forms_ 17 = .ok (.iload_n 1, 1) := by decide +kernel
theorem dX4_forms__18 : decode cX4_forms_ 18 = .ok (.aload_n 0, 1) := by decide +kernel
theorem dX4_forms__19 : decode cX4_forms_ 19 = .ok (.getfield 24, 3) := by decide +kernel
theorem dX4_forms__22 : decode cX4_forms_ 22 = .ok (.iload_n 2, 1) := by decide +kernel
theorem dX4_forms__23 : decode cX4_forms_ 23 = .ok (.baload, 1) := by decide +kernel
theorem dX4_forms__24 : decode cX4_forms_ 24 = .ok (.ifCond .eq 7, 3) := by decide +kernel
theorem dX4_forms__27 : decode cX4_forms_ 27 = .ok (.iconst 1, 1) := by decide +kernel
theorem dX4_forms__28 : decode cX4_forms_ 28 = .ok (.goto 4, 3) := by decide +kernel
theorem dX4_forms__31 : decode cX4_forms_ 31 = .ok (.iconst 0, 1) := by decide +kernel
theorem dX4_forms__32 : decode cX4_forms_ 32 = .ok (.iadd, 1) := by decide +kernel
theorem dX4_forms__33 : decode cX4_forms_ 33 = .ok (.istore_n 1, 1) := by decide +kernel
theorem dX4_forms__34 : decode cX4_forms_ 34 = .ok (.iinc 2 1, 3) := by decide +kernel
theorem dX4_forms__37 : decode cX4_forms_ 37 = .ok (.goto (-28), 3) := by decide +kernel
theorem dX4_forms__40 : decode cX4_forms_ 40 = .ok (.iload_n 1, 1) := by decide +kernel
theorem dX4_forms__41 : decode cX4_forms_ 41 = .ok (.ireturn, 1) := by decide +kernel
theorem dX4_allCosts_0 : decode cX4_allCosts 0 = .ok (.iconst 0, 1) := by decide +kernel
theorem dX4_allCosts_1 : decode cX4_allCosts 1 = .ok (.istore_n 1, 1) := by decide +kernel
theorem dX4_allCosts_2 : decode cX4_allCosts 2 = .ok (.iconst 0, 1) := by decide +kernel
theorem dX4_allCosts_3 : decode cX4_allCosts 3 = .ok (.istore_n 2, 1) := by decide +kernel
theorem dX4_allCosts_4 : decode cX4_allCosts 4 = .ok (.iload_n 2, 1) := by decide +kernel
theorem dX4_allCosts_5 : decode cX4_allCosts 5 = .ok (.aload_n 0, 1) := by decide +kernel
theorem dX4_allCosts_6 : decode cX4_allCosts 6 = .ok (.getfield 67, 3) := by decide +kernel
theorem dX4_allCosts_9 : decode cX4_allCosts 9 = .ok (.if_icmp .ge 31, 3) := by decide +kernel
theorem dX4_allCosts_12 : decode cX4_allCosts 12 = .ok (.iload_n 1, 1) := by decide +kernel
theorem dX4_allCosts_13 : decode cX4_allCosts 13 = .ok (.aload_n 0, 1) := by decide +kernel
theorem dX4_allCosts_14 : decode cX4_allCosts 14 = .ok (.getfield 24, 3) := by decide +kernel
theorem dX4_allCosts_17 : decode cX4_allCosts 17 = .ok (.iload_n 2, 1) := by decide +kernel
theorem dX4_allCosts_18 : decode cX4_allCosts 18 = .ok (.baload, 1) := by decide +kernel
theorem dX4_allCosts_19 : decode cX4_allCosts 19 = .ok (.ifCond .eq 12, 3) := by decide +kernel
theorem dX4_allCosts_22 : decode cX4_allCosts 22 = .ok (.aload_n 0, 1) := by decide +kernel
theorem dX4_allCosts_23 : decode cX4_allCosts 23 = .ok (.getfield 33, 3) := by decide +kernel
theorem dX4_allCosts_26 : decode cX4_allCosts 26 = .ok (.iload_n 2, 1) := by decide +kernel
theorem dX4_allCosts_27 : decode cX4_allCosts 27 = .ok (.iaload, 1) := by decide +kernel
theorem dX4_allCosts_28 : decode cX4_allCosts 28 = .ok (.goto 4, 3) := by decide +kernel
theorem dX4_allCosts_31 : decode cX4_allCosts 31 = .ok (.iconst 0, 1) := by decide +kernel
theorem dX4_allCosts_32 : decode cX4_allCosts 32 = .ok (.iadd, 1) := by decide +kernel
theorem dX4_allCosts_33 : decode cX4_allCosts 33 = .ok (.istore_n 1, 1) := by decide +kernel
theorem dX4_allCosts_34 : decode cX4_allCosts 34 = .ok (.iinc 2 1, 3) := by decide +kernel
theorem dX4_allCosts_37 : decode cX4_allCosts 37 = .ok (.goto (-33), 3) := by decide +kernel
theorem dX4_allCosts_40 : decode cX4_allCosts 40 = .ok (.iload_n 1, 1) := by decide +kernel
theorem dX4_allCosts_41 : decode cX4_allCosts 41 = .ok (.ireturn, 1) := by decide +kernel
theorem dX4_cost_0 : decode cX4_cost 0 = .ok (.aload_n 0, 1) := by decide +kernel
theorem dX4_cost_1 : decode cX4_cost 1 = .ok (.iconst 0, 1) := by decide +kernel
theorem dX4_cost_2 : decode cX4_cost 2 = .ok (.putfield 63, 3) := by decide +kernel
theorem dX4_cost_5 : decode cX4_cost 5 = .ok (.aload_n 0, 1) := by decide +kernel
theorem dX4_cost_6 : decode cX4_cost 6 = .ok (.invokevirtual 147, 3) := by decide +kernel
theorem dX4_cost_9 : decode cX4_cost 9 = .ok (.ireturn, 1) := by decide +kernel
theorem dX4_asksForm_0 : decode cX4_asksForm 0 = .ok (.aload_n 0, 1) := by decide +kernel
theorem dX4_asksForm_1 : decode cX4_asksForm 1 = .ok (.aload_n 0, 1) := by decide +kernel
theorem dX4_asksForm_2 : decode cX4_asksForm 2 = .ok (.iload_n 1, 1) := by decide +kernel
theorem dX4_asksForm_3 : decode cX4_asksForm 3 = .ok (.invokevirtual 107, 3) := by decide +kernel
theorem dX4_asksForm_6 : decode cX4_asksForm 6 = .ok (.ifCond .ne 7, 3) := by decide +kernel
theorem dX4_asksForm_9 : decode cX4_asksForm 9 = .ok (.iconst 1, 1) := by decide +kernel
theorem dX4_asksForm_10 : decode cX4_asksForm 10 = .ok (.goto 17, 3) := by decide +kernel
theorem dX4_asksForm_13 : decode cX4_asksForm 13 = .ok (.aload_n 0, 1) := by decide +kernel
theorem dX4_asksForm_14 : decode cX4_asksForm 14 = .ok (.getfield 24, 3) := by decide +kernel
theorem dX4_asksForm_17 : decode cX4_asksForm 17 = .ok (.iload_n 1, 1) := by decide +kernel
theorem dX4_asksForm_18 : decode cX4_asksForm 18 = .ok (.baload, 1) := by decide +kernel
theorem dX4_asksForm_19 : decode cX4_asksForm 19 = .ok (.ifCond .eq 7, 3) := by decide +kernel
theorem dX4_asksForm_22 : decode cX4_asksForm 22 = .ok (.iconst 0, 1) := by decide +kernel
theorem dX4_asksForm_23 : decode cX4_asksForm 23 = .ok (.goto 4, 3) := by decide +kernel
theorem dX4_asksForm_26 : decode cX4_asksForm 26 = .ok (.iconst 2, 1) := by decide +kernel
theorem dX4_asksForm_27 : decode cX4_asksForm 27 = .ok (.invokevirtual 103, 3) := by decide +kernel
theorem dX4_asksForm_30 : decode cX4_asksForm 30 = .ok (.ireturn, 1) := by decide +kernel
theorem dX4_costOf_0 : decode cX4_costOf 0 = .ok (.aload_n 0, 1) := by decide +kernel
theorem dX4_costOf_1 : decode cX4_costOf 1 = .ok (.iload_n 1, 1) := by decide +kernel
theorem dX4_costOf_2 : decode cX4_costOf 2 = .ok (.invokevirtual 154, 3) := by decide +kernel
theorem dX4_costOf_5 : decode cX4_costOf 5 = .ok (.ifCond .eq 12, 3) := by decide +kernel
theorem dX4_costOf_8 : decode cX4_costOf 8 = .ok (.aload_n 0, 1) := by decide +kernel
theorem dX4_costOf_9 : decode cX4_costOf 9 = .ok (.getfield 33, 3) := by decide +kernel
theorem dX4_costOf_12 : decode cX4_costOf 12 = .ok (.iload_n 1, 1) := by decide +kernel
theorem dX4_costOf_13 : decode cX4_costOf 13 = .ok (.iaload, 1) := by decide +kernel
theorem dX4_costOf_14 : decode cX4_costOf 14 = .ok (.goto 4, 3) := by decide +kernel
theorem dX4_costOf_17 : decode cX4_costOf 17 = .ok (.iconst 0, 1) := by decide +kernel
theorem dX4_costOf_18 : decode cX4_costOf 18 = .ok (.ireturn, 1) := by decide +kernel
theorem dX4_base_0 : decode cX4_base 0 = .ok (.aload_n 0, 1) := by decide +kernel
theorem dX4_base_1 : decode cX4_base 1 = .ok (.iload_n 1, 1) := by decide +kernel
theorem dX4_base_2 : decode cX4_base 2 = .ok (.invokevirtual 154, 3) := by decide +kernel
theorem dX4_base_5 : decode cX4_base 5 = .ok (.ifCond .eq 12, 3) := by decide +kernel
theorem dX4_base_8 : decode cX4_base 8 = .ok (.aload_n 0, 1) := by decide +kernel
theorem dX4_base_9 : decode cX4_base 9 = .ok (.getfield 30, 3) := by decide +kernel
theorem dX4_base_12 : decode cX4_base 12 = .ok (.iload_n 1, 1) := by decide +kernel
theorem dX4_base_13 : decode cX4_base 13 = .ok (.iaload, 1) := by decide +kernel
theorem dX4_base_14 : decode cX4_base 14 = .ok (.goto 4, 3) := by decide +kernel
theorem dX4_base_17 : decode cX4_base 17 = .ok (.iconst 0, 1) := by decide +kernel
theorem dX4_base_18 : decode cX4_base 18 = .ok (.ireturn, 1) := by decide +kernel
theorem dX4_depth_0 : decode cX4_depth 0 = .ok (.aload_n 0, 1) := by decide +kernel
theorem dX4_depth_1 : decode cX4_depth 1 = .ok (.iload_n 1, 1) := by decide +kernel
theorem dX4_depth_2 : decode cX4_depth 2 = .ok (.invokevirtual 154, 3) := by decide +kernel
theorem dX4_depth_5 : decode cX4_depth 5 = .ok (.ifCond .eq 12, 3) := by decide +kernel
theorem dX4_depth_8 : decode cX4_depth 8 = .ok (.aload_n 0, 1) := by decide +kernel
theorem dX4_depth_9 : decode cX4_depth 9 = .ok (.getfield 39, 3) := by decide +kernel
theorem dX4_depth_12 : decode cX4_depth 12 = .ok (.iload_n 1, 1) := by decide +kernel
theorem dX4_depth_13 : decode cX4_depth 13 = .ok (.iaload, 1) := by decide +kernel
theorem dX4_depth_14 : decode cX4_depth 14 = .ok (.goto 4, 3) := by decide +kernel
theorem dX4_depth_17 : decode cX4_depth 17 = .ok (.iconst 0, 1) := by decide +kernel
theorem dX4_depth_18 : decode cX4_depth 18 = .ok (.ireturn, 1) := by decide +kernel
theorem dX4_parts_0 : decode cX4_parts 0 = .ok (.aload_n 0, 1) := by decide +kernel
theorem dX4_parts_1 : decode cX4_parts 1 = .ok (.iload_n 1, 1) := by decide +kernel
theorem dX4_parts_2 : decode cX4_parts 2 = .ok (.invokevirtual 154, 3) := by decide +kernel
theorem dX4_parts_5 : decode cX4_parts 5 = .ok (.ifCond .eq 12, 3) := by decide +kernel
theorem dX4_parts_8 : decode cX4_parts 8 = .ok (.aload_n 0, 1) := by decide +kernel
theorem dX4_parts_9 : decode cX4_parts 9 = .ok (.getfield 36, 3) := by decide +kernel
theorem dX4_parts_12 : decode cX4_parts 12 = .ok (.iload_n 1, 1) := by decide +kernel
theorem dX4_parts_13 : decode cX4_parts 13 = .ok (.iaload, 1) := by decide +kernel
theorem dX4_parts_14 : decode cX4_parts 14 = .ok (.goto 4, 3) := by decide +kernel
theorem dX4_parts_17 : decode cX4_parts 17 = .ok (.iconst 0, 1) := by decide +kernel
theorem dX4_parts_18 : decode cX4_parts 18 = .ok (.ireturn, 1) := by decide +kernel
theorem dX4_dependents_0 : decode cX4_dependents 0 = .ok (.iconst 0, 1) := by decide +kernel
theorem dX4_dependents_1 : decode cX4_dependents 1 = .ok (.istore_n 2, 1) := by decide +kernel
theorem dX4_dependents_2 : decode cX4_dependents 2 = .ok (.aload_n 0, 1) := by decide +kernel
theorem dX4_dependents_3 : decode cX4_dependents 3 = .ok (.iload_n 1, 1) := by decide +kernel
theorem dX4_dependents_4 : decode cX4_dependents 4 = .ok (.invokevirtual 154, 3) := by decide +kernel
theorem dX4_dependents_7 : decode cX4_dependents 7 = .ok (.istore_n 3, 1) := by decide +kernel
theorem dX4_dependents_8 : decode cX4_dependents 8 = .ok (.iconst 0, 1) := by decide +kernel
theorem dX4_dependents_9 : decode cX4_dependents 9 = .ok (.istore 4, 2) := by decide +kernel
theorem dX4_dependents_11 : decode cX4_dependents 11 = .ok (.iload 4, 2) := by decide +kernel
theorem dX4_dependents_13 : decode cX4_dependents 13 = .ok (.aload_n 0, 1) := by decide +kernel
theorem dX4_dependents_14 : decode cX4_dependents 14 = .ok (.getfield 67, 3) := by decide +kernel
theorem dX4_dependents_17 : decode cX4_dependents 17 = .ok (.if_icmp .ge 74, 3) := by decide +kernel
theorem dX4_dependents_20 : decode cX4_dependents 20 = .ok (.iload_n 3, 1) := by decide +kernel
theorem dX4_dependents_21 : decode cX4_dependents 21 = .ok (.ifCond .eq 70, 3) := by decide +kernel
theorem dX4_dependents_24 : decode cX4_dependents 24 = .ok (.aload_n 0, 1) := by decide +kernel
theorem dX4_dependents_25 : decode cX4_dependents 25 = .ok (.getfield 24, 3) := by decide +kernel
theorem dX4_dependents_28 : decode cX4_dependents 28 = .ok (.iload 4, 2) := by decide +kernel
theorem dX4_dependents_30 : decode cX4_dependents 30 = .ok (.baload, 1) := by decide +kernel
theorem dX4_dependents_31 : decode cX4_dependents 31 = .ok (.ifCond .eq 13, 3) := by decide +kernel
theorem dX4_dependents_34 : decode cX4_dependents 34 = .ok (.aload_n 0, 1) := by decide +kernel
theorem dX4_dependents_35 : decode cX4_dependents 35 = .ok (.getfield 30, 3) := by decide +kernel
theorem dX4_dependents_38 : decode cX4_dependents 38 = .ok (.iload 4, 2) := by decide +kernel
theorem dX4_dependents_40 : decode cX4_dependents 40 = .ok (.iaload, 1) := by decide +kernel
theorem dX4_dependents_41 : decode cX4_dependents 41 = .ok (.goto 4, 3) := by decide +kernel
theorem dX4_dependents_44 : decode cX4_dependents 44 = .ok (.iconst (-1), 1) := by decide +kernel
theorem dX4_dependents_45 : decode cX4_dependents 45 = .ok (.istore 5, 2) := by decide +kernel
theorem dX4_dependents_47 : decode cX4_dependents 47 = .ok (.iload 5, 2) := by decide +kernel
theorem dX4_dependents_49 : decode cX4_dependents 49 = .ok (.iconst (-1), 1) := by decide +kernel
theorem dX4_dependents_50 : decode cX4_dependents 50 = .ok (.if_icmp .eq 21, 3) := by decide +kernel
theorem dX4_dependents_53 : decode cX4_dependents 53 = .ok (.iload 5, 2) := by decide +kernel
theorem dX4_dependents_55 : decode cX4_dependents 55 = .ok (.iload_n 1, 1) := by decide +kernel
theorem dX4_dependents_56 : decode cX4_dependents 56 = .ok (.if_icmp .eq 15, 3) := by decide +kernel
theorem dX4_dependents_59 : decode cX4_dependents 59 = .ok (.aload_n 0, 1) := by decide +kernel
theorem dX4_dependents_60 : decode cX4_dependents 60 = .ok (.getfield 30, 3) := by decide +kernel
theorem dX4_dependents_63 : decode cX4_dependents 63 = .ok (.iload 5, 2) := by decide +kernel
theorem dX4_dependents_65 : decode cX4_dependents 65 = .ok (.iaload, 1) := by decide +kernel
theorem dX4_dependents_66 : decode cX4_dependents 66 = .ok (.istore 5, 2) := by decide +kernel
theorem dX4_dependents_68 : decode cX4_dependents 68 = .ok (.goto (-21), 3) := by decide +kernel
theorem dX4_dependents_71 : decode cX4_dependents 71 = .ok (.iload_n 2, 1) := by decide +kernel
theorem dX4_dependents_72 : decode cX4_dependents 72 = .ok (.iload 5, 2) := by decide +kernel
theorem dX4_dependents_74 : decode cX4_dependents 74 = .ok (.iload_n 1, 1) := by decide +kernel
theorem dX4_dependents_75 : decode cX4_dependents 75 = .ok (.if_icmp .ne 7, 3) := by decide +kernel
theorem dX4_dependents_78 : decode cX4_dependents 78 = .ok (.iconst 1, 1) := by decide +kernel
theorem dX4_dependents_79 : decode cX4_dependents 79 = .ok (.goto 4, 3) := by decide +kernel
theorem dX4_dependents_82 : decode cX4_dependents 82 = .ok (.iconst 0, 1) := by decide +kernel
theorem dX4_dependents_83 : decode cX4_dependents 83 = .ok (.iadd, 1) := by decide +kernel
theorem dX4_dependents_84 : decode cX4_dependents 84 = .ok (.istore_n 2, 1) := by decide +kernel
theorem dX4_dependents_85 : decode cX4_dependents 85 = .ok (.iinc 4 1, 3) := by decide +kernel
theorem dX4_dependents_88 : decode cX4_dependents 88 = .ok (.goto (-77), 3) := by decide +kernel
theorem dX4_dependents_91 : decode cX4_dependents 91 = .ok (.iload_n 2, 1) := by decide +kernel
theorem dX4_dependents_92 : decode cX4_dependents 92 = .ok (.ireturn, 1) := by decide +kernel
theorem dX4_deltaCost_0 : decode cX4_deltaCost 0 = .ok (.aload_n 0, 1) := by decide +kernel
theorem dX4_deltaCost_1 : decode cX4_deltaCost 1 = .ok (.aload_n 0, 1) := by decide +kernel
theorem dX4_deltaCost_2 : decode cX4_deltaCost 2 = .ok (.iload_n 1, 1) := by decide +kernel
theorem dX4_deltaCost_3 : decode cX4_deltaCost 3 = .ok (.invokevirtual 107, 3) := by decide +kernel
theorem dX4_deltaCost_6 : decode cX4_deltaCost 6 = .ok (.ifCond .eq 15, 3) := by decide +kernel
theorem dX4_deltaCost_9 : decode cX4_deltaCost 9 = .ok (.aload_n 0, 1) := by decide +kernel
theorem dX4_deltaCost_10 : decode cX4_deltaCost 10 = .ok (.iload_n 2, 1) := by decide +kernel
theorem dX4_deltaCost_11 : decode cX4_deltaCost 11 = .ok (.invokevirtual 107, 3) := by decide +kernel
theorem dX4_deltaCost_14 : decode cX4_deltaCost 14 = .ok (.ifCond .eq 7, 3) := by decide +kernel
theorem dX4_deltaCost_17 : decode cX4_deltaCost 17 = .ok (.iconst 0, 1) := by decide +kernel
theorem dX4_deltaCost_18 : decode cX4_deltaCost 18 = .ok (.goto 4, 3) := by decide +kernel
theorem dX4_deltaCost_21 : decode cX4_deltaCost 21 = .ok (.iconst 1, 1) := by decide +kernel
theorem dX4_deltaCost_22 : decode cX4_deltaCost 22 = .ok (.invokevirtual 103, 3) := by decide +kernel
theorem dX4_deltaCost_25 : decode cX4_deltaCost 25 = .ok (.ifCond .eq 22, 3) := by decide +kernel
theorem dX4_deltaCost_28 : decode cX4_deltaCost 28 = .ok (.aload_n 0, 1) := by decide +kernel
theorem dX4_deltaCost_29 : decode cX4_deltaCost 29 = .ok (.aload_n 0, 1) := by decide +kernel
theorem dX4_deltaCost_30 : decode cX4_deltaCost 30 = .ok (.getfield 13, 3) := by decide +kernel
theorem dX4_deltaCost_33 : decode cX4_deltaCost 33 = .ok (.iload_n 1, 1) := by decide +kernel
theorem dX4_deltaCost_34 : decode cX4_deltaCost 34 = .ok (.laload, 1) := by decide +kernel
theorem dX4_deltaCost_35 : decode cX4_deltaCost 35 = .ok (.aload_n 0, 1) := by decide +kernel
theorem dX4_deltaCost_36 : decode cX4_deltaCost 36 = .ok (.getfield 13, 3) := by decide +kernel
theorem dX4_deltaCost_39 : decode cX4_deltaCost 39 = .ok (.iload_n 2, 1) := by decide +kernel
theorem dX4_deltaCost_40 : decode cX4_deltaCost 40 = .ok (.laload, 1) := by decide +kernel
theorem dX4_deltaCost_41 : decode cX4_deltaCost 41 = .ok (.invokevirtual 123, 3) := by decide +kernel
theorem dX4_deltaCost_44 : decode cX4_deltaCost 44 = .ok (.goto 4, 3) := by decide +kernel
theorem dX4_deltaCost_47 : decode cX4_deltaCost 47 = .ok (.iconst 0, 1) := by decide +kernel
theorem dX4_deltaCost_48 : decode cX4_deltaCost 48 = .ok (.ireturn, 1) := by decide +kernel
theorem dX4_hash_0 : decode cX4_hash 0 = .ok (.aload_n 0, 1) := by decide +kernel
theorem dX4_hash_1 : decode cX4_hash 1 = .ok (.lload_n 1, 1) := by decide +kernel
theorem dX4_hash_2 : decode cX4_hash 2 = .ok (.invokestatic 99, 3) := by decide +kernel
theorem dX4_hash_5 : decode cX4_hash 5 = .ok (.ifCond .eq 7, 3) := by decide +kernel
theorem dX4_hash_8 : decode cX4_hash 8 = .ok (.iconst 0, 1) := by decide +kernel
theorem dX4_hash_9 : decode cX4_hash 9 = .ok (.goto 4, 3) := by decide +kernel
theorem dX4_hash_12 : decode cX4_hash 12 = .ok (.iconst 1, 1) := by decide +kernel
theorem dX4_hash_13 : decode cX4_hash 13 = .ok (.invokevirtual 103, 3) := by decide +kernel
theorem dX4_hash_16 : decode cX4_hash 16 = .ok (.ifCond .eq 10, 3) := by decide +kernel
theorem dX4_hash_19 : decode cX4_hash 19 = .ok (.lload_n 1, 1) := by decide +kernel
theorem dX4_hash_20 : decode cX4_hash 20 = .ok (.invokestatic 157, 3) := by decide +kernel
theorem dX4_hash_23 : decode cX4_hash 23 = .ok (.goto 4, 3) := by decide +kernel
theorem dX4_hash_26 : decode cX4_hash 26 = .ok (.iconst 0, 1) := by decide +kernel
theorem dX4_hash_27 : decode cX4_hash 27 = .ok (.ireturn, 1) := by decide +kernel
theorem dX4_laysIndex_0 : decode cX4_laysIndex 0 = .ok (.iconst 0, 1) := by decide +kernel
theorem dX4_laysIndex_1 : decode cX4_laysIndex 1 = .ok (.istore_n 1, 1) := by decide +kernel
theorem dX4_laysIndex_2 : decode cX4_laysIndex 2 = .ok (.iconst 0, 1) := by decide +kernel
theorem dX4_laysIndex_3 : decode cX4_laysIndex 3 = .ok (.istore_n 2, 1) := by decide +kernel
theorem dX4_laysIndex_4 : decode cX4_laysIndex 4 = .ok (.iload_n 2, 1) := by decide +kernel
theorem dX4_laysIndex_5 : decode cX4_laysIndex 5 = .ok (.aload_n 0, 1) := by decide +kernel
theorem dX4_laysIndex_6 : decode cX4_laysIndex 6 = .ok (.getfield 67, 3) := by decide +kernel
theorem dX4_laysIndex_9 : decode cX4_laysIndex 9 = .ok (.if_icmp .ge 82, 3) := by decide +kernel
theorem dX4_laysIndex_12 : decode cX4_laysIndex 12 = .ok (.aload_n 0, 1) := by decide +kernel
theorem dX4_laysIndex_13 : decode cX4_laysIndex 13 = .ok (.getfield 24, 3) := by decide +kernel
theorem dX4_laysIndex_16 : decode cX4_laysIndex 16 = .ok (.iload_n 2, 1) := by decide +kernel
theorem dX4_laysIndex_17 : decode cX4_laysIndex 17 = .ok (.baload, 1) := by decide +kernel
theorem dX4_laysIndex_18 : decode cX4_laysIndex 18 = .ok (.ifCond .eq 67, 3) := by decide +kernel
theorem dX4_laysIndex_21 : decode cX4_laysIndex 21 = .ok (.iload_n 1, 1) := by decide +kernel
theorem dX4_laysIndex_22 : decode cX4_laysIndex 22 = .ok (.istore_n 3, 1) := by decide +kernel
theorem dX4_laysIndex_23 : decode cX4_laysIndex 23 = .ok (.iload_n 3, 1) := by decide +kernel
theorem dX4_laysIndex_24 : decode cX4_laysIndex 24 = .ok (.ifCond .le 51, 3) := by decide +kernel
theorem dX4_laysIndex_27 : decode cX4_laysIndex 27 = .ok (.aload_n 0, 1) := by decide +kernel
theorem dX4_laysIndex_28 : decode cX4_laysIndex 28 = .ok (.getfield 13, 3) := by decide +kernel
theorem dX4_laysIndex_31 : decode cX4_laysIndex 31 = .ok (.aload_n 0, 1) := by decide +kernel
theorem dX4_laysIndex_32 : decode cX4_laysIndex 32 = .ok (.getfield 60, 3) := by decide +kernel
theorem dX4_laysIndex_35 : decode cX4_laysIndex 35 = .ok (.iload_n 3, 1) := by decide +kernel
theorem dX4_laysIndex_36 : decode cX4_laysIndex 36 = .ok (.iconst 1, 1) := by decide +kernel
theorem dX4_laysIndex_37 : decode cX4_laysIndex 37 = .ok (.isub, 1) := by decide +kernel
theorem dX4_laysIndex_38 : decode cX4_laysIndex 38 = .ok (.iaload, 1) := by decide +kernel
theorem dX4_laysIndex_39 : decode cX4_laysIndex 39 = .ok (.laload, 1) := by decide +kernel
theorem dX4_laysIndex_40 : decode cX4_laysIndex 40 = .ok (.invokestatic 157, 3) := by decide +kernel
theorem dX4_laysIndex_43 : decode cX4_laysIndex 43 = .ok (.aload_n 0, 1) := by decide +kernel
theorem dX4_laysIndex_44 : decode cX4_laysIndex 44 = .ok (.getfield 13, 3) := by decide +kernel
theorem dX4_laysIndex_47 : decode cX4_laysIndex 47 = .ok (.iload_n 2, 1) := by decide +kernel
theorem dX4_laysIndex_48 : decode cX4_laysIndex 48 = .ok (.laload, 1) := by decide +kernel
theorem dX4_laysIndex_49 : decode cX4_laysIndex 49 = .ok (.invokestatic 157, 3) := by decide +kernel
theorem dX4_laysIndex_52 : decode cX4_laysIndex 52 = .ok (.if_icmp .le 23, 3) := by decide +kernel
theorem dX4_laysIndex_55 : decode cX4_laysIndex 55 = .ok (.aload_n 0, 1) := by decide +kernel
theorem dX4_laysIndex_56 : decode cX4_laysIndex 56 = .ok (.getfield 60, 3) := by decide +kernel
theorem dX4_laysIndex_59 : decode cX4_laysIndex 59 = .ok (.iload_n 3, 1) := by decide +kernel
theorem dX4_laysIndex_60 : decode cX4_laysIndex 60 = .ok (.aload_n 0, 1) := by decide +kernel
theorem dX4_laysIndex_61 : decode cX4_laysIndex 61 = .ok (.getfield 60, 3) := by decide +kernel
theorem dX4_laysIndex_64 : decode cX4_laysIndex 64 = .ok (.iload_n 3, 1) := by decide +kernel
theorem dX4_laysIndex_65 : decode cX4_laysIndex 65 = .ok (.iconst 1, 1) := by decide +kernel
theorem dX4_laysIndex_66 : decode cX4_laysIndex 66 = .ok (.isub, 1) := by decide +kernel
theorem dX4_laysIndex_67 : decode cX4_laysIndex 67 = .ok (.iaload, 1) := by decide +kernel
theorem dX4_laysIndex_68 : decode cX4_laysIndex 68 = .ok (.iastore, 1) := by decide +kernel
theorem dX4_laysIndex_69 : decode cX4_laysIndex 69 = .ok (.iinc 3 (-1), 3) := by decide +kernel
theorem dX4_laysIndex_72 : decode cX4_laysIndex 72 = .ok (.goto (-49), 3) := by decide +kernel
theorem dX4_laysIndex_75 : decode cX4_laysIndex 75 = .ok (.aload_n 0, 1) := by decide +kernel
theorem dX4_laysIndex_76 : decode cX4_laysIndex 76 = .ok (.getfield 60, 3) := by decide +kernel
theorem dX4_laysIndex_79 : decode cX4_laysIndex 79 = .ok (.iload_n 3, 1) := by decide +kernel
theorem dX4_laysIndex_80 : decode cX4_laysIndex 80 = .ok (.iload_n 2, 1) := by decide +kernel
theorem dX4_laysIndex_81 : decode cX4_laysIndex 81 = .ok (.iastore, 1) := by decide +kernel
theorem dX4_laysIndex_82 : decode cX4_laysIndex 82 = .ok (.iinc 1 1, 3) := by decide +kernel
theorem dX4_laysIndex_85 : decode cX4_laysIndex 85 = .ok (.iinc 2 1, 3) := by decide +kernel
theorem dX4_laysIndex_88 : decode cX4_laysIndex 88 = .ok (.goto (-84), 3) := by decide +kernel
theorem dX4_laysIndex_91 : decode cX4_laysIndex 91 = .ok (.iload_n 1, 1) := by decide +kernel
theorem dX4_laysIndex_92 : decode cX4_laysIndex 92 = .ok (.ireturn, 1) := by decide +kernel
theorem dX4_indexAt_0 : decode cX4_indexAt 0 = .ok (.aload_n 0, 1) := by decide +kernel
theorem dX4_indexAt_1 : decode cX4_indexAt 1 = .ok (.invokevirtual 160, 3) := by decide +kernel
theorem dX4_indexAt_4 : decode cX4_indexAt 4 = .ok (.istore_n 2, 1) := by decide +kernel
theorem dX4_indexAt_5 : decode cX4_indexAt 5 = .ok (.aload_n 0, 1) := by decide +kernel
theorem dX4_indexAt_6 : decode cX4_indexAt 6 = .ok (.iload_n 1, 1) := by decide +kernel
theorem dX4_indexAt_7 : decode cX4_indexAt 7 = .ok (.iconst 0, 1) := by decide +kernel
theorem dX4_indexAt_8 : decode cX4_indexAt 8 = .ok (.iload_n 2, 1) := by decide +kernel
theorem dX4_indexAt_9 : decode cX4_indexAt 9 = .ok (.iconst 1, 1) := by decide +kernel
theorem dX4_indexAt_10 : decode cX4_indexAt 10 = .ok (.isub, 1) := by decide +kernel
theorem dX4_indexAt_11 : decode cX4_indexAt 11 = .ok (.invokestatic 70, 3) := by decide +kernel
theorem dX4_indexAt_14 : decode cX4_indexAt 14 = .ok (.ifCond .eq 7, 3) := by decide +kernel
theorem dX4_indexAt_17 : decode cX4_indexAt 17 = .ok (.iconst 0, 1) := by decide +kernel
theorem dX4_indexAt_18 : decode cX4_indexAt 18 = .ok (.goto 4, 3) := by decide +kernel
theorem dX4_indexAt_21 : decode cX4_indexAt 21 = .ok (.iconst 1, 1) := by decide +kernel
theorem dX4_indexAt_22 : decode cX4_indexAt 22 = .ok (.invokevirtual 103, 3) := by decide +kernel
theorem dX4_indexAt_25 : decode cX4_indexAt 25 = .ok (.ifCond .eq 12, 3) := by decide +kernel
theorem dX4_indexAt_28 : decode cX4_indexAt 28 = .ok (.aload_n 0, 1) := by decide +kernel
theorem dX4_indexAt_29 : decode cX4_indexAt 29 = .ok (.getfield 60, 3) := by decide +kernel
theorem dX4_indexAt_32 : decode cX4_indexAt 32 = .ok (.iload_n 1, 1) := by decide +kernel
theorem dX4_indexAt_33 : decode cX4_indexAt 33 = .ok (.iaload, 1) := by decide +kernel
theorem dX4_indexAt_34 : decode cX4_indexAt 34 = .ok (.goto 4, 3) := by decide +kernel
theorem dX4_indexAt_37 : decode cX4_indexAt 37 = .ok (.iconst 0, 1) := by decide +kernel
theorem dX4_indexAt_38 : decode cX4_indexAt 38 = .ok (.ireturn, 1) := by decide +kernel
theorem dX4_below_0 : decode cX4_below 0 = .ok (.iconst 0, 1) := by decide +kernel
theorem dX4_below_1 : decode cX4_below 1 = .ok (.istore_n 2, 1) := by decide +kernel
theorem dX4_below_2 : decode cX4_below 2 = .ok (.iconst 0, 1) := by decide +kernel
theorem dX4_below_3 : decode cX4_below 3 = .ok (.istore_n 3, 1) := by decide +kernel
theorem dX4_below_4 : decode cX4_below 4 = .ok (.iload_n 3, 1) := by decide +kernel
theorem dX4_below_5 : decode cX4_below 5 = .ok (.aload_n 0, 1) := by decide +kernel
theorem dX4_below_6 : decode cX4_below 6 = .ok (.getfield 67, 3) := by decide +kernel
theorem dX4_below_9 : decode cX4_below 9 = .ok (.if_icmp .ge 39, 3) := by decide +kernel
theorem dX4_below_12 : decode cX4_below 12 = .ok (.iload_n 2, 1) := by decide +kernel
theorem dX4_below_13 : decode cX4_below 13 = .ok (.aload_n 0, 1) := by decide +kernel
theorem dX4_below_14 : decode cX4_below 14 = .ok (.getfield 24, 3) := by decide +kernel
theorem dX4_below_17 : decode cX4_below 17 = .ok (.iload_n 3, 1) := by decide +kernel
theorem dX4_below_18 : decode cX4_below 18 = .ok (.baload, 1) := by decide +kernel
theorem dX4_below_19 : decode cX4_below 19 = .ok (.ifCond .eq 20, 3) := by decide +kernel
theorem dX4_below_22 : decode cX4_below 22 = .ok (.aload_n 0, 1) := by decide +kernel
theorem dX4_below_23 : decode cX4_below 23 = .ok (.getfield 13, 3) := by decide +kernel
theorem dX4_below_26 : decode cX4_below 26 = .ok (.iload_n 3, 1) := by decide +kernel
theorem dX4_below_27 : decode cX4_below 27 = .ok (.laload, 1) := by decide +kernel
theorem dX4_below_28 : decode cX4_below 28 = .ok (.invokestatic 157, 3) := by decide +kernel
theorem dX4_below_31 : decode cX4_below 31 = .ok (.iload_n 1, 1) := by decide +kernel
theorem dX4_below_32 : decode cX4_below 32 = .ok (.if_icmp .ge 7, 3) := by decide +kernel
theorem dX4_below_35 : decode cX4_below 35 = .ok (.iconst 1, 1) := by decide +kernel
theorem dX4_below_36 : decode cX4_below 36 = .ok (.goto 4, 3) := by decide +kernel
theorem dX4_below_39 : decode cX4_below 39 = .ok (.iconst 0, 1) := by decide +kernel
theorem dX4_below_40 : decode cX4_below 40 = .ok (.iadd, 1) := by decide +kernel
theorem dX4_below_41 : decode cX4_below 41 = .ok (.istore_n 2, 1) := by decide +kernel
theorem dX4_below_42 : decode cX4_below 42 = .ok (.iinc 3 1, 3) := by decide +kernel
theorem dX4_below_45 : decode cX4_below 45 = .ok (.goto (-41), 3) := by decide +kernel
theorem dX4_below_48 : decode cX4_below 48 = .ok (.iload_n 2, 1) := by decide +kernel
theorem dX4_below_49 : decode cX4_below 49 = .ok (.ireturn, 1) := by decide +kernel
theorem dX4_fanOut_0 : decode cX4_fanOut 0 = .ok (.aload_n 0, 1) := by decide +kernel
theorem dX4_fanOut_1 : decode cX4_fanOut 1 = .ok (.iload_n 1, 1) := by decide +kernel
theorem dX4_fanOut_2 : decode cX4_fanOut 2 = .ok (.iconst 0, 1) := by decide +kernel
theorem dX4_fanOut_3 : decode cX4_fanOut 3 = .ok (.bipush 15, 2) := by decide +kernel
theorem dX4_fanOut_5 : decode cX4_fanOut 5 = .ok (.invokestatic 70, 3) := by decide +kernel
theorem dX4_fanOut_8 : decode cX4_fanOut 8 = .ok (.ifCond .eq 7, 3) := by decide +kernel
theorem dX4_fanOut_11 : decode cX4_fanOut 11 = .ok (.iconst 0, 1) := by decide +kernel
theorem dX4_fanOut_12 : decode cX4_fanOut 12 = .ok (.goto 4, 3) := by decide +kernel
theorem dX4_fanOut_15 : decode cX4_fanOut 15 = .ok (.iconst 1, 1) := by decide +kernel
theorem dX4_fanOut_16 : decode cX4_fanOut 16 = .ok (.invokevirtual 103, 3) := by decide +kernel
theorem dX4_fanOut_19 : decode cX4_fanOut 19 = .ok (.ifCond .eq 17, 3) := by decide +kernel
theorem dX4_fanOut_22 : decode cX4_fanOut 22 = .ok (.aload_n 0, 1) := by decide +kernel
theorem dX4_fanOut_23 : decode cX4_fanOut 23 = .ok (.sipush 256, 3) := by decide +kernel
theorem dX4_fanOut_26 : decode cX4_fanOut 26 = .ok (.iload_n 1, 1) := by decide +kernel
theorem dX4_fanOut_27 : decode cX4_fanOut 27 = .ok (.iconst 1, 1) := by decide +kernel
theorem dX4_fanOut_28 : decode cX4_fanOut 28 = .ok (.iadd, 1) := by decide +kernel
theorem dX4_fanOut_29 : decode cX4_fanOut 29 = .ok (.imul, 1) := by decide +kernel
theorem dX4_fanOut_30 : decode cX4_fanOut 30 = .ok (.invokevirtual 163, 3) := by decide +kernel
theorem dX4_fanOut_33 : decode cX4_fanOut 33 = .ok (.goto 4, 3) := by decide +kernel
theorem dX4_fanOut_36 : decode cX4_fanOut 36 = .ok (.iconst 0, 1) := by decide +kernel
theorem dX4_fanOut_37 : decode cX4_fanOut 37 = .ok (.ireturn, 1) := by decide +kernel
theorem dX4_looksUp_0 : decode cX4_looksUp 0 = .ok (.aload_n 0, 1) := by decide +kernel
theorem dX4_looksUp_1 : decode cX4_looksUp 1 = .ok (.invokevirtual 160, 3) := by decide +kernel
theorem dX4_looksUp_4 : decode cX4_looksUp 4 = .ok (.istore_n 2, 1) := by decide +kernel
theorem dX4_looksUp_5 : decode cX4_looksUp 5 = .ok (.aload_n 0, 1) := by decide +kernel
theorem dX4_looksUp_6 : decode cX4_looksUp 6 = .ok (.iload_n 1, 1) := by decide +kernel
theorem dX4_looksUp_7 : decode cX4_looksUp 7 = .ok (.sipush 256, 3) := by decide +kernel
theorem dX4_looksUp_10 : decode cX4_looksUp 10 = .ok (.idiv, 1) := by decide +kernel
theorem dX4_looksUp_11 : decode cX4_looksUp 11 = .ok (.sipush 256, 3) := by decide +kernel
theorem dX4_looksUp_14 : decode cX4_looksUp 14 = .ok (.imul, 1) := by decide +kernel
theorem dX4_looksUp_15 : decode cX4_looksUp 15 = .ok (.invokevirtual 163, 3) := by decide +kernel
theorem dX4_looksUp_18 : decode cX4_looksUp 18 = .ok (.istore_n 3, 1) := by decide +kernel
theorem dX4_looksUp_19 : decode cX4_looksUp 19 = .ok (.aload_n 0, 1) := by decide +kernel
theorem dX4_looksUp_20 : decode cX4_looksUp 20 = .ok (.iload_n 1, 1) := by decide +kernel
theorem dX4_looksUp_21 : decode cX4_looksUp 21 = .ok (.sipush 256, 3) := by decide +kernel
theorem dX4_looksUp_24 : decode cX4_looksUp 24 = .ok (.idiv, 1) := by decide +kernel
theorem dX4_looksUp_25 : decode cX4_looksUp 25 = .ok (.sipush 256, 3) := by decide +kernel
theorem dX4_looksUp_28 : decode cX4_looksUp 28 = .ok (.imul, 1) := by decide +kernel
theorem dX4_looksUp_29 : decode cX4_looksUp 29 = .ok (.sipush 256, 3) := by decide +kernel
theorem dX4_looksUp_32 : decode cX4_looksUp 32 = .ok (.iadd, 1) := by decide +kernel
theorem dX4_looksUp_33 : decode cX4_looksUp 33 = .ok (.invokevirtual 163, 3) := by decide +kernel
theorem dX4_looksUp_36 : decode cX4_looksUp 36 = .ok (.istore 4, 2) := by decide +kernel
theorem dX4_looksUp_38 : decode cX4_looksUp 38 = .ok (.aload_n 0, 1) := by decide +kernel
theorem dX4_looksUp_39 : decode cX4_looksUp 39 = .ok (.iconst 0, 1) := by decide +kernel
theorem dX4_looksUp_40 : decode cX4_looksUp 40 = .ok (.putfield 167, 3) := by decide +kernel
theorem dX4_looksUp_43 : decode cX4_looksUp 43 = .ok (.iload_n 3, 1) := by decide +kernel
theorem dX4_looksUp_44 : decode cX4_looksUp 44 = .ok (.iload 4, 2) := by decide +kernel
theorem dX4_looksUp_46 : decode cX4_looksUp 46 = .ok (.if_icmp .ge 85, 3) := by decide +kernel
theorem dX4_looksUp_49 : decode cX4_looksUp 49 = .ok (.iload_n 3, 1) := by decide +kernel
theorem dX4_looksUp_50 : decode cX4_looksUp 50 = .ok (.iload 4, 2) := by decide +kernel
theorem dX4_looksUp_52 : decode cX4_looksUp 52 = .ok (.iadd, 1) := by decide +kernel
theorem dX4_looksUp_53 : decode cX4_looksUp 53 = .ok (.iconst 2, 1) := by decide +kernel
theorem dX4_looksUp_54 : decode cX4_looksUp 54 = .ok (.idiv, 1) := by decide +kernel
theorem dX4_looksUp_55 : decode cX4_looksUp 55 = .ok (.istore 5, 2) := by decide +kernel
theorem dX4_looksUp_57 : decode cX4_looksUp 57 = .ok (.aload_n 0, 1) := by decide +kernel
theorem dX4_looksUp_58 : decode cX4_looksUp 58 = .ok (.getfield 13, 3) := by decide +kernel
theorem dX4_looksUp_61 : decode cX4_looksUp 61 = .ok (.aload_n 0, 1) := by decide +kernel
theorem dX4_looksUp_62 : decode cX4_looksUp 62 = .ok (.getfield 60, 3) := by decide +kernel
theorem dX4_looksUp_65 : decode cX4_looksUp 65 = .ok (.iload 5, 2) := by decide +kernel
theorem dX4_looksUp_67 : decode cX4_looksUp 67 = .ok (.iaload, 1) := by decide +kernel
theorem dX4_looksUp_68 : decode cX4_looksUp 68 = .ok (.laload, 1) := by decide +kernel
theorem dX4_looksUp_69 : decode cX4_looksUp 69 = .ok (.invokestatic 157, 3) := by decide +kernel
theorem dX4_looksUp_72 : decode cX4_looksUp 72 = .ok (.istore 6, 2) := by decide +kernel
theorem dX4_looksUp_74 : decode cX4_looksUp 74 = .ok (.aload_n 0, 1) := by decide +kernel
theorem dX4_looksUp_75 : decode cX4_looksUp 75 = .ok (.dup, 1) := by decide +kernel
theorem dX4_looksUp_76 : decode cX4_looksUp 76 = .ok (.getfield 167, 3) := by decide +kernel
theorem dX4_looksUp_79 : decode cX4_looksUp 79 = .ok (.iconst 1, 1) := by decide +kernel
theorem dX4_looksUp_80 : decode cX4_looksUp 80 = .ok (.iadd, 1) := by decide +kernel
theorem dX4_looksUp_81 : decode cX4_looksUp 81 = .ok (.putfield 167, 3) := by decide +kernel
theorem dX4_looksUp_84 : decode cX4_looksUp 84 = .ok (.iload 6, 2) := by decide +kernel
theorem dX4_looksUp_86 : decode cX4_looksUp 86 = .ok (.iload_n 1, 1) := by decide +kernel
theorem dX4_looksUp_87 : decode cX4_looksUp 87 = .ok (.if_icmp .ne 11, 3) := by decide +kernel
theorem dX4_looksUp_90 : decode cX4_looksUp 90 = .ok (.aload_n 0, 1) := by decide +kernel
theorem dX4_looksUp_91 : decode cX4_looksUp 91 = .ok (.getfield 60, 3) := by decide +kernel
theorem dX4_looksUp_94 : decode cX4_looksUp 94 = .ok (.iload 5, 2) := by decide +kernel
theorem dX4_looksUp_96 : decode cX4_looksUp 96 = .ok (.iaload, 1) := by decide +kernel
theorem dX4_looksUp_97 : decode cX4_looksUp 97 = .ok (.ireturn, 1) := by decide +kernel
theorem dX4_looksUp_98 : decode cX4_looksUp 98 = .ok (.iload 6, 2) := by decide +kernel
theorem dX4_looksUp_100 : decode cX4_looksUp 100 = .ok (.iload_n 1, 1) := by decide +kernel
theorem dX4_looksUp_101 : decode cX4_looksUp 101 = .ok (.if_icmp .ge 10, 3) := by decide +kernel
theorem dX4_looksUp_104 : decode cX4_looksUp 104 = .ok (.iload 5, 2) := by decide +kernel
theorem dX4_looksUp_106 : decode cX4_looksUp 106 = .ok (.iconst 1, 1) := by decide +kernel
theorem dX4_looksUp_107 : decode cX4_looksUp 107 = .ok (.iadd, 1) := by decide +kernel
theorem dX4_looksUp_108 : decode cX4_looksUp 108 = .ok (.goto 4, 3) := by decide +kernel
theorem dX4_looksUp_111 : decode cX4_looksUp 111 = .ok (.iload_n 3, 1) := by decide +kernel
theorem dX4_looksUp_112 : decode cX4_looksUp 112 = .ok (.istore_n 3, 1) := by decide +kernel
theorem dX4_looksUp_113 : decode cX4_looksUp 113 = .ok (.iload 6, 2) := by decide +kernel
theorem dX4_looksUp_115 : decode cX4_looksUp 115 = .ok (.iload_n 1, 1) := by decide +kernel
theorem dX4_looksUp_116 : decode cX4_looksUp 116 = .ok (.if_icmp .ge 8, 3) := by decide +kernel
theorem dX4_looksUp_119 : decode cX4_looksUp 119 = .ok (.iload 4, 2) := by decide +kernel
theorem dX4_looksUp_121 : decode cX4_looksUp 121 = .ok (.goto 5, 3) := by decide +kernel
theorem dX4_looksUp_124 : decode cX4_looksUp 124 = .ok (.iload 5, 2) := by decide +kernel
theorem dX4_looksUp_126 : decode cX4_looksUp 126 = .ok (.istore 4, 2) := by decide +kernel
theorem dX4_looksUp_128 : decode cX4_looksUp 128 = .ok (.goto (-85), 3) := by decide +kernel
theorem dX4_looksUp_131 : decode cX4_looksUp 131 = .ok (.iconst (-1), 1) := by decide +kernel
theorem dX4_looksUp_132 : decode cX4_looksUp 132 = .ok (.ireturn, 1) := by decide +kernel
theorem dX4_asksHash_0 : decode cX4_asksHash 0 = .ok (.aload_n 0, 1) := by decide +kernel
theorem dX4_asksHash_1 : decode cX4_asksHash 1 = .ok (.iload_n 1, 1) := by decide +kernel
theorem dX4_asksHash_2 : decode cX4_asksHash 2 = .ok (.iconst 0, 1) := by decide +kernel
theorem dX4_asksHash_3 : decode cX4_asksHash 3 = .ok (.sipush 4095, 3) := by decide +kernel
theorem dX4_asksHash_6 : decode cX4_asksHash 6 = .ok (.invokestatic 70, 3) := by decide +kernel
theorem dX4_asksHash_9 : decode cX4_asksHash 9 = .ok (.ifCond .eq 7, 3) := by decide +kernel
theorem dX4_asksHash_12 : decode cX4_asksHash 12 = .ok (.iconst 0, 1) := by decide +kernel
theorem dX4_asksHash_13 : decode cX4_asksHash 13 = .ok (.goto 4, 3) := by decide +kernel
theorem dX4_asksHash_16 : decode cX4_asksHash 16 = .ok (.iconst 1, 1) := by decide +kernel
theorem dX4_asksHash_17 : decode cX4_asksHash 17 = .ok (.invokevirtual 103, 3) := by decide +kernel
theorem dX4_asksHash_20 : decode cX4_asksHash 20 = .ok (.ireturn, 1) := by decide +kernel
theorem dX4_find_0 : decode cX4_find 0 = .ok (.aload_n 0, 1) := by decide +kernel
theorem dX4_find_1 : decode cX4_find 1 = .ok (.iload_n 1, 1) := by decide +kernel
theorem dX4_find_2 : decode cX4_find 2 = .ok (.invokevirtual 170, 3) := by decide +kernel
theorem dX4_find_5 : decode cX4_find 5 = .ok (.ifCond .eq 11, 3) := by decide +kernel
theorem dX4_find_8 : decode cX4_find 8 = .ok (.aload_n 0, 1) := by decide +kernel
theorem dX4_find_9 : decode cX4_find 9 = .ok (.iload_n 1, 1) := by decide +kernel
theorem dX4_find_10 : decode cX4_find 10 = .ok (.invokevirtual 173, 3) := by decide +kernel
theorem dX4_find_13 : decode cX4_find 13 = .ok (.goto 4, 3) := by decide +kernel
theorem dX4_find_16 : decode cX4_find 16 = .ok (.iconst 0, 1) := by decide +kernel
theorem dX4_find_17 : decode cX4_find 17 = .ok (.ireturn, 1) := by decide +kernel
theorem dX4_looks_0 : decode cX4_looks 0 = .ok (.aload_n 0, 1) := by decide +kernel
theorem dX4_looks_1 : decode cX4_looks 1 = .ok (.iload_n 1, 1) := by decide +kernel
theorem dX4_looks_2 : decode cX4_looks 2 = .ok (.invokevirtual 170, 3) := by decide +kernel
theorem dX4_looks_5 : decode cX4_looks 5 = .ok (.ifCond .ne 5, 3) := by decide +kernel
theorem dX4_looks_8 : decode cX4_looks 8 = .ok (.iconst 0, 1) := by decide +kernel
theorem dX4_looks_9 : decode cX4_looks 9 = .ok (.ireturn, 1) := by decide +kernel
theorem dX4_looks_10 : decode cX4_looks 10 = .ok (.aload_n 0, 1) := by decide +kernel
theorem dX4_looks_11 : decode cX4_looks 11 = .ok (.iload_n 1, 1) := by decide +kernel
theorem dX4_looks_12 : decode cX4_looks 12 = .ok (.invokevirtual 173, 3) := by decide +kernel
theorem dX4_looks_15 : decode cX4_looks 15 = .ok (.istore_n 2, 1) := by decide +kernel
theorem dX4_looks_16 : decode cX4_looks 16 = .ok (.aload_n 0, 1) := by decide +kernel
theorem dX4_looks_17 : decode cX4_looks 17 = .ok (.getfield 167, 3) := by decide +kernel
theorem dX4_looks_20 : decode cX4_looks 20 = .ok (.ireturn, 1) := by decide +kernel
