theorem dX0_init_0 : decode cX0_init 0 = .ok (.aload_n 0, 1) := by decide +kernel
theorem dX0_init_1 : decode cX0_init 1 = .ok (.invokespecial 1, 3) := by decide +kernel
theorem dX0_init_4 : decode cX0_init 4 = .ok (.aload_n 0, 1) := by decide +kernel
theorem dX0_init_5 : decode cX0_init 5 = .ok (.aload_n 1, 1) := by decide +kernel
theorem dX0_init_6 : decode cX0_init 6 = .ok (.putfield 7, 3) := by decide +kernel
theorem dX0_init_9 : decode cX0_init 9 = .ok (.aload_n 0, 1) := by decide +kernel
theorem dX0_init_10 : decode cX0_init 10 = .ok (.iload_n 2, 1) := by decide +kernel
theorem dX0_init_11 : decode cX0_init 11 = .ok (.putfield 13, 3) := by decide +kernel
theorem dX0_init_14 : decode cX0_init 14 = .ok (.aload_n 0, 1) := by decide +kernel
theorem dX0_init_15 : decode cX0_init 15 = .ok (.iload_n 3, 1) := by decide +kernel
theorem dX0_init_16 : decode cX0_init 16 = .ok (.putfield 17, 3) := by decide +kernel
theorem dX0_init_19 : decode cX0_init 19 = .ok (.aload_n 0, 1) := by decide +kernel
theorem dX0_init_20 : decode cX0_init 20 = .ok (.iload 4, 2) := by decide +kernel
theorem dX0_init_22 : decode cX0_init 22 = .ok (.putfield 20, 3) := by decide +kernel
theorem dX0_init_25 : decode cX0_init 25 = .ok (.aload_n 0, 1) := by decide +kernel
theorem dX0_init_26 : decode cX0_init 26 = .ok (.iconst 0, 1) := by decide +kernel
theorem dX0_init_27 : decode cX0_init 27 = .ok (.putfield 23, 3) := by decide +kernel
theorem dX0_init_30 : decode cX0_init 30 = .ok (.return_, 1) := by decide +kernel
theorem dX1_init_0 : decode cX1_init 0 = .ok (.aload_n 0, 1) := by decide +kernel
theorem dX1_init_1 : decode cX1_init 1 = .ok (.invokespecial 1, 3) := by decide +kernel
theorem dX1_init_4 : decode cX1_init 4 = .ok (.aload_n 0, 1) := by decide +kernel
theorem dX1_init_5 : decode cX1_init 5 = .ok (.iload_n 1, 1) := by decide +kernel
theorem dX1_init_6 : decode cX1_init 6 = .ok (.putfield 7, 3) := by decide +kernel
theorem dX1_init_9 : decode cX1_init 9 = .ok (.aload_n 0, 1) := by decide +kernel
theorem dX1_init_10 : decode cX1_init 10 = .ok (.iload_n 2, 1) := by decide +kernel
theorem dX1_init_11 : decode cX1_init 11 = .ok (.putfield 13, 3) := by decide +kernel
theorem dX1_init_14 : decode cX1_init 14 = .ok (.aload_n 0, 1) := by decide +kernel
theorem dX1_init_15 : decode cX1_init 15 = .ok (.lload_n 3, 1) := by decide +kernel
theorem dX1_init_16 : decode cX1_init 16 = .ok (.putfield 16, 3) := by decide +kernel
theorem dX1_init_19 : decode cX1_init 19 = .ok (.aload_n 0, 1) := by decide +kernel
theorem dX1_init_20 : decode cX1_init 20 = .ok (.lload_n 3, 1) := by decide +kernel
theorem dX1_init_21 : decode cX1_init 21 = .ok (.invokestatic 20, 3) := by decide +kernel
theorem dX1_init_24 : decode cX1_init 24 = .ok (.putfield 26, 3) := by decide +kernel
theorem dX1_init_27 : decode cX1_init 27 = .ok (.aload_n 0, 1) := by decide +kernel
theorem dX1_init_28 : decode cX1_init 28 = .ok (.lload_n 3, 1) := by decide +kernel
theorem dX1_init_29 : decode cX1_init 29 = .ok (.invokestatic 29, 3) := by decide +kernel
theorem dX1_init_32 : decode cX1_init 32 = .ok (.putfield 32, 3) := by decide +kernel
theorem dX1_init_35 : decode cX1_init 35 = .ok (.aload_n 0, 1) := by decide +kernel
theorem dX1_init_36 : decode cX1_init 36 = .ok (.iconst 1, 1) := by decide +kernel
theorem dX1_init_37 : decode cX1_init 37 = .ok (.putfield 35, 3) := by decide +kernel
theorem dX1_init_40 : decode cX1_init 40 = .ok (.aload_n 0, 1) := by decide +kernel
theorem dX1_init_41 : decode cX1_init 41 = .ok (.iconst 1, 1) := by decide +kernel
theorem dX1_init_42 : decode cX1_init 42 = .ok (.putfield 39, 3) := by decide +kernel
theorem dX1_init_45 : decode cX1_init 45 = .ok (.aload_n 0, 1) := by decide +kernel
theorem dX1_init_46 : decode cX1_init 46 = .ok (.aconst_null, 1) := by decide +kernel
theorem dX1_init_47 : decode cX1_init 47 = .ok (.putfield 42, 3) := by decide +kernel
theorem dX1_init_50 : decode cX1_init 50 = .ok (.aload_n 0, 1) := by decide +kernel
theorem dX1_init_51 : decode cX1_init 51 = .ok (.aconst_null, 1) := by decide +kernel
theorem dX1_init_52 : decode cX1_init 52 = .ok (.putfield 46, 3) := by decide +kernel
theorem dX1_init_55 : decode cX1_init 55 = .ok (.return_, 1) := by decide +kernel
theorem dX1_letter_0 : decode cX1_letter 0 = .ok (.aload_n 0, 1) := by decide +kernel
theorem dX1_letter_1 : decode cX1_letter 1 = .ok (.getfield 16, 3) := by decide +kernel
theorem dX1_letter_4 : decode cX1_letter 4 = .ok (.aload_n 0, 1) := by decide +kernel
theorem dX1_letter_5 : decode cX1_letter 5 = .ok (.getfield 26, 3) := by decide +kernel
theorem dX1_letter_8 : decode cX1_letter 8 = .ok (.iload_n 1, 1) := by decide +kernel
theorem dX1_letter_9 : decode cX1_letter 9 = .ok (.invokestatic 49, 3) := by decide +kernel
theorem dX1_letter_12 : decode cX1_letter 12 = .ok (.ireturn, 1) := by decide +kernel
theorem dX1_isReadable_0 : decode cX1_isReadable 0 = .ok (.aload_n 0, 1) := by decide +kernel
theorem dX1_isReadable_1 : decode cX1_isReadable 1 = .ok (.getfield 35, 3) := by decide +kernel
theorem dX1_isReadable_4 : decode cX1_isReadable 4 = .ok (.ifCond .eq 21, 3) := by decide +kernel
theorem dX1_isReadable_7 : decode cX1_isReadable 7 = .ok (.aload_n 0, 1) := by decide +kernel
theorem dX1_isReadable_8 : decode cX1_isReadable 8 = .ok (.getfield 39, 3) := by decide +kernel
theorem dX1_isReadable_11 : decode cX1_isReadable 11 = .ok (.ifCond .ne 10, 3) := by decide +kernel
theorem dX1_isReadable_14 : decode cX1_isReadable 14 = .ok (.aload_n 0, 1) := by decide +kernel
theorem dX1_isReadable_15 : decode cX1_isReadable 15 = .ok (.invokevirtual 53, 3) := by decide +kernel
theorem dX1_isReadable_18 : decode cX1_isReadable 18 = .ok (.ifCond .eq 7, 3) := by decide +kernel
theorem dX1_isReadable_21 : decode cX1_isReadable 21 = .ok (.iconst 1, 1) := by decide +kernel
theorem dX1_isReadable_22 : decode cX1_isReadable 22 = .ok (.goto 4, 3) := by decide +kernel
theorem dX1_isReadable_25 : decode cX1_isReadable 25 = .ok (.iconst 0, 1) := by decide +kernel
theorem dX1_isReadable_26 : decode cX1_isReadable 26 = .ok (.ireturn, 1) := by decide +kernel
theorem dX1_isReadableFromPack_0 : decode cX1_isReadableFromPack 0 = .ok (.aload_n 0, 1) := by decide +kernel
theorem dX1_isReadableFromPack_1 : decode cX1_isReadableFromPack 1 = .ok (.astore_n 1, 1) := by decide +kernel
theorem dX1_isReadableFromPack_2 : decode cX1_isReadableFromPack 2 = .ok (.aload_n 1, 1) := by decide +kernel
theorem dX1_isReadableFromPack_3 : decode cX1_isReadableFromPack 3 = .ok (.ifnull 30, 3) := by decide +kernel
theorem dX1_isReadableFromPack_6 : decode cX1_isReadableFromPack 6 = .ok (.aload_n 1, 1) := by decide +kernel
theorem dX1_isReadableFromPack_7 : decode cX1_isReadableFromPack 7 = .ok (.getfield 42, 3) := by decide +kernel
theorem dX1_isReadableFromPack_10 : decode cX1_isReadableFromPack 10 = .ok (.ifnull 13, 3) := by decide +kernel
theorem dX1_isReadableFromPack_13 : decode cX1_isReadableFromPack 13 = .ok (.aload_n 1, 1) := by decide +kernel
theorem dX1_isReadableFromPack_14 : decode cX1_isReadableFromPack 14 = .ok (.getfield 42, 3) := by decide +kernel
theorem dX1_isReadableFromPack_17 : decode cX1_isReadableFromPack 17 = .ok (.getfield 57, 3) := by decide +kernel
theorem dX1_isReadableFromPack_20 : decode cX1_isReadableFromPack 20 = .ok (.ifCond .eq 5, 3) := by decide +kernel
theorem dX1_isReadableFromPack_23 : decode cX1_isReadableFromPack 23 = .ok (.iconst 0, 1) := by decide +kernel
theorem dX1_isReadableFromPack_24 : decode cX1_isReadableFromPack 24 = .ok (.ireturn, 1) := by decide +kernel
theorem dX1_isReadableFromPack_25 : decode cX1_isReadableFromPack 25 = .ok (.aload_n 1, 1) := by decide +kernel
theorem dX1_isReadableFromPack_26 : decode cX1_isReadableFromPack 26 = .ok (.invokevirtual 62, 3) := by decide +kernel
theorem dX1_isReadableFromPack_29 : decode cX1_isReadableFromPack 29 = .ok (.astore_n 1, 1) := by decide +kernel
theorem dX1_isReadableFromPack_30 : decode cX1_isReadableFromPack 30 = .ok (.goto (-28), 3) := by decide +kernel
theorem dX1_isReadableFromPack_33 : decode cX1_isReadableFromPack 33 = .ok (.iconst 1, 1) := by decide +kernel
theorem dX1_isReadableFromPack_34 : decode cX1_isReadableFromPack 34 = .ok (.ireturn, 1) := by decide +kernel
theorem dX1_dependsOn_0 : decode cX1_dependsOn 0 = .ok (.aload_n 0, 1) := by decide +kernel
theorem dX1_dependsOn_1 : decode cX1_dependsOn 1 = .ok (.invokevirtual 62, 3) := by decide +kernel
theorem dX1_dependsOn_4 : decode cX1_dependsOn 4 = .ok (.astore_n 2, 1) := by decide +kernel
theorem dX1_dependsOn_5 : decode cX1_dependsOn 5 = .ok (.aload_n 2, 1) := by decide +kernel
theorem dX1_dependsOn_6 : decode cX1_dependsOn 6 = .ok (.ifnull 18, 3) := by decide +kernel
theorem dX1_dependsOn_9 : decode cX1_dependsOn 9 = .ok (.aload_n 2, 1) := by decide +kernel
theorem dX1_dependsOn_10 : decode cX1_dependsOn 10 = .ok (.aload_n 1, 1) := by decide +kernel
theorem dX1_dependsOn_11 : decode cX1_dependsOn 11 = .ok (.if_acmp .ne 5, 3) := by decide +kernel
theorem dX1_dependsOn_14 : decode cX1_dependsOn 14 = .ok (.iconst 1, 1) := by decide +kernel
theorem dX1_dependsOn_15 : decode cX1_dependsOn 15 = .ok (.ireturn, 1) := by decide +kernel
theorem dX1_dependsOn_16 : decode cX1_dependsOn 16 = .ok (.aload_n 2, 1) := by decide +kernel
theorem dX1_dependsOn_17 : decode cX1_dependsOn 17 = .ok (.invokevirtual 62, 3) := by decide +kernel
theorem dX1_dependsOn_20 : decode cX1_dependsOn 20 = .ok (.astore_n 2, 1) := by decide +kernel
theorem dX1_dependsOn_21 : decode cX1_dependsOn 21 = .ok (.goto (-16), 3) := by decide +kernel
theorem dX1_dependsOn_24 : decode cX1_dependsOn 24 = .ok (.iconst 0, 1) := by decide +kernel
theorem dX1_dependsOn_25 : decode cX1_dependsOn 25 = .ok (.ireturn, 1) := by decide +kernel
theorem dX1_baseItem_0 : decode cX1_baseItem 0 = .ok (.aload_n 0, 1) := by decide +kernel
theorem dX1_baseItem_1 : decode cX1_baseItem 1 = .ok (.getfield 42, 3) := by decide +kernel
theorem dX1_baseItem_4 : decode cX1_baseItem 4 = .ok (.ifnonnull 7, 3) := by decide +kernel
theorem dX1_baseItem_7 : decode cX1_baseItem 7 = .ok (.aconst_null, 1) := by decide +kernel
theorem dX1_baseItem_8 : decode cX1_baseItem 8 = .ok (.goto 10, 3) := by decide +kernel
theorem dX1_baseItem_11 : decode cX1_baseItem 11 = .ok (.aload_n 0, 1) := by decide +kernel
theorem dX1_baseItem_12 : decode cX1_baseItem 12 = .ok (.getfield 42, 3) := by decide +kernel
theorem dX1_baseItem_15 : decode cX1_baseItem 15 = .ok (.getfield 66, 3) := by decide +kernel
theorem dX1_baseItem_18 : decode cX1_baseItem 18 = .ok (.areturn, 1) := by decide +kernel
theorem dX2_init_0 : decode cX2_init 0 = .ok (.aload_n 0, 1) := by decide +kernel
theorem dX2_init_1 : decode cX2_init 1 = .ok (.invokespecial 1, 3) := by decide +kernel
theorem dX2_init_4 : decode cX2_init 4 = .ok (.aload_n 0, 1) := by decide +kernel
theorem dX2_init_5 : decode cX2_init 5 = .ok (.aconst_null, 1) := by decide +kernel
theorem dX2_init_6 : decode cX2_init 6 = .ok (.putfield 7, 3) := by decide +kernel
theorem dX2_init_9 : decode cX2_init 9 = .ok (.aload_n 0, 1) := by decide +kernel
theorem dX2_init_10 : decode cX2_init 10 = .ok (.iconst 0, 1) := by decide +kernel
theorem dX2_init_11 : decode cX2_init 11 = .ok (.putfield 13, 3) := by decide +kernel
theorem dX2_init_14 : decode cX2_init 14 = .ok (.return_, 1) := by decide +kernel
theorem dX3_init_0 : decode cX3_init 0 = .ok (.aload_n 0, 1) := by decide +kernel
theorem dX3_init_1 : decode cX3_init 1 = .ok (.invokespecial 1, 3) := by decide +kernel
theorem dX3_init_4 : decode cX3_init 4 = .ok (.aload_n 0, 1) := by decide +kernel
theorem dX3_init_5 : decode cX3_init 5 = .ok (.new 7, 3) := by decide +kernel
theorem dX3_init_8 : decode cX3_init 8 = .ok (.dup, 1) := by decide +kernel
theorem dX3_init_9 : decode cX3_init 9 = .ok (.invokespecial 9, 3) := by decide +kernel
theorem dX3_init_12 : decode cX3_init 12 = .ok (.putfield 10, 3) := by decide +kernel
theorem dX3_init_15 : decode cX3_init 15 = .ok (.aload_n 0, 1) := by decide +kernel
theorem dX3_init_16 : decode cX3_init 16 = .ok (.new 7, 3) := by decide +kernel
theorem dX3_init_19 : decode cX3_init 19 = .ok (.dup, 1) := by decide +kernel
theorem dX3_init_20 : decode cX3_init 20 = .ok (.invokespecial 9, 3) := by decide +kernel
theorem dX3_init_23 : decode cX3_init 23 = .ok (.putfield 16, 3) := by decide +kernel
theorem dX3_init_26 : decode cX3_init 26 = .ok (.aload_n 0, 1) := by decide +kernel
theorem dX3_init_27 : decode cX3_init 27 = .ok (.new 7, 3) := by decide +kernel
theorem dX3_init_30 : decode cX3_init 30 = .ok (.dup, 1) := by decide +kernel
theorem dX3_init_31 : decode cX3_init 31 = .ok (.invokespecial 9, 3) := by decide +kernel
theorem dX3_init_34 : decode cX3_init 34 = .ok (.putfield 19, 3) := by decide +kernel
theorem dX3_init_37 : decode cX3_init 37 = .ok (.aload_n 0, 1) := by decide +kernel
theorem dX3_init_38 : decode cX3_init 38 = .ok (.iconst 0, 1) := by decide +kernel
theorem dX3_init_39 : decode cX3_init 39 = .ok (.putfield 22, 3) := by decide +kernel
theorem dX3_init_42 : decode cX3_init 42 = .ok (.aload_n 0, 1) := by decide +kernel
theorem dX3_init_43 : decode cX3_init 43 = .ok (.iconst 0, 1) := by decide +kernel
theorem dX3_init_44 : decode cX3_init 44 = .ok (.putfield 26, 3) := by decide +kernel
theorem dX3_init_47 : decode cX3_init 47 = .ok (.return_, 1) := by decide +kernel
theorem dX3_store_0 : decode cX3_store 0 = .ok (.iload_n 1, 1) := by decide +kernel
theorem dX3_store_1 : decode cX3_store 1 = .ok (.ifCond .lt 9, 3) := by decide +kernel
theorem dX3_store_4 : decode cX3_store 4 = .ok (.iload_n 1, 1) := by decide +kernel
theorem dX3_store_5 : decode cX3_store 5 = .ok (.bipush 99, 2) := by decide +kernel
theorem dX3_store_7 : decode cX3_store 7 = .ok (.if_icmp .le 13, 3) := by decide +kernel
theorem dX3_store_10 : decode cX3_store 10 = .ok (.new 29, 3) := by decide +kernel
theorem dX3_store_13 : decode cX3_store 13 = .ok (.dup, 1) := by decide +kernel
theorem dX3_store_14 : decode cX3_store 14 = .ok (.ldc 31, 2) := by decide +kernel
theorem dX3_store_16 : decode cX3_store 16 = .ok (.invokespecial 33, 3) := by decide +kernel
theorem dX3_store_19 : decode cX3_store 19 = .ok (.athrow, 1) := by decide +kernel
theorem dX3_store_20 : decode cX3_store 20 = .ok (.lload_n 2, 1) := by decide +kernel
theorem dX3_store_21 : decode cX3_store 21 = .ok (.invokestatic 36, 3) := by decide +kernel
theorem dX3_store_24 : decode cX3_store 24 = .ok (.ifCond .ne 13, 3) := by decide +kernel
theorem dX3_store_27 : decode cX3_store 27 = .ok (.new 29, 3) := by decide +kernel
theorem dX3_store_30 : decode cX3_store 30 = .ok (.dup, 1) := by decide +kernel
theorem dX3_store_31 : decode cX3_store 31 = .ok (.ldc 40, 2) := by decide +kernel
theorem dX3_store_33 : decode cX3_store 33 = .ok (.invokespecial 33, 3) := by decide +kernel
theorem dX3_store_36 : decode cX3_store 36 = .ok (.athrow, 1) := by decide +kernel
theorem dX3_store_37 : decode cX3_store 37 = .ok (.aload_n 0, 1) := by decide +kernel
theorem dX3_store_38 : decode cX3_store 38 = .ok (.getfield 10, 3) := by decide +kernel
theorem dX3_store_41 : decode cX3_store 41 = .ok (.invokevirtual 42, 3) := by decide +kernel
theorem dX3_store_44 : decode cX3_store 44 = .ok (.istore 4, 2) := by decide +kernel
theorem dX3_store_46 : decode cX3_store 46 = .ok (.iload 4, 2) := by decide +kernel
theorem dX3_store_48 : decode cX3_store 48 = .ok (.bipush 40, 2) := by decide +kernel
theorem dX3_store_50 : decode cX3_store 50 = .ok (.if_icmp .lt 13, 3) := by decide +kernel
theorem dX3_store_53 : decode cX3_store 53 = .ok (.new 46, 3) := by decide +kernel
theorem dX3_store_56 : decode cX3_store 56 = .ok (.dup, 1) := by decide +kernel
theorem dX3_store_57 : decode cX3_store 57 = .ok (.ldc 48, 2) := by decide +kernel
theorem dX3_store_59 : decode cX3_store 59 = .ok (.invokespecial 50, 3) := by decide +kernel
theorem dX3_store_62 : decode cX3_store 62 = .ok (.athrow, 1) := by decide +kernel
theorem dX3_store_63 : decode cX3_store 63 = .ok (.aload_n 0, 1) := by decide +kernel
theorem dX3_store_64 : decode cX3_store 64 = .ok (.getfield 10, 3) := by decide +kernel
theorem dX3_store_67 : decode cX3_store 67 = .ok (.new 51, 3) := by decide +kernel
theorem dX3_store_70 : decode cX3_store 70 = .ok (.dup, 1) := by decide +kernel
theorem dX3_store_71 : decode cX3_store 71 = .ok (.iload 4, 2) := by decide +kernel
theorem dX3_store_73 : decode cX3_store 73 = .ok (.iload_n 1, 1) := by decide +kernel
theorem dX3_store_74 : decode cX3_store 74 = .ok (.lload_n 2, 1) := by decide +kernel
theorem dX3_store_75 : decode cX3_store 75 = .ok (.invokespecial 53, 3) := by decide +kernel
theorem dX3_store_78 : decode cX3_store 78 = .ok (.invokevirtual 56, 3) := by decide +kernel
theorem dX3_store_81 : decode cX3_store 81 = .ok (.pop, 1) := by decide +kernel
theorem dX3_store_82 : decode cX3_store 82 = .ok (.iload 4, 2) := by decide +kernel
theorem dX3_store_84 : decode cX3_store 84 = .ok (.ireturn, 1) := by decide +kernel
theorem dX3_delete_0 : decode cX3_delete 0 = .ok (.aload_n 0, 1) := by decide +kernel
theorem dX3_delete_1 : decode cX3_delete 1 = .ok (.iload_n 1, 1) := by decide +kernel
theorem dX3_delete_2 : decode cX3_delete 2 = .ok (.invokevirtual 60, 3) := by decide +kernel
theorem dX3_delete_5 : decode cX3_delete 5 = .ok (.astore_n 2, 1) := by decide +kernel
theorem dX3_delete_6 : decode cX3_delete 6 = .ok (.aload_n 2, 1) := by decide +kernel
theorem dX3_delete_7 : decode cX3_delete 7 = .ok (.getfield 64, 3) := by decide +kernel
theorem dX3_delete_10 : decode cX3_delete 10 = .ok (.ifCond .ne 13, 3) := by decide +kernel
theorem dX3_delete_13 : decode cX3_delete 13 = .ok (.new 46, 3) := by decide +kernel
theorem dX3_delete_16 : decode cX3_delete 16 = .ok (.dup, 1) := by decide +kernel
theorem dX3_delete_17 : decode cX3_delete 17 = .ok (.ldc 68, 2) := by decide +kernel
theorem dX3_delete_19 : decode cX3_delete 19 = .ok (.invokespecial 50, 3) := by decide +kernel
theorem dX3_delete_22 : decode cX3_delete 22 = .ok (.athrow, 1) := by decide +kernel
theorem dX3_delete_23 : decode cX3_delete 23 = .ok (.aload_n 2, 1) := by decide +kernel
theorem dX3_delete_24 : decode cX3_delete 24 = .ok (.iconst 0, 1) := by decide +kernel
theorem dX3_delete_25 : decode cX3_delete 25 = .ok (.putfield 64, 3) := by decide +kernel
theorem dX3_delete_28 : decode cX3_delete 28 = .ok (.aload_n 2, 1) := by decide +kernel
theorem dX3_delete_29 : decode cX3_delete 29 = .ok (.iconst 0, 1) := by decide +kernel
theorem dX3_delete_30 : decode cX3_delete 30 = .ok (.putfield 70, 3) := by decide +kernel
theorem dX3_delete_33 : decode cX3_delete 33 = .ok (.aload_n 0, 1) := by decide +kernel
theorem dX3_delete_34 : decode cX3_delete 34 = .ok (.invokevirtual 73, 3) := by decide +kernel
theorem dX3_delete_37 : decode cX3_delete 37 = .ok (.ireturn, 1) := by decide +kernel
theorem dX3_objects_0 : decode cX3_objects 0 = .ok (.aload_n 0, 1) := by decide +kernel
theorem dX3_objects_1 : decode cX3_objects 1 = .ok (.getfield 10, 3) := by decide +kernel
theorem dX3_objects_4 : decode cX3_objects 4 = .ok (.invokevirtual 42, 3) := by decide +kernel
theorem dX3_objects_7 : decode cX3_objects 7 = .ok (.ireturn, 1) := by decide +kernel
theorem dX3_isLive_0 : decode cX3_isLive 0 = .ok (.aload_n 0, 1) := by decide +kernel
theorem dX3_isLive_1 : decode cX3_isLive 1 = .ok (.iload_n 1, 1) := by decide +kernel
theorem dX3_isLive_2 : decode cX3_isLive 2 = .ok (.invokevirtual 60, 3) := by decide +kernel
theorem dX3_isLive_5 : decode cX3_isLive 5 = .ok (.getfield 64, 3) := by decide +kernel
theorem dX3_isLive_8 : decode cX3_isLive 8 = .ok (.ireturn, 1) := by decide +kernel
theorem dX3_isLoose_0 : decode cX3_isLoose 0 = .ok (.aload_n 0, 1) := by decide +kernel
theorem dX3_isLoose_1 : decode cX3_isLoose 1 = .ok (.iload_n 1, 1) := by decide +kernel
theorem dX3_isLoose_2 : decode cX3_isLoose 2 = .ok (.invokevirtual 60, 3) := by decide +kernel
theorem dX3_isLoose_5 : decode cX3_isLoose 5 = .ok (.getfield 70, 3) := by decide +kernel
theorem dX3_isLoose_8 : decode cX3_isLoose 8 = .ok (.ireturn, 1) := by decide +kernel
theorem dX3_canRead_0 : decode cX3_canRead 0 = .ok (.aload_n 0, 1) := by decide +kernel
theorem dX3_canRead_1 : decode cX3_canRead 1 = .ok (.iload_n 1, 1) := by decide +kernel
theorem dX3_canRead_2 : decode cX3_canRead 2 = .ok (.invokevirtual 60, 3) := by decide +kernel
theorem dX3_canRead_5 : decode cX3_canRead 5 = .ok (.invokevirtual 76, 3) := by decide +kernel
theorem dX3_canRead_8 : decode cX3_canRead 8 = .ok (.ireturn, 1) := by decide +kernel
theorem dX3_read_0 : decode cX3_read 0 = .ok (.aload_n 0, 1) := by decide +kernel
theorem dX3_read_1 : decode cX3_read 1 = .ok (.iload_n 1, 1) := by decide +kernel
theorem dX3_read_2 : decode cX3_read 2 = .ok (.invokevirtual 60, 3) := by decide +kernel
theorem dX3_read_5 : decode cX3_read 5 = .ok (.astore_n 2, 1) := by decide +kernel
theorem dX3_read_6 : decode cX3_read 6 = .ok (.aload_n 2, 1) := by decide +kernel
theorem dX3_read_7 : decode cX3_read 7 = .ok (.invokevirtual 76, 3) := by decide +kernel
theorem dX3_read_10 : decode cX3_read 10 = .ok (.ifCond .ne 13, 3) := by decide +kernel
theorem dX3_read_13 : decode cX3_read 13 = .ok (.new 46, 3) := by decide +kernel
theorem dX3_read_16 : decode cX3_read 16 = .ok (.dup, 1) := by decide +kernel
theorem dX3_read_17 : decode cX3_read 17 = .ok (.ldc 80, 2) := by decide +kernel
theorem dX3_read_19 : decode cX3_read 19 = .ok (.invokespecial 50, 3) := by decide +kernel
theorem dX3_read_22 : decode cX3_read 22 = .ok (.athrow, 1) := by decide +kernel
theorem dX3_read_23 : decode cX3_read 23 = .ok (.aload_n 2, 1) := by decide +kernel
theorem dX3_read_24 : decode cX3_read 24 = .ok (.getfield 82, 3) := by decide +kernel
theorem dX3_read_27 : decode cX3_read 27 = .ok (.lreturn, 1) := by decide +kernel
theorem dX3_pack_0 : decode cX3_pack 0 = .ok (.iload_n 1, 1) := by decide +kernel
theorem dX3_pack_1 : decode cX3_pack 1 = .ok (.iconst 1, 1) := by decide +kernel
theorem dX3_pack_2 : decode cX3_pack 2 = .ok (.if_icmp .lt 9, 3) := by decide +kernel
theorem dX3_pack_5 : decode cX3_pack 5 = .ok (.iload_n 1, 1) := by decide +kernel
theorem dX3_pack_6 : decode cX3_pack 6 = .ok (.bipush 8, 2) := by decide +kernel
theorem dX3_pack_8 : decode cX3_pack 8 = .ok (.if_icmp .le 13, 3) := by decide +kernel
theorem dX3_pack_11 : decode cX3_pack 11 = .ok (.new 29, 3) := by decide +kernel
theorem dX3_pack_14 : decode cX3_pack 14 = .ok (.dup, 1) := by decide +kernel
theorem dX3_pack_15 : decode cX3_pack 15 = .ok (.ldc 86, 2) := by decide +kernel
theorem dX3_pack_17 : decode cX3_pack 17 = .ok (.invokespecial 33, 3) := by decide +kernel
theorem dX3_pack_20 : decode cX3_pack 20 = .ok (.athrow, 1) := by decide +kernel
theorem dX3_pack_21 : decode cX3_pack 21 = .ok (.iload_n 2, 1) := by decide +kernel
theorem dX3_pack_22 : decode cX3_pack 22 = .ok (.ifCond .lt 9, 3) := by decide +kernel
theorem dX3_pack_25 : decode cX3_pack 25 = .ok (.iload_n 2, 1) := by decide +kernel
theorem dX3_pack_26 : decode cX3_pack 26 = .ok (.bipush 6, 2) := by decide +kernel
theorem dX3_pack_28 : decode cX3_pack 28 = .ok (.if_icmp .le 13, 3) := by decide +kernel
theorem dX3_pack_31 : decode cX3_pack 31 = .ok (.new 29, 3) := by decide +kernel
theorem dX3_pack_34 : decode cX3_pack 34 = .ok (.dup, 1) := by decide +kernel
theorem dX3_pack_35 : decode cX3_pack 35 = .ok (.ldc 88, 2) := by decide +kernel
theorem dX3_pack_37 : decode cX3_pack 37 = .ok (.invokespecial 33, 3) := by decide +kernel
theorem dX3_pack_40 : decode cX3_pack 40 = .ok (.athrow, 1) := by decide +kernel
theorem dX3_pack_41 : decode cX3_pack 41 = .ok (.aload_n 0, 1) := by decide +kernel
theorem dX3_pack_42 : decode cX3_pack 42 = .ok (.invokevirtual 90, 3) := by decide +kernel
theorem dX3_pack_45 : decode cX3_pack 45 = .ok (.aload_n 0, 1) := by decide +kernel
theorem dX3_pack_46 : decode cX3_pack 46 = .ok (.invokevirtual 93, 3) := by decide +kernel
theorem dX3_pack_49 : decode cX3_pack 49 = .ok (.aload_n 0, 1) := by decide +kernel
theorem dX3_pack_50 : decode cX3_pack 50 = .ok (.iconst 0, 1) := by decide +kernel
theorem dX3_pack_51 : decode cX3_pack 51 = .ok (.putfield 22, 3) := by decide +kernel
theorem dX3_pack_54 : decode cX3_pack 54 = .ok (.aload_n 0, 1) := by decide +kernel
theorem dX3_pack_55 : decode cX3_pack 55 = .ok (.iconst 0, 1) := by decide +kernel
theorem dX3_pack_56 : decode cX3_pack 56 = .ok (.putfield 26, 3) := by decide +kernel
theorem dX3_pack_59 : decode cX3_pack 59 = .ok (.iconst 0, 1) := by decide +kernel
theorem dX3_pack_60 : decode cX3_pack 60 = .ok (.istore 4, 2) := by decide +kernel
theorem dX3_pack_62 : decode cX3_pack 62 = .ok (.iload 4, 2) := by decide +kernel
theorem dX3_pack_64 : decode cX3_pack 64 = .ok (.aload_n 0, 1) := by decide +kernel
theorem dX3_pack_65 : decode cX3_pack 65 = .ok (.getfield 16, 3) := by decide +kernel
theorem dX3_pack_68 : decode cX3_pack 68 = .ok (.invokevirtual 42, 3) := by decide +kernel
theorem dX3_pack_71 : decode cX3_pack 71 = .ok (.if_icmp .ge 65, 3) := by decide +kernel
theorem dX3_pack_74 : decode cX3_pack 74 = .ok (.aload_n 0, 1) := by decide +kernel
theorem dX3_pack_75 : decode cX3_pack 75 = .ok (.getfield 16, 3) := by decide +kernel
theorem dX3_pack_78 : decode cX3_pack 78 = .ok (.iload 4, 2) := by decide +kernel
theorem dX3_pack_80 : decode cX3_pack 80 = .ok (.invokevirtual 96, 3) := by decide +kernel
theorem dX3_pack_83 : decode cX3_pack 83 = .ok (.checkcast 51, 3) := by decide +kernel
theorem dX3_pack_86 : decode cX3_pack 86 = .ok (.astore 5, 2) := by decide +kernel
theorem dX3_pack_88 : decode cX3_pack 88 = .ok (.iload_n 3, 1) := by decide +kernel
theorem dX3_pack_89 : decode cX3_pack 89 = .ok (.ifCond .eq 13, 3) := by decide +kernel
theorem dX3_pack_92 : decode cX3_pack 92 = .ok (.aload_n 0, 1) := by decide +kernel
theorem dX3_pack_93 : decode cX3_pack 93 = .ok (.aload 5, 2) := by decide +kernel
theorem dX3_pack_95 : decode cX3_pack 95 = .ok (.iload_n 2, 1) := by decide +kernel
theorem dX3_pack_96 : decode cX3_pack 96 = .ok (.invokevirtual 100, 3) := by decide +kernel
theorem dX3_pack_99 : decode cX3_pack 99 = .ok (.goto 4, 3) := by decide +kernel
theorem dX3_pack_102 : decode cX3_pack 102 = .ok (.aconst_null, 1) := by decide +kernel
theorem dX3_pack_103 : decode cX3_pack 103 = .ok (.astore 6, 2) := by decide +kernel
theorem dX3_pack_105 : decode cX3_pack 105 = .ok (.aload 5, 2) := by decide +kernel
theorem dX3_pack_107 : decode cX3_pack 107 = .ok (.aload 6, 2) := by decide +kernel
theorem dX3_pack_109 : decode cX3_pack 109 = .ok (.ifnull 8, 3) := by decide +kernel
theorem dX3_pack_112 : decode cX3_pack 112 = .ok (.aload 6, 2) := by decide +kernel
theorem dX3_pack_114 : decode cX3_pack 114 = .ok (.goto 13, 3) := by decide +kernel
theorem dX3_pack_117 : decode cX3_pack 117 = .ok (.aload_n 0, 1) := by decide +kernel
theorem dX3_pack_118 : decode cX3_pack 118 = .ok (.aload 5, 2) := by decide +kernel
theorem dX3_pack_120 : decode cX3_pack 120 = .ok (.iload 4, 2) := by decide +kernel
theorem dX3_pack_122 : decode cX3_pack 122 = .ok (.iload_n 1, 1) := by decide +kernel
theorem dX3_pack_123 : decode cX3_pack 123 = .ok (.iload_n 2, 1) := by decide +kernel
theorem dX3_pack_124 : decode cX3_pack 124 = .ok (.invokevirtual 104, 3) := by decide +kernel
theorem dX3_pack_127 : decode cX3_pack 127 = .ok (.putfield 108, 3) := by decide +kernel
theorem dX3_pack_130 : decode cX3_pack 130 = .ok (.iinc 4 1, 3) := by decide +kernel
theorem dX3_pack_133 : decode cX3_pack 133 = .ok (.goto (-71), 3) := by decide +kernel
theorem dX3_pack_136 : decode cX3_pack 136 = .ok (.aload_n 0, 1) := by decide +kernel
theorem dX3_pack_137 : decode cX3_pack 137 = .ok (.invokevirtual 112, 3) := by decide +kernel
theorem dX3_pack_140 : decode cX3_pack 140 = .ok (.aload_n 0, 1) := by decide +kernel
theorem dX3_pack_141 : decode cX3_pack 141 = .ok (.invokevirtual 115, 3) := by decide +kernel
theorem dX3_pack_144 : decode cX3_pack 144 = .ok (.ireturn, 1) := by decide +kernel
theorem dX3_prune_0 : decode cX3_prune 0 = .ok (.iconst 0, 1) := by decide +kernel
theorem dX3_prune_1 : decode cX3_prune 1 = .ok (.istore_n 1, 1) := by decide +kernel
theorem dX3_prune_2 : decode cX3_prune 2 = .ok (.iconst 0, 1) := by decide +kernel
theorem dX3_prune_3 : decode cX3_prune 3 = .ok (.istore_n 2, 1) := by decide +kernel
theorem dX3_prune_4 : decode cX3_prune 4 = .ok (.iload_n 2, 1) := by decide +kernel
theorem dX3_prune_5 : decode cX3_prune 5 = .ok (.aload_n 0, 1) := by decide +kernel
theorem dX3_prune_6 : decode cX3_prune 6 = .ok (.getfield 10, 3) := by decide +kernel
theorem dX3_prune_9 : decode cX3_prune 9 = .ok (.invokevirtual 42, 3) := by decide +kernel
theorem dX3_prune_12 : decode cX3_prune 12 = .ok (.if_icmp .ge 43, 3) := by decide +kernel
theorem dX3_prune_15 : decode cX3_prune 15 = .ok (.aload_n 0, 1) := by decide +kernel
theorem dX3_prune_16 : decode cX3_prune 16 = .ok (.getfield 10, 3) := by decide +kernel
theorem dX3_prune_19 : decode cX3_prune 19 = .ok (.iload_n 2, 1) := by decide +kernel
theorem dX3_prune_20 : decode cX3_prune 20 = .ok (.invokevirtual 96, 3) := by decide +kernel
theorem dX3_prune_23 : decode cX3_prune 23 = .ok (.checkcast 51, 3) := by decide +kernel
theorem dX3_prune_26 : decode cX3_prune 26 = .ok (.astore_n 3, 1) := by decide +kernel
theorem dX3_prune_27 : decode cX3_prune 27 = .ok (.aload_n 3, 1) := by decide +kernel
theorem dX3_prune_28 : decode cX3_prune 28 = .ok (.getfield 70, 3) := by decide +kernel
theorem dX3_prune_31 : decode cX3_prune 31 = .ok (.ifCond .eq 18, 3) := by decide +kernel
theorem dX3_prune_34 : decode cX3_prune 34 = .ok (.aload_n 3, 1) := by decide +kernel
theorem dX3_prune_35 : decode cX3_prune 35 = .ok (.invokevirtual 118, 3) := by decide +kernel
theorem dX3_prune_38 : decode cX3_prune 38 = .ok (.ifCond .eq 11, 3) := by decide +kernel
theorem dX3_prune_41 : decode cX3_prune 41 = .ok (.aload_n 3, 1) := by decide +kernel
theorem dX3_prune_42 : decode cX3_prune 42 = .ok (.iconst 0, 1) := by decide +kernel
theorem dX3_prune_43 : decode cX3_prune 43 = .ok (.putfield 70, 3) := by decide +kernel
theorem dX3_prune_46 : decode cX3_prune 46 = .ok (.iinc 1 1, 3) := by decide +kernel
theorem dX3_prune_49 : decode cX3_prune 49 = .ok (.iinc 2 1, 3) := by decide +kernel
theorem dX3_prune_52 : decode cX3_prune 52 = .ok (.goto (-48), 3) := by decide +kernel
theorem dX3_prune_55 : decode cX3_prune 55 = .ok (.iload_n 1, 1) := by decide +kernel
theorem dX3_prune_56 : decode cX3_prune 56 = .ok (.ireturn, 1) := by decide +kernel
theorem dX3_damage_0 : decode cX3_damage 0 = .ok (.aload_n 0, 1) := by decide +kernel
theorem dX3_damage_1 : decode cX3_damage 1 = .ok (.iload_n 1, 1) := by decide +kernel
theorem dX3_damage_2 : decode cX3_damage 2 = .ok (.invokevirtual 121, 3) := by decide +kernel
theorem dX3_damage_5 : decode cX3_damage 5 = .ok (.astore_n 2, 1) := by decide +kernel
theorem dX3_damage_6 : decode cX3_damage 6 = .ok (.aload_n 2, 1) := by decide +kernel
theorem dX3_damage_7 : decode cX3_damage 7 = .ok (.getfield 125, 3) := by decide +kernel
theorem dX3_damage_10 : decode cX3_damage 10 = .ok (.ifCond .eq 13, 3) := by decide +kernel
theorem dX3_damage_13 : decode cX3_damage 13 = .ok (.new 46, 3) := by decide +kernel
theorem dX3_damage_16 : decode cX3_damage 16 = .ok (.dup, 1) := by decide +kernel
theorem dX3_damage_17 : decode cX3_damage 17 = .ok (.ldc 130, 2) := by decide +kernel
theorem dX3_damage_19 : decode cX3_damage 19 = .ok (.invokespecial 50, 3) := by decide +kernel
theorem dX3_damage_22 : decode cX3_damage 22 = .ok (.athrow, 1) := by decide +kernel
theorem dX3_damage_23 : decode cX3_damage 23 = .ok (.aload_n 0, 1) := by decide +kernel
theorem dX3_damage_24 : decode cX3_damage 24 = .ok (.invokevirtual 132, 3) := by decide +kernel
theorem dX3_damage_27 : decode cX3_damage 27 = .ok (.istore_n 3, 1) := by decide +kernel
theorem dX3_damage_28 : decode cX3_damage 28 = .ok (.aload_n 2, 1) := by decide +kernel
theorem dX3_damage_29 : decode cX3_damage 29 = .ok (.iconst 1, 1) := by decide +kernel
theorem dX3_damage_30 : decode cX3_damage 30 = .ok (.putfield 125, 3) := by decide +kernel
theorem dX3_damage_33 : decode cX3_damage 33 = .ok (.iload_n 3, 1) := by decide +kernel
theorem dX3_damage_34 : decode cX3_damage 34 = .ok (.aload_n 0, 1) := by decide +kernel
theorem dX3_damage_35 : decode cX3_damage 35 = .ok (.invokevirtual 132, 3) := by decide +kernel
theorem dX3_damage_38 : decode cX3_damage 38 = .ok (.isub, 1) := by decide +kernel
theorem dX3_damage_39 : decode cX3_damage 39 = .ok (.ireturn, 1) := by decide +kernel
theorem dX3_compared_0 : decode cX3_compared 0 = .ok (.aload_n 0, 1) := by decide +kernel
theorem dX3_compared_1 : decode cX3_compared 1 = .ok (.getfield 22, 3) := by decide +kernel
theorem dX3_compared_4 : decode cX3_compared 4 = .ok (.ireturn, 1) := by decide +kernel
theorem dX3_reused_0 : decode cX3_reused 0 = .ok (.aload_n 0, 1) := by decide +kernel
theorem dX3_reused_1 : decode cX3_reused 1 = .ok (.getfield 26, 3) := by decide +kernel
theorem dX3_reused_4 : decode cX3_reused 4 = .ok (.ireturn, 1) := by decide +kernel
theorem dX3_forms_0 : decode cX3_forms 0 = .ok (.aload_n 0, 1) := by decide +kernel
theorem dX3_forms_1 : decode cX3_forms 1 = .ok (.getfield 16, 3) := by decide +kernel
theorem dX3_forms_4 : decode cX3_forms 4 = .ok (.invokevirtual 42, 3) := by decide +kernel
theorem dX3_forms_7 : decode cX3_forms 7 = .ok (.ireturn, 1) := by decide +kernel
theorem dX3_cost_0 : decode cX3_cost 0 = .ok (.iconst 0, 1) := by decide +kernel
theorem dX3_cost_1 : decode cX3_cost 1 = .ok (.istore_n 1, 1) := by decide +kernel
theorem dX3_cost_2 : decode cX3_cost 2 = .ok (.iconst 0, 1) := by decide +kernel
theorem dX3_cost_3 : decode cX3_cost 3 = .ok (.istore_n 2, 1) := by decide +kernel
theorem dX3_cost_4 : decode cX3_cost 4 = .ok (.iload_n 2, 1) := by decide +kernel
theorem dX3_cost_5 : decode cX3_cost 5 = .ok (.aload_n 0, 1) := by decide +kernel
theorem dX3_cost_6 : decode cX3_cost 6 = .ok (.getfield 16, 3) := by decide +kernel
theorem dX3_cost_9 : decode cX3_cost 9 = .ok (.invokevirtual 42, 3) := by decide +kernel
theorem dX3_cost_12 : decode cX3_cost 12 = .ok (.if_icmp .ge 35, 3) := by decide +kernel
theorem dX3_cost_15 : decode cX3_cost 15 = .ok (.aload_n 0, 1) := by decide +kernel
theorem dX3_cost_16 : decode cX3_cost 16 = .ok (.getfield 16, 3) := by decide +kernel
theorem dX3_cost_19 : decode cX3_cost 19 = .ok (.iload_n 2, 1) := by decide +kernel
theorem dX3_cost_20 : decode cX3_cost 20 = .ok (.invokevirtual 96, 3) := by decide +kernel
theorem dX3_cost_23 : decode cX3_cost 23 = .ok (.checkcast 51, 3) := by decide +kernel
theorem dX3_cost_26 : decode cX3_cost 26 = .ok (.getfield 108, 3) := by decide +kernel
theorem dX3_cost_29 : decode cX3_cost 29 = .ok (.astore_n 3, 1) := by decide +kernel
theorem dX3_cost_30 : decode cX3_cost 30 = .ok (.aload_n 3, 1) := by decide +kernel
theorem dX3_cost_31 : decode cX3_cost 31 = .ok (.ifnull 10, 3) := by decide +kernel
theorem dX3_cost_34 : decode cX3_cost 34 = .ok (.iload_n 1, 1) := by decide +kernel
theorem dX3_cost_35 : decode cX3_cost 35 = .ok (.aload_n 3, 1) := by decide +kernel
theorem dX3_cost_36 : decode cX3_cost 36 = .ok (.getfield 135, 3) := by decide +kernel
theorem dX3_cost_39 : decode cX3_cost 39 = .ok (.iadd, 1) := by decide +kernel
theorem dX3_cost_40 : decode cX3_cost 40 = .ok (.istore_n 1, 1) := by decide +kernel
theorem dX3_cost_41 : decode cX3_cost 41 = .ok (.iinc 2 1, 3) := by decide +kernel
theorem dX3_cost_44 : decode cX3_cost 44 = .ok (.goto (-40), 3) := by decide +kernel
theorem dX3_cost_47 : decode cX3_cost 47 = .ok (.iload_n 1, 1) := by decide +kernel
theorem dX3_cost_48 : decode cX3_cost 48 = .ok (.ireturn, 1) := by decide +kernel
theorem dX3_costOf_0 : decode cX3_costOf 0 = .ok (.aload_n 0, 1) := by decide +kernel
theorem dX3_costOf_1 : decode cX3_costOf 1 = .ok (.iload_n 1, 1) := by decide +kernel
theorem dX3_costOf_2 : decode cX3_costOf 2 = .ok (.invokevirtual 121, 3) := by decide +kernel
theorem dX3_costOf_5 : decode cX3_costOf 5 = .ok (.getfield 135, 3) := by decide +kernel
theorem dX3_costOf_8 : decode cX3_costOf 8 = .ok (.ireturn, 1) := by decide +kernel
theorem dX3_base_0 : decode cX3_base 0 = .ok (.aload_n 0, 1) := by decide +kernel
theorem dX3_base_1 : decode cX3_base 1 = .ok (.iload_n 1, 1) := by decide +kernel
theorem dX3_base_2 : decode cX3_base 2 = .ok (.invokevirtual 121, 3) := by decide +kernel
theorem dX3_base_5 : decode cX3_base 5 = .ok (.getfield 137, 3) := by decide +kernel
theorem dX3_base_8 : decode cX3_base 8 = .ok (.astore_n 2, 1) := by decide +kernel
theorem dX3_base_9 : decode cX3_base 9 = .ok (.aload_n 2, 1) := by decide +kernel
theorem dX3_base_10 : decode cX3_base 10 = .ok (.ifnonnull 7, 3) := by decide +kernel
theorem dX3_base_13 : decode cX3_base 13 = .ok (.iconst (-1), 1) := by decide +kernel
theorem dX3_base_14 : decode cX3_base 14 = .ok (.goto 7, 3) := by decide +kernel
theorem dX3_base_17 : decode cX3_base 17 = .ok (.aload_n 2, 1) := by decide +kernel
theorem dX3_base_18 : decode cX3_base 18 = .ok (.getfield 141, 3) := by decide +kernel
theorem dX3_base_21 : decode cX3_base 21 = .ok (.ireturn, 1) := by decide +kernel
theorem dX3_depth_0 : decode cX3_depth 0 = .ok (.aload_n 0, 1) := by decide +kernel
theorem dX3_depth_1 : decode cX3_depth 1 = .ok (.iload_n 1, 1) := by decide +kernel
theorem dX3_depth_2 : decode cX3_depth 2 = .ok (.invokevirtual 121, 3) := by decide +kernel
theorem dX3_depth_5 : decode cX3_depth 5 = .ok (.getfield 144, 3) := by decide +kernel
theorem dX3_depth_8 : decode cX3_depth 8 = .ok (.ireturn, 1) := by decide +kernel
theorem dX3_parts_0 : decode cX3_parts 0 = .ok (.aload_n 0, 1) := by decide +kernel
theorem dX3_parts_1 : decode cX3_parts 1 = .ok (.iload_n 1, 1) := by decide +kernel
theorem dX3_parts_2 : decode cX3_parts 2 = .ok (.invokevirtual 121, 3) := by decide +kernel
theorem dX3_parts_5 : decode cX3_parts 5 = .ok (.getfield 147, 3) := by decide +kernel
theorem dX3_parts_8 : decode cX3_parts 8 = .ok (.ireturn, 1) := by decide +kernel
theorem dX3_dependents_0 : decode cX3_dependents 0 = .ok (.aload_n 0, 1) := by decide +kernel
theorem dX3_dependents_1 : decode cX3_dependents 1 = .ok (.iload_n 1, 1) := by decide +kernel
theorem dX3_dependents_2 : decode cX3_dependents 2 = .ok (.invokevirtual 60, 3) := by decide +kernel
theorem dX3_dependents_5 : decode cX3_dependents 5 = .ok (.astore_n 2, 1) := by decide +kernel
theorem dX3_dependents_6 : decode cX3_dependents 6 = .ok (.aload_n 2, 1) := by decide +kernel
theorem dX3_dependents_7 : decode cX3_dependents 7 = .ok (.getfield 108, 3) := by decide +kernel
theorem dX3_dependents_10 : decode cX3_dependents 10 = .ok (.ifnonnull 13, 3) := by decide +kernel
theorem dX3_dependents_13 : decode cX3_dependents 13 = .ok (.new 46, 3) := by decide +kernel
theorem dX3_dependents_16 : decode cX3_dependents 16 = .ok (.dup, 1) := by decide +kernel
theorem dX3_dependents_17 : decode cX3_dependents 17 = .ok (.ldc 150, 2) := by decide +kernel
theorem dX3_dependents_19 : decode cX3_dependents 19 = .ok (.invokespecial 50, 3) := by decide +kernel
theorem dX3_dependents_22 : decode cX3_dependents 22 = .ok (.athrow, 1) := by decide +kernel
theorem dX3_dependents_23 : decode cX3_dependents 23 = .ok (.iconst 0, 1) := by decide +kernel
theorem dX3_dependents_24 : decode cX3_dependents 24 = .ok (.istore_n 3, 1) := by decide +kernel
theorem dX3_dependents_25 : decode cX3_dependents 25 = .ok (.iconst 0, 1) := by decide +kernel
theorem dX3_dependents_26 : decode cX3_dependents 26 = .ok (.istore 4, 2) := by decide +kernel
theorem dX3_dependents_28 : decode cX3_dependents 28 = .ok (.iload 4, 2) := by decide +kernel
theorem dX3_dependents_30 : decode cX3_dependents 30 = .ok (.aload_n 0, 1) := by decide +kernel
theorem dX3_dependents_31 : decode cX3_dependents 31 = .ok (.getfield 16, 3) := by decide +kernel
theorem dX3_dependents_34 : decode cX3_dependents 34 = .ok (.invokevirtual 42, 3) := by decide +kernel
theorem dX3_dependents_37 : decode cX3_dependents 37 = .ok (.if_icmp .ge 31, 3) := by decide +kernel
theorem dX3_dependents_40 : decode cX3_dependents 40 = .ok (.aload_n 0, 1) := by decide +kernel
theorem dX3_dependents_41 : decode cX3_dependents 41 = .ok (.getfield 16, 3) := by decide +kernel
theorem dX3_dependents_44 : decode cX3_dependents 44 = .ok (.iload 4, 2) := by decide +kernel
theorem dX3_dependents_46 : decode cX3_dependents 46 = .ok (.invokevirtual 96, 3) := by decide +kernel
theorem dX3_dependents_49 : decode cX3_dependents 49 = .ok (.checkcast 51, 3) := by decide +kernel
theorem dX3_dependents_52 : decode cX3_dependents 52 = .ok (.aload_n 2, 1) := by decide +kernel
theorem dX3_dependents_53 : decode cX3_dependents 53 = .ok (.invokevirtual 152, 3) := by decide +kernel
theorem dX3_dependents_56 : decode cX3_dependents 56 = .ok (.ifCond .eq 6, 3) := by decide +kernel
theorem dX3_dependents_59 : decode cX3_dependents 59 = .ok (.iinc 3 1, 3) := by decide +kernel
theorem dX3_dependents_62 : decode cX3_dependents 62 = .ok (.iinc 4 1, 3) := by decide +kernel
theorem dX3_dependents_65 : decode cX3_dependents 65 = .ok (.goto (-37), 3) := by decide +kernel
theorem dX3_dependents_68 : decode cX3_dependents 68 = .ok (.iload_n 3, 1) := by decide +kernel
theorem dX3_dependents_69 : decode cX3_dependents 69 = .ok (.ireturn, 1) := by decide +kernel
theorem dX3_deltaCost_0 : decode cX3_deltaCost 0 = .ok (.aload_n 0, 1) := by decide +kernel
theorem dX3_deltaCost_1 : decode cX3_deltaCost 1 = .ok (.iload_n 1, 1) := by decide +kernel
theorem dX3_deltaCost_2 : decode cX3_deltaCost 2 = .ok (.invokevirtual 60, 3) := by decide +kernel
theorem dX3_deltaCost_5 : decode cX3_deltaCost 5 = .ok (.aload_n 0, 1) := by decide +kernel
theorem dX3_deltaCost_6 : decode cX3_deltaCost 6 = .ok (.iload_n 2, 1) := by decide +kernel
theorem dX3_deltaCost_7 : decode cX3_deltaCost 7 = .ok (.invokevirtual 60, 3) := by decide +kernel
theorem dX3_deltaCost_10 : decode cX3_deltaCost 10 = .ok (.invokestatic 156, 3) := by decide +kernel
theorem dX3_deltaCost_13 : decode cX3_deltaCost 13 = .ok (.ireturn, 1) := by decide +kernel
theorem dX3_hash_0 : decode cX3_hash 0 = .ok (.lload_n 1, 1) := by decide +kernel
theorem dX3_hash_1 : decode cX3_hash 1 = .ok (.invokestatic 36, 3) := by decide +kernel
theorem dX3_hash_4 : decode cX3_hash 4 = .ok (.ifCond .ne 13, 3) := by decide +kernel
theorem dX3_hash_7 : decode cX3_hash 7 = .ok (.new 29, 3) := by decide +kernel
theorem dX3_hash_10 : decode cX3_hash 10 = .ok (.dup, 1) := by decide +kernel
theorem dX3_hash_11 : decode cX3_hash 11 = .ok (.ldc 40, 2) := by decide +kernel
theorem dX3_hash_13 : decode cX3_hash 13 = .ok (.invokespecial 33, 3) := by decide +kernel
theorem dX3_hash_16 : decode cX3_hash 16 = .ok (.athrow, 1) := by decide +kernel
theorem dX3_hash_17 : decode cX3_hash 17 = .ok (.lload_n 1, 1) := by decide +kernel
theorem dX3_hash_18 : decode cX3_hash 18 = .ok (.invokestatic 160, 3) := by decide +kernel
theorem dX3_hash_21 : decode cX3_hash 21 = .ok (.ireturn, 1) := by decide +kernel
theorem dX3_indexAt_0 : decode cX3_indexAt 0 = .ok (.iload_n 1, 1) := by decide +kernel
theorem dX3_indexAt_1 : decode cX3_indexAt 1 = .ok (.ifCond .lt 14, 3) := by decide +kernel
theorem dX3_indexAt_4 : decode cX3_indexAt 4 = .ok (.iload_n 1, 1) := by decide +kernel
theorem dX3_indexAt_5 : decode cX3_indexAt 5 = .ok (.aload_n 0, 1) := by decide +kernel
theorem dX3_indexAt_6 : decode cX3_indexAt 6 = .ok (.getfield 19, 3) := by decide +kernel
theorem dX3_indexAt_9 : decode cX3_indexAt 9 = .ok (.invokevirtual 42, 3) := by decide +kernel
theorem dX3_indexAt_12 : decode cX3_indexAt 12 = .ok (.if_icmp .lt 13, 3) := by decide +kernel
theorem dX3_indexAt_15 : decode cX3_indexAt 15 = .ok (.new 164, 3) := by decide +kernel
theorem dX3_indexAt_18 : decode cX3_indexAt 18 = .ok (.dup, 1) := by decide +kernel
theorem dX3_indexAt_19 : decode cX3_indexAt 19 = .ok (.ldc 166, 2) := by decide +kernel
theorem dX3_indexAt_21 : decode cX3_indexAt 21 = .ok (.invokespecial 168, 3) := by decide +kernel
theorem dX3_indexAt_24 : decode cX3_indexAt 24 = .ok (.athrow, 1) := by decide +kernel
theorem dX3_indexAt_25 : decode cX3_indexAt 25 = .ok (.aload_n 0, 1) := by decide +kernel
theorem dX3_indexAt_26 : decode cX3_indexAt 26 = .ok (.getfield 19, 3) := by decide +kernel
theorem dX3_indexAt_29 : decode cX3_indexAt 29 = .ok (.iload_n 1, 1) := by decide +kernel
theorem dX3_indexAt_30 : decode cX3_indexAt 30 = .ok (.invokevirtual 96, 3) := by decide +kernel
theorem dX3_indexAt_33 : decode cX3_indexAt 33 = .ok (.checkcast 51, 3) := by decide +kernel
theorem dX3_indexAt_36 : decode cX3_indexAt 36 = .ok (.getfield 141, 3) := by decide +kernel
theorem dX3_indexAt_39 : decode cX3_indexAt 39 = .ok (.ireturn, 1) := by decide +kernel
theorem dX3_fanOut_0 : decode cX3_fanOut 0 = .ok (.iload_n 1, 1) := by decide +kernel
theorem dX3_fanOut_1 : decode cX3_fanOut 1 = .ok (.ifCond .lt 9, 3) := by decide +kernel
theorem dX3_fanOut_4 : decode cX3_fanOut 4 = .ok (.iload_n 1, 1) := by decide +kernel
theorem dX3_fanOut_5 : decode cX3_fanOut 5 = .ok (.bipush 16, 2) := by decide +kernel
theorem dX3_fanOut_7 : decode cX3_fanOut 7 = .ok (.if_icmp .lt 13, 3) := by decide +kernel
theorem dX3_fanOut_10 : decode cX3_fanOut 10 = .ok (.new 29, 3) := by decide +kernel
theorem dX3_fanOut_13 : decode cX3_fanOut 13 = .ok (.dup, 1) := by decide +kernel
theorem dX3_fanOut_14 : decode cX3_fanOut 14 = .ok (.ldc 169, 2) := by decide +kernel
theorem dX3_fanOut_16 : decode cX3_fanOut 16 = .ok (.invokespecial 33, 3) := by decide +kernel
theorem dX3_fanOut_19 : decode cX3_fanOut 19 = .ok (.athrow, 1) := by decide +kernel
theorem dX3_fanOut_20 : decode cX3_fanOut 20 = .ok (.aload_n 0, 1) := by decide +kernel
theorem dX3_fanOut_21 : decode cX3_fanOut 21 = .ok (.sipush 256, 3) := by decide +kernel
theorem dX3_fanOut_24 : decode cX3_fanOut 24 = .ok (.iload_n 1, 1) := by decide +kernel
theorem dX3_fanOut_25 : decode cX3_fanOut 25 = .ok (.iconst 1, 1) := by decide +kernel
theorem dX3_fanOut_26 : decode cX3_fanOut 26 = .ok (.iadd, 1) := by decide +kernel
theorem dX3_fanOut_27 : decode cX3_fanOut 27 = .ok (.imul, 1) := by decide +kernel
theorem dX3_fanOut_28 : decode cX3_fanOut 28 = .ok (.invokevirtual 171, 3) := by decide +kernel
theorem dX3_fanOut_31 : decode cX3_fanOut 31 = .ok (.ireturn, 1) := by decide +kernel
theorem dX3_find_0 : decode cX3_find 0 = .ok (.aload_n 0, 1) := by decide +kernel
theorem dX3_find_1 : decode cX3_find 1 = .ok (.iload_n 1, 1) := by decide +kernel
theorem dX3_find_2 : decode cX3_find 2 = .ok (.invokevirtual 175, 3) := by decide +kernel
theorem dX3_find_5 : decode cX3_find 5 = .ok (.getfield 179, 3) := by decide +kernel
theorem dX3_find_8 : decode cX3_find 8 = .ok (.astore_n 2, 1) := by decide +kernel
theorem dX3_find_9 : decode cX3_find 9 = .ok (.aload_n 2, 1) := by decide +kernel
theorem dX3_find_10 : decode cX3_find 10 = .ok (.ifnonnull 7, 3) := by decide +kernel
theorem dX3_find_13 : decode cX3_find 13 = .ok (.iconst (-1), 1) := by decide +kernel
theorem dX3_find_14 : decode cX3_find 14 = .ok (.goto 7, 3) := by decide +kernel
theorem dX3_find_17 : decode cX3_find 17 = .ok (.aload_n 2, 1) := by decide +kernel
theorem dX3_find_18 : decode cX3_find 18 = .ok (.getfield 141, 3) := by decide +kernel
theorem dX3_find_21 : decode cX3_find 21 = .ok (.ireturn, 1) := by decide +kernel
theorem dX3_looks_0 : decode cX3_looks 0 = .ok (.aload_n 0, 1) := by decide +kernel
theorem dX3_looks_1 : decode cX3_looks 1 = .ok (.iload_n 1, 1) := by decide +kernel
theorem dX3_looks_2 : decode cX3_looks 2 = .ok (.invokevirtual 175, 3) := by decide +kernel
theorem dX3_looks_5 : decode cX3_looks 5 = .ok (.getfield 184, 3) := by decide +kernel
theorem dX3_looks_8 : decode cX3_looks 8 = .ok (.ireturn, 1) := by decide +kernel
theorem dX3_itemOf_0 : decode cX3_itemOf 0 = .ok (.iload_n 1, 1) := by decide +kernel
theorem dX3_itemOf_1 : decode cX3_itemOf 1 = .ok (.ifCond .lt 14, 3) := by decide +kernel
theorem dX3_itemOf_4 : decode cX3_itemOf 4 = .ok (.iload_n 1, 1) := by decide +kernel
theorem dX3_itemOf_5 : decode cX3_itemOf 5 = .ok (.aload_n 0, 1) := by decide +kernel
theorem dX3_itemOf_6 : decode cX3_itemOf 6 = .ok (.getfield 10, 3) := by decide +kernel
theorem dX3_itemOf_9 : decode cX3_itemOf 9 = .ok (.invokevirtual 42, 3) := by decide +kernel
theorem dX3_itemOf_12 : decode cX3_itemOf 12 = .ok (.if_icmp .lt 13, 3) := by decide +kernel
theorem dX3_itemOf_15 : decode cX3_itemOf 15 = .ok (.new 164, 3) := by decide +kernel
theorem dX3_itemOf_18 : decode cX3_itemOf 18 = .ok (.dup, 1) := by decide +kernel
theorem dX3_itemOf_19 : decode cX3_itemOf 19 = .ok (.ldc 187, 2) := by decide +kernel
theorem dX3_itemOf_21 : decode cX3_itemOf 21 = .ok (.invokespecial 168, 3) := by decide +kernel
theorem dX3_itemOf_24 : decode cX3_itemOf 24 = .ok (.athrow, 1) := by decide +kernel
theorem dX3_itemOf_25 : decode cX3_itemOf 25 = .ok (.aload_n 0, 1) := by decide +kernel
theorem dX3_itemOf_26 : decode cX3_itemOf 26 = .ok (.getfield 10, 3) := by decide +kernel
theorem dX3_itemOf_29 : decode cX3_itemOf 29 = .ok (.iload_n 1, 1) := by decide +kernel
theorem dX3_itemOf_30 : decode cX3_itemOf 30 = .ok (.invokevirtual 96, 3) := by decide +kernel
theorem dX3_itemOf_33 : decode cX3_itemOf 33 = .ok (.checkcast 51, 3) := by decide +kernel
theorem dX3_itemOf_36 : decode cX3_itemOf 36 = .ok (.areturn, 1) := by decide +kernel
theorem dX3_formOf_0 : decode cX3_formOf 0 = .ok (.aload_n 0, 1) := by decide +kernel
theorem dX3_formOf_1 : decode cX3_formOf 1 = .ok (.iload_n 1, 1) := by decide +kernel
theorem dX3_formOf_2 : decode cX3_formOf 2 = .ok (.invokevirtual 60, 3) := by decide +kernel
theorem dX3_formOf_5 : decode cX3_formOf 5 = .ok (.getfield 108, 3) := by decide +kernel
theorem dX3_formOf_8 : decode cX3_formOf 8 = .ok (.astore_n 2, 1) := by decide +kernel
theorem dX3_formOf_9 : decode cX3_formOf 9 = .ok (.aload_n 2, 1) := by decide +kernel
theorem dX3_formOf_10 : decode cX3_formOf 10 = .ok (.ifnonnull 13, 3) := by decide +kernel
theorem dX3_formOf_13 : decode cX3_formOf 13 = .ok (.new 46, 3) := by decide +kernel
theorem dX3_formOf_16 : decode cX3_formOf 16 = .ok (.dup, 1) := by decide +kernel
theorem dX3_formOf_17 : decode cX3_formOf 17 = .ok (.ldc 150, 2) := by decide +kernel
theorem dX3_formOf_19 : decode cX3_formOf 19 = .ok (.invokespecial 50, 3) := by decide +kernel
theorem dX3_formOf_22 : decode cX3_formOf 22 = .ok (.athrow, 1) := by decide +kernel
theorem dX3_formOf_23 : decode cX3_formOf 23 = .ok (.aload_n 2, 1) := by decide +kernel
theorem dX3_formOf_24 : decode cX3_formOf 24 = .ok (.areturn, 1) := by decide +kernel
theorem dX3_countLive_0 : decode cX3_countLive 0 = .ok (.iconst 0, 1) := by decide +kernel
theorem dX3_countLive_1 : decode cX3_countLive 1 = .ok (.istore_n 1, 1) := by decide +kernel
theorem dX3_countLive_2 : decode cX3_countLive 2 = .ok (.iconst 0, 1) := by decide +kernel
theorem dX3_countLive_3 : decode cX3_countLive 3 = .ok (.istore_n 2, 1) := by decide +kernel
theorem dX3_countLive_4 : decode cX3_countLive 4 = .ok (.iload_n 2, 1) := by decide +kernel
theorem dX3_countLive_5 : decode cX3_countLive 5 = .ok (.aload_n 0, 1) := by decide +kernel
theorem dX3_countLive_6 : decode cX3_countLive 6 = .ok (.getfield 10, 3) := by decide +kernel
theorem dX3_countLive_9 : decode cX3_countLive 9 = .ok (.invokevirtual 42, 3) := by decide +kernel
theorem dX3_countLive_12 : decode cX3_countLive 12 = .ok (.if_icmp .ge 29, 3) := by decide +kernel
theorem dX3_countLive_15 : decode cX3_countLive 15 = .ok (.aload_n 0, 1) := by decide +kernel
theorem dX3_countLive_16 : decode cX3_countLive 16 = .ok (.getfield 10, 3) := by decide +kernel
theorem dX3_countLive_19 : decode cX3_countLive 19 = .ok (.iload_n 2, 1) := by decide +kernel
theorem dX3_countLive_20 : decode cX3_countLive 20 = .ok (.invokevirtual 96, 3) := by decide +kernel
theorem dX3_countLive_23 : decode cX3_countLive 23 = .ok (.checkcast 51, 3) := by decide +kernel
theorem dX3_countLive_26 : decode cX3_countLive 26 = .ok (.getfield 64, 3) := by decide +kernel
theorem dX3_countLive_29 : decode cX3_countLive 29 = .ok (.ifCond .eq 6, 3) := by decide +kernel
theorem dX3_countLive_32 : decode cX3_countLive 32 = .ok (.iinc 1 1, 3) := by decide +kernel
theorem dX3_countLive_35 : decode cX3_countLive 35 = .ok (.iinc 2 1, 3) := by decide +kernel
theorem dX3_countLive_38 : decode cX3_countLive 38 = .ok (.goto (-34), 3) := by decide +kernel
theorem dX3_countLive_41 : decode cX3_countLive 41 = .ok (.iload_n 1, 1) := by decide +kernel
theorem dX3_countLive_42 : decode cX3_countLive 42 = .ok (.ireturn, 1) := by decide +kernel
theorem dX3_countReadableFromPack_0 : decode cX3_countReadableFromPack 0 = .ok (.iconst 0, 1) := by decide +kernel
theorem dX3_countReadableFromPack_1 : decode cX3_countReadableFromPack 1 = .ok (.istore_n 1, 1) := by decide +kernel
theorem dX3_countReadableFromPack_2 : decode cX3_countReadableFromPack 2 = .ok (.iconst 0, 1) := by decide +kernel
theorem dX3_countReadableFromPack_3 : decode cX3_countReadableFromPack 3 = .ok (.istore_n 2, 1) := by decide +kernel
theorem dX3_countReadableFromPack_4 : decode cX3_countReadableFromPack 4 = .ok (.iload_n 2, 1) := by decide +kernel
theorem dX3_countReadableFromPack_5 : decode cX3_countReadableFromPack 5 = .ok (.aload_n 0, 1) := by decide +kernel
theorem dX3_countReadableFromPack_6 : decode cX3_countReadableFromPack 6 = .ok (.getfield 16, 3) := by decide +kernel
theorem dX3_countReadableFromPack_9 : decode cX3_countReadableFromPack 9 = .ok (.invokevirtual 42, 3) := by decide +kernel
theorem dX3_countReadableFromPack_12 : decode cX3_countReadableFromPack 12 = .ok (.if_icmp .ge 29, 3) := by decide +kernel
theorem dX3_countReadableFromPack_15 : decode cX3_countReadableFromPack 15 = .ok (.aload_n 0, 1) := by decide +kernel
theorem dX3_countReadableFromPack_16 : decode cX3_countReadableFromPack 16 = .ok (.getfield 16, 3) := by decide +kernel
theorem dX3_countReadableFromPack_19 : decode cX3_countReadableFromPack 19 = .ok (.iload_n 2, 1) := by decide +kernel
theorem dX3_countReadableFromPack_20 : decode cX3_countReadableFromPack 20 = .ok (.invokevirtual 96, 3) := by decide +kernel
theorem dX3_countReadableFromPack_23 : decode cX3_countReadableFromPack 23 = .ok (.checkcast 51, 3) := by decide +kernel
theorem dX3_countReadableFromPack_26 : decode cX3_countReadableFromPack 26 = .ok (.invokevirtual 118, 3) := by decide +kernel
theorem dX3_countReadableFromPack_29 : decode cX3_countReadableFromPack 29 = .ok (.ifCond .eq 6, 3) := by decide +kernel
theorem dX3_countReadableFromPack_32 : decode cX3_countReadableFromPack 32 = .ok (.iinc 1 1, 3) := by decide +kernel
theorem dX3_countReadableFromPack_35 : decode cX3_countReadableFromPack 35 = .ok (.iinc 2 1, 3) := by decide +kernel
theorem dX3_countReadableFromPack_38 : decode cX3_countReadableFromPack 38 = .ok (.goto (-34), 3) := by decide +kernel
theorem dX3_countReadableFromPack_41 : decode cX3_countReadableFromPack 41 = .ok (.iload_n 1, 1) := by decide +kernel
theorem dX3_countReadableFromPack_42 : decode cX3_countReadableFromPack 42 = .ok (.ireturn, 1) := by decide +kernel
theorem dX3_fillOrder_0 : decode cX3_fillOrder 0 = .ok (.aload_n 0, 1) := by decide +kernel
theorem dX3_fillOrder_1 : decode cX3_fillOrder 1 = .ok (.getfield 16, 3) := by decide +kernel
theorem dX3_fillOrder_4 : decode cX3_fillOrder 4 = .ok (.invokevirtual 189, 3) := by decide +kernel
theorem dX3_fillOrder_7 : decode cX3_fillOrder 7 = .ok (.iconst 0, 1) := by decide +kernel
theorem dX3_fillOrder_8 : decode cX3_fillOrder 8 = .ok (.istore_n 1, 1) := by decide +kernel
theorem dX3_fillOrder_9 : decode cX3_fillOrder 9 = .ok (.iload_n 1, 1) := by decide +kernel
theorem dX3_fillOrder_10 : decode cX3_fillOrder 10 = .ok (.aload_n 0, 1) := by decide +kernel
theorem dX3_fillOrder_11 : decode cX3_fillOrder 11 = .ok (.getfield 10, 3) := by decide +kernel
theorem dX3_fillOrder_14 : decode cX3_fillOrder 14 = .ok (.invokevirtual 42, 3) := by decide +kernel
theorem dX3_fillOrder_17 : decode cX3_fillOrder 17 = .ok (.if_icmp .ge 33, 3) := by decide +kernel
theorem dX3_fillOrder_20 : decode cX3_fillOrder 20 = .ok (.aload_n 0, 1) := by decide +kernel
theorem dX3_fillOrder_21 : decode cX3_fillOrder 21 = .ok (.getfield 10, 3) := by decide +kernel
theorem dX3_fillOrder_24 : decode cX3_fillOrder 24 = .ok (.iload_n 1, 1) := by decide +kernel
theorem dX3_fillOrder_25 : decode cX3_fillOrder 25 = .ok (.invokevirtual 96, 3) := by decide +kernel
theorem dX3_fillOrder_28 : decode cX3_fillOrder 28 = .ok (.checkcast 51, 3) := by decide +kernel
theorem dX3_fillOrder_31 : decode cX3_fillOrder 31 = .ok (.astore_n 2, 1) := by decide +kernel
theorem dX3_fillOrder_32 : decode cX3_fillOrder 32 = .ok (.aload_n 2, 1) := by decide +kernel
theorem dX3_fillOrder_33 : decode cX3_fillOrder 33 = .ok (.invokevirtual 76, 3) := by decide +kernel
theorem dX3_fillOrder_36 : decode cX3_fillOrder 36 = .ok (.ifCond .eq 8, 3) := by decide +kernel
theorem dX3_fillOrder_39 : decode cX3_fillOrder 39 = .ok (.aload_n 0, 1) := by decide +kernel
theorem dX3_fillOrder_40 : decode cX3_fillOrder 40 = .ok (.aload_n 2, 1) := by decide +kernel
theorem dX3_fillOrder_41 : decode cX3_fillOrder 41 = .ok (.invokevirtual 192, 3) := by decide +kernel
theorem dX3_fillOrder_44 : decode cX3_fillOrder 44 = .ok (.iinc 1 1, 3) := by decide +kernel
theorem dX3_fillOrder_47 : decode cX3_fillOrder 47 = .ok (.goto (-38), 3) := by decide +kernel
theorem dX3_fillOrder_50 : decode cX3_fillOrder 50 = .ok (.return_, 1) := by decide +kernel
theorem dX3_insertInOrder_0 : decode cX3_insertInOrder 0 = .ok (.iconst 0, 1) := by decide +kernel
theorem dX3_insertInOrder_1 : decode cX3_insertInOrder 1 = .ok (.istore_n 2, 1) := by decide +kernel
theorem dX3_insertInOrder_2 : decode cX3_insertInOrder 2 = .ok (.iload_n 2, 1) := by decide +kernel
theorem dX3_insertInOrder_3 : decode cX3_insertInOrder 3 = .ok (.aload_n 0, 1) := by decide +kernel
theorem dX3_insertInOrder_4 : decode cX3_insertInOrder 4 = .ok (.getfield 16, 3) := by decide +kernel
theorem dX3_insertInOrder_7 : decode cX3_insertInOrder 7 = .ok (.invokevirtual 42, 3) := by decide +kernel
theorem dX3_insertInOrder_10 : decode cX3_insertInOrder 10 = .ok (.if_icmp .ge 27, 3) := by decide +kernel
theorem dX3_insertInOrder_13 : decode cX3_insertInOrder 13 = .ok (.aload_n 0, 1) := by decide +kernel
theorem dX3_insertInOrder_14 : decode cX3_insertInOrder 14 = .ok (.getfield 16, 3) := by decide +kernel
theorem dX3_insertInOrder_17 : decode cX3_insertInOrder 17 = .ok (.iload_n 2, 1) := by decide +kernel
theorem dX3_insertInOrder_18 : decode cX3_insertInOrder 18 = .ok (.invokevirtual 96, 3) := by decide +kernel
theorem dX3_insertInOrder_21 : decode cX3_insertInOrder 21 = .ok (.checkcast 51, 3) := by decide +kernel
theorem dX3_insertInOrder_24 : decode cX3_insertInOrder 24 = .ok (.aload_n 1, 1) := by decide +kernel
theorem dX3_insertInOrder_25 : decode cX3_insertInOrder 25 = .ok (.invokestatic 196, 3) := by decide +kernel
theorem dX3_insertInOrder_28 : decode cX3_insertInOrder 28 = .ok (.ifCond .eq 9, 3) := by decide +kernel
theorem dX3_insertInOrder_31 : decode cX3_insertInOrder 31 = .ok (.iinc 2 1, 3) := by decide +kernel
theorem dX3_insertInOrder_34 : decode cX3_insertInOrder 34 = .ok (.goto (-32), 3) := by decide +kernel
theorem dX3_insertInOrder_37 : decode cX3_insertInOrder 37 = .ok (.aload_n 0, 1) := by decide +kernel
theorem dX3_insertInOrder_38 : decode cX3_insertInOrder 38 = .ok (.getfield 16, 3) := by decide +kernel
theorem dX3_insertInOrder_41 : decode cX3_insertInOrder 41 = .ok (.iload_n 2, 1) := by decide +kernel
theorem dX3_insertInOrder_42 : decode cX3_insertInOrder 42 = .ok (.aload_n 1, 1) := by decide +kernel
theorem dX3_insertInOrder_43 : decode cX3_insertInOrder 43 = .ok (.invokevirtual 200, 3) := by decide +kernel
theorem dX3_insertInOrder_46 : decode cX3_insertInOrder 46 = .ok (.return_, 1) := by decide +kernel
theorem dX3_isPackedAhead_0 : decode cX3_isPackedAhead 0 = .ok (.aload_n 0, 1) := by decide +kernel
theorem dX3_isPackedAhead_1 : decode cX3_isPackedAhead 1 = .ok (.getfield 203, 3) := by decide +kernel
theorem dX3_isPackedAhead_4 : decode cX3_isPackedAhead 4 = .ok (.aload_n 1, 1) := by decide +kernel
theorem dX3_isPackedAhead_5 : decode cX3_isPackedAhead 5 = .ok (.getfield 203, 3) := by decide +kernel
theorem dX3_isPackedAhead_8 : decode cX3_isPackedAhead 8 = .ok (.if_icmp .eq 20, 3) := by decide +kernel
theorem dX3_isPackedAhead_11 : decode cX3_isPackedAhead 11 = .ok (.aload_n 0, 1) := by decide +kernel
theorem dX3_isPackedAhead_12 : decode cX3_isPackedAhead 12 = .ok (.getfield 203, 3) := by decide +kernel
theorem dX3_isPackedAhead_15 : decode cX3_isPackedAhead 15 = .ok (.aload_n 1, 1) := by decide +kernel
theorem dX3_isPackedAhead_16 : decode cX3_isPackedAhead 16 = .ok (.getfield 203, 3) := by decide +kernel
theorem dX3_isPackedAhead_19 : decode cX3_isPackedAhead 19 = .ok (.if_icmp .ge 7, 3) := by decide +kernel
theorem dX3_isPackedAhead_22 : decode cX3_isPackedAhead 22 = .ok (.iconst 1, 1) := by decide +kernel
theorem dX3_isPackedAhead_23 : decode cX3_isPackedAhead 23 = .ok (.goto 4, 3) := by decide +kernel
theorem dX3_isPackedAhead_26 : decode cX3_isPackedAhead 26 = .ok (.iconst 0, 1) := by decide +kernel
theorem dX3_isPackedAhead_27 : decode cX3_isPackedAhead 27 = .ok (.ireturn, 1) := by decide +kernel
theorem dX3_isPackedAhead_28 : decode cX3_isPackedAhead 28 = .ok (.aload_n 0, 1) := by decide +kernel
theorem dX3_isPackedAhead_29 : decode cX3_isPackedAhead 29 = .ok (.getfield 206, 3) := by decide +kernel
theorem dX3_isPackedAhead_32 : decode cX3_isPackedAhead 32 = .ok (.aload_n 1, 1) := by decide +kernel
theorem dX3_isPackedAhead_33 : decode cX3_isPackedAhead 33 = .ok (.getfield 206, 3) := by decide +kernel
theorem dX3_isPackedAhead_36 : decode cX3_isPackedAhead 36 = .ok (.if_icmp .eq 20, 3) := by decide +kernel
theorem dX3_isPackedAhead_39 : decode cX3_isPackedAhead 39 = .ok (.aload_n 0, 1) := by decide +kernel
theorem dX3_isPackedAhead_40 : decode cX3_isPackedAhead 40 = .ok (.getfield 206, 3) := by decide +kernel
theorem dX3_isPackedAhead_43 : decode cX3_isPackedAhead 43 = .ok (.aload_n 1, 1) := by decide +kernel
theorem dX3_isPackedAhead_44 : decode cX3_isPackedAhead 44 = .ok (.getfield 206, 3) := by decide +kernel
theorem dX3_isPackedAhead_47 : decode cX3_isPackedAhead 47 = .ok (.if_icmp .le 7, 3) := by decide +kernel
theorem dX3_isPackedAhead_50 : decode cX3_isPackedAhead 50 = .ok (.iconst 1, 1) := by decide +kernel
theorem dX3_isPackedAhead_51 : decode cX3_isPackedAhead 51 = .ok (.goto 4, 3) := by decide +kernel
theorem dX3_isPackedAhead_54 : decode cX3_isPackedAhead 54 = .ok (.iconst 0, 1) := by decide +kernel
theorem dX3_isPackedAhead_55 : decode cX3_isPackedAhead 55 = .ok (.ireturn, 1) := by decide +kernel
theorem dX3_isPackedAhead_56 : decode cX3_isPackedAhead 56 = .ok (.aload_n 0, 1) := by decide +kernel
theorem dX3_isPackedAhead_57 : decode cX3_isPackedAhead 57 = .ok (.getfield 141, 3) := by decide +kernel
theorem dX3_isPackedAhead_60 : decode cX3_isPackedAhead 60 = .ok (.aload_n 1, 1) := by decide +kernel
theorem dX3_isPackedAhead_61 : decode cX3_isPackedAhead 61 = .ok (.getfield 141, 3) := by decide +kernel
theorem dX3_isPackedAhead_64 : decode cX3_isPackedAhead 64 = .ok (.if_icmp .ge 7, 3) := by decide +kernel
theorem dX3_isPackedAhead_67 : decode cX3_isPackedAhead 67 = .ok (.iconst 1, 1) := by decide +kernel
theorem dX3_isPackedAhead_68 : decode cX3_isPackedAhead 68 = .ok (.goto 4, 3) := by decide +kernel
theorem dX3_isPackedAhead_71 : decode cX3_isPackedAhead 71 = .ok (.iconst 0, 1) := by decide +kernel
theorem dX3_isPackedAhead_72 : decode cX3_isPackedAhead 72 = .ok (.ireturn, 1) := by decide +kernel
theorem dX3_putFormsAside_0 : decode cX3_putFormsAside 0 = .ok (.iconst 0, 1) := by decide +kernel
theorem dX3_putFormsAside_1 : decode cX3_putFormsAside 1 = .ok (.istore_n 1, 1) := by decide +kernel
theorem dX3_putFormsAside_2 : decode cX3_putFormsAside 2 = .ok (.iload_n 1, 1) := by decide +kernel
theorem dX3_putFormsAside_3 : decode cX3_putFormsAside 3 = .ok (.aload_n 0, 1) := by decide +kernel
theorem dX3_putFormsAside_4 : decode cX3_putFormsAside 4 = .ok (.getfield 10, 3) := by decide +kernel
theorem dX3_putFormsAside_7 : decode cX3_putFormsAside 7 = .ok (.invokevirtual 42, 3) := by decide +kernel
theorem dX3_putFormsAside_10 : decode cX3_putFormsAside 10 = .ok (.if_icmp .ge 34, 3) := by decide +kernel
theorem dX3_putFormsAside_13 : decode cX3_putFormsAside 13 = .ok (.aload_n 0, 1) := by decide +kernel
theorem dX3_putFormsAside_14 : decode cX3_putFormsAside 14 = .ok (.getfield 10, 3) := by decide +kernel
theorem dX3_putFormsAside_17 : decode cX3_putFormsAside 17 = .ok (.iload_n 1, 1) := by decide +kernel
theorem dX3_putFormsAside_18 : decode cX3_putFormsAside 18 = .ok (.invokevirtual 96, 3) := by decide +kernel
theorem dX3_putFormsAside_21 : decode cX3_putFormsAside 21 = .ok (.checkcast 51, 3) := by decide +kernel
theorem dX3_putFormsAside_24 : decode cX3_putFormsAside 24 = .ok (.astore_n 2, 1) := by decide +kernel
theorem dX3_putFormsAside_25 : decode cX3_putFormsAside 25 = .ok (.aload_n 2, 1) := by decide +kernel
theorem dX3_putFormsAside_26 : decode cX3_putFormsAside 26 = .ok (.aload_n 2, 1) := by decide +kernel
theorem dX3_putFormsAside_27 : decode cX3_putFormsAside 27 = .ok (.getfield 108, 3) := by decide +kernel
theorem dX3_putFormsAside_30 : decode cX3_putFormsAside 30 = .ok (.putfield 209, 3) := by decide +kernel
theorem dX3_putFormsAside_33 : decode cX3_putFormsAside 33 = .ok (.aload_n 2, 1) := by decide +kernel
theorem dX3_putFormsAside_34 : decode cX3_putFormsAside 34 = .ok (.aconst_null, 1) := by decide +kernel
theorem dX3_putFormsAside_35 : decode cX3_putFormsAside 35 = .ok (.putfield 108, 3) := by decide +kernel
theorem dX3_putFormsAside_38 : decode cX3_putFormsAside 38 = .ok (.iinc 1 1, 3) := by decide +kernel
theorem dX3_putFormsAside_41 : decode cX3_putFormsAside 41 = .ok (.goto (-39), 3) := by decide +kernel
theorem dX3_putFormsAside_44 : decode cX3_putFormsAside 44 = .ok (.return_, 1) := by decide +kernel
theorem dX3_reuseForm_0 : decode cX3_reuseForm 0 = .ok (.aload_n 1, 1) := by decide +kernel
theorem dX3_reuseForm_1 : decode cX3_reuseForm 1 = .ok (.getfield 209, 3) := by decide +kernel
theorem dX3_reuseForm_4 : decode cX3_reuseForm 4 = .ok (.astore_n 3, 1) := by decide +kernel
theorem dX3_reuseForm_5 : decode cX3_reuseForm 5 = .ok (.aload_n 3, 1) := by decide +kernel
theorem dX3_reuseForm_6 : decode cX3_reuseForm 6 = .ok (.ifnull 17, 3) := by decide +kernel
theorem dX3_reuseForm_9 : decode cX3_reuseForm 9 = .ok (.aload_n 3, 1) := by decide +kernel
theorem dX3_reuseForm_10 : decode cX3_reuseForm 10 = .ok (.getfield 137, 3) := by decide +kernel
theorem dX3_reuseForm_13 : decode cX3_reuseForm 13 = .ok (.ifnull 10, 3) := by decide +kernel
theorem dX3_reuseForm_16 : decode cX3_reuseForm 16 = .ok (.aload_n 3, 1) := by decide +kernel
theorem dX3_reuseForm_17 : decode cX3_reuseForm 17 = .ok (.getfield 125, 3) := by decide +kernel
theorem dX3_reuseForm_20 : decode cX3_reuseForm 20 = .ok (.ifCond .eq 5, 3) := by decide +kernel
theorem dX3_reuseForm_23 : decode cX3_reuseForm 23 = .ok (.aconst_null, 1) := by decide +kernel
theorem dX3_reuseForm_24 : decode cX3_reuseForm 24 = .ok (.areturn, 1) := by decide +kernel
theorem dX3_reuseForm_25 : decode cX3_reuseForm 25 = .ok (.aload_n 3, 1) := by decide +kernel
theorem dX3_reuseForm_26 : decode cX3_reuseForm 26 = .ok (.getfield 137, 3) := by decide +kernel
theorem dX3_reuseForm_29 : decode cX3_reuseForm 29 = .ok (.getfield 108, 3) := by decide +kernel
theorem dX3_reuseForm_32 : decode cX3_reuseForm 32 = .ok (.astore 4, 2) := by decide +kernel
theorem dX3_reuseForm_34 : decode cX3_reuseForm 34 = .ok (.aload 4, 2) := by decide +kernel
theorem dX3_reuseForm_36 : decode cX3_reuseForm 36 = .ok (.ifnull 12, 3) := by decide +kernel
theorem dX3_reuseForm_39 : decode cX3_reuseForm 39 = .ok (.aload 4, 2) := by decide +kernel
theorem dX3_reuseForm_41 : decode cX3_reuseForm 41 = .ok (.getfield 144, 3) := by decide +kernel
theorem dX3_reuseForm_44 : decode cX3_reuseForm 44 = .ok (.iload_n 2, 1) := by decide +kernel
theorem dX3_reuseForm_45 : decode cX3_reuseForm 45 = .ok (.if_icmp .lt 5, 3) := by decide +kernel
theorem dX3_reuseForm_48 : decode cX3_reuseForm 48 = .ok (.aconst_null, 1) := by decide +kernel
theorem dX3_reuseForm_49 : decode cX3_reuseForm 49 = .ok (.areturn, 1) := by decide +kernel
theorem dX3_reuseForm_50 : decode cX3_reuseForm 50 = .ok (.aload_n 0, 1) := by decide +kernel
theorem dX3_reuseForm_51 : decode cX3_reuseForm 51 = .ok (.dup, 1) := by decide +kernel
theorem dX3_reuseForm_52 : decode cX3_reuseForm 52 = .ok (.getfield 26, 3) := by decide +kernel
theorem dX3_reuseForm_55 : decode cX3_reuseForm 55 = .ok (.iconst 1, 1) := by decide +kernel
theorem dX3_reuseForm_56 : decode cX3_reuseForm 56 = .ok (.iadd, 1) := by decide +kernel
theorem dX3_reuseForm_57 : decode cX3_reuseForm 57 = .ok (.putfield 26, 3) := by decide +kernel
theorem dX3_reuseForm_60 : decode cX3_reuseForm 60 = .ok (.new 126, 3) := by decide +kernel
theorem dX3_reuseForm_63 : decode cX3_reuseForm 63 = .ok (.dup, 1) := by decide +kernel
theorem dX3_reuseForm_64 : decode cX3_reuseForm 64 = .ok (.aload_n 3, 1) := by decide +kernel
theorem dX3_reuseForm_65 : decode cX3_reuseForm 65 = .ok (.getfield 137, 3) := by decide +kernel
theorem dX3_reuseForm_68 : decode cX3_reuseForm 68 = .ok (.aload 4, 2) := by decide +kernel
theorem dX3_reuseForm_70 : decode cX3_reuseForm 70 = .ok (.getfield 144, 3) := by decide +kernel
theorem dX3_reuseForm_73 : decode cX3_reuseForm 73 = .ok (.iconst 1, 1) := by decide +kernel
theorem dX3_reuseForm_74 : decode cX3_reuseForm 74 = .ok (.iadd, 1) := by decide +kernel
theorem dX3_reuseForm_75 : decode cX3_reuseForm 75 = .ok (.aload_n 3, 1) := by decide +kernel
theorem dX3_reuseForm_76 : decode cX3_reuseForm 76 = .ok (.getfield 147, 3) := by decide +kernel
theorem dX3_reuseForm_79 : decode cX3_reuseForm 79 = .ok (.aload_n 3, 1) := by decide +kernel
theorem dX3_reuseForm_80 : decode cX3_reuseForm 80 = .ok (.getfield 135, 3) := by decide +kernel
theorem dX3_reuseForm_83 : decode cX3_reuseForm 83 = .ok (.invokespecial 212, 3) := by decide +kernel
theorem dX3_reuseForm_86 : decode cX3_reuseForm 86 = .ok (.areturn, 1) := by decide +kernel
theorem dX3_findForm_0 : decode cX3_findForm 0 = .ok (.aconst_null, 1) := by decide +kernel
theorem dX3_findForm_1 : decode cX3_findForm 1 = .ok (.astore 5, 2) := by decide +kernel
theorem dX3_findForm_3 : decode cX3_findForm 3 = .ok (.aload_n 1, 1) := by decide +kernel
theorem dX3_findForm_4 : decode cX3_findForm 4 = .ok (.getfield 206, 3) := by decide +kernel
theorem dX3_findForm_7 : decode cX3_findForm 7 = .ok (.istore 6, 2) := by decide +kernel
theorem dX3_findForm_9 : decode cX3_findForm 9 = .ok (.iconst 0, 1) := by decide +kernel
theorem dX3_findForm_10 : decode cX3_findForm 10 = .ok (.istore 7, 2) := by decide +kernel
theorem dX3_findForm_12 : decode cX3_findForm 12 = .ok (.iload_n 2, 1) := by decide +kernel
theorem dX3_findForm_13 : decode cX3_findForm 13 = .ok (.aload_n 0, 1) := by decide +kernel
theorem dX3_findForm_14 : decode cX3_findForm 14 = .ok (.getfield 16, 3) := by decide +kernel
theorem dX3_findForm_17 : decode cX3_findForm 17 = .ok (.invokevirtual 42, 3) := by decide +kernel
theorem dX3_findForm_20 : decode cX3_findForm 20 = .ok (.invokestatic 215, 3) := by decide +kernel
theorem dX3_findForm_23 : decode cX3_findForm 23 = .ok (.iconst 1, 1) := by decide +kernel
theorem dX3_findForm_24 : decode cX3_findForm 24 = .ok (.isub, 1) := by decide +kernel
theorem dX3_findForm_25 : decode cX3_findForm 25 = .ok (.istore 8, 2) := by decide +kernel
theorem dX3_findForm_27 : decode cX3_findForm 27 = .ok (.iload 8, 2) := by decide +kernel
theorem dX3_findForm_29 : decode cX3_findForm 29 = .ok (.ifCond .lt 95, 3) := by decide +kernel
theorem dX3_findForm_32 : decode cX3_findForm 32 = .ok (.iload 8, 2) := by decide +kernel
theorem dX3_findForm_34 : decode cX3_findForm 34 = .ok (.iload_n 2, 1) := by decide +kernel
theorem dX3_findForm_35 : decode cX3_findForm 35 = .ok (.iload_n 3, 1) := by decide +kernel
theorem dX3_findForm_36 : decode cX3_findForm 36 = .ok (.isub, 1) := by decide +kernel
theorem dX3_findForm_37 : decode cX3_findForm 37 = .ok (.if_icmp .lt 87, 3) := by decide +kernel
theorem dX3_findForm_40 : decode cX3_findForm 40 = .ok (.aload_n 0, 1) := by decide +kernel
theorem dX3_findForm_41 : decode cX3_findForm 41 = .ok (.getfield 16, 3) := by decide +kernel
theorem dX3_findForm_44 : decode cX3_findForm 44 = .ok (.iload 8, 2) := by decide +kernel
theorem dX3_findForm_46 : decode cX3_findForm 46 = .ok (.invokevirtual 96, 3) := by decide +kernel
theorem dX3_findForm_49 : decode cX3_findForm 49 = .ok (.checkcast 51, 3) := by decide +kernel
theorem dX3_findForm_52 : decode cX3_findForm 52 = .ok (.astore 9, 2) := by decide +kernel
theorem dX3_findForm_54 : decode cX3_findForm 54 = .ok (.aload 9, 2) := by decide +kernel
theorem dX3_findForm_56 : decode cX3_findForm 56 = .ok (.getfield 108, 3) := by decide +kernel
theorem dX3_findForm_59 : decode cX3_findForm 59 = .ok (.astore 10, 2) := by decide +kernel
theorem dX3_findForm_61 : decode cX3_findForm 61 = .ok (.aload 10, 2) := by decide +kernel
theorem dX3_findForm_63 : decode cX3_findForm 63 = .ok (.ifnull 55, 3) := by decide +kernel
theorem dX3_findForm_66 : decode cX3_findForm 66 = .ok (.aload 10, 2) := by decide +kernel
theorem dX3_findForm_68 : decode cX3_findForm 68 = .ok (.getfield 144, 3) := by decide +kernel
theorem dX3_findForm_71 : decode cX3_findForm 71 = .ok (.iload 4, 2) := by decide +kernel
theorem dX3_findForm_73 : decode cX3_findForm 73 = .ok (.if_icmp .ge 45, 3) := by decide +kernel
theorem dX3_findForm_76 : decode cX3_findForm 76 = .ok (.aload_n 0, 1) := by decide +kernel
theorem dX3_findForm_77 : decode cX3_findForm 77 = .ok (.dup, 1) := by decide +kernel
theorem dX3_findForm_78 : decode cX3_findForm 78 = .ok (.getfield 22, 3) := by decide +kernel
theorem dX3_findForm_81 : decode cX3_findForm 81 = .ok (.iconst 1, 1) := by decide +kernel
theorem dX3_findForm_82 : decode cX3_findForm 82 = .ok (.iadd, 1) := by decide +kernel
theorem dX3_findForm_83 : decode cX3_findForm 83 = .ok (.putfield 22, 3) := by decide +kernel
theorem dX3_findForm_86 : decode cX3_findForm 86 = .ok (.aload_n 1, 1) := by decide +kernel
theorem dX3_findForm_87 : decode cX3_findForm 87 = .ok (.aload 9, 2) := by decide +kernel
theorem dX3_findForm_89 : decode cX3_findForm 89 = .ok (.invokestatic 156, 3) := by decide +kernel
theorem dX3_findForm_92 : decode cX3_findForm 92 = .ok (.istore 11, 2) := by decide +kernel
theorem dX3_findForm_94 : decode cX3_findForm 94 = .ok (.iload 11, 2) := by decide +kernel
theorem dX3_findForm_96 : decode cX3_findForm 96 = .ok (.iload 6, 2) := by decide +kernel
theorem dX3_findForm_98 : decode cX3_findForm 98 = .ok (.if_icmp .ge 20, 3) := by decide +kernel
theorem dX3_findForm_101 : decode cX3_findForm 101 = .ok (.aload 9, 2) := by decide +kernel
theorem dX3_findForm_103 : decode cX3_findForm 103 = .ok (.astore 5, 2) := by decide +kernel
theorem dX3_findForm_105 : decode cX3_findForm 105 = .ok (.iload 11, 2) := by decide +kernel
theorem dX3_findForm_107 : decode cX3_findForm 107 = .ok (.istore 6, 2) := by decide +kernel
theorem dX3_findForm_109 : decode cX3_findForm 109 = .ok (.aload 10, 2) := by decide +kernel
theorem dX3_findForm_111 : decode cX3_findForm 111 = .ok (.getfield 144, 3) := by decide +kernel
theorem dX3_findForm_114 : decode cX3_findForm 114 = .ok (.iconst 1, 1) := by decide +kernel
theorem dX3_findForm_115 : decode cX3_findForm 115 = .ok (.iadd, 1) := by decide +kernel
theorem dX3_findForm_116 : decode cX3_findForm 116 = .ok (.istore 7, 2) := by decide +kernel
theorem dX3_findForm_118 : decode cX3_findForm 118 = .ok (.iinc 8 (-1), 3) := by decide +kernel
theorem dX3_findForm_121 : decode cX3_findForm 121 = .ok (.goto (-94), 3) := by decide +kernel
theorem dX3_findForm_124 : decode cX3_findForm 124 = .ok (.aload 5, 2) := by decide +kernel
theorem dX3_findForm_126 : decode cX3_findForm 126 = .ok (.ifnonnull 7, 3) := by decide +kernel
theorem dX3_findForm_129 : decode cX3_findForm 129 = .ok (.iconst 1, 1) := by decide +kernel
theorem dX3_findForm_130 : decode cX3_findForm 130 = .ok (.goto 10, 3) := by decide +kernel
theorem dX3_findForm_133 : decode cX3_findForm 133 = .ok (.aload_n 1, 1) := by decide +kernel
theorem dX3_findForm_134 : decode cX3_findForm 134 = .ok (.aload 5, 2) := by decide +kernel
theorem dX3_findForm_136 : decode cX3_findForm 136 = .ok (.iconst 1, 1) := by decide +kernel
theorem dX3_findForm_137 : decode cX3_findForm 137 = .ok (.invokestatic 221, 3) := by decide +kernel
theorem dX3_findForm_140 : decode cX3_findForm 140 = .ok (.istore 8, 2) := by decide +kernel
theorem dX3_findForm_142 : decode cX3_findForm 142 = .ok (.new 126, 3) := by decide +kernel
theorem dX3_findForm_145 : decode cX3_findForm 145 = .ok (.dup, 1) := by decide +kernel
theorem dX3_findForm_146 : decode cX3_findForm 146 = .ok (.aload 5, 2) := by decide +kernel
theorem dX3_findForm_148 : decode cX3_findForm 148 = .ok (.iload 7, 2) := by decide +kernel
theorem dX3_findForm_150 : decode cX3_findForm 150 = .ok (.iload 8, 2) := by decide +kernel
theorem dX3_findForm_152 : decode cX3_findForm 152 = .ok (.iload 6, 2) := by decide +kernel
theorem dX3_findForm_154 : decode cX3_findForm 154 = .ok (.invokespecial 212, 3) := by decide +kernel
theorem dX3_findForm_157 : decode cX3_findForm 157 = .ok (.areturn, 1) := by decide +kernel
theorem dX3_fillIndex_0 : decode cX3_fillIndex 0 = .ok (.aload_n 0, 1) := by decide +kernel
theorem dX3_fillIndex_1 : decode cX3_fillIndex 1 = .ok (.getfield 19, 3) := by decide +kernel
theorem dX3_fillIndex_4 : decode cX3_fillIndex 4 = .ok (.invokevirtual 189, 3) := by decide +kernel
theorem dX3_fillIndex_7 : decode cX3_fillIndex 7 = .ok (.iconst 0, 1) := by decide +kernel
theorem dX3_fillIndex_8 : decode cX3_fillIndex 8 = .ok (.istore_n 1, 1) := by decide +kernel
theorem dX3_fillIndex_9 : decode cX3_fillIndex 9 = .ok (.iload_n 1, 1) := by decide +kernel
theorem dX3_fillIndex_10 : decode cX3_fillIndex 10 = .ok (.aload_n 0, 1) := by decide +kernel
theorem dX3_fillIndex_11 : decode cX3_fillIndex 11 = .ok (.getfield 16, 3) := by decide +kernel
theorem dX3_fillIndex_14 : decode cX3_fillIndex 14 = .ok (.invokevirtual 42, 3) := by decide +kernel
theorem dX3_fillIndex_17 : decode cX3_fillIndex 17 = .ok (.if_icmp .ge 24, 3) := by decide +kernel
theorem dX3_fillIndex_20 : decode cX3_fillIndex 20 = .ok (.aload_n 0, 1) := by decide +kernel
theorem dX3_fillIndex_21 : decode cX3_fillIndex 21 = .ok (.aload_n 0, 1) := by decide +kernel
theorem dX3_fillIndex_22 : decode cX3_fillIndex 22 = .ok (.getfield 16, 3) := by decide +kernel
theorem dX3_fillIndex_25 : decode cX3_fillIndex 25 = .ok (.iload_n 1, 1) := by decide +kernel
theorem dX3_fillIndex_26 : decode cX3_fillIndex 26 = .ok (.invokevirtual 96, 3) := by decide +kernel
theorem dX3_fillIndex_29 : decode cX3_fillIndex 29 = .ok (.checkcast 51, 3) := by decide +kernel
theorem dX3_fillIndex_32 : decode cX3_fillIndex 32 = .ok (.invokevirtual 225, 3) := by decide +kernel
theorem dX3_fillIndex_35 : decode cX3_fillIndex 35 = .ok (.iinc 1 1, 3) := by decide +kernel
theorem dX3_fillIndex_38 : decode cX3_fillIndex 38 = .ok (.goto (-29), 3) := by decide +kernel
theorem dX3_fillIndex_41 : decode cX3_fillIndex 41 = .ok (.return_, 1) := by decide +kernel
theorem dX3_insertInIndex_0 : decode cX3_insertInIndex 0 = .ok (.iconst 0, 1) := by decide +kernel
theorem dX3_insertInIndex_1 : decode cX3_insertInIndex 1 = .ok (.istore_n 2, 1) := by decide +kernel
theorem dX3_insertInIndex_2 : decode cX3_insertInIndex 2 = .ok (.iload_n 2, 1) := by decide +kernel
theorem dX3_insertInIndex_3 : decode cX3_insertInIndex 3 = .ok (.aload_n 0, 1) := by decide +kernel
theorem dX3_insertInIndex_4 : decode cX3_insertInIndex 4 = .ok (.getfield 19, 3) := by decide +kernel
theorem dX3_insertInIndex_7 : decode cX3_insertInIndex 7 = .ok (.invokevirtual 42, 3) := by decide +kernel
theorem dX3_insertInIndex_10 : decode cX3_insertInIndex 10 = .ok (.if_icmp .ge 27, 3) := by decide +kernel
theorem dX3_insertInIndex_13 : decode cX3_insertInIndex 13 = .ok (.aload_n 0, 1) := by decide +kernel
theorem dX3_insertInIndex_14 : decode cX3_insertInIndex 14 = .ok (.getfield 19, 3) := by decide +kernel
theorem dX3_insertInIndex_17 : decode cX3_insertInIndex 17 = .ok (.iload_n 2, 1) := by decide +kernel
theorem dX3_insertInIndex_18 : decode cX3_insertInIndex 18 = .ok (.invokevirtual 96, 3) := by decide +kernel
theorem dX3_insertInIndex_21 : decode cX3_insertInIndex 21 = .ok (.checkcast 51, 3) := by decide +kernel
theorem dX3_insertInIndex_24 : decode cX3_insertInIndex 24 = .ok (.aload_n 1, 1) := by decide +kernel
theorem dX3_insertInIndex_25 : decode cX3_insertInIndex 25 = .ok (.invokestatic 228, 3) := by decide +kernel
theorem dX3_insertInIndex_28 : decode cX3_insertInIndex 28 = .ok (.ifCond .eq 9, 3) := by decide +kernel
theorem dX3_insertInIndex_31 : decode cX3_insertInIndex 31 = .ok (.iinc 2 1, 3) := by decide +kernel
theorem dX3_insertInIndex_34 : decode cX3_insertInIndex 34 = .ok (.goto (-32), 3) := by decide +kernel
theorem dX3_insertInIndex_37 : decode cX3_insertInIndex 37 = .ok (.aload_n 0, 1) := by decide +kernel
theorem dX3_insertInIndex_38 : decode cX3_insertInIndex 38 = .ok (.getfield 19, 3) := by decide +kernel
theorem dX3_insertInIndex_41 : decode cX3_insertInIndex 41 = .ok (.iload_n 2, 1) := by decide +kernel
theorem dX3_insertInIndex_42 : decode cX3_insertInIndex 42 = .ok (.aload_n 1, 1) := by decide +kernel
theorem dX3_insertInIndex_43 : decode cX3_insertInIndex 43 = .ok (.invokevirtual 200, 3) := by decide +kernel
theorem dX3_insertInIndex_46 : decode cX3_insertInIndex 46 = .ok (.return_, 1) := by decide +kernel
theorem dX3_isIndexedAhead_0 : decode cX3_isIndexedAhead 0 = .ok (.aload_n 0, 1) := by decide +kernel
theorem dX3_isIndexedAhead_1 : decode cX3_isIndexedAhead 1 = .ok (.getfield 231, 3) := by decide +kernel
theorem dX3_isIndexedAhead_4 : decode cX3_isIndexedAhead 4 = .ok (.aload_n 1, 1) := by decide +kernel
theorem dX3_isIndexedAhead_5 : decode cX3_isIndexedAhead 5 = .ok (.getfield 231, 3) := by decide +kernel
theorem dX3_isIndexedAhead_8 : decode cX3_isIndexedAhead 8 = .ok (.if_icmp .eq 20, 3) := by decide +kernel
theorem dX3_isIndexedAhead_11 : decode cX3_isIndexedAhead 11 = .ok (.aload_n 0, 1) := by decide +kernel
theorem dX3_isIndexedAhead_12 : decode cX3_isIndexedAhead 12 = .ok (.getfield 231, 3) := by decide +kernel
theorem dX3_isIndexedAhead_15 : decode cX3_isIndexedAhead 15 = .ok (.aload_n 1, 1) := by decide +kernel
theorem dX3_isIndexedAhead_16 : decode cX3_isIndexedAhead 16 = .ok (.getfield 231, 3) := by decide +kernel
theorem dX3_isIndexedAhead_19 : decode cX3_isIndexedAhead 19 = .ok (.if_icmp .ge 7, 3) := by decide +kernel
theorem dX3_isIndexedAhead_22 : decode cX3_isIndexedAhead 22 = .ok (.iconst 1, 1) := by decide +kernel
theorem dX3_isIndexedAhead_23 : decode cX3_isIndexedAhead 23 = .ok (.goto 4, 3) := by decide +kernel
theorem dX3_isIndexedAhead_26 : decode cX3_isIndexedAhead 26 = .ok (.iconst 0, 1) := by decide +kernel
theorem dX3_isIndexedAhead_27 : decode cX3_isIndexedAhead 27 = .ok (.ireturn, 1) := by decide +kernel
theorem dX3_isIndexedAhead_28 : decode cX3_isIndexedAhead 28 = .ok (.aload_n 0, 1) := by decide +kernel
theorem dX3_isIndexedAhead_29 : decode cX3_isIndexedAhead 29 = .ok (.getfield 141, 3) := by decide +kernel
theorem dX3_isIndexedAhead_32 : decode cX3_isIndexedAhead 32 = .ok (.aload_n 1, 1) := by decide +kernel
theorem dX3_isIndexedAhead_33 : decode cX3_isIndexedAhead 33 = .ok (.getfield 141, 3) := by decide +kernel
theorem dX3_isIndexedAhead_36 : decode cX3_isIndexedAhead 36 = .ok (.if_icmp .ge 7, 3) := by decide +kernel
theorem dX3_isIndexedAhead_39 : decode cX3_isIndexedAhead 39 = .ok (.iconst 1, 1) := by decide +kernel
theorem dX3_isIndexedAhead_40 : decode cX3_isIndexedAhead 40 = .ok (.goto 4, 3) := by decide +kernel
theorem dX3_isIndexedAhead_43 : decode cX3_isIndexedAhead 43 = .ok (.iconst 0, 1) := by decide +kernel
theorem dX3_isIndexedAhead_44 : decode cX3_isIndexedAhead 44 = .ok (.ireturn, 1) := by decide +kernel
theorem dX3_countHashesBelow_0 : decode cX3_countHashesBelow 0 = .ok (.iconst 0, 1) := by decide +kernel
theorem dX3_countHashesBelow_1 : decode cX3_countHashesBelow 1 = .ok (.istore_n 2, 1) := by decide +kernel
theorem dX3_countHashesBelow_2 : decode cX3_countHashesBelow 2 = .ok (.iconst 0, 1) := by decide +kernel
theorem dX3_countHashesBelow_3 : decode cX3_countHashesBelow 3 = .ok (.istore_n 3, 1) := by decide +kernel
theorem dX3_countHashesBelow_4 : decode cX3_countHashesBelow 4 = .ok (.iload_n 3, 1) := by decide +kernel
theorem dX3_countHashesBelow_5 : decode cX3_countHashesBelow 5 = .ok (.aload_n 0, 1) := by decide +kernel
theorem dX3_countHashesBelow_6 : decode cX3_countHashesBelow 6 = .ok (.getfield 19, 3) := by decide +kernel
theorem dX3_countHashesBelow_9 : decode cX3_countHashesBelow 9 = .ok (.invokevirtual 42, 3) := by decide +kernel
theorem dX3_countHashesBelow_12 : decode cX3_countHashesBelow 12 = .ok (.if_icmp .ge 30, 3) := by decide +kernel
theorem dX3_countHashesBelow_15 : decode cX3_countHashesBelow 15 = .ok (.aload_n 0, 1) := by decide +kernel
theorem dX3_countHashesBelow_16 : decode cX3_countHashesBelow 16 = .ok (.getfield 19, 3) := by decide +kernel
theorem dX3_countHashesBelow_19 : decode cX3_countHashesBelow 19 = .ok (.iload_n 3, 1) := by decide +kernel
theorem dX3_countHashesBelow_20 : decode cX3_countHashesBelow 20 = .ok (.invokevirtual 96, 3) := by decide +kernel
theorem dX3_countHashesBelow_23 : decode cX3_countHashesBelow 23 = .ok (.checkcast 51, 3) := by decide +kernel
theorem dX3_countHashesBelow_26 : decode cX3_countHashesBelow 26 = .ok (.getfield 231, 3) := by decide +kernel
theorem dX3_countHashesBelow_29 : decode cX3_countHashesBelow 29 = .ok (.iload_n 1, 1) := by decide +kernel
theorem dX3_countHashesBelow_30 : decode cX3_countHashesBelow 30 = .ok (.if_icmp .ge 6, 3) := by decide +kernel
theorem dX3_countHashesBelow_33 : decode cX3_countHashesBelow 33 = .ok (.iinc 2 1, 3) := by decide +kernel
theorem dX3_countHashesBelow_36 : decode cX3_countHashesBelow 36 = .ok (.iinc 3 1, 3) := by decide +kernel
theorem dX3_countHashesBelow_39 : decode cX3_countHashesBelow 39 = .ok (.goto (-35), 3) := by decide +kernel
theorem dX3_countHashesBelow_42 : decode cX3_countHashesBelow 42 = .ok (.iload_n 2, 1) := by decide +kernel
theorem dX3_countHashesBelow_43 : decode cX3_countHashesBelow 43 = .ok (.ireturn, 1) := by decide +kernel
theorem dX3_lookUp_0 : decode cX3_lookUp 0 = .ok (.iload_n 1, 1) := by decide +kernel
theorem dX3_lookUp_1 : decode cX3_lookUp 1 = .ok (.ifCond .lt 10, 3) := by decide +kernel
theorem dX3_lookUp_4 : decode cX3_lookUp 4 = .ok (.iload_n 1, 1) := by decide +kernel
theorem dX3_lookUp_5 : decode cX3_lookUp 5 = .ok (.sipush 4096, 3) := by decide +kernel
theorem dX3_lookUp_8 : decode cX3_lookUp 8 = .ok (.if_icmp .lt 13, 3) := by decide +kernel
theorem dX3_lookUp_11 : decode cX3_lookUp 11 = .ok (.new 29, 3) := by decide +kernel
theorem dX3_lookUp_14 : decode cX3_lookUp 14 = .ok (.dup, 1) := by decide +kernel
theorem dX3_lookUp_15 : decode cX3_lookUp 15 = .ok (.ldc 234, 2) := by decide +kernel
theorem dX3_lookUp_17 : decode cX3_lookUp 17 = .ok (.invokespecial 33, 3) := by decide +kernel
theorem dX3_lookUp_20 : decode cX3_lookUp 20 = .ok (.athrow, 1) := by decide +kernel
theorem dX3_lookUp_21 : decode cX3_lookUp 21 = .ok (.new 180, 3) := by decide +kernel
theorem dX3_lookUp_24 : decode cX3_lookUp 24 = .ok (.dup, 1) := by decide +kernel
theorem dX3_lookUp_25 : decode cX3_lookUp 25 = .ok (.invokespecial 236, 3) := by decide +kernel
theorem dX3_lookUp_28 : decode cX3_lookUp 28 = .ok (.astore_n 2, 1) := by decide +kernel
theorem dX3_lookUp_29 : decode cX3_lookUp 29 = .ok (.iload_n 1, 1) := by decide +kernel
theorem dX3_lookUp_30 : decode cX3_lookUp 30 = .ok (.iload_n 1, 1) := by decide +kernel
theorem dX3_lookUp_31 : decode cX3_lookUp 31 = .ok (.sipush 256, 3) := by decide +kernel
theorem dX3_lookUp_34 : decode cX3_lookUp 34 = .ok (.irem, 1) := by decide +kernel
theorem dX3_lookUp_35 : decode cX3_lookUp 35 = .ok (.isub, 1) := by decide +kernel
theorem dX3_lookUp_36 : decode cX3_lookUp 36 = .ok (.istore_n 3, 1) := by decide +kernel
theorem dX3_lookUp_37 : decode cX3_lookUp 37 = .ok (.aload_n 0, 1) := by decide +kernel
theorem dX3_lookUp_38 : decode cX3_lookUp 38 = .ok (.iload_n 3, 1) := by decide +kernel
theorem dX3_lookUp_39 : decode cX3_lookUp 39 = .ok (.invokevirtual 171, 3) := by decide +kernel
theorem dX3_lookUp_42 : decode cX3_lookUp 42 = .ok (.istore 4, 2) := by decide +kernel
theorem dX3_lookUp_44 : decode cX3_lookUp 44 = .ok (.aload_n 0, 1) := by decide +kernel
theorem dX3_lookUp_45 : decode cX3_lookUp 45 = .ok (.iload_n 3, 1) := by decide +kernel
theorem dX3_lookUp_46 : decode cX3_lookUp 46 = .ok (.sipush 256, 3) := by decide +kernel
theorem dX3_lookUp_49 : decode cX3_lookUp 49 = .ok (.iadd, 1) := by decide +kernel
theorem dX3_lookUp_50 : decode cX3_lookUp 50 = .ok (.invokevirtual 171, 3) := by decide +kernel
theorem dX3_lookUp_53 : decode cX3_lookUp 53 = .ok (.istore 5, 2) := by decide +kernel
theorem dX3_lookUp_55 : decode cX3_lookUp 55 = .ok (.iconst 1, 1) := by decide +kernel
theorem dX3_lookUp_56 : decode cX3_lookUp 56 = .ok (.istore 6, 2) := by decide +kernel
theorem dX3_lookUp_58 : decode cX3_lookUp 58 = .ok (.iload 6, 2) := by decide +kernel
theorem dX3_lookUp_60 : decode cX3_lookUp 60 = .ok (.aload_n 0, 1) := by decide +kernel
theorem dX3_lookUp_61 : decode cX3_lookUp 61 = .ok (.getfield 19, 3) := by decide +kernel
theorem dX3_lookUp_64 : decode cX3_lookUp 64 = .ok (.invokevirtual 42, 3) := by decide +kernel
theorem dX3_lookUp_67 : decode cX3_lookUp 67 = .ok (.if_icmp .gt 102, 3) := by decide +kernel
theorem dX3_lookUp_70 : decode cX3_lookUp 70 = .ok (.iconst 0, 1) := by decide +kernel
theorem dX3_lookUp_71 : decode cX3_lookUp 71 = .ok (.iload 4, 2) := by decide +kernel
theorem dX3_lookUp_73 : decode cX3_lookUp 73 = .ok (.if_icmp .gt 96, 3) := by decide +kernel
theorem dX3_lookUp_76 : decode cX3_lookUp 76 = .ok (.iload 4, 2) := by decide +kernel
theorem dX3_lookUp_78 : decode cX3_lookUp 78 = .ok (.iload 5, 2) := by decide +kernel
theorem dX3_lookUp_80 : decode cX3_lookUp 80 = .ok (.if_icmp .ge 89, 3) := by decide +kernel
theorem dX3_lookUp_83 : decode cX3_lookUp 83 = .ok (.iload 5, 2) := by decide +kernel
theorem dX3_lookUp_85 : decode cX3_lookUp 85 = .ok (.aload_n 0, 1) := by decide +kernel
theorem dX3_lookUp_86 : decode cX3_lookUp 86 = .ok (.getfield 19, 3) := by decide +kernel
theorem dX3_lookUp_89 : decode cX3_lookUp 89 = .ok (.invokevirtual 42, 3) := by decide +kernel
theorem dX3_lookUp_92 : decode cX3_lookUp 92 = .ok (.if_icmp .gt 77, 3) := by decide +kernel
theorem dX3_lookUp_95 : decode cX3_lookUp 95 = .ok (.iload 4, 2) := by decide +kernel
theorem dX3_lookUp_97 : decode cX3_lookUp 97 = .ok (.iload 5, 2) := by decide +kernel
theorem dX3_lookUp_99 : decode cX3_lookUp 99 = .ok (.iadd, 1) := by decide +kernel
theorem dX3_lookUp_100 : decode cX3_lookUp 100 = .ok (.iconst 2, 1) := by decide +kernel
theorem dX3_lookUp_101 : decode cX3_lookUp 101 = .ok (.idiv, 1) := by decide +kernel
theorem dX3_lookUp_102 : decode cX3_lookUp 102 = .ok (.istore 7, 2) := by decide +kernel
theorem dX3_lookUp_104 : decode cX3_lookUp 104 = .ok (.aload_n 0, 1) := by decide +kernel
theorem dX3_lookUp_105 : decode cX3_lookUp 105 = .ok (.getfield 19, 3) := by decide +kernel
theorem dX3_lookUp_108 : decode cX3_lookUp 108 = .ok (.iload 7, 2) := by decide +kernel
theorem dX3_lookUp_110 : decode cX3_lookUp 110 = .ok (.invokevirtual 96, 3) := by decide +kernel
theorem dX3_lookUp_113 : decode cX3_lookUp 113 = .ok (.checkcast 51, 3) := by decide +kernel
theorem dX3_lookUp_116 : decode cX3_lookUp 116 = .ok (.astore 8, 2) := by decide +kernel
theorem dX3_lookUp_118 : decode cX3_lookUp 118 = .ok (.aload_n 2, 1) := by decide +kernel
theorem dX3_lookUp_119 : decode cX3_lookUp 119 = .ok (.iload 6, 2) := by decide +kernel
theorem dX3_lookUp_121 : decode cX3_lookUp 121 = .ok (.putfield 184, 3) := by decide +kernel
theorem dX3_lookUp_124 : decode cX3_lookUp 124 = .ok (.aload 8, 2) := by decide +kernel
theorem dX3_lookUp_126 : decode cX3_lookUp 126 = .ok (.getfield 231, 3) := by decide +kernel
theorem dX3_lookUp_129 : decode cX3_lookUp 129 = .ok (.iload_n 1, 1) := by decide +kernel
theorem dX3_lookUp_130 : decode cX3_lookUp 130 = .ok (.if_icmp .ne 11, 3) := by decide +kernel
theorem dX3_lookUp_133 : decode cX3_lookUp 133 = .ok (.aload_n 2, 1) := by decide +kernel
theorem dX3_lookUp_134 : decode cX3_lookUp 134 = .ok (.aload 8, 2) := by decide +kernel
theorem dX3_lookUp_136 : decode cX3_lookUp 136 = .ok (.putfield 179, 3) := by decide +kernel
theorem dX3_lookUp_139 : decode cX3_lookUp 139 = .ok (.aload_n 2, 1) := by decide +kernel
theorem dX3_lookUp_140 : decode cX3_lookUp 140 = .ok (.areturn, 1) := by decide +kernel
theorem dX3_lookUp_141 : decode cX3_lookUp 141 = .ok (.aload 8, 2) := by decide +kernel
theorem dX3_lookUp_143 : decode cX3_lookUp 143 = .ok (.getfield 231, 3) := by decide +kernel
theorem dX3_lookUp_146 : decode cX3_lookUp 146 = .ok (.iload_n 1, 1) := by decide +kernel
theorem dX3_lookUp_147 : decode cX3_lookUp 147 = .ok (.if_icmp .ge 12, 3) := by decide +kernel
theorem dX3_lookUp_150 : decode cX3_lookUp 150 = .ok (.iload 7, 2) := by decide +kernel
theorem dX3_lookUp_152 : decode cX3_lookUp 152 = .ok (.iconst 1, 1) := by decide +kernel
theorem dX3_lookUp_153 : decode cX3_lookUp 153 = .ok (.iadd, 1) := by decide +kernel
theorem dX3_lookUp_154 : decode cX3_lookUp 154 = .ok (.istore 4, 2) := by decide +kernel
theorem dX3_lookUp_156 : decode cX3_lookUp 156 = .ok (.goto 7, 3) := by decide +kernel
theorem dX3_lookUp_159 : decode cX3_lookUp 159 = .ok (.iload 7, 2) := by decide +kernel
theorem dX3_lookUp_161 : decode cX3_lookUp 161 = .ok (.istore 5, 2) := by decide +kernel
theorem dX3_lookUp_163 : decode cX3_lookUp 163 = .ok (.iinc 6 1, 3) := by decide +kernel
theorem dX3_lookUp_166 : decode cX3_lookUp 166 = .ok (.goto (-108), 3) := by decide +kernel
theorem dX3_lookUp_169 : decode cX3_lookUp 169 = .ok (.aload_n 2, 1) := by decide +kernel
theorem dX3_lookUp_170 : decode cX3_lookUp 170 = .ok (.areturn, 1) := by decide +kernel
theorem dX3_isContent_0 : decode cX3_isContent 0 = .ok (.lload_n 0, 1) := by decide +kernel
theorem dX3_isContent_1 : decode cX3_isContent 1 = .ok (.lconst 1, 1) := by decide +kernel
theorem dX3_isContent_2 : decode cX3_isContent 2 = .ok (.lcmp, 1) := by decide +kernel
theorem dX3_isContent_3 : decode cX3_isContent 3 = .ok (.ifCond .lt 11, 3) := by decide +kernel
theorem dX3_isContent_6 : decode cX3_isContent 6 = .ok (.lload_n 0, 1) := by decide +kernel
theorem dX3_isContent_7 : decode cX3_isContent 7 = .ok (.ldc2_w 237, 3) := by decide +kernel
theorem dX3_isContent_10 : decode cX3_isContent 10 = .ok (.lcmp, 1) := by decide +kernel
theorem dX3_isContent_11 : decode cX3_isContent 11 = .ok (.ifCond .lt 5, 3) := by decide +kernel
theorem dX3_isContent_14 : decode cX3_isContent 14 = .ok (.iconst 0, 1) := by decide +kernel
theorem dX3_isContent_15 : decode cX3_isContent 15 = .ok (.ireturn, 1) := by decide +kernel
theorem dX3_isContent_16 : decode cX3_isContent 16 = .ok (.lload_n 0, 1) := by decide +kernel
theorem dX3_isContent_17 : decode cX3_isContent 17 = .ok (.lstore_n 2, 1) := by decide +kernel
theorem dX3_isContent_18 : decode cX3_isContent 18 = .ok (.lload_n 2, 1) := by decide +kernel
theorem dX3_isContent_19 : decode cX3_isContent 19 = .ok (.lconst 0, 1) := by decide +kernel
theorem dX3_isContent_20 : decode cX3_isContent 20 = .ok (.lcmp, 1) := by decide +kernel
theorem dX3_isContent_21 : decode cX3_isContent 21 = .ok (.ifCond .le 22, 3) := by decide +kernel
theorem dX3_isContent_24 : decode cX3_isContent 24 = .ok (.lload_n 2, 1) := by decide +kernel
theorem dX3_isContent_25 : decode cX3_isContent 25 = .ok (.ldc2_w 239, 3) := by decide +kernel
theorem dX3_isContent_28 : decode cX3_isContent 28 = .ok (.land, 1) := by decide +kernel
theorem dX3_isContent_29 : decode cX3_isContent 29 = .ok (.lconst 0, 1) := by decide +kernel
theorem dX3_isContent_30 : decode cX3_isContent 30 = .ok (.lcmp, 1) := by decide +kernel
theorem dX3_isContent_31 : decode cX3_isContent 31 = .ok (.ifCond .ne 5, 3) := by decide +kernel
theorem dX3_isContent_34 : decode cX3_isContent 34 = .ok (.iconst 0, 1) := by decide +kernel
theorem dX3_isContent_35 : decode cX3_isContent 35 = .ok (.ireturn, 1) := by decide +kernel
theorem dX3_isContent_36 : decode cX3_isContent 36 = .ok (.lload_n 2, 1) := by decide +kernel
theorem dX3_isContent_37 : decode cX3_isContent 37 = .ok (.iconst 4, 1) := by decide +kernel
theorem dX3_isContent_38 : decode cX3_isContent 38 = .ok (.lshr, 1) := by decide +kernel
theorem dX3_isContent_39 : decode cX3_isContent 39 = .ok (.lstore_n 2, 1) := by decide +kernel
theorem dX3_isContent_40 : decode cX3_isContent 40 = .ok (.goto (-22), 3) := by decide +kernel
theorem dX3_isContent_43 : decode cX3_isContent 43 = .ok (.iconst 1, 1) := by decide +kernel
theorem dX3_isContent_44 : decode cX3_isContent 44 = .ok (.ireturn, 1) := by decide +kernel
theorem dX3_countLetters_0 : decode cX3_countLetters 0 = .ok (.iconst 0, 1) := by decide +kernel
theorem dX3_countLetters_1 : decode cX3_countLetters 1 = .ok (.istore_n 2, 1) := by decide +kernel
theorem dX3_countLetters_2 : decode cX3_countLetters 2 = .ok (.lload_n 0, 1) := by decide +kernel
theorem dX3_countLetters_3 : decode cX3_countLetters 3 = .ok (.lstore_n 3, 1) := by decide +kernel
theorem dX3_countLetters_4 : decode cX3_countLetters 4 = .ok (.lload_n 3, 1) := by decide +kernel
theorem dX3_countLetters_5 : decode cX3_countLetters 5 = .ok (.lconst 0, 1) := by decide +kernel
theorem dX3_countLetters_6 : decode cX3_countLetters 6 = .ok (.lcmp, 1) := by decide +kernel
theorem dX3_countLetters_7 : decode cX3_countLetters 7 = .ok (.ifCond .le 13, 3) := by decide +kernel
theorem dX3_countLetters_10 : decode cX3_countLetters 10 = .ok (.iinc 2 1, 3) := by decide +kernel
theorem dX3_countLetters_13 : decode cX3_countLetters 13 = .ok (.lload_n 3, 1) := by decide +kernel
theorem dX3_countLetters_14 : decode cX3_countLetters 14 = .ok (.iconst 4, 1) := by decide +kernel
theorem dX3_countLetters_15 : decode cX3_countLetters 15 = .ok (.lshr, 1) := by decide +kernel
theorem dX3_countLetters_16 : decode cX3_countLetters 16 = .ok (.lstore_n 3, 1) := by decide +kernel
theorem dX3_countLetters_17 : decode cX3_countLetters 17 = .ok (.goto (-13), 3) := by decide +kernel
theorem dX3_countLetters_20 : decode cX3_countLetters 20 = .ok (.iload_n 2, 1) := by decide +kernel
theorem dX3_countLetters_21 : decode cX3_countLetters 21 = .ok (.ireturn, 1) := by decide +kernel
theorem dX3_letterAt_0 : decode cX3_letterAt 0 = .ok (.lload_n 0, 1) := by decide +kernel
theorem dX3_letterAt_1 : decode cX3_letterAt 1 = .ok (.iconst 4, 1) := by decide +kernel
theorem dX3_letterAt_2 : decode cX3_letterAt 2 = .ok (.iload_n 2, 1) := by decide +kernel
theorem dX3_letterAt_3 : decode cX3_letterAt 3 = .ok (.iconst 1, 1) := by decide +kernel
theorem dX3_letterAt_4 : decode cX3_letterAt 4 = .ok (.isub, 1) := by decide +kernel
theorem dX3_letterAt_5 : decode cX3_letterAt 5 = .ok (.iload_n 3, 1) := by decide +kernel
theorem dX3_letterAt_6 : decode cX3_letterAt 6 = .ok (.isub, 1) := by decide +kernel
theorem dX3_letterAt_7 : decode cX3_letterAt 7 = .ok (.imul, 1) := by decide +kernel
theorem dX3_letterAt_8 : decode cX3_letterAt 8 = .ok (.lshr, 1) := by decide +kernel
theorem dX3_letterAt_9 : decode cX3_letterAt 9 = .ok (.l2i, 1) := by decide +kernel
theorem dX3_letterAt_10 : decode cX3_letterAt 10 = .ok (.bipush 15, 2) := by decide +kernel
theorem dX3_letterAt_12 : decode cX3_letterAt 12 = .ok (.iand, 1) := by decide +kernel
theorem dX3_letterAt_13 : decode cX3_letterAt 13 = .ok (.ireturn, 1) := by decide +kernel
theorem dX3_hashOf_0 : decode cX3_hashOf 0 = .ok (.lload_n 0, 1) := by decide +kernel
theorem dX3_hashOf_1 : decode cX3_hashOf 1 = .ok (.invokestatic 241, 3) := by decide +kernel
theorem dX3_hashOf_4 : decode cX3_hashOf 4 = .ok (.istore_n 2, 1) := by decide +kernel
theorem dX3_hashOf_5 : decode cX3_hashOf 5 = .ok (.bipush 7, 2) := by decide +kernel
theorem dX3_hashOf_7 : decode cX3_hashOf 7 = .ok (.istore_n 3, 1) := by decide +kernel
theorem dX3_hashOf_8 : decode cX3_hashOf 8 = .ok (.iconst 0, 1) := by decide +kernel
theorem dX3_hashOf_9 : decode cX3_hashOf 9 = .ok (.istore 4, 2) := by decide +kernel
theorem dX3_hashOf_11 : decode cX3_hashOf 11 = .ok (.iload 4, 2) := by decide +kernel
theorem dX3_hashOf_13 : decode cX3_hashOf 13 = .ok (.iload_n 2, 1) := by decide +kernel
theorem dX3_hashOf_14 : decode cX3_hashOf 14 = .ok (.if_icmp .ge 26, 3) := by decide +kernel
theorem dX3_hashOf_17 : decode cX3_hashOf 17 = .ok (.iload_n 3, 1) := by decide +kernel
theorem dX3_hashOf_18 : decode cX3_hashOf 18 = .ok (.bipush 33, 2) := by decide +kernel
theorem dX3_hashOf_20 : decode cX3_hashOf 20 = .ok (.imul, 1) := by decide +kernel
theorem dX3_hashOf_21 : decode cX3_hashOf 21 = .ok (.lload_n 0, 1) := by decide +kernel
theorem dX3_hashOf_22 : decode cX3_hashOf 22 = .ok (.iload_n 2, 1) := by decide +kernel
theorem dX3_hashOf_23 : decode cX3_hashOf 23 = .ok (.iload 4, 2) := by decide +kernel
theorem dX3_hashOf_25 : decode cX3_hashOf 25 = .ok (.invokestatic 244, 3) := by decide +kernel
theorem dX3_hashOf_28 : decode cX3_hashOf 28 = .ok (.iadd, 1) := by decide +kernel
theorem dX3_hashOf_29 : decode cX3_hashOf 29 = .ok (.sipush 4096, 3) := by decide +kernel
theorem dX3_hashOf_32 : decode cX3_hashOf 32 = .ok (.irem, 1) := by decide +kernel
theorem dX3_hashOf_33 : decode cX3_hashOf 33 = .ok (.istore_n 3, 1) := by decide +kernel
theorem dX3_hashOf_34 : decode cX3_hashOf 34 = .ok (.iinc 4 1, 3) := by decide +kernel
theorem dX3_hashOf_37 : decode cX3_hashOf 37 = .ok (.goto (-26), 3) := by decide +kernel
theorem dX3_hashOf_40 : decode cX3_hashOf 40 = .ok (.iload_n 3, 1) := by decide +kernel
theorem dX3_hashOf_41 : decode cX3_hashOf 41 = .ok (.ireturn, 1) := by decide +kernel
theorem dX3_costAgainst_0 : decode cX3_costAgainst 0 = .ok (.iconst 1, 1) := by decide +kernel
theorem dX3_costAgainst_1 : decode cX3_costAgainst 1 = .ok (.aload_n 0, 1) := by decide +kernel
theorem dX3_costAgainst_2 : decode cX3_costAgainst 2 = .ok (.aload_n 1, 1) := by decide +kernel
theorem dX3_costAgainst_3 : decode cX3_costAgainst 3 = .ok (.iconst 2, 1) := by decide +kernel
theorem dX3_costAgainst_4 : decode cX3_costAgainst 4 = .ok (.invokestatic 221, 3) := by decide +kernel
theorem dX3_costAgainst_7 : decode cX3_costAgainst 7 = .ok (.iadd, 1) := by decide +kernel
theorem dX3_costAgainst_8 : decode cX3_costAgainst 8 = .ok (.ireturn, 1) := by decide +kernel
theorem dX3_weighParts_0 : decode cX3_weighParts 0 = .ok (.iconst 0, 1) := by decide +kernel
theorem dX3_weighParts_1 : decode cX3_weighParts 1 = .ok (.istore_n 3, 1) := by decide +kernel
theorem dX3_weighParts_2 : decode cX3_weighParts 2 = .ok (.iconst 0, 1) := by decide +kernel
theorem dX3_weighParts_3 : decode cX3_weighParts 3 = .ok (.istore 4, 2) := by decide +kernel
theorem dX3_weighParts_5 : decode cX3_weighParts 5 = .ok (.iload 4, 2) := by decide +kernel
theorem dX3_weighParts_7 : decode cX3_weighParts 7 = .ok (.aload_n 0, 1) := by decide +kernel
theorem dX3_weighParts_8 : decode cX3_weighParts 8 = .ok (.getfield 206, 3) := by decide +kernel
theorem dX3_weighParts_11 : decode cX3_weighParts 11 = .ok (.if_icmp .ge 41, 3) := by decide +kernel
theorem dX3_weighParts_14 : decode cX3_weighParts 14 = .ok (.aload_n 0, 1) := by decide +kernel
theorem dX3_weighParts_15 : decode cX3_weighParts 15 = .ok (.iload 4, 2) := by decide +kernel
theorem dX3_weighParts_17 : decode cX3_weighParts 17 = .ok (.aload_n 1, 1) := by decide +kernel
theorem dX3_weighParts_18 : decode cX3_weighParts 18 = .ok (.invokestatic 248, 3) := by decide +kernel
theorem dX3_weighParts_21 : decode cX3_weighParts 21 = .ok (.istore 5, 2) := by decide +kernel
theorem dX3_weighParts_23 : decode cX3_weighParts 23 = .ok (.iload 5, 2) := by decide +kernel
theorem dX3_weighParts_25 : decode cX3_weighParts 25 = .ok (.iconst 2, 1) := by decide +kernel
theorem dX3_weighParts_26 : decode cX3_weighParts 26 = .ok (.if_icmp .lt 17, 3) := by decide +kernel
theorem dX3_weighParts_29 : decode cX3_weighParts 29 = .ok (.iload_n 3, 1) := by decide +kernel
theorem dX3_weighParts_30 : decode cX3_weighParts 30 = .ok (.iload_n 2, 1) := by decide +kernel
theorem dX3_weighParts_31 : decode cX3_weighParts 31 = .ok (.iadd, 1) := by decide +kernel
theorem dX3_weighParts_32 : decode cX3_weighParts 32 = .ok (.istore_n 3, 1) := by decide +kernel
theorem dX3_weighParts_33 : decode cX3_weighParts 33 = .ok (.iload 4, 2) := by decide +kernel
theorem dX3_weighParts_35 : decode cX3_weighParts 35 = .ok (.iload 5, 2) := by decide +kernel
theorem dX3_weighParts_37 : decode cX3_weighParts 37 = .ok (.iadd, 1) := by decide +kernel
theorem dX3_weighParts_38 : decode cX3_weighParts 38 = .ok (.istore 4, 2) := by decide +kernel
theorem dX3_weighParts_40 : decode cX3_weighParts 40 = .ok (.goto 9, 3) := by decide +kernel
theorem dX3_weighParts_43 : decode cX3_weighParts 43 = .ok (.iinc 3 1, 3) := by decide +kernel
theorem dX3_weighParts_46 : decode cX3_weighParts 46 = .ok (.iinc 4 1, 3) := by decide +kernel
theorem dX3_weighParts_49 : decode cX3_weighParts 49 = .ok (.goto (-44), 3) := by decide +kernel
theorem dX3_weighParts_52 : decode cX3_weighParts 52 = .ok (.iload_n 3, 1) := by decide +kernel
theorem dX3_weighParts_53 : decode cX3_weighParts 53 = .ok (.ireturn, 1) := by decide +kernel
theorem dX3_longestCopy_0 : decode cX3_longestCopy 0 = .ok (.iconst 0, 1) := by decide +kernel
theorem dX3_longestCopy_1 : decode cX3_longestCopy 1 = .ok (.istore_n 3, 1) := by decide +kernel
theorem dX3_longestCopy_2 : decode cX3_longestCopy 2 = .ok (.iconst 0, 1) := by decide +kernel
theorem dX3_longestCopy_3 : decode cX3_longestCopy 3 = .ok (.istore 4, 2) := by decide +kernel
theorem dX3_longestCopy_5 : decode cX3_longestCopy 5 = .ok (.iload 4, 2) := by decide +kernel
theorem dX3_longestCopy_7 : decode cX3_longestCopy 7 = .ok (.aload_n 2, 1) := by decide +kernel
theorem dX3_longestCopy_8 : decode cX3_longestCopy 8 = .ok (.getfield 206, 3) := by decide +kernel
theorem dX3_longestCopy_11 : decode cX3_longestCopy 11 = .ok (.if_icmp .ge 22, 3) := by decide +kernel
theorem dX3_longestCopy_14 : decode cX3_longestCopy 14 = .ok (.iload_n 3, 1) := by decide +kernel
theorem dX3_longestCopy_15 : decode cX3_longestCopy 15 = .ok (.aload_n 0, 1) := by decide +kernel
theorem dX3_longestCopy_16 : decode cX3_longestCopy 16 = .ok (.iload_n 1, 1) := by decide +kernel
theorem dX3_longestCopy_17 : decode cX3_longestCopy 17 = .ok (.aload_n 2, 1) := by decide +kernel
theorem dX3_longestCopy_18 : decode cX3_longestCopy 18 = .ok (.iload 4, 2) := by decide +kernel
theorem dX3_longestCopy_20 : decode cX3_longestCopy 20 = .ok (.invokestatic 252, 3) := by decide +kernel
theorem dX3_longestCopy_23 : decode cX3_longestCopy 23 = .ok (.invokestatic 256, 3) := by decide +kernel
theorem dX3_longestCopy_26 : decode cX3_longestCopy 26 = .ok (.istore_n 3, 1) := by decide +kernel
theorem dX3_longestCopy_27 : decode cX3_longestCopy 27 = .ok (.iinc 4 1, 3) := by decide +kernel
theorem dX3_longestCopy_30 : decode cX3_longestCopy 30 = .ok (.goto (-25), 3) := by decide +kernel
theorem dX3_longestCopy_33 : decode cX3_longestCopy 33 = .ok (.iload_n 3, 1) := by decide +kernel
theorem dX3_longestCopy_34 : decode cX3_longestCopy 34 = .ok (.ireturn, 1) := by decide +kernel
theorem dX3_countAlike_0 : decode cX3_countAlike 0 = .ok (.aload_n 0, 1) := by decide +kernel
theorem dX3_countAlike_1 : decode cX3_countAlike 1 = .ok (.getfield 206, 3) := by decide +kernel
theorem dX3_countAlike_4 : decode cX3_countAlike 4 = .ok (.iload_n 1, 1) := by decide +kernel
theorem dX3_countAlike_5 : decode cX3_countAlike 5 = .ok (.isub, 1) := by decide +kernel
theorem dX3_countAlike_6 : decode cX3_countAlike 6 = .ok (.aload_n 2, 1) := by decide +kernel
theorem dX3_countAlike_7 : decode cX3_countAlike 7 = .ok (.getfield 206, 3) := by decide +kernel
theorem dX3_countAlike_10 : decode cX3_countAlike 10 = .ok (.iload_n 3, 1) := by decide +kernel
theorem dX3_countAlike_11 : decode cX3_countAlike 11 = .ok (.isub, 1) := by decide +kernel
theorem dX3_countAlike_12 : decode cX3_countAlike 12 = .ok (.invokestatic 215, 3) := by decide +kernel
theorem dX3_countAlike_15 : decode cX3_countAlike 15 = .ok (.istore 4, 2) := by decide +kernel
theorem dX3_countAlike_17 : decode cX3_countAlike 17 = .ok (.iconst 0, 1) := by decide +kernel
theorem dX3_countAlike_18 : decode cX3_countAlike 18 = .ok (.istore 5, 2) := by decide +kernel
theorem dX3_countAlike_20 : decode cX3_countAlike 20 = .ok (.iload 5, 2) := by decide +kernel
theorem dX3_countAlike_22 : decode cX3_countAlike 22 = .ok (.iload 4, 2) := by decide +kernel
theorem dX3_countAlike_24 : decode cX3_countAlike 24 = .ok (.if_icmp .ge 28, 3) := by decide +kernel
theorem dX3_countAlike_27 : decode cX3_countAlike 27 = .ok (.aload_n 0, 1) := by decide +kernel
theorem dX3_countAlike_28 : decode cX3_countAlike 28 = .ok (.iload_n 1, 1) := by decide +kernel
theorem dX3_countAlike_29 : decode cX3_countAlike 29 = .ok (.iload 5, 2) := by decide +kernel
theorem dX3_countAlike_31 : decode cX3_countAlike 31 = .ok (.iadd, 1) := by decide +kernel
theorem dX3_countAlike_32 : decode cX3_countAlike 32 = .ok (.invokevirtual 259, 3) := by decide +kernel
theorem dX3_countAlike_35 : decode cX3_countAlike 35 = .ok (.aload_n 2, 1) := by decide +kernel
theorem dX3_countAlike_36 : decode cX3_countAlike 36 = .ok (.iload_n 3, 1) := by decide +kernel
theorem dX3_countAlike_37 : decode cX3_countAlike 37 = .ok (.iload 5, 2) := by decide +kernel
theorem dX3_countAlike_39 : decode cX3_countAlike 39 = .ok (.iadd, 1) := by decide +kernel
theorem dX3_countAlike_40 : decode cX3_countAlike 40 = .ok (.invokevirtual 259, 3) := by decide +kernel
theorem dX3_countAlike_43 : decode cX3_countAlike 43 = .ok (.if_icmp .ne 9, 3) := by decide +kernel
theorem dX3_countAlike_46 : decode cX3_countAlike 46 = .ok (.iinc 5 1, 3) := by decide +kernel
theorem dX3_countAlike_49 : decode cX3_countAlike 49 = .ok (.goto (-29), 3) := by decide +kernel
theorem dX3_countAlike_52 : decode cX3_countAlike 52 = .ok (.iload 5, 2) := by decide +kernel
theorem dX3_countAlike_54 : decode cX3_countAlike 54 = .ok (.ireturn, 1) := by decide +kernel
theorem dJxa1e45_init_da8c8_0 : decode cJxa1e45_init_da8c8 0 = .ok (.aload_n 0, 1) := by decide +kernel
theorem dJxa1e45_init_da8c8_1 : decode cJxa1e45_init_da8c8 1 = .ok (.invokespecial 1, 3) := by decide +kernel
theorem dJxa1e45_init_da8c8_4 : decode cJxa1e45_init_da8c8 4 = .ok (.return_, 1) := by decide +kernel
theorem dJxc12de_init_da8c8_0 : decode cJxc12de_init_da8c8 0 = .ok (.aload_n 0, 1) := by decide +kernel
theorem dJxc12de_init_da8c8_1 : decode cJxc12de_init_da8c8 1 = .ok (.invokespecial 1, 3) := by decide +kernel
theorem dJxc12de_init_da8c8_4 : decode cJxc12de_init_da8c8 4 = .ok (.aload_n 0, 1) := by decide +kernel
theorem dJxc12de_init_da8c8_5 : decode cJxc12de_init_da8c8 5 = .ok (.iconst 0, 1) := by decide +kernel
theorem dJxc12de_init_da8c8_6 : decode cJxc12de_init_da8c8 6 = .ok (.putfield 7, 3) := by decide +kernel
theorem dJxc12de_init_da8c8_9 : decode cJxc12de_init_da8c8 9 = .ok (.return_, 1) := by decide +kernel
theorem dJx4a65c_init_da8c8_0 : decode cJx4a65c_init_da8c8 0 = .ok (.aload_n 0, 1) := by decide +kernel
theorem dJx4a65c_init_da8c8_1 : decode cJx4a65c_init_da8c8 1 = .ok (.invokespecial 1, 3) := by decide +kernel
theorem dJx4a65c_init_da8c8_4 : decode cJx4a65c_init_da8c8 4 = .ok (.aload_n 0, 1) := by decide +kernel
theorem dJx4a65c_init_da8c8_5 : decode cJx4a65c_init_da8c8 5 = .ok (.getstatic 39, 3) := by decide +kernel
theorem dJx4a65c_init_da8c8_8 : decode cJx4a65c_init_da8c8 8 = .ok (.putfield 9, 3) := by decide +kernel
theorem dJx4a65c_init_da8c8_11 : decode cJx4a65c_init_da8c8 11 = .ok (.return_, 1) := by decide +kernel
theorem dJx4a65c_grow_92f84_0 : decode cJx4a65c_grow_92f84 0 = .ok (.aload_n 0, 1) := by decide +kernel
theorem dJx4a65c_grow_92f84_1 : decode cJx4a65c_grow_92f84 1 = .ok (.getfield 9, 3) := by decide +kernel
theorem dJx4a65c_grow_92f84_4 : decode cJx4a65c_grow_92f84 4 = .ok (.arraylength, 1) := by decide +kernel
theorem dJx4a65c_grow_92f84_5 : decode cJx4a65c_grow_92f84 5 = .ok (.istore_n 2, 1) := by decide +kernel
theorem dJx4a65c_grow_92f84_6 : decode cJx4a65c_grow_92f84 6 = .ok (.iload_n 2, 1) := by decide +kernel
theorem dJx4a65c_grow_92f84_7 : decode cJx4a65c_grow_92f84 7 = .ok (.ifCond .gt 13, 3) := by decide +kernel
theorem dJx4a65c_grow_92f84_10 : decode cJx4a65c_grow_92f84 10 = .ok (.aload_n 0, 1) := by decide +kernel
theorem dJx4a65c_grow_92f84_11 : decode cJx4a65c_grow_92f84 11 = .ok (.getfield 9, 3) := by decide +kernel
theorem dJx4a65c_grow_92f84_14 : decode cJx4a65c_grow_92f84 14 = .ok (.getstatic 39, 3) := by decide +kernel
theorem dJx4a65c_grow_92f84_17 : decode cJx4a65c_grow_92f84 17 = .ok (.if_acmp .eq 28, 3) := by decide +kernel
theorem dJx4a65c_grow_92f84_20 : decode cJx4a65c_grow_92f84 20 = .ok (.iload_n 2, 1) := by decide +kernel
theorem dJx4a65c_grow_92f84_21 : decode cJx4a65c_grow_92f84 21 = .ok (.iload_n 1, 1) := by decide +kernel
theorem dJx4a65c_grow_92f84_22 : decode cJx4a65c_grow_92f84 22 = .ok (.iload_n 2, 1) := by decide +kernel
theorem dJx4a65c_grow_92f84_23 : decode cJx4a65c_grow_92f84 23 = .ok (.isub, 1) := by decide +kernel
theorem dJx4a65c_grow_92f84_24 : decode cJx4a65c_grow_92f84 24 = .ok (.iload_n 2, 1) := by decide +kernel
theorem dJx4a65c_grow_92f84_25 : decode cJx4a65c_grow_92f84 25 = .ok (.iconst 1, 1) := by decide +kernel
theorem dJx4a65c_grow_92f84_26 : decode cJx4a65c_grow_92f84 26 = .ok (.ishr, 1) := by decide +kernel
theorem dJx4a65c_grow_92f84_27 : decode cJx4a65c_grow_92f84 27 = .ok (.invokestatic 73, 3) := by decide +kernel
theorem dJx4a65c_grow_92f84_30 : decode cJx4a65c_grow_92f84 30 = .ok (.istore_n 3, 1) := by decide +kernel
theorem dJx4a65c_grow_92f84_31 : decode cJx4a65c_grow_92f84 31 = .ok (.aload_n 0, 1) := by decide +kernel
theorem dJx4a65c_grow_92f84_32 : decode cJx4a65c_grow_92f84 32 = .ok (.aload_n 0, 1) := by decide +kernel
theorem dJx4a65c_grow_92f84_33 : decode cJx4a65c_grow_92f84 33 = .ok (.getfield 9, 3) := by decide +kernel
theorem dJx4a65c_grow_92f84_36 : decode cJx4a65c_grow_92f84 36 = .ok (.iload_n 3, 1) := by decide +kernel
theorem dJx4a65c_grow_92f84_37 : decode cJx4a65c_grow_92f84 37 = .ok (.invokestatic 66, 3) := by decide +kernel
theorem dJx4a65c_grow_92f84_40 : decode cJx4a65c_grow_92f84 40 = .ok (.dup_x1, 1) := by decide +kernel
theorem dJx4a65c_grow_92f84_41 : decode cJx4a65c_grow_92f84 41 = .ok (.putfield 9, 3) := by decide +kernel
theorem dJx4a65c_grow_92f84_44 : decode cJx4a65c_grow_92f84 44 = .ok (.areturn, 1) := by decide +kernel
theorem dJx4a65c_grow_92f84_45 : decode cJx4a65c_grow_92f84 45 = .ok (.aload_n 0, 1) := by decide +kernel
theorem dJx4a65c_grow_92f84_46 : decode cJx4a65c_grow_92f84 46 = .ok (.bipush 10, 2) := by decide +kernel
theorem dJx4a65c_grow_92f84_48 : decode cJx4a65c_grow_92f84 48 = .ok (.iload_n 1, 1) := by decide +kernel
theorem dJx4a65c_grow_92f84_49 : decode cJx4a65c_grow_92f84 49 = .ok (.invokestatic 79, 3) := by decide +kernel
theorem dJx4a65c_grow_92f84_52 : decode cJx4a65c_grow_92f84 52 = .ok (.anewarray 7, 3) := by decide +kernel
theorem dJx4a65c_grow_92f84_55 : decode cJx4a65c_grow_92f84 55 = .ok (.dup_x1, 1) := by decide +kernel
theorem dJx4a65c_grow_92f84_56 : decode cJx4a65c_grow_92f84 56 = .ok (.putfield 9, 3) := by decide +kernel
theorem dJx4a65c_grow_92f84_59 : decode cJx4a65c_grow_92f84 59 = .ok (.areturn, 1) := by decide +kernel
theorem dJx4a65c_grow_d5877_0 : decode cJx4a65c_grow_d5877 0 = .ok (.aload_n 0, 1) := by decide +kernel
theorem dJx4a65c_grow_d5877_1 : decode cJx4a65c_grow_d5877 1 = .ok (.aload_n 0, 1) := by decide +kernel
theorem dJx4a65c_grow_d5877_2 : decode cJx4a65c_grow_d5877 2 = .ok (.getfield 48, 3) := by decide +kernel
theorem dJx4a65c_grow_d5877_5 : decode cJx4a65c_grow_d5877 5 = .ok (.iconst 1, 1) := by decide +kernel
theorem dJx4a65c_grow_d5877_6 : decode cJx4a65c_grow_d5877 6 = .ok (.iadd, 1) := by decide +kernel
theorem dJx4a65c_grow_d5877_7 : decode cJx4a65c_grow_d5877 7 = .ok (.invokevirtual 69, 3) := by decide +kernel
theorem dJx4a65c_grow_d5877_10 : decode cJx4a65c_grow_d5877 10 = .ok (.areturn, 1) := by decide +kernel
theorem dJx4a65c_size_8abf5_0 : decode cJx4a65c_size_8abf5 0 = .ok (.aload_n 0, 1) := by decide +kernel
theorem dJx4a65c_size_8abf5_1 : decode cJx4a65c_size_8abf5 1 = .ok (.getfield 48, 3) := by decide +kernel
theorem dJx4a65c_size_8abf5_4 : decode cJx4a65c_size_8abf5 4 = .ok (.ireturn, 1) := by decide +kernel
theorem dJx4a65c_elementData_915e3_0 : decode cJx4a65c_elementData_915e3 0 = .ok (.aload_n 0, 1) := by decide +kernel
theorem dJx4a65c_elementData_915e3_1 : decode cJx4a65c_elementData_915e3 1 = .ok (.getfield 9, 3) := by decide +kernel
theorem dJx4a65c_elementData_915e3_4 : decode cJx4a65c_elementData_915e3 4 = .ok (.iload_n 1, 1) := by decide +kernel
theorem dJx4a65c_elementData_915e3_5 : decode cJx4a65c_elementData_915e3 5 = .ok (.aaload, 1) := by decide +kernel
theorem dJx4a65c_elementData_915e3_6 : decode cJx4a65c_elementData_915e3 6 = .ok (.areturn, 1) := by decide +kernel
theorem dJx4a65c_get_915e3_0 : decode cJx4a65c_get_915e3 0 = .ok (.iload_n 1, 1) := by decide +kernel
theorem dJx4a65c_get_915e3_1 : decode cJx4a65c_get_915e3 1 = .ok (.aload_n 0, 1) := by decide +kernel
theorem dJx4a65c_get_915e3_2 : decode cJx4a65c_get_915e3 2 = .ok (.getfield 48, 3) := by decide +kernel
theorem dJx4a65c_get_915e3_5 : decode cJx4a65c_get_915e3 5 = .ok (.invokestatic 118, 3) := by decide +kernel
theorem dJx4a65c_get_915e3_8 : decode cJx4a65c_get_915e3 8 = .ok (.pop, 1) := by decide +kernel
theorem dJx4a65c_get_915e3_9 : decode cJx4a65c_get_915e3 9 = .ok (.aload_n 0, 1) := by decide +kernel
theorem dJx4a65c_get_915e3_10 : decode cJx4a65c_get_915e3 10 = .ok (.iload_n 1, 1) := by decide +kernel
theorem dJx4a65c_get_915e3_11 : decode cJx4a65c_get_915e3 11 = .ok (.invokevirtual 123, 3) := by decide +kernel
theorem dJx4a65c_get_915e3_14 : decode cJx4a65c_get_915e3 14 = .ok (.areturn, 1) := by decide +kernel
theorem dJx4a65c_add_72be8_0 : decode cJx4a65c_add_72be8 0 = .ok (.iload_n 3, 1) := by decide +kernel
theorem dJx4a65c_add_72be8_1 : decode cJx4a65c_add_72be8 1 = .ok (.aload_n 2, 1) := by decide +kernel
theorem dJx4a65c_add_72be8_2 : decode cJx4a65c_add_72be8 2 = .ok (.arraylength, 1) := by decide +kernel
theorem dJx4a65c_add_72be8_3 : decode cJx4a65c_add_72be8 3 = .ok (.if_icmp .ne 8, 3) := by decide +kernel
theorem dJx4a65c_add_72be8_6 : decode cJx4a65c_add_72be8 6 = .ok (.aload_n 0, 1) := by decide +kernel
theorem dJx4a65c_add_72be8_7 : decode cJx4a65c_add_72be8 7 = .ok (.invokevirtual 129, 3) := by decide +kernel
theorem dJx4a65c_add_72be8_10 : decode cJx4a65c_add_72be8 10 = .ok (.astore_n 2, 1) := by decide +kernel
theorem dJx4a65c_add_72be8_11 : decode cJx4a65c_add_72be8 11 = .ok (.aload_n 2, 1) := by decide +kernel
theorem dJx4a65c_add_72be8_12 : decode cJx4a65c_add_72be8 12 = .ok (.iload_n 3, 1) := by decide +kernel
theorem dJx4a65c_add_72be8_13 : decode cJx4a65c_add_72be8 13 = .ok (.aload_n 1, 1) := by decide +kernel
theorem dJx4a65c_add_72be8_14 : decode cJx4a65c_add_72be8 14 = .ok (.aastore, 1) := by decide +kernel
theorem dJx4a65c_add_72be8_15 : decode cJx4a65c_add_72be8 15 = .ok (.aload_n 0, 1) := by decide +kernel
theorem dJx4a65c_add_72be8_16 : decode cJx4a65c_add_72be8 16 = .ok (.iload_n 3, 1) := by decide +kernel
theorem dJx4a65c_add_72be8_17 : decode cJx4a65c_add_72be8 17 = .ok (.iconst 1, 1) := by decide +kernel
theorem dJx4a65c_add_72be8_18 : decode cJx4a65c_add_72be8 18 = .ok (.iadd, 1) := by decide +kernel
theorem dJx4a65c_add_72be8_19 : decode cJx4a65c_add_72be8 19 = .ok (.putfield 48, 3) := by decide +kernel
theorem dJx4a65c_add_72be8_22 : decode cJx4a65c_add_72be8 22 = .ok (.return_, 1) := by decide +kernel
theorem dJx4a65c_add_9ea2d_0 : decode cJx4a65c_add_9ea2d 0 = .ok (.aload_n 0, 1) := by decide +kernel
theorem dJx4a65c_add_9ea2d_1 : decode cJx4a65c_add_9ea2d 1 = .ok (.dup, 1) := by decide +kernel
theorem dJx4a65c_add_9ea2d_2 : decode cJx4a65c_add_9ea2d 2 = .ok (.getfield 63, 3) := by decide +kernel
theorem dJx4a65c_add_9ea2d_5 : decode cJx4a65c_add_9ea2d 5 = .ok (.iconst 1, 1) := by decide +kernel
theorem dJx4a65c_add_9ea2d_6 : decode cJx4a65c_add_9ea2d 6 = .ok (.iadd, 1) := by decide +kernel
theorem dJx4a65c_add_9ea2d_7 : decode cJx4a65c_add_9ea2d 7 = .ok (.putfield 63, 3) := by decide +kernel
theorem dJx4a65c_add_9ea2d_10 : decode cJx4a65c_add_9ea2d 10 = .ok (.aload_n 0, 1) := by decide +kernel
theorem dJx4a65c_add_9ea2d_11 : decode cJx4a65c_add_9ea2d 11 = .ok (.aload_n 1, 1) := by decide +kernel
theorem dJx4a65c_add_9ea2d_12 : decode cJx4a65c_add_9ea2d 12 = .ok (.aload_n 0, 1) := by decide +kernel
theorem dJx4a65c_add_9ea2d_13 : decode cJx4a65c_add_9ea2d 13 = .ok (.getfield 9, 3) := by decide +kernel
theorem dJx4a65c_add_9ea2d_16 : decode cJx4a65c_add_9ea2d 16 = .ok (.aload_n 0, 1) := by decide +kernel
theorem dJx4a65c_add_9ea2d_17 : decode cJx4a65c_add_9ea2d 17 = .ok (.getfield 48, 3) := by decide +kernel
theorem dJx4a65c_add_9ea2d_20 : decode cJx4a65c_add_9ea2d 20 = .ok (.invokevirtual 131, 3) := by decide +kernel
theorem dJx4a65c_add_9ea2d_23 : decode cJx4a65c_add_9ea2d 23 = .ok (.iconst 1, 1) := by decide +kernel
theorem dJx4a65c_add_9ea2d_24 : decode cJx4a65c_add_9ea2d 24 = .ok (.ireturn, 1) := by decide +kernel
theorem dJx4a65c_add_7a177_0 : decode cJx4a65c_add_7a177 0 = .ok (.aload_n 0, 1) := by decide +kernel
theorem dJx4a65c_add_7a177_1 : decode cJx4a65c_add_7a177 1 = .ok (.iload_n 1, 1) := by decide +kernel
theorem dJx4a65c_add_7a177_2 : decode cJx4a65c_add_7a177 2 = .ok (.invokevirtual 135, 3) := by decide +kernel
theorem dJx4a65c_add_7a177_5 : decode cJx4a65c_add_7a177 5 = .ok (.aload_n 0, 1) := by decide +kernel
theorem dJx4a65c_add_7a177_6 : decode cJx4a65c_add_7a177 6 = .ok (.dup, 1) := by decide +kernel
theorem dJx4a65c_add_7a177_7 : decode cJx4a65c_add_7a177 7 = .ok (.getfield 63, 3) := by decide +kernel
theorem dJx4a65c_add_7a177_10 : decode cJx4a65c_add_7a177 10 = .ok (.iconst 1, 1) := by decide +kernel
theorem dJx4a65c_add_7a177_11 : decode cJx4a65c_add_7a177 11 = .ok (.iadd, 1) := by decide +kernel
theorem dJx4a65c_add_7a177_12 : decode cJx4a65c_add_7a177 12 = .ok (.putfield 63, 3) := by decide +kernel
theorem dJx4a65c_add_7a177_15 : decode cJx4a65c_add_7a177 15 = .ok (.aload_n 0, 1) := by decide +kernel
theorem dJx4a65c_add_7a177_16 : decode cJx4a65c_add_7a177 16 = .ok (.getfield 48, 3) := by decide +kernel
theorem dJx4a65c_add_7a177_19 : decode cJx4a65c_add_7a177 19 = .ok (.dup, 1) := by decide +kernel
theorem dJx4a65c_add_7a177_20 : decode cJx4a65c_add_7a177 20 = .ok (.istore_n 3, 1) := by decide +kernel
theorem dJx4a65c_add_7a177_21 : decode cJx4a65c_add_7a177 21 = .ok (.aload_n 0, 1) := by decide +kernel
theorem dJx4a65c_add_7a177_22 : decode cJx4a65c_add_7a177 22 = .ok (.getfield 9, 3) := by decide +kernel
theorem dJx4a65c_add_7a177_25 : decode cJx4a65c_add_7a177 25 = .ok (.dup, 1) := by decide +kernel
theorem dJx4a65c_add_7a177_26 : decode cJx4a65c_add_7a177 26 = .ok (.astore 4, 2) := by decide +kernel
theorem dJx4a65c_add_7a177_28 : decode cJx4a65c_add_7a177 28 = .ok (.arraylength, 1) := by decide +kernel
theorem dJx4a65c_add_7a177_29 : decode cJx4a65c_add_7a177 29 = .ok (.if_icmp .ne 9, 3) := by decide +kernel
theorem dJx4a65c_add_7a177_32 : decode cJx4a65c_add_7a177 32 = .ok (.aload_n 0, 1) := by decide +kernel
theorem dJx4a65c_add_7a177_33 : decode cJx4a65c_add_7a177 33 = .ok (.invokevirtual 129, 3) := by decide +kernel
theorem dJx4a65c_add_7a177_36 : decode cJx4a65c_add_7a177 36 = .ok (.astore 4, 2) := by decide +kernel
theorem dJx4a65c_add_7a177_38 : decode cJx4a65c_add_7a177 38 = .ok (.aload 4, 2) := by decide +kernel
theorem dJx4a65c_add_7a177_40 : decode cJx4a65c_add_7a177 40 = .ok (.iload_n 1, 1) := by decide +kernel
theorem dJx4a65c_add_7a177_41 : decode cJx4a65c_add_7a177 41 = .ok (.aload 4, 2) := by decide +kernel
theorem dJx4a65c_add_7a177_43 : decode cJx4a65c_add_7a177 43 = .ok (.iload_n 1, 1) := by decide +kernel
theorem dJx4a65c_add_7a177_44 : decode cJx4a65c_add_7a177 44 = .ok (.iconst 1, 1) := by decide +kernel
theorem dJx4a65c_add_7a177_45 : decode cJx4a65c_add_7a177 45 = .ok (.iadd, 1) := by decide +kernel
theorem dJx4a65c_add_7a177_46 : decode cJx4a65c_add_7a177 46 = .ok (.iload_n 3, 1) := by decide +kernel
theorem dJx4a65c_add_7a177_47 : decode cJx4a65c_add_7a177 47 = .ok (.iload_n 1, 1) := by decide +kernel
theorem dJx4a65c_add_7a177_48 : decode cJx4a65c_add_7a177 48 = .ok (.isub, 1) := by decide +kernel
theorem dJx4a65c_add_7a177_49 : decode cJx4a65c_add_7a177 49 = .ok (.invokestatic 112, 3) := by decide +kernel
theorem dJx4a65c_add_7a177_52 : decode cJx4a65c_add_7a177 52 = .ok (.aload 4, 2) := by decide +kernel
theorem dJx4a65c_add_7a177_54 : decode cJx4a65c_add_7a177 54 = .ok (.iload_n 1, 1) := by decide +kernel
theorem dJx4a65c_add_7a177_55 : decode cJx4a65c_add_7a177 55 = .ok (.aload_n 2, 1) := by decide +kernel
theorem dJx4a65c_add_7a177_56 : decode cJx4a65c_add_7a177 56 = .ok (.aastore, 1) := by decide +kernel
theorem dJx4a65c_add_7a177_57 : decode cJx4a65c_add_7a177 57 = .ok (.aload_n 0, 1) := by decide +kernel
theorem dJx4a65c_add_7a177_58 : decode cJx4a65c_add_7a177 58 = .ok (.iload_n 3, 1) := by decide +kernel
theorem dJx4a65c_add_7a177_59 : decode cJx4a65c_add_7a177 59 = .ok (.iconst 1, 1) := by decide +kernel
theorem dJx4a65c_add_7a177_60 : decode cJx4a65c_add_7a177 60 = .ok (.iadd, 1) := by decide +kernel
theorem dJx4a65c_add_7a177_61 : decode cJx4a65c_add_7a177 61 = .ok (.putfield 48, 3) := by decide +kernel
theorem dJx4a65c_add_7a177_64 : decode cJx4a65c_add_7a177 64 = .ok (.return_, 1) := by decide +kernel
theorem dJx4a65c_clear_da8c8_0 : decode cJx4a65c_clear_da8c8 0 = .ok (.aload_n 0, 1) := by decide +kernel
theorem dJx4a65c_clear_da8c8_1 : decode cJx4a65c_clear_da8c8 1 = .ok (.dup, 1) := by decide +kernel
theorem dJx4a65c_clear_da8c8_2 : decode cJx4a65c_clear_da8c8 2 = .ok (.getfield 63, 3) := by decide +kernel
theorem dJx4a65c_clear_da8c8_5 : decode cJx4a65c_clear_da8c8 5 = .ok (.iconst 1, 1) := by decide +kernel
theorem dJx4a65c_clear_da8c8_6 : decode cJx4a65c_clear_da8c8 6 = .ok (.iadd, 1) := by decide +kernel
theorem dJx4a65c_clear_da8c8_7 : decode cJx4a65c_clear_da8c8 7 = .ok (.putfield 63, 3) := by decide +kernel
theorem dJx4a65c_clear_da8c8_10 : decode cJx4a65c_clear_da8c8 10 = .ok (.aload_n 0, 1) := by decide +kernel
theorem dJx4a65c_clear_da8c8_11 : decode cJx4a65c_clear_da8c8 11 = .ok (.getfield 9, 3) := by decide +kernel
theorem dJx4a65c_clear_da8c8_14 : decode cJx4a65c_clear_da8c8 14 = .ok (.astore_n 1, 1) := by decide +kernel
theorem dJx4a65c_clear_da8c8_15 : decode cJx4a65c_clear_da8c8 15 = .ok (.aload_n 0, 1) := by decide +kernel
theorem dJx4a65c_clear_da8c8_16 : decode cJx4a65c_clear_da8c8 16 = .ok (.getfield 48, 3) := by decide +kernel
theorem dJx4a65c_clear_da8c8_19 : decode cJx4a65c_clear_da8c8 19 = .ok (.istore_n 2, 1) := by decide +kernel
theorem dJx4a65c_clear_da8c8_20 : decode cJx4a65c_clear_da8c8 20 = .ok (.aload_n 0, 1) := by decide +kernel
theorem dJx4a65c_clear_da8c8_21 : decode cJx4a65c_clear_da8c8 21 = .ok (.iconst 0, 1) := by decide +kernel
theorem dJx4a65c_clear_da8c8_22 : decode cJx4a65c_clear_da8c8 22 = .ok (.dup_x1, 1) := by decide +kernel
theorem dJx4a65c_clear_da8c8_23 : decode cJx4a65c_clear_da8c8 23 = .ok (.putfield 48, 3) := by decide +kernel
theorem dJx4a65c_clear_da8c8_26 : decode cJx4a65c_clear_da8c8 26 = .ok (.istore_n 3, 1) := by decide +kernel
theorem dJx4a65c_clear_da8c8_27 : decode cJx4a65c_clear_da8c8 27 = .ok (.iload_n 3, 1) := by decide +kernel
theorem dJx4a65c_clear_da8c8_28 : decode cJx4a65c_clear_da8c8 28 = .ok (.iload_n 2, 1) := by decide +kernel
theorem dJx4a65c_clear_da8c8_29 : decode cJx4a65c_clear_da8c8 29 = .ok (.if_icmp .ge 13, 3) := by decide +kernel
theorem dJx4a65c_clear_da8c8_32 : decode cJx4a65c_clear_da8c8 32 = .ok (.aload_n 1, 1) := by decide +kernel
theorem dJx4a65c_clear_da8c8_33 : decode cJx4a65c_clear_da8c8 33 = .ok (.iload_n 3, 1) := by decide +kernel
theorem dJx4a65c_clear_da8c8_34 : decode cJx4a65c_clear_da8c8 34 = .ok (.aconst_null, 1) := by decide +kernel
theorem dJx4a65c_clear_da8c8_35 : decode cJx4a65c_clear_da8c8 35 = .ok (.aastore, 1) := by decide +kernel
theorem dJx4a65c_clear_da8c8_36 : decode cJx4a65c_clear_da8c8 36 = .ok (.iinc 3 1, 3) := by decide +kernel
theorem dJx4a65c_clear_da8c8_39 : decode cJx4a65c_clear_da8c8 39 = .ok (.goto (-12), 3) := by decide +kernel
theorem dJx4a65c_clear_da8c8_42 : decode cJx4a65c_clear_da8c8 42 = .ok (.return_, 1) := by decide +kernel
theorem dJx4a65c_rangeCheckForAdd_d00df_0 : decode cJx4a65c_rangeCheckForAdd_d00df 0 = .ok (.iload_n 1, 1) := by decide +kernel
theorem dJx4a65c_rangeCheckForAdd_d00df_1 : decode cJx4a65c_rangeCheckForAdd_d00df 1 = .ok (.aload_n 0, 1) := by decide +kernel
theorem dJx4a65c_rangeCheckForAdd_d00df_2 : decode cJx4a65c_rangeCheckForAdd_d00df 2 = .ok (.getfield 48, 3) := by decide +kernel
theorem dJx4a65c_rangeCheckForAdd_d00df_5 : decode cJx4a65c_rangeCheckForAdd_d00df 5 = .ok (.if_icmp .gt 7, 3) := by decide +kernel
theorem dJx4a65c_rangeCheckForAdd_d00df_8 : decode cJx4a65c_rangeCheckForAdd_d00df 8 = .ok (.iload_n 1, 1) := by decide +kernel
theorem dJx4a65c_rangeCheckForAdd_d00df_9 : decode cJx4a65c_rangeCheckForAdd_d00df 9 = .ok (.ifCond .ge 16, 3) := by decide +kernel
theorem dJx4a65c_rangeCheckForAdd_d00df_12 : decode cJx4a65c_rangeCheckForAdd_d00df 12 = .ok (.new 187, 3) := by decide +kernel
theorem dJx4a65c_rangeCheckForAdd_d00df_15 : decode cJx4a65c_rangeCheckForAdd_d00df 15 = .ok (.dup, 1) := by decide +kernel
theorem dJx4a65c_rangeCheckForAdd_d00df_16 : decode cJx4a65c_rangeCheckForAdd_d00df 16 = .ok (.aload_n 0, 1) := by decide +kernel
theorem dJx4a65c_rangeCheckForAdd_d00df_17 : decode cJx4a65c_rangeCheckForAdd_d00df 17 = .ok (.iload_n 1, 1) := by decide +kernel
theorem dJx4a65c_rangeCheckForAdd_d00df_18 : decode cJx4a65c_rangeCheckForAdd_d00df 18 = .ok (.invokevirtual 198, 3) := by decide +kernel
theorem dJx4a65c_rangeCheckForAdd_d00df_21 : decode cJx4a65c_rangeCheckForAdd_d00df 21 = .ok (.invokespecial 193, 3) := by decide +kernel
theorem dJx4a65c_rangeCheckForAdd_d00df_24 : decode cJx4a65c_rangeCheckForAdd_d00df 24 = .ok (.athrow, 1) := by decide +kernel
theorem dJx4a65c_rangeCheckForAdd_d00df_25 : decode cJx4a65c_rangeCheckForAdd_d00df 25 = .ok (.return_, 1) := by decide +kernel
theorem dJx4a65c_outOfBoundsMsg_b52d3_0 : decode cJx4a65c_outOfBoundsMsg_b52d3 0 = .ok (.new 20, 3) := by decide +kernel
theorem dJx4a65c_outOfBoundsMsg_b52d3_3 : decode cJx4a65c_outOfBoundsMsg_b52d3 3 = .ok (.dup, 1) := by decide +kernel
theorem dJx4a65c_outOfBoundsMsg_b52d3_4 : decode cJx4a65c_outOfBoundsMsg_b52d3 4 = .ok (.invokespecial 22, 3) := by decide +kernel
theorem dJx4a65c_outOfBoundsMsg_b52d3_7 : decode cJx4a65c_outOfBoundsMsg_b52d3 7 = .ok (.ldc 201, 2) := by decide +kernel
theorem dJx4a65c_outOfBoundsMsg_b52d3_9 : decode cJx4a65c_outOfBoundsMsg_b52d3 9 = .ok (.invokevirtual 25, 3) := by decide +kernel
theorem dJx4a65c_outOfBoundsMsg_b52d3_12 : decode cJx4a65c_outOfBoundsMsg_b52d3 12 = .ok (.iload_n 1, 1) := by decide +kernel
theorem dJx4a65c_outOfBoundsMsg_b52d3_13 : decode cJx4a65c_outOfBoundsMsg_b52d3 13 = .ok (.invokevirtual 29, 3) := by decide +kernel
theorem dJx4a65c_outOfBoundsMsg_b52d3_16 : decode cJx4a65c_outOfBoundsMsg_b52d3 16 = .ok (.ldc 203, 2) := by decide +kernel
theorem dJx4a65c_outOfBoundsMsg_b52d3_18 : decode cJx4a65c_outOfBoundsMsg_b52d3 18 = .ok (.invokevirtual 25, 3) := by decide +kernel
theorem dJx4a65c_outOfBoundsMsg_b52d3_21 : decode cJx4a65c_outOfBoundsMsg_b52d3 21 = .ok (.aload_n 0, 1) := by decide +kernel
theorem dJx4a65c_outOfBoundsMsg_b52d3_22 : decode cJx4a65c_outOfBoundsMsg_b52d3 22 = .ok (.getfield 48, 3) := by decide +kernel
theorem dJx4a65c_outOfBoundsMsg_b52d3_25 : decode cJx4a65c_outOfBoundsMsg_b52d3 25 = .ok (.invokevirtual 29, 3) := by decide +kernel
theorem dJx4a65c_outOfBoundsMsg_b52d3_28 : decode cJx4a65c_outOfBoundsMsg_b52d3 28 = .ok (.invokevirtual 32, 3) := by decide +kernel
theorem dJx4a65c_outOfBoundsMsg_b52d3_31 : decode cJx4a65c_outOfBoundsMsg_b52d3 31 = .ok (.areturn, 1) := by decide +kernel
theorem dJ7_copyOf_1904c_0 : decode cJ7_copyOf_1904c 0 = .ok (.aload_n 0, 1) := by decide +kernel
theorem dJ7_copyOf_1904c_1 : decode cJ7_copyOf_1904c 1 = .ok (.iload_n 1, 1) := by decide +kernel
theorem dJ7_copyOf_1904c_2 : decode cJ7_copyOf_1904c 2 = .ok (.aload_n 0, 1) := by decide +kernel
theorem dJ7_copyOf_1904c_3 : decode cJ7_copyOf_1904c 3 = .ok (.invokevirtual 86, 3) := by decide +kernel
theorem dJ7_copyOf_1904c_6 : decode cJ7_copyOf_1904c 6 = .ok (.invokestatic 300, 3) := by decide +kernel
theorem dJ7_copyOf_1904c_9 : decode cJ7_copyOf_1904c 9 = .ok (.areturn, 1) := by decide +kernel
theorem dJ7_copyOf_6403c_0 : decode cJ7_copyOf_6403c 0 = .ok (.aload_n 2, 1) := by decide +kernel
theorem dJ7_copyOf_6403c_1 : decode cJ7_copyOf_6403c 1 = .ok (.ldc 110, 2) := by decide +kernel
theorem dJ7_copyOf_6403c_3 : decode cJ7_copyOf_6403c 3 = .ok (.if_acmp .ne 10, 3) := by decide +kernel
theorem dJ7_copyOf_6403c_6 : decode cJ7_copyOf_6403c 6 = .ok (.iload_n 1, 1) := by decide +kernel
theorem dJ7_copyOf_6403c_7 : decode cJ7_copyOf_6403c 7 = .ok (.anewarray 2, 3) := by decide +kernel
theorem dJ7_copyOf_6403c_10 : decode cJ7_copyOf_6403c 10 = .ok (.goto 14, 3) := by decide +kernel
theorem dJ7_copyOf_6403c_13 : decode cJ7_copyOf_6403c 13 = .ok (.aload_n 2, 1) := by decide +kernel
theorem dJ7_copyOf_6403c_14 : decode cJ7_copyOf_6403c 14 = .ok (.invokevirtual 90, 3) := by decide +kernel
theorem dJ7_copyOf_6403c_17 : decode cJ7_copyOf_6403c 17 = .ok (.iload_n 1, 1) := by decide +kernel
theorem dJ7_copyOf_6403c_18 : decode cJ7_copyOf_6403c 18 = .ok (.invokestatic 95, 3) := by decide +kernel
theorem dJ7_copyOf_6403c_21 : decode cJ7_copyOf_6403c 21 = .ok (.checkcast 110, 3) := by decide +kernel
theorem dJ7_copyOf_6403c_24 : decode cJ7_copyOf_6403c 24 = .ok (.astore_n 3, 1) := by decide +kernel
theorem dJ7_copyOf_6403c_25 : decode cJ7_copyOf_6403c 25 = .ok (.aload_n 0, 1) := by decide +kernel
theorem dJ7_copyOf_6403c_26 : decode cJ7_copyOf_6403c 26 = .ok (.iconst 0, 1) := by decide +kernel
theorem dJ7_copyOf_6403c_27 : decode cJ7_copyOf_6403c 27 = .ok (.aload_n 3, 1) := by decide +kernel
theorem dJ7_copyOf_6403c_28 : decode cJ7_copyOf_6403c 28 = .ok (.iconst 0, 1) := by decide +kernel
theorem dJ7_copyOf_6403c_29 : decode cJ7_copyOf_6403c 29 = .ok (.aload_n 0, 1) := by decide +kernel
theorem dJ7_copyOf_6403c_30 : decode cJ7_copyOf_6403c 30 = .ok (.arraylength, 1) := by decide +kernel
theorem dJ7_copyOf_6403c_31 : decode cJ7_copyOf_6403c 31 = .ok (.iload_n 1, 1) := by decide +kernel
theorem dJ7_copyOf_6403c_32 : decode cJ7_copyOf_6403c 32 = .ok (.invokestatic 304, 3) := by decide +kernel
theorem dJ7_copyOf_6403c_35 : decode cJ7_copyOf_6403c 35 = .ok (.invokestatic 150, 3) := by decide +kernel
theorem dJ7_copyOf_6403c_38 : decode cJ7_copyOf_6403c 38 = .ok (.aload_n 3, 1) := by decide +kernel
theorem dJ7_copyOf_6403c_39 : decode cJ7_copyOf_6403c 39 = .ok (.areturn, 1) := by decide +kernel
theorem dJ7_copyOf_9075b_0 : decode cJ7_copyOf_9075b 0 = .ok (.iload_n 1, 1) := by decide +kernel
theorem dJ7_copyOf_9075b_1 : decode cJ7_copyOf_9075b 1 = .ok (.aload_n 0, 1) := by decide +kernel
theorem dJ7_copyOf_9075b_2 : decode cJ7_copyOf_9075b 2 = .ok (.arraylength, 1) := by decide +kernel
theorem dJ7_copyOf_9075b_3 : decode cJ7_copyOf_9075b 3 = .ok (.if_icmp .ne 11, 3) := by decide +kernel
theorem dJ7_copyOf_9075b_6 : decode cJ7_copyOf_9075b 6 = .ok (.aload_n 0, 1) := by decide +kernel
theorem dJ7_copyOf_9075b_7 : decode cJ7_copyOf_9075b 7 = .ok (.invokevirtual 310, 3) := by decide +kernel
theorem dJ7_copyOf_9075b_10 : decode cJ7_copyOf_9075b 10 = .ok (.checkcast 311, 3) := by decide +kernel
theorem dJ7_copyOf_9075b_13 : decode cJ7_copyOf_9075b 13 = .ok (.areturn, 1) := by decide +kernel
theorem dJ7_copyOf_9075b_14 : decode cJ7_copyOf_9075b 14 = .ok (.iload_n 1, 1) := by decide +kernel
theorem dJ7_copyOf_9075b_15 : decode cJ7_copyOf_9075b 15 = .ok (.newarray .byte, 2) := by decide +kernel
theorem dJ7_copyOf_9075b_17 : decode cJ7_copyOf_9075b 17 = .ok (.astore_n 2, 1) := by decide +kernel
theorem dJ7_copyOf_9075b_18 : decode cJ7_copyOf_9075b 18 = .ok (.aload_n 0, 1) := by decide +kernel
theorem dJ7_copyOf_9075b_19 : decode cJ7_copyOf_9075b 19 = .ok (.iconst 0, 1) := by decide +kernel
theorem dJ7_copyOf_9075b_20 : decode cJ7_copyOf_9075b 20 = .ok (.aload_n 2, 1) := by decide +kernel
theorem dJ7_copyOf_9075b_21 : decode cJ7_copyOf_9075b 21 = .ok (.iconst 0, 1) := by decide +kernel
theorem dJ7_copyOf_9075b_22 : decode cJ7_copyOf_9075b 22 = .ok (.aload_n 0, 1) := by decide +kernel
theorem dJ7_copyOf_9075b_23 : decode cJ7_copyOf_9075b 23 = .ok (.arraylength, 1) := by decide +kernel
theorem dJ7_copyOf_9075b_24 : decode cJ7_copyOf_9075b 24 = .ok (.iload_n 1, 1) := by decide +kernel
theorem dJ7_copyOf_9075b_25 : decode cJ7_copyOf_9075b 25 = .ok (.invokestatic 304, 3) := by decide +kernel
theorem dJ7_copyOf_9075b_28 : decode cJ7_copyOf_9075b 28 = .ok (.invokestatic 150, 3) := by decide +kernel
theorem dJ7_copyOf_9075b_31 : decode cJ7_copyOf_9075b 31 = .ok (.aload_n 2, 1) := by decide +kernel
theorem dJ7_copyOf_9075b_32 : decode cJ7_copyOf_9075b 32 = .ok (.areturn, 1) := by decide +kernel
theorem dJ7_checkLength_df160_0 : decode cJ7_checkLength_df160 0 = .ok (.iload_n 1, 1) := by decide +kernel
theorem dJ7_checkLength_df160_1 : decode cJ7_checkLength_df160 1 = .ok (.iload_n 0, 1) := by decide +kernel
theorem dJ7_checkLength_df160_2 : decode cJ7_checkLength_df160 2 = .ok (.if_icmp .ge 35, 3) := by decide +kernel
theorem dJ7_checkLength_df160_5 : decode cJ7_checkLength_df160 5 = .ok (.new 43, 3) := by decide +kernel
theorem dJ7_checkLength_df160_8 : decode cJ7_checkLength_df160 8 = .ok (.dup, 1) := by decide +kernel
theorem dJ7_checkLength_df160_9 : decode cJ7_checkLength_df160 9 = .ok (.new 45, 3) := by decide +kernel
theorem dJ7_checkLength_df160_12 : decode cJ7_checkLength_df160 12 = .ok (.dup, 1) := by decide +kernel
theorem dJ7_checkLength_df160_13 : decode cJ7_checkLength_df160 13 = .ok (.invokespecial 47, 3) := by decide +kernel
theorem dJ7_checkLength_df160_16 : decode cJ7_checkLength_df160 16 = .ok (.iload_n 0, 1) := by decide +kernel
theorem dJ7_checkLength_df160_17 : decode cJ7_checkLength_df160 17 = .ok (.invokevirtual 54, 3) := by decide +kernel
theorem dJ7_checkLength_df160_20 : decode cJ7_checkLength_df160 20 = .ok (.ldc_w 337, 3) := by decide +kernel
theorem dJ7_checkLength_df160_23 : decode cJ7_checkLength_df160 23 = .ok (.invokevirtual 50, 3) := by decide +kernel
theorem dJ7_checkLength_df160_26 : decode cJ7_checkLength_df160 26 = .ok (.iload_n 1, 1) := by decide +kernel
theorem dJ7_checkLength_df160_27 : decode cJ7_checkLength_df160 27 = .ok (.invokevirtual 54, 3) := by decide +kernel
theorem dJ7_checkLength_df160_30 : decode cJ7_checkLength_df160 30 = .ok (.invokevirtual 61, 3) := by decide +kernel
theorem dJ7_checkLength_df160_33 : decode cJ7_checkLength_df160 33 = .ok (.invokespecial 65, 3) := by decide +kernel
theorem dJ7_checkLength_df160_36 : decode cJ7_checkLength_df160 36 = .ok (.athrow, 1) := by decide +kernel
theorem dJ7_checkLength_df160_37 : decode cJ7_checkLength_df160 37 = .ok (.return_, 1) := by decide +kernel
theorem dJ7_copyOfRange_39247_0 : decode cJ7_copyOfRange_39247 0 = .ok (.iload_n 1, 1) := by decide +kernel
theorem dJ7_copyOfRange_39247_1 : decode cJ7_copyOfRange_39247 1 = .ok (.ifCond .ne 9, 3) := by decide +kernel
theorem dJ7_copyOfRange_39247_4 : decode cJ7_copyOfRange_39247 4 = .ok (.iload_n 2, 1) := by decide +kernel
theorem dJ7_copyOfRange_39247_5 : decode cJ7_copyOfRange_39247 5 = .ok (.aload_n 0, 1) := by decide +kernel
theorem dJ7_copyOfRange_39247_6 : decode cJ7_copyOfRange_39247 6 = .ok (.arraylength, 1) := by decide +kernel
theorem dJ7_copyOfRange_39247_7 : decode cJ7_copyOfRange_39247 7 = .ok (.if_icmp .eq 10, 3) := by decide +kernel
theorem dJ7_copyOfRange_39247_10 : decode cJ7_copyOfRange_39247 10 = .ok (.aload_n 0, 1) := by decide +kernel
theorem dJ7_copyOfRange_39247_11 : decode cJ7_copyOfRange_39247 11 = .ok (.iload_n 1, 1) := by decide +kernel
theorem dJ7_copyOfRange_39247_12 : decode cJ7_copyOfRange_39247 12 = .ok (.iload_n 2, 1) := by decide +kernel
theorem dJ7_copyOfRange_39247_13 : decode cJ7_copyOfRange_39247 13 = .ok (.invokestatic 339, 3) := by decide +kernel
theorem dJ7_copyOfRange_39247_16 : decode cJ7_copyOfRange_39247 16 = .ok (.areturn, 1) := by decide +kernel
theorem dJ7_copyOfRange_39247_17 : decode cJ7_copyOfRange_39247 17 = .ok (.aload_n 0, 1) := by decide +kernel
theorem dJ7_copyOfRange_39247_18 : decode cJ7_copyOfRange_39247 18 = .ok (.invokevirtual 310, 3) := by decide +kernel
theorem dJ7_copyOfRange_39247_21 : decode cJ7_copyOfRange_39247 21 = .ok (.checkcast 311, 3) := by decide +kernel
theorem dJ7_copyOfRange_39247_24 : decode cJ7_copyOfRange_39247 24 = .ok (.areturn, 1) := by decide +kernel
theorem dJ7_copyOfRangeByte_39247_0 : decode cJ7_copyOfRangeByte_39247 0 = .ok (.iload_n 1, 1) := by decide +kernel
theorem dJ7_copyOfRangeByte_39247_1 : decode cJ7_copyOfRangeByte_39247 1 = .ok (.iload_n 2, 1) := by decide +kernel
theorem dJ7_copyOfRangeByte_39247_2 : decode cJ7_copyOfRangeByte_39247 2 = .ok (.invokestatic 343, 3) := by decide +kernel
theorem dJ7_copyOfRangeByte_39247_5 : decode cJ7_copyOfRangeByte_39247 5 = .ok (.iload_n 2, 1) := by decide +kernel
theorem dJ7_copyOfRangeByte_39247_6 : decode cJ7_copyOfRangeByte_39247 6 = .ok (.iload_n 1, 1) := by decide +kernel
theorem dJ7_copyOfRangeByte_39247_7 : decode cJ7_copyOfRangeByte_39247 7 = .ok (.isub, 1) := by decide +kernel
theorem dJ7_copyOfRangeByte_39247_8 : decode cJ7_copyOfRangeByte_39247 8 = .ok (.istore_n 3, 1) := by decide +kernel
theorem dJ7_copyOfRangeByte_39247_9 : decode cJ7_copyOfRangeByte_39247 9 = .ok (.iload_n 3, 1) := by decide +kernel
theorem dJ7_copyOfRangeByte_39247_10 : decode cJ7_copyOfRangeByte_39247 10 = .ok (.newarray .byte, 2) := by decide +kernel
theorem dJ7_copyOfRangeByte_39247_12 : decode cJ7_copyOfRangeByte_39247 12 = .ok (.astore 4, 2) := by decide +kernel
theorem dJ7_copyOfRangeByte_39247_14 : decode cJ7_copyOfRangeByte_39247 14 = .ok (.aload_n 0, 1) := by decide +kernel
theorem dJ7_copyOfRangeByte_39247_15 : decode cJ7_copyOfRangeByte_39247 15 = .ok (.iload_n 1, 1) := by decide +kernel
theorem dJ7_copyOfRangeByte_39247_16 : decode cJ7_copyOfRangeByte_39247 16 = .ok (.aload 4, 2) := by decide +kernel
theorem dJ7_copyOfRangeByte_39247_18 : decode cJ7_copyOfRangeByte_39247 18 = .ok (.iconst 0, 1) := by decide +kernel
theorem dJ7_copyOfRangeByte_39247_19 : decode cJ7_copyOfRangeByte_39247 19 = .ok (.aload_n 0, 1) := by decide +kernel
theorem dJ7_copyOfRangeByte_39247_20 : decode cJ7_copyOfRangeByte_39247 20 = .ok (.arraylength, 1) := by decide +kernel
theorem dJ7_copyOfRangeByte_39247_21 : decode cJ7_copyOfRangeByte_39247 21 = .ok (.iload_n 1, 1) := by decide +kernel
theorem dJ7_copyOfRangeByte_39247_22 : decode cJ7_copyOfRangeByte_39247 22 = .ok (.isub, 1) := by decide +kernel
theorem dJ7_copyOfRangeByte_39247_23 : decode cJ7_copyOfRangeByte_39247 23 = .ok (.iload_n 3, 1) := by decide +kernel
theorem dJ7_copyOfRangeByte_39247_24 : decode cJ7_copyOfRangeByte_39247 24 = .ok (.invokestatic 304, 3) := by decide +kernel
theorem dJ7_copyOfRangeByte_39247_27 : decode cJ7_copyOfRangeByte_39247 27 = .ok (.invokestatic 150, 3) := by decide +kernel
theorem dJ7_copyOfRangeByte_39247_30 : decode cJ7_copyOfRangeByte_39247 30 = .ok (.aload 4, 2) := by decide +kernel
theorem dJ7_copyOfRangeByte_39247_32 : decode cJ7_copyOfRangeByte_39247 32 = .ok (.areturn, 1) := by decide +kernel
theorem dJ15_checkIndex_7cf53_0 : decode cJ15_checkIndex_7cf53 0 = .ok (.iload_n 0, 1) := by decide +kernel
theorem dJ15_checkIndex_7cf53_1 : decode cJ15_checkIndex_7cf53 1 = .ok (.iload_n 1, 1) := by decide +kernel
theorem dJ15_checkIndex_7cf53_2 : decode cJ15_checkIndex_7cf53 2 = .ok (.aconst_null, 1) := by decide +kernel
theorem dJ15_checkIndex_7cf53_3 : decode cJ15_checkIndex_7cf53 3 = .ok (.invokestatic 105, 3) := by decide +kernel
theorem dJ15_checkIndex_7cf53_6 : decode cJ15_checkIndex_7cf53 6 = .ok (.ireturn, 1) := by decide +kernel
theorem dJ8_newLength_cabcc_0 : decode cJ8_newLength_cabcc 0 = .ok (.iload_n 0, 1) := by decide +kernel
theorem dJ8_newLength_cabcc_1 : decode cJ8_newLength_cabcc 1 = .ok (.iload_n 1, 1) := by decide +kernel
theorem dJ8_newLength_cabcc_2 : decode cJ8_newLength_cabcc 2 = .ok (.iload_n 2, 1) := by decide +kernel
theorem dJ8_newLength_cabcc_3 : decode cJ8_newLength_cabcc 3 = .ok (.invokestatic 194, 3) := by decide +kernel
theorem dJ8_newLength_cabcc_6 : decode cJ8_newLength_cabcc 6 = .ok (.iadd, 1) := by decide +kernel
theorem dJ8_newLength_cabcc_7 : decode cJ8_newLength_cabcc 7 = .ok (.istore_n 3, 1) := by decide +kernel
theorem dJ8_newLength_cabcc_8 : decode cJ8_newLength_cabcc 8 = .ok (.iconst 0, 1) := by decide +kernel
theorem dJ8_newLength_cabcc_9 : decode cJ8_newLength_cabcc 9 = .ok (.iload_n 3, 1) := by decide +kernel
theorem dJ8_newLength_cabcc_10 : decode cJ8_newLength_cabcc 10 = .ok (.if_icmp .ge 11, 3) := by decide +kernel
theorem dJ8_newLength_cabcc_13 : decode cJ8_newLength_cabcc 13 = .ok (.iload_n 3, 1) := by decide +kernel
theorem dJ8_newLength_cabcc_14 : decode cJ8_newLength_cabcc 14 = .ok (.ldc 200, 2) := by decide +kernel
theorem dJ8_newLength_cabcc_16 : decode cJ8_newLength_cabcc 16 = .ok (.if_icmp .gt 5, 3) := by decide +kernel
theorem dJ8_newLength_cabcc_19 : decode cJ8_newLength_cabcc 19 = .ok (.iload_n 3, 1) := by decide +kernel
theorem dJ8_newLength_cabcc_20 : decode cJ8_newLength_cabcc 20 = .ok (.ireturn, 1) := by decide +kernel
theorem dJ8_newLength_cabcc_21 : decode cJ8_newLength_cabcc 21 = .ok (.iload_n 0, 1) := by decide +kernel
theorem dJ8_newLength_cabcc_22 : decode cJ8_newLength_cabcc 22 = .ok (.iload_n 1, 1) := by decide +kernel
theorem dJ8_newLength_cabcc_23 : decode cJ8_newLength_cabcc 23 = .ok (.invokestatic 201, 3) := by decide +kernel
theorem dJ8_newLength_cabcc_26 : decode cJ8_newLength_cabcc 26 = .ok (.ireturn, 1) := by decide +kernel
theorem dJ8_hugeLength_7cf53_0 : decode cJ8_hugeLength_7cf53 0 = .ok (.iload_n 0, 1) := by decide +kernel
theorem dJ8_hugeLength_7cf53_1 : decode cJ8_hugeLength_7cf53 1 = .ok (.iload_n 1, 1) := by decide +kernel
theorem dJ8_hugeLength_7cf53_2 : decode cJ8_hugeLength_7cf53 2 = .ok (.iadd, 1) := by decide +kernel
theorem dJ8_hugeLength_7cf53_3 : decode cJ8_hugeLength_7cf53 3 = .ok (.istore_n 2, 1) := by decide +kernel
theorem dJ8_hugeLength_7cf53_4 : decode cJ8_hugeLength_7cf53 4 = .ok (.iload_n 2, 1) := by decide +kernel
theorem dJ8_hugeLength_7cf53_5 : decode cJ8_hugeLength_7cf53 5 = .ok (.ifCond .ge 44, 3) := by decide +kernel
theorem dJ8_hugeLength_7cf53_8 : decode cJ8_hugeLength_7cf53 8 = .ok (.new 204, 3) := by decide +kernel
theorem dJ8_hugeLength_7cf53_11 : decode cJ8_hugeLength_7cf53 11 = .ok (.dup, 1) := by decide +kernel
theorem dJ8_hugeLength_7cf53_12 : decode cJ8_hugeLength_7cf53 12 = .ok (.new 89, 3) := by decide +kernel
theorem dJ8_hugeLength_7cf53_15 : decode cJ8_hugeLength_7cf53 15 = .ok (.dup, 1) := by decide +kernel
theorem dJ8_hugeLength_7cf53_16 : decode cJ8_hugeLength_7cf53 16 = .ok (.invokespecial 91, 3) := by decide +kernel
theorem dJ8_hugeLength_7cf53_19 : decode cJ8_hugeLength_7cf53 19 = .ok (.ldc 206, 2) := by decide +kernel
theorem dJ8_hugeLength_7cf53_21 : decode cJ8_hugeLength_7cf53 21 = .ok (.invokevirtual 94, 3) := by decide +kernel
theorem dJ8_hugeLength_7cf53_24 : decode cJ8_hugeLength_7cf53 24 = .ok (.iload_n 0, 1) := by decide +kernel
theorem dJ8_hugeLength_7cf53_25 : decode cJ8_hugeLength_7cf53 25 = .ok (.invokevirtual 98, 3) := by decide +kernel
theorem dJ8_hugeLength_7cf53_28 : decode cJ8_hugeLength_7cf53 28 = .ok (.ldc 208, 2) := by decide +kernel
theorem dJ8_hugeLength_7cf53_30 : decode cJ8_hugeLength_7cf53 30 = .ok (.invokevirtual 94, 3) := by decide +kernel
theorem dJ8_hugeLength_7cf53_33 : decode cJ8_hugeLength_7cf53 33 = .ok (.iload_n 1, 1) := by decide +kernel
theorem dJ8_hugeLength_7cf53_34 : decode cJ8_hugeLength_7cf53 34 = .ok (.invokevirtual 98, 3) := by decide +kernel
theorem dJ8_hugeLength_7cf53_37 : decode cJ8_hugeLength_7cf53 37 = .ok (.ldc 210, 2) := by decide +kernel
theorem dJ8_hugeLength_7cf53_39 : decode cJ8_hugeLength_7cf53 39 = .ok (.invokevirtual 94, 3) := by decide +kernel
theorem dJ8_hugeLength_7cf53_42 : decode cJ8_hugeLength_7cf53 42 = .ok (.invokevirtual 101, 3) := by decide +kernel
theorem dJ8_hugeLength_7cf53_45 : decode cJ8_hugeLength_7cf53 45 = .ok (.invokespecial 212, 3) := by decide +kernel
theorem dJ8_hugeLength_7cf53_48 : decode cJ8_hugeLength_7cf53 48 = .ok (.athrow, 1) := by decide +kernel
theorem dJ8_hugeLength_7cf53_49 : decode cJ8_hugeLength_7cf53 49 = .ok (.iload_n 2, 1) := by decide +kernel
theorem dJ8_hugeLength_7cf53_50 : decode cJ8_hugeLength_7cf53 50 = .ok (.ldc 200, 2) := by decide +kernel
theorem dJ8_hugeLength_7cf53_52 : decode cJ8_hugeLength_7cf53 52 = .ok (.if_icmp .gt 6, 3) := by decide +kernel
theorem dJ8_hugeLength_7cf53_55 : decode cJ8_hugeLength_7cf53 55 = .ok (.ldc 200, 2) := by decide +kernel
theorem dJ8_hugeLength_7cf53_57 : decode cJ8_hugeLength_7cf53 57 = .ok (.ireturn, 1) := by decide +kernel
theorem dJ8_hugeLength_7cf53_58 : decode cJ8_hugeLength_7cf53 58 = .ok (.iload_n 2, 1) := by decide +kernel
theorem dJ8_hugeLength_7cf53_59 : decode cJ8_hugeLength_7cf53 59 = .ok (.ireturn, 1) := by decide +kernel
theorem dJ3_checkIndex_8e157_0 : decode cJ3_checkIndex_8e157 0 = .ok (.iload_n 0, 1) := by decide +kernel
theorem dJ3_checkIndex_8e157_1 : decode cJ3_checkIndex_8e157 1 = .ok (.ifCond .lt 8, 3) := by decide +kernel
theorem dJ3_checkIndex_8e157_4 : decode cJ3_checkIndex_8e157 4 = .ok (.iload_n 0, 1) := by decide +kernel
theorem dJ3_checkIndex_8e157_5 : decode cJ3_checkIndex_8e157 5 = .ok (.iload_n 1, 1) := by decide +kernel
theorem dJ3_checkIndex_8e157_6 : decode cJ3_checkIndex_8e157 6 = .ok (.if_icmp .lt 10, 3) := by decide +kernel
theorem dJ3_checkIndex_8e157_9 : decode cJ3_checkIndex_8e157 9 = .ok (.aload_n 2, 1) := by decide +kernel
theorem dJ3_checkIndex_8e157_10 : decode cJ3_checkIndex_8e157 10 = .ok (.iload_n 0, 1) := by decide +kernel
theorem dJ3_checkIndex_8e157_11 : decode cJ3_checkIndex_8e157 11 = .ok (.iload_n 1, 1) := by decide +kernel
theorem dJ3_checkIndex_8e157_12 : decode cJ3_checkIndex_8e157 12 = .ok (.invokestatic 95, 3) := by decide +kernel
theorem dJ3_checkIndex_8e157_15 : decode cJ3_checkIndex_8e157 15 = .ok (.athrow, 1) := by decide +kernel
theorem dJ3_checkIndex_8e157_16 : decode cJ3_checkIndex_8e157 16 = .ok (.iload_n 0, 1) := by decide +kernel
theorem dJ3_checkIndex_8e157_17 : decode cJ3_checkIndex_8e157 17 = .ok (.ireturn, 1) := by decide +kernel
theorem dJ3_checkFromToIndex_8c36e_0 : decode cJ3_checkFromToIndex_8c36e 0 = .ok (.iload_n 0, 1) := by decide +kernel
theorem dJ3_checkFromToIndex_8c36e_1 : decode cJ3_checkFromToIndex_8c36e 1 = .ok (.ifCond .lt 13, 3) := by decide +kernel
theorem dJ3_checkFromToIndex_8c36e_4 : decode cJ3_checkFromToIndex_8c36e 4 = .ok (.iload_n 0, 1) := by decide +kernel
theorem dJ3_checkFromToIndex_8c36e_5 : decode cJ3_checkFromToIndex_8c36e 5 = .ok (.iload_n 1, 1) := by decide +kernel
theorem dJ3_checkFromToIndex_8c36e_6 : decode cJ3_checkFromToIndex_8c36e 6 = .ok (.if_icmp .gt 8, 3) := by decide +kernel
theorem dJ3_checkFromToIndex_8c36e_9 : decode cJ3_checkFromToIndex_8c36e 9 = .ok (.iload_n 1, 1) := by decide +kernel
theorem dJ3_checkFromToIndex_8c36e_10 : decode cJ3_checkFromToIndex_8c36e 10 = .ok (.iload_n 2, 1) := by decide +kernel
theorem dJ3_checkFromToIndex_8c36e_11 : decode cJ3_checkFromToIndex_8c36e 11 = .ok (.if_icmp .le 11, 3) := by decide +kernel
theorem dJ3_checkFromToIndex_8c36e_14 : decode cJ3_checkFromToIndex_8c36e 14 = .ok (.aload_n 3, 1) := by decide +kernel
theorem dJ3_checkFromToIndex_8c36e_15 : decode cJ3_checkFromToIndex_8c36e 15 = .ok (.iload_n 0, 1) := by decide +kernel
theorem dJ3_checkFromToIndex_8c36e_16 : decode cJ3_checkFromToIndex_8c36e 16 = .ok (.iload_n 1, 1) := by decide +kernel
theorem dJ3_checkFromToIndex_8c36e_17 : decode cJ3_checkFromToIndex_8c36e 17 = .ok (.iload_n 2, 1) := by decide +kernel
theorem dJ3_checkFromToIndex_8c36e_18 : decode cJ3_checkFromToIndex_8c36e 18 = .ok (.invokestatic 99, 3) := by decide +kernel
theorem dJ3_checkFromToIndex_8c36e_21 : decode cJ3_checkFromToIndex_8c36e 21 = .ok (.athrow, 1) := by decide +kernel
theorem dJ3_checkFromToIndex_8c36e_22 : decode cJ3_checkFromToIndex_8c36e 22 = .ok (.iload_n 0, 1) := by decide +kernel
theorem dJ3_checkFromToIndex_8c36e_23 : decode cJ3_checkFromToIndex_8c36e 23 = .ok (.ireturn, 1) := by decide +kernel
theorem dJ3_checkFromIndexSize_8c36e_0 : decode cJ3_checkFromIndexSize_8c36e 0 = .ok (.iload_n 2, 1) := by decide +kernel
theorem dJ3_checkFromIndexSize_8c36e_1 : decode cJ3_checkFromIndexSize_8c36e 1 = .ok (.iload_n 0, 1) := by decide +kernel
theorem dJ3_checkFromIndexSize_8c36e_2 : decode cJ3_checkFromIndexSize_8c36e 2 = .ok (.ior, 1) := by decide +kernel
theorem dJ3_checkFromIndexSize_8c36e_3 : decode cJ3_checkFromIndexSize_8c36e 3 = .ok (.iload_n 1, 1) := by decide +kernel
theorem dJ3_checkFromIndexSize_8c36e_4 : decode cJ3_checkFromIndexSize_8c36e 4 = .ok (.ior, 1) := by decide +kernel
theorem dJ3_checkFromIndexSize_8c36e_5 : decode cJ3_checkFromIndexSize_8c36e 5 = .ok (.ifCond .lt 10, 3) := by decide +kernel
theorem dJ3_checkFromIndexSize_8c36e_8 : decode cJ3_checkFromIndexSize_8c36e 8 = .ok (.iload_n 1, 1) := by decide +kernel
theorem dJ3_checkFromIndexSize_8c36e_9 : decode cJ3_checkFromIndexSize_8c36e 9 = .ok (.iload_n 2, 1) := by decide +kernel
theorem dJ3_checkFromIndexSize_8c36e_10 : decode cJ3_checkFromIndexSize_8c36e 10 = .ok (.iload_n 0, 1) := by decide +kernel
theorem dJ3_checkFromIndexSize_8c36e_11 : decode cJ3_checkFromIndexSize_8c36e 11 = .ok (.isub, 1) := by decide +kernel
theorem dJ3_checkFromIndexSize_8c36e_12 : decode cJ3_checkFromIndexSize_8c36e 12 = .ok (.if_icmp .le 11, 3) := by decide +kernel
theorem dJ3_checkFromIndexSize_8c36e_15 : decode cJ3_checkFromIndexSize_8c36e 15 = .ok (.aload_n 3, 1) := by decide +kernel
theorem dJ3_checkFromIndexSize_8c36e_16 : decode cJ3_checkFromIndexSize_8c36e 16 = .ok (.iload_n 0, 1) := by decide +kernel
theorem dJ3_checkFromIndexSize_8c36e_17 : decode cJ3_checkFromIndexSize_8c36e 17 = .ok (.iload_n 1, 1) := by decide +kernel
theorem dJ3_checkFromIndexSize_8c36e_18 : decode cJ3_checkFromIndexSize_8c36e 18 = .ok (.iload_n 2, 1) := by decide +kernel
theorem dJ3_checkFromIndexSize_8c36e_19 : decode cJ3_checkFromIndexSize_8c36e 19 = .ok (.invokestatic 103, 3) := by decide +kernel
theorem dJ3_checkFromIndexSize_8c36e_22 : decode cJ3_checkFromIndexSize_8c36e 22 = .ok (.athrow, 1) := by decide +kernel
theorem dJ3_checkFromIndexSize_8c36e_23 : decode cJ3_checkFromIndexSize_8c36e 23 = .ok (.iload_n 0, 1) := by decide +kernel
theorem dJ3_checkFromIndexSize_8c36e_24 : decode cJ3_checkFromIndexSize_8c36e 24 = .ok (.ireturn, 1) := by decide +kernel
