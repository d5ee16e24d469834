theorem dX9_init_0 : decode cX9_init 0 = .ok (.aload_n 0, 1) := by decide +kernel
theorem dX9_init_1 : decode cX9_init 1 = .ok (.invokespecial 1, 3) := by decide +kernel
theorem dX9_init_4 : decode cX9_init 4 = .ok (.aload_n 0, 1) := by decide +kernel
theorem dX9_init_5 : decode cX9_init 5 = .ok (.sipush 1100, 3) := by decide +kernel
theorem dX9_init_8 : decode cX9_init 8 = .ok (.newarray .long, 2) := by decide +kernel
theorem dX9_init_10 : decode cX9_init 10 = .ok (.putfield 9, 3) := by decide +kernel
theorem dX9_init_13 : decode cX9_init 13 = .ok (.aload_n 0, 1) := by decide +kernel
theorem dX9_init_14 : decode cX9_init 14 = .ok (.sipush 8800, 3) := by decide +kernel
theorem dX9_init_17 : decode cX9_init 17 = .ok (.newarray .long, 2) := by decide +kernel
theorem dX9_init_19 : decode cX9_init 19 = .ok (.putfield 13, 3) := by decide +kernel
theorem dX9_init_22 : decode cX9_init 22 = .ok (.aload_n 0, 1) := by decide +kernel
theorem dX9_init_23 : decode cX9_init 23 = .ok (.sipush 1100, 3) := by decide +kernel
theorem dX9_init_26 : decode cX9_init 26 = .ok (.newarray .long, 2) := by decide +kernel
theorem dX9_init_28 : decode cX9_init 28 = .ok (.putfield 16, 3) := by decide +kernel
theorem dX9_init_31 : decode cX9_init 31 = .ok (.aload_n 0, 1) := by decide +kernel
theorem dX9_init_32 : decode cX9_init 32 = .ok (.sipush 1100, 3) := by decide +kernel
theorem dX9_init_35 : decode cX9_init 35 = .ok (.newarray .long, 2) := by decide +kernel
theorem dX9_init_37 : decode cX9_init 37 = .ok (.putfield 19, 3) := by decide +kernel
theorem dX9_init_40 : decode cX9_init 40 = .ok (.aload_n 0, 1) := by decide +kernel
theorem dX9_init_41 : decode cX9_init 41 = .ok (.bipush 80, 2) := by decide +kernel
theorem dX9_init_43 : decode cX9_init 43 = .ok (.newarray .char, 2) := by decide +kernel
theorem dX9_init_45 : decode cX9_init 45 = .ok (.putfield 22, 3) := by decide +kernel
theorem dX9_init_48 : decode cX9_init 48 = .ok (.aload_n 0, 1) := by decide +kernel
theorem dX9_init_49 : decode cX9_init 49 = .ok (.iconst (-1), 1) := by decide +kernel
theorem dX9_init_50 : decode cX9_init 50 = .ok (.putfield 26, 3) := by decide +kernel
theorem dX9_init_53 : decode cX9_init 53 = .ok (.aload_n 0, 1) := by decide +kernel
theorem dX9_init_54 : decode cX9_init 54 = .ok (.sipush 400, 3) := by decide +kernel
theorem dX9_init_57 : decode cX9_init 57 = .ok (.newarray .char, 2) := by decide +kernel
theorem dX9_init_59 : decode cX9_init 59 = .ok (.putfield 30, 3) := by decide +kernel
theorem dX9_init_62 : decode cX9_init 62 = .ok (.aload_n 0, 1) := by decide +kernel
theorem dX9_init_63 : decode cX9_init 63 = .ok (.sipush 320, 3) := by decide +kernel
theorem dX9_init_66 : decode cX9_init 66 = .ok (.newarray .int, 2) := by decide +kernel
theorem dX9_init_68 : decode cX9_init 68 = .ok (.putfield 33, 3) := by decide +kernel
theorem dX9_init_71 : decode cX9_init 71 = .ok (.return_, 1) := by decide +kernel
theorem dX9_thrown_0 : decode cX9_thrown 0 = .ok (.aload_n 0, 1) := by decide +kernel
theorem dX9_thrown_1 : decode cX9_thrown 1 = .ok (.getfield 37, 3) := by decide +kernel
theorem dX9_thrown_4 : decode cX9_thrown 4 = .ok (.ireturn, 1) := by decide +kernel
theorem dX9_in_0 : decode cX9_in 0 = .ok (.lload_n 0, 1) := by decide +kernel
theorem dX9_in_1 : decode cX9_in 1 = .ok (.lload_n 2, 1) := by decide +kernel
theorem dX9_in_2 : decode cX9_in 2 = .ok (.lcmp, 1) := by decide +kernel
theorem dX9_in_3 : decode cX9_in 3 = .ok (.ifCond .lt 14, 3) := by decide +kernel
theorem dX9_in_6 : decode cX9_in 6 = .ok (.lload_n 0, 1) := by decide +kernel
theorem dX9_in_7 : decode cX9_in 7 = .ok (.lload 4, 2) := by decide +kernel
theorem dX9_in_9 : decode cX9_in 9 = .ok (.lcmp, 1) := by decide +kernel
theorem dX9_in_10 : decode cX9_in 10 = .ok (.ifCond .gt 7, 3) := by decide +kernel
theorem dX9_in_13 : decode cX9_in 13 = .ok (.iconst 1, 1) := by decide +kernel
theorem dX9_in_14 : decode cX9_in 14 = .ok (.goto 4, 3) := by decide +kernel
theorem dX9_in_17 : decode cX9_in 17 = .ok (.iconst 0, 1) := by decide +kernel
theorem dX9_in_18 : decode cX9_in 18 = .ok (.ireturn, 1) := by decide +kernel
theorem dX9_fails_0 : decode cX9_fails 0 = .ok (.aload_n 0, 1) := by decide +kernel
theorem dX9_fails_1 : decode cX9_fails 1 = .ok (.iload_n 1, 1) := by decide +kernel
theorem dX9_fails_2 : decode cX9_fails 2 = .ok (.putfield 37, 3) := by decide +kernel
theorem dX9_fails_5 : decode cX9_fails 5 = .ok (.iconst 0, 1) := by decide +kernel
theorem dX9_fails_6 : decode cX9_fails 6 = .ok (.ireturn, 1) := by decide +kernel
theorem dX9_done_0 : decode cX9_done 0 = .ok (.aload_n 0, 1) := by decide +kernel
theorem dX9_done_1 : decode cX9_done 1 = .ok (.iconst 0, 1) := by decide +kernel
theorem dX9_done_2 : decode cX9_done 2 = .ok (.putfield 37, 3) := by decide +kernel
theorem dX9_done_5 : decode cX9_done 5 = .ok (.lload_n 1, 1) := by decide +kernel
theorem dX9_done_6 : decode cX9_done 6 = .ok (.l2i, 1) := by decide +kernel
theorem dX9_done_7 : decode cX9_done 7 = .ok (.ireturn, 1) := by decide +kernel
theorem dX9_doneLong_0 : decode cX9_doneLong 0 = .ok (.aload_n 0, 1) := by decide +kernel
theorem dX9_doneLong_1 : decode cX9_doneLong 1 = .ok (.iconst 0, 1) := by decide +kernel
theorem dX9_doneLong_2 : decode cX9_doneLong 2 = .ok (.putfield 37, 3) := by decide +kernel
theorem dX9_doneLong_5 : decode cX9_doneLong 5 = .ok (.lload_n 1, 1) := by decide +kernel
theorem dX9_doneLong_6 : decode cX9_doneLong 6 = .ok (.lreturn, 1) := by decide +kernel
theorem dX9_copy_0 : decode cX9_copy 0 = .ok (.iconst 0, 1) := by decide +kernel
theorem dX9_copy_1 : decode cX9_copy 1 = .ok (.istore 4, 2) := by decide +kernel
theorem dX9_copy_3 : decode cX9_copy 3 = .ok (.iload 4, 2) := by decide +kernel
theorem dX9_copy_5 : decode cX9_copy 5 = .ok (.sipush 1100, 3) := by decide +kernel
theorem dX9_copy_8 : decode cX9_copy 8 = .ok (.if_icmp .ge 21, 3) := by decide +kernel
theorem dX9_copy_11 : decode cX9_copy 11 = .ok (.aload_n 2, 1) := by decide +kernel
theorem dX9_copy_12 : decode cX9_copy 12 = .ok (.iload_n 3, 1) := by decide +kernel
theorem dX9_copy_13 : decode cX9_copy 13 = .ok (.iload 4, 2) := by decide +kernel
theorem dX9_copy_15 : decode cX9_copy 15 = .ok (.iadd, 1) := by decide +kernel
theorem dX9_copy_16 : decode cX9_copy 16 = .ok (.aload_n 0, 1) := by decide +kernel
theorem dX9_copy_17 : decode cX9_copy 17 = .ok (.iload_n 1, 1) := by decide +kernel
theorem dX9_copy_18 : decode cX9_copy 18 = .ok (.iload 4, 2) := by decide +kernel
theorem dX9_copy_20 : decode cX9_copy 20 = .ok (.iadd, 1) := by decide +kernel
theorem dX9_copy_21 : decode cX9_copy 21 = .ok (.laload, 1) := by decide +kernel
theorem dX9_copy_22 : decode cX9_copy 22 = .ok (.lastore, 1) := by decide +kernel
theorem dX9_copy_23 : decode cX9_copy 23 = .ok (.iinc 4 1, 3) := by decide +kernel
theorem dX9_copy_26 : decode cX9_copy 26 = .ok (.goto (-23), 3) := by decide +kernel
theorem dX9_copy_29 : decode cX9_copy 29 = .ok (.return_, 1) := by decide +kernel
theorem dX9_remembers_0 : decode cX9_remembers 0 = .ok (.aload_n 0, 1) := by decide +kernel
theorem dX9_remembers_1 : decode cX9_remembers 1 = .ok (.getfield 40, 3) := by decide +kernel
theorem dX9_remembers_4 : decode cX9_remembers 4 = .ok (.ifCond .ne 11, 3) := by decide +kernel
theorem dX9_remembers_7 : decode cX9_remembers 7 = .ok (.aload_n 0, 1) := by decide +kernel
theorem dX9_remembers_8 : decode cX9_remembers 8 = .ok (.aload_n 0, 1) := by decide +kernel
theorem dX9_remembers_9 : decode cX9_remembers 9 = .ok (.getfield 9, 3) := by decide +kernel
theorem dX9_remembers_12 : decode cX9_remembers 12 = .ok (.invokevirtual 44, 3) := by decide +kernel
theorem dX9_remembers_15 : decode cX9_remembers 15 = .ok (.return_, 1) := by decide +kernel
theorem dX9_remembersRow_0 : decode cX9_remembersRow 0 = .ok (.aload_n 0, 1) := by decide +kernel
theorem dX9_remembersRow_1 : decode cX9_remembersRow 1 = .ok (.getfield 48, 3) := by decide +kernel
theorem dX9_remembersRow_4 : decode cX9_remembersRow 4 = .ok (.bipush 8, 2) := by decide +kernel
theorem dX9_remembersRow_6 : decode cX9_remembersRow 6 = .ok (.if_icmp .ne 44, 3) := by decide +kernel
theorem dX9_remembersRow_9 : decode cX9_remembersRow 9 = .ok (.iconst 0, 1) := by decide +kernel
theorem dX9_remembersRow_10 : decode cX9_remembersRow 10 = .ok (.istore_n 2, 1) := by decide +kernel
theorem dX9_remembersRow_11 : decode cX9_remembersRow 11 = .ok (.iload_n 2, 1) := by decide +kernel
theorem dX9_remembersRow_12 : decode cX9_remembersRow 12 = .ok (.sipush 7700, 3) := by decide +kernel
theorem dX9_remembersRow_15 : decode cX9_remembersRow 15 = .ok (.if_icmp .ge 25, 3) := by decide +kernel
theorem dX9_remembersRow_18 : decode cX9_remembersRow 18 = .ok (.aload_n 0, 1) := by decide +kernel
theorem dX9_remembersRow_19 : decode cX9_remembersRow 19 = .ok (.getfield 13, 3) := by decide +kernel
theorem dX9_remembersRow_22 : decode cX9_remembersRow 22 = .ok (.iload_n 2, 1) := by decide +kernel
theorem dX9_remembersRow_23 : decode cX9_remembersRow 23 = .ok (.aload_n 0, 1) := by decide +kernel
theorem dX9_remembersRow_24 : decode cX9_remembersRow 24 = .ok (.getfield 13, 3) := by decide +kernel
theorem dX9_remembersRow_27 : decode cX9_remembersRow 27 = .ok (.iload_n 2, 1) := by decide +kernel
theorem dX9_remembersRow_28 : decode cX9_remembersRow 28 = .ok (.sipush 1100, 3) := by decide +kernel
theorem dX9_remembersRow_31 : decode cX9_remembersRow 31 = .ok (.iadd, 1) := by decide +kernel
theorem dX9_remembersRow_32 : decode cX9_remembersRow 32 = .ok (.laload, 1) := by decide +kernel
theorem dX9_remembersRow_33 : decode cX9_remembersRow 33 = .ok (.lastore, 1) := by decide +kernel
theorem dX9_remembersRow_34 : decode cX9_remembersRow 34 = .ok (.iinc 2 1, 3) := by decide +kernel
theorem dX9_remembersRow_37 : decode cX9_remembersRow 37 = .ok (.goto (-26), 3) := by decide +kernel
theorem dX9_remembersRow_40 : decode cX9_remembersRow 40 = .ok (.aload_n 0, 1) := by decide +kernel
theorem dX9_remembersRow_41 : decode cX9_remembersRow 41 = .ok (.dup, 1) := by decide +kernel
theorem dX9_remembersRow_42 : decode cX9_remembersRow 42 = .ok (.getfield 48, 3) := by decide +kernel
theorem dX9_remembersRow_45 : decode cX9_remembersRow 45 = .ok (.iconst 1, 1) := by decide +kernel
theorem dX9_remembersRow_46 : decode cX9_remembersRow 46 = .ok (.isub, 1) := by decide +kernel
theorem dX9_remembersRow_47 : decode cX9_remembersRow 47 = .ok (.putfield 48, 3) := by decide +kernel
theorem dX9_remembersRow_50 : decode cX9_remembersRow 50 = .ok (.aload_n 1, 1) := by decide +kernel
theorem dX9_remembersRow_51 : decode cX9_remembersRow 51 = .ok (.iconst 0, 1) := by decide +kernel
theorem dX9_remembersRow_52 : decode cX9_remembersRow 52 = .ok (.aload_n 0, 1) := by decide +kernel
theorem dX9_remembersRow_53 : decode cX9_remembersRow 53 = .ok (.getfield 13, 3) := by decide +kernel
theorem dX9_remembersRow_56 : decode cX9_remembersRow 56 = .ok (.aload_n 0, 1) := by decide +kernel
theorem dX9_remembersRow_57 : decode cX9_remembersRow 57 = .ok (.getfield 48, 3) := by decide +kernel
theorem dX9_remembersRow_60 : decode cX9_remembersRow 60 = .ok (.sipush 1100, 3) := by decide +kernel
theorem dX9_remembersRow_63 : decode cX9_remembersRow 63 = .ok (.imul, 1) := by decide +kernel
theorem dX9_remembersRow_64 : decode cX9_remembersRow 64 = .ok (.invokestatic 51, 3) := by decide +kernel
theorem dX9_remembersRow_67 : decode cX9_remembersRow 67 = .ok (.aload_n 0, 1) := by decide +kernel
theorem dX9_remembersRow_68 : decode cX9_remembersRow 68 = .ok (.dup, 1) := by decide +kernel
theorem dX9_remembersRow_69 : decode cX9_remembersRow 69 = .ok (.getfield 48, 3) := by decide +kernel
theorem dX9_remembersRow_72 : decode cX9_remembersRow 72 = .ok (.iconst 1, 1) := by decide +kernel
theorem dX9_remembersRow_73 : decode cX9_remembersRow 73 = .ok (.iadd, 1) := by decide +kernel
theorem dX9_remembersRow_74 : decode cX9_remembersRow 74 = .ok (.putfield 48, 3) := by decide +kernel
theorem dX9_remembersRow_77 : decode cX9_remembersRow 77 = .ok (.return_, 1) := by decide +kernel
theorem dX9_itemAt_0 : decode cX9_itemAt 0 = .ok (.aload_n 0, 1) := by decide +kernel
theorem dX9_itemAt_1 : decode cX9_itemAt 1 = .ok (.getfield 9, 3) := by decide +kernel
theorem dX9_itemAt_4 : decode cX9_itemAt 4 = .ok (.bipush 10, 2) := by decide +kernel
theorem dX9_itemAt_6 : decode cX9_itemAt 6 = .ok (.bipush 8, 2) := by decide +kernel
theorem dX9_itemAt_8 : decode cX9_itemAt 8 = .ok (.iload_n 1, 1) := by decide +kernel
theorem dX9_itemAt_9 : decode cX9_itemAt 9 = .ok (.imul, 1) := by decide +kernel
theorem dX9_itemAt_10 : decode cX9_itemAt 10 = .ok (.iadd, 1) := by decide +kernel
theorem dX9_itemAt_11 : decode cX9_itemAt 11 = .ok (.iload_n 2, 1) := by decide +kernel
theorem dX9_itemAt_12 : decode cX9_itemAt 12 = .ok (.iadd, 1) := by decide +kernel
theorem dX9_itemAt_13 : decode cX9_itemAt 13 = .ok (.laload, 1) := by decide +kernel
theorem dX9_itemAt_14 : decode cX9_itemAt 14 = .ok (.lreturn, 1) := by decide +kernel
theorem dX9_isItem_0 : decode cX9_isItem 0 = .ok (.iload_n 1, 1) := by decide +kernel
theorem dX9_isItem_1 : decode cX9_isItem 1 = .ok (.i2l, 1) := by decide +kernel
theorem dX9_isItem_2 : decode cX9_isItem 2 = .ok (.lconst 0, 1) := by decide +kernel
theorem dX9_isItem_3 : decode cX9_isItem 3 = .ok (.aload_n 0, 1) := by decide +kernel
theorem dX9_isItem_4 : decode cX9_isItem 4 = .ok (.getfield 9, 3) := by decide +kernel
theorem dX9_isItem_7 : decode cX9_isItem 7 = .ok (.iconst 1, 1) := by decide +kernel
theorem dX9_isItem_8 : decode cX9_isItem 8 = .ok (.laload, 1) := by decide +kernel
theorem dX9_isItem_9 : decode cX9_isItem 9 = .ok (.lconst 1, 1) := by decide +kernel
theorem dX9_isItem_10 : decode cX9_isItem 10 = .ok (.lsub, 1) := by decide +kernel
theorem dX9_isItem_11 : decode cX9_isItem 11 = .ok (.invokestatic 55, 3) := by decide +kernel
theorem dX9_isItem_14 : decode cX9_isItem 14 = .ok (.ireturn, 1) := by decide +kernel
theorem dX9_calAt_0 : decode cX9_calAt 0 = .ok (.aload_n 0, 1) := by decide +kernel
theorem dX9_calAt_1 : decode cX9_calAt 1 = .ok (.getfield 9, 3) := by decide +kernel
theorem dX9_calAt_4 : decode cX9_calAt 4 = .ok (.sipush 180, 3) := by decide +kernel
theorem dX9_calAt_7 : decode cX9_calAt 7 = .ok (.bipush 10, 2) := by decide +kernel
theorem dX9_calAt_9 : decode cX9_calAt 9 = .ok (.iload_n 1, 1) := by decide +kernel
theorem dX9_calAt_10 : decode cX9_calAt 10 = .ok (.imul, 1) := by decide +kernel
theorem dX9_calAt_11 : decode cX9_calAt 11 = .ok (.iadd, 1) := by decide +kernel
theorem dX9_calAt_12 : decode cX9_calAt 12 = .ok (.iload_n 2, 1) := by decide +kernel
theorem dX9_calAt_13 : decode cX9_calAt 13 = .ok (.iadd, 1) := by decide +kernel
theorem dX9_calAt_14 : decode cX9_calAt 14 = .ok (.laload, 1) := by decide +kernel
theorem dX9_calAt_15 : decode cX9_calAt 15 = .ok (.lreturn, 1) := by decide +kernel
theorem dX9_isCal_0 : decode cX9_isCal 0 = .ok (.iload_n 1, 1) := by decide +kernel
theorem dX9_isCal_1 : decode cX9_isCal 1 = .ok (.i2l, 1) := by decide +kernel
theorem dX9_isCal_2 : decode cX9_isCal 2 = .ok (.lconst 0, 1) := by decide +kernel
theorem dX9_isCal_3 : decode cX9_isCal 3 = .ok (.aload_n 0, 1) := by decide +kernel
theorem dX9_isCal_4 : decode cX9_isCal 4 = .ok (.getfield 9, 3) := by decide +kernel
theorem dX9_isCal_7 : decode cX9_isCal 7 = .ok (.iconst 2, 1) := by decide +kernel
theorem dX9_isCal_8 : decode cX9_isCal 8 = .ok (.laload, 1) := by decide +kernel
theorem dX9_isCal_9 : decode cX9_isCal 9 = .ok (.lconst 1, 1) := by decide +kernel
theorem dX9_isCal_10 : decode cX9_isCal 10 = .ok (.lsub, 1) := by decide +kernel
theorem dX9_isCal_11 : decode cX9_isCal 11 = .ok (.invokestatic 55, 3) := by decide +kernel
theorem dX9_isCal_14 : decode cX9_isCal 14 = .ok (.ireturn, 1) := by decide +kernel
theorem dX9_addItem_0 : decode cX9_addItem 0 = .ok (.iload_n 1, 1) := by decide +kernel
theorem dX9_addItem_1 : decode cX9_addItem 1 = .ok (.i2l, 1) := by decide +kernel
theorem dX9_addItem_2 : decode cX9_addItem 2 = .ok (.lconst 0, 1) := by decide +kernel
theorem dX9_addItem_3 : decode cX9_addItem 3 = .ok (.ldc2_w 59, 3) := by decide +kernel
theorem dX9_addItem_6 : decode cX9_addItem 6 = .ok (.invokestatic 55, 3) := by decide +kernel
theorem dX9_addItem_9 : decode cX9_addItem 9 = .ok (.ifCond .eq 15, 3) := by decide +kernel
theorem dX9_addItem_12 : decode cX9_addItem 12 = .ok (.iload_n 2, 1) := by decide +kernel
theorem dX9_addItem_13 : decode cX9_addItem 13 = .ok (.i2l, 1) := by decide +kernel
theorem dX9_addItem_14 : decode cX9_addItem 14 = .ok (.lconst 0, 1) := by decide +kernel
theorem dX9_addItem_15 : decode cX9_addItem 15 = .ok (.ldc2_w 61, 3) := by decide +kernel
theorem dX9_addItem_18 : decode cX9_addItem 18 = .ok (.invokestatic 55, 3) := by decide +kernel
theorem dX9_addItem_21 : decode cX9_addItem 21 = .ok (.ifCond .ne 9, 3) := by decide +kernel
theorem dX9_addItem_24 : decode cX9_addItem 24 = .ok (.aload_n 0, 1) := by decide +kernel
theorem dX9_addItem_25 : decode cX9_addItem 25 = .ok (.iconst 1, 1) := by decide +kernel
theorem dX9_addItem_26 : decode cX9_addItem 26 = .ok (.invokevirtual 63, 3) := by decide +kernel
theorem dX9_addItem_29 : decode cX9_addItem 29 = .ok (.ireturn, 1) := by decide +kernel
theorem dX9_addItem_30 : decode cX9_addItem 30 = .ok (.iload_n 3, 1) := by decide +kernel
theorem dX9_addItem_31 : decode cX9_addItem 31 = .ok (.i2l, 1) := by decide +kernel
theorem dX9_addItem_32 : decode cX9_addItem 32 = .ok (.lconst 1, 1) := by decide +kernel
theorem dX9_addItem_33 : decode cX9_addItem 33 = .ok (.ldc2_w 67, 3) := by decide +kernel
theorem dX9_addItem_36 : decode cX9_addItem 36 = .ok (.invokestatic 55, 3) := by decide +kernel
theorem dX9_addItem_39 : decode cX9_addItem 39 = .ok (.ifCond .eq 16, 3) := by decide +kernel
theorem dX9_addItem_42 : decode cX9_addItem 42 = .ok (.iload 4, 2) := by decide +kernel
theorem dX9_addItem_44 : decode cX9_addItem 44 = .ok (.i2l, 1) := by decide +kernel
theorem dX9_addItem_45 : decode cX9_addItem 45 = .ok (.lconst 0, 1) := by decide +kernel
theorem dX9_addItem_46 : decode cX9_addItem 46 = .ok (.ldc2_w 69, 3) := by decide +kernel
theorem dX9_addItem_49 : decode cX9_addItem 49 = .ok (.invokestatic 55, 3) := by decide +kernel
theorem dX9_addItem_52 : decode cX9_addItem 52 = .ok (.ifCond .ne 9, 3) := by decide +kernel
theorem dX9_addItem_55 : decode cX9_addItem 55 = .ok (.aload_n 0, 1) := by decide +kernel
theorem dX9_addItem_56 : decode cX9_addItem 56 = .ok (.iconst 2, 1) := by decide +kernel
theorem dX9_addItem_57 : decode cX9_addItem 57 = .ok (.invokevirtual 63, 3) := by decide +kernel
theorem dX9_addItem_60 : decode cX9_addItem 60 = .ok (.ireturn, 1) := by decide +kernel
theorem dX9_addItem_61 : decode cX9_addItem 61 = .ok (.aload_n 0, 1) := by decide +kernel
theorem dX9_addItem_62 : decode cX9_addItem 62 = .ok (.getfield 9, 3) := by decide +kernel
theorem dX9_addItem_65 : decode cX9_addItem 65 = .ok (.iconst 1, 1) := by decide +kernel
theorem dX9_addItem_66 : decode cX9_addItem 66 = .ok (.laload, 1) := by decide +kernel
theorem dX9_addItem_67 : decode cX9_addItem 67 = .ok (.ldc2_w 71, 3) := by decide +kernel
theorem dX9_addItem_70 : decode cX9_addItem 70 = .ok (.lcmp, 1) := by decide +kernel
theorem dX9_addItem_71 : decode cX9_addItem 71 = .ok (.ifCond .ne 9, 3) := by decide +kernel
theorem dX9_addItem_74 : decode cX9_addItem 74 = .ok (.aload_n 0, 1) := by decide +kernel
theorem dX9_addItem_75 : decode cX9_addItem 75 = .ok (.iconst 3, 1) := by decide +kernel
theorem dX9_addItem_76 : decode cX9_addItem 76 = .ok (.invokevirtual 63, 3) := by decide +kernel
theorem dX9_addItem_79 : decode cX9_addItem 79 = .ok (.ireturn, 1) := by decide +kernel
theorem dX9_addItem_80 : decode cX9_addItem 80 = .ok (.aload_n 0, 1) := by decide +kernel
theorem dX9_addItem_81 : decode cX9_addItem 81 = .ok (.invokevirtual 73, 3) := by decide +kernel
theorem dX9_addItem_84 : decode cX9_addItem 84 = .ok (.aload_n 0, 1) := by decide +kernel
theorem dX9_addItem_85 : decode cX9_addItem 85 = .ok (.getfield 9, 3) := by decide +kernel
theorem dX9_addItem_88 : decode cX9_addItem 88 = .ok (.iconst 1, 1) := by decide +kernel
theorem dX9_addItem_89 : decode cX9_addItem 89 = .ok (.laload, 1) := by decide +kernel
theorem dX9_addItem_90 : decode cX9_addItem 90 = .ok (.l2i, 1) := by decide +kernel
theorem dX9_addItem_91 : decode cX9_addItem 91 = .ok (.istore 5, 2) := by decide +kernel
theorem dX9_addItem_93 : decode cX9_addItem 93 = .ok (.bipush 10, 2) := by decide +kernel
theorem dX9_addItem_95 : decode cX9_addItem 95 = .ok (.bipush 8, 2) := by decide +kernel
theorem dX9_addItem_97 : decode cX9_addItem 97 = .ok (.iload 5, 2) := by decide +kernel
theorem dX9_addItem_99 : decode cX9_addItem 99 = .ok (.imul, 1) := by decide +kernel
theorem dX9_addItem_100 : decode cX9_addItem 100 = .ok (.iadd, 1) := by decide +kernel
theorem dX9_addItem_101 : decode cX9_addItem 101 = .ok (.istore 6, 2) := by decide +kernel
theorem dX9_addItem_103 : decode cX9_addItem 103 = .ok (.aload_n 0, 1) := by decide +kernel
theorem dX9_addItem_104 : decode cX9_addItem 104 = .ok (.getfield 9, 3) := by decide +kernel
theorem dX9_addItem_107 : decode cX9_addItem 107 = .ok (.iload 6, 2) := by decide +kernel
theorem dX9_addItem_109 : decode cX9_addItem 109 = .ok (.iconst 0, 1) := by decide +kernel
theorem dX9_addItem_110 : decode cX9_addItem 110 = .ok (.iadd, 1) := by decide +kernel
theorem dX9_addItem_111 : decode cX9_addItem 111 = .ok (.iload_n 1, 1) := by decide +kernel
theorem dX9_addItem_112 : decode cX9_addItem 112 = .ok (.i2l, 1) := by decide +kernel
theorem dX9_addItem_113 : decode cX9_addItem 113 = .ok (.lastore, 1) := by decide +kernel
theorem dX9_addItem_114 : decode cX9_addItem 114 = .ok (.aload_n 0, 1) := by decide +kernel
theorem dX9_addItem_115 : decode cX9_addItem 115 = .ok (.getfield 9, 3) := by decide +kernel
theorem dX9_addItem_118 : decode cX9_addItem 118 = .ok (.iload 6, 2) := by decide +kernel
theorem dX9_addItem_120 : decode cX9_addItem 120 = .ok (.iconst 1, 1) := by decide +kernel
theorem dX9_addItem_121 : decode cX9_addItem 121 = .ok (.iadd, 1) := by decide +kernel
theorem dX9_addItem_122 : decode cX9_addItem 122 = .ok (.iload_n 2, 1) := by decide +kernel
theorem dX9_addItem_123 : decode cX9_addItem 123 = .ok (.i2l, 1) := by decide +kernel
theorem dX9_addItem_124 : decode cX9_addItem 124 = .ok (.lastore, 1) := by decide +kernel
theorem dX9_addItem_125 : decode cX9_addItem 125 = .ok (.aload_n 0, 1) := by decide +kernel
theorem dX9_addItem_126 : decode cX9_addItem 126 = .ok (.getfield 9, 3) := by decide +kernel
theorem dX9_addItem_129 : decode cX9_addItem 129 = .ok (.iload 6, 2) := by decide +kernel
theorem dX9_addItem_131 : decode cX9_addItem 131 = .ok (.iconst 2, 1) := by decide +kernel
theorem dX9_addItem_132 : decode cX9_addItem 132 = .ok (.iadd, 1) := by decide +kernel
theorem dX9_addItem_133 : decode cX9_addItem 133 = .ok (.iload_n 3, 1) := by decide +kernel
theorem dX9_addItem_134 : decode cX9_addItem 134 = .ok (.i2l, 1) := by decide +kernel
theorem dX9_addItem_135 : decode cX9_addItem 135 = .ok (.lastore, 1) := by decide +kernel
theorem dX9_addItem_136 : decode cX9_addItem 136 = .ok (.aload_n 0, 1) := by decide +kernel
theorem dX9_addItem_137 : decode cX9_addItem 137 = .ok (.getfield 9, 3) := by decide +kernel
theorem dX9_addItem_140 : decode cX9_addItem 140 = .ok (.iload 6, 2) := by decide +kernel
theorem dX9_addItem_142 : decode cX9_addItem 142 = .ok (.iconst 3, 1) := by decide +kernel
theorem dX9_addItem_143 : decode cX9_addItem 143 = .ok (.iadd, 1) := by decide +kernel
theorem dX9_addItem_144 : decode cX9_addItem 144 = .ok (.iload 4, 2) := by decide +kernel
theorem dX9_addItem_146 : decode cX9_addItem 146 = .ok (.i2l, 1) := by decide +kernel
theorem dX9_addItem_147 : decode cX9_addItem 147 = .ok (.lastore, 1) := by decide +kernel
theorem dX9_addItem_148 : decode cX9_addItem 148 = .ok (.aload_n 0, 1) := by decide +kernel
theorem dX9_addItem_149 : decode cX9_addItem 149 = .ok (.getfield 9, 3) := by decide +kernel
theorem dX9_addItem_152 : decode cX9_addItem 152 = .ok (.iload 6, 2) := by decide +kernel
theorem dX9_addItem_154 : decode cX9_addItem 154 = .ok (.iconst 4, 1) := by decide +kernel
theorem dX9_addItem_155 : decode cX9_addItem 155 = .ok (.iadd, 1) := by decide +kernel
theorem dX9_addItem_156 : decode cX9_addItem 156 = .ok (.lconst 0, 1) := by decide +kernel
theorem dX9_addItem_157 : decode cX9_addItem 157 = .ok (.lastore, 1) := by decide +kernel
theorem dX9_addItem_158 : decode cX9_addItem 158 = .ok (.aload_n 0, 1) := by decide +kernel
theorem dX9_addItem_159 : decode cX9_addItem 159 = .ok (.getfield 9, 3) := by decide +kernel
theorem dX9_addItem_162 : decode cX9_addItem 162 = .ok (.iload 6, 2) := by decide +kernel
theorem dX9_addItem_164 : decode cX9_addItem 164 = .ok (.iconst 5, 1) := by decide +kernel
theorem dX9_addItem_165 : decode cX9_addItem 165 = .ok (.iadd, 1) := by decide +kernel
theorem dX9_addItem_166 : decode cX9_addItem 166 = .ok (.iload_n 1, 1) := by decide +kernel
theorem dX9_addItem_167 : decode cX9_addItem 167 = .ok (.ifCond .ne 7, 3) := by decide +kernel
theorem dX9_addItem_170 : decode cX9_addItem 170 = .ok (.lconst 1, 1) := by decide +kernel
theorem dX9_addItem_171 : decode cX9_addItem 171 = .ok (.goto 6, 3) := by decide +kernel
theorem dX9_addItem_174 : decode cX9_addItem 174 = .ok (.ldc2_w 76, 3) := by decide +kernel
theorem dX9_addItem_177 : decode cX9_addItem 177 = .ok (.lastore, 1) := by decide +kernel
theorem dX9_addItem_178 : decode cX9_addItem 178 = .ok (.aload_n 0, 1) := by decide +kernel
theorem dX9_addItem_179 : decode cX9_addItem 179 = .ok (.getfield 9, 3) := by decide +kernel
theorem dX9_addItem_182 : decode cX9_addItem 182 = .ok (.iload 6, 2) := by decide +kernel
theorem dX9_addItem_184 : decode cX9_addItem 184 = .ok (.bipush 6, 2) := by decide +kernel
theorem dX9_addItem_186 : decode cX9_addItem 186 = .ok (.iadd, 1) := by decide +kernel
theorem dX9_addItem_187 : decode cX9_addItem 187 = .ok (.lconst 0, 1) := by decide +kernel
theorem dX9_addItem_188 : decode cX9_addItem 188 = .ok (.lastore, 1) := by decide +kernel
theorem dX9_addItem_189 : decode cX9_addItem 189 = .ok (.aload_n 0, 1) := by decide +kernel
theorem dX9_addItem_190 : decode cX9_addItem 190 = .ok (.getfield 9, 3) := by decide +kernel
theorem dX9_addItem_193 : decode cX9_addItem 193 = .ok (.iconst 1, 1) := by decide +kernel
theorem dX9_addItem_194 : decode cX9_addItem 194 = .ok (.dup2, 1) := by decide +kernel
theorem dX9_addItem_195 : decode cX9_addItem 195 = .ok (.laload, 1) := by decide +kernel
theorem dX9_addItem_196 : decode cX9_addItem 196 = .ok (.lconst 1, 1) := by decide +kernel
theorem dX9_addItem_197 : decode cX9_addItem 197 = .ok (.ladd, 1) := by decide +kernel
theorem dX9_addItem_198 : decode cX9_addItem 198 = .ok (.lastore, 1) := by decide +kernel
theorem dX9_addItem_199 : decode cX9_addItem 199 = .ok (.aload_n 0, 1) := by decide +kernel
theorem dX9_addItem_200 : decode cX9_addItem 200 = .ok (.iload 5, 2) := by decide +kernel
theorem dX9_addItem_202 : decode cX9_addItem 202 = .ok (.i2l, 1) := by decide +kernel
theorem dX9_addItem_203 : decode cX9_addItem 203 = .ok (.invokevirtual 78, 3) := by decide +kernel
theorem dX9_addItem_206 : decode cX9_addItem 206 = .ok (.ireturn, 1) := by decide +kernel
theorem dX9_isValue_0 : decode cX9_isValue 0 = .ok (.iload_n 0, 1) := by decide +kernel
theorem dX9_isValue_1 : decode cX9_isValue 1 = .ok (.ifCond .eq 8, 3) := by decide +kernel
theorem dX9_isValue_4 : decode cX9_isValue 4 = .ok (.iload_n 0, 1) := by decide +kernel
theorem dX9_isValue_5 : decode cX9_isValue 5 = .ok (.iconst 3, 1) := by decide +kernel
theorem dX9_isValue_6 : decode cX9_isValue 6 = .ok (.if_icmp .ne 15, 3) := by decide +kernel
theorem dX9_isValue_9 : decode cX9_isValue 9 = .ok (.iload_n 1, 1) := by decide +kernel
theorem dX9_isValue_10 : decode cX9_isValue 10 = .ok (.i2l, 1) := by decide +kernel
theorem dX9_isValue_11 : decode cX9_isValue 11 = .ok (.lconst 1, 1) := by decide +kernel
theorem dX9_isValue_12 : decode cX9_isValue 12 = .ok (.ldc2_w 67, 3) := by decide +kernel
theorem dX9_isValue_15 : decode cX9_isValue 15 = .ok (.invokestatic 55, 3) := by decide +kernel
theorem dX9_isValue_18 : decode cX9_isValue 18 = .ok (.goto 29, 3) := by decide +kernel
theorem dX9_isValue_21 : decode cX9_isValue 21 = .ok (.iload_n 0, 1) := by decide +kernel
theorem dX9_isValue_22 : decode cX9_isValue 22 = .ok (.iconst 1, 1) := by decide +kernel
theorem dX9_isValue_23 : decode cX9_isValue 23 = .ok (.if_icmp .ne 15, 3) := by decide +kernel
theorem dX9_isValue_26 : decode cX9_isValue 26 = .ok (.iload_n 1, 1) := by decide +kernel
theorem dX9_isValue_27 : decode cX9_isValue 27 = .ok (.i2l, 1) := by decide +kernel
theorem dX9_isValue_28 : decode cX9_isValue 28 = .ok (.lconst 0, 1) := by decide +kernel
theorem dX9_isValue_29 : decode cX9_isValue 29 = .ok (.ldc2_w 69, 3) := by decide +kernel
theorem dX9_isValue_32 : decode cX9_isValue 32 = .ok (.invokestatic 55, 3) := by decide +kernel
theorem dX9_isValue_35 : decode cX9_isValue 35 = .ok (.goto 12, 3) := by decide +kernel
theorem dX9_isValue_38 : decode cX9_isValue 38 = .ok (.iload_n 1, 1) := by decide +kernel
theorem dX9_isValue_39 : decode cX9_isValue 39 = .ok (.i2l, 1) := by decide +kernel
theorem dX9_isValue_40 : decode cX9_isValue 40 = .ok (.lconst 0, 1) := by decide +kernel
theorem dX9_isValue_41 : decode cX9_isValue 41 = .ok (.ldc2_w 61, 3) := by decide +kernel
theorem dX9_isValue_44 : decode cX9_isValue 44 = .ok (.invokestatic 55, 3) := by decide +kernel
theorem dX9_isValue_47 : decode cX9_isValue 47 = .ok (.ireturn, 1) := by decide +kernel
theorem dX9_set_0 : decode cX9_set 0 = .ok (.aload_n 0, 1) := by decide +kernel
theorem dX9_set_1 : decode cX9_set 1 = .ok (.iload_n 1, 1) := by decide +kernel
theorem dX9_set_2 : decode cX9_set 2 = .ok (.invokevirtual 82, 3) := by decide +kernel
theorem dX9_set_5 : decode cX9_set 5 = .ok (.ifCond .ne 9, 3) := by decide +kernel
theorem dX9_set_8 : decode cX9_set 8 = .ok (.aload_n 0, 1) := by decide +kernel
theorem dX9_set_9 : decode cX9_set 9 = .ok (.iconst 1, 1) := by decide +kernel
theorem dX9_set_10 : decode cX9_set 10 = .ok (.invokevirtual 63, 3) := by decide +kernel
theorem dX9_set_13 : decode cX9_set 13 = .ok (.ireturn, 1) := by decide +kernel
theorem dX9_set_14 : decode cX9_set 14 = .ok (.iload_n 2, 1) := by decide +kernel
theorem dX9_set_15 : decode cX9_set 15 = .ok (.i2l, 1) := by decide +kernel
theorem dX9_set_16 : decode cX9_set 16 = .ok (.lconst 0, 1) := by decide +kernel
theorem dX9_set_17 : decode cX9_set 17 = .ok (.ldc2_w 61, 3) := by decide +kernel
theorem dX9_set_20 : decode cX9_set 20 = .ok (.invokestatic 55, 3) := by decide +kernel
theorem dX9_set_23 : decode cX9_set 23 = .ok (.ifCond .eq 11, 3) := by decide +kernel
theorem dX9_set_26 : decode cX9_set 26 = .ok (.iload_n 2, 1) := by decide +kernel
theorem dX9_set_27 : decode cX9_set 27 = .ok (.iload_n 3, 1) := by decide +kernel
theorem dX9_set_28 : decode cX9_set 28 = .ok (.invokestatic 86, 3) := by decide +kernel
theorem dX9_set_31 : decode cX9_set 31 = .ok (.ifCond .ne 9, 3) := by decide +kernel
theorem dX9_set_34 : decode cX9_set 34 = .ok (.aload_n 0, 1) := by decide +kernel
theorem dX9_set_35 : decode cX9_set 35 = .ok (.iconst 2, 1) := by decide +kernel
theorem dX9_set_36 : decode cX9_set 36 = .ok (.invokevirtual 63, 3) := by decide +kernel
theorem dX9_set_39 : decode cX9_set 39 = .ok (.ireturn, 1) := by decide +kernel
theorem dX9_set_40 : decode cX9_set 40 = .ok (.aload_n 0, 1) := by decide +kernel
theorem dX9_set_41 : decode cX9_set 41 = .ok (.invokevirtual 73, 3) := by decide +kernel
theorem dX9_set_44 : decode cX9_set 44 = .ok (.aload_n 0, 1) := by decide +kernel
theorem dX9_set_45 : decode cX9_set 45 = .ok (.iload_n 1, 1) := by decide +kernel
theorem dX9_set_46 : decode cX9_set 46 = .ok (.iconst 2, 1) := by decide +kernel
theorem dX9_set_47 : decode cX9_set 47 = .ok (.iload_n 2, 1) := by decide +kernel
theorem dX9_set_48 : decode cX9_set 48 = .ok (.iadd, 1) := by decide +kernel
theorem dX9_set_49 : decode cX9_set 49 = .ok (.invokevirtual 90, 3) := by decide +kernel
theorem dX9_set_52 : decode cX9_set 52 = .ok (.lstore 4, 2) := by decide +kernel
theorem dX9_set_54 : decode cX9_set 54 = .ok (.aload_n 0, 1) := by decide +kernel
theorem dX9_set_55 : decode cX9_set 55 = .ok (.getfield 9, 3) := by decide +kernel
theorem dX9_set_58 : decode cX9_set 58 = .ok (.bipush 10, 2) := by decide +kernel
theorem dX9_set_60 : decode cX9_set 60 = .ok (.bipush 8, 2) := by decide +kernel
theorem dX9_set_62 : decode cX9_set 62 = .ok (.iload_n 1, 1) := by decide +kernel
theorem dX9_set_63 : decode cX9_set 63 = .ok (.imul, 1) := by decide +kernel
theorem dX9_set_64 : decode cX9_set 64 = .ok (.iadd, 1) := by decide +kernel
theorem dX9_set_65 : decode cX9_set 65 = .ok (.iconst 2, 1) := by decide +kernel
theorem dX9_set_66 : decode cX9_set 66 = .ok (.iadd, 1) := by decide +kernel
theorem dX9_set_67 : decode cX9_set 67 = .ok (.iload_n 2, 1) := by decide +kernel
theorem dX9_set_68 : decode cX9_set 68 = .ok (.iadd, 1) := by decide +kernel
theorem dX9_set_69 : decode cX9_set 69 = .ok (.iload_n 3, 1) := by decide +kernel
theorem dX9_set_70 : decode cX9_set 70 = .ok (.i2l, 1) := by decide +kernel
theorem dX9_set_71 : decode cX9_set 71 = .ok (.lastore, 1) := by decide +kernel
theorem dX9_set_72 : decode cX9_set 72 = .ok (.aload_n 0, 1) := by decide +kernel
theorem dX9_set_73 : decode cX9_set 73 = .ok (.lload 4, 2) := by decide +kernel
theorem dX9_set_75 : decode cX9_set 75 = .ok (.invokevirtual 78, 3) := by decide +kernel
theorem dX9_set_78 : decode cX9_set 78 = .ok (.ireturn, 1) := by decide +kernel
theorem dX9_item_0 : decode cX9_item 0 = .ok (.aload_n 0, 1) := by decide +kernel
theorem dX9_item_1 : decode cX9_item 1 = .ok (.iload_n 1, 1) := by decide +kernel
theorem dX9_item_2 : decode cX9_item 2 = .ok (.invokevirtual 82, 3) := by decide +kernel
theorem dX9_item_5 : decode cX9_item 5 = .ok (.ifCond .ne 9, 3) := by decide +kernel
theorem dX9_item_8 : decode cX9_item 8 = .ok (.aload_n 0, 1) := by decide +kernel
theorem dX9_item_9 : decode cX9_item 9 = .ok (.iconst 1, 1) := by decide +kernel
theorem dX9_item_10 : decode cX9_item 10 = .ok (.invokevirtual 63, 3) := by decide +kernel
theorem dX9_item_13 : decode cX9_item 13 = .ok (.ireturn, 1) := by decide +kernel
theorem dX9_item_14 : decode cX9_item 14 = .ok (.iload_n 2, 1) := by decide +kernel
theorem dX9_item_15 : decode cX9_item 15 = .ok (.i2l, 1) := by decide +kernel
theorem dX9_item_16 : decode cX9_item 16 = .ok (.lconst 0, 1) := by decide +kernel
theorem dX9_item_17 : decode cX9_item 17 = .ok (.ldc2_w 94, 3) := by decide +kernel
theorem dX9_item_20 : decode cX9_item 20 = .ok (.invokestatic 55, 3) := by decide +kernel
theorem dX9_item_23 : decode cX9_item 23 = .ok (.ifCond .ne 9, 3) := by decide +kernel
theorem dX9_item_26 : decode cX9_item 26 = .ok (.aload_n 0, 1) := by decide +kernel
theorem dX9_item_27 : decode cX9_item 27 = .ok (.iconst 2, 1) := by decide +kernel
theorem dX9_item_28 : decode cX9_item 28 = .ok (.invokevirtual 63, 3) := by decide +kernel
theorem dX9_item_31 : decode cX9_item 31 = .ok (.ireturn, 1) := by decide +kernel
theorem dX9_item_32 : decode cX9_item 32 = .ok (.iload_n 2, 1) := by decide +kernel
theorem dX9_item_33 : decode cX9_item 33 = .ok (.iconst 5, 1) := by decide +kernel
theorem dX9_item_34 : decode cX9_item 34 = .ok (.if_icmp .gt 14, 3) := by decide +kernel
theorem dX9_item_37 : decode cX9_item 37 = .ok (.aload_n 0, 1) := by decide +kernel
theorem dX9_item_38 : decode cX9_item 38 = .ok (.aload_n 0, 1) := by decide +kernel
theorem dX9_item_39 : decode cX9_item 39 = .ok (.iload_n 1, 1) := by decide +kernel
theorem dX9_item_40 : decode cX9_item 40 = .ok (.iload_n 2, 1) := by decide +kernel
theorem dX9_item_41 : decode cX9_item 41 = .ok (.invokevirtual 90, 3) := by decide +kernel
theorem dX9_item_44 : decode cX9_item 44 = .ok (.invokevirtual 78, 3) := by decide +kernel
theorem dX9_item_47 : decode cX9_item 47 = .ok (.ireturn, 1) := by decide +kernel
theorem dX9_item_48 : decode cX9_item 48 = .ok (.iload_n 2, 1) := by decide +kernel
theorem dX9_item_49 : decode cX9_item 49 = .ok (.bipush 10, 2) := by decide +kernel
theorem dX9_item_51 : decode cX9_item 51 = .ok (.if_icmp .ne 15, 3) := by decide +kernel
theorem dX9_item_54 : decode cX9_item 54 = .ok (.aload_n 0, 1) := by decide +kernel
theorem dX9_item_55 : decode cX9_item 55 = .ok (.aload_n 0, 1) := by decide +kernel
theorem dX9_item_56 : decode cX9_item 56 = .ok (.iload_n 1, 1) := by decide +kernel
theorem dX9_item_57 : decode cX9_item 57 = .ok (.bipush 6, 2) := by decide +kernel
theorem dX9_item_59 : decode cX9_item 59 = .ok (.invokevirtual 90, 3) := by decide +kernel
theorem dX9_item_62 : decode cX9_item 62 = .ok (.invokevirtual 78, 3) := by decide +kernel
theorem dX9_item_65 : decode cX9_item 65 = .ok (.ireturn, 1) := by decide +kernel
theorem dX9_item_66 : decode cX9_item 66 = .ok (.aload_n 0, 1) := by decide +kernel
theorem dX9_item_67 : decode cX9_item 67 = .ok (.iload_n 1, 1) := by decide +kernel
theorem dX9_item_68 : decode cX9_item 68 = .ok (.invokevirtual 96, 3) := by decide +kernel
theorem dX9_item_71 : decode cX9_item 71 = .ok (.istore_n 3, 1) := by decide +kernel
theorem dX9_item_72 : decode cX9_item 72 = .ok (.iload_n 2, 1) := by decide +kernel
theorem dX9_item_73 : decode cX9_item 73 = .ok (.bipush 6, 2) := by decide +kernel
theorem dX9_item_75 : decode cX9_item 75 = .ok (.if_icmp .ne 59, 3) := by decide +kernel
theorem dX9_item_78 : decode cX9_item 78 = .ok (.iconst 0, 1) := by decide +kernel
theorem dX9_item_79 : decode cX9_item 79 = .ok (.istore 4, 2) := by decide +kernel
theorem dX9_item_81 : decode cX9_item 81 = .ok (.iconst 0, 1) := by decide +kernel
theorem dX9_item_82 : decode cX9_item 82 = .ok (.istore 5, 2) := by decide +kernel
theorem dX9_item_84 : decode cX9_item 84 = .ok (.iload 5, 2) := by decide +kernel
theorem dX9_item_86 : decode cX9_item 86 = .ok (.i2l, 1) := by decide +kernel
theorem dX9_item_87 : decode cX9_item 87 = .ok (.aload_n 0, 1) := by decide +kernel
theorem dX9_item_88 : decode cX9_item 88 = .ok (.getfield 9, 3) := by decide +kernel
theorem dX9_item_91 : decode cX9_item 91 = .ok (.iconst 2, 1) := by decide +kernel
theorem dX9_item_92 : decode cX9_item 92 = .ok (.laload, 1) := by decide +kernel
theorem dX9_item_93 : decode cX9_item 93 = .ok (.lcmp, 1) := by decide +kernel
theorem dX9_item_94 : decode cX9_item 94 = .ok (.ifCond .ge 32, 3) := by decide +kernel
theorem dX9_item_97 : decode cX9_item 97 = .ok (.iload 4, 2) := by decide +kernel
theorem dX9_item_99 : decode cX9_item 99 = .ok (.aload_n 0, 1) := by decide +kernel
theorem dX9_item_100 : decode cX9_item 100 = .ok (.iload 5, 2) := by decide +kernel
theorem dX9_item_102 : decode cX9_item 102 = .ok (.iconst 0, 1) := by decide +kernel
theorem dX9_item_103 : decode cX9_item 103 = .ok (.invokevirtual 99, 3) := by decide +kernel
theorem dX9_item_106 : decode cX9_item 106 = .ok (.iload_n 1, 1) := by decide +kernel
theorem dX9_item_107 : decode cX9_item 107 = .ok (.i2l, 1) := by decide +kernel
theorem dX9_item_108 : decode cX9_item 108 = .ok (.lcmp, 1) := by decide +kernel
theorem dX9_item_109 : decode cX9_item 109 = .ok (.ifCond .ne 7, 3) := by decide +kernel
theorem dX9_item_112 : decode cX9_item 112 = .ok (.iconst 1, 1) := by decide +kernel
theorem dX9_item_113 : decode cX9_item 113 = .ok (.goto 4, 3) := by decide +kernel
theorem dX9_item_116 : decode cX9_item 116 = .ok (.iconst 0, 1) := by decide +kernel
theorem dX9_item_117 : decode cX9_item 117 = .ok (.iadd, 1) := by decide +kernel
theorem dX9_item_118 : decode cX9_item 118 = .ok (.istore 4, 2) := by decide +kernel
theorem dX9_item_120 : decode cX9_item 120 = .ok (.iinc 5 1, 3) := by decide +kernel
theorem dX9_item_123 : decode cX9_item 123 = .ok (.goto (-39), 3) := by decide +kernel
theorem dX9_item_126 : decode cX9_item 126 = .ok (.aload_n 0, 1) := by decide +kernel
theorem dX9_item_127 : decode cX9_item 127 = .ok (.iload 4, 2) := by decide +kernel
theorem dX9_item_129 : decode cX9_item 129 = .ok (.i2l, 1) := by decide +kernel
theorem dX9_item_130 : decode cX9_item 130 = .ok (.invokevirtual 78, 3) := by decide +kernel
theorem dX9_item_133 : decode cX9_item 133 = .ok (.ireturn, 1) := by decide +kernel
theorem dX9_item_134 : decode cX9_item 134 = .ok (.aload_n 0, 1) := by decide +kernel
theorem dX9_item_135 : decode cX9_item 135 = .ok (.iload_n 2, 1) := by decide +kernel
theorem dX9_item_136 : decode cX9_item 136 = .ok (.bipush 7, 2) := by decide +kernel
theorem dX9_item_138 : decode cX9_item 138 = .ok (.if_icmp .ne 8, 3) := by decide +kernel
theorem dX9_item_141 : decode cX9_item 141 = .ok (.iload_n 3, 1) := by decide +kernel
theorem dX9_item_142 : decode cX9_item 142 = .ok (.i2l, 1) := by decide +kernel
theorem dX9_item_143 : decode cX9_item 143 = .ok (.goto 52, 3) := by decide +kernel
theorem dX9_item_146 : decode cX9_item 146 = .ok (.iload_n 2, 1) := by decide +kernel
theorem dX9_item_147 : decode cX9_item 147 = .ok (.bipush 8, 2) := by decide +kernel
theorem dX9_item_149 : decode cX9_item 149 = .ok (.if_icmp .ne 22, 3) := by decide +kernel
theorem dX9_item_152 : decode cX9_item 152 = .ok (.iload_n 3, 1) := by decide +kernel
theorem dX9_item_153 : decode cX9_item 153 = .ok (.iconst (-1), 1) := by decide +kernel
theorem dX9_item_154 : decode cX9_item 154 = .ok (.if_icmp .ne 9, 3) := by decide +kernel
theorem dX9_item_157 : decode cX9_item 157 = .ok (.ldc2_w 102, 3) := by decide +kernel
theorem dX9_item_160 : decode cX9_item 160 = .ok (.goto 35, 3) := by decide +kernel
theorem dX9_item_163 : decode cX9_item 163 = .ok (.aload_n 0, 1) := by decide +kernel
theorem dX9_item_164 : decode cX9_item 164 = .ok (.iload_n 3, 1) := by decide +kernel
theorem dX9_item_165 : decode cX9_item 165 = .ok (.invokevirtual 104, 3) := by decide +kernel
theorem dX9_item_168 : decode cX9_item 168 = .ok (.goto 27, 3) := by decide +kernel
theorem dX9_item_171 : decode cX9_item 171 = .ok (.iload_n 3, 1) := by decide +kernel
theorem dX9_item_172 : decode cX9_item 172 = .ok (.iconst (-1), 1) := by decide +kernel
theorem dX9_item_173 : decode cX9_item 173 = .ok (.if_icmp .ne 7, 3) := by decide +kernel
theorem dX9_item_176 : decode cX9_item 176 = .ok (.lconst 0, 1) := by decide +kernel
theorem dX9_item_177 : decode cX9_item 177 = .ok (.goto 18, 3) := by decide +kernel
theorem dX9_item_180 : decode cX9_item 180 = .ok (.aload_n 0, 1) := by decide +kernel
theorem dX9_item_181 : decode cX9_item 181 = .ok (.iload_n 3, 1) := by decide +kernel
theorem dX9_item_182 : decode cX9_item 182 = .ok (.invokevirtual 108, 3) := by decide +kernel
theorem dX9_item_185 : decode cX9_item 185 = .ok (.ifCond .eq 9, 3) := by decide +kernel
theorem dX9_item_188 : decode cX9_item 188 = .ok (.ldc2_w 59, 3) := by decide +kernel
theorem dX9_item_191 : decode cX9_item 191 = .ok (.goto 4, 3) := by decide +kernel
theorem dX9_item_194 : decode cX9_item 194 = .ok (.lconst 1, 1) := by decide +kernel
theorem dX9_item_195 : decode cX9_item 195 = .ok (.invokevirtual 78, 3) := by decide +kernel
theorem dX9_item_198 : decode cX9_item 198 = .ok (.ireturn, 1) := by decide +kernel
theorem dX9_pass_0 : decode cX9_pass 0 = .ok (.iload_n 1, 1) := by decide +kernel
theorem dX9_pass_1 : decode cX9_pass 1 = .ok (.i2l, 1) := by decide +kernel
theorem dX9_pass_2 : decode cX9_pass 2 = .ok (.lconst 1, 1) := by decide +kernel
theorem dX9_pass_3 : decode cX9_pass 3 = .ok (.ldc2_w 67, 3) := by decide +kernel
theorem dX9_pass_6 : decode cX9_pass 6 = .ok (.invokestatic 55, 3) := by decide +kernel
theorem dX9_pass_9 : decode cX9_pass 9 = .ok (.ifCond .ne 9, 3) := by decide +kernel
theorem dX9_pass_12 : decode cX9_pass 12 = .ok (.aload_n 0, 1) := by decide +kernel
theorem dX9_pass_13 : decode cX9_pass 13 = .ok (.iconst 1, 1) := by decide +kernel
theorem dX9_pass_14 : decode cX9_pass 14 = .ok (.invokevirtual 63, 3) := by decide +kernel
theorem dX9_pass_17 : decode cX9_pass 17 = .ok (.ireturn, 1) := by decide +kernel
theorem dX9_pass_18 : decode cX9_pass 18 = .ok (.aload_n 0, 1) := by decide +kernel
theorem dX9_pass_19 : decode cX9_pass 19 = .ok (.getfield 9, 3) := by decide +kernel
theorem dX9_pass_22 : decode cX9_pass 22 = .ok (.iconst 0, 1) := by decide +kernel
theorem dX9_pass_23 : decode cX9_pass 23 = .ok (.laload, 1) := by decide +kernel
theorem dX9_pass_24 : decode cX9_pass 24 = .ok (.iload_n 1, 1) := by decide +kernel
theorem dX9_pass_25 : decode cX9_pass 25 = .ok (.i2l, 1) := by decide +kernel
theorem dX9_pass_26 : decode cX9_pass 26 = .ok (.ladd, 1) := by decide +kernel
theorem dX9_pass_27 : decode cX9_pass 27 = .ok (.ldc2_w 111, 3) := by decide +kernel
theorem dX9_pass_30 : decode cX9_pass 30 = .ok (.lcmp, 1) := by decide +kernel
theorem dX9_pass_31 : decode cX9_pass 31 = .ok (.ifCond .le 9, 3) := by decide +kernel
theorem dX9_pass_34 : decode cX9_pass 34 = .ok (.aload_n 0, 1) := by decide +kernel
theorem dX9_pass_35 : decode cX9_pass 35 = .ok (.iconst 2, 1) := by decide +kernel
theorem dX9_pass_36 : decode cX9_pass 36 = .ok (.invokevirtual 63, 3) := by decide +kernel
theorem dX9_pass_39 : decode cX9_pass 39 = .ok (.ireturn, 1) := by decide +kernel
theorem dX9_pass_40 : decode cX9_pass 40 = .ok (.aload_n 0, 1) := by decide +kernel
theorem dX9_pass_41 : decode cX9_pass 41 = .ok (.invokevirtual 73, 3) := by decide +kernel
theorem dX9_pass_44 : decode cX9_pass 44 = .ok (.aload_n 0, 1) := by decide +kernel
theorem dX9_pass_45 : decode cX9_pass 45 = .ok (.getfield 9, 3) := by decide +kernel
theorem dX9_pass_48 : decode cX9_pass 48 = .ok (.iconst 0, 1) := by decide +kernel
theorem dX9_pass_49 : decode cX9_pass 49 = .ok (.dup2, 1) := by decide +kernel
theorem dX9_pass_50 : decode cX9_pass 50 = .ok (.laload, 1) := by decide +kernel
theorem dX9_pass_51 : decode cX9_pass 51 = .ok (.iload_n 1, 1) := by decide +kernel
theorem dX9_pass_52 : decode cX9_pass 52 = .ok (.i2l, 1) := by decide +kernel
theorem dX9_pass_53 : decode cX9_pass 53 = .ok (.ladd, 1) := by decide +kernel
theorem dX9_pass_54 : decode cX9_pass 54 = .ok (.lastore, 1) := by decide +kernel
theorem dX9_pass_55 : decode cX9_pass 55 = .ok (.aload_n 0, 1) := by decide +kernel
theorem dX9_pass_56 : decode cX9_pass 56 = .ok (.aload_n 0, 1) := by decide +kernel
theorem dX9_pass_57 : decode cX9_pass 57 = .ok (.getfield 9, 3) := by decide +kernel
theorem dX9_pass_60 : decode cX9_pass 60 = .ok (.iconst 0, 1) := by decide +kernel
theorem dX9_pass_61 : decode cX9_pass 61 = .ok (.laload, 1) := by decide +kernel
theorem dX9_pass_62 : decode cX9_pass 62 = .ok (.invokevirtual 78, 3) := by decide +kernel
theorem dX9_pass_65 : decode cX9_pass 65 = .ok (.ireturn, 1) := by decide +kernel
theorem dX9_today_0 : decode cX9_today 0 = .ok (.aload_n 0, 1) := by decide +kernel
theorem dX9_today_1 : decode cX9_today 1 = .ok (.aload_n 0, 1) := by decide +kernel
theorem dX9_today_2 : decode cX9_today 2 = .ok (.getfield 9, 3) := by decide +kernel
theorem dX9_today_5 : decode cX9_today 5 = .ok (.iconst 0, 1) := by decide +kernel
theorem dX9_today_6 : decode cX9_today 6 = .ok (.laload, 1) := by decide +kernel
theorem dX9_today_7 : decode cX9_today 7 = .ok (.invokevirtual 78, 3) := by decide +kernel
theorem dX9_today_10 : decode cX9_today 10 = .ok (.ireturn, 1) := by decide +kernel
theorem dX9_above_0 : decode cX9_above 0 = .ok (.lload_n 0, 1) := by decide +kernel
theorem dX9_above_1 : decode cX9_above 1 = .ok (.lload_n 2, 1) := by decide +kernel
theorem dX9_above_2 : decode cX9_above 2 = .ok (.ladd, 1) := by decide +kernel
theorem dX9_above_3 : decode cX9_above 3 = .ok (.lconst 1, 1) := by decide +kernel
theorem dX9_above_4 : decode cX9_above 4 = .ok (.lsub, 1) := by decide +kernel
theorem dX9_above_5 : decode cX9_above 5 = .ok (.lload_n 2, 1) := by decide +kernel
theorem dX9_above_6 : decode cX9_above 6 = .ok (.ldiv, 1) := by decide +kernel
theorem dX9_above_7 : decode cX9_above 7 = .ok (.lreturn, 1) := by decide +kernel
theorem dX9_part_0 : decode cX9_part 0 = .ok (.iload_n 1, 1) := by decide +kernel
theorem dX9_part_1 : decode cX9_part 1 = .ok (.i2l, 1) := by decide +kernel
theorem dX9_part_2 : decode cX9_part 2 = .ok (.lconst 0, 1) := by decide +kernel
theorem dX9_part_3 : decode cX9_part 3 = .ok (.ldc2_w 61, 3) := by decide +kernel
theorem dX9_part_6 : decode cX9_part 6 = .ok (.invokestatic 55, 3) := by decide +kernel
theorem dX9_part_9 : decode cX9_part 9 = .ok (.ifCond .ne 9, 3) := by decide +kernel
theorem dX9_part_12 : decode cX9_part 12 = .ok (.aload_n 0, 1) := by decide +kernel
theorem dX9_part_13 : decode cX9_part 13 = .ok (.iconst 1, 1) := by decide +kernel
theorem dX9_part_14 : decode cX9_part 14 = .ok (.invokevirtual 63, 3) := by decide +kernel
theorem dX9_part_17 : decode cX9_part 17 = .ok (.ireturn, 1) := by decide +kernel
theorem dX9_part_18 : decode cX9_part 18 = .ok (.iload_n 2, 1) := by decide +kernel
theorem dX9_part_19 : decode cX9_part 19 = .ok (.i2l, 1) := by decide +kernel
theorem dX9_part_20 : decode cX9_part 20 = .ok (.lconst 0, 1) := by decide +kernel
theorem dX9_part_21 : decode cX9_part 21 = .ok (.ldc2_w 67, 3) := by decide +kernel
theorem dX9_part_24 : decode cX9_part 24 = .ok (.invokestatic 55, 3) := by decide +kernel
theorem dX9_part_27 : decode cX9_part 27 = .ok (.ifCond .ne 9, 3) := by decide +kernel
theorem dX9_part_30 : decode cX9_part 30 = .ok (.aload_n 0, 1) := by decide +kernel
theorem dX9_part_31 : decode cX9_part 31 = .ok (.iconst 2, 1) := by decide +kernel
theorem dX9_part_32 : decode cX9_part 32 = .ok (.invokevirtual 63, 3) := by decide +kernel
theorem dX9_part_35 : decode cX9_part 35 = .ok (.ireturn, 1) := by decide +kernel
theorem dX9_part_36 : decode cX9_part 36 = .ok (.aload_n 0, 1) := by decide +kernel
theorem dX9_part_37 : decode cX9_part 37 = .ok (.getfield 9, 3) := by decide +kernel
theorem dX9_part_40 : decode cX9_part 40 = .ok (.iconst 3, 1) := by decide +kernel
theorem dX9_part_41 : decode cX9_part 41 = .ok (.laload, 1) := by decide +kernel
theorem dX9_part_42 : decode cX9_part 42 = .ok (.ldc2_w 113, 3) := by decide +kernel
theorem dX9_part_45 : decode cX9_part 45 = .ok (.lcmp, 1) := by decide +kernel
theorem dX9_part_46 : decode cX9_part 46 = .ok (.ifCond .ne 9, 3) := by decide +kernel
theorem dX9_part_49 : decode cX9_part 49 = .ok (.aload_n 0, 1) := by decide +kernel
theorem dX9_part_50 : decode cX9_part 50 = .ok (.iconst 3, 1) := by decide +kernel
theorem dX9_part_51 : decode cX9_part 51 = .ok (.invokevirtual 63, 3) := by decide +kernel
theorem dX9_part_54 : decode cX9_part 54 = .ok (.ireturn, 1) := by decide +kernel
theorem dX9_part_55 : decode cX9_part 55 = .ok (.aload_n 0, 1) := by decide +kernel
theorem dX9_part_56 : decode cX9_part 56 = .ok (.invokevirtual 73, 3) := by decide +kernel
theorem dX9_part_59 : decode cX9_part 59 = .ok (.iload_n 2, 1) := by decide +kernel
theorem dX9_part_60 : decode cX9_part 60 = .ok (.i2l, 1) := by decide +kernel
theorem dX9_part_61 : decode cX9_part 61 = .ok (.iload_n 2, 1) := by decide +kernel
theorem dX9_part_62 : decode cX9_part 62 = .ok (.i2l, 1) := by decide +kernel
theorem dX9_part_63 : decode cX9_part 63 = .ok (.lmul, 1) := by decide +kernel
theorem dX9_part_64 : decode cX9_part 64 = .ok (.iload_n 1, 1) := by decide +kernel
theorem dX9_part_65 : decode cX9_part 65 = .ok (.ifCond .ne 7, 3) := by decide +kernel
theorem dX9_part_68 : decode cX9_part 68 = .ok (.lconst 1, 1) := by decide +kernel
theorem dX9_part_69 : decode cX9_part 69 = .ok (.goto 28, 3) := by decide +kernel
theorem dX9_part_72 : decode cX9_part 72 = .ok (.iload_n 1, 1) := by decide +kernel
theorem dX9_part_73 : decode cX9_part 73 = .ok (.iconst 1, 1) := by decide +kernel
theorem dX9_part_74 : decode cX9_part 74 = .ok (.if_icmp .ne 9, 3) := by decide +kernel
theorem dX9_part_77 : decode cX9_part 77 = .ok (.ldc2_w 61, 3) := by decide +kernel
theorem dX9_part_80 : decode cX9_part 80 = .ok (.goto 17, 3) := by decide +kernel
theorem dX9_part_83 : decode cX9_part 83 = .ok (.iload_n 1, 1) := by decide +kernel
theorem dX9_part_84 : decode cX9_part 84 = .ok (.iconst 2, 1) := by decide +kernel
theorem dX9_part_85 : decode cX9_part 85 = .ok (.if_icmp .ne 9, 3) := by decide +kernel
theorem dX9_part_88 : decode cX9_part 88 = .ok (.ldc2_w 113, 3) := by decide +kernel
theorem dX9_part_91 : decode cX9_part 91 = .ok (.goto 6, 3) := by decide +kernel
theorem dX9_part_94 : decode cX9_part 94 = .ok (.ldc2_w 59, 3) := by decide +kernel
theorem dX9_part_97 : decode cX9_part 97 = .ok (.invokestatic 115, 3) := by decide +kernel
theorem dX9_part_100 : decode cX9_part 100 = .ok (.lstore_n 3, 1) := by decide +kernel
theorem dX9_part_101 : decode cX9_part 101 = .ok (.aload_n 0, 1) := by decide +kernel
theorem dX9_part_102 : decode cX9_part 102 = .ok (.getfield 9, 3) := by decide +kernel
theorem dX9_part_105 : decode cX9_part 105 = .ok (.sipush 140, 3) := by decide +kernel
theorem dX9_part_108 : decode cX9_part 108 = .ok (.aload_n 0, 1) := by decide +kernel
theorem dX9_part_109 : decode cX9_part 109 = .ok (.getfield 9, 3) := by decide +kernel
theorem dX9_part_112 : decode cX9_part 112 = .ok (.iconst 3, 1) := by decide +kernel
theorem dX9_part_113 : decode cX9_part 113 = .ok (.laload, 1) := by decide +kernel
theorem dX9_part_114 : decode cX9_part 114 = .ok (.l2i, 1) := by decide +kernel
theorem dX9_part_115 : decode cX9_part 115 = .ok (.iadd, 1) := by decide +kernel
theorem dX9_part_116 : decode cX9_part 116 = .ok (.lload_n 3, 1) := by decide +kernel
theorem dX9_part_117 : decode cX9_part 117 = .ok (.lastore, 1) := by decide +kernel
theorem dX9_part_118 : decode cX9_part 118 = .ok (.aload_n 0, 1) := by decide +kernel
theorem dX9_part_119 : decode cX9_part 119 = .ok (.getfield 9, 3) := by decide +kernel
theorem dX9_part_122 : decode cX9_part 122 = .ok (.iconst 3, 1) := by decide +kernel
theorem dX9_part_123 : decode cX9_part 123 = .ok (.dup2, 1) := by decide +kernel
theorem dX9_part_124 : decode cX9_part 124 = .ok (.laload, 1) := by decide +kernel
theorem dX9_part_125 : decode cX9_part 125 = .ok (.lconst 1, 1) := by decide +kernel
theorem dX9_part_126 : decode cX9_part 126 = .ok (.ladd, 1) := by decide +kernel
theorem dX9_part_127 : decode cX9_part 127 = .ok (.lastore, 1) := by decide +kernel
theorem dX9_part_128 : decode cX9_part 128 = .ok (.aload_n 0, 1) := by decide +kernel
theorem dX9_part_129 : decode cX9_part 129 = .ok (.lload_n 3, 1) := by decide +kernel
theorem dX9_part_130 : decode cX9_part 130 = .ok (.invokevirtual 78, 3) := by decide +kernel
theorem dX9_part_133 : decode cX9_part 133 = .ok (.ireturn, 1) := by decide +kernel
theorem dX9_ownSquare_0 : decode cX9_ownSquare 0 = .ok (.lconst 0, 1) := by decide +kernel
theorem dX9_ownSquare_1 : decode cX9_ownSquare 1 = .ok (.lstore_n 1, 1) := by decide +kernel
theorem dX9_ownSquare_2 : decode cX9_ownSquare 2 = .ok (.iconst 0, 1) := by decide +kernel
theorem dX9_ownSquare_3 : decode cX9_ownSquare 3 = .ok (.istore_n 3, 1) := by decide +kernel
theorem dX9_ownSquare_4 : decode cX9_ownSquare 4 = .ok (.iload_n 3, 1) := by decide +kernel
theorem dX9_ownSquare_5 : decode cX9_ownSquare 5 = .ok (.i2l, 1) := by decide +kernel
theorem dX9_ownSquare_6 : decode cX9_ownSquare 6 = .ok (.aload_n 0, 1) := by decide +kernel
theorem dX9_ownSquare_7 : decode cX9_ownSquare 7 = .ok (.getfield 9, 3) := by decide +kernel
theorem dX9_ownSquare_10 : decode cX9_ownSquare 10 = .ok (.iconst 3, 1) := by decide +kernel
theorem dX9_ownSquare_11 : decode cX9_ownSquare 11 = .ok (.laload, 1) := by decide +kernel
theorem dX9_ownSquare_12 : decode cX9_ownSquare 12 = .ok (.lcmp, 1) := by decide +kernel
theorem dX9_ownSquare_13 : decode cX9_ownSquare 13 = .ok (.ifCond .ge 22, 3) := by decide +kernel
theorem dX9_ownSquare_16 : decode cX9_ownSquare 16 = .ok (.lload_n 1, 1) := by decide +kernel
theorem dX9_ownSquare_17 : decode cX9_ownSquare 17 = .ok (.aload_n 0, 1) := by decide +kernel
theorem dX9_ownSquare_18 : decode cX9_ownSquare 18 = .ok (.getfield 9, 3) := by decide +kernel
theorem dX9_ownSquare_21 : decode cX9_ownSquare 21 = .ok (.sipush 140, 3) := by decide +kernel
theorem dX9_ownSquare_24 : decode cX9_ownSquare 24 = .ok (.iload_n 3, 1) := by decide +kernel
theorem dX9_ownSquare_25 : decode cX9_ownSquare 25 = .ok (.iadd, 1) := by decide +kernel
theorem dX9_ownSquare_26 : decode cX9_ownSquare 26 = .ok (.laload, 1) := by decide +kernel
theorem dX9_ownSquare_27 : decode cX9_ownSquare 27 = .ok (.ladd, 1) := by decide +kernel
theorem dX9_ownSquare_28 : decode cX9_ownSquare 28 = .ok (.lstore_n 1, 1) := by decide +kernel
theorem dX9_ownSquare_29 : decode cX9_ownSquare 29 = .ok (.iinc 3 1, 3) := by decide +kernel
theorem dX9_ownSquare_32 : decode cX9_ownSquare 32 = .ok (.goto (-28), 3) := by decide +kernel
theorem dX9_ownSquare_35 : decode cX9_ownSquare 35 = .ok (.lload_n 1, 1) := by decide +kernel
theorem dX9_ownSquare_36 : decode cX9_ownSquare 36 = .ok (.lreturn, 1) := by decide +kernel
theorem dX9_square_0 : decode cX9_square 0 = .ok (.iload_n 1, 1) := by decide +kernel
theorem dX9_square_1 : decode cX9_square 1 = .ok (.iconst (-1), 1) := by decide +kernel
theorem dX9_square_2 : decode cX9_square 2 = .ok (.if_icmp .ne 12, 3) := by decide +kernel
theorem dX9_square_5 : decode cX9_square 5 = .ok (.aload_n 0, 1) := by decide +kernel
theorem dX9_square_6 : decode cX9_square 6 = .ok (.aload_n 0, 1) := by decide +kernel
theorem dX9_square_7 : decode cX9_square 7 = .ok (.invokevirtual 119, 3) := by decide +kernel
theorem dX9_square_10 : decode cX9_square 10 = .ok (.invokevirtual 78, 3) := by decide +kernel
theorem dX9_square_13 : decode cX9_square 13 = .ok (.ireturn, 1) := by decide +kernel
theorem dX9_square_14 : decode cX9_square 14 = .ok (.iload_n 1, 1) := by decide +kernel
theorem dX9_square_15 : decode cX9_square 15 = .ok (.i2l, 1) := by decide +kernel
theorem dX9_square_16 : decode cX9_square 16 = .ok (.lconst 0, 1) := by decide +kernel
theorem dX9_square_17 : decode cX9_square 17 = .ok (.aload_n 0, 1) := by decide +kernel
theorem dX9_square_18 : decode cX9_square 18 = .ok (.getfield 9, 3) := by decide +kernel
theorem dX9_square_21 : decode cX9_square 21 = .ok (.iconst 3, 1) := by decide +kernel
theorem dX9_square_22 : decode cX9_square 22 = .ok (.laload, 1) := by decide +kernel
theorem dX9_square_23 : decode cX9_square 23 = .ok (.lconst 1, 1) := by decide +kernel
theorem dX9_square_24 : decode cX9_square 24 = .ok (.lsub, 1) := by decide +kernel
theorem dX9_square_25 : decode cX9_square 25 = .ok (.invokestatic 55, 3) := by decide +kernel
theorem dX9_square_28 : decode cX9_square 28 = .ok (.ifCond .eq 20, 3) := by decide +kernel
theorem dX9_square_31 : decode cX9_square 31 = .ok (.aload_n 0, 1) := by decide +kernel
theorem dX9_square_32 : decode cX9_square 32 = .ok (.aload_n 0, 1) := by decide +kernel
theorem dX9_square_33 : decode cX9_square 33 = .ok (.getfield 9, 3) := by decide +kernel
theorem dX9_square_36 : decode cX9_square 36 = .ok (.sipush 140, 3) := by decide +kernel
theorem dX9_square_39 : decode cX9_square 39 = .ok (.iload_n 1, 1) := by decide +kernel
theorem dX9_square_40 : decode cX9_square 40 = .ok (.iadd, 1) := by decide +kernel
theorem dX9_square_41 : decode cX9_square 41 = .ok (.laload, 1) := by decide +kernel
theorem dX9_square_42 : decode cX9_square 42 = .ok (.invokevirtual 78, 3) := by decide +kernel
theorem dX9_square_45 : decode cX9_square 45 = .ok (.goto 8, 3) := by decide +kernel
theorem dX9_square_48 : decode cX9_square 48 = .ok (.aload_n 0, 1) := by decide +kernel
theorem dX9_square_49 : decode cX9_square 49 = .ok (.iconst 1, 1) := by decide +kernel
theorem dX9_square_50 : decode cX9_square 50 = .ok (.invokevirtual 63, 3) := by decide +kernel
theorem dX9_square_53 : decode cX9_square 53 = .ok (.ireturn, 1) := by decide +kernel
theorem dX9_clearParts_0 : decode cX9_clearParts 0 = .ok (.aload_n 0, 1) := by decide +kernel
theorem dX9_clearParts_1 : decode cX9_clearParts 1 = .ok (.invokevirtual 73, 3) := by decide +kernel
theorem dX9_clearParts_4 : decode cX9_clearParts 4 = .ok (.aload_n 0, 1) := by decide +kernel
theorem dX9_clearParts_5 : decode cX9_clearParts 5 = .ok (.getfield 9, 3) := by decide +kernel
theorem dX9_clearParts_8 : decode cX9_clearParts 8 = .ok (.iconst 3, 1) := by decide +kernel
theorem dX9_clearParts_9 : decode cX9_clearParts 9 = .ok (.laload, 1) := by decide +kernel
theorem dX9_clearParts_10 : decode cX9_clearParts 10 = .ok (.lstore_n 1, 1) := by decide +kernel
theorem dX9_clearParts_11 : decode cX9_clearParts 11 = .ok (.aload_n 0, 1) := by decide +kernel
theorem dX9_clearParts_12 : decode cX9_clearParts 12 = .ok (.getfield 9, 3) := by decide +kernel
theorem dX9_clearParts_15 : decode cX9_clearParts 15 = .ok (.iconst 3, 1) := by decide +kernel
theorem dX9_clearParts_16 : decode cX9_clearParts 16 = .ok (.lconst 0, 1) := by decide +kernel
theorem dX9_clearParts_17 : decode cX9_clearParts 17 = .ok (.lastore, 1) := by decide +kernel
theorem dX9_clearParts_18 : decode cX9_clearParts 18 = .ok (.aload_n 0, 1) := by decide +kernel
theorem dX9_clearParts_19 : decode cX9_clearParts 19 = .ok (.lload_n 1, 1) := by decide +kernel
theorem dX9_clearParts_20 : decode cX9_clearParts 20 = .ok (.invokevirtual 78, 3) := by decide +kernel
theorem dX9_clearParts_23 : decode cX9_clearParts 23 = .ok (.ireturn, 1) := by decide +kernel
theorem dX9_isCoveredBy_0 : decode cX9_isCoveredBy 0 = .ok (.aload_n 0, 1) := by decide +kernel
theorem dX9_isCoveredBy_1 : decode cX9_isCoveredBy 1 = .ok (.iload_n 1, 1) := by decide +kernel
theorem dX9_isCoveredBy_2 : decode cX9_isCoveredBy 2 = .ok (.iconst 0, 1) := by decide +kernel
theorem dX9_isCoveredBy_3 : decode cX9_isCoveredBy 3 = .ok (.invokevirtual 99, 3) := by decide +kernel
theorem dX9_isCoveredBy_6 : decode cX9_isCoveredBy 6 = .ok (.lload_n 2, 1) := by decide +kernel
theorem dX9_isCoveredBy_7 : decode cX9_isCoveredBy 7 = .ok (.lcmp, 1) := by decide +kernel
theorem dX9_isCoveredBy_8 : decode cX9_isCoveredBy 8 = .ok (.ifCond .eq 26, 3) := by decide +kernel
theorem dX9_isCoveredBy_11 : decode cX9_isCoveredBy 11 = .ok (.aload_n 0, 1) := by decide +kernel
theorem dX9_isCoveredBy_12 : decode cX9_isCoveredBy 12 = .ok (.iload_n 1, 1) := by decide +kernel
theorem dX9_isCoveredBy_13 : decode cX9_isCoveredBy 13 = .ok (.iconst 1, 1) := by decide +kernel
theorem dX9_isCoveredBy_14 : decode cX9_isCoveredBy 14 = .ok (.invokevirtual 99, 3) := by decide +kernel
theorem dX9_isCoveredBy_17 : decode cX9_isCoveredBy 17 = .ok (.lload_n 2, 1) := by decide +kernel
theorem dX9_isCoveredBy_18 : decode cX9_isCoveredBy 18 = .ok (.lcmp, 1) := by decide +kernel
theorem dX9_isCoveredBy_19 : decode cX9_isCoveredBy 19 = .ok (.ifCond .ne 19, 3) := by decide +kernel
theorem dX9_isCoveredBy_22 : decode cX9_isCoveredBy 22 = .ok (.aload_n 0, 1) := by decide +kernel
theorem dX9_isCoveredBy_23 : decode cX9_isCoveredBy 23 = .ok (.lload_n 2, 1) := by decide +kernel
theorem dX9_isCoveredBy_24 : decode cX9_isCoveredBy 24 = .ok (.l2i, 1) := by decide +kernel
theorem dX9_isCoveredBy_25 : decode cX9_isCoveredBy 25 = .ok (.iconst 0, 1) := by decide +kernel
theorem dX9_isCoveredBy_26 : decode cX9_isCoveredBy 26 = .ok (.invokevirtual 90, 3) := by decide +kernel
theorem dX9_isCoveredBy_29 : decode cX9_isCoveredBy 29 = .ok (.lconst 0, 1) := by decide +kernel
theorem dX9_isCoveredBy_30 : decode cX9_isCoveredBy 30 = .ok (.lcmp, 1) := by decide +kernel
theorem dX9_isCoveredBy_31 : decode cX9_isCoveredBy 31 = .ok (.ifCond .ne 7, 3) := by decide +kernel
theorem dX9_isCoveredBy_34 : decode cX9_isCoveredBy 34 = .ok (.iconst 1, 1) := by decide +kernel
theorem dX9_isCoveredBy_35 : decode cX9_isCoveredBy 35 = .ok (.goto 4, 3) := by decide +kernel
theorem dX9_isCoveredBy_38 : decode cX9_isCoveredBy 38 = .ok (.iconst 0, 1) := by decide +kernel
theorem dX9_isCoveredBy_39 : decode cX9_isCoveredBy 39 = .ok (.istore 8, 2) := by decide +kernel
theorem dX9_isCoveredBy_41 : decode cX9_isCoveredBy 41 = .ok (.iload 8, 2) := by decide +kernel
theorem dX9_isCoveredBy_43 : decode cX9_isCoveredBy 43 = .ok (.ifCond .eq 23, 3) := by decide +kernel
theorem dX9_isCoveredBy_46 : decode cX9_isCoveredBy 46 = .ok (.aload_n 0, 1) := by decide +kernel
theorem dX9_isCoveredBy_47 : decode cX9_isCoveredBy 47 = .ok (.iload_n 1, 1) := by decide +kernel
theorem dX9_isCoveredBy_48 : decode cX9_isCoveredBy 48 = .ok (.iconst 3, 1) := by decide +kernel
theorem dX9_isCoveredBy_49 : decode cX9_isCoveredBy 49 = .ok (.invokevirtual 99, 3) := by decide +kernel
theorem dX9_isCoveredBy_52 : decode cX9_isCoveredBy 52 = .ok (.lload 4, 2) := by decide +kernel
theorem dX9_isCoveredBy_54 : decode cX9_isCoveredBy 54 = .ok (.lload 6, 2) := by decide +kernel
theorem dX9_isCoveredBy_56 : decode cX9_isCoveredBy 56 = .ok (.invokestatic 55, 3) := by decide +kernel
theorem dX9_isCoveredBy_59 : decode cX9_isCoveredBy 59 = .ok (.ifCond .eq 7, 3) := by decide +kernel
theorem dX9_isCoveredBy_62 : decode cX9_isCoveredBy 62 = .ok (.iconst 1, 1) := by decide +kernel
theorem dX9_isCoveredBy_63 : decode cX9_isCoveredBy 63 = .ok (.goto 4, 3) := by decide +kernel
theorem dX9_isCoveredBy_66 : decode cX9_isCoveredBy 66 = .ok (.iconst 0, 1) := by decide +kernel
theorem dX9_isCoveredBy_67 : decode cX9_isCoveredBy 67 = .ok (.ireturn, 1) := by decide +kernel
theorem dX9_isCovered_0 : decode cX9_isCovered 0 = .ok (.iconst 0, 1) := by decide +kernel
theorem dX9_isCovered_1 : decode cX9_isCovered 1 = .ok (.istore_n 2, 1) := by decide +kernel
theorem dX9_isCovered_2 : decode cX9_isCovered 2 = .ok (.iconst 0, 1) := by decide +kernel
theorem dX9_isCovered_3 : decode cX9_isCovered 3 = .ok (.istore_n 3, 1) := by decide +kernel
theorem dX9_isCovered_4 : decode cX9_isCovered 4 = .ok (.iload_n 3, 1) := by decide +kernel
theorem dX9_isCovered_5 : decode cX9_isCovered 5 = .ok (.i2l, 1) := by decide +kernel
theorem dX9_isCovered_6 : decode cX9_isCovered 6 = .ok (.aload_n 0, 1) := by decide +kernel
theorem dX9_isCovered_7 : decode cX9_isCovered 7 = .ok (.getfield 9, 3) := by decide +kernel
theorem dX9_isCovered_10 : decode cX9_isCovered 10 = .ok (.iconst 4, 1) := by decide +kernel
theorem dX9_isCovered_11 : decode cX9_isCovered 11 = .ok (.laload, 1) := by decide +kernel
theorem dX9_isCovered_12 : decode cX9_isCovered 12 = .ok (.lcmp, 1) := by decide +kernel
theorem dX9_isCovered_13 : decode cX9_isCovered 13 = .ok (.ifCond .ge 61, 3) := by decide +kernel
theorem dX9_isCovered_16 : decode cX9_isCovered 16 = .ok (.sipush 150, 3) := by decide +kernel
theorem dX9_isCovered_19 : decode cX9_isCovered 19 = .ok (.iconst 3, 1) := by decide +kernel
theorem dX9_isCovered_20 : decode cX9_isCovered 20 = .ok (.iload_n 3, 1) := by decide +kernel
theorem dX9_isCovered_21 : decode cX9_isCovered 21 = .ok (.imul, 1) := by decide +kernel
theorem dX9_isCovered_22 : decode cX9_isCovered 22 = .ok (.iadd, 1) := by decide +kernel
theorem dX9_isCovered_23 : decode cX9_isCovered 23 = .ok (.istore 4, 2) := by decide +kernel
theorem dX9_isCovered_25 : decode cX9_isCovered 25 = .ok (.iload_n 2, 1) := by decide +kernel
theorem dX9_isCovered_26 : decode cX9_isCovered 26 = .ok (.ifCond .ne 36, 3) := by decide +kernel
theorem dX9_isCovered_29 : decode cX9_isCovered 29 = .ok (.aload_n 0, 1) := by decide +kernel
theorem dX9_isCovered_30 : decode cX9_isCovered 30 = .ok (.iload_n 1, 1) := by decide +kernel
theorem dX9_isCovered_31 : decode cX9_isCovered 31 = .ok (.aload_n 0, 1) := by decide +kernel
theorem dX9_isCovered_32 : decode cX9_isCovered 32 = .ok (.getfield 9, 3) := by decide +kernel
theorem dX9_isCovered_35 : decode cX9_isCovered 35 = .ok (.iload 4, 2) := by decide +kernel
theorem dX9_isCovered_37 : decode cX9_isCovered 37 = .ok (.laload, 1) := by decide +kernel
theorem dX9_isCovered_38 : decode cX9_isCovered 38 = .ok (.aload_n 0, 1) := by decide +kernel
theorem dX9_isCovered_39 : decode cX9_isCovered 39 = .ok (.getfield 9, 3) := by decide +kernel
theorem dX9_isCovered_42 : decode cX9_isCovered 42 = .ok (.iload 4, 2) := by decide +kernel
theorem dX9_isCovered_44 : decode cX9_isCovered 44 = .ok (.iconst 1, 1) := by decide +kernel
theorem dX9_isCovered_45 : decode cX9_isCovered 45 = .ok (.iadd, 1) := by decide +kernel
theorem dX9_isCovered_46 : decode cX9_isCovered 46 = .ok (.laload, 1) := by decide +kernel
theorem dX9_isCovered_47 : decode cX9_isCovered 47 = .ok (.aload_n 0, 1) := by decide +kernel
theorem dX9_isCovered_48 : decode cX9_isCovered 48 = .ok (.getfield 9, 3) := by decide +kernel
theorem dX9_isCovered_51 : decode cX9_isCovered 51 = .ok (.iload 4, 2) := by decide +kernel
theorem dX9_isCovered_53 : decode cX9_isCovered 53 = .ok (.iconst 2, 1) := by decide +kernel
theorem dX9_isCovered_54 : decode cX9_isCovered 54 = .ok (.iadd, 1) := by decide +kernel
theorem dX9_isCovered_55 : decode cX9_isCovered 55 = .ok (.laload, 1) := by decide +kernel
theorem dX9_isCovered_56 : decode cX9_isCovered 56 = .ok (.invokevirtual 123, 3) := by decide +kernel
theorem dX9_isCovered_59 : decode cX9_isCovered 59 = .ok (.ifCond .eq 7, 3) := by decide +kernel
theorem dX9_isCovered_62 : decode cX9_isCovered 62 = .ok (.iconst 1, 1) := by decide +kernel
theorem dX9_isCovered_63 : decode cX9_isCovered 63 = .ok (.goto 4, 3) := by decide +kernel
theorem dX9_isCovered_66 : decode cX9_isCovered 66 = .ok (.iconst 0, 1) := by decide +kernel
theorem dX9_isCovered_67 : decode cX9_isCovered 67 = .ok (.istore_n 2, 1) := by decide +kernel
theorem dX9_isCovered_68 : decode cX9_isCovered 68 = .ok (.iinc 3 1, 3) := by decide +kernel
theorem dX9_isCovered_71 : decode cX9_isCovered 71 = .ok (.goto (-67), 3) := by decide +kernel
theorem dX9_isCovered_74 : decode cX9_isCovered 74 = .ok (.iload_n 2, 1) := by decide +kernel
theorem dX9_isCovered_75 : decode cX9_isCovered 75 = .ok (.ireturn, 1) := by decide +kernel
theorem dX9_isGood_0 : decode cX9_isGood 0 = .ok (.iconst 1, 1) := by decide +kernel
theorem dX9_isGood_1 : decode cX9_isGood 1 = .ok (.istore_n 2, 1) := by decide +kernel
theorem dX9_isGood_2 : decode cX9_isGood 2 = .ok (.iload_n 1, 1) := by decide +kernel
theorem dX9_isGood_3 : decode cX9_isGood 3 = .ok (.istore_n 3, 1) := by decide +kernel
theorem dX9_isGood_4 : decode cX9_isGood 4 = .ok (.iload_n 3, 1) := by decide +kernel
theorem dX9_isGood_5 : decode cX9_isGood 5 = .ok (.iconst (-1), 1) := by decide +kernel
theorem dX9_isGood_6 : decode cX9_isGood 6 = .ok (.if_icmp .eq 32, 3) := by decide +kernel
theorem dX9_isGood_9 : decode cX9_isGood 9 = .ok (.iload_n 2, 1) := by decide +kernel
theorem dX9_isGood_10 : decode cX9_isGood 10 = .ok (.ifCond .eq 28, 3) := by decide +kernel
theorem dX9_isGood_13 : decode cX9_isGood 13 = .ok (.aload_n 0, 1) := by decide +kernel
theorem dX9_isGood_14 : decode cX9_isGood 14 = .ok (.iload_n 3, 1) := by decide +kernel
theorem dX9_isGood_15 : decode cX9_isGood 15 = .ok (.invokevirtual 127, 3) := by decide +kernel
theorem dX9_isGood_18 : decode cX9_isGood 18 = .ok (.ifCond .ne 7, 3) := by decide +kernel
theorem dX9_isGood_21 : decode cX9_isGood 21 = .ok (.iconst 1, 1) := by decide +kernel
theorem dX9_isGood_22 : decode cX9_isGood 22 = .ok (.goto 4, 3) := by decide +kernel
theorem dX9_isGood_25 : decode cX9_isGood 25 = .ok (.iconst 0, 1) := by decide +kernel
theorem dX9_isGood_26 : decode cX9_isGood 26 = .ok (.istore_n 2, 1) := by decide +kernel
theorem dX9_isGood_27 : decode cX9_isGood 27 = .ok (.aload_n 0, 1) := by decide +kernel
theorem dX9_isGood_28 : decode cX9_isGood 28 = .ok (.iload_n 3, 1) := by decide +kernel
theorem dX9_isGood_29 : decode cX9_isGood 29 = .ok (.iconst 2, 1) := by decide +kernel
theorem dX9_isGood_30 : decode cX9_isGood 30 = .ok (.invokevirtual 99, 3) := by decide +kernel
theorem dX9_isGood_33 : decode cX9_isGood 33 = .ok (.l2i, 1) := by decide +kernel
theorem dX9_isGood_34 : decode cX9_isGood 34 = .ok (.istore_n 3, 1) := by decide +kernel
theorem dX9_isGood_35 : decode cX9_isGood 35 = .ok (.goto (-31), 3) := by decide +kernel
theorem dX9_isGood_38 : decode cX9_isGood 38 = .ok (.iload_n 2, 1) := by decide +kernel
theorem dX9_isGood_39 : decode cX9_isGood 39 = .ok (.ireturn, 1) := by decide +kernel
theorem dX9_current_0 : decode cX9_current 0 = .ok (.aload_n 0, 1) := by decide +kernel
theorem dX9_current_1 : decode cX9_current 1 = .ok (.getfield 9, 3) := by decide +kernel
theorem dX9_current_4 : decode cX9_current 4 = .ok (.iconst 2, 1) := by decide +kernel
theorem dX9_current_5 : decode cX9_current 5 = .ok (.laload, 1) := by decide +kernel
theorem dX9_current_6 : decode cX9_current 6 = .ok (.l2i, 1) := by decide +kernel
theorem dX9_current_7 : decode cX9_current 7 = .ok (.iconst 1, 1) := by decide +kernel
theorem dX9_current_8 : decode cX9_current 8 = .ok (.isub, 1) := by decide +kernel
theorem dX9_current_9 : decode cX9_current 9 = .ok (.istore_n 2, 1) := by decide +kernel
theorem dX9_current_10 : decode cX9_current 10 = .ok (.iload_n 2, 1) := by decide +kernel
theorem dX9_current_11 : decode cX9_current 11 = .ok (.ifCond .lt 31, 3) := by decide +kernel
theorem dX9_current_14 : decode cX9_current 14 = .ok (.aload_n 0, 1) := by decide +kernel
theorem dX9_current_15 : decode cX9_current 15 = .ok (.iload_n 2, 1) := by decide +kernel
theorem dX9_current_16 : decode cX9_current 16 = .ok (.iconst 0, 1) := by decide +kernel
theorem dX9_current_17 : decode cX9_current 17 = .ok (.invokevirtual 99, 3) := by decide +kernel
theorem dX9_current_20 : decode cX9_current 20 = .ok (.iload_n 1, 1) := by decide +kernel
theorem dX9_current_21 : decode cX9_current 21 = .ok (.i2l, 1) := by decide +kernel
theorem dX9_current_22 : decode cX9_current 22 = .ok (.lcmp, 1) := by decide +kernel
theorem dX9_current_23 : decode cX9_current 23 = .ok (.ifCond .ne 13, 3) := by decide +kernel
theorem dX9_current_26 : decode cX9_current 26 = .ok (.aload_n 0, 1) := by decide +kernel
theorem dX9_current_27 : decode cX9_current 27 = .ok (.iload_n 2, 1) := by decide +kernel
theorem dX9_current_28 : decode cX9_current 28 = .ok (.invokevirtual 130, 3) := by decide +kernel
theorem dX9_current_31 : decode cX9_current 31 = .ok (.ifCond .eq 5, 3) := by decide +kernel
theorem dX9_current_34 : decode cX9_current 34 = .ok (.iload_n 2, 1) := by decide +kernel
theorem dX9_current_35 : decode cX9_current 35 = .ok (.ireturn, 1) := by decide +kernel
theorem dX9_current_36 : decode cX9_current 36 = .ok (.iinc 2 (-1), 3) := by decide +kernel
theorem dX9_current_39 : decode cX9_current 39 = .ok (.goto (-29), 3) := by decide +kernel
theorem dX9_current_42 : decode cX9_current 42 = .ok (.iconst (-1), 1) := by decide +kernel
theorem dX9_current_43 : decode cX9_current 43 = .ok (.ireturn, 1) := by decide +kernel
theorem dX9_size_0 : decode cX9_size 0 = .ok (.lload_n 0, 1) := by decide +kernel
theorem dX9_size_1 : decode cX9_size 1 = .ok (.lconst 0, 1) := by decide +kernel
theorem dX9_size_2 : decode cX9_size 2 = .ok (.lcmp, 1) := by decide +kernel
theorem dX9_size_3 : decode cX9_size 3 = .ok (.ifCond .ge 8, 3) := by decide +kernel
theorem dX9_size_6 : decode cX9_size 6 = .ok (.lload_n 0, 1) := by decide +kernel
theorem dX9_size_7 : decode cX9_size 7 = .ok (.lneg, 1) := by decide +kernel
theorem dX9_size_8 : decode cX9_size 8 = .ok (.goto 4, 3) := by decide +kernel
theorem dX9_size_11 : decode cX9_size 11 = .ok (.lload_n 0, 1) := by decide +kernel
theorem dX9_size_12 : decode cX9_size 12 = .ok (.lreturn, 1) := by decide +kernel
theorem dX9_need_0 : decode cX9_need 0 = .ok (.aload_n 0, 1) := by decide +kernel
theorem dX9_need_1 : decode cX9_need 1 = .ok (.iload_n 1, 1) := by decide +kernel
theorem dX9_need_2 : decode cX9_need 2 = .ok (.iconst 4, 1) := by decide +kernel
theorem dX9_need_3 : decode cX9_need 3 = .ok (.invokevirtual 99, 3) := by decide +kernel
theorem dX9_need_6 : decode cX9_need 6 = .ok (.invokestatic 133, 3) := by decide +kernel
theorem dX9_need_9 : decode cX9_need 9 = .ok (.ldc2_w 59, 3) := by decide +kernel
theorem dX9_need_12 : decode cX9_need 12 = .ok (.aload_n 0, 1) := by decide +kernel
theorem dX9_need_13 : decode cX9_need 13 = .ok (.iload_n 1, 1) := by decide +kernel
theorem dX9_need_14 : decode cX9_need 14 = .ok (.bipush 8, 2) := by decide +kernel
theorem dX9_need_16 : decode cX9_need 16 = .ok (.invokevirtual 99, 3) := by decide +kernel
theorem dX9_need_19 : decode cX9_need 19 = .ok (.lmul, 1) := by decide +kernel
theorem dX9_need_20 : decode cX9_need 20 = .ok (.ladd, 1) := by decide +kernel
theorem dX9_need_21 : decode cX9_need 21 = .ok (.lreturn, 1) := by decide +kernel
theorem dX9_tolerance_0 : decode cX9_tolerance 0 = .ok (.aload_n 0, 1) := by decide +kernel
theorem dX9_tolerance_1 : decode cX9_tolerance 1 = .ok (.aload_n 0, 1) := by decide +kernel
theorem dX9_tolerance_2 : decode cX9_tolerance 2 = .ok (.iload_n 1, 1) := by decide +kernel
theorem dX9_tolerance_3 : decode cX9_tolerance 3 = .ok (.iconst 0, 1) := by decide +kernel
theorem dX9_tolerance_4 : decode cX9_tolerance 4 = .ok (.invokevirtual 99, 3) := by decide +kernel
theorem dX9_tolerance_7 : decode cX9_tolerance 7 = .ok (.l2i, 1) := by decide +kernel
theorem dX9_tolerance_8 : decode cX9_tolerance 8 = .ok (.iconst 2, 1) := by decide +kernel
theorem dX9_tolerance_9 : decode cX9_tolerance 9 = .ok (.invokevirtual 90, 3) := by decide +kernel
theorem dX9_tolerance_12 : decode cX9_tolerance 12 = .ok (.lreturn, 1) := by decide +kernel
theorem dX9_isIn_0 : decode cX9_isIn 0 = .ok (.aload_n 0, 1) := by decide +kernel
theorem dX9_isIn_1 : decode cX9_isIn 1 = .ok (.iload_n 1, 1) := by decide +kernel
theorem dX9_isIn_2 : decode cX9_isIn 2 = .ok (.invokevirtual 137, 3) := by decide +kernel
theorem dX9_isIn_5 : decode cX9_isIn 5 = .ok (.aload_n 0, 1) := by decide +kernel
theorem dX9_isIn_6 : decode cX9_isIn 6 = .ok (.iload_n 1, 1) := by decide +kernel
theorem dX9_isIn_7 : decode cX9_isIn 7 = .ok (.invokevirtual 140, 3) := by decide +kernel
theorem dX9_isIn_10 : decode cX9_isIn 10 = .ok (.lcmp, 1) := by decide +kernel
theorem dX9_isIn_11 : decode cX9_isIn 11 = .ok (.ifCond .gt 7, 3) := by decide +kernel
theorem dX9_isIn_14 : decode cX9_isIn 14 = .ok (.iconst 1, 1) := by decide +kernel
theorem dX9_isIn_15 : decode cX9_isIn 15 = .ok (.goto 4, 3) := by decide +kernel
theorem dX9_isIn_18 : decode cX9_isIn 18 = .ok (.iconst 0, 1) := by decide +kernel
theorem dX9_isIn_19 : decode cX9_isIn 19 = .ok (.ireturn, 1) := by decide +kernel
theorem dX9_reachBy_0 : decode cX9_reachBy 0 = .ok (.ldc2_w 67, 3) := by decide +kernel
theorem dX9_reachBy_3 : decode cX9_reachBy 3 = .ok (.lstore 4, 2) := by decide +kernel
theorem dX9_reachBy_5 : decode cX9_reachBy 5 = .ok (.lload 4, 2) := by decide +kernel
theorem dX9_reachBy_7 : decode cX9_reachBy 7 = .ok (.lconst 0, 1) := by decide +kernel
theorem dX9_reachBy_8 : decode cX9_reachBy 8 = .ok (.lcmp, 1) := by decide +kernel
theorem dX9_reachBy_9 : decode cX9_reachBy 9 = .ok (.ifCond .le 37, 3) := by decide +kernel
theorem dX9_reachBy_12 : decode cX9_reachBy 12 = .ok (.aload_n 0, 1) := by decide +kernel
theorem dX9_reachBy_13 : decode cX9_reachBy 13 = .ok (.iload_n 1, 1) := by decide +kernel
theorem dX9_reachBy_14 : decode cX9_reachBy 14 = .ok (.invokevirtual 137, 3) := by decide +kernel
theorem dX9_reachBy_17 : decode cX9_reachBy 17 = .ok (.lload_n 2, 1) := by decide +kernel
theorem dX9_reachBy_18 : decode cX9_reachBy 18 = .ok (.lload 4, 2) := by decide +kernel
theorem dX9_reachBy_20 : decode cX9_reachBy 20 = .ok (.lmul, 1) := by decide +kernel
theorem dX9_reachBy_21 : decode cX9_reachBy 21 = .ok (.ldc2_w 76, 3) := by decide +kernel
theorem dX9_reachBy_24 : decode cX9_reachBy 24 = .ok (.invokestatic 115, 3) := by decide +kernel
theorem dX9_reachBy_27 : decode cX9_reachBy 27 = .ok (.ladd, 1) := by decide +kernel
theorem dX9_reachBy_28 : decode cX9_reachBy 28 = .ok (.aload_n 0, 1) := by decide +kernel
theorem dX9_reachBy_29 : decode cX9_reachBy 29 = .ok (.iload_n 1, 1) := by decide +kernel
theorem dX9_reachBy_30 : decode cX9_reachBy 30 = .ok (.invokevirtual 140, 3) := by decide +kernel
theorem dX9_reachBy_33 : decode cX9_reachBy 33 = .ok (.lcmp, 1) := by decide +kernel
theorem dX9_reachBy_34 : decode cX9_reachBy 34 = .ok (.ifCond .le 12, 3) := by decide +kernel
theorem dX9_reachBy_37 : decode cX9_reachBy 37 = .ok (.lload 4, 2) := by decide +kernel
theorem dX9_reachBy_39 : decode cX9_reachBy 39 = .ok (.lconst 1, 1) := by decide +kernel
theorem dX9_reachBy_40 : decode cX9_reachBy 40 = .ok (.lsub, 1) := by decide +kernel
theorem dX9_reachBy_41 : decode cX9_reachBy 41 = .ok (.lstore 4, 2) := by decide +kernel
theorem dX9_reachBy_43 : decode cX9_reachBy 43 = .ok (.goto (-38), 3) := by decide +kernel
theorem dX9_reachBy_46 : decode cX9_reachBy 46 = .ok (.lload 4, 2) := by decide +kernel
theorem dX9_reachBy_48 : decode cX9_reachBy 48 = .ok (.lreturn, 1) := by decide +kernel
theorem dX9_goodAhead_0 : decode cX9_goodAhead 0 = .ok (.iload_n 1, 1) := by decide +kernel
theorem dX9_goodAhead_1 : decode cX9_goodAhead 1 = .ok (.iconst 1, 1) := by decide +kernel
theorem dX9_goodAhead_2 : decode cX9_goodAhead 2 = .ok (.isub, 1) := by decide +kernel
theorem dX9_goodAhead_3 : decode cX9_goodAhead 3 = .ok (.istore_n 2, 1) := by decide +kernel
theorem dX9_goodAhead_4 : decode cX9_goodAhead 4 = .ok (.iload_n 2, 1) := by decide +kernel
theorem dX9_goodAhead_5 : decode cX9_goodAhead 5 = .ok (.ifCond .lt 35, 3) := by decide +kernel
theorem dX9_goodAhead_8 : decode cX9_goodAhead 8 = .ok (.aload_n 0, 1) := by decide +kernel
theorem dX9_goodAhead_9 : decode cX9_goodAhead 9 = .ok (.iload_n 2, 1) := by decide +kernel
theorem dX9_goodAhead_10 : decode cX9_goodAhead 10 = .ok (.iconst 0, 1) := by decide +kernel
theorem dX9_goodAhead_11 : decode cX9_goodAhead 11 = .ok (.invokevirtual 99, 3) := by decide +kernel
theorem dX9_goodAhead_14 : decode cX9_goodAhead 14 = .ok (.aload_n 0, 1) := by decide +kernel
theorem dX9_goodAhead_15 : decode cX9_goodAhead 15 = .ok (.iload_n 1, 1) := by decide +kernel
theorem dX9_goodAhead_16 : decode cX9_goodAhead 16 = .ok (.iconst 0, 1) := by decide +kernel
theorem dX9_goodAhead_17 : decode cX9_goodAhead 17 = .ok (.invokevirtual 99, 3) := by decide +kernel
theorem dX9_goodAhead_20 : decode cX9_goodAhead 20 = .ok (.lcmp, 1) := by decide +kernel
theorem dX9_goodAhead_21 : decode cX9_goodAhead 21 = .ok (.ifCond .ne 13, 3) := by decide +kernel
theorem dX9_goodAhead_24 : decode cX9_goodAhead 24 = .ok (.aload_n 0, 1) := by decide +kernel
theorem dX9_goodAhead_25 : decode cX9_goodAhead 25 = .ok (.iload_n 2, 1) := by decide +kernel
theorem dX9_goodAhead_26 : decode cX9_goodAhead 26 = .ok (.invokevirtual 130, 3) := by decide +kernel
theorem dX9_goodAhead_29 : decode cX9_goodAhead 29 = .ok (.ifCond .eq 5, 3) := by decide +kernel
theorem dX9_goodAhead_32 : decode cX9_goodAhead 32 = .ok (.iload_n 2, 1) := by decide +kernel
theorem dX9_goodAhead_33 : decode cX9_goodAhead 33 = .ok (.ireturn, 1) := by decide +kernel
theorem dX9_goodAhead_34 : decode cX9_goodAhead 34 = .ok (.iinc 2 (-1), 3) := by decide +kernel
theorem dX9_goodAhead_37 : decode cX9_goodAhead 37 = .ok (.goto (-33), 3) := by decide +kernel
theorem dX9_goodAhead_40 : decode cX9_goodAhead 40 = .ok (.iconst (-1), 1) := by decide +kernel
theorem dX9_goodAhead_41 : decode cX9_goodAhead 41 = .ok (.ireturn, 1) := by decide +kernel
theorem dX9_rateOf_0 : decode cX9_rateOf 0 = .ok (.aload_n 0, 1) := by decide +kernel
theorem dX9_rateOf_1 : decode cX9_rateOf 1 = .ok (.iload_n 1, 1) := by decide +kernel
theorem dX9_rateOf_2 : decode cX9_rateOf 2 = .ok (.invokevirtual 143, 3) := by decide +kernel
theorem dX9_rateOf_5 : decode cX9_rateOf 5 = .ok (.istore_n 2, 1) := by decide +kernel
theorem dX9_rateOf_6 : decode cX9_rateOf 6 = .ok (.iload_n 2, 1) := by decide +kernel
theorem dX9_rateOf_7 : decode cX9_rateOf 7 = .ok (.iconst (-1), 1) := by decide +kernel
theorem dX9_rateOf_8 : decode cX9_rateOf 8 = .ok (.if_icmp .ne 16, 3) := by decide +kernel
theorem dX9_rateOf_11 : decode cX9_rateOf 11 = .ok (.aload_n 0, 1) := by decide +kernel
theorem dX9_rateOf_12 : decode cX9_rateOf 12 = .ok (.aload_n 0, 1) := by decide +kernel
theorem dX9_rateOf_13 : decode cX9_rateOf 13 = .ok (.iload_n 1, 1) := by decide +kernel
theorem dX9_rateOf_14 : decode cX9_rateOf 14 = .ok (.iconst 0, 1) := by decide +kernel
theorem dX9_rateOf_15 : decode cX9_rateOf 15 = .ok (.invokevirtual 99, 3) := by decide +kernel
theorem dX9_rateOf_18 : decode cX9_rateOf 18 = .ok (.l2i, 1) := by decide +kernel
theorem dX9_rateOf_19 : decode cX9_rateOf 19 = .ok (.iconst 3, 1) := by decide +kernel
theorem dX9_rateOf_20 : decode cX9_rateOf 20 = .ok (.invokevirtual 90, 3) := by decide +kernel
theorem dX9_rateOf_23 : decode cX9_rateOf 23 = .ok (.lreturn, 1) := by decide +kernel
theorem dX9_rateOf_24 : decode cX9_rateOf 24 = .ok (.aload_n 0, 1) := by decide +kernel
theorem dX9_rateOf_25 : decode cX9_rateOf 25 = .ok (.iload_n 1, 1) := by decide +kernel
theorem dX9_rateOf_26 : decode cX9_rateOf 26 = .ok (.iconst 3, 1) := by decide +kernel
theorem dX9_rateOf_27 : decode cX9_rateOf 27 = .ok (.invokevirtual 99, 3) := by decide +kernel
theorem dX9_rateOf_30 : decode cX9_rateOf 30 = .ok (.aload_n 0, 1) := by decide +kernel
theorem dX9_rateOf_31 : decode cX9_rateOf 31 = .ok (.iload_n 2, 1) := by decide +kernel
theorem dX9_rateOf_32 : decode cX9_rateOf 32 = .ok (.iconst 3, 1) := by decide +kernel
theorem dX9_rateOf_33 : decode cX9_rateOf 33 = .ok (.invokevirtual 99, 3) := by decide +kernel
theorem dX9_rateOf_36 : decode cX9_rateOf 36 = .ok (.lsub, 1) := by decide +kernel
theorem dX9_rateOf_37 : decode cX9_rateOf 37 = .ok (.lstore_n 3, 1) := by decide +kernel
theorem dX9_rateOf_38 : decode cX9_rateOf 38 = .ok (.aload_n 0, 1) := by decide +kernel
theorem dX9_rateOf_39 : decode cX9_rateOf 39 = .ok (.iload_n 1, 1) := by decide +kernel
theorem dX9_rateOf_40 : decode cX9_rateOf 40 = .ok (.iconst 4, 1) := by decide +kernel
theorem dX9_rateOf_41 : decode cX9_rateOf 41 = .ok (.invokevirtual 99, 3) := by decide +kernel
theorem dX9_rateOf_44 : decode cX9_rateOf 44 = .ok (.aload_n 0, 1) := by decide +kernel
theorem dX9_rateOf_45 : decode cX9_rateOf 45 = .ok (.iload_n 2, 1) := by decide +kernel
theorem dX9_rateOf_46 : decode cX9_rateOf 46 = .ok (.iconst 4, 1) := by decide +kernel
theorem dX9_rateOf_47 : decode cX9_rateOf 47 = .ok (.invokevirtual 99, 3) := by decide +kernel
theorem dX9_rateOf_50 : decode cX9_rateOf 50 = .ok (.lsub, 1) := by decide +kernel
theorem dX9_rateOf_51 : decode cX9_rateOf 51 = .ok (.invokestatic 133, 3) := by decide +kernel
theorem dX9_rateOf_54 : decode cX9_rateOf 54 = .ok (.ldc2_w 76, 3) := by decide +kernel
theorem dX9_rateOf_57 : decode cX9_rateOf 57 = .ok (.lmul, 1) := by decide +kernel
theorem dX9_rateOf_58 : decode cX9_rateOf 58 = .ok (.lload_n 3, 1) := by decide +kernel
theorem dX9_rateOf_59 : decode cX9_rateOf 59 = .ok (.lconst 0, 1) := by decide +kernel
theorem dX9_rateOf_60 : decode cX9_rateOf 60 = .ok (.lcmp, 1) := by decide +kernel
theorem dX9_rateOf_61 : decode cX9_rateOf 61 = .ok (.ifCond .ne 7, 3) := by decide +kernel
theorem dX9_rateOf_64 : decode cX9_rateOf 64 = .ok (.lconst 1, 1) := by decide +kernel
theorem dX9_rateOf_65 : decode cX9_rateOf 65 = .ok (.goto 4, 3) := by decide +kernel
theorem dX9_rateOf_68 : decode cX9_rateOf 68 = .ok (.lload_n 3, 1) := by decide +kernel
theorem dX9_rateOf_69 : decode cX9_rateOf 69 = .ok (.invokestatic 115, 3) := by decide +kernel
theorem dX9_rateOf_72 : decode cX9_rateOf 72 = .ok (.lreturn, 1) := by decide +kernel
theorem dX9_interval_0 : decode cX9_interval 0 = .ok (.aload_n 0, 1) := by decide +kernel
theorem dX9_interval_1 : decode cX9_interval 1 = .ok (.iload_n 1, 1) := by decide +kernel
theorem dX9_interval_2 : decode cX9_interval 2 = .ok (.iconst 0, 1) := by decide +kernel
theorem dX9_interval_3 : decode cX9_interval 3 = .ok (.invokevirtual 99, 3) := by decide +kernel
theorem dX9_interval_6 : decode cX9_interval 6 = .ok (.l2i, 1) := by decide +kernel
theorem dX9_interval_7 : decode cX9_interval 7 = .ok (.istore_n 2, 1) := by decide +kernel
theorem dX9_interval_8 : decode cX9_interval 8 = .ok (.aload_n 0, 1) := by decide +kernel
theorem dX9_interval_9 : decode cX9_interval 9 = .ok (.iload_n 2, 1) := by decide +kernel
theorem dX9_interval_10 : decode cX9_interval 10 = .ok (.iconst 4, 1) := by decide +kernel
theorem dX9_interval_11 : decode cX9_interval 11 = .ok (.invokevirtual 90, 3) := by decide +kernel
theorem dX9_interval_14 : decode cX9_interval 14 = .ok (.lstore_n 3, 1) := by decide +kernel
theorem dX9_interval_15 : decode cX9_interval 15 = .ok (.lload_n 3, 1) := by decide +kernel
theorem dX9_interval_16 : decode cX9_interval 16 = .ok (.lconst 0, 1) := by decide +kernel
theorem dX9_interval_17 : decode cX9_interval 17 = .ok (.lcmp, 1) := by decide +kernel
theorem dX9_interval_18 : decode cX9_interval 18 = .ok (.ifCond .ne 10, 3) := by decide +kernel
theorem dX9_interval_21 : decode cX9_interval 21 = .ok (.aload_n 0, 1) := by decide +kernel
theorem dX9_interval_22 : decode cX9_interval 22 = .ok (.iload_n 2, 1) := by decide +kernel
theorem dX9_interval_23 : decode cX9_interval 23 = .ok (.iconst 5, 1) := by decide +kernel
theorem dX9_interval_24 : decode cX9_interval 24 = .ok (.invokevirtual 90, 3) := by decide +kernel
theorem dX9_interval_27 : decode cX9_interval 27 = .ok (.lreturn, 1) := by decide +kernel
theorem dX9_interval_28 : decode cX9_interval 28 = .ok (.lload_n 3, 1) := by decide +kernel
theorem dX9_interval_29 : decode cX9_interval 29 = .ok (.ldc2_w 61, 3) := by decide +kernel
theorem dX9_interval_32 : decode cX9_interval 32 = .ok (.lcmp, 1) := by decide +kernel
theorem dX9_interval_33 : decode cX9_interval 33 = .ok (.ifCond .ge 29, 3) := by decide +kernel
theorem dX9_interval_36 : decode cX9_interval 36 = .ok (.aload_n 0, 1) := by decide +kernel
theorem dX9_interval_37 : decode cX9_interval 37 = .ok (.iload_n 1, 1) := by decide +kernel
theorem dX9_interval_38 : decode cX9_interval 38 = .ok (.lload_n 3, 1) := by decide +kernel
theorem dX9_interval_39 : decode cX9_interval 39 = .ok (.lconst 1, 1) := by decide +kernel
theorem dX9_interval_40 : decode cX9_interval 40 = .ok (.lcmp, 1) := by decide +kernel
theorem dX9_interval_41 : decode cX9_interval 41 = .ok (.ifCond .ne 12, 3) := by decide +kernel
theorem dX9_interval_44 : decode cX9_interval 44 = .ok (.aload_n 0, 1) := by decide +kernel
theorem dX9_interval_45 : decode cX9_interval 45 = .ok (.iload_n 2, 1) := by decide +kernel
theorem dX9_interval_46 : decode cX9_interval 46 = .ok (.iconst 3, 1) := by decide +kernel
theorem dX9_interval_47 : decode cX9_interval 47 = .ok (.invokevirtual 90, 3) := by decide +kernel
theorem dX9_interval_50 : decode cX9_interval 50 = .ok (.goto 8, 3) := by decide +kernel
theorem dX9_interval_53 : decode cX9_interval 53 = .ok (.aload_n 0, 1) := by decide +kernel
theorem dX9_interval_54 : decode cX9_interval 54 = .ok (.iload_n 1, 1) := by decide +kernel
theorem dX9_interval_55 : decode cX9_interval 55 = .ok (.invokevirtual 146, 3) := by decide +kernel
theorem dX9_interval_58 : decode cX9_interval 58 = .ok (.invokevirtual 149, 3) := by decide +kernel
theorem dX9_interval_61 : decode cX9_interval 61 = .ok (.lreturn, 1) := by decide +kernel
theorem dX9_interval_62 : decode cX9_interval 62 = .ok (.aload_n 0, 1) := by decide +kernel
theorem dX9_interval_63 : decode cX9_interval 63 = .ok (.iload_n 2, 1) := by decide +kernel
theorem dX9_interval_64 : decode cX9_interval 64 = .ok (.iconst 5, 1) := by decide +kernel
theorem dX9_interval_65 : decode cX9_interval 65 = .ok (.invokevirtual 90, 3) := by decide +kernel
theorem dX9_interval_68 : decode cX9_interval 68 = .ok (.lstore 5, 2) := by decide +kernel
theorem dX9_interval_70 : decode cX9_interval 70 = .ok (.iconst 0, 1) := by decide +kernel
theorem dX9_interval_71 : decode cX9_interval 71 = .ok (.istore 7, 2) := by decide +kernel
theorem dX9_interval_73 : decode cX9_interval 73 = .ok (.iload 7, 2) := by decide +kernel
theorem dX9_interval_75 : decode cX9_interval 75 = .ok (.iload_n 1, 1) := by decide +kernel
theorem dX9_interval_76 : decode cX9_interval 76 = .ok (.if_icmp .gt 93, 3) := by decide +kernel
theorem dX9_interval_79 : decode cX9_interval 79 = .ok (.iload 7, 2) := by decide +kernel
theorem dX9_interval_81 : decode cX9_interval 81 = .ok (.iload_n 1, 1) := by decide +kernel
theorem dX9_interval_82 : decode cX9_interval 82 = .ok (.if_icmp .eq 25, 3) := by decide +kernel
theorem dX9_interval_85 : decode cX9_interval 85 = .ok (.aload_n 0, 1) := by decide +kernel
theorem dX9_interval_86 : decode cX9_interval 86 = .ok (.iload 7, 2) := by decide +kernel
theorem dX9_interval_88 : decode cX9_interval 88 = .ok (.iconst 0, 1) := by decide +kernel
theorem dX9_interval_89 : decode cX9_interval 89 = .ok (.invokevirtual 99, 3) := by decide +kernel
theorem dX9_interval_92 : decode cX9_interval 92 = .ok (.iload_n 2, 1) := by decide +kernel
theorem dX9_interval_93 : decode cX9_interval 93 = .ok (.i2l, 1) := by decide +kernel
theorem dX9_interval_94 : decode cX9_interval 94 = .ok (.lcmp, 1) := by decide +kernel
theorem dX9_interval_95 : decode cX9_interval 95 = .ok (.ifCond .ne 68, 3) := by decide +kernel
theorem dX9_interval_98 : decode cX9_interval 98 = .ok (.aload_n 0, 1) := by decide +kernel
theorem dX9_interval_99 : decode cX9_interval 99 = .ok (.iload 7, 2) := by decide +kernel
theorem dX9_interval_101 : decode cX9_interval 101 = .ok (.invokevirtual 130, 3) := by decide +kernel
theorem dX9_interval_104 : decode cX9_interval 104 = .ok (.ifCond .eq 59, 3) := by decide +kernel
theorem dX9_interval_107 : decode cX9_interval 107 = .ok (.aload_n 0, 1) := by decide +kernel
theorem dX9_interval_108 : decode cX9_interval 108 = .ok (.iload 7, 2) := by decide +kernel
theorem dX9_interval_110 : decode cX9_interval 110 = .ok (.invokevirtual 153, 3) := by decide +kernel
theorem dX9_interval_113 : decode cX9_interval 113 = .ok (.ifCond .eq 12, 3) := by decide +kernel
theorem dX9_interval_116 : decode cX9_interval 116 = .ok (.ldc2_w 59, 3) := by decide +kernel
theorem dX9_interval_119 : decode cX9_interval 119 = .ok (.lload 5, 2) := by decide +kernel
theorem dX9_interval_121 : decode cX9_interval 121 = .ok (.lmul, 1) := by decide +kernel
theorem dX9_interval_122 : decode cX9_interval 122 = .ok (.goto 9, 3) := by decide +kernel
theorem dX9_interval_125 : decode cX9_interval 125 = .ok (.lload 5, 2) := by decide +kernel
theorem dX9_interval_127 : decode cX9_interval 127 = .ok (.ldc2_w 59, 3) := by decide +kernel
theorem dX9_interval_130 : decode cX9_interval 130 = .ok (.ldiv, 1) := by decide +kernel
theorem dX9_interval_131 : decode cX9_interval 131 = .ok (.lstore 5, 2) := by decide +kernel
theorem dX9_interval_133 : decode cX9_interval 133 = .ok (.lload 5, 2) := by decide +kernel
theorem dX9_interval_135 : decode cX9_interval 135 = .ok (.ldc2_w 67, 3) := by decide +kernel
theorem dX9_interval_138 : decode cX9_interval 138 = .ok (.lcmp, 1) := by decide +kernel
theorem dX9_interval_139 : decode cX9_interval 139 = .ok (.ifCond .le 9, 3) := by decide +kernel
theorem dX9_interval_142 : decode cX9_interval 142 = .ok (.ldc2_w 67, 3) := by decide +kernel
theorem dX9_interval_145 : decode cX9_interval 145 = .ok (.goto 16, 3) := by decide +kernel
theorem dX9_interval_148 : decode cX9_interval 148 = .ok (.lload 5, 2) := by decide +kernel
theorem dX9_interval_150 : decode cX9_interval 150 = .ok (.lconst 1, 1) := by decide +kernel
theorem dX9_interval_151 : decode cX9_interval 151 = .ok (.lcmp, 1) := by decide +kernel
theorem dX9_interval_152 : decode cX9_interval 152 = .ok (.ifCond .ge 7, 3) := by decide +kernel
theorem dX9_interval_155 : decode cX9_interval 155 = .ok (.lconst 1, 1) := by decide +kernel
theorem dX9_interval_156 : decode cX9_interval 156 = .ok (.goto 5, 3) := by decide +kernel
theorem dX9_interval_159 : decode cX9_interval 159 = .ok (.lload 5, 2) := by decide +kernel
theorem dX9_interval_161 : decode cX9_interval 161 = .ok (.lstore 5, 2) := by decide +kernel
theorem dX9_interval_163 : decode cX9_interval 163 = .ok (.iinc 7 1, 3) := by decide +kernel
theorem dX9_interval_166 : decode cX9_interval 166 = .ok (.goto (-93), 3) := by decide +kernel
theorem dX9_interval_169 : decode cX9_interval 169 = .ok (.lload 5, 2) := by decide +kernel
theorem dX9_interval_171 : decode cX9_interval 171 = .ok (.lreturn, 1) := by decide +kernel
theorem dX9_dueDay_0 : decode cX9_dueDay 0 = .ok (.aload_n 0, 1) := by decide +kernel
theorem dX9_dueDay_1 : decode cX9_dueDay 1 = .ok (.iload_n 1, 1) := by decide +kernel
theorem dX9_dueDay_2 : decode cX9_dueDay 2 = .ok (.iconst 3, 1) := by decide +kernel
theorem dX9_dueDay_3 : decode cX9_dueDay 3 = .ok (.invokevirtual 99, 3) := by decide +kernel
theorem dX9_dueDay_6 : decode cX9_dueDay 6 = .ok (.aload_n 0, 1) := by decide +kernel
theorem dX9_dueDay_7 : decode cX9_dueDay 7 = .ok (.iload_n 1, 1) := by decide +kernel
theorem dX9_dueDay_8 : decode cX9_dueDay 8 = .ok (.invokevirtual 156, 3) := by decide +kernel
theorem dX9_dueDay_11 : decode cX9_dueDay 11 = .ok (.ladd, 1) := by decide +kernel
theorem dX9_dueDay_12 : decode cX9_dueDay 12 = .ok (.lreturn, 1) := by decide +kernel
theorem dX9_isOverdue_0 : decode cX9_isOverdue 0 = .ok (.aload_n 0, 1) := by decide +kernel
theorem dX9_isOverdue_1 : decode cX9_isOverdue 1 = .ok (.getfield 9, 3) := by decide +kernel
theorem dX9_isOverdue_4 : decode cX9_isOverdue 4 = .ok (.iconst 0, 1) := by decide +kernel
theorem dX9_isOverdue_5 : decode cX9_isOverdue 5 = .ok (.laload, 1) := by decide +kernel
theorem dX9_isOverdue_6 : decode cX9_isOverdue 6 = .ok (.aload_n 0, 1) := by decide +kernel
theorem dX9_isOverdue_7 : decode cX9_isOverdue 7 = .ok (.iload_n 1, 1) := by decide +kernel
theorem dX9_isOverdue_8 : decode cX9_isOverdue 8 = .ok (.invokevirtual 104, 3) := by decide +kernel
theorem dX9_isOverdue_11 : decode cX9_isOverdue 11 = .ok (.lcmp, 1) := by decide +kernel
theorem dX9_isOverdue_12 : decode cX9_isOverdue 12 = .ok (.ifCond .le 7, 3) := by decide +kernel
theorem dX9_isOverdue_15 : decode cX9_isOverdue 15 = .ok (.iconst 1, 1) := by decide +kernel
theorem dX9_isOverdue_16 : decode cX9_isOverdue 16 = .ok (.goto 4, 3) := by decide +kernel
theorem dX9_isOverdue_19 : decode cX9_isOverdue 19 = .ok (.iconst 0, 1) := by decide +kernel
theorem dX9_isOverdue_20 : decode cX9_isOverdue 20 = .ok (.ireturn, 1) := by decide +kernel
theorem dX9_whyNot_0 : decode cX9_whyNot 0 = .ok (.aload_n 0, 1) := by decide +kernel
theorem dX9_whyNot_1 : decode cX9_whyNot 1 = .ok (.iload_n 1, 1) := by decide +kernel
theorem dX9_whyNot_2 : decode cX9_whyNot 2 = .ok (.iconst 0, 1) := by decide +kernel
theorem dX9_whyNot_3 : decode cX9_whyNot 3 = .ok (.invokevirtual 90, 3) := by decide +kernel
theorem dX9_whyNot_6 : decode cX9_whyNot 6 = .ok (.lconst 0, 1) := by decide +kernel
theorem dX9_whyNot_7 : decode cX9_whyNot 7 = .ok (.lcmp, 1) := by decide +kernel
theorem dX9_whyNot_8 : decode cX9_whyNot 8 = .ok (.ifCond .eq 21, 3) := by decide +kernel
theorem dX9_whyNot_11 : decode cX9_whyNot 11 = .ok (.aload_n 0, 1) := by decide +kernel
theorem dX9_whyNot_12 : decode cX9_whyNot 12 = .ok (.iload_n 2, 1) := by decide +kernel
theorem dX9_whyNot_13 : decode cX9_whyNot 13 = .ok (.iconst 0, 1) := by decide +kernel
theorem dX9_whyNot_14 : decode cX9_whyNot 14 = .ok (.invokevirtual 90, 3) := by decide +kernel
theorem dX9_whyNot_17 : decode cX9_whyNot 17 = .ok (.ldc2_w 59, 3) := by decide +kernel
theorem dX9_whyNot_20 : decode cX9_whyNot 20 = .ok (.lcmp, 1) := by decide +kernel
theorem dX9_whyNot_21 : decode cX9_whyNot 21 = .ok (.ifCond .eq 8, 3) := by decide +kernel
theorem dX9_whyNot_24 : decode cX9_whyNot 24 = .ok (.iload_n 1, 1) := by decide +kernel
theorem dX9_whyNot_25 : decode cX9_whyNot 25 = .ok (.iload_n 2, 1) := by decide +kernel
theorem dX9_whyNot_26 : decode cX9_whyNot 26 = .ok (.if_icmp .ne 5, 3) := by decide +kernel
theorem dX9_whyNot_29 : decode cX9_whyNot 29 = .ok (.iconst 1, 1) := by decide +kernel
theorem dX9_whyNot_30 : decode cX9_whyNot 30 = .ok (.ireturn, 1) := by decide +kernel
theorem dX9_whyNot_31 : decode cX9_whyNot 31 = .ok (.aload_n 0, 1) := by decide +kernel
theorem dX9_whyNot_32 : decode cX9_whyNot 32 = .ok (.iload_n 1, 1) := by decide +kernel
theorem dX9_whyNot_33 : decode cX9_whyNot 33 = .ok (.iconst 1, 1) := by decide +kernel
theorem dX9_whyNot_34 : decode cX9_whyNot 34 = .ok (.invokevirtual 90, 3) := by decide +kernel
theorem dX9_whyNot_37 : decode cX9_whyNot 37 = .ok (.aload_n 0, 1) := by decide +kernel
theorem dX9_whyNot_38 : decode cX9_whyNot 38 = .ok (.iload_n 2, 1) := by decide +kernel
theorem dX9_whyNot_39 : decode cX9_whyNot 39 = .ok (.iconst 1, 1) := by decide +kernel
theorem dX9_whyNot_40 : decode cX9_whyNot 40 = .ok (.invokevirtual 90, 3) := by decide +kernel
theorem dX9_whyNot_43 : decode cX9_whyNot 43 = .ok (.lcmp, 1) := by decide +kernel
theorem dX9_whyNot_44 : decode cX9_whyNot 44 = .ok (.ifCond .eq 5, 3) := by decide +kernel
theorem dX9_whyNot_47 : decode cX9_whyNot 47 = .ok (.iconst 2, 1) := by decide +kernel
theorem dX9_whyNot_48 : decode cX9_whyNot 48 = .ok (.ireturn, 1) := by decide +kernel
theorem dX9_whyNot_49 : decode cX9_whyNot 49 = .ok (.aload_n 0, 1) := by decide +kernel
theorem dX9_whyNot_50 : decode cX9_whyNot 50 = .ok (.iload_n 2, 1) := by decide +kernel
theorem dX9_whyNot_51 : decode cX9_whyNot 51 = .ok (.iconst 0, 1) := by decide +kernel
theorem dX9_whyNot_52 : decode cX9_whyNot 52 = .ok (.invokevirtual 90, 3) := by decide +kernel
theorem dX9_whyNot_55 : decode cX9_whyNot 55 = .ok (.lconst 0, 1) := by decide +kernel
theorem dX9_whyNot_56 : decode cX9_whyNot 56 = .ok (.lcmp, 1) := by decide +kernel
theorem dX9_whyNot_57 : decode cX9_whyNot 57 = .ok (.ifCond .eq 33, 3) := by decide +kernel
theorem dX9_whyNot_60 : decode cX9_whyNot 60 = .ok (.aload_n 0, 1) := by decide +kernel
theorem dX9_whyNot_61 : decode cX9_whyNot 61 = .ok (.iload_n 2, 1) := by decide +kernel
theorem dX9_whyNot_62 : decode cX9_whyNot 62 = .ok (.invokevirtual 96, 3) := by decide +kernel
theorem dX9_whyNot_65 : decode cX9_whyNot 65 = .ok (.istore_n 3, 1) := by decide +kernel
theorem dX9_whyNot_66 : decode cX9_whyNot 66 = .ok (.iload_n 3, 1) := by decide +kernel
theorem dX9_whyNot_67 : decode cX9_whyNot 67 = .ok (.iconst (-1), 1) := by decide +kernel
theorem dX9_whyNot_68 : decode cX9_whyNot 68 = .ok (.if_icmp .eq 11, 3) := by decide +kernel
theorem dX9_whyNot_71 : decode cX9_whyNot 71 = .ok (.aload_n 0, 1) := by decide +kernel
theorem dX9_whyNot_72 : decode cX9_whyNot 72 = .ok (.iload_n 3, 1) := by decide +kernel
theorem dX9_whyNot_73 : decode cX9_whyNot 73 = .ok (.invokevirtual 108, 3) := by decide +kernel
theorem dX9_whyNot_76 : decode cX9_whyNot 76 = .ok (.ifCond .eq 14, 3) := by decide +kernel
theorem dX9_whyNot_79 : decode cX9_whyNot 79 = .ok (.iload_n 3, 1) := by decide +kernel
theorem dX9_whyNot_80 : decode cX9_whyNot 80 = .ok (.iconst (-1), 1) := by decide +kernel
theorem dX9_whyNot_81 : decode cX9_whyNot 81 = .ok (.if_icmp .ne 7, 3) := by decide +kernel
theorem dX9_whyNot_84 : decode cX9_whyNot 84 = .ok (.iconst 3, 1) := by decide +kernel
theorem dX9_whyNot_85 : decode cX9_whyNot 85 = .ok (.goto 4, 3) := by decide +kernel
theorem dX9_whyNot_88 : decode cX9_whyNot 88 = .ok (.iconst 4, 1) := by decide +kernel
theorem dX9_whyNot_89 : decode cX9_whyNot 89 = .ok (.ireturn, 1) := by decide +kernel
theorem dX9_whyNot_90 : decode cX9_whyNot 90 = .ok (.aload_n 0, 1) := by decide +kernel
theorem dX9_whyNot_91 : decode cX9_whyNot 91 = .ok (.getfield 9, 3) := by decide +kernel
theorem dX9_whyNot_94 : decode cX9_whyNot 94 = .ok (.iconst 2, 1) := by decide +kernel
theorem dX9_whyNot_95 : decode cX9_whyNot 95 = .ok (.laload, 1) := by decide +kernel
theorem dX9_whyNot_96 : decode cX9_whyNot 96 = .ok (.ldc2_w 159, 3) := by decide +kernel
theorem dX9_whyNot_99 : decode cX9_whyNot 99 = .ok (.lcmp, 1) := by decide +kernel
theorem dX9_whyNot_100 : decode cX9_whyNot 100 = .ok (.ifCond .ne 7, 3) := by decide +kernel
theorem dX9_whyNot_103 : decode cX9_whyNot 103 = .ok (.iconst 5, 1) := by decide +kernel
theorem dX9_whyNot_104 : decode cX9_whyNot 104 = .ok (.goto 4, 3) := by decide +kernel
theorem dX9_whyNot_107 : decode cX9_whyNot 107 = .ok (.iconst 0, 1) := by decide +kernel
theorem dX9_whyNot_108 : decode cX9_whyNot 108 = .ok (.ireturn, 1) := by decide +kernel
theorem dX9_growthBy_0 : decode cX9_growthBy 0 = .ok (.iload_n 2, 1) := by decide +kernel
theorem dX9_growthBy_1 : decode cX9_growthBy 1 = .ok (.iconst (-1), 1) := by decide +kernel
theorem dX9_growthBy_2 : decode cX9_growthBy 2 = .ok (.if_icmp .ne 5, 3) := by decide +kernel
theorem dX9_growthBy_5 : decode cX9_growthBy 5 = .ok (.lconst 0, 1) := by decide +kernel
theorem dX9_growthBy_6 : decode cX9_growthBy 6 = .ok (.lreturn, 1) := by decide +kernel
theorem dX9_growthBy_7 : decode cX9_growthBy 7 = .ok (.aload_n 0, 1) := by decide +kernel
theorem dX9_growthBy_8 : decode cX9_growthBy 8 = .ok (.iload_n 1, 1) := by decide +kernel
theorem dX9_growthBy_9 : decode cX9_growthBy 9 = .ok (.iconst 3, 1) := by decide +kernel
theorem dX9_growthBy_10 : decode cX9_growthBy 10 = .ok (.invokevirtual 90, 3) := by decide +kernel
theorem dX9_growthBy_13 : decode cX9_growthBy 13 = .ok (.aload_n 0, 1) := by decide +kernel
theorem dX9_growthBy_14 : decode cX9_growthBy 14 = .ok (.getfield 9, 3) := by decide +kernel
theorem dX9_growthBy_17 : decode cX9_growthBy 17 = .ok (.iconst 0, 1) := by decide +kernel
theorem dX9_growthBy_18 : decode cX9_growthBy 18 = .ok (.laload, 1) := by decide +kernel
theorem dX9_growthBy_19 : decode cX9_growthBy 19 = .ok (.aload_n 0, 1) := by decide +kernel
theorem dX9_growthBy_20 : decode cX9_growthBy 20 = .ok (.iload_n 2, 1) := by decide +kernel
theorem dX9_growthBy_21 : decode cX9_growthBy 21 = .ok (.iconst 3, 1) := by decide +kernel
theorem dX9_growthBy_22 : decode cX9_growthBy 22 = .ok (.invokevirtual 99, 3) := by decide +kernel
theorem dX9_growthBy_25 : decode cX9_growthBy 25 = .ok (.lsub, 1) := by decide +kernel
theorem dX9_growthBy_26 : decode cX9_growthBy 26 = .ok (.lmul, 1) := by decide +kernel
theorem dX9_growthBy_27 : decode cX9_growthBy 27 = .ok (.ldc2_w 76, 3) := by decide +kernel
theorem dX9_growthBy_30 : decode cX9_growthBy 30 = .ok (.invokestatic 115, 3) := by decide +kernel
theorem dX9_growthBy_33 : decode cX9_growthBy 33 = .ok (.lstore_n 3, 1) := by decide +kernel
theorem dX9_growthBy_34 : decode cX9_growthBy 34 = .ok (.lload_n 3, 1) := by decide +kernel
theorem dX9_growthBy_35 : decode cX9_growthBy 35 = .ok (.lload_n 3, 1) := by decide +kernel
theorem dX9_growthBy_36 : decode cX9_growthBy 36 = .ok (.lmul, 1) := by decide +kernel
theorem dX9_growthBy_37 : decode cX9_growthBy 37 = .ok (.lreturn, 1) := by decide +kernel
theorem dX9_sourceOf_0 : decode cX9_sourceOf 0 = .ok (.aload_n 0, 1) := by decide +kernel
theorem dX9_sourceOf_1 : decode cX9_sourceOf 1 = .ok (.iload_n 1, 1) := by decide +kernel
theorem dX9_sourceOf_2 : decode cX9_sourceOf 2 = .ok (.iconst 0, 1) := by decide +kernel
theorem dX9_sourceOf_3 : decode cX9_sourceOf 3 = .ok (.invokevirtual 90, 3) := by decide +kernel
theorem dX9_sourceOf_6 : decode cX9_sourceOf 6 = .ok (.lconst 0, 1) := by decide +kernel
theorem dX9_sourceOf_7 : decode cX9_sourceOf 7 = .ok (.lcmp, 1) := by decide +kernel
theorem dX9_sourceOf_8 : decode cX9_sourceOf 8 = .ok (.ifCond .ne 7, 3) := by decide +kernel
theorem dX9_sourceOf_11 : decode cX9_sourceOf 11 = .ok (.iconst (-1), 1) := by decide +kernel
theorem dX9_sourceOf_12 : decode cX9_sourceOf 12 = .ok (.goto 8, 3) := by decide +kernel
theorem dX9_sourceOf_15 : decode cX9_sourceOf 15 = .ok (.aload_n 0, 1) := by decide +kernel
theorem dX9_sourceOf_16 : decode cX9_sourceOf 16 = .ok (.iload_n 1, 1) := by decide +kernel
theorem dX9_sourceOf_17 : decode cX9_sourceOf 17 = .ok (.invokevirtual 96, 3) := by decide +kernel
theorem dX9_sourceOf_20 : decode cX9_sourceOf 20 = .ok (.ireturn, 1) := by decide +kernel
theorem dX9_varianceBy_0 : decode cX9_varianceBy 0 = .ok (.aload_n 0, 1) := by decide +kernel
theorem dX9_varianceBy_1 : decode cX9_varianceBy 1 = .ok (.iload_n 1, 1) := by decide +kernel
theorem dX9_varianceBy_2 : decode cX9_varianceBy 2 = .ok (.invokevirtual 161, 3) := by decide +kernel
theorem dX9_varianceBy_5 : decode cX9_varianceBy 5 = .ok (.istore_n 2, 1) := by decide +kernel
theorem dX9_varianceBy_6 : decode cX9_varianceBy 6 = .ok (.aload_n 0, 1) := by decide +kernel
theorem dX9_varianceBy_7 : decode cX9_varianceBy 7 = .ok (.iload_n 1, 1) := by decide +kernel
theorem dX9_varianceBy_8 : decode cX9_varianceBy 8 = .ok (.iconst 5, 1) := by decide +kernel
theorem dX9_varianceBy_9 : decode cX9_varianceBy 9 = .ok (.invokevirtual 90, 3) := by decide +kernel
theorem dX9_varianceBy_12 : decode cX9_varianceBy 12 = .ok (.lstore_n 3, 1) := by decide +kernel
theorem dX9_varianceBy_13 : decode cX9_varianceBy 13 = .ok (.aload_n 0, 1) := by decide +kernel
theorem dX9_varianceBy_14 : decode cX9_varianceBy 14 = .ok (.invokevirtual 119, 3) := by decide +kernel
theorem dX9_varianceBy_17 : decode cX9_varianceBy 17 = .ok (.aload_n 0, 1) := by decide +kernel
theorem dX9_varianceBy_18 : decode cX9_varianceBy 18 = .ok (.iload_n 1, 1) := by decide +kernel
theorem dX9_varianceBy_19 : decode cX9_varianceBy 19 = .ok (.iload_n 2, 1) := by decide +kernel
theorem dX9_varianceBy_20 : decode cX9_varianceBy 20 = .ok (.invokevirtual 164, 3) := by decide +kernel
theorem dX9_varianceBy_23 : decode cX9_varianceBy 23 = .ok (.ladd, 1) := by decide +kernel
theorem dX9_varianceBy_24 : decode cX9_varianceBy 24 = .ok (.iload_n 2, 1) := by decide +kernel
theorem dX9_varianceBy_25 : decode cX9_varianceBy 25 = .ok (.iconst (-1), 1) := by decide +kernel
theorem dX9_varianceBy_26 : decode cX9_varianceBy 26 = .ok (.if_icmp .ne 9, 3) := by decide +kernel
theorem dX9_varianceBy_29 : decode cX9_varianceBy 29 = .ok (.lload_n 3, 1) := by decide +kernel
theorem dX9_varianceBy_30 : decode cX9_varianceBy 30 = .ok (.lload_n 3, 1) := by decide +kernel
theorem dX9_varianceBy_31 : decode cX9_varianceBy 31 = .ok (.lmul, 1) := by decide +kernel
theorem dX9_varianceBy_32 : decode cX9_varianceBy 32 = .ok (.goto 10, 3) := by decide +kernel
theorem dX9_varianceBy_35 : decode cX9_varianceBy 35 = .ok (.aload_n 0, 1) := by decide +kernel
theorem dX9_varianceBy_36 : decode cX9_varianceBy 36 = .ok (.iload_n 2, 1) := by decide +kernel
theorem dX9_varianceBy_37 : decode cX9_varianceBy 37 = .ok (.bipush 7, 2) := by decide +kernel
theorem dX9_varianceBy_39 : decode cX9_varianceBy 39 = .ok (.invokevirtual 99, 3) := by decide +kernel
theorem dX9_varianceBy_42 : decode cX9_varianceBy 42 = .ok (.ladd, 1) := by decide +kernel
theorem dX9_varianceBy_43 : decode cX9_varianceBy 43 = .ok (.lreturn, 1) := by decide +kernel
theorem dX9_rootAbove_0 : decode cX9_rootAbove 0 = .ok (.lconst 0, 1) := by decide +kernel
theorem dX9_rootAbove_1 : decode cX9_rootAbove 1 = .ok (.lstore_n 2, 1) := by decide +kernel
theorem dX9_rootAbove_2 : decode cX9_rootAbove 2 = .ok (.ldc2_w 167, 3) := by decide +kernel
theorem dX9_rootAbove_5 : decode cX9_rootAbove 5 = .ok (.lstore 4, 2) := by decide +kernel
theorem dX9_rootAbove_7 : decode cX9_rootAbove 7 = .ok (.lload_n 2, 1) := by decide +kernel
theorem dX9_rootAbove_8 : decode cX9_rootAbove 8 = .ok (.lload 4, 2) := by decide +kernel
theorem dX9_rootAbove_10 : decode cX9_rootAbove 10 = .ok (.lcmp, 1) := by decide +kernel
theorem dX9_rootAbove_11 : decode cX9_rootAbove 11 = .ok (.ifCond .ge 38, 3) := by decide +kernel
theorem dX9_rootAbove_14 : decode cX9_rootAbove 14 = .ok (.lload_n 2, 1) := by decide +kernel
theorem dX9_rootAbove_15 : decode cX9_rootAbove 15 = .ok (.lload 4, 2) := by decide +kernel
theorem dX9_rootAbove_17 : decode cX9_rootAbove 17 = .ok (.ladd, 1) := by decide +kernel
theorem dX9_rootAbove_18 : decode cX9_rootAbove 18 = .ok (.ldc2_w 59, 3) := by decide +kernel
theorem dX9_rootAbove_21 : decode cX9_rootAbove 21 = .ok (.ldiv, 1) := by decide +kernel
theorem dX9_rootAbove_22 : decode cX9_rootAbove 22 = .ok (.lstore 6, 2) := by decide +kernel
theorem dX9_rootAbove_24 : decode cX9_rootAbove 24 = .ok (.lload 6, 2) := by decide +kernel
theorem dX9_rootAbove_26 : decode cX9_rootAbove 26 = .ok (.lload 6, 2) := by decide +kernel
theorem dX9_rootAbove_28 : decode cX9_rootAbove 28 = .ok (.lmul, 1) := by decide +kernel
theorem dX9_rootAbove_29 : decode cX9_rootAbove 29 = .ok (.lload_n 0, 1) := by decide +kernel
theorem dX9_rootAbove_30 : decode cX9_rootAbove 30 = .ok (.lcmp, 1) := by decide +kernel
theorem dX9_rootAbove_31 : decode cX9_rootAbove 31 = .ok (.ifCond .lt 10, 3) := by decide +kernel
theorem dX9_rootAbove_34 : decode cX9_rootAbove 34 = .ok (.lload 6, 2) := by decide +kernel
theorem dX9_rootAbove_36 : decode cX9_rootAbove 36 = .ok (.lstore 4, 2) := by decide +kernel
theorem dX9_rootAbove_38 : decode cX9_rootAbove 38 = .ok (.goto 8, 3) := by decide +kernel
theorem dX9_rootAbove_41 : decode cX9_rootAbove 41 = .ok (.lload 6, 2) := by decide +kernel
theorem dX9_rootAbove_43 : decode cX9_rootAbove 43 = .ok (.lconst 1, 1) := by decide +kernel
theorem dX9_rootAbove_44 : decode cX9_rootAbove 44 = .ok (.ladd, 1) := by decide +kernel
theorem dX9_rootAbove_45 : decode cX9_rootAbove 45 = .ok (.lstore_n 2, 1) := by decide +kernel
theorem dX9_rootAbove_46 : decode cX9_rootAbove 46 = .ok (.goto (-39), 3) := by decide +kernel
theorem dX9_rootAbove_49 : decode cX9_rootAbove 49 = .ok (.lload_n 2, 1) := by decide +kernel
theorem dX9_rootAbove_50 : decode cX9_rootAbove 50 = .ok (.lreturn, 1) := by decide +kernel
theorem dX9_refuses_0 : decode cX9_refuses 0 = .ok (.aload_n 0, 1) := by decide +kernel
theorem dX9_refuses_1 : decode cX9_refuses 1 = .ok (.iload_n 1, 1) := by decide +kernel
theorem dX9_refuses_2 : decode cX9_refuses 2 = .ok (.putfield 169, 3) := by decide +kernel
theorem dX9_refuses_5 : decode cX9_refuses 5 = .ok (.aload_n 0, 1) := by decide +kernel
theorem dX9_refuses_6 : decode cX9_refuses 6 = .ok (.iconst (-1), 1) := by decide +kernel
theorem dX9_refuses_7 : decode cX9_refuses 7 = .ok (.putfield 172, 3) := by decide +kernel
theorem dX9_refuses_10 : decode cX9_refuses 10 = .ok (.aload_n 0, 1) := by decide +kernel
theorem dX9_refuses_11 : decode cX9_refuses 11 = .ok (.iload_n 2, 1) := by decide +kernel
theorem dX9_refuses_12 : decode cX9_refuses 12 = .ok (.invokevirtual 63, 3) := by decide +kernel
theorem dX9_refuses_15 : decode cX9_refuses 15 = .ok (.ireturn, 1) := by decide +kernel
theorem dX9_calibrate_0 : decode cX9_calibrate 0 = .ok (.aload_n 0, 1) := by decide +kernel
theorem dX9_calibrate_1 : decode cX9_calibrate 1 = .ok (.iload_n 1, 1) := by decide +kernel
theorem dX9_calibrate_2 : decode cX9_calibrate 2 = .ok (.invokevirtual 82, 3) := by decide +kernel
theorem dX9_calibrate_5 : decode cX9_calibrate 5 = .ok (.ifCond .eq 11, 3) := by decide +kernel
theorem dX9_calibrate_8 : decode cX9_calibrate 8 = .ok (.aload_n 0, 1) := by decide +kernel
theorem dX9_calibrate_9 : decode cX9_calibrate 9 = .ok (.iload_n 2, 1) := by decide +kernel
theorem dX9_calibrate_10 : decode cX9_calibrate 10 = .ok (.invokevirtual 82, 3) := by decide +kernel
theorem dX9_calibrate_13 : decode cX9_calibrate 13 = .ok (.ifCond .ne 9, 3) := by decide +kernel
theorem dX9_calibrate_16 : decode cX9_calibrate 16 = .ok (.aload_n 0, 1) := by decide +kernel
theorem dX9_calibrate_17 : decode cX9_calibrate 17 = .ok (.iconst 1, 1) := by decide +kernel
theorem dX9_calibrate_18 : decode cX9_calibrate 18 = .ok (.invokevirtual 63, 3) := by decide +kernel
theorem dX9_calibrate_21 : decode cX9_calibrate 21 = .ok (.ireturn, 1) := by decide +kernel
theorem dX9_calibrate_22 : decode cX9_calibrate 22 = .ok (.iload_n 3, 1) := by decide +kernel
theorem dX9_calibrate_23 : decode cX9_calibrate 23 = .ok (.i2l, 1) := by decide +kernel
theorem dX9_calibrate_24 : decode cX9_calibrate 24 = .ok (.ldc2_w 175, 3) := by decide +kernel
theorem dX9_calibrate_27 : decode cX9_calibrate 27 = .ok (.ldc2_w 67, 3) := by decide +kernel
theorem dX9_calibrate_30 : decode cX9_calibrate 30 = .ok (.invokestatic 55, 3) := by decide +kernel
theorem dX9_calibrate_33 : decode cX9_calibrate 33 = .ok (.ifCond .ne 9, 3) := by decide +kernel
theorem dX9_calibrate_36 : decode cX9_calibrate 36 = .ok (.aload_n 0, 1) := by decide +kernel
theorem dX9_calibrate_37 : decode cX9_calibrate 37 = .ok (.iconst 2, 1) := by decide +kernel
theorem dX9_calibrate_38 : decode cX9_calibrate 38 = .ok (.invokevirtual 63, 3) := by decide +kernel
theorem dX9_calibrate_41 : decode cX9_calibrate 41 = .ok (.ireturn, 1) := by decide +kernel
theorem dX9_calibrate_42 : decode cX9_calibrate 42 = .ok (.aload_n 0, 1) := by decide +kernel
theorem dX9_calibrate_43 : decode cX9_calibrate 43 = .ok (.iload_n 1, 1) := by decide +kernel
theorem dX9_calibrate_44 : decode cX9_calibrate 44 = .ok (.iload_n 2, 1) := by decide +kernel
theorem dX9_calibrate_45 : decode cX9_calibrate 45 = .ok (.invokevirtual 177, 3) := by decide +kernel
theorem dX9_calibrate_48 : decode cX9_calibrate 48 = .ok (.istore 4, 2) := by decide +kernel
theorem dX9_calibrate_50 : decode cX9_calibrate 50 = .ok (.iload 4, 2) := by decide +kernel
theorem dX9_calibrate_52 : decode cX9_calibrate 52 = .ok (.ifCond .eq 11, 3) := by decide +kernel
theorem dX9_calibrate_55 : decode cX9_calibrate 55 = .ok (.aload_n 0, 1) := by decide +kernel
theorem dX9_calibrate_56 : decode cX9_calibrate 56 = .ok (.iload 4, 2) := by decide +kernel
theorem dX9_calibrate_58 : decode cX9_calibrate 58 = .ok (.iconst 3, 1) := by decide +kernel
theorem dX9_calibrate_59 : decode cX9_calibrate 59 = .ok (.invokevirtual 181, 3) := by decide +kernel
theorem dX9_calibrate_62 : decode cX9_calibrate 62 = .ok (.ireturn, 1) := by decide +kernel
theorem dX9_calibrate_63 : decode cX9_calibrate 63 = .ok (.aload_n 0, 1) := by decide +kernel
theorem dX9_calibrate_64 : decode cX9_calibrate 64 = .ok (.invokevirtual 73, 3) := by decide +kernel
theorem dX9_calibrate_67 : decode cX9_calibrate 67 = .ok (.aload_n 0, 1) := by decide +kernel
theorem dX9_calibrate_68 : decode cX9_calibrate 68 = .ok (.getfield 9, 3) := by decide +kernel
theorem dX9_calibrate_71 : decode cX9_calibrate 71 = .ok (.iconst 2, 1) := by decide +kernel
theorem dX9_calibrate_72 : decode cX9_calibrate 72 = .ok (.laload, 1) := by decide +kernel
theorem dX9_calibrate_73 : decode cX9_calibrate 73 = .ok (.l2i, 1) := by decide +kernel
theorem dX9_calibrate_74 : decode cX9_calibrate 74 = .ok (.istore 5, 2) := by decide +kernel
theorem dX9_calibrate_76 : decode cX9_calibrate 76 = .ok (.sipush 180, 3) := by decide +kernel
theorem dX9_calibrate_79 : decode cX9_calibrate 79 = .ok (.bipush 10, 2) := by decide +kernel
theorem dX9_calibrate_81 : decode cX9_calibrate 81 = .ok (.iload 5, 2) := by decide +kernel
theorem dX9_calibrate_83 : decode cX9_calibrate 83 = .ok (.imul, 1) := by decide +kernel
theorem dX9_calibrate_84 : decode cX9_calibrate 84 = .ok (.iadd, 1) := by decide +kernel
theorem dX9_calibrate_85 : decode cX9_calibrate 85 = .ok (.istore 6, 2) := by decide +kernel
theorem dX9_calibrate_87 : decode cX9_calibrate 87 = .ok (.aload_n 0, 1) := by decide +kernel
theorem dX9_calibrate_88 : decode cX9_calibrate 88 = .ok (.iload_n 2, 1) := by decide +kernel
theorem dX9_calibrate_89 : decode cX9_calibrate 89 = .ok (.invokevirtual 161, 3) := by decide +kernel
theorem dX9_calibrate_92 : decode cX9_calibrate 92 = .ok (.istore 7, 2) := by decide +kernel
theorem dX9_calibrate_94 : decode cX9_calibrate 94 = .ok (.aload_n 0, 1) := by decide +kernel
theorem dX9_calibrate_95 : decode cX9_calibrate 95 = .ok (.iload_n 2, 1) := by decide +kernel
theorem dX9_calibrate_96 : decode cX9_calibrate 96 = .ok (.iconst 5, 1) := by decide +kernel
theorem dX9_calibrate_97 : decode cX9_calibrate 97 = .ok (.invokevirtual 90, 3) := by decide +kernel
theorem dX9_calibrate_100 : decode cX9_calibrate 100 = .ok (.lstore 8, 2) := by decide +kernel
theorem dX9_calibrate_102 : decode cX9_calibrate 102 = .ok (.aload_n 0, 1) := by decide +kernel
theorem dX9_calibrate_103 : decode cX9_calibrate 103 = .ok (.getfield 9, 3) := by decide +kernel
theorem dX9_calibrate_106 : decode cX9_calibrate 106 = .ok (.iload 6, 2) := by decide +kernel
theorem dX9_calibrate_108 : decode cX9_calibrate 108 = .ok (.iconst 0, 1) := by decide +kernel
theorem dX9_calibrate_109 : decode cX9_calibrate 109 = .ok (.iadd, 1) := by decide +kernel
theorem dX9_calibrate_110 : decode cX9_calibrate 110 = .ok (.iload_n 1, 1) := by decide +kernel
theorem dX9_calibrate_111 : decode cX9_calibrate 111 = .ok (.i2l, 1) := by decide +kernel
theorem dX9_calibrate_112 : decode cX9_calibrate 112 = .ok (.lastore, 1) := by decide +kernel
theorem dX9_calibrate_113 : decode cX9_calibrate 113 = .ok (.aload_n 0, 1) := by decide +kernel
theorem dX9_calibrate_114 : decode cX9_calibrate 114 = .ok (.getfield 9, 3) := by decide +kernel
theorem dX9_calibrate_117 : decode cX9_calibrate 117 = .ok (.iload 6, 2) := by decide +kernel
theorem dX9_calibrate_119 : decode cX9_calibrate 119 = .ok (.iconst 1, 1) := by decide +kernel
theorem dX9_calibrate_120 : decode cX9_calibrate 120 = .ok (.iadd, 1) := by decide +kernel
theorem dX9_calibrate_121 : decode cX9_calibrate 121 = .ok (.iload_n 2, 1) := by decide +kernel
theorem dX9_calibrate_122 : decode cX9_calibrate 122 = .ok (.i2l, 1) := by decide +kernel
theorem dX9_calibrate_123 : decode cX9_calibrate 123 = .ok (.lastore, 1) := by decide +kernel
theorem dX9_calibrate_124 : decode cX9_calibrate 124 = .ok (.aload_n 0, 1) := by decide +kernel
theorem dX9_calibrate_125 : decode cX9_calibrate 125 = .ok (.getfield 9, 3) := by decide +kernel
theorem dX9_calibrate_128 : decode cX9_calibrate 128 = .ok (.iload 6, 2) := by decide +kernel
theorem dX9_calibrate_130 : decode cX9_calibrate 130 = .ok (.iconst 2, 1) := by decide +kernel
theorem dX9_calibrate_131 : decode cX9_calibrate 131 = .ok (.iadd, 1) := by decide +kernel
theorem dX9_calibrate_132 : decode cX9_calibrate 132 = .ok (.iload 7, 2) := by decide +kernel
theorem dX9_calibrate_134 : decode cX9_calibrate 134 = .ok (.i2l, 1) := by decide +kernel
theorem dX9_calibrate_135 : decode cX9_calibrate 135 = .ok (.lastore, 1) := by decide +kernel
theorem dX9_calibrate_136 : decode cX9_calibrate 136 = .ok (.aload_n 0, 1) := by decide +kernel
theorem dX9_calibrate_137 : decode cX9_calibrate 137 = .ok (.getfield 9, 3) := by decide +kernel
theorem dX9_calibrate_140 : decode cX9_calibrate 140 = .ok (.iload 6, 2) := by decide +kernel
theorem dX9_calibrate_142 : decode cX9_calibrate 142 = .ok (.iconst 3, 1) := by decide +kernel
theorem dX9_calibrate_143 : decode cX9_calibrate 143 = .ok (.iadd, 1) := by decide +kernel
theorem dX9_calibrate_144 : decode cX9_calibrate 144 = .ok (.aload_n 0, 1) := by decide +kernel
theorem dX9_calibrate_145 : decode cX9_calibrate 145 = .ok (.getfield 9, 3) := by decide +kernel
theorem dX9_calibrate_148 : decode cX9_calibrate 148 = .ok (.iconst 0, 1) := by decide +kernel
theorem dX9_calibrate_149 : decode cX9_calibrate 149 = .ok (.laload, 1) := by decide +kernel
theorem dX9_calibrate_150 : decode cX9_calibrate 150 = .ok (.lastore, 1) := by decide +kernel
theorem dX9_calibrate_151 : decode cX9_calibrate 151 = .ok (.aload_n 0, 1) := by decide +kernel
theorem dX9_calibrate_152 : decode cX9_calibrate 152 = .ok (.getfield 9, 3) := by decide +kernel
theorem dX9_calibrate_155 : decode cX9_calibrate 155 = .ok (.iload 6, 2) := by decide +kernel
theorem dX9_calibrate_157 : decode cX9_calibrate 157 = .ok (.iconst 4, 1) := by decide +kernel
theorem dX9_calibrate_158 : decode cX9_calibrate 158 = .ok (.iadd, 1) := by decide +kernel
theorem dX9_calibrate_159 : decode cX9_calibrate 159 = .ok (.iload_n 3, 1) := by decide +kernel
theorem dX9_calibrate_160 : decode cX9_calibrate 160 = .ok (.i2l, 1) := by decide +kernel
theorem dX9_calibrate_161 : decode cX9_calibrate 161 = .ok (.lastore, 1) := by decide +kernel
theorem dX9_calibrate_162 : decode cX9_calibrate 162 = .ok (.aload_n 0, 1) := by decide +kernel
theorem dX9_calibrate_163 : decode cX9_calibrate 163 = .ok (.getfield 9, 3) := by decide +kernel
theorem dX9_calibrate_166 : decode cX9_calibrate 166 = .ok (.iload 6, 2) := by decide +kernel
theorem dX9_calibrate_168 : decode cX9_calibrate 168 = .ok (.iconst 5, 1) := by decide +kernel
theorem dX9_calibrate_169 : decode cX9_calibrate 169 = .ok (.iadd, 1) := by decide +kernel
theorem dX9_calibrate_170 : decode cX9_calibrate 170 = .ok (.aload_n 0, 1) := by decide +kernel
theorem dX9_calibrate_171 : decode cX9_calibrate 171 = .ok (.invokevirtual 119, 3) := by decide +kernel
theorem dX9_calibrate_174 : decode cX9_calibrate 174 = .ok (.lastore, 1) := by decide +kernel
theorem dX9_calibrate_175 : decode cX9_calibrate 175 = .ok (.aload_n 0, 1) := by decide +kernel
theorem dX9_calibrate_176 : decode cX9_calibrate 176 = .ok (.getfield 9, 3) := by decide +kernel
theorem dX9_calibrate_179 : decode cX9_calibrate 179 = .ok (.iload 6, 2) := by decide +kernel
theorem dX9_calibrate_181 : decode cX9_calibrate 181 = .ok (.bipush 6, 2) := by decide +kernel
theorem dX9_calibrate_183 : decode cX9_calibrate 183 = .ok (.iadd, 1) := by decide +kernel
theorem dX9_calibrate_184 : decode cX9_calibrate 184 = .ok (.aload_n 0, 1) := by decide +kernel
theorem dX9_calibrate_185 : decode cX9_calibrate 185 = .ok (.iload_n 2, 1) := by decide +kernel
theorem dX9_calibrate_186 : decode cX9_calibrate 186 = .ok (.iload 7, 2) := by decide +kernel
theorem dX9_calibrate_188 : decode cX9_calibrate 188 = .ok (.invokevirtual 164, 3) := by decide +kernel
theorem dX9_calibrate_191 : decode cX9_calibrate 191 = .ok (.lastore, 1) := by decide +kernel
theorem dX9_calibrate_192 : decode cX9_calibrate 192 = .ok (.aload_n 0, 1) := by decide +kernel
theorem dX9_calibrate_193 : decode cX9_calibrate 193 = .ok (.getfield 9, 3) := by decide +kernel
theorem dX9_calibrate_196 : decode cX9_calibrate 196 = .ok (.iload 6, 2) := by decide +kernel
theorem dX9_calibrate_198 : decode cX9_calibrate 198 = .ok (.bipush 7, 2) := by decide +kernel
theorem dX9_calibrate_200 : decode cX9_calibrate 200 = .ok (.iadd, 1) := by decide +kernel
theorem dX9_calibrate_201 : decode cX9_calibrate 201 = .ok (.aload_n 0, 1) := by decide +kernel
theorem dX9_calibrate_202 : decode cX9_calibrate 202 = .ok (.iload_n 2, 1) := by decide +kernel
theorem dX9_calibrate_203 : decode cX9_calibrate 203 = .ok (.invokevirtual 184, 3) := by decide +kernel
theorem dX9_calibrate_206 : decode cX9_calibrate 206 = .ok (.lastore, 1) := by decide +kernel
theorem dX9_calibrate_207 : decode cX9_calibrate 207 = .ok (.aload_n 0, 1) := by decide +kernel
theorem dX9_calibrate_208 : decode cX9_calibrate 208 = .ok (.getfield 9, 3) := by decide +kernel
theorem dX9_calibrate_211 : decode cX9_calibrate 211 = .ok (.iload 6, 2) := by decide +kernel
theorem dX9_calibrate_213 : decode cX9_calibrate 213 = .ok (.bipush 8, 2) := by decide +kernel
theorem dX9_calibrate_215 : decode cX9_calibrate 215 = .ok (.iadd, 1) := by decide +kernel
theorem dX9_calibrate_216 : decode cX9_calibrate 216 = .ok (.aload_n 0, 1) := by decide +kernel
theorem dX9_calibrate_217 : decode cX9_calibrate 217 = .ok (.getfield 9, 3) := by decide +kernel
theorem dX9_calibrate_220 : decode cX9_calibrate 220 = .ok (.iload 6, 2) := by decide +kernel
theorem dX9_calibrate_222 : decode cX9_calibrate 222 = .ok (.bipush 7, 2) := by decide +kernel
theorem dX9_calibrate_224 : decode cX9_calibrate 224 = .ok (.iadd, 1) := by decide +kernel
theorem dX9_calibrate_225 : decode cX9_calibrate 225 = .ok (.laload, 1) := by decide +kernel
theorem dX9_calibrate_226 : decode cX9_calibrate 226 = .ok (.invokestatic 187, 3) := by decide +kernel
theorem dX9_calibrate_229 : decode cX9_calibrate 229 = .ok (.lastore, 1) := by decide +kernel
theorem dX9_calibrate_230 : decode cX9_calibrate 230 = .ok (.aload_n 0, 1) := by decide +kernel
theorem dX9_calibrate_231 : decode cX9_calibrate 231 = .ok (.getfield 9, 3) := by decide +kernel
theorem dX9_calibrate_234 : decode cX9_calibrate 234 = .ok (.iload 6, 2) := by decide +kernel
theorem dX9_calibrate_236 : decode cX9_calibrate 236 = .ok (.bipush 9, 2) := by decide +kernel
theorem dX9_calibrate_238 : decode cX9_calibrate 238 = .ok (.iadd, 1) := by decide +kernel
theorem dX9_calibrate_239 : decode cX9_calibrate 239 = .ok (.iload 7, 2) := by decide +kernel
theorem dX9_calibrate_241 : decode cX9_calibrate 241 = .ok (.iconst (-1), 1) := by decide +kernel
theorem dX9_calibrate_242 : decode cX9_calibrate 242 = .ok (.if_icmp .ne 11, 3) := by decide +kernel
theorem dX9_calibrate_245 : decode cX9_calibrate 245 = .ok (.lload 8, 2) := by decide +kernel
theorem dX9_calibrate_247 : decode cX9_calibrate 247 = .ok (.lload 8, 2) := by decide +kernel
theorem dX9_calibrate_249 : decode cX9_calibrate 249 = .ok (.lmul, 1) := by decide +kernel
theorem dX9_calibrate_250 : decode cX9_calibrate 250 = .ok (.goto 4, 3) := by decide +kernel
theorem dX9_calibrate_253 : decode cX9_calibrate 253 = .ok (.lconst 0, 1) := by decide +kernel
theorem dX9_calibrate_254 : decode cX9_calibrate 254 = .ok (.lastore, 1) := by decide +kernel
theorem dX9_calibrate_255 : decode cX9_calibrate 255 = .ok (.aload_n 0, 1) := by decide +kernel
theorem dX9_calibrate_256 : decode cX9_calibrate 256 = .ok (.getfield 9, 3) := by decide +kernel
theorem dX9_calibrate_259 : decode cX9_calibrate 259 = .ok (.bipush 10, 2) := by decide +kernel
theorem dX9_calibrate_261 : decode cX9_calibrate 261 = .ok (.bipush 8, 2) := by decide +kernel
theorem dX9_calibrate_263 : decode cX9_calibrate 263 = .ok (.iload_n 1, 1) := by decide +kernel
theorem dX9_calibrate_264 : decode cX9_calibrate 264 = .ok (.imul, 1) := by decide +kernel
theorem dX9_calibrate_265 : decode cX9_calibrate 265 = .ok (.iadd, 1) := by decide +kernel
theorem dX9_calibrate_266 : decode cX9_calibrate 266 = .ok (.bipush 6, 2) := by decide +kernel
theorem dX9_calibrate_268 : decode cX9_calibrate 268 = .ok (.iadd, 1) := by decide +kernel
theorem dX9_calibrate_269 : decode cX9_calibrate 269 = .ok (.dup2, 1) := by decide +kernel
theorem dX9_calibrate_270 : decode cX9_calibrate 270 = .ok (.laload, 1) := by decide +kernel
theorem dX9_calibrate_271 : decode cX9_calibrate 271 = .ok (.ldc2_w 190, 3) := by decide +kernel
theorem dX9_calibrate_274 : decode cX9_calibrate 274 = .ok (.ldc2_w 61, 3) := by decide +kernel
theorem dX9_calibrate_277 : decode cX9_calibrate 277 = .ok (.aload_n 0, 1) := by decide +kernel
theorem dX9_calibrate_278 : decode cX9_calibrate 278 = .ok (.getfield 9, 3) := by decide +kernel
theorem dX9_calibrate_281 : decode cX9_calibrate 281 = .ok (.iconst 3, 1) := by decide +kernel
theorem dX9_calibrate_282 : decode cX9_calibrate 282 = .ok (.laload, 1) := by decide +kernel
theorem dX9_calibrate_283 : decode cX9_calibrate 283 = .ok (.lmul, 1) := by decide +kernel
theorem dX9_calibrate_284 : decode cX9_calibrate 284 = .ok (.ladd, 1) := by decide +kernel
theorem dX9_calibrate_285 : decode cX9_calibrate 285 = .ok (.ladd, 1) := by decide +kernel
theorem dX9_calibrate_286 : decode cX9_calibrate 286 = .ok (.lastore, 1) := by decide +kernel
theorem dX9_calibrate_287 : decode cX9_calibrate 287 = .ok (.aload_n 0, 1) := by decide +kernel
theorem dX9_calibrate_288 : decode cX9_calibrate 288 = .ok (.getfield 9, 3) := by decide +kernel
theorem dX9_calibrate_291 : decode cX9_calibrate 291 = .ok (.iconst 3, 1) := by decide +kernel
theorem dX9_calibrate_292 : decode cX9_calibrate 292 = .ok (.lconst 0, 1) := by decide +kernel
theorem dX9_calibrate_293 : decode cX9_calibrate 293 = .ok (.lastore, 1) := by decide +kernel
theorem dX9_calibrate_294 : decode cX9_calibrate 294 = .ok (.aload_n 0, 1) := by decide +kernel
theorem dX9_calibrate_295 : decode cX9_calibrate 295 = .ok (.getfield 9, 3) := by decide +kernel
theorem dX9_calibrate_298 : decode cX9_calibrate 298 = .ok (.iconst 2, 1) := by decide +kernel
theorem dX9_calibrate_299 : decode cX9_calibrate 299 = .ok (.dup2, 1) := by decide +kernel
theorem dX9_calibrate_300 : decode cX9_calibrate 300 = .ok (.laload, 1) := by decide +kernel
theorem dX9_calibrate_301 : decode cX9_calibrate 301 = .ok (.lconst 1, 1) := by decide +kernel
theorem dX9_calibrate_302 : decode cX9_calibrate 302 = .ok (.ladd, 1) := by decide +kernel
theorem dX9_calibrate_303 : decode cX9_calibrate 303 = .ok (.lastore, 1) := by decide +kernel
theorem dX9_calibrate_304 : decode cX9_calibrate 304 = .ok (.aload_n 0, 1) := by decide +kernel
theorem dX9_calibrate_305 : decode cX9_calibrate 305 = .ok (.iload 5, 2) := by decide +kernel
theorem dX9_calibrate_307 : decode cX9_calibrate 307 = .ok (.i2l, 1) := by decide +kernel
theorem dX9_calibrate_308 : decode cX9_calibrate 308 = .ok (.invokevirtual 78, 3) := by decide +kernel
theorem dX9_calibrate_311 : decode cX9_calibrate 311 = .ok (.ireturn, 1) := by decide +kernel
theorem dX9_wouldRefuse_0 : decode cX9_wouldRefuse 0 = .ok (.aload_n 0, 1) := by decide +kernel
theorem dX9_wouldRefuse_1 : decode cX9_wouldRefuse 1 = .ok (.iload_n 1, 1) := by decide +kernel
theorem dX9_wouldRefuse_2 : decode cX9_wouldRefuse 2 = .ok (.invokevirtual 82, 3) := by decide +kernel
theorem dX9_wouldRefuse_5 : decode cX9_wouldRefuse 5 = .ok (.ifCond .eq 25, 3) := by decide +kernel
theorem dX9_wouldRefuse_8 : decode cX9_wouldRefuse 8 = .ok (.aload_n 0, 1) := by decide +kernel
theorem dX9_wouldRefuse_9 : decode cX9_wouldRefuse 9 = .ok (.iload_n 2, 1) := by decide +kernel
theorem dX9_wouldRefuse_10 : decode cX9_wouldRefuse 10 = .ok (.invokevirtual 82, 3) := by decide +kernel
theorem dX9_wouldRefuse_13 : decode cX9_wouldRefuse 13 = .ok (.ifCond .eq 17, 3) := by decide +kernel
theorem dX9_wouldRefuse_16 : decode cX9_wouldRefuse 16 = .ok (.aload_n 0, 1) := by decide +kernel
theorem dX9_wouldRefuse_17 : decode cX9_wouldRefuse 17 = .ok (.aload_n 0, 1) := by decide +kernel
theorem dX9_wouldRefuse_18 : decode cX9_wouldRefuse 18 = .ok (.iload_n 1, 1) := by decide +kernel
theorem dX9_wouldRefuse_19 : decode cX9_wouldRefuse 19 = .ok (.iload_n 2, 1) := by decide +kernel
theorem dX9_wouldRefuse_20 : decode cX9_wouldRefuse 20 = .ok (.invokevirtual 177, 3) := by decide +kernel
theorem dX9_wouldRefuse_23 : decode cX9_wouldRefuse 23 = .ok (.i2l, 1) := by decide +kernel
theorem dX9_wouldRefuse_24 : decode cX9_wouldRefuse 24 = .ok (.invokevirtual 78, 3) := by decide +kernel
theorem dX9_wouldRefuse_27 : decode cX9_wouldRefuse 27 = .ok (.goto 8, 3) := by decide +kernel
theorem dX9_wouldRefuse_30 : decode cX9_wouldRefuse 30 = .ok (.aload_n 0, 1) := by decide +kernel
theorem dX9_wouldRefuse_31 : decode cX9_wouldRefuse 31 = .ok (.iconst 1, 1) := by decide +kernel
theorem dX9_wouldRefuse_32 : decode cX9_wouldRefuse 32 = .ok (.invokevirtual 63, 3) := by decide +kernel
theorem dX9_wouldRefuse_35 : decode cX9_wouldRefuse 35 = .ok (.ireturn, 1) := by decide +kernel
theorem dX9_best_0 : decode cX9_best 0 = .ok (.aload_n 0, 1) := by decide +kernel
theorem dX9_best_1 : decode cX9_best 1 = .ok (.iload_n 1, 1) := by decide +kernel
theorem dX9_best_2 : decode cX9_best 2 = .ok (.invokevirtual 82, 3) := by decide +kernel
theorem dX9_best_5 : decode cX9_best 5 = .ok (.ifCond .ne 9, 3) := by decide +kernel
theorem dX9_best_8 : decode cX9_best 8 = .ok (.aload_n 0, 1) := by decide +kernel
theorem dX9_best_9 : decode cX9_best 9 = .ok (.iconst 1, 1) := by decide +kernel
theorem dX9_best_10 : decode cX9_best 10 = .ok (.invokevirtual 63, 3) := by decide +kernel
theorem dX9_best_13 : decode cX9_best 13 = .ok (.ireturn, 1) := by decide +kernel
theorem dX9_best_14 : decode cX9_best 14 = .ok (.iconst (-1), 1) := by decide +kernel
theorem dX9_best_15 : decode cX9_best 15 = .ok (.istore_n 2, 1) := by decide +kernel
theorem dX9_best_16 : decode cX9_best 16 = .ok (.lconst 0, 1) := by decide +kernel
theorem dX9_best_17 : decode cX9_best 17 = .ok (.lstore_n 3, 1) := by decide +kernel
theorem dX9_best_18 : decode cX9_best 18 = .ok (.iconst 0, 1) := by decide +kernel
theorem dX9_best_19 : decode cX9_best 19 = .ok (.istore 5, 2) := by decide +kernel
theorem dX9_best_21 : decode cX9_best 21 = .ok (.iload 5, 2) := by decide +kernel
theorem dX9_best_23 : decode cX9_best 23 = .ok (.i2l, 1) := by decide +kernel
theorem dX9_best_24 : decode cX9_best 24 = .ok (.aload_n 0, 1) := by decide +kernel
theorem dX9_best_25 : decode cX9_best 25 = .ok (.getfield 9, 3) := by decide +kernel
theorem dX9_best_28 : decode cX9_best 28 = .ok (.iconst 1, 1) := by decide +kernel
theorem dX9_best_29 : decode cX9_best 29 = .ok (.laload, 1) := by decide +kernel
theorem dX9_best_30 : decode cX9_best 30 = .ok (.lcmp, 1) := by decide +kernel
theorem dX9_best_31 : decode cX9_best 31 = .ok (.ifCond .ge 45, 3) := by decide +kernel
theorem dX9_best_34 : decode cX9_best 34 = .ok (.aload_n 0, 1) := by decide +kernel
theorem dX9_best_35 : decode cX9_best 35 = .ok (.iload_n 1, 1) := by decide +kernel
theorem dX9_best_36 : decode cX9_best 36 = .ok (.iload 5, 2) := by decide +kernel
theorem dX9_best_38 : decode cX9_best 38 = .ok (.invokevirtual 177, 3) := by decide +kernel
theorem dX9_best_41 : decode cX9_best 41 = .ok (.ifCond .ne 29, 3) := by decide +kernel
theorem dX9_best_44 : decode cX9_best 44 = .ok (.aload_n 0, 1) := by decide +kernel
theorem dX9_best_45 : decode cX9_best 45 = .ok (.iload 5, 2) := by decide +kernel
theorem dX9_best_47 : decode cX9_best 47 = .ok (.invokevirtual 184, 3) := by decide +kernel
theorem dX9_best_50 : decode cX9_best 50 = .ok (.lstore 6, 2) := by decide +kernel
theorem dX9_best_52 : decode cX9_best 52 = .ok (.iload_n 2, 1) := by decide +kernel
theorem dX9_best_53 : decode cX9_best 53 = .ok (.iconst (-1), 1) := by decide +kernel
theorem dX9_best_54 : decode cX9_best 54 = .ok (.if_icmp .eq 10, 3) := by decide +kernel
theorem dX9_best_57 : decode cX9_best 57 = .ok (.lload 6, 2) := by decide +kernel
theorem dX9_best_59 : decode cX9_best 59 = .ok (.lload_n 3, 1) := by decide +kernel
theorem dX9_best_60 : decode cX9_best 60 = .ok (.lcmp, 1) := by decide +kernel
theorem dX9_best_61 : decode cX9_best 61 = .ok (.ifCond .ge 9, 3) := by decide +kernel
theorem dX9_best_64 : decode cX9_best 64 = .ok (.iload 5, 2) := by decide +kernel
theorem dX9_best_66 : decode cX9_best 66 = .ok (.istore_n 2, 1) := by decide +kernel
theorem dX9_best_67 : decode cX9_best 67 = .ok (.lload 6, 2) := by decide +kernel
theorem dX9_best_69 : decode cX9_best 69 = .ok (.lstore_n 3, 1) := by decide +kernel
theorem dX9_best_70 : decode cX9_best 70 = .ok (.iinc 5 1, 3) := by decide +kernel
theorem dX9_best_73 : decode cX9_best 73 = .ok (.goto (-52), 3) := by decide +kernel
theorem dX9_best_76 : decode cX9_best 76 = .ok (.iload_n 2, 1) := by decide +kernel
theorem dX9_best_77 : decode cX9_best 77 = .ok (.iconst (-1), 1) := by decide +kernel
theorem dX9_best_78 : decode cX9_best 78 = .ok (.if_icmp .ne 11, 3) := by decide +kernel
theorem dX9_best_81 : decode cX9_best 81 = .ok (.aload_n 0, 1) := by decide +kernel
theorem dX9_best_82 : decode cX9_best 82 = .ok (.iconst 2, 1) := by decide +kernel
theorem dX9_best_83 : decode cX9_best 83 = .ok (.invokevirtual 63, 3) := by decide +kernel
theorem dX9_best_86 : decode cX9_best 86 = .ok (.goto 9, 3) := by decide +kernel
theorem dX9_best_89 : decode cX9_best 89 = .ok (.aload_n 0, 1) := by decide +kernel
theorem dX9_best_90 : decode cX9_best 90 = .ok (.iload_n 2, 1) := by decide +kernel
theorem dX9_best_91 : decode cX9_best 91 = .ok (.i2l, 1) := by decide +kernel
theorem dX9_best_92 : decode cX9_best 92 = .ok (.invokevirtual 78, 3) := by decide +kernel
theorem dX9_best_95 : decode cX9_best 95 = .ok (.ireturn, 1) := by decide +kernel
theorem dX9_chainMany_0 : decode cX9_chainMany 0 = .ok (.iconst 0, 1) := by decide +kernel
theorem dX9_chainMany_1 : decode cX9_chainMany 1 = .ok (.istore_n 3, 1) := by decide +kernel
theorem dX9_chainMany_2 : decode cX9_chainMany 2 = .ok (.iload_n 1, 1) := by decide +kernel
theorem dX9_chainMany_3 : decode cX9_chainMany 3 = .ok (.istore 4, 2) := by decide +kernel
theorem dX9_chainMany_5 : decode cX9_chainMany 5 = .ok (.iload 4, 2) := by decide +kernel
theorem dX9_chainMany_7 : decode cX9_chainMany 7 = .ok (.iconst (-1), 1) := by decide +kernel
theorem dX9_chainMany_8 : decode cX9_chainMany 8 = .ok (.if_icmp .eq 35, 3) := by decide +kernel
theorem dX9_chainMany_11 : decode cX9_chainMany 11 = .ok (.iload_n 3, 1) := by decide +kernel
theorem dX9_chainMany_12 : decode cX9_chainMany 12 = .ok (.iload_n 2, 1) := by decide +kernel
theorem dX9_chainMany_13 : decode cX9_chainMany 13 = .ok (.iconst (-1), 1) := by decide +kernel
theorem dX9_chainMany_14 : decode cX9_chainMany 14 = .ok (.if_icmp .eq 9, 3) := by decide +kernel
theorem dX9_chainMany_17 : decode cX9_chainMany 17 = .ok (.iload 4, 2) := by decide +kernel
theorem dX9_chainMany_19 : decode cX9_chainMany 19 = .ok (.iload_n 2, 1) := by decide +kernel
theorem dX9_chainMany_20 : decode cX9_chainMany 20 = .ok (.if_icmp .ne 7, 3) := by decide +kernel
theorem dX9_chainMany_23 : decode cX9_chainMany 23 = .ok (.iconst 1, 1) := by decide +kernel
theorem dX9_chainMany_24 : decode cX9_chainMany 24 = .ok (.goto 4, 3) := by decide +kernel
theorem dX9_chainMany_27 : decode cX9_chainMany 27 = .ok (.iconst 0, 1) := by decide +kernel
theorem dX9_chainMany_28 : decode cX9_chainMany 28 = .ok (.iadd, 1) := by decide +kernel
theorem dX9_chainMany_29 : decode cX9_chainMany 29 = .ok (.istore_n 3, 1) := by decide +kernel
theorem dX9_chainMany_30 : decode cX9_chainMany 30 = .ok (.aload_n 0, 1) := by decide +kernel
theorem dX9_chainMany_31 : decode cX9_chainMany 31 = .ok (.iload 4, 2) := by decide +kernel
theorem dX9_chainMany_33 : decode cX9_chainMany 33 = .ok (.iconst 2, 1) := by decide +kernel
theorem dX9_chainMany_34 : decode cX9_chainMany 34 = .ok (.invokevirtual 99, 3) := by decide +kernel
theorem dX9_chainMany_37 : decode cX9_chainMany 37 = .ok (.l2i, 1) := by decide +kernel
theorem dX9_chainMany_38 : decode cX9_chainMany 38 = .ok (.istore 4, 2) := by decide +kernel
theorem dX9_chainMany_40 : decode cX9_chainMany 40 = .ok (.goto (-35), 3) := by decide +kernel
theorem dX9_chainMany_43 : decode cX9_chainMany 43 = .ok (.iload_n 3, 1) := by decide +kernel
theorem dX9_chainMany_44 : decode cX9_chainMany 44 = .ok (.ireturn, 1) := by decide +kernel
theorem dX9_calibration_0 : decode cX9_calibration 0 = .ok (.iload_n 1, 1) := by decide +kernel
theorem dX9_calibration_1 : decode cX9_calibration 1 = .ok (.istore_n 3, 1) := by decide +kernel
theorem dX9_calibration_2 : decode cX9_calibration 2 = .ok (.aload_n 0, 1) := by decide +kernel
theorem dX9_calibration_3 : decode cX9_calibration 3 = .ok (.iload_n 3, 1) := by decide +kernel
theorem dX9_calibration_4 : decode cX9_calibration 4 = .ok (.invokevirtual 192, 3) := by decide +kernel
theorem dX9_calibration_7 : decode cX9_calibration 7 = .ok (.ifCond .ne 9, 3) := by decide +kernel
theorem dX9_calibration_10 : decode cX9_calibration 10 = .ok (.aload_n 0, 1) := by decide +kernel
theorem dX9_calibration_11 : decode cX9_calibration 11 = .ok (.iconst 1, 1) := by decide +kernel
theorem dX9_calibration_12 : decode cX9_calibration 12 = .ok (.invokevirtual 63, 3) := by decide +kernel
theorem dX9_calibration_15 : decode cX9_calibration 15 = .ok (.ireturn, 1) := by decide +kernel
theorem dX9_calibration_16 : decode cX9_calibration 16 = .ok (.iload_n 2, 1) := by decide +kernel
theorem dX9_calibration_17 : decode cX9_calibration 17 = .ok (.i2l, 1) := by decide +kernel
theorem dX9_calibration_18 : decode cX9_calibration 18 = .ok (.lconst 0, 1) := by decide +kernel
theorem dX9_calibration_19 : decode cX9_calibration 19 = .ok (.ldc2_w 195, 3) := by decide +kernel
theorem dX9_calibration_22 : decode cX9_calibration 22 = .ok (.invokestatic 55, 3) := by decide +kernel
theorem dX9_calibration_25 : decode cX9_calibration 25 = .ok (.ifCond .ne 9, 3) := by decide +kernel
theorem dX9_calibration_28 : decode cX9_calibration 28 = .ok (.aload_n 0, 1) := by decide +kernel
theorem dX9_calibration_29 : decode cX9_calibration 29 = .ok (.iconst 2, 1) := by decide +kernel
theorem dX9_calibration_30 : decode cX9_calibration 30 = .ok (.invokevirtual 63, 3) := by decide +kernel
theorem dX9_calibration_33 : decode cX9_calibration 33 = .ok (.ireturn, 1) := by decide +kernel
theorem dX9_calibration_34 : decode cX9_calibration 34 = .ok (.iload_n 2, 1) := by decide +kernel
theorem dX9_calibration_35 : decode cX9_calibration 35 = .ok (.iconst 5, 1) := by decide +kernel
theorem dX9_calibration_36 : decode cX9_calibration 36 = .ok (.if_icmp .gt 14, 3) := by decide +kernel
theorem dX9_calibration_39 : decode cX9_calibration 39 = .ok (.aload_n 0, 1) := by decide +kernel
theorem dX9_calibration_40 : decode cX9_calibration 40 = .ok (.aload_n 0, 1) := by decide +kernel
theorem dX9_calibration_41 : decode cX9_calibration 41 = .ok (.iload_n 3, 1) := by decide +kernel
theorem dX9_calibration_42 : decode cX9_calibration 42 = .ok (.iload_n 2, 1) := by decide +kernel
theorem dX9_calibration_43 : decode cX9_calibration 43 = .ok (.invokevirtual 99, 3) := by decide +kernel
theorem dX9_calibration_46 : decode cX9_calibration 46 = .ok (.invokevirtual 78, 3) := by decide +kernel
theorem dX9_calibration_49 : decode cX9_calibration 49 = .ok (.ireturn, 1) := by decide +kernel
theorem dX9_calibration_50 : decode cX9_calibration 50 = .ok (.iload_n 2, 1) := by decide +kernel
theorem dX9_calibration_51 : decode cX9_calibration 51 = .ok (.bipush 12, 2) := by decide +kernel
theorem dX9_calibration_53 : decode cX9_calibration 53 = .ok (.if_icmp .ne 58, 3) := by decide +kernel
theorem dX9_calibration_56 : decode cX9_calibration 56 = .ok (.iconst 0, 1) := by decide +kernel
theorem dX9_calibration_57 : decode cX9_calibration 57 = .ok (.istore 4, 2) := by decide +kernel
theorem dX9_calibration_59 : decode cX9_calibration 59 = .ok (.iconst 0, 1) := by decide +kernel
theorem dX9_calibration_60 : decode cX9_calibration 60 = .ok (.istore 5, 2) := by decide +kernel
theorem dX9_calibration_62 : decode cX9_calibration 62 = .ok (.iload 5, 2) := by decide +kernel
theorem dX9_calibration_64 : decode cX9_calibration 64 = .ok (.i2l, 1) := by decide +kernel
theorem dX9_calibration_65 : decode cX9_calibration 65 = .ok (.aload_n 0, 1) := by decide +kernel
theorem dX9_calibration_66 : decode cX9_calibration 66 = .ok (.getfield 9, 3) := by decide +kernel
theorem dX9_calibration_69 : decode cX9_calibration 69 = .ok (.iconst 2, 1) := by decide +kernel
theorem dX9_calibration_70 : decode cX9_calibration 70 = .ok (.laload, 1) := by decide +kernel
theorem dX9_calibration_71 : decode cX9_calibration 71 = .ok (.lcmp, 1) := by decide +kernel
theorem dX9_calibration_72 : decode cX9_calibration 72 = .ok (.ifCond .ge 31, 3) := by decide +kernel
theorem dX9_calibration_75 : decode cX9_calibration 75 = .ok (.iload 4, 2) := by decide +kernel
theorem dX9_calibration_77 : decode cX9_calibration 77 = .ok (.iload 5, 2) := by decide +kernel
theorem dX9_calibration_79 : decode cX9_calibration 79 = .ok (.iload_n 3, 1) := by decide +kernel
theorem dX9_calibration_80 : decode cX9_calibration 80 = .ok (.if_icmp .eq 13, 3) := by decide +kernel
theorem dX9_calibration_83 : decode cX9_calibration 83 = .ok (.aload_n 0, 1) := by decide +kernel
theorem dX9_calibration_84 : decode cX9_calibration 84 = .ok (.iload 5, 2) := by decide +kernel
theorem dX9_calibration_86 : decode cX9_calibration 86 = .ok (.iload_n 3, 1) := by decide +kernel
theorem dX9_calibration_87 : decode cX9_calibration 87 = .ok (.invokevirtual 197, 3) := by decide +kernel
theorem dX9_calibration_90 : decode cX9_calibration 90 = .ok (.goto 4, 3) := by decide +kernel
theorem dX9_calibration_93 : decode cX9_calibration 93 = .ok (.iconst 0, 1) := by decide +kernel
theorem dX9_calibration_94 : decode cX9_calibration 94 = .ok (.iadd, 1) := by decide +kernel
theorem dX9_calibration_95 : decode cX9_calibration 95 = .ok (.istore 4, 2) := by decide +kernel
theorem dX9_calibration_97 : decode cX9_calibration 97 = .ok (.iinc 5 1, 3) := by decide +kernel
theorem dX9_calibration_100 : decode cX9_calibration 100 = .ok (.goto (-38), 3) := by decide +kernel
theorem dX9_calibration_103 : decode cX9_calibration 103 = .ok (.aload_n 0, 1) := by decide +kernel
theorem dX9_calibration_104 : decode cX9_calibration 104 = .ok (.iload 4, 2) := by decide +kernel
theorem dX9_calibration_106 : decode cX9_calibration 106 = .ok (.i2l, 1) := by decide +kernel
theorem dX9_calibration_107 : decode cX9_calibration 107 = .ok (.invokevirtual 78, 3) := by decide +kernel
theorem dX9_calibration_110 : decode cX9_calibration 110 = .ok (.ireturn, 1) := by decide +kernel
theorem dX9_calibration_111 : decode cX9_calibration 111 = .ok (.aload_n 0, 1) := by decide +kernel
theorem dX9_calibration_112 : decode cX9_calibration 112 = .ok (.iload_n 2, 1) := by decide +kernel
theorem dX9_calibration_113 : decode cX9_calibration 113 = .ok (.bipush 6, 2) := by decide +kernel
theorem dX9_calibration_115 : decode cX9_calibration 115 = .ok (.if_icmp .ne 13, 3) := by decide +kernel
theorem dX9_calibration_118 : decode cX9_calibration 118 = .ok (.aload_n 0, 1) := by decide +kernel
theorem dX9_calibration_119 : decode cX9_calibration 119 = .ok (.iload_n 3, 1) := by decide +kernel
theorem dX9_calibration_120 : decode cX9_calibration 120 = .ok (.bipush 8, 2) := by decide +kernel
theorem dX9_calibration_122 : decode cX9_calibration 122 = .ok (.invokevirtual 99, 3) := by decide +kernel
theorem dX9_calibration_125 : decode cX9_calibration 125 = .ok (.goto 84, 3) := by decide +kernel
theorem dX9_calibration_128 : decode cX9_calibration 128 = .ok (.iload_n 2, 1) := by decide +kernel
theorem dX9_calibration_129 : decode cX9_calibration 129 = .ok (.bipush 7, 2) := by decide +kernel
theorem dX9_calibration_131 : decode cX9_calibration 131 = .ok (.if_icmp .ne 11, 3) := by decide +kernel
theorem dX9_calibration_134 : decode cX9_calibration 134 = .ok (.aload_n 0, 1) := by decide +kernel
theorem dX9_calibration_135 : decode cX9_calibration 135 = .ok (.iload_n 3, 1) := by decide +kernel
theorem dX9_calibration_136 : decode cX9_calibration 136 = .ok (.invokevirtual 156, 3) := by decide +kernel
theorem dX9_calibration_139 : decode cX9_calibration 139 = .ok (.goto 70, 3) := by decide +kernel
theorem dX9_calibration_142 : decode cX9_calibration 142 = .ok (.iload_n 2, 1) := by decide +kernel
theorem dX9_calibration_143 : decode cX9_calibration 143 = .ok (.bipush 8, 2) := by decide +kernel
theorem dX9_calibration_145 : decode cX9_calibration 145 = .ok (.if_icmp .ne 11, 3) := by decide +kernel
theorem dX9_calibration_148 : decode cX9_calibration 148 = .ok (.aload_n 0, 1) := by decide +kernel
theorem dX9_calibration_149 : decode cX9_calibration 149 = .ok (.iload_n 3, 1) := by decide +kernel
theorem dX9_calibration_150 : decode cX9_calibration 150 = .ok (.invokevirtual 104, 3) := by decide +kernel
theorem dX9_calibration_153 : decode cX9_calibration 153 = .ok (.goto 56, 3) := by decide +kernel
theorem dX9_calibration_156 : decode cX9_calibration 156 = .ok (.iload_n 2, 1) := by decide +kernel
theorem dX9_calibration_157 : decode cX9_calibration 157 = .ok (.bipush 9, 2) := by decide +kernel
theorem dX9_calibration_159 : decode cX9_calibration 159 = .ok (.if_icmp .ne 20, 3) := by decide +kernel
theorem dX9_calibration_162 : decode cX9_calibration 162 = .ok (.aload_n 0, 1) := by decide +kernel
theorem dX9_calibration_163 : decode cX9_calibration 163 = .ok (.iload_n 3, 1) := by decide +kernel
theorem dX9_calibration_164 : decode cX9_calibration 164 = .ok (.invokevirtual 153, 3) := by decide +kernel
theorem dX9_calibration_167 : decode cX9_calibration 167 = .ok (.ifCond .eq 7, 3) := by decide +kernel
theorem dX9_calibration_170 : decode cX9_calibration 170 = .ok (.iconst 1, 1) := by decide +kernel
theorem dX9_calibration_171 : decode cX9_calibration 171 = .ok (.goto 4, 3) := by decide +kernel
theorem dX9_calibration_174 : decode cX9_calibration 174 = .ok (.iconst 0, 1) := by decide +kernel
theorem dX9_calibration_175 : decode cX9_calibration 175 = .ok (.i2l, 1) := by decide +kernel
theorem dX9_calibration_176 : decode cX9_calibration 176 = .ok (.goto 33, 3) := by decide +kernel
theorem dX9_calibration_179 : decode cX9_calibration 179 = .ok (.iload_n 2, 1) := by decide +kernel
theorem dX9_calibration_180 : decode cX9_calibration 180 = .ok (.bipush 10, 2) := by decide +kernel
theorem dX9_calibration_182 : decode cX9_calibration 182 = .ok (.if_icmp .ne 20, 3) := by decide +kernel
theorem dX9_calibration_185 : decode cX9_calibration 185 = .ok (.aload_n 0, 1) := by decide +kernel
theorem dX9_calibration_186 : decode cX9_calibration 186 = .ok (.iload_n 3, 1) := by decide +kernel
theorem dX9_calibration_187 : decode cX9_calibration 187 = .ok (.invokevirtual 130, 3) := by decide +kernel
theorem dX9_calibration_190 : decode cX9_calibration 190 = .ok (.ifCond .eq 7, 3) := by decide +kernel
theorem dX9_calibration_193 : decode cX9_calibration 193 = .ok (.iconst 1, 1) := by decide +kernel
theorem dX9_calibration_194 : decode cX9_calibration 194 = .ok (.goto 4, 3) := by decide +kernel
theorem dX9_calibration_197 : decode cX9_calibration 197 = .ok (.iconst 0, 1) := by decide +kernel
theorem dX9_calibration_198 : decode cX9_calibration 198 = .ok (.i2l, 1) := by decide +kernel
theorem dX9_calibration_199 : decode cX9_calibration 199 = .ok (.goto 10, 3) := by decide +kernel
theorem dX9_calibration_202 : decode cX9_calibration 202 = .ok (.aload_n 0, 1) := by decide +kernel
theorem dX9_calibration_203 : decode cX9_calibration 203 = .ok (.iload_n 3, 1) := by decide +kernel
theorem dX9_calibration_204 : decode cX9_calibration 204 = .ok (.iconst (-1), 1) := by decide +kernel
theorem dX9_calibration_205 : decode cX9_calibration 205 = .ok (.invokevirtual 197, 3) := by decide +kernel
theorem dX9_calibration_208 : decode cX9_calibration 208 = .ok (.i2l, 1) := by decide +kernel
theorem dX9_calibration_209 : decode cX9_calibration 209 = .ok (.invokevirtual 78, 3) := by decide +kernel
theorem dX9_calibration_212 : decode cX9_calibration 212 = .ok (.ireturn, 1) := by decide +kernel
theorem dX9_variance_0 : decode cX9_variance 0 = .ok (.aload_n 0, 1) := by decide +kernel
theorem dX9_variance_1 : decode cX9_variance 1 = .ok (.iload_n 1, 1) := by decide +kernel
theorem dX9_variance_2 : decode cX9_variance 2 = .ok (.invokevirtual 192, 3) := by decide +kernel
theorem dX9_variance_5 : decode cX9_variance 5 = .ok (.ifCond .eq 26, 3) := by decide +kernel
theorem dX9_variance_8 : decode cX9_variance 8 = .ok (.aload_n 0, 1) := by decide +kernel
theorem dX9_variance_9 : decode cX9_variance 9 = .ok (.aload_n 0, 1) := by decide +kernel
theorem dX9_variance_10 : decode cX9_variance 10 = .ok (.iload_n 1, 1) := by decide +kernel
theorem dX9_variance_11 : decode cX9_variance 11 = .ok (.iload_n 2, 1) := by decide +kernel
theorem dX9_variance_12 : decode cX9_variance 12 = .ok (.ifCond .eq 8, 3) := by decide +kernel
theorem dX9_variance_15 : decode cX9_variance 15 = .ok (.bipush 6, 2) := by decide +kernel
theorem dX9_variance_17 : decode cX9_variance 17 = .ok (.goto 5, 3) := by decide +kernel
theorem dX9_variance_20 : decode cX9_variance 20 = .ok (.bipush 7, 2) := by decide +kernel
theorem dX9_variance_22 : decode cX9_variance 22 = .ok (.invokevirtual 99, 3) := by decide +kernel
theorem dX9_variance_25 : decode cX9_variance 25 = .ok (.invokevirtual 200, 3) := by decide +kernel
theorem dX9_variance_28 : decode cX9_variance 28 = .ok (.goto 9, 3) := by decide +kernel
theorem dX9_variance_31 : decode cX9_variance 31 = .ok (.aload_n 0, 1) := by decide +kernel
theorem dX9_variance_32 : decode cX9_variance 32 = .ok (.iconst 1, 1) := by decide +kernel
theorem dX9_variance_33 : decode cX9_variance 33 = .ok (.invokevirtual 63, 3) := by decide +kernel
theorem dX9_variance_36 : decode cX9_variance 36 = .ok (.i2l, 1) := by decide +kernel
theorem dX9_variance_37 : decode cX9_variance 37 = .ok (.lreturn, 1) := by decide +kernel
theorem dX9_alongChain_0 : decode cX9_alongChain 0 = .ok (.aload_n 0, 1) := by decide +kernel
theorem dX9_alongChain_1 : decode cX9_alongChain 1 = .ok (.iload_n 1, 1) := by decide +kernel
theorem dX9_alongChain_2 : decode cX9_alongChain 2 = .ok (.invokevirtual 192, 3) := by decide +kernel
theorem dX9_alongChain_5 : decode cX9_alongChain 5 = .ok (.ifCond .ne 10, 3) := by decide +kernel
theorem dX9_alongChain_8 : decode cX9_alongChain 8 = .ok (.aload_n 0, 1) := by decide +kernel
theorem dX9_alongChain_9 : decode cX9_alongChain 9 = .ok (.iconst 1, 1) := by decide +kernel
theorem dX9_alongChain_10 : decode cX9_alongChain 10 = .ok (.invokevirtual 63, 3) := by decide +kernel
theorem dX9_alongChain_13 : decode cX9_alongChain 13 = .ok (.i2l, 1) := by decide +kernel
theorem dX9_alongChain_14 : decode cX9_alongChain 14 = .ok (.lreturn, 1) := by decide +kernel
theorem dX9_alongChain_15 : decode cX9_alongChain 15 = .ok (.lconst 0, 1) := by decide +kernel
theorem dX9_alongChain_16 : decode cX9_alongChain 16 = .ok (.lstore_n 2, 1) := by decide +kernel
theorem dX9_alongChain_17 : decode cX9_alongChain 17 = .ok (.iload_n 1, 1) := by decide +kernel
theorem dX9_alongChain_18 : decode cX9_alongChain 18 = .ok (.istore 4, 2) := by decide +kernel
theorem dX9_alongChain_20 : decode cX9_alongChain 20 = .ok (.iload 4, 2) := by decide +kernel
theorem dX9_alongChain_22 : decode cX9_alongChain 22 = .ok (.iconst (-1), 1) := by decide +kernel
theorem dX9_alongChain_23 : decode cX9_alongChain 23 = .ok (.if_icmp .eq 44, 3) := by decide +kernel
theorem dX9_alongChain_26 : decode cX9_alongChain 26 = .ok (.lload_n 2, 1) := by decide +kernel
theorem dX9_alongChain_27 : decode cX9_alongChain 27 = .ok (.aload_n 0, 1) := by decide +kernel
theorem dX9_alongChain_28 : decode cX9_alongChain 28 = .ok (.iload 4, 2) := by decide +kernel
theorem dX9_alongChain_30 : decode cX9_alongChain 30 = .ok (.iconst 5, 1) := by decide +kernel
theorem dX9_alongChain_31 : decode cX9_alongChain 31 = .ok (.invokevirtual 99, 3) := by decide +kernel
theorem dX9_alongChain_34 : decode cX9_alongChain 34 = .ok (.aload_n 0, 1) := by decide +kernel
theorem dX9_alongChain_35 : decode cX9_alongChain 35 = .ok (.iload 4, 2) := by decide +kernel
theorem dX9_alongChain_37 : decode cX9_alongChain 37 = .ok (.bipush 6, 2) := by decide +kernel
theorem dX9_alongChain_39 : decode cX9_alongChain 39 = .ok (.invokevirtual 99, 3) := by decide +kernel
theorem dX9_alongChain_42 : decode cX9_alongChain 42 = .ok (.ladd, 1) := by decide +kernel
theorem dX9_alongChain_43 : decode cX9_alongChain 43 = .ok (.aload_n 0, 1) := by decide +kernel
theorem dX9_alongChain_44 : decode cX9_alongChain 44 = .ok (.iload 4, 2) := by decide +kernel
theorem dX9_alongChain_46 : decode cX9_alongChain 46 = .ok (.bipush 9, 2) := by decide +kernel
theorem dX9_alongChain_48 : decode cX9_alongChain 48 = .ok (.invokevirtual 99, 3) := by decide +kernel
theorem dX9_alongChain_51 : decode cX9_alongChain 51 = .ok (.ladd, 1) := by decide +kernel
theorem dX9_alongChain_52 : decode cX9_alongChain 52 = .ok (.ladd, 1) := by decide +kernel
theorem dX9_alongChain_53 : decode cX9_alongChain 53 = .ok (.lstore_n 2, 1) := by decide +kernel
theorem dX9_alongChain_54 : decode cX9_alongChain 54 = .ok (.aload_n 0, 1) := by decide +kernel
theorem dX9_alongChain_55 : decode cX9_alongChain 55 = .ok (.iload 4, 2) := by decide +kernel
theorem dX9_alongChain_57 : decode cX9_alongChain 57 = .ok (.iconst 2, 1) := by decide +kernel
theorem dX9_alongChain_58 : decode cX9_alongChain 58 = .ok (.invokevirtual 99, 3) := by decide +kernel
theorem dX9_alongChain_61 : decode cX9_alongChain 61 = .ok (.l2i, 1) := by decide +kernel
theorem dX9_alongChain_62 : decode cX9_alongChain 62 = .ok (.istore 4, 2) := by decide +kernel
theorem dX9_alongChain_64 : decode cX9_alongChain 64 = .ok (.goto (-44), 3) := by decide +kernel
theorem dX9_alongChain_67 : decode cX9_alongChain 67 = .ok (.aload_n 0, 1) := by decide +kernel
theorem dX9_alongChain_68 : decode cX9_alongChain 68 = .ok (.lload_n 2, 1) := by decide +kernel
theorem dX9_alongChain_69 : decode cX9_alongChain 69 = .ok (.invokevirtual 200, 3) := by decide +kernel
theorem dX9_alongChain_72 : decode cX9_alongChain 72 = .ok (.lreturn, 1) := by decide +kernel
theorem dX9_chain_0 : decode cX9_chain 0 = .ok (.aload_n 0, 1) := by decide +kernel
theorem dX9_chain_1 : decode cX9_chain 1 = .ok (.iload_n 1, 1) := by decide +kernel
theorem dX9_chain_2 : decode cX9_chain 2 = .ok (.invokevirtual 192, 3) := by decide +kernel
theorem dX9_chain_5 : decode cX9_chain 5 = .ok (.ifCond .ne 9, 3) := by decide +kernel
theorem dX9_chain_8 : decode cX9_chain 8 = .ok (.aload_n 0, 1) := by decide +kernel
theorem dX9_chain_9 : decode cX9_chain 9 = .ok (.iconst 1, 1) := by decide +kernel
theorem dX9_chain_10 : decode cX9_chain 10 = .ok (.invokevirtual 63, 3) := by decide +kernel
theorem dX9_chain_13 : decode cX9_chain 13 = .ok (.ireturn, 1) := by decide +kernel
theorem dX9_chain_14 : decode cX9_chain 14 = .ok (.iload_n 2, 1) := by decide +kernel
theorem dX9_chain_15 : decode cX9_chain 15 = .ok (.i2l, 1) := by decide +kernel
theorem dX9_chain_16 : decode cX9_chain 16 = .ok (.lconst 0, 1) := by decide +kernel
theorem dX9_chain_17 : decode cX9_chain 17 = .ok (.aload_n 0, 1) := by decide +kernel
theorem dX9_chain_18 : decode cX9_chain 18 = .ok (.iload_n 1, 1) := by decide +kernel
theorem dX9_chain_19 : decode cX9_chain 19 = .ok (.iconst (-1), 1) := by decide +kernel
theorem dX9_chain_20 : decode cX9_chain 20 = .ok (.invokevirtual 197, 3) := by decide +kernel
theorem dX9_chain_23 : decode cX9_chain 23 = .ok (.iconst 1, 1) := by decide +kernel
theorem dX9_chain_24 : decode cX9_chain 24 = .ok (.isub, 1) := by decide +kernel
theorem dX9_chain_25 : decode cX9_chain 25 = .ok (.i2l, 1) := by decide +kernel
theorem dX9_chain_26 : decode cX9_chain 26 = .ok (.invokestatic 55, 3) := by decide +kernel
theorem dX9_chain_29 : decode cX9_chain 29 = .ok (.ifCond .ne 9, 3) := by decide +kernel
theorem dX9_chain_32 : decode cX9_chain 32 = .ok (.aload_n 0, 1) := by decide +kernel
theorem dX9_chain_33 : decode cX9_chain 33 = .ok (.iconst 2, 1) := by decide +kernel
theorem dX9_chain_34 : decode cX9_chain 34 = .ok (.invokevirtual 63, 3) := by decide +kernel
theorem dX9_chain_37 : decode cX9_chain 37 = .ok (.ireturn, 1) := by decide +kernel
theorem dX9_chain_38 : decode cX9_chain 38 = .ok (.iload_n 1, 1) := by decide +kernel
theorem dX9_chain_39 : decode cX9_chain 39 = .ok (.istore_n 3, 1) := by decide +kernel
theorem dX9_chain_40 : decode cX9_chain 40 = .ok (.iconst 0, 1) := by decide +kernel
theorem dX9_chain_41 : decode cX9_chain 41 = .ok (.istore 4, 2) := by decide +kernel
theorem dX9_chain_43 : decode cX9_chain 43 = .ok (.iload 4, 2) := by decide +kernel
theorem dX9_chain_45 : decode cX9_chain 45 = .ok (.iload_n 2, 1) := by decide +kernel
theorem dX9_chain_46 : decode cX9_chain 46 = .ok (.if_icmp .ge 17, 3) := by decide +kernel
theorem dX9_chain_49 : decode cX9_chain 49 = .ok (.aload_n 0, 1) := by decide +kernel
theorem dX9_chain_50 : decode cX9_chain 50 = .ok (.iload_n 3, 1) := by decide +kernel
theorem dX9_chain_51 : decode cX9_chain 51 = .ok (.iconst 2, 1) := by decide +kernel
theorem dX9_chain_52 : decode cX9_chain 52 = .ok (.invokevirtual 99, 3) := by decide +kernel
theorem dX9_chain_55 : decode cX9_chain 55 = .ok (.l2i, 1) := by decide +kernel
theorem dX9_chain_56 : decode cX9_chain 56 = .ok (.istore_n 3, 1) := by decide +kernel
theorem dX9_chain_57 : decode cX9_chain 57 = .ok (.iinc 4 1, 3) := by decide +kernel
theorem dX9_chain_60 : decode cX9_chain 60 = .ok (.goto (-17), 3) := by decide +kernel
theorem dX9_chain_63 : decode cX9_chain 63 = .ok (.aload_n 0, 1) := by decide +kernel
theorem dX9_chain_64 : decode cX9_chain 64 = .ok (.iload_n 3, 1) := by decide +kernel
theorem dX9_chain_65 : decode cX9_chain 65 = .ok (.i2l, 1) := by decide +kernel
theorem dX9_chain_66 : decode cX9_chain 66 = .ok (.invokevirtual 78, 3) := by decide +kernel
theorem dX9_chain_69 : decode cX9_chain 69 = .ok (.ireturn, 1) := by decide +kernel
theorem dX9_cause_0 : decode cX9_cause 0 = .ok (.aload_n 0, 1) := by decide +kernel
theorem dX9_cause_1 : decode cX9_cause 1 = .ok (.iload_n 1, 1) := by decide +kernel
theorem dX9_cause_2 : decode cX9_cause 2 = .ok (.invokevirtual 192, 3) := by decide +kernel
theorem dX9_cause_5 : decode cX9_cause 5 = .ok (.ifCond .ne 9, 3) := by decide +kernel
theorem dX9_cause_8 : decode cX9_cause 8 = .ok (.aload_n 0, 1) := by decide +kernel
theorem dX9_cause_9 : decode cX9_cause 9 = .ok (.iconst 1, 1) := by decide +kernel
theorem dX9_cause_10 : decode cX9_cause 10 = .ok (.invokevirtual 63, 3) := by decide +kernel
theorem dX9_cause_13 : decode cX9_cause 13 = .ok (.ireturn, 1) := by decide +kernel
theorem dX9_cause_14 : decode cX9_cause 14 = .ok (.iconst (-1), 1) := by decide +kernel
theorem dX9_cause_15 : decode cX9_cause 15 = .ok (.istore_n 2, 1) := by decide +kernel
theorem dX9_cause_16 : decode cX9_cause 16 = .ok (.iload_n 1, 1) := by decide +kernel
theorem dX9_cause_17 : decode cX9_cause 17 = .ok (.istore_n 3, 1) := by decide +kernel
theorem dX9_cause_18 : decode cX9_cause 18 = .ok (.iload_n 3, 1) := by decide +kernel
theorem dX9_cause_19 : decode cX9_cause 19 = .ok (.iconst (-1), 1) := by decide +kernel
theorem dX9_cause_20 : decode cX9_cause 20 = .ok (.if_icmp .eq 28, 3) := by decide +kernel
theorem dX9_cause_23 : decode cX9_cause 23 = .ok (.aload_n 0, 1) := by decide +kernel
theorem dX9_cause_24 : decode cX9_cause 24 = .ok (.iload_n 3, 1) := by decide +kernel
theorem dX9_cause_25 : decode cX9_cause 25 = .ok (.invokevirtual 127, 3) := by decide +kernel
theorem dX9_cause_28 : decode cX9_cause 28 = .ok (.ifCond .eq 7, 3) := by decide +kernel
theorem dX9_cause_31 : decode cX9_cause 31 = .ok (.iload_n 3, 1) := by decide +kernel
theorem dX9_cause_32 : decode cX9_cause 32 = .ok (.goto 4, 3) := by decide +kernel
theorem dX9_cause_35 : decode cX9_cause 35 = .ok (.iload_n 2, 1) := by decide +kernel
theorem dX9_cause_36 : decode cX9_cause 36 = .ok (.istore_n 2, 1) := by decide +kernel
theorem dX9_cause_37 : decode cX9_cause 37 = .ok (.aload_n 0, 1) := by decide +kernel
theorem dX9_cause_38 : decode cX9_cause 38 = .ok (.iload_n 3, 1) := by decide +kernel
theorem dX9_cause_39 : decode cX9_cause 39 = .ok (.iconst 2, 1) := by decide +kernel
theorem dX9_cause_40 : decode cX9_cause 40 = .ok (.invokevirtual 99, 3) := by decide +kernel
theorem dX9_cause_43 : decode cX9_cause 43 = .ok (.l2i, 1) := by decide +kernel
theorem dX9_cause_44 : decode cX9_cause 44 = .ok (.istore_n 3, 1) := by decide +kernel
theorem dX9_cause_45 : decode cX9_cause 45 = .ok (.goto (-27), 3) := by decide +kernel
theorem dX9_cause_48 : decode cX9_cause 48 = .ok (.iload_n 2, 1) := by decide +kernel
theorem dX9_cause_49 : decode cX9_cause 49 = .ok (.iconst (-1), 1) := by decide +kernel
theorem dX9_cause_50 : decode cX9_cause 50 = .ok (.if_icmp .ne 11, 3) := by decide +kernel
theorem dX9_cause_53 : decode cX9_cause 53 = .ok (.aload_n 0, 1) := by decide +kernel
theorem dX9_cause_54 : decode cX9_cause 54 = .ok (.iconst 2, 1) := by decide +kernel
theorem dX9_cause_55 : decode cX9_cause 55 = .ok (.invokevirtual 63, 3) := by decide +kernel
theorem dX9_cause_58 : decode cX9_cause 58 = .ok (.goto 9, 3) := by decide +kernel
theorem dX9_cause_61 : decode cX9_cause 61 = .ok (.aload_n 0, 1) := by decide +kernel
theorem dX9_cause_62 : decode cX9_cause 62 = .ok (.iload_n 2, 1) := by decide +kernel
theorem dX9_cause_63 : decode cX9_cause 63 = .ok (.i2l, 1) := by decide +kernel
theorem dX9_cause_64 : decode cX9_cause 64 = .ok (.invokevirtual 78, 3) := by decide +kernel
theorem dX9_cause_67 : decode cX9_cause 67 = .ok (.ireturn, 1) := by decide +kernel
theorem dX9_areDays_0 : decode cX9_areDays 0 = .ok (.iload_n 0, 1) := by decide +kernel
theorem dX9_areDays_1 : decode cX9_areDays 1 = .ok (.i2l, 1) := by decide +kernel
theorem dX9_areDays_2 : decode cX9_areDays 2 = .ok (.lconst 0, 1) := by decide +kernel
theorem dX9_areDays_3 : decode cX9_areDays 3 = .ok (.ldc2_w 111, 3) := by decide +kernel
theorem dX9_areDays_6 : decode cX9_areDays 6 = .ok (.invokestatic 55, 3) := by decide +kernel
theorem dX9_areDays_9 : decode cX9_areDays 9 = .ok (.ifCond .eq 20, 3) := by decide +kernel
theorem dX9_areDays_12 : decode cX9_areDays 12 = .ok (.iload_n 1, 1) := by decide +kernel
theorem dX9_areDays_13 : decode cX9_areDays 13 = .ok (.i2l, 1) := by decide +kernel
theorem dX9_areDays_14 : decode cX9_areDays 14 = .ok (.iload_n 0, 1) := by decide +kernel
theorem dX9_areDays_15 : decode cX9_areDays 15 = .ok (.i2l, 1) := by decide +kernel
theorem dX9_areDays_16 : decode cX9_areDays 16 = .ok (.ldc2_w 111, 3) := by decide +kernel
theorem dX9_areDays_19 : decode cX9_areDays 19 = .ok (.invokestatic 55, 3) := by decide +kernel
theorem dX9_areDays_22 : decode cX9_areDays 22 = .ok (.ifCond .eq 7, 3) := by decide +kernel
theorem dX9_areDays_25 : decode cX9_areDays 25 = .ok (.iconst 1, 1) := by decide +kernel
theorem dX9_areDays_26 : decode cX9_areDays 26 = .ok (.goto 4, 3) := by decide +kernel
theorem dX9_areDays_29 : decode cX9_areDays 29 = .ok (.iconst 0, 1) := by decide +kernel
theorem dX9_areDays_30 : decode cX9_areDays 30 = .ok (.ireturn, 1) := by decide +kernel
theorem dX9_tellRecall_0 : decode cX9_tellRecall 0 = .ok (.sipush 150, 3) := by decide +kernel
theorem dX9_tellRecall_3 : decode cX9_tellRecall 3 = .ok (.iconst 3, 1) := by decide +kernel
theorem dX9_tellRecall_4 : decode cX9_tellRecall 4 = .ok (.aload_n 0, 1) := by decide +kernel
theorem dX9_tellRecall_5 : decode cX9_tellRecall 5 = .ok (.getfield 9, 3) := by decide +kernel
theorem dX9_tellRecall_8 : decode cX9_tellRecall 8 = .ok (.iconst 4, 1) := by decide +kernel
theorem dX9_tellRecall_9 : decode cX9_tellRecall 9 = .ok (.laload, 1) := by decide +kernel
theorem dX9_tellRecall_10 : decode cX9_tellRecall 10 = .ok (.l2i, 1) := by decide +kernel
theorem dX9_tellRecall_11 : decode cX9_tellRecall 11 = .ok (.imul, 1) := by decide +kernel
theorem dX9_tellRecall_12 : decode cX9_tellRecall 12 = .ok (.iadd, 1) := by decide +kernel
theorem dX9_tellRecall_13 : decode cX9_tellRecall 13 = .ok (.istore 4, 2) := by decide +kernel
theorem dX9_tellRecall_15 : decode cX9_tellRecall 15 = .ok (.aload_n 0, 1) := by decide +kernel
theorem dX9_tellRecall_16 : decode cX9_tellRecall 16 = .ok (.getfield 9, 3) := by decide +kernel
theorem dX9_tellRecall_19 : decode cX9_tellRecall 19 = .ok (.iload 4, 2) := by decide +kernel
theorem dX9_tellRecall_21 : decode cX9_tellRecall 21 = .ok (.iload_n 1, 1) := by decide +kernel
theorem dX9_tellRecall_22 : decode cX9_tellRecall 22 = .ok (.i2l, 1) := by decide +kernel
theorem dX9_tellRecall_23 : decode cX9_tellRecall 23 = .ok (.lastore, 1) := by decide +kernel
theorem dX9_tellRecall_24 : decode cX9_tellRecall 24 = .ok (.aload_n 0, 1) := by decide +kernel
theorem dX9_tellRecall_25 : decode cX9_tellRecall 25 = .ok (.getfield 9, 3) := by decide +kernel
theorem dX9_tellRecall_28 : decode cX9_tellRecall 28 = .ok (.iload 4, 2) := by decide +kernel
theorem dX9_tellRecall_30 : decode cX9_tellRecall 30 = .ok (.iconst 1, 1) := by decide +kernel
theorem dX9_tellRecall_31 : decode cX9_tellRecall 31 = .ok (.iadd, 1) := by decide +kernel
theorem dX9_tellRecall_32 : decode cX9_tellRecall 32 = .ok (.iload_n 2, 1) := by decide +kernel
theorem dX9_tellRecall_33 : decode cX9_tellRecall 33 = .ok (.i2l, 1) := by decide +kernel
theorem dX9_tellRecall_34 : decode cX9_tellRecall 34 = .ok (.lastore, 1) := by decide +kernel
theorem dX9_tellRecall_35 : decode cX9_tellRecall 35 = .ok (.aload_n 0, 1) := by decide +kernel
theorem dX9_tellRecall_36 : decode cX9_tellRecall 36 = .ok (.getfield 9, 3) := by decide +kernel
theorem dX9_tellRecall_39 : decode cX9_tellRecall 39 = .ok (.iload 4, 2) := by decide +kernel
theorem dX9_tellRecall_41 : decode cX9_tellRecall 41 = .ok (.iconst 2, 1) := by decide +kernel
theorem dX9_tellRecall_42 : decode cX9_tellRecall 42 = .ok (.iadd, 1) := by decide +kernel
theorem dX9_tellRecall_43 : decode cX9_tellRecall 43 = .ok (.iload_n 3, 1) := by decide +kernel
theorem dX9_tellRecall_44 : decode cX9_tellRecall 44 = .ok (.i2l, 1) := by decide +kernel
theorem dX9_tellRecall_45 : decode cX9_tellRecall 45 = .ok (.lastore, 1) := by decide +kernel
theorem dX9_tellRecall_46 : decode cX9_tellRecall 46 = .ok (.aload_n 0, 1) := by decide +kernel
theorem dX9_tellRecall_47 : decode cX9_tellRecall 47 = .ok (.getfield 9, 3) := by decide +kernel
theorem dX9_tellRecall_50 : decode cX9_tellRecall 50 = .ok (.iconst 4, 1) := by decide +kernel
theorem dX9_tellRecall_51 : decode cX9_tellRecall 51 = .ok (.dup2, 1) := by decide +kernel
theorem dX9_tellRecall_52 : decode cX9_tellRecall 52 = .ok (.laload, 1) := by decide +kernel
theorem dX9_tellRecall_53 : decode cX9_tellRecall 53 = .ok (.lconst 1, 1) := by decide +kernel
theorem dX9_tellRecall_54 : decode cX9_tellRecall 54 = .ok (.ladd, 1) := by decide +kernel
theorem dX9_tellRecall_55 : decode cX9_tellRecall 55 = .ok (.lastore, 1) := by decide +kernel
theorem dX9_tellRecall_56 : decode cX9_tellRecall 56 = .ok (.return_, 1) := by decide +kernel
theorem dX9_recall_0 : decode cX9_recall 0 = .ok (.aload_n 0, 1) := by decide +kernel
theorem dX9_recall_1 : decode cX9_recall 1 = .ok (.iload_n 1, 1) := by decide +kernel
theorem dX9_recall_2 : decode cX9_recall 2 = .ok (.invokevirtual 82, 3) := by decide +kernel
theorem dX9_recall_5 : decode cX9_recall 5 = .ok (.ifCond .ne 9, 3) := by decide +kernel
theorem dX9_recall_8 : decode cX9_recall 8 = .ok (.aload_n 0, 1) := by decide +kernel
theorem dX9_recall_9 : decode cX9_recall 9 = .ok (.iconst 1, 1) := by decide +kernel
theorem dX9_recall_10 : decode cX9_recall 10 = .ok (.invokevirtual 63, 3) := by decide +kernel
theorem dX9_recall_13 : decode cX9_recall 13 = .ok (.ireturn, 1) := by decide +kernel
theorem dX9_recall_14 : decode cX9_recall 14 = .ok (.iload_n 2, 1) := by decide +kernel
theorem dX9_recall_15 : decode cX9_recall 15 = .ok (.iload_n 3, 1) := by decide +kernel
theorem dX9_recall_16 : decode cX9_recall 16 = .ok (.invokestatic 203, 3) := by decide +kernel
theorem dX9_recall_19 : decode cX9_recall 19 = .ok (.ifCond .ne 9, 3) := by decide +kernel
theorem dX9_recall_22 : decode cX9_recall 22 = .ok (.aload_n 0, 1) := by decide +kernel
theorem dX9_recall_23 : decode cX9_recall 23 = .ok (.iconst 2, 1) := by decide +kernel
theorem dX9_recall_24 : decode cX9_recall 24 = .ok (.invokevirtual 63, 3) := by decide +kernel
theorem dX9_recall_27 : decode cX9_recall 27 = .ok (.ireturn, 1) := by decide +kernel
theorem dX9_recall_28 : decode cX9_recall 28 = .ok (.aload_n 0, 1) := by decide +kernel
theorem dX9_recall_29 : decode cX9_recall 29 = .ok (.getfield 9, 3) := by decide +kernel
theorem dX9_recall_32 : decode cX9_recall 32 = .ok (.iconst 4, 1) := by decide +kernel
theorem dX9_recall_33 : decode cX9_recall 33 = .ok (.laload, 1) := by decide +kernel
theorem dX9_recall_34 : decode cX9_recall 34 = .ok (.ldc2_w 206, 3) := by decide +kernel
theorem dX9_recall_37 : decode cX9_recall 37 = .ok (.lcmp, 1) := by decide +kernel
theorem dX9_recall_38 : decode cX9_recall 38 = .ok (.ifCond .ne 9, 3) := by decide +kernel
theorem dX9_recall_41 : decode cX9_recall 41 = .ok (.aload_n 0, 1) := by decide +kernel
theorem dX9_recall_42 : decode cX9_recall 42 = .ok (.iconst 3, 1) := by decide +kernel
theorem dX9_recall_43 : decode cX9_recall 43 = .ok (.invokevirtual 63, 3) := by decide +kernel
theorem dX9_recall_46 : decode cX9_recall 46 = .ok (.ireturn, 1) := by decide +kernel
theorem dX9_recall_47 : decode cX9_recall 47 = .ok (.aload_n 0, 1) := by decide +kernel
theorem dX9_recall_48 : decode cX9_recall 48 = .ok (.invokevirtual 73, 3) := by decide +kernel
theorem dX9_recall_51 : decode cX9_recall 51 = .ok (.aload_n 0, 1) := by decide +kernel
theorem dX9_recall_52 : decode cX9_recall 52 = .ok (.iload_n 1, 1) := by decide +kernel
theorem dX9_recall_53 : decode cX9_recall 53 = .ok (.iload_n 2, 1) := by decide +kernel
theorem dX9_recall_54 : decode cX9_recall 54 = .ok (.iload_n 3, 1) := by decide +kernel
theorem dX9_recall_55 : decode cX9_recall 55 = .ok (.invokevirtual 208, 3) := by decide +kernel
theorem dX9_recall_58 : decode cX9_recall 58 = .ok (.aload_n 0, 1) := by decide +kernel
theorem dX9_recall_59 : decode cX9_recall 59 = .ok (.aload_n 0, 1) := by decide +kernel
theorem dX9_recall_60 : decode cX9_recall 60 = .ok (.getfield 9, 3) := by decide +kernel
theorem dX9_recall_63 : decode cX9_recall 63 = .ok (.iconst 4, 1) := by decide +kernel
theorem dX9_recall_64 : decode cX9_recall 64 = .ok (.laload, 1) := by decide +kernel
theorem dX9_recall_65 : decode cX9_recall 65 = .ok (.lconst 1, 1) := by decide +kernel
theorem dX9_recall_66 : decode cX9_recall 66 = .ok (.lsub, 1) := by decide +kernel
theorem dX9_recall_67 : decode cX9_recall 67 = .ok (.invokevirtual 78, 3) := by decide +kernel
theorem dX9_recall_70 : decode cX9_recall 70 = .ok (.ireturn, 1) := by decide +kernel
theorem dX9_lift_0 : decode cX9_lift 0 = .ok (.iload_n 1, 1) := by decide +kernel
theorem dX9_lift_1 : decode cX9_lift 1 = .ok (.i2l, 1) := by decide +kernel
theorem dX9_lift_2 : decode cX9_lift 2 = .ok (.lconst 0, 1) := by decide +kernel
theorem dX9_lift_3 : decode cX9_lift 3 = .ok (.aload_n 0, 1) := by decide +kernel
theorem dX9_lift_4 : decode cX9_lift 4 = .ok (.getfield 9, 3) := by decide +kernel
theorem dX9_lift_7 : decode cX9_lift 7 = .ok (.iconst 4, 1) := by decide +kernel
theorem dX9_lift_8 : decode cX9_lift 8 = .ok (.laload, 1) := by decide +kernel
theorem dX9_lift_9 : decode cX9_lift 9 = .ok (.lconst 1, 1) := by decide +kernel
theorem dX9_lift_10 : decode cX9_lift 10 = .ok (.lsub, 1) := by decide +kernel
theorem dX9_lift_11 : decode cX9_lift 11 = .ok (.invokestatic 55, 3) := by decide +kernel
theorem dX9_lift_14 : decode cX9_lift 14 = .ok (.ifCond .ne 9, 3) := by decide +kernel
theorem dX9_lift_17 : decode cX9_lift 17 = .ok (.aload_n 0, 1) := by decide +kernel
theorem dX9_lift_18 : decode cX9_lift 18 = .ok (.iconst 1, 1) := by decide +kernel
theorem dX9_lift_19 : decode cX9_lift 19 = .ok (.invokevirtual 63, 3) := by decide +kernel
theorem dX9_lift_22 : decode cX9_lift 22 = .ok (.ireturn, 1) := by decide +kernel
theorem dX9_lift_23 : decode cX9_lift 23 = .ok (.aload_n 0, 1) := by decide +kernel
theorem dX9_lift_24 : decode cX9_lift 24 = .ok (.invokevirtual 73, 3) := by decide +kernel
theorem dX9_lift_27 : decode cX9_lift 27 = .ok (.aload_n 0, 1) := by decide +kernel
theorem dX9_lift_28 : decode cX9_lift 28 = .ok (.getfield 9, 3) := by decide +kernel
theorem dX9_lift_31 : decode cX9_lift 31 = .ok (.iconst 4, 1) := by decide +kernel
theorem dX9_lift_32 : decode cX9_lift 32 = .ok (.dup2, 1) := by decide +kernel
theorem dX9_lift_33 : decode cX9_lift 33 = .ok (.laload, 1) := by decide +kernel
theorem dX9_lift_34 : decode cX9_lift 34 = .ok (.lconst 1, 1) := by decide +kernel
theorem dX9_lift_35 : decode cX9_lift 35 = .ok (.lsub, 1) := by decide +kernel
theorem dX9_lift_36 : decode cX9_lift 36 = .ok (.lastore, 1) := by decide +kernel
theorem dX9_lift_37 : decode cX9_lift 37 = .ok (.iconst 3, 1) := by decide +kernel
theorem dX9_lift_38 : decode cX9_lift 38 = .ok (.iload_n 1, 1) := by decide +kernel
theorem dX9_lift_39 : decode cX9_lift 39 = .ok (.imul, 1) := by decide +kernel
theorem dX9_lift_40 : decode cX9_lift 40 = .ok (.istore_n 2, 1) := by decide +kernel
theorem dX9_lift_41 : decode cX9_lift 41 = .ok (.iload_n 2, 1) := by decide +kernel
theorem dX9_lift_42 : decode cX9_lift 42 = .ok (.i2l, 1) := by decide +kernel
theorem dX9_lift_43 : decode cX9_lift 43 = .ok (.ldc2_w 61, 3) := by decide +kernel
theorem dX9_lift_46 : decode cX9_lift 46 = .ok (.aload_n 0, 1) := by decide +kernel
theorem dX9_lift_47 : decode cX9_lift 47 = .ok (.getfield 9, 3) := by decide +kernel
theorem dX9_lift_50 : decode cX9_lift 50 = .ok (.iconst 4, 1) := by decide +kernel
theorem dX9_lift_51 : decode cX9_lift 51 = .ok (.laload, 1) := by decide +kernel
theorem dX9_lift_52 : decode cX9_lift 52 = .ok (.lmul, 1) := by decide +kernel
theorem dX9_lift_53 : decode cX9_lift 53 = .ok (.lcmp, 1) := by decide +kernel
theorem dX9_lift_54 : decode cX9_lift 54 = .ok (.ifCond .ge 31, 3) := by decide +kernel
theorem dX9_lift_57 : decode cX9_lift 57 = .ok (.aload_n 0, 1) := by decide +kernel
theorem dX9_lift_58 : decode cX9_lift 58 = .ok (.getfield 9, 3) := by decide +kernel
theorem dX9_lift_61 : decode cX9_lift 61 = .ok (.sipush 150, 3) := by decide +kernel
theorem dX9_lift_64 : decode cX9_lift 64 = .ok (.iload_n 2, 1) := by decide +kernel
theorem dX9_lift_65 : decode cX9_lift 65 = .ok (.iadd, 1) := by decide +kernel
theorem dX9_lift_66 : decode cX9_lift 66 = .ok (.aload_n 0, 1) := by decide +kernel
theorem dX9_lift_67 : decode cX9_lift 67 = .ok (.getfield 9, 3) := by decide +kernel
theorem dX9_lift_70 : decode cX9_lift 70 = .ok (.sipush 150, 3) := by decide +kernel
theorem dX9_lift_73 : decode cX9_lift 73 = .ok (.iload_n 2, 1) := by decide +kernel
theorem dX9_lift_74 : decode cX9_lift 74 = .ok (.iadd, 1) := by decide +kernel
theorem dX9_lift_75 : decode cX9_lift 75 = .ok (.iconst 3, 1) := by decide +kernel
theorem dX9_lift_76 : decode cX9_lift 76 = .ok (.iadd, 1) := by decide +kernel
theorem dX9_lift_77 : decode cX9_lift 77 = .ok (.laload, 1) := by decide +kernel
theorem dX9_lift_78 : decode cX9_lift 78 = .ok (.lastore, 1) := by decide +kernel
theorem dX9_lift_79 : decode cX9_lift 79 = .ok (.iinc 2 1, 3) := by decide +kernel
theorem dX9_lift_82 : decode cX9_lift 82 = .ok (.goto (-41), 3) := by decide +kernel
theorem dX9_lift_85 : decode cX9_lift 85 = .ok (.aload_n 0, 1) := by decide +kernel
theorem dX9_lift_86 : decode cX9_lift 86 = .ok (.aload_n 0, 1) := by decide +kernel
theorem dX9_lift_87 : decode cX9_lift 87 = .ok (.getfield 9, 3) := by decide +kernel
theorem dX9_lift_90 : decode cX9_lift 90 = .ok (.iconst 4, 1) := by decide +kernel
theorem dX9_lift_91 : decode cX9_lift 91 = .ok (.laload, 1) := by decide +kernel
theorem dX9_lift_92 : decode cX9_lift 92 = .ok (.invokevirtual 78, 3) := by decide +kernel
theorem dX9_lift_95 : decode cX9_lift 95 = .ok (.ireturn, 1) := by decide +kernel
theorem dX9_recalled_0 : decode cX9_recalled 0 = .ok (.iload_n 1, 1) := by decide +kernel
theorem dX9_recalled_1 : decode cX9_recalled 1 = .ok (.i2l, 1) := by decide +kernel
theorem dX9_recalled_2 : decode cX9_recalled 2 = .ok (.lconst 0, 1) := by decide +kernel
theorem dX9_recalled_3 : decode cX9_recalled 3 = .ok (.aload_n 0, 1) := by decide +kernel
theorem dX9_recalled_4 : decode cX9_recalled 4 = .ok (.getfield 9, 3) := by decide +kernel
theorem dX9_recalled_7 : decode cX9_recalled 7 = .ok (.iconst 4, 1) := by decide +kernel
theorem dX9_recalled_8 : decode cX9_recalled 8 = .ok (.laload, 1) := by decide +kernel
theorem dX9_recalled_9 : decode cX9_recalled 9 = .ok (.lconst 1, 1) := by decide +kernel
theorem dX9_recalled_10 : decode cX9_recalled 10 = .ok (.lsub, 1) := by decide +kernel
theorem dX9_recalled_11 : decode cX9_recalled 11 = .ok (.invokestatic 55, 3) := by decide +kernel
theorem dX9_recalled_14 : decode cX9_recalled 14 = .ok (.ifCond .ne 9, 3) := by decide +kernel
theorem dX9_recalled_17 : decode cX9_recalled 17 = .ok (.aload_n 0, 1) := by decide +kernel
theorem dX9_recalled_18 : decode cX9_recalled 18 = .ok (.iconst 1, 1) := by decide +kernel
theorem dX9_recalled_19 : decode cX9_recalled 19 = .ok (.invokevirtual 63, 3) := by decide +kernel
theorem dX9_recalled_22 : decode cX9_recalled 22 = .ok (.ireturn, 1) := by decide +kernel
theorem dX9_recalled_23 : decode cX9_recalled 23 = .ok (.iload_n 2, 1) := by decide +kernel
theorem dX9_recalled_24 : decode cX9_recalled 24 = .ok (.i2l, 1) := by decide +kernel
theorem dX9_recalled_25 : decode cX9_recalled 25 = .ok (.lconst 0, 1) := by decide +kernel
theorem dX9_recalled_26 : decode cX9_recalled 26 = .ok (.ldc2_w 61, 3) := by decide +kernel
theorem dX9_recalled_29 : decode cX9_recalled 29 = .ok (.invokestatic 55, 3) := by decide +kernel
theorem dX9_recalled_32 : decode cX9_recalled 32 = .ok (.ifCond .ne 9, 3) := by decide +kernel
theorem dX9_recalled_35 : decode cX9_recalled 35 = .ok (.aload_n 0, 1) := by decide +kernel
theorem dX9_recalled_36 : decode cX9_recalled 36 = .ok (.iconst 2, 1) := by decide +kernel
theorem dX9_recalled_37 : decode cX9_recalled 37 = .ok (.invokevirtual 63, 3) := by decide +kernel
theorem dX9_recalled_40 : decode cX9_recalled 40 = .ok (.ireturn, 1) := by decide +kernel
theorem dX9_recalled_41 : decode cX9_recalled 41 = .ok (.sipush 150, 3) := by decide +kernel
theorem dX9_recalled_44 : decode cX9_recalled 44 = .ok (.iconst 3, 1) := by decide +kernel
theorem dX9_recalled_45 : decode cX9_recalled 45 = .ok (.iload_n 1, 1) := by decide +kernel
theorem dX9_recalled_46 : decode cX9_recalled 46 = .ok (.imul, 1) := by decide +kernel
theorem dX9_recalled_47 : decode cX9_recalled 47 = .ok (.iadd, 1) := by decide +kernel
theorem dX9_recalled_48 : decode cX9_recalled 48 = .ok (.istore_n 3, 1) := by decide +kernel
theorem dX9_recalled_49 : decode cX9_recalled 49 = .ok (.iload_n 2, 1) := by decide +kernel
theorem dX9_recalled_50 : decode cX9_recalled 50 = .ok (.iconst 3, 1) := by decide +kernel
theorem dX9_recalled_51 : decode cX9_recalled 51 = .ok (.if_icmp .ge 16, 3) := by decide +kernel
theorem dX9_recalled_54 : decode cX9_recalled 54 = .ok (.aload_n 0, 1) := by decide +kernel
theorem dX9_recalled_55 : decode cX9_recalled 55 = .ok (.aload_n 0, 1) := by decide +kernel
theorem dX9_recalled_56 : decode cX9_recalled 56 = .ok (.getfield 9, 3) := by decide +kernel
theorem dX9_recalled_59 : decode cX9_recalled 59 = .ok (.iload_n 3, 1) := by decide +kernel
theorem dX9_recalled_60 : decode cX9_recalled 60 = .ok (.iload_n 2, 1) := by decide +kernel
theorem dX9_recalled_61 : decode cX9_recalled 61 = .ok (.iadd, 1) := by decide +kernel
theorem dX9_recalled_62 : decode cX9_recalled 62 = .ok (.laload, 1) := by decide +kernel
theorem dX9_recalled_63 : decode cX9_recalled 63 = .ok (.invokevirtual 78, 3) := by decide +kernel
theorem dX9_recalled_66 : decode cX9_recalled 66 = .ok (.ireturn, 1) := by decide +kernel
theorem dX9_recalled_67 : decode cX9_recalled 67 = .ok (.iconst 0, 1) := by decide +kernel
theorem dX9_recalled_68 : decode cX9_recalled 68 = .ok (.istore 4, 2) := by decide +kernel
theorem dX9_recalled_70 : decode cX9_recalled 70 = .ok (.iconst 0, 1) := by decide +kernel
theorem dX9_recalled_71 : decode cX9_recalled 71 = .ok (.istore 5, 2) := by decide +kernel
theorem dX9_recalled_73 : decode cX9_recalled 73 = .ok (.iload 5, 2) := by decide +kernel
theorem dX9_recalled_75 : decode cX9_recalled 75 = .ok (.i2l, 1) := by decide +kernel
theorem dX9_recalled_76 : decode cX9_recalled 76 = .ok (.aload_n 0, 1) := by decide +kernel
theorem dX9_recalled_77 : decode cX9_recalled 77 = .ok (.getfield 9, 3) := by decide +kernel
theorem dX9_recalled_80 : decode cX9_recalled 80 = .ok (.iconst 2, 1) := by decide +kernel
theorem dX9_recalled_81 : decode cX9_recalled 81 = .ok (.laload, 1) := by decide +kernel
theorem dX9_recalled_82 : decode cX9_recalled 82 = .ok (.lcmp, 1) := by decide +kernel
theorem dX9_recalled_83 : decode cX9_recalled 83 = .ok (.ifCond .ge 50, 3) := by decide +kernel
theorem dX9_recalled_86 : decode cX9_recalled 86 = .ok (.iload 4, 2) := by decide +kernel
theorem dX9_recalled_88 : decode cX9_recalled 88 = .ok (.aload_n 0, 1) := by decide +kernel
theorem dX9_recalled_89 : decode cX9_recalled 89 = .ok (.iload 5, 2) := by decide +kernel
theorem dX9_recalled_91 : decode cX9_recalled 91 = .ok (.aload_n 0, 1) := by decide +kernel
theorem dX9_recalled_92 : decode cX9_recalled 92 = .ok (.getfield 9, 3) := by decide +kernel
theorem dX9_recalled_95 : decode cX9_recalled 95 = .ok (.iload_n 3, 1) := by decide +kernel
theorem dX9_recalled_96 : decode cX9_recalled 96 = .ok (.laload, 1) := by decide +kernel
theorem dX9_recalled_97 : decode cX9_recalled 97 = .ok (.aload_n 0, 1) := by decide +kernel
theorem dX9_recalled_98 : decode cX9_recalled 98 = .ok (.getfield 9, 3) := by decide +kernel
theorem dX9_recalled_101 : decode cX9_recalled 101 = .ok (.iload_n 3, 1) := by decide +kernel
theorem dX9_recalled_102 : decode cX9_recalled 102 = .ok (.iconst 1, 1) := by decide +kernel
theorem dX9_recalled_103 : decode cX9_recalled 103 = .ok (.iadd, 1) := by decide +kernel
theorem dX9_recalled_104 : decode cX9_recalled 104 = .ok (.laload, 1) := by decide +kernel
theorem dX9_recalled_105 : decode cX9_recalled 105 = .ok (.aload_n 0, 1) := by decide +kernel
theorem dX9_recalled_106 : decode cX9_recalled 106 = .ok (.getfield 9, 3) := by decide +kernel
theorem dX9_recalled_109 : decode cX9_recalled 109 = .ok (.iload_n 3, 1) := by decide +kernel
theorem dX9_recalled_110 : decode cX9_recalled 110 = .ok (.iconst 2, 1) := by decide +kernel
theorem dX9_recalled_111 : decode cX9_recalled 111 = .ok (.iadd, 1) := by decide +kernel
theorem dX9_recalled_112 : decode cX9_recalled 112 = .ok (.laload, 1) := by decide +kernel
theorem dX9_recalled_113 : decode cX9_recalled 113 = .ok (.invokevirtual 123, 3) := by decide +kernel
theorem dX9_recalled_116 : decode cX9_recalled 116 = .ok (.ifCond .eq 7, 3) := by decide +kernel
theorem dX9_recalled_119 : decode cX9_recalled 119 = .ok (.iconst 1, 1) := by decide +kernel
theorem dX9_recalled_120 : decode cX9_recalled 120 = .ok (.goto 4, 3) := by decide +kernel
theorem dX9_recalled_123 : decode cX9_recalled 123 = .ok (.iconst 0, 1) := by decide +kernel
theorem dX9_recalled_124 : decode cX9_recalled 124 = .ok (.iadd, 1) := by decide +kernel
theorem dX9_recalled_125 : decode cX9_recalled 125 = .ok (.istore 4, 2) := by decide +kernel
theorem dX9_recalled_127 : decode cX9_recalled 127 = .ok (.iinc 5 1, 3) := by decide +kernel
theorem dX9_recalled_130 : decode cX9_recalled 130 = .ok (.goto (-57), 3) := by decide +kernel
theorem dX9_recalled_133 : decode cX9_recalled 133 = .ok (.aload_n 0, 1) := by decide +kernel
theorem dX9_recalled_134 : decode cX9_recalled 134 = .ok (.iload 4, 2) := by decide +kernel
theorem dX9_recalled_136 : decode cX9_recalled 136 = .ok (.i2l, 1) := by decide +kernel
theorem dX9_recalled_137 : decode cX9_recalled 137 = .ok (.invokevirtual 78, 3) := by decide +kernel
theorem dX9_recalled_140 : decode cX9_recalled 140 = .ok (.ireturn, 1) := by decide +kernel
theorem dX9_goodMany_0 : decode cX9_goodMany 0 = .ok (.iconst 0, 1) := by decide +kernel
theorem dX9_goodMany_1 : decode cX9_goodMany 1 = .ok (.istore_n 1, 1) := by decide +kernel
theorem dX9_goodMany_2 : decode cX9_goodMany 2 = .ok (.iconst 0, 1) := by decide +kernel
theorem dX9_goodMany_3 : decode cX9_goodMany 3 = .ok (.istore_n 2, 1) := by decide +kernel
theorem dX9_goodMany_4 : decode cX9_goodMany 4 = .ok (.iload_n 2, 1) := by decide +kernel
theorem dX9_goodMany_5 : decode cX9_goodMany 5 = .ok (.i2l, 1) := by decide +kernel
theorem dX9_goodMany_6 : decode cX9_goodMany 6 = .ok (.aload_n 0, 1) := by decide +kernel
theorem dX9_goodMany_7 : decode cX9_goodMany 7 = .ok (.getfield 9, 3) := by decide +kernel
theorem dX9_goodMany_10 : decode cX9_goodMany 10 = .ok (.iconst 2, 1) := by decide +kernel
theorem dX9_goodMany_11 : decode cX9_goodMany 11 = .ok (.laload, 1) := by decide +kernel
theorem dX9_goodMany_12 : decode cX9_goodMany 12 = .ok (.lcmp, 1) := by decide +kernel
theorem dX9_goodMany_13 : decode cX9_goodMany 13 = .ok (.ifCond .ge 25, 3) := by decide +kernel
theorem dX9_goodMany_16 : decode cX9_goodMany 16 = .ok (.iload_n 1, 1) := by decide +kernel
theorem dX9_goodMany_17 : decode cX9_goodMany 17 = .ok (.aload_n 0, 1) := by decide +kernel
theorem dX9_goodMany_18 : decode cX9_goodMany 18 = .ok (.iload_n 2, 1) := by decide +kernel
theorem dX9_goodMany_19 : decode cX9_goodMany 19 = .ok (.invokevirtual 130, 3) := by decide +kernel
theorem dX9_goodMany_22 : decode cX9_goodMany 22 = .ok (.ifCond .eq 7, 3) := by decide +kernel
theorem dX9_goodMany_25 : decode cX9_goodMany 25 = .ok (.iconst 1, 1) := by decide +kernel
theorem dX9_goodMany_26 : decode cX9_goodMany 26 = .ok (.goto 4, 3) := by decide +kernel
theorem dX9_goodMany_29 : decode cX9_goodMany 29 = .ok (.iconst 0, 1) := by decide +kernel
theorem dX9_goodMany_30 : decode cX9_goodMany 30 = .ok (.iadd, 1) := by decide +kernel
theorem dX9_goodMany_31 : decode cX9_goodMany 31 = .ok (.istore_n 1, 1) := by decide +kernel
theorem dX9_goodMany_32 : decode cX9_goodMany 32 = .ok (.iinc 2 1, 3) := by decide +kernel
theorem dX9_goodMany_35 : decode cX9_goodMany 35 = .ok (.goto (-31), 3) := by decide +kernel
theorem dX9_goodMany_38 : decode cX9_goodMany 38 = .ok (.iload_n 1, 1) := by decide +kernel
theorem dX9_goodMany_39 : decode cX9_goodMany 39 = .ok (.ireturn, 1) := by decide +kernel
theorem dX9_reach_0 : decode cX9_reach 0 = .ok (.aload_n 0, 1) := by decide +kernel
theorem dX9_reach_1 : decode cX9_reach 1 = .ok (.iload_n 1, 1) := by decide +kernel
theorem dX9_reach_2 : decode cX9_reach 2 = .ok (.invokevirtual 82, 3) := by decide +kernel
theorem dX9_reach_5 : decode cX9_reach 5 = .ok (.ifCond .ne 9, 3) := by decide +kernel
theorem dX9_reach_8 : decode cX9_reach 8 = .ok (.aload_n 0, 1) := by decide +kernel
theorem dX9_reach_9 : decode cX9_reach 9 = .ok (.iconst 1, 1) := by decide +kernel
theorem dX9_reach_10 : decode cX9_reach 10 = .ok (.invokevirtual 63, 3) := by decide +kernel
theorem dX9_reach_13 : decode cX9_reach 13 = .ok (.ireturn, 1) := by decide +kernel
theorem dX9_reach_14 : decode cX9_reach 14 = .ok (.iload_n 2, 1) := by decide +kernel
theorem dX9_reach_15 : decode cX9_reach 15 = .ok (.iload_n 3, 1) := by decide +kernel
theorem dX9_reach_16 : decode cX9_reach 16 = .ok (.invokestatic 203, 3) := by decide +kernel
theorem dX9_reach_19 : decode cX9_reach 19 = .ok (.ifCond .ne 9, 3) := by decide +kernel
theorem dX9_reach_22 : decode cX9_reach 22 = .ok (.aload_n 0, 1) := by decide +kernel
theorem dX9_reach_23 : decode cX9_reach 23 = .ok (.iconst 2, 1) := by decide +kernel
theorem dX9_reach_24 : decode cX9_reach 24 = .ok (.invokevirtual 63, 3) := by decide +kernel
theorem dX9_reach_27 : decode cX9_reach 27 = .ok (.ireturn, 1) := by decide +kernel
theorem dX9_reach_28 : decode cX9_reach 28 = .ok (.iconst 0, 1) := by decide +kernel
theorem dX9_reach_29 : decode cX9_reach 29 = .ok (.istore 4, 2) := by decide +kernel
theorem dX9_reach_31 : decode cX9_reach 31 = .ok (.iconst 0, 1) := by decide +kernel
theorem dX9_reach_32 : decode cX9_reach 32 = .ok (.istore 5, 2) := by decide +kernel
theorem dX9_reach_34 : decode cX9_reach 34 = .ok (.iload 5, 2) := by decide +kernel
theorem dX9_reach_36 : decode cX9_reach 36 = .ok (.i2l, 1) := by decide +kernel
theorem dX9_reach_37 : decode cX9_reach 37 = .ok (.aload_n 0, 1) := by decide +kernel
theorem dX9_reach_38 : decode cX9_reach 38 = .ok (.getfield 9, 3) := by decide +kernel
theorem dX9_reach_41 : decode cX9_reach 41 = .ok (.iconst 2, 1) := by decide +kernel
theorem dX9_reach_42 : decode cX9_reach 42 = .ok (.laload, 1) := by decide +kernel
theorem dX9_reach_43 : decode cX9_reach 43 = .ok (.lcmp, 1) := by decide +kernel
theorem dX9_reach_44 : decode cX9_reach 44 = .ok (.ifCond .ge 86, 3) := by decide +kernel
theorem dX9_reach_47 : decode cX9_reach 47 = .ok (.iconst 0, 1) := by decide +kernel
theorem dX9_reach_48 : decode cX9_reach 48 = .ok (.istore 6, 2) := by decide +kernel
theorem dX9_reach_50 : decode cX9_reach 50 = .ok (.iload 5, 2) := by decide +kernel
theorem dX9_reach_52 : decode cX9_reach 52 = .ok (.istore 7, 2) := by decide +kernel
theorem dX9_reach_54 : decode cX9_reach 54 = .ok (.iload 7, 2) := by decide +kernel
theorem dX9_reach_56 : decode cX9_reach 56 = .ok (.iconst (-1), 1) := by decide +kernel
theorem dX9_reach_57 : decode cX9_reach 57 = .ok (.if_icmp .eq 43, 3) := by decide +kernel
theorem dX9_reach_60 : decode cX9_reach 60 = .ok (.iload 6, 2) := by decide +kernel
theorem dX9_reach_62 : decode cX9_reach 62 = .ok (.ifCond .ne 18, 3) := by decide +kernel
theorem dX9_reach_65 : decode cX9_reach 65 = .ok (.aload_n 0, 1) := by decide +kernel
theorem dX9_reach_66 : decode cX9_reach 66 = .ok (.iload 7, 2) := by decide +kernel
theorem dX9_reach_68 : decode cX9_reach 68 = .ok (.iload_n 1, 1) := by decide +kernel
theorem dX9_reach_69 : decode cX9_reach 69 = .ok (.i2l, 1) := by decide +kernel
theorem dX9_reach_70 : decode cX9_reach 70 = .ok (.iload_n 2, 1) := by decide +kernel
theorem dX9_reach_71 : decode cX9_reach 71 = .ok (.i2l, 1) := by decide +kernel
theorem dX9_reach_72 : decode cX9_reach 72 = .ok (.iload_n 3, 1) := by decide +kernel
theorem dX9_reach_73 : decode cX9_reach 73 = .ok (.i2l, 1) := by decide +kernel
theorem dX9_reach_74 : decode cX9_reach 74 = .ok (.invokevirtual 123, 3) := by decide +kernel
theorem dX9_reach_77 : decode cX9_reach 77 = .ok (.ifCond .eq 7, 3) := by decide +kernel
theorem dX9_reach_80 : decode cX9_reach 80 = .ok (.iconst 1, 1) := by decide +kernel
theorem dX9_reach_81 : decode cX9_reach 81 = .ok (.goto 4, 3) := by decide +kernel
theorem dX9_reach_84 : decode cX9_reach 84 = .ok (.iconst 0, 1) := by decide +kernel
theorem dX9_reach_85 : decode cX9_reach 85 = .ok (.istore 6, 2) := by decide +kernel
theorem dX9_reach_87 : decode cX9_reach 87 = .ok (.aload_n 0, 1) := by decide +kernel
theorem dX9_reach_88 : decode cX9_reach 88 = .ok (.iload 7, 2) := by decide +kernel
theorem dX9_reach_90 : decode cX9_reach 90 = .ok (.iconst 2, 1) := by decide +kernel
theorem dX9_reach_91 : decode cX9_reach 91 = .ok (.invokevirtual 99, 3) := by decide +kernel
theorem dX9_reach_94 : decode cX9_reach 94 = .ok (.l2i, 1) := by decide +kernel
theorem dX9_reach_95 : decode cX9_reach 95 = .ok (.istore 7, 2) := by decide +kernel
theorem dX9_reach_97 : decode cX9_reach 97 = .ok (.goto (-43), 3) := by decide +kernel
theorem dX9_reach_100 : decode cX9_reach 100 = .ok (.iload 4, 2) := by decide +kernel
theorem dX9_reach_102 : decode cX9_reach 102 = .ok (.iload 6, 2) := by decide +kernel
theorem dX9_reach_104 : decode cX9_reach 104 = .ok (.ifCond .eq 16, 3) := by decide +kernel
theorem dX9_reach_107 : decode cX9_reach 107 = .ok (.aload_n 0, 1) := by decide +kernel
theorem dX9_reach_108 : decode cX9_reach 108 = .ok (.iload 5, 2) := by decide +kernel
theorem dX9_reach_110 : decode cX9_reach 110 = .ok (.invokevirtual 130, 3) := by decide +kernel
theorem dX9_reach_113 : decode cX9_reach 113 = .ok (.ifCond .eq 7, 3) := by decide +kernel
theorem dX9_reach_116 : decode cX9_reach 116 = .ok (.iconst 1, 1) := by decide +kernel
theorem dX9_reach_117 : decode cX9_reach 117 = .ok (.goto 4, 3) := by decide +kernel
theorem dX9_reach_120 : decode cX9_reach 120 = .ok (.iconst 0, 1) := by decide +kernel
theorem dX9_reach_121 : decode cX9_reach 121 = .ok (.iadd, 1) := by decide +kernel
theorem dX9_reach_122 : decode cX9_reach 122 = .ok (.istore 4, 2) := by decide +kernel
theorem dX9_reach_124 : decode cX9_reach 124 = .ok (.iinc 5 1, 3) := by decide +kernel
theorem dX9_reach_127 : decode cX9_reach 127 = .ok (.goto (-93), 3) := by decide +kernel
theorem dX9_reach_130 : decode cX9_reach 130 = .ok (.aload_n 0, 1) := by decide +kernel
theorem dX9_reach_131 : decode cX9_reach 131 = .ok (.iload 4, 2) := by decide +kernel
theorem dX9_reach_133 : decode cX9_reach 133 = .ok (.i2l, 1) := by decide +kernel
theorem dX9_reach_134 : decode cX9_reach 134 = .ok (.invokevirtual 78, 3) := by decide +kernel
theorem dX9_reach_137 : decode cX9_reach 137 = .ok (.ireturn, 1) := by decide +kernel
theorem dX9_allowance_0 : decode cX9_allowance 0 = .ok (.ldc2_w 59, 3) := by decide +kernel
theorem dX9_allowance_3 : decode cX9_allowance 3 = .ok (.aload_n 0, 1) := by decide +kernel
theorem dX9_allowance_4 : decode cX9_allowance 4 = .ok (.iload_n 1, 1) := by decide +kernel
theorem dX9_allowance_5 : decode cX9_allowance 5 = .ok (.bipush 8, 2) := by decide +kernel
theorem dX9_allowance_7 : decode cX9_allowance 7 = .ok (.invokevirtual 99, 3) := by decide +kernel
theorem dX9_allowance_10 : decode cX9_allowance 10 = .ok (.lmul, 1) := by decide +kernel
theorem dX9_allowance_11 : decode cX9_allowance 11 = .ok (.aload_n 0, 1) := by decide +kernel
theorem dX9_allowance_12 : decode cX9_allowance 12 = .ok (.iload_n 2, 1) := by decide +kernel
theorem dX9_allowance_13 : decode cX9_allowance 13 = .ok (.iconst 3, 1) := by decide +kernel
theorem dX9_allowance_14 : decode cX9_allowance 14 = .ok (.invokevirtual 90, 3) := by decide +kernel
theorem dX9_allowance_17 : decode cX9_allowance 17 = .ok (.lload_n 3, 1) := by decide +kernel
theorem dX9_allowance_18 : decode cX9_allowance 18 = .ok (.aload_n 0, 1) := by decide +kernel
theorem dX9_allowance_19 : decode cX9_allowance 19 = .ok (.iload_n 1, 1) := by decide +kernel
theorem dX9_allowance_20 : decode cX9_allowance 20 = .ok (.iconst 3, 1) := by decide +kernel
theorem dX9_allowance_21 : decode cX9_allowance 21 = .ok (.invokevirtual 99, 3) := by decide +kernel
theorem dX9_allowance_24 : decode cX9_allowance 24 = .ok (.lsub, 1) := by decide +kernel
theorem dX9_allowance_25 : decode cX9_allowance 25 = .ok (.lmul, 1) := by decide +kernel
theorem dX9_allowance_26 : decode cX9_allowance 26 = .ok (.ldc2_w 76, 3) := by decide +kernel
theorem dX9_allowance_29 : decode cX9_allowance 29 = .ok (.invokestatic 115, 3) := by decide +kernel
theorem dX9_allowance_32 : decode cX9_allowance 32 = .ok (.ladd, 1) := by decide +kernel
theorem dX9_allowance_33 : decode cX9_allowance 33 = .ok (.lreturn, 1) := by decide +kernel
theorem dX9_verdict_0 : decode cX9_verdict 0 = .ok (.lload_n 2, 1) := by decide +kernel
theorem dX9_verdict_1 : decode cX9_verdict 1 = .ok (.aload_n 0, 1) := by decide +kernel
theorem dX9_verdict_2 : decode cX9_verdict 2 = .ok (.iload_n 1, 1) := by decide +kernel
theorem dX9_verdict_3 : decode cX9_verdict 3 = .ok (.iconst 4, 1) := by decide +kernel
theorem dX9_verdict_4 : decode cX9_verdict 4 = .ok (.invokevirtual 99, 3) := by decide +kernel
theorem dX9_verdict_7 : decode cX9_verdict 7 = .ok (.lsub, 1) := by decide +kernel
theorem dX9_verdict_8 : decode cX9_verdict 8 = .ok (.invokestatic 133, 3) := by decide +kernel
theorem dX9_verdict_11 : decode cX9_verdict 11 = .ok (.lstore 8, 2) := by decide +kernel
theorem dX9_verdict_13 : decode cX9_verdict 13 = .ok (.lload 8, 2) := by decide +kernel
theorem dX9_verdict_15 : decode cX9_verdict 15 = .ok (.lload 6, 2) := by decide +kernel
theorem dX9_verdict_17 : decode cX9_verdict 17 = .ok (.ladd, 1) := by decide +kernel
theorem dX9_verdict_18 : decode cX9_verdict 18 = .ok (.lload 4, 2) := by decide +kernel
theorem dX9_verdict_20 : decode cX9_verdict 20 = .ok (.lcmp, 1) := by decide +kernel
theorem dX9_verdict_21 : decode cX9_verdict 21 = .ok (.ifCond .gt 7, 3) := by decide +kernel
theorem dX9_verdict_24 : decode cX9_verdict 24 = .ok (.iconst 2, 1) := by decide +kernel
theorem dX9_verdict_25 : decode cX9_verdict 25 = .ok (.goto 19, 3) := by decide +kernel
theorem dX9_verdict_28 : decode cX9_verdict 28 = .ok (.lload 8, 2) := by decide +kernel
theorem dX9_verdict_30 : decode cX9_verdict 30 = .ok (.lload 6, 2) := by decide +kernel
theorem dX9_verdict_32 : decode cX9_verdict 32 = .ok (.lsub, 1) := by decide +kernel
theorem dX9_verdict_33 : decode cX9_verdict 33 = .ok (.lload 4, 2) := by decide +kernel
theorem dX9_verdict_35 : decode cX9_verdict 35 = .ok (.lcmp, 1) := by decide +kernel
theorem dX9_verdict_36 : decode cX9_verdict 36 = .ok (.ifCond .le 7, 3) := by decide +kernel
theorem dX9_verdict_39 : decode cX9_verdict 39 = .ok (.iconst 0, 1) := by decide +kernel
theorem dX9_verdict_40 : decode cX9_verdict 40 = .ok (.goto 4, 3) := by decide +kernel
theorem dX9_verdict_43 : decode cX9_verdict 43 = .ok (.iconst 1, 1) := by decide +kernel
theorem dX9_verdict_44 : decode cX9_verdict 44 = .ok (.ireturn, 1) := by decide +kernel
theorem dX9_measure_0 : decode cX9_measure 0 = .ok (.aload_n 0, 1) := by decide +kernel
theorem dX9_measure_1 : decode cX9_measure 1 = .ok (.iload_n 1, 1) := by decide +kernel
theorem dX9_measure_2 : decode cX9_measure 2 = .ok (.invokevirtual 82, 3) := by decide +kernel
theorem dX9_measure_5 : decode cX9_measure 5 = .ok (.ifCond .ne 9, 3) := by decide +kernel
theorem dX9_measure_8 : decode cX9_measure 8 = .ok (.aload_n 0, 1) := by decide +kernel
theorem dX9_measure_9 : decode cX9_measure 9 = .ok (.iconst 1, 1) := by decide +kernel
theorem dX9_measure_10 : decode cX9_measure 10 = .ok (.invokevirtual 63, 3) := by decide +kernel
theorem dX9_measure_13 : decode cX9_measure 13 = .ok (.ireturn, 1) := by decide +kernel
theorem dX9_measure_14 : decode cX9_measure 14 = .ok (.iload_n 2, 1) := by decide +kernel
theorem dX9_measure_15 : decode cX9_measure 15 = .ok (.i2l, 1) := by decide +kernel
theorem dX9_measure_16 : decode cX9_measure 16 = .ok (.ldc2_w 212, 3) := by decide +kernel
theorem dX9_measure_19 : decode cX9_measure 19 = .ok (.ldc2_w 111, 3) := by decide +kernel
theorem dX9_measure_22 : decode cX9_measure 22 = .ok (.invokestatic 55, 3) := by decide +kernel
theorem dX9_measure_25 : decode cX9_measure 25 = .ok (.ifCond .eq 15, 3) := by decide +kernel
theorem dX9_measure_28 : decode cX9_measure 28 = .ok (.iload_n 3, 1) := by decide +kernel
theorem dX9_measure_29 : decode cX9_measure 29 = .ok (.i2l, 1) := by decide +kernel
theorem dX9_measure_30 : decode cX9_measure 30 = .ok (.lconst 0, 1) := by decide +kernel
theorem dX9_measure_31 : decode cX9_measure 31 = .ok (.ldc2_w 111, 3) := by decide +kernel
theorem dX9_measure_34 : decode cX9_measure 34 = .ok (.invokestatic 55, 3) := by decide +kernel
theorem dX9_measure_37 : decode cX9_measure 37 = .ok (.ifCond .ne 9, 3) := by decide +kernel
theorem dX9_measure_40 : decode cX9_measure 40 = .ok (.aload_n 0, 1) := by decide +kernel
theorem dX9_measure_41 : decode cX9_measure 41 = .ok (.iconst 2, 1) := by decide +kernel
theorem dX9_measure_42 : decode cX9_measure 42 = .ok (.invokevirtual 63, 3) := by decide +kernel
theorem dX9_measure_45 : decode cX9_measure 45 = .ok (.ireturn, 1) := by decide +kernel
theorem dX9_measure_46 : decode cX9_measure 46 = .ok (.aload_n 0, 1) := by decide +kernel
theorem dX9_measure_47 : decode cX9_measure 47 = .ok (.iload_n 1, 1) := by decide +kernel
theorem dX9_measure_48 : decode cX9_measure 48 = .ok (.invokevirtual 96, 3) := by decide +kernel
theorem dX9_measure_51 : decode cX9_measure 51 = .ok (.istore 4, 2) := by decide +kernel
theorem dX9_measure_53 : decode cX9_measure 53 = .ok (.aload_n 0, 1) := by decide +kernel
theorem dX9_measure_54 : decode cX9_measure 54 = .ok (.iload_n 1, 1) := by decide +kernel
theorem dX9_measure_55 : decode cX9_measure 55 = .ok (.iconst 0, 1) := by decide +kernel
theorem dX9_measure_56 : decode cX9_measure 56 = .ok (.invokevirtual 90, 3) := by decide +kernel
theorem dX9_measure_59 : decode cX9_measure 59 = .ok (.ldc2_w 59, 3) := by decide +kernel
theorem dX9_measure_62 : decode cX9_measure 62 = .ok (.lcmp, 1) := by decide +kernel
theorem dX9_measure_63 : decode cX9_measure 63 = .ok (.ifCond .eq 8, 3) := by decide +kernel
theorem dX9_measure_66 : decode cX9_measure 66 = .ok (.bipush 6, 2) := by decide +kernel
theorem dX9_measure_68 : decode cX9_measure 68 = .ok (.goto 45, 3) := by decide +kernel
theorem dX9_measure_71 : decode cX9_measure 71 = .ok (.iload 4, 2) := by decide +kernel
theorem dX9_measure_73 : decode cX9_measure 73 = .ok (.iconst (-1), 1) := by decide +kernel
theorem dX9_measure_74 : decode cX9_measure 74 = .ok (.if_icmp .ne 7, 3) := by decide +kernel
theorem dX9_measure_77 : decode cX9_measure 77 = .ok (.iconst 3, 1) := by decide +kernel
theorem dX9_measure_78 : decode cX9_measure 78 = .ok (.goto 35, 3) := by decide +kernel
theorem dX9_measure_81 : decode cX9_measure 81 = .ok (.aload_n 0, 1) := by decide +kernel
theorem dX9_measure_82 : decode cX9_measure 82 = .ok (.iload 4, 2) := by decide +kernel
theorem dX9_measure_84 : decode cX9_measure 84 = .ok (.invokevirtual 108, 3) := by decide +kernel
theorem dX9_measure_87 : decode cX9_measure 87 = .ok (.ifCond .eq 7, 3) := by decide +kernel
theorem dX9_measure_90 : decode cX9_measure 90 = .ok (.iconst 4, 1) := by decide +kernel
theorem dX9_measure_91 : decode cX9_measure 91 = .ok (.goto 22, 3) := by decide +kernel
theorem dX9_measure_94 : decode cX9_measure 94 = .ok (.aload_n 0, 1) := by decide +kernel
theorem dX9_measure_95 : decode cX9_measure 95 = .ok (.getfield 9, 3) := by decide +kernel
theorem dX9_measure_98 : decode cX9_measure 98 = .ok (.iconst 5, 1) := by decide +kernel
theorem dX9_measure_99 : decode cX9_measure 99 = .ok (.laload, 1) := by decide +kernel
theorem dX9_measure_100 : decode cX9_measure 100 = .ok (.ldc2_w 214, 3) := by decide +kernel
theorem dX9_measure_103 : decode cX9_measure 103 = .ok (.lcmp, 1) := by decide +kernel
theorem dX9_measure_104 : decode cX9_measure 104 = .ok (.ifCond .ne 8, 3) := by decide +kernel
theorem dX9_measure_107 : decode cX9_measure 107 = .ok (.bipush 7, 2) := by decide +kernel
theorem dX9_measure_109 : decode cX9_measure 109 = .ok (.goto 4, 3) := by decide +kernel
theorem dX9_measure_112 : decode cX9_measure 112 = .ok (.iconst 0, 1) := by decide +kernel
theorem dX9_measure_113 : decode cX9_measure 113 = .ok (.istore 5, 2) := by decide +kernel
theorem dX9_measure_115 : decode cX9_measure 115 = .ok (.iload 5, 2) := by decide +kernel
theorem dX9_measure_117 : decode cX9_measure 117 = .ok (.ifCond .eq 11, 3) := by decide +kernel
theorem dX9_measure_120 : decode cX9_measure 120 = .ok (.aload_n 0, 1) := by decide +kernel
theorem dX9_measure_121 : decode cX9_measure 121 = .ok (.iload 5, 2) := by decide +kernel
theorem dX9_measure_123 : decode cX9_measure 123 = .ok (.iconst 3, 1) := by decide +kernel
theorem dX9_measure_124 : decode cX9_measure 124 = .ok (.invokevirtual 181, 3) := by decide +kernel
theorem dX9_measure_127 : decode cX9_measure 127 = .ok (.ireturn, 1) := by decide +kernel
theorem dX9_measure_128 : decode cX9_measure 128 = .ok (.aload_n 0, 1) := by decide +kernel
theorem dX9_measure_129 : decode cX9_measure 129 = .ok (.invokevirtual 73, 3) := by decide +kernel
theorem dX9_measure_132 : decode cX9_measure 132 = .ok (.aload_n 0, 1) := by decide +kernel
theorem dX9_measure_133 : decode cX9_measure 133 = .ok (.getfield 9, 3) := by decide +kernel
theorem dX9_measure_136 : decode cX9_measure 136 = .ok (.iconst 5, 1) := by decide +kernel
theorem dX9_measure_137 : decode cX9_measure 137 = .ok (.laload, 1) := by decide +kernel
theorem dX9_measure_138 : decode cX9_measure 138 = .ok (.l2i, 1) := by decide +kernel
theorem dX9_measure_139 : decode cX9_measure 139 = .ok (.istore 6, 2) := by decide +kernel
theorem dX9_measure_141 : decode cX9_measure 141 = .ok (.sipush 780, 3) := by decide +kernel
theorem dX9_measure_144 : decode cX9_measure 144 = .ok (.bipush 7, 2) := by decide +kernel
theorem dX9_measure_146 : decode cX9_measure 146 = .ok (.iload 6, 2) := by decide +kernel
theorem dX9_measure_148 : decode cX9_measure 148 = .ok (.imul, 1) := by decide +kernel
theorem dX9_measure_149 : decode cX9_measure 149 = .ok (.iadd, 1) := by decide +kernel
theorem dX9_measure_150 : decode cX9_measure 150 = .ok (.istore 7, 2) := by decide +kernel
theorem dX9_measure_152 : decode cX9_measure 152 = .ok (.aload_n 0, 1) := by decide +kernel
theorem dX9_measure_153 : decode cX9_measure 153 = .ok (.getfield 9, 3) := by decide +kernel
theorem dX9_measure_156 : decode cX9_measure 156 = .ok (.iload 7, 2) := by decide +kernel
theorem dX9_measure_158 : decode cX9_measure 158 = .ok (.iload_n 1, 1) := by decide +kernel
theorem dX9_measure_159 : decode cX9_measure 159 = .ok (.i2l, 1) := by decide +kernel
theorem dX9_measure_160 : decode cX9_measure 160 = .ok (.lastore, 1) := by decide +kernel
theorem dX9_measure_161 : decode cX9_measure 161 = .ok (.aload_n 0, 1) := by decide +kernel
theorem dX9_measure_162 : decode cX9_measure 162 = .ok (.getfield 9, 3) := by decide +kernel
theorem dX9_measure_165 : decode cX9_measure 165 = .ok (.iload 7, 2) := by decide +kernel
theorem dX9_measure_167 : decode cX9_measure 167 = .ok (.iconst 1, 1) := by decide +kernel
theorem dX9_measure_168 : decode cX9_measure 168 = .ok (.iadd, 1) := by decide +kernel
theorem dX9_measure_169 : decode cX9_measure 169 = .ok (.iload 4, 2) := by decide +kernel
theorem dX9_measure_171 : decode cX9_measure 171 = .ok (.i2l, 1) := by decide +kernel
theorem dX9_measure_172 : decode cX9_measure 172 = .ok (.lastore, 1) := by decide +kernel
theorem dX9_measure_173 : decode cX9_measure 173 = .ok (.aload_n 0, 1) := by decide +kernel
theorem dX9_measure_174 : decode cX9_measure 174 = .ok (.getfield 9, 3) := by decide +kernel
theorem dX9_measure_177 : decode cX9_measure 177 = .ok (.iload 7, 2) := by decide +kernel
theorem dX9_measure_179 : decode cX9_measure 179 = .ok (.iconst 2, 1) := by decide +kernel
theorem dX9_measure_180 : decode cX9_measure 180 = .ok (.iadd, 1) := by decide +kernel
theorem dX9_measure_181 : decode cX9_measure 181 = .ok (.aload_n 0, 1) := by decide +kernel
theorem dX9_measure_182 : decode cX9_measure 182 = .ok (.getfield 9, 3) := by decide +kernel
theorem dX9_measure_185 : decode cX9_measure 185 = .ok (.iconst 0, 1) := by decide +kernel
theorem dX9_measure_186 : decode cX9_measure 186 = .ok (.laload, 1) := by decide +kernel
theorem dX9_measure_187 : decode cX9_measure 187 = .ok (.lastore, 1) := by decide +kernel
theorem dX9_measure_188 : decode cX9_measure 188 = .ok (.aload_n 0, 1) := by decide +kernel
theorem dX9_measure_189 : decode cX9_measure 189 = .ok (.getfield 9, 3) := by decide +kernel
theorem dX9_measure_192 : decode cX9_measure 192 = .ok (.iload 7, 2) := by decide +kernel
theorem dX9_measure_194 : decode cX9_measure 194 = .ok (.iconst 3, 1) := by decide +kernel
theorem dX9_measure_195 : decode cX9_measure 195 = .ok (.iadd, 1) := by decide +kernel
theorem dX9_measure_196 : decode cX9_measure 196 = .ok (.iload_n 2, 1) := by decide +kernel
theorem dX9_measure_197 : decode cX9_measure 197 = .ok (.i2l, 1) := by decide +kernel
theorem dX9_measure_198 : decode cX9_measure 198 = .ok (.lastore, 1) := by decide +kernel
theorem dX9_measure_199 : decode cX9_measure 199 = .ok (.aload_n 0, 1) := by decide +kernel
theorem dX9_measure_200 : decode cX9_measure 200 = .ok (.getfield 9, 3) := by decide +kernel
theorem dX9_measure_203 : decode cX9_measure 203 = .ok (.iload 7, 2) := by decide +kernel
theorem dX9_measure_205 : decode cX9_measure 205 = .ok (.iconst 4, 1) := by decide +kernel
theorem dX9_measure_206 : decode cX9_measure 206 = .ok (.iadd, 1) := by decide +kernel
theorem dX9_measure_207 : decode cX9_measure 207 = .ok (.iload_n 3, 1) := by decide +kernel
theorem dX9_measure_208 : decode cX9_measure 208 = .ok (.i2l, 1) := by decide +kernel
theorem dX9_measure_209 : decode cX9_measure 209 = .ok (.lastore, 1) := by decide +kernel
theorem dX9_measure_210 : decode cX9_measure 210 = .ok (.aload_n 0, 1) := by decide +kernel
theorem dX9_measure_211 : decode cX9_measure 211 = .ok (.getfield 9, 3) := by decide +kernel
theorem dX9_measure_214 : decode cX9_measure 214 = .ok (.iload 7, 2) := by decide +kernel
theorem dX9_measure_216 : decode cX9_measure 216 = .ok (.iconst 5, 1) := by decide +kernel
theorem dX9_measure_217 : decode cX9_measure 217 = .ok (.iadd, 1) := by decide +kernel
theorem dX9_measure_218 : decode cX9_measure 218 = .ok (.aload_n 0, 1) := by decide +kernel
theorem dX9_measure_219 : decode cX9_measure 219 = .ok (.iload 4, 2) := by decide +kernel
theorem dX9_measure_221 : decode cX9_measure 221 = .ok (.iload_n 1, 1) := by decide +kernel
theorem dX9_measure_222 : decode cX9_measure 222 = .ok (.aload_n 0, 1) := by decide +kernel
theorem dX9_measure_223 : decode cX9_measure 223 = .ok (.getfield 9, 3) := by decide +kernel
theorem dX9_measure_226 : decode cX9_measure 226 = .ok (.iconst 0, 1) := by decide +kernel
theorem dX9_measure_227 : decode cX9_measure 227 = .ok (.laload, 1) := by decide +kernel
theorem dX9_measure_228 : decode cX9_measure 228 = .ok (.invokevirtual 216, 3) := by decide +kernel
theorem dX9_measure_231 : decode cX9_measure 231 = .ok (.lastore, 1) := by decide +kernel
theorem dX9_measure_232 : decode cX9_measure 232 = .ok (.aload_n 0, 1) := by decide +kernel
theorem dX9_measure_233 : decode cX9_measure 233 = .ok (.getfield 9, 3) := by decide +kernel
theorem dX9_measure_236 : decode cX9_measure 236 = .ok (.iload 7, 2) := by decide +kernel
theorem dX9_measure_238 : decode cX9_measure 238 = .ok (.bipush 6, 2) := by decide +kernel
theorem dX9_measure_240 : decode cX9_measure 240 = .ok (.iadd, 1) := by decide +kernel
theorem dX9_measure_241 : decode cX9_measure 241 = .ok (.aload_n 0, 1) := by decide +kernel
theorem dX9_measure_242 : decode cX9_measure 242 = .ok (.iload 4, 2) := by decide +kernel
theorem dX9_measure_244 : decode cX9_measure 244 = .ok (.iload_n 2, 1) := by decide +kernel
theorem dX9_measure_245 : decode cX9_measure 245 = .ok (.i2l, 1) := by decide +kernel
theorem dX9_measure_246 : decode cX9_measure 246 = .ok (.iload_n 3, 1) := by decide +kernel
theorem dX9_measure_247 : decode cX9_measure 247 = .ok (.i2l, 1) := by decide +kernel
theorem dX9_measure_248 : decode cX9_measure 248 = .ok (.aload_n 0, 1) := by decide +kernel
theorem dX9_measure_249 : decode cX9_measure 249 = .ok (.getfield 9, 3) := by decide +kernel
theorem dX9_measure_252 : decode cX9_measure 252 = .ok (.iload 7, 2) := by decide +kernel
theorem dX9_measure_254 : decode cX9_measure 254 = .ok (.iconst 5, 1) := by decide +kernel
theorem dX9_measure_255 : decode cX9_measure 255 = .ok (.iadd, 1) := by decide +kernel
theorem dX9_measure_256 : decode cX9_measure 256 = .ok (.laload, 1) := by decide +kernel
theorem dX9_measure_257 : decode cX9_measure 257 = .ok (.invokevirtual 220, 3) := by decide +kernel
theorem dX9_measure_260 : decode cX9_measure 260 = .ok (.i2l, 1) := by decide +kernel
theorem dX9_measure_261 : decode cX9_measure 261 = .ok (.lastore, 1) := by decide +kernel
theorem dX9_measure_262 : decode cX9_measure 262 = .ok (.aload_n 0, 1) := by decide +kernel
theorem dX9_measure_263 : decode cX9_measure 263 = .ok (.getfield 9, 3) := by decide +kernel
theorem dX9_measure_266 : decode cX9_measure 266 = .ok (.iconst 5, 1) := by decide +kernel
theorem dX9_measure_267 : decode cX9_measure 267 = .ok (.dup2, 1) := by decide +kernel
theorem dX9_measure_268 : decode cX9_measure 268 = .ok (.laload, 1) := by decide +kernel
theorem dX9_measure_269 : decode cX9_measure 269 = .ok (.lconst 1, 1) := by decide +kernel
theorem dX9_measure_270 : decode cX9_measure 270 = .ok (.ladd, 1) := by decide +kernel
theorem dX9_measure_271 : decode cX9_measure 271 = .ok (.lastore, 1) := by decide +kernel
theorem dX9_measure_272 : decode cX9_measure 272 = .ok (.aload_n 0, 1) := by decide +kernel
theorem dX9_measure_273 : decode cX9_measure 273 = .ok (.getfield 9, 3) := by decide +kernel
theorem dX9_measure_276 : decode cX9_measure 276 = .ok (.bipush 10, 2) := by decide +kernel
theorem dX9_measure_278 : decode cX9_measure 278 = .ok (.bipush 8, 2) := by decide +kernel
theorem dX9_measure_280 : decode cX9_measure 280 = .ok (.iload_n 1, 1) := by decide +kernel
theorem dX9_measure_281 : decode cX9_measure 281 = .ok (.imul, 1) := by decide +kernel
theorem dX9_measure_282 : decode cX9_measure 282 = .ok (.iadd, 1) := by decide +kernel
theorem dX9_measure_283 : decode cX9_measure 283 = .ok (.bipush 6, 2) := by decide +kernel
theorem dX9_measure_285 : decode cX9_measure 285 = .ok (.iadd, 1) := by decide +kernel
theorem dX9_measure_286 : decode cX9_measure 286 = .ok (.dup2, 1) := by decide +kernel
theorem dX9_measure_287 : decode cX9_measure 287 = .ok (.laload, 1) := by decide +kernel
theorem dX9_measure_288 : decode cX9_measure 288 = .ok (.lconst 1, 1) := by decide +kernel
theorem dX9_measure_289 : decode cX9_measure 289 = .ok (.ladd, 1) := by decide +kernel
theorem dX9_measure_290 : decode cX9_measure 290 = .ok (.lastore, 1) := by decide +kernel
theorem dX9_measure_291 : decode cX9_measure 291 = .ok (.aload_n 0, 1) := by decide +kernel
theorem dX9_measure_292 : decode cX9_measure 292 = .ok (.iload 6, 2) := by decide +kernel
theorem dX9_measure_294 : decode cX9_measure 294 = .ok (.i2l, 1) := by decide +kernel
theorem dX9_measure_295 : decode cX9_measure 295 = .ok (.invokevirtual 78, 3) := by decide +kernel
theorem dX9_measure_298 : decode cX9_measure 298 = .ok (.ireturn, 1) := by decide +kernel
theorem dX9_measurement_0 : decode cX9_measurement 0 = .ok (.iload_n 1, 1) := by decide +kernel
theorem dX9_measurement_1 : decode cX9_measurement 1 = .ok (.i2l, 1) := by decide +kernel
theorem dX9_measurement_2 : decode cX9_measurement 2 = .ok (.lconst 0, 1) := by decide +kernel
theorem dX9_measurement_3 : decode cX9_measurement 3 = .ok (.aload_n 0, 1) := by decide +kernel
theorem dX9_measurement_4 : decode cX9_measurement 4 = .ok (.getfield 9, 3) := by decide +kernel
theorem dX9_measurement_7 : decode cX9_measurement 7 = .ok (.iconst 5, 1) := by decide +kernel
theorem dX9_measurement_8 : decode cX9_measurement 8 = .ok (.laload, 1) := by decide +kernel
theorem dX9_measurement_9 : decode cX9_measurement 9 = .ok (.lconst 1, 1) := by decide +kernel
theorem dX9_measurement_10 : decode cX9_measurement 10 = .ok (.lsub, 1) := by decide +kernel
theorem dX9_measurement_11 : decode cX9_measurement 11 = .ok (.invokestatic 55, 3) := by decide +kernel
theorem dX9_measurement_14 : decode cX9_measurement 14 = .ok (.ifCond .ne 9, 3) := by decide +kernel
theorem dX9_measurement_17 : decode cX9_measurement 17 = .ok (.aload_n 0, 1) := by decide +kernel
theorem dX9_measurement_18 : decode cX9_measurement 18 = .ok (.iconst 1, 1) := by decide +kernel
theorem dX9_measurement_19 : decode cX9_measurement 19 = .ok (.invokevirtual 63, 3) := by decide +kernel
theorem dX9_measurement_22 : decode cX9_measurement 22 = .ok (.ireturn, 1) := by decide +kernel
theorem dX9_measurement_23 : decode cX9_measurement 23 = .ok (.iload_n 2, 1) := by decide +kernel
theorem dX9_measurement_24 : decode cX9_measurement 24 = .ok (.i2l, 1) := by decide +kernel
theorem dX9_measurement_25 : decode cX9_measurement 25 = .ok (.lconst 0, 1) := by decide +kernel
theorem dX9_measurement_26 : decode cX9_measurement 26 = .ok (.ldc2_w 224, 3) := by decide +kernel
theorem dX9_measurement_29 : decode cX9_measurement 29 = .ok (.invokestatic 55, 3) := by decide +kernel
theorem dX9_measurement_32 : decode cX9_measurement 32 = .ok (.ifCond .ne 9, 3) := by decide +kernel
theorem dX9_measurement_35 : decode cX9_measurement 35 = .ok (.aload_n 0, 1) := by decide +kernel
theorem dX9_measurement_36 : decode cX9_measurement 36 = .ok (.iconst 2, 1) := by decide +kernel
theorem dX9_measurement_37 : decode cX9_measurement 37 = .ok (.invokevirtual 63, 3) := by decide +kernel
theorem dX9_measurement_40 : decode cX9_measurement 40 = .ok (.ireturn, 1) := by decide +kernel
theorem dX9_measurement_41 : decode cX9_measurement 41 = .ok (.sipush 780, 3) := by decide +kernel
theorem dX9_measurement_44 : decode cX9_measurement 44 = .ok (.bipush 7, 2) := by decide +kernel
theorem dX9_measurement_46 : decode cX9_measurement 46 = .ok (.iload_n 1, 1) := by decide +kernel
theorem dX9_measurement_47 : decode cX9_measurement 47 = .ok (.imul, 1) := by decide +kernel
theorem dX9_measurement_48 : decode cX9_measurement 48 = .ok (.iadd, 1) := by decide +kernel
theorem dX9_measurement_49 : decode cX9_measurement 49 = .ok (.istore_n 3, 1) := by decide +kernel
theorem dX9_measurement_50 : decode cX9_measurement 50 = .ok (.aload_n 0, 1) := by decide +kernel
theorem dX9_measurement_51 : decode cX9_measurement 51 = .ok (.iload_n 2, 1) := by decide +kernel
theorem dX9_measurement_52 : decode cX9_measurement 52 = .ok (.bipush 7, 2) := by decide +kernel
theorem dX9_measurement_54 : decode cX9_measurement 54 = .ok (.if_icmp .ge 14, 3) := by decide +kernel
theorem dX9_measurement_57 : decode cX9_measurement 57 = .ok (.aload_n 0, 1) := by decide +kernel
theorem dX9_measurement_58 : decode cX9_measurement 58 = .ok (.getfield 9, 3) := by decide +kernel
theorem dX9_measurement_61 : decode cX9_measurement 61 = .ok (.iload_n 3, 1) := by decide +kernel
theorem dX9_measurement_62 : decode cX9_measurement 62 = .ok (.iload_n 2, 1) := by decide +kernel
theorem dX9_measurement_63 : decode cX9_measurement 63 = .ok (.iadd, 1) := by decide +kernel
theorem dX9_measurement_64 : decode cX9_measurement 64 = .ok (.laload, 1) := by decide +kernel
theorem dX9_measurement_65 : decode cX9_measurement 65 = .ok (.goto 24, 3) := by decide +kernel
theorem dX9_measurement_68 : decode cX9_measurement 68 = .ok (.aload_n 0, 1) := by decide +kernel
theorem dX9_measurement_69 : decode cX9_measurement 69 = .ok (.aload_n 0, 1) := by decide +kernel
theorem dX9_measurement_70 : decode cX9_measurement 70 = .ok (.getfield 9, 3) := by decide +kernel
theorem dX9_measurement_73 : decode cX9_measurement 73 = .ok (.iload_n 3, 1) := by decide +kernel
theorem dX9_measurement_74 : decode cX9_measurement 74 = .ok (.iconst 1, 1) := by decide +kernel
theorem dX9_measurement_75 : decode cX9_measurement 75 = .ok (.iadd, 1) := by decide +kernel
theorem dX9_measurement_76 : decode cX9_measurement 76 = .ok (.laload, 1) := by decide +kernel
theorem dX9_measurement_77 : decode cX9_measurement 77 = .ok (.l2i, 1) := by decide +kernel
theorem dX9_measurement_78 : decode cX9_measurement 78 = .ok (.invokevirtual 130, 3) := by decide +kernel
theorem dX9_measurement_81 : decode cX9_measurement 81 = .ok (.ifCond .eq 7, 3) := by decide +kernel
theorem dX9_measurement_84 : decode cX9_measurement 84 = .ok (.lconst 0, 1) := by decide +kernel
theorem dX9_measurement_85 : decode cX9_measurement 85 = .ok (.goto 4, 3) := by decide +kernel
theorem dX9_measurement_88 : decode cX9_measurement 88 = .ok (.lconst 1, 1) := by decide +kernel
theorem dX9_measurement_89 : decode cX9_measurement 89 = .ok (.invokevirtual 78, 3) := by decide +kernel
theorem dX9_measurement_92 : decode cX9_measurement 92 = .ok (.ireturn, 1) := by decide +kernel
theorem dX9_again_0 : decode cX9_again 0 = .ok (.iload_n 1, 1) := by decide +kernel
theorem dX9_again_1 : decode cX9_again 1 = .ok (.i2l, 1) := by decide +kernel
theorem dX9_again_2 : decode cX9_again 2 = .ok (.lconst 0, 1) := by decide +kernel
theorem dX9_again_3 : decode cX9_again 3 = .ok (.aload_n 0, 1) := by decide +kernel
theorem dX9_again_4 : decode cX9_again 4 = .ok (.getfield 9, 3) := by decide +kernel
theorem dX9_again_7 : decode cX9_again 7 = .ok (.iconst 5, 1) := by decide +kernel
theorem dX9_again_8 : decode cX9_again 8 = .ok (.laload, 1) := by decide +kernel
theorem dX9_again_9 : decode cX9_again 9 = .ok (.lconst 1, 1) := by decide +kernel
theorem dX9_again_10 : decode cX9_again 10 = .ok (.lsub, 1) := by decide +kernel
theorem dX9_again_11 : decode cX9_again 11 = .ok (.invokestatic 55, 3) := by decide +kernel
theorem dX9_again_14 : decode cX9_again 14 = .ok (.ifCond .ne 9, 3) := by decide +kernel
theorem dX9_again_17 : decode cX9_again 17 = .ok (.aload_n 0, 1) := by decide +kernel
theorem dX9_again_18 : decode cX9_again 18 = .ok (.iconst 1, 1) := by decide +kernel
theorem dX9_again_19 : decode cX9_again 19 = .ok (.invokevirtual 63, 3) := by decide +kernel
theorem dX9_again_22 : decode cX9_again 22 = .ok (.ireturn, 1) := by decide +kernel
theorem dX9_again_23 : decode cX9_again 23 = .ok (.sipush 780, 3) := by decide +kernel
theorem dX9_again_26 : decode cX9_again 26 = .ok (.bipush 7, 2) := by decide +kernel
theorem dX9_again_28 : decode cX9_again 28 = .ok (.iload_n 1, 1) := by decide +kernel
theorem dX9_again_29 : decode cX9_again 29 = .ok (.imul, 1) := by decide +kernel
theorem dX9_again_30 : decode cX9_again 30 = .ok (.iadd, 1) := by decide +kernel
theorem dX9_again_31 : decode cX9_again 31 = .ok (.istore_n 2, 1) := by decide +kernel
theorem dX9_again_32 : decode cX9_again 32 = .ok (.aload_n 0, 1) := by decide +kernel
theorem dX9_again_33 : decode cX9_again 33 = .ok (.getfield 9, 3) := by decide +kernel
theorem dX9_again_36 : decode cX9_again 36 = .ok (.iload_n 2, 1) := by decide +kernel
theorem dX9_again_37 : decode cX9_again 37 = .ok (.laload, 1) := by decide +kernel
theorem dX9_again_38 : decode cX9_again 38 = .ok (.l2i, 1) := by decide +kernel
theorem dX9_again_39 : decode cX9_again 39 = .ok (.istore_n 3, 1) := by decide +kernel
theorem dX9_again_40 : decode cX9_again 40 = .ok (.iconst (-1), 1) := by decide +kernel
theorem dX9_again_41 : decode cX9_again 41 = .ok (.istore 4, 2) := by decide +kernel
theorem dX9_again_43 : decode cX9_again 43 = .ok (.iconst 0, 1) := by decide +kernel
theorem dX9_again_44 : decode cX9_again 44 = .ok (.istore 5, 2) := by decide +kernel
theorem dX9_again_46 : decode cX9_again 46 = .ok (.iload 5, 2) := by decide +kernel
theorem dX9_again_48 : decode cX9_again 48 = .ok (.i2l, 1) := by decide +kernel
theorem dX9_again_49 : decode cX9_again 49 = .ok (.aload_n 0, 1) := by decide +kernel
theorem dX9_again_50 : decode cX9_again 50 = .ok (.getfield 9, 3) := by decide +kernel
theorem dX9_again_53 : decode cX9_again 53 = .ok (.iconst 2, 1) := by decide +kernel
theorem dX9_again_54 : decode cX9_again 54 = .ok (.laload, 1) := by decide +kernel
theorem dX9_again_55 : decode cX9_again 55 = .ok (.lcmp, 1) := by decide +kernel
theorem dX9_again_56 : decode cX9_again 56 = .ok (.ifCond .ge 59, 3) := by decide +kernel
theorem dX9_again_59 : decode cX9_again 59 = .ok (.aload_n 0, 1) := by decide +kernel
theorem dX9_again_60 : decode cX9_again 60 = .ok (.iload 5, 2) := by decide +kernel
theorem dX9_again_62 : decode cX9_again 62 = .ok (.iconst 0, 1) := by decide +kernel
theorem dX9_again_63 : decode cX9_again 63 = .ok (.invokevirtual 99, 3) := by decide +kernel
theorem dX9_again_66 : decode cX9_again 66 = .ok (.iload_n 3, 1) := by decide +kernel
theorem dX9_again_67 : decode cX9_again 67 = .ok (.i2l, 1) := by decide +kernel
theorem dX9_again_68 : decode cX9_again 68 = .ok (.lcmp, 1) := by decide +kernel
theorem dX9_again_69 : decode cX9_again 69 = .ok (.ifCond .ne 36, 3) := by decide +kernel
theorem dX9_again_72 : decode cX9_again 72 = .ok (.aload_n 0, 1) := by decide +kernel
theorem dX9_again_73 : decode cX9_again 73 = .ok (.iload 5, 2) := by decide +kernel
theorem dX9_again_75 : decode cX9_again 75 = .ok (.iconst 3, 1) := by decide +kernel
theorem dX9_again_76 : decode cX9_again 76 = .ok (.invokevirtual 99, 3) := by decide +kernel
theorem dX9_again_79 : decode cX9_again 79 = .ok (.aload_n 0, 1) := by decide +kernel
theorem dX9_again_80 : decode cX9_again 80 = .ok (.getfield 9, 3) := by decide +kernel
theorem dX9_again_83 : decode cX9_again 83 = .ok (.iload_n 2, 1) := by decide +kernel
theorem dX9_again_84 : decode cX9_again 84 = .ok (.iconst 2, 1) := by decide +kernel
theorem dX9_again_85 : decode cX9_again 85 = .ok (.iadd, 1) := by decide +kernel
theorem dX9_again_86 : decode cX9_again 86 = .ok (.laload, 1) := by decide +kernel
theorem dX9_again_87 : decode cX9_again 87 = .ok (.lcmp, 1) := by decide +kernel
theorem dX9_again_88 : decode cX9_again 88 = .ok (.ifCond .gt 17, 3) := by decide +kernel
theorem dX9_again_91 : decode cX9_again 91 = .ok (.aload_n 0, 1) := by decide +kernel
theorem dX9_again_92 : decode cX9_again 92 = .ok (.iload 5, 2) := by decide +kernel
theorem dX9_again_94 : decode cX9_again 94 = .ok (.invokevirtual 130, 3) := by decide +kernel
theorem dX9_again_97 : decode cX9_again 97 = .ok (.ifCond .eq 8, 3) := by decide +kernel
theorem dX9_again_100 : decode cX9_again 100 = .ok (.iload 5, 2) := by decide +kernel
theorem dX9_again_102 : decode cX9_again 102 = .ok (.goto 5, 3) := by decide +kernel
theorem dX9_again_105 : decode cX9_again 105 = .ok (.iload 4, 2) := by decide +kernel
theorem dX9_again_107 : decode cX9_again 107 = .ok (.istore 4, 2) := by decide +kernel
theorem dX9_again_109 : decode cX9_again 109 = .ok (.iinc 5 1, 3) := by decide +kernel
theorem dX9_again_112 : decode cX9_again 112 = .ok (.goto (-66), 3) := by decide +kernel
theorem dX9_again_115 : decode cX9_again 115 = .ok (.iload 4, 2) := by decide +kernel
theorem dX9_again_117 : decode cX9_again 117 = .ok (.iconst (-1), 1) := by decide +kernel
theorem dX9_again_118 : decode cX9_again 118 = .ok (.if_icmp .ne 11, 3) := by decide +kernel
theorem dX9_again_121 : decode cX9_again 121 = .ok (.aload_n 0, 1) := by decide +kernel
theorem dX9_again_122 : decode cX9_again 122 = .ok (.iconst 2, 1) := by decide +kernel
theorem dX9_again_123 : decode cX9_again 123 = .ok (.invokevirtual 63, 3) := by decide +kernel
theorem dX9_again_126 : decode cX9_again 126 = .ok (.goto 45, 3) := by decide +kernel
theorem dX9_again_129 : decode cX9_again 129 = .ok (.aload_n 0, 1) := by decide +kernel
theorem dX9_again_130 : decode cX9_again 130 = .ok (.aload_n 0, 1) := by decide +kernel
theorem dX9_again_131 : decode cX9_again 131 = .ok (.iload 4, 2) := by decide +kernel
theorem dX9_again_133 : decode cX9_again 133 = .ok (.aload_n 0, 1) := by decide +kernel
theorem dX9_again_134 : decode cX9_again 134 = .ok (.getfield 9, 3) := by decide +kernel
theorem dX9_again_137 : decode cX9_again 137 = .ok (.iload_n 2, 1) := by decide +kernel
theorem dX9_again_138 : decode cX9_again 138 = .ok (.iconst 3, 1) := by decide +kernel
theorem dX9_again_139 : decode cX9_again 139 = .ok (.iadd, 1) := by decide +kernel
theorem dX9_again_140 : decode cX9_again 140 = .ok (.laload, 1) := by decide +kernel
theorem dX9_again_141 : decode cX9_again 141 = .ok (.aload_n 0, 1) := by decide +kernel
theorem dX9_again_142 : decode cX9_again 142 = .ok (.getfield 9, 3) := by decide +kernel
theorem dX9_again_145 : decode cX9_again 145 = .ok (.iload_n 2, 1) := by decide +kernel
theorem dX9_again_146 : decode cX9_again 146 = .ok (.iconst 4, 1) := by decide +kernel
theorem dX9_again_147 : decode cX9_again 147 = .ok (.iadd, 1) := by decide +kernel
theorem dX9_again_148 : decode cX9_again 148 = .ok (.laload, 1) := by decide +kernel
theorem dX9_again_149 : decode cX9_again 149 = .ok (.aload_n 0, 1) := by decide +kernel
theorem dX9_again_150 : decode cX9_again 150 = .ok (.iload 4, 2) := by decide +kernel
theorem dX9_again_152 : decode cX9_again 152 = .ok (.iload_n 3, 1) := by decide +kernel
theorem dX9_again_153 : decode cX9_again 153 = .ok (.aload_n 0, 1) := by decide +kernel
theorem dX9_again_154 : decode cX9_again 154 = .ok (.getfield 9, 3) := by decide +kernel
theorem dX9_again_157 : decode cX9_again 157 = .ok (.iload_n 2, 1) := by decide +kernel
theorem dX9_again_158 : decode cX9_again 158 = .ok (.iconst 2, 1) := by decide +kernel
theorem dX9_again_159 : decode cX9_again 159 = .ok (.iadd, 1) := by decide +kernel
theorem dX9_again_160 : decode cX9_again 160 = .ok (.laload, 1) := by decide +kernel
theorem dX9_again_161 : decode cX9_again 161 = .ok (.invokevirtual 216, 3) := by decide +kernel
theorem dX9_again_164 : decode cX9_again 164 = .ok (.invokevirtual 220, 3) := by decide +kernel
theorem dX9_again_167 : decode cX9_again 167 = .ok (.i2l, 1) := by decide +kernel
theorem dX9_again_168 : decode cX9_again 168 = .ok (.invokevirtual 78, 3) := by decide +kernel
theorem dX9_again_171 : decode cX9_again 171 = .ok (.ireturn, 1) := by decide +kernel
theorem dX9_issue_0 : decode cX9_issue 0 = .ok (.aload_n 0, 1) := by decide +kernel
theorem dX9_issue_1 : decode cX9_issue 1 = .ok (.iload_n 1, 1) := by decide +kernel
theorem dX9_issue_2 : decode cX9_issue 2 = .ok (.invokevirtual 82, 3) := by decide +kernel
theorem dX9_issue_5 : decode cX9_issue 5 = .ok (.ifCond .ne 9, 3) := by decide +kernel
theorem dX9_issue_8 : decode cX9_issue 8 = .ok (.aload_n 0, 1) := by decide +kernel
theorem dX9_issue_9 : decode cX9_issue 9 = .ok (.iconst 1, 1) := by decide +kernel
theorem dX9_issue_10 : decode cX9_issue 10 = .ok (.invokevirtual 63, 3) := by decide +kernel
theorem dX9_issue_13 : decode cX9_issue 13 = .ok (.ireturn, 1) := by decide +kernel
theorem dX9_issue_14 : decode cX9_issue 14 = .ok (.aload_n 0, 1) := by decide +kernel
theorem dX9_issue_15 : decode cX9_issue 15 = .ok (.iload_n 1, 1) := by decide +kernel
theorem dX9_issue_16 : decode cX9_issue 16 = .ok (.invokevirtual 96, 3) := by decide +kernel
theorem dX9_issue_19 : decode cX9_issue 19 = .ok (.istore_n 2, 1) := by decide +kernel
theorem dX9_issue_20 : decode cX9_issue 20 = .ok (.iload_n 2, 1) := by decide +kernel
theorem dX9_issue_21 : decode cX9_issue 21 = .ok (.iconst (-1), 1) := by decide +kernel
theorem dX9_issue_22 : decode cX9_issue 22 = .ok (.if_icmp .ne 7, 3) := by decide +kernel
theorem dX9_issue_25 : decode cX9_issue 25 = .ok (.iconst 3, 1) := by decide +kernel
theorem dX9_issue_26 : decode cX9_issue 26 = .ok (.goto 48, 3) := by decide +kernel
theorem dX9_issue_29 : decode cX9_issue 29 = .ok (.aload_n 0, 1) := by decide +kernel
theorem dX9_issue_30 : decode cX9_issue 30 = .ok (.iload_n 2, 1) := by decide +kernel
theorem dX9_issue_31 : decode cX9_issue 31 = .ok (.invokevirtual 108, 3) := by decide +kernel
theorem dX9_issue_34 : decode cX9_issue 34 = .ok (.ifCond .eq 7, 3) := by decide +kernel
theorem dX9_issue_37 : decode cX9_issue 37 = .ok (.iconst 4, 1) := by decide +kernel
theorem dX9_issue_38 : decode cX9_issue 38 = .ok (.goto 36, 3) := by decide +kernel
theorem dX9_issue_41 : decode cX9_issue 41 = .ok (.aload_n 0, 1) := by decide +kernel
theorem dX9_issue_42 : decode cX9_issue 42 = .ok (.iload_n 2, 1) := by decide +kernel
theorem dX9_issue_43 : decode cX9_issue 43 = .ok (.invokevirtual 153, 3) := by decide +kernel
theorem dX9_issue_46 : decode cX9_issue 46 = .ok (.ifCond .ne 8, 3) := by decide +kernel
theorem dX9_issue_49 : decode cX9_issue 49 = .ok (.bipush 8, 2) := by decide +kernel
theorem dX9_issue_51 : decode cX9_issue 51 = .ok (.goto 23, 3) := by decide +kernel
theorem dX9_issue_54 : decode cX9_issue 54 = .ok (.aload_n 0, 1) := by decide +kernel
theorem dX9_issue_55 : decode cX9_issue 55 = .ok (.getfield 9, 3) := by decide +kernel
theorem dX9_issue_58 : decode cX9_issue 58 = .ok (.bipush 6, 2) := by decide +kernel
theorem dX9_issue_60 : decode cX9_issue 60 = .ok (.laload, 1) := by decide +kernel
theorem dX9_issue_61 : decode cX9_issue 61 = .ok (.ldc2_w 190, 3) := by decide +kernel
theorem dX9_issue_64 : decode cX9_issue 64 = .ok (.lcmp, 1) := by decide +kernel
theorem dX9_issue_65 : decode cX9_issue 65 = .ok (.ifCond .ne 8, 3) := by decide +kernel
theorem dX9_issue_68 : decode cX9_issue 68 = .ok (.bipush 9, 2) := by decide +kernel
theorem dX9_issue_70 : decode cX9_issue 70 = .ok (.goto 4, 3) := by decide +kernel
theorem dX9_issue_73 : decode cX9_issue 73 = .ok (.iconst 0, 1) := by decide +kernel
theorem dX9_issue_74 : decode cX9_issue 74 = .ok (.istore_n 3, 1) := by decide +kernel
theorem dX9_issue_75 : decode cX9_issue 75 = .ok (.iload_n 3, 1) := by decide +kernel
theorem dX9_issue_76 : decode cX9_issue 76 = .ok (.ifCond .eq 10, 3) := by decide +kernel
theorem dX9_issue_79 : decode cX9_issue 79 = .ok (.aload_n 0, 1) := by decide +kernel
theorem dX9_issue_80 : decode cX9_issue 80 = .ok (.iload_n 3, 1) := by decide +kernel
theorem dX9_issue_81 : decode cX9_issue 81 = .ok (.iconst 2, 1) := by decide +kernel
theorem dX9_issue_82 : decode cX9_issue 82 = .ok (.invokevirtual 181, 3) := by decide +kernel
theorem dX9_issue_85 : decode cX9_issue 85 = .ok (.ireturn, 1) := by decide +kernel
theorem dX9_issue_86 : decode cX9_issue 86 = .ok (.aload_n 0, 1) := by decide +kernel
theorem dX9_issue_87 : decode cX9_issue 87 = .ok (.invokevirtual 73, 3) := by decide +kernel
theorem dX9_issue_90 : decode cX9_issue 90 = .ok (.aload_n 0, 1) := by decide +kernel
theorem dX9_issue_91 : decode cX9_issue 91 = .ok (.getfield 9, 3) := by decide +kernel
theorem dX9_issue_94 : decode cX9_issue 94 = .ok (.bipush 6, 2) := by decide +kernel
theorem dX9_issue_96 : decode cX9_issue 96 = .ok (.laload, 1) := by decide +kernel
theorem dX9_issue_97 : decode cX9_issue 97 = .ok (.l2i, 1) := by decide +kernel
theorem dX9_issue_98 : decode cX9_issue 98 = .ok (.istore 4, 2) := by decide +kernel
theorem dX9_issue_100 : decode cX9_issue 100 = .ok (.aload_n 0, 1) := by decide +kernel
theorem dX9_issue_101 : decode cX9_issue 101 = .ok (.getfield 9, 3) := by decide +kernel
theorem dX9_issue_104 : decode cX9_issue 104 = .ok (.sipush 1060, 3) := by decide +kernel
theorem dX9_issue_107 : decode cX9_issue 107 = .ok (.iconst 2, 1) := by decide +kernel
theorem dX9_issue_108 : decode cX9_issue 108 = .ok (.iload 4, 2) := by decide +kernel
theorem dX9_issue_110 : decode cX9_issue 110 = .ok (.imul, 1) := by decide +kernel
theorem dX9_issue_111 : decode cX9_issue 111 = .ok (.iadd, 1) := by decide +kernel
theorem dX9_issue_112 : decode cX9_issue 112 = .ok (.iload_n 2, 1) := by decide +kernel
theorem dX9_issue_113 : decode cX9_issue 113 = .ok (.i2l, 1) := by decide +kernel
theorem dX9_issue_114 : decode cX9_issue 114 = .ok (.lastore, 1) := by decide +kernel
theorem dX9_issue_115 : decode cX9_issue 115 = .ok (.aload_n 0, 1) := by decide +kernel
theorem dX9_issue_116 : decode cX9_issue 116 = .ok (.getfield 9, 3) := by decide +kernel
theorem dX9_issue_119 : decode cX9_issue 119 = .ok (.sipush 1060, 3) := by decide +kernel
theorem dX9_issue_122 : decode cX9_issue 122 = .ok (.iconst 2, 1) := by decide +kernel
theorem dX9_issue_123 : decode cX9_issue 123 = .ok (.iload 4, 2) := by decide +kernel
theorem dX9_issue_125 : decode cX9_issue 125 = .ok (.imul, 1) := by decide +kernel
theorem dX9_issue_126 : decode cX9_issue 126 = .ok (.iadd, 1) := by decide +kernel
theorem dX9_issue_127 : decode cX9_issue 127 = .ok (.iconst 1, 1) := by decide +kernel
theorem dX9_issue_128 : decode cX9_issue 128 = .ok (.iadd, 1) := by decide +kernel
theorem dX9_issue_129 : decode cX9_issue 129 = .ok (.aload_n 0, 1) := by decide +kernel
theorem dX9_issue_130 : decode cX9_issue 130 = .ok (.getfield 9, 3) := by decide +kernel
theorem dX9_issue_133 : decode cX9_issue 133 = .ok (.iconst 0, 1) := by decide +kernel
theorem dX9_issue_134 : decode cX9_issue 134 = .ok (.laload, 1) := by decide +kernel
theorem dX9_issue_135 : decode cX9_issue 135 = .ok (.lastore, 1) := by decide +kernel
theorem dX9_issue_136 : decode cX9_issue 136 = .ok (.aload_n 0, 1) := by decide +kernel
theorem dX9_issue_137 : decode cX9_issue 137 = .ok (.getfield 9, 3) := by decide +kernel
theorem dX9_issue_140 : decode cX9_issue 140 = .ok (.bipush 6, 2) := by decide +kernel
theorem dX9_issue_142 : decode cX9_issue 142 = .ok (.dup2, 1) := by decide +kernel
theorem dX9_issue_143 : decode cX9_issue 143 = .ok (.laload, 1) := by decide +kernel
theorem dX9_issue_144 : decode cX9_issue 144 = .ok (.lconst 1, 1) := by decide +kernel
theorem dX9_issue_145 : decode cX9_issue 145 = .ok (.ladd, 1) := by decide +kernel
theorem dX9_issue_146 : decode cX9_issue 146 = .ok (.lastore, 1) := by decide +kernel
theorem dX9_issue_147 : decode cX9_issue 147 = .ok (.aload_n 0, 1) := by decide +kernel
theorem dX9_issue_148 : decode cX9_issue 148 = .ok (.getfield 9, 3) := by decide +kernel
theorem dX9_issue_151 : decode cX9_issue 151 = .ok (.bipush 10, 2) := by decide +kernel
theorem dX9_issue_153 : decode cX9_issue 153 = .ok (.bipush 8, 2) := by decide +kernel
theorem dX9_issue_155 : decode cX9_issue 155 = .ok (.iload_n 1, 1) := by decide +kernel
theorem dX9_issue_156 : decode cX9_issue 156 = .ok (.imul, 1) := by decide +kernel
theorem dX9_issue_157 : decode cX9_issue 157 = .ok (.iadd, 1) := by decide +kernel
theorem dX9_issue_158 : decode cX9_issue 158 = .ok (.bipush 6, 2) := by decide +kernel
theorem dX9_issue_160 : decode cX9_issue 160 = .ok (.iadd, 1) := by decide +kernel
theorem dX9_issue_161 : decode cX9_issue 161 = .ok (.dup2, 1) := by decide +kernel
theorem dX9_issue_162 : decode cX9_issue 162 = .ok (.laload, 1) := by decide +kernel
theorem dX9_issue_163 : decode cX9_issue 163 = .ok (.ldc2_w 226, 3) := by decide +kernel
theorem dX9_issue_166 : decode cX9_issue 166 = .ok (.ladd, 1) := by decide +kernel
theorem dX9_issue_167 : decode cX9_issue 167 = .ok (.lastore, 1) := by decide +kernel
theorem dX9_issue_168 : decode cX9_issue 168 = .ok (.aload_n 0, 1) := by decide +kernel
theorem dX9_issue_169 : decode cX9_issue 169 = .ok (.iload 4, 2) := by decide +kernel
theorem dX9_issue_171 : decode cX9_issue 171 = .ok (.i2l, 1) := by decide +kernel
theorem dX9_issue_172 : decode cX9_issue 172 = .ok (.invokevirtual 78, 3) := by decide +kernel
theorem dX9_issue_175 : decode cX9_issue 175 = .ok (.ireturn, 1) := by decide +kernel
theorem dX9_stateOf_0 : decode cX9_stateOf 0 = .ok (.aload_n 0, 1) := by decide +kernel
theorem dX9_stateOf_1 : decode cX9_stateOf 1 = .ok (.getfield 9, 3) := by decide +kernel
theorem dX9_stateOf_4 : decode cX9_stateOf 4 = .ok (.sipush 1060, 3) := by decide +kernel
theorem dX9_stateOf_7 : decode cX9_stateOf 7 = .ok (.iconst 2, 1) := by decide +kernel
theorem dX9_stateOf_8 : decode cX9_stateOf 8 = .ok (.iload_n 1, 1) := by decide +kernel
theorem dX9_stateOf_9 : decode cX9_stateOf 9 = .ok (.imul, 1) := by decide +kernel
theorem dX9_stateOf_10 : decode cX9_stateOf 10 = .ok (.iadd, 1) := by decide +kernel
theorem dX9_stateOf_11 : decode cX9_stateOf 11 = .ok (.laload, 1) := by decide +kernel
theorem dX9_stateOf_12 : decode cX9_stateOf 12 = .ok (.l2i, 1) := by decide +kernel
theorem dX9_stateOf_13 : decode cX9_stateOf 13 = .ok (.istore_n 2, 1) := by decide +kernel
theorem dX9_stateOf_14 : decode cX9_stateOf 14 = .ok (.aload_n 0, 1) := by decide +kernel
theorem dX9_stateOf_15 : decode cX9_stateOf 15 = .ok (.iload_n 2, 1) := by decide +kernel
theorem dX9_stateOf_16 : decode cX9_stateOf 16 = .ok (.invokevirtual 130, 3) := by decide +kernel
theorem dX9_stateOf_19 : decode cX9_stateOf 19 = .ok (.ifCond .ne 7, 3) := by decide +kernel
theorem dX9_stateOf_22 : decode cX9_stateOf 22 = .ok (.iconst 2, 1) := by decide +kernel
theorem dX9_stateOf_23 : decode cX9_stateOf 23 = .ok (.goto 16, 3) := by decide +kernel
theorem dX9_stateOf_26 : decode cX9_stateOf 26 = .ok (.aload_n 0, 1) := by decide +kernel
theorem dX9_stateOf_27 : decode cX9_stateOf 27 = .ok (.iload_n 2, 1) := by decide +kernel
theorem dX9_stateOf_28 : decode cX9_stateOf 28 = .ok (.invokevirtual 108, 3) := by decide +kernel
theorem dX9_stateOf_31 : decode cX9_stateOf 31 = .ok (.ifCond .eq 7, 3) := by decide +kernel
theorem dX9_stateOf_34 : decode cX9_stateOf 34 = .ok (.iconst 1, 1) := by decide +kernel
theorem dX9_stateOf_35 : decode cX9_stateOf 35 = .ok (.goto 4, 3) := by decide +kernel
theorem dX9_stateOf_38 : decode cX9_stateOf 38 = .ok (.iconst 0, 1) := by decide +kernel
theorem dX9_stateOf_39 : decode cX9_stateOf 39 = .ok (.ireturn, 1) := by decide +kernel
theorem dX9_certificate_0 : decode cX9_certificate 0 = .ok (.iload_n 1, 1) := by decide +kernel
theorem dX9_certificate_1 : decode cX9_certificate 1 = .ok (.i2l, 1) := by decide +kernel
theorem dX9_certificate_2 : decode cX9_certificate 2 = .ok (.lconst 0, 1) := by decide +kernel
theorem dX9_certificate_3 : decode cX9_certificate 3 = .ok (.aload_n 0, 1) := by decide +kernel
theorem dX9_certificate_4 : decode cX9_certificate 4 = .ok (.getfield 9, 3) := by decide +kernel
theorem dX9_certificate_7 : decode cX9_certificate 7 = .ok (.bipush 6, 2) := by decide +kernel
theorem dX9_certificate_9 : decode cX9_certificate 9 = .ok (.laload, 1) := by decide +kernel
theorem dX9_certificate_10 : decode cX9_certificate 10 = .ok (.lconst 1, 1) := by decide +kernel
theorem dX9_certificate_11 : decode cX9_certificate 11 = .ok (.lsub, 1) := by decide +kernel
theorem dX9_certificate_12 : decode cX9_certificate 12 = .ok (.invokestatic 55, 3) := by decide +kernel
theorem dX9_certificate_15 : decode cX9_certificate 15 = .ok (.ifCond .ne 9, 3) := by decide +kernel
theorem dX9_certificate_18 : decode cX9_certificate 18 = .ok (.aload_n 0, 1) := by decide +kernel
theorem dX9_certificate_19 : decode cX9_certificate 19 = .ok (.iconst 1, 1) := by decide +kernel
theorem dX9_certificate_20 : decode cX9_certificate 20 = .ok (.invokevirtual 63, 3) := by decide +kernel
theorem dX9_certificate_23 : decode cX9_certificate 23 = .ok (.ireturn, 1) := by decide +kernel
theorem dX9_certificate_24 : decode cX9_certificate 24 = .ok (.iload_n 2, 1) := by decide +kernel
theorem dX9_certificate_25 : decode cX9_certificate 25 = .ok (.i2l, 1) := by decide +kernel
theorem dX9_certificate_26 : decode cX9_certificate 26 = .ok (.lconst 0, 1) := by decide +kernel
theorem dX9_certificate_27 : decode cX9_certificate 27 = .ok (.ldc2_w 59, 3) := by decide +kernel
theorem dX9_certificate_30 : decode cX9_certificate 30 = .ok (.invokestatic 55, 3) := by decide +kernel
theorem dX9_certificate_33 : decode cX9_certificate 33 = .ok (.ifCond .ne 11, 3) := by decide +kernel
theorem dX9_certificate_36 : decode cX9_certificate 36 = .ok (.aload_n 0, 1) := by decide +kernel
theorem dX9_certificate_37 : decode cX9_certificate 37 = .ok (.iconst 2, 1) := by decide +kernel
theorem dX9_certificate_38 : decode cX9_certificate 38 = .ok (.invokevirtual 63, 3) := by decide +kernel
theorem dX9_certificate_41 : decode cX9_certificate 41 = .ok (.goto 35, 3) := by decide +kernel
theorem dX9_certificate_44 : decode cX9_certificate 44 = .ok (.aload_n 0, 1) := by decide +kernel
theorem dX9_certificate_45 : decode cX9_certificate 45 = .ok (.iload_n 2, 1) := by decide +kernel
theorem dX9_certificate_46 : decode cX9_certificate 46 = .ok (.iconst 2, 1) := by decide +kernel
theorem dX9_certificate_47 : decode cX9_certificate 47 = .ok (.if_icmp .ne 12, 3) := by decide +kernel
theorem dX9_certificate_50 : decode cX9_certificate 50 = .ok (.aload_n 0, 1) := by decide +kernel
theorem dX9_certificate_51 : decode cX9_certificate 51 = .ok (.iload_n 1, 1) := by decide +kernel
theorem dX9_certificate_52 : decode cX9_certificate 52 = .ok (.invokevirtual 228, 3) := by decide +kernel
theorem dX9_certificate_55 : decode cX9_certificate 55 = .ok (.i2l, 1) := by decide +kernel
theorem dX9_certificate_56 : decode cX9_certificate 56 = .ok (.goto 17, 3) := by decide +kernel
theorem dX9_certificate_59 : decode cX9_certificate 59 = .ok (.aload_n 0, 1) := by decide +kernel
theorem dX9_certificate_60 : decode cX9_certificate 60 = .ok (.getfield 9, 3) := by decide +kernel
theorem dX9_certificate_63 : decode cX9_certificate 63 = .ok (.sipush 1060, 3) := by decide +kernel
theorem dX9_certificate_66 : decode cX9_certificate 66 = .ok (.iconst 2, 1) := by decide +kernel
theorem dX9_certificate_67 : decode cX9_certificate 67 = .ok (.iload_n 1, 1) := by decide +kernel
theorem dX9_certificate_68 : decode cX9_certificate 68 = .ok (.imul, 1) := by decide +kernel
theorem dX9_certificate_69 : decode cX9_certificate 69 = .ok (.iadd, 1) := by decide +kernel
theorem dX9_certificate_70 : decode cX9_certificate 70 = .ok (.iload_n 2, 1) := by decide +kernel
theorem dX9_certificate_71 : decode cX9_certificate 71 = .ok (.iadd, 1) := by decide +kernel
theorem dX9_certificate_72 : decode cX9_certificate 72 = .ok (.laload, 1) := by decide +kernel
theorem dX9_certificate_73 : decode cX9_certificate 73 = .ok (.invokevirtual 78, 3) := by decide +kernel
theorem dX9_certificate_76 : decode cX9_certificate 76 = .ok (.ireturn, 1) := by decide +kernel
theorem dX9_writesLetter_0 : decode cX9_writesLetter 0 = .ok (.aload_n 0, 1) := by decide +kernel
theorem dX9_writesLetter_1 : decode cX9_writesLetter 1 = .ok (.getfield 30, 3) := by decide +kernel
theorem dX9_writesLetter_4 : decode cX9_writesLetter 4 = .ok (.aload_n 0, 1) := by decide +kernel
theorem dX9_writesLetter_5 : decode cX9_writesLetter 5 = .ok (.getfield 231, 3) := by decide +kernel
theorem dX9_writesLetter_8 : decode cX9_writesLetter 8 = .ok (.iload_n 1, 1) := by decide +kernel
theorem dX9_writesLetter_9 : decode cX9_writesLetter 9 = .ok (.castore, 1) := by decide +kernel
theorem dX9_writesLetter_10 : decode cX9_writesLetter 10 = .ok (.aload_n 0, 1) := by decide +kernel
theorem dX9_writesLetter_11 : decode cX9_writesLetter 11 = .ok (.dup, 1) := by decide +kernel
theorem dX9_writesLetter_12 : decode cX9_writesLetter 12 = .ok (.getfield 231, 3) := by decide +kernel
theorem dX9_writesLetter_15 : decode cX9_writesLetter 15 = .ok (.iconst 1, 1) := by decide +kernel
theorem dX9_writesLetter_16 : decode cX9_writesLetter 16 = .ok (.iadd, 1) := by decide +kernel
theorem dX9_writesLetter_17 : decode cX9_writesLetter 17 = .ok (.putfield 231, 3) := by decide +kernel
theorem dX9_writesLetter_20 : decode cX9_writesLetter 20 = .ok (.return_, 1) := by decide +kernel
theorem dX9_writesNumber_0 : decode cX9_writesNumber 0 = .ok (.lload_n 1, 1) := by decide +kernel
theorem dX9_writesNumber_1 : decode cX9_writesNumber 1 = .ok (.lconst 0, 1) := by decide +kernel
theorem dX9_writesNumber_2 : decode cX9_writesNumber 2 = .ok (.lcmp, 1) := by decide +kernel
theorem dX9_writesNumber_3 : decode cX9_writesNumber 3 = .ok (.ifCond .ge 9, 3) := by decide +kernel
theorem dX9_writesNumber_6 : decode cX9_writesNumber 6 = .ok (.aload_n 0, 1) := by decide +kernel
theorem dX9_writesNumber_7 : decode cX9_writesNumber 7 = .ok (.bipush 45, 2) := by decide +kernel
theorem dX9_writesNumber_9 : decode cX9_writesNumber 9 = .ok (.invokevirtual 234, 3) := by decide +kernel
theorem dX9_writesNumber_12 : decode cX9_writesNumber 12 = .ok (.lload_n 1, 1) := by decide +kernel
theorem dX9_writesNumber_13 : decode cX9_writesNumber 13 = .ok (.invokestatic 133, 3) := by decide +kernel
theorem dX9_writesNumber_16 : decode cX9_writesNumber 16 = .ok (.lstore_n 3, 1) := by decide +kernel
theorem dX9_writesNumber_17 : decode cX9_writesNumber 17 = .ok (.lconst 1, 1) := by decide +kernel
theorem dX9_writesNumber_18 : decode cX9_writesNumber 18 = .ok (.lstore 5, 2) := by decide +kernel
theorem dX9_writesNumber_20 : decode cX9_writesNumber 20 = .ok (.lload 5, 2) := by decide +kernel
theorem dX9_writesNumber_22 : decode cX9_writesNumber 22 = .ok (.ldc2_w 94, 3) := by decide +kernel
theorem dX9_writesNumber_25 : decode cX9_writesNumber 25 = .ok (.lmul, 1) := by decide +kernel
theorem dX9_writesNumber_26 : decode cX9_writesNumber 26 = .ok (.lload_n 3, 1) := by decide +kernel
theorem dX9_writesNumber_27 : decode cX9_writesNumber 27 = .ok (.lcmp, 1) := by decide +kernel
theorem dX9_writesNumber_28 : decode cX9_writesNumber 28 = .ok (.ifCond .gt 14, 3) := by decide +kernel
theorem dX9_writesNumber_31 : decode cX9_writesNumber 31 = .ok (.lload 5, 2) := by decide +kernel
theorem dX9_writesNumber_33 : decode cX9_writesNumber 33 = .ok (.ldc2_w 94, 3) := by decide +kernel
theorem dX9_writesNumber_36 : decode cX9_writesNumber 36 = .ok (.lmul, 1) := by decide +kernel
theorem dX9_writesNumber_37 : decode cX9_writesNumber 37 = .ok (.lstore 5, 2) := by decide +kernel
theorem dX9_writesNumber_39 : decode cX9_writesNumber 39 = .ok (.goto (-19), 3) := by decide +kernel
theorem dX9_writesNumber_42 : decode cX9_writesNumber 42 = .ok (.lload 5, 2) := by decide +kernel
theorem dX9_writesNumber_44 : decode cX9_writesNumber 44 = .ok (.lstore 7, 2) := by decide +kernel
theorem dX9_writesNumber_46 : decode cX9_writesNumber 46 = .ok (.lload 7, 2) := by decide +kernel
theorem dX9_writesNumber_48 : decode cX9_writesNumber 48 = .ok (.lconst 0, 1) := by decide +kernel
theorem dX9_writesNumber_49 : decode cX9_writesNumber 49 = .ok (.lcmp, 1) := by decide +kernel
theorem dX9_writesNumber_50 : decode cX9_writesNumber 50 = .ok (.ifCond .le 32, 3) := by decide +kernel
theorem dX9_writesNumber_53 : decode cX9_writesNumber 53 = .ok (.aload_n 0, 1) := by decide +kernel
theorem dX9_writesNumber_54 : decode cX9_writesNumber 54 = .ok (.ldc2_w 238, 3) := by decide +kernel
theorem dX9_writesNumber_57 : decode cX9_writesNumber 57 = .ok (.lload_n 3, 1) := by decide +kernel
theorem dX9_writesNumber_58 : decode cX9_writesNumber 58 = .ok (.lload 7, 2) := by decide +kernel
theorem dX9_writesNumber_60 : decode cX9_writesNumber 60 = .ok (.ldiv, 1) := by decide +kernel
theorem dX9_writesNumber_61 : decode cX9_writesNumber 61 = .ok (.ldc2_w 94, 3) := by decide +kernel
theorem dX9_writesNumber_64 : decode cX9_writesNumber 64 = .ok (.lrem, 1) := by decide +kernel
theorem dX9_writesNumber_65 : decode cX9_writesNumber 65 = .ok (.ladd, 1) := by decide +kernel
theorem dX9_writesNumber_66 : decode cX9_writesNumber 66 = .ok (.l2i, 1) := by decide +kernel
theorem dX9_writesNumber_67 : decode cX9_writesNumber 67 = .ok (.i2c, 1) := by decide +kernel
theorem dX9_writesNumber_68 : decode cX9_writesNumber 68 = .ok (.invokevirtual 234, 3) := by decide +kernel
theorem dX9_writesNumber_71 : decode cX9_writesNumber 71 = .ok (.lload 7, 2) := by decide +kernel
theorem dX9_writesNumber_73 : decode cX9_writesNumber 73 = .ok (.ldc2_w 94, 3) := by decide +kernel
theorem dX9_writesNumber_76 : decode cX9_writesNumber 76 = .ok (.ldiv, 1) := by decide +kernel
theorem dX9_writesNumber_77 : decode cX9_writesNumber 77 = .ok (.lstore 7, 2) := by decide +kernel
theorem dX9_writesNumber_79 : decode cX9_writesNumber 79 = .ok (.goto (-33), 3) := by decide +kernel
theorem dX9_writesNumber_82 : decode cX9_writesNumber 82 = .ok (.return_, 1) := by decide +kernel
theorem dX9_writesPart_0 : decode cX9_writesPart 0 = .ok (.aload_n 0, 1) := by decide +kernel
theorem dX9_writesPart_1 : decode cX9_writesPart 1 = .ok (.bipush 32, 2) := by decide +kernel
theorem dX9_writesPart_3 : decode cX9_writesPart 3 = .ok (.invokevirtual 234, 3) := by decide +kernel
theorem dX9_writesPart_6 : decode cX9_writesPart 6 = .ok (.aload_n 0, 1) := by decide +kernel
theorem dX9_writesPart_7 : decode cX9_writesPart 7 = .ok (.iload_n 1, 1) := by decide +kernel
theorem dX9_writesPart_8 : decode cX9_writesPart 8 = .ok (.invokevirtual 234, 3) := by decide +kernel
theorem dX9_writesPart_11 : decode cX9_writesPart 11 = .ok (.aload_n 0, 1) := by decide +kernel
theorem dX9_writesPart_12 : decode cX9_writesPart 12 = .ok (.lload_n 2, 1) := by decide +kernel
theorem dX9_writesPart_13 : decode cX9_writesPart 13 = .ok (.invokevirtual 240, 3) := by decide +kernel
theorem dX9_writesPart_16 : decode cX9_writesPart 16 = .ok (.return_, 1) := by decide +kernel
theorem dX9_write_0 : decode cX9_write 0 = .ok (.iload_n 1, 1) := by decide +kernel
theorem dX9_write_1 : decode cX9_write 1 = .ok (.i2l, 1) := by decide +kernel
theorem dX9_write_2 : decode cX9_write 2 = .ok (.lconst 0, 1) := by decide +kernel
theorem dX9_write_3 : decode cX9_write 3 = .ok (.aload_n 0, 1) := by decide +kernel
theorem dX9_write_4 : decode cX9_write 4 = .ok (.getfield 9, 3) := by decide +kernel
theorem dX9_write_7 : decode cX9_write 7 = .ok (.bipush 6, 2) := by decide +kernel
theorem dX9_write_9 : decode cX9_write 9 = .ok (.laload, 1) := by decide +kernel
theorem dX9_write_10 : decode cX9_write 10 = .ok (.lconst 1, 1) := by decide +kernel
theorem dX9_write_11 : decode cX9_write 11 = .ok (.lsub, 1) := by decide +kernel
theorem dX9_write_12 : decode cX9_write 12 = .ok (.invokestatic 55, 3) := by decide +kernel
theorem dX9_write_15 : decode cX9_write 15 = .ok (.ifCond .ne 9, 3) := by decide +kernel
theorem dX9_write_18 : decode cX9_write 18 = .ok (.aload_n 0, 1) := by decide +kernel
theorem dX9_write_19 : decode cX9_write 19 = .ok (.iconst 1, 1) := by decide +kernel
theorem dX9_write_20 : decode cX9_write 20 = .ok (.invokevirtual 63, 3) := by decide +kernel
theorem dX9_write_23 : decode cX9_write 23 = .ok (.ireturn, 1) := by decide +kernel
theorem dX9_write_24 : decode cX9_write 24 = .ok (.aload_n 0, 1) := by decide +kernel
theorem dX9_write_25 : decode cX9_write 25 = .ok (.getfield 9, 3) := by decide +kernel
theorem dX9_write_28 : decode cX9_write 28 = .ok (.sipush 1060, 3) := by decide +kernel
theorem dX9_write_31 : decode cX9_write 31 = .ok (.iconst 2, 1) := by decide +kernel
theorem dX9_write_32 : decode cX9_write 32 = .ok (.iload_n 1, 1) := by decide +kernel
theorem dX9_write_33 : decode cX9_write 33 = .ok (.imul, 1) := by decide +kernel
theorem dX9_write_34 : decode cX9_write 34 = .ok (.iadd, 1) := by decide +kernel
theorem dX9_write_35 : decode cX9_write 35 = .ok (.laload, 1) := by decide +kernel
theorem dX9_write_36 : decode cX9_write 36 = .ok (.l2i, 1) := by decide +kernel
theorem dX9_write_37 : decode cX9_write 37 = .ok (.istore_n 2, 1) := by decide +kernel
theorem dX9_write_38 : decode cX9_write 38 = .ok (.aload_n 0, 1) := by decide +kernel
theorem dX9_write_39 : decode cX9_write 39 = .ok (.iconst 0, 1) := by decide +kernel
theorem dX9_write_40 : decode cX9_write 40 = .ok (.putfield 231, 3) := by decide +kernel
theorem dX9_write_43 : decode cX9_write 43 = .ok (.aload_n 0, 1) := by decide +kernel
theorem dX9_write_44 : decode cX9_write 44 = .ok (.bipush 78, 2) := by decide +kernel
theorem dX9_write_46 : decode cX9_write 46 = .ok (.invokevirtual 234, 3) := by decide +kernel
theorem dX9_write_49 : decode cX9_write 49 = .ok (.aload_n 0, 1) := by decide +kernel
theorem dX9_write_50 : decode cX9_write 50 = .ok (.iload_n 1, 1) := by decide +kernel
theorem dX9_write_51 : decode cX9_write 51 = .ok (.i2l, 1) := by decide +kernel
theorem dX9_write_52 : decode cX9_write 52 = .ok (.invokevirtual 240, 3) := by decide +kernel
theorem dX9_write_55 : decode cX9_write 55 = .ok (.aload_n 0, 1) := by decide +kernel
theorem dX9_write_56 : decode cX9_write 56 = .ok (.bipush 73, 2) := by decide +kernel
theorem dX9_write_58 : decode cX9_write 58 = .ok (.aload_n 0, 1) := by decide +kernel
theorem dX9_write_59 : decode cX9_write 59 = .ok (.iload_n 2, 1) := by decide +kernel
theorem dX9_write_60 : decode cX9_write 60 = .ok (.iconst 0, 1) := by decide +kernel
theorem dX9_write_61 : decode cX9_write 61 = .ok (.invokevirtual 99, 3) := by decide +kernel
theorem dX9_write_64 : decode cX9_write 64 = .ok (.invokevirtual 244, 3) := by decide +kernel
theorem dX9_write_67 : decode cX9_write 67 = .ok (.aload_n 0, 1) := by decide +kernel
theorem dX9_write_68 : decode cX9_write 68 = .ok (.bipush 68, 2) := by decide +kernel
theorem dX9_write_70 : decode cX9_write 70 = .ok (.aload_n 0, 1) := by decide +kernel
theorem dX9_write_71 : decode cX9_write 71 = .ok (.iload_n 2, 1) := by decide +kernel
theorem dX9_write_72 : decode cX9_write 72 = .ok (.iconst 3, 1) := by decide +kernel
theorem dX9_write_73 : decode cX9_write 73 = .ok (.invokevirtual 99, 3) := by decide +kernel
theorem dX9_write_76 : decode cX9_write 76 = .ok (.invokevirtual 244, 3) := by decide +kernel
theorem dX9_write_79 : decode cX9_write 79 = .ok (.aload_n 0, 1) := by decide +kernel
theorem dX9_write_80 : decode cX9_write 80 = .ok (.bipush 79, 2) := by decide +kernel
theorem dX9_write_82 : decode cX9_write 82 = .ok (.aload_n 0, 1) := by decide +kernel
theorem dX9_write_83 : decode cX9_write 83 = .ok (.iload_n 2, 1) := by decide +kernel
theorem dX9_write_84 : decode cX9_write 84 = .ok (.iconst 4, 1) := by decide +kernel
theorem dX9_write_85 : decode cX9_write 85 = .ok (.invokevirtual 99, 3) := by decide +kernel
theorem dX9_write_88 : decode cX9_write 88 = .ok (.invokevirtual 244, 3) := by decide +kernel
theorem dX9_write_91 : decode cX9_write 91 = .ok (.aload_n 0, 1) := by decide +kernel
theorem dX9_write_92 : decode cX9_write 92 = .ok (.bipush 85, 2) := by decide +kernel
theorem dX9_write_94 : decode cX9_write 94 = .ok (.aload_n 0, 1) := by decide +kernel
theorem dX9_write_95 : decode cX9_write 95 = .ok (.iload_n 2, 1) := by decide +kernel
theorem dX9_write_96 : decode cX9_write 96 = .ok (.bipush 8, 2) := by decide +kernel
theorem dX9_write_98 : decode cX9_write 98 = .ok (.invokevirtual 99, 3) := by decide +kernel
theorem dX9_write_101 : decode cX9_write 101 = .ok (.invokevirtual 244, 3) := by decide +kernel
theorem dX9_write_104 : decode cX9_write 104 = .ok (.aload_n 0, 1) := by decide +kernel
theorem dX9_write_105 : decode cX9_write 105 = .ok (.bipush 83, 2) := by decide +kernel
theorem dX9_write_107 : decode cX9_write 107 = .ok (.aload_n 0, 1) := by decide +kernel
theorem dX9_write_108 : decode cX9_write 108 = .ok (.iload_n 2, 1) := by decide +kernel
theorem dX9_write_109 : decode cX9_write 109 = .ok (.iconst 1, 1) := by decide +kernel
theorem dX9_write_110 : decode cX9_write 110 = .ok (.invokevirtual 99, 3) := by decide +kernel
theorem dX9_write_113 : decode cX9_write 113 = .ok (.invokevirtual 244, 3) := by decide +kernel
theorem dX9_write_116 : decode cX9_write 116 = .ok (.aload_n 0, 1) := by decide +kernel
theorem dX9_write_117 : decode cX9_write 117 = .ok (.iload_n 2, 1) := by decide +kernel
theorem dX9_write_118 : decode cX9_write 118 = .ok (.iconst 2, 1) := by decide +kernel
theorem dX9_write_119 : decode cX9_write 119 = .ok (.invokevirtual 99, 3) := by decide +kernel
theorem dX9_write_122 : decode cX9_write 122 = .ok (.l2i, 1) := by decide +kernel
theorem dX9_write_123 : decode cX9_write 123 = .ok (.istore_n 3, 1) := by decide +kernel
theorem dX9_write_124 : decode cX9_write 124 = .ok (.iload_n 3, 1) := by decide +kernel
theorem dX9_write_125 : decode cX9_write 125 = .ok (.iconst (-1), 1) := by decide +kernel
theorem dX9_write_126 : decode cX9_write 126 = .ok (.if_icmp .eq 30, 3) := by decide +kernel
theorem dX9_write_129 : decode cX9_write 129 = .ok (.aload_n 0, 1) := by decide +kernel
theorem dX9_write_130 : decode cX9_write 130 = .ok (.bipush 60, 2) := by decide +kernel
theorem dX9_write_132 : decode cX9_write 132 = .ok (.invokevirtual 234, 3) := by decide +kernel
theorem dX9_write_135 : decode cX9_write 135 = .ok (.aload_n 0, 1) := by decide +kernel
theorem dX9_write_136 : decode cX9_write 136 = .ok (.aload_n 0, 1) := by decide +kernel
theorem dX9_write_137 : decode cX9_write 137 = .ok (.iload_n 3, 1) := by decide +kernel
theorem dX9_write_138 : decode cX9_write 138 = .ok (.iconst 1, 1) := by decide +kernel
theorem dX9_write_139 : decode cX9_write 139 = .ok (.invokevirtual 99, 3) := by decide +kernel
theorem dX9_write_142 : decode cX9_write 142 = .ok (.invokevirtual 240, 3) := by decide +kernel
theorem dX9_write_145 : decode cX9_write 145 = .ok (.aload_n 0, 1) := by decide +kernel
theorem dX9_write_146 : decode cX9_write 146 = .ok (.iload_n 3, 1) := by decide +kernel
theorem dX9_write_147 : decode cX9_write 147 = .ok (.iconst 2, 1) := by decide +kernel
theorem dX9_write_148 : decode cX9_write 148 = .ok (.invokevirtual 99, 3) := by decide +kernel
theorem dX9_write_151 : decode cX9_write 151 = .ok (.l2i, 1) := by decide +kernel
theorem dX9_write_152 : decode cX9_write 152 = .ok (.istore_n 3, 1) := by decide +kernel
theorem dX9_write_153 : decode cX9_write 153 = .ok (.goto (-29), 3) := by decide +kernel
theorem dX9_write_156 : decode cX9_write 156 = .ok (.aload_n 0, 1) := by decide +kernel
theorem dX9_write_157 : decode cX9_write 157 = .ok (.aload_n 0, 1) := by decide +kernel
theorem dX9_write_158 : decode cX9_write 158 = .ok (.getfield 231, 3) := by decide +kernel
theorem dX9_write_161 : decode cX9_write 161 = .ok (.i2l, 1) := by decide +kernel
theorem dX9_write_162 : decode cX9_write 162 = .ok (.invokevirtual 78, 3) := by decide +kernel
theorem dX9_write_165 : decode cX9_write 165 = .ok (.ireturn, 1) := by decide +kernel
theorem dX9_written_0 : decode cX9_written 0 = .ok (.iload_n 1, 1) := by decide +kernel
theorem dX9_written_1 : decode cX9_written 1 = .ok (.i2l, 1) := by decide +kernel
theorem dX9_written_2 : decode cX9_written 2 = .ok (.lconst 0, 1) := by decide +kernel
theorem dX9_written_3 : decode cX9_written 3 = .ok (.aload_n 0, 1) := by decide +kernel
theorem dX9_written_4 : decode cX9_written 4 = .ok (.getfield 231, 3) := by decide +kernel
theorem dX9_written_7 : decode cX9_written 7 = .ok (.iconst 1, 1) := by decide +kernel
theorem dX9_written_8 : decode cX9_written 8 = .ok (.isub, 1) := by decide +kernel
theorem dX9_written_9 : decode cX9_written 9 = .ok (.i2l, 1) := by decide +kernel
theorem dX9_written_10 : decode cX9_written 10 = .ok (.invokestatic 55, 3) := by decide +kernel
theorem dX9_written_13 : decode cX9_written 13 = .ok (.ifCond .ne 10, 3) := by decide +kernel
theorem dX9_written_16 : decode cX9_written 16 = .ok (.aload_n 0, 1) := by decide +kernel
theorem dX9_written_17 : decode cX9_written 17 = .ok (.iconst 1, 1) := by decide +kernel
theorem dX9_written_18 : decode cX9_written 18 = .ok (.invokevirtual 63, 3) := by decide +kernel
theorem dX9_written_21 : decode cX9_written 21 = .ok (.i2c, 1) := by decide +kernel
theorem dX9_written_22 : decode cX9_written 22 = .ok (.ireturn, 1) := by decide +kernel
theorem dX9_written_23 : decode cX9_written 23 = .ok (.aload_n 0, 1) := by decide +kernel
theorem dX9_written_24 : decode cX9_written 24 = .ok (.iconst 0, 1) := by decide +kernel
theorem dX9_written_25 : decode cX9_written 25 = .ok (.putfield 37, 3) := by decide +kernel
theorem dX9_written_28 : decode cX9_written 28 = .ok (.aload_n 0, 1) := by decide +kernel
theorem dX9_written_29 : decode cX9_written 29 = .ok (.getfield 30, 3) := by decide +kernel
theorem dX9_written_32 : decode cX9_written 32 = .ok (.iload_n 1, 1) := by decide +kernel
theorem dX9_written_33 : decode cX9_written 33 = .ok (.caload, 1) := by decide +kernel
theorem dX9_written_34 : decode cX9_written 34 = .ok (.ireturn, 1) := by decide +kernel
theorem dX9_isAhead_0 : decode cX9_isAhead 0 = .ok (.aload_n 0, 1) := by decide +kernel
theorem dX9_isAhead_1 : decode cX9_isAhead 1 = .ok (.aload_n 0, 1) := by decide +kernel
theorem dX9_isAhead_2 : decode cX9_isAhead 2 = .ok (.iload_n 1, 1) := by decide +kernel
theorem dX9_isAhead_3 : decode cX9_isAhead 3 = .ok (.invokevirtual 96, 3) := by decide +kernel
theorem dX9_isAhead_6 : decode cX9_isAhead 6 = .ok (.invokevirtual 104, 3) := by decide +kernel
theorem dX9_isAhead_9 : decode cX9_isAhead 9 = .ok (.lstore_n 3, 1) := by decide +kernel
theorem dX9_isAhead_10 : decode cX9_isAhead 10 = .ok (.aload_n 0, 1) := by decide +kernel
theorem dX9_isAhead_11 : decode cX9_isAhead 11 = .ok (.aload_n 0, 1) := by decide +kernel
theorem dX9_isAhead_12 : decode cX9_isAhead 12 = .ok (.iload_n 2, 1) := by decide +kernel
theorem dX9_isAhead_13 : decode cX9_isAhead 13 = .ok (.invokevirtual 96, 3) := by decide +kernel
theorem dX9_isAhead_16 : decode cX9_isAhead 16 = .ok (.invokevirtual 104, 3) := by decide +kernel
theorem dX9_isAhead_19 : decode cX9_isAhead 19 = .ok (.lstore 5, 2) := by decide +kernel
theorem dX9_isAhead_21 : decode cX9_isAhead 21 = .ok (.lload_n 3, 1) := by decide +kernel
theorem dX9_isAhead_22 : decode cX9_isAhead 22 = .ok (.lload 5, 2) := by decide +kernel
theorem dX9_isAhead_24 : decode cX9_isAhead 24 = .ok (.lcmp, 1) := by decide +kernel
theorem dX9_isAhead_25 : decode cX9_isAhead 25 = .ok (.ifCond .lt 15, 3) := by decide +kernel
theorem dX9_isAhead_28 : decode cX9_isAhead 28 = .ok (.lload_n 3, 1) := by decide +kernel
theorem dX9_isAhead_29 : decode cX9_isAhead 29 = .ok (.lload 5, 2) := by decide +kernel
theorem dX9_isAhead_31 : decode cX9_isAhead 31 = .ok (.lcmp, 1) := by decide +kernel
theorem dX9_isAhead_32 : decode cX9_isAhead 32 = .ok (.ifCond .ne 12, 3) := by decide +kernel
theorem dX9_isAhead_35 : decode cX9_isAhead 35 = .ok (.iload_n 1, 1) := by decide +kernel
theorem dX9_isAhead_36 : decode cX9_isAhead 36 = .ok (.iload_n 2, 1) := by decide +kernel
theorem dX9_isAhead_37 : decode cX9_isAhead 37 = .ok (.if_icmp .ge 7, 3) := by decide +kernel
theorem dX9_isAhead_40 : decode cX9_isAhead 40 = .ok (.iconst 1, 1) := by decide +kernel
theorem dX9_isAhead_41 : decode cX9_isAhead 41 = .ok (.goto 4, 3) := by decide +kernel
theorem dX9_isAhead_44 : decode cX9_isAhead 44 = .ok (.iconst 0, 1) := by decide +kernel
theorem dX9_isAhead_45 : decode cX9_isAhead 45 = .ok (.ireturn, 1) := by decide +kernel
theorem dX9_due_0 : decode cX9_due 0 = .ok (.iconst 0, 1) := by decide +kernel
theorem dX9_due_1 : decode cX9_due 1 = .ok (.istore_n 2, 1) := by decide +kernel
theorem dX9_due_2 : decode cX9_due 2 = .ok (.iload_n 2, 1) := by decide +kernel
theorem dX9_due_3 : decode cX9_due 3 = .ok (.i2l, 1) := by decide +kernel
theorem dX9_due_4 : decode cX9_due 4 = .ok (.aload_n 0, 1) := by decide +kernel
theorem dX9_due_5 : decode cX9_due 5 = .ok (.getfield 9, 3) := by decide +kernel
theorem dX9_due_8 : decode cX9_due 8 = .ok (.iconst 1, 1) := by decide +kernel
theorem dX9_due_9 : decode cX9_due 9 = .ok (.laload, 1) := by decide +kernel
theorem dX9_due_10 : decode cX9_due 10 = .ok (.lcmp, 1) := by decide +kernel
theorem dX9_due_11 : decode cX9_due 11 = .ok (.ifCond .ge 82, 3) := by decide +kernel
theorem dX9_due_14 : decode cX9_due 14 = .ok (.aload_n 0, 1) := by decide +kernel
theorem dX9_due_15 : decode cX9_due 15 = .ok (.iload_n 2, 1) := by decide +kernel
theorem dX9_due_16 : decode cX9_due 16 = .ok (.invokevirtual 96, 3) := by decide +kernel
theorem dX9_due_19 : decode cX9_due 19 = .ok (.iconst (-1), 1) := by decide +kernel
theorem dX9_due_20 : decode cX9_due 20 = .ok (.if_icmp .eq 67, 3) := by decide +kernel
theorem dX9_due_23 : decode cX9_due 23 = .ok (.iconst 0, 1) := by decide +kernel
theorem dX9_due_24 : decode cX9_due 24 = .ok (.istore_n 3, 1) := by decide +kernel
theorem dX9_due_25 : decode cX9_due 25 = .ok (.iconst 0, 1) := by decide +kernel
theorem dX9_due_26 : decode cX9_due 26 = .ok (.istore 4, 2) := by decide +kernel
theorem dX9_due_28 : decode cX9_due 28 = .ok (.iload 4, 2) := by decide +kernel
theorem dX9_due_30 : decode cX9_due 30 = .ok (.i2l, 1) := by decide +kernel
theorem dX9_due_31 : decode cX9_due 31 = .ok (.aload_n 0, 1) := by decide +kernel
theorem dX9_due_32 : decode cX9_due 32 = .ok (.getfield 9, 3) := by decide +kernel
theorem dX9_due_35 : decode cX9_due 35 = .ok (.iconst 1, 1) := by decide +kernel
theorem dX9_due_36 : decode cX9_due 36 = .ok (.laload, 1) := by decide +kernel
theorem dX9_due_37 : decode cX9_due 37 = .ok (.lcmp, 1) := by decide +kernel
theorem dX9_due_38 : decode cX9_due 38 = .ok (.ifCond .ge 37, 3) := by decide +kernel
theorem dX9_due_41 : decode cX9_due 41 = .ok (.iload_n 3, 1) := by decide +kernel
theorem dX9_due_42 : decode cX9_due 42 = .ok (.aload_n 0, 1) := by decide +kernel
theorem dX9_due_43 : decode cX9_due 43 = .ok (.iload 4, 2) := by decide +kernel
theorem dX9_due_45 : decode cX9_due 45 = .ok (.invokevirtual 96, 3) := by decide +kernel
theorem dX9_due_48 : decode cX9_due 48 = .ok (.iconst (-1), 1) := by decide +kernel
theorem dX9_due_49 : decode cX9_due 49 = .ok (.if_icmp .eq 17, 3) := by decide +kernel
theorem dX9_due_52 : decode cX9_due 52 = .ok (.aload_n 0, 1) := by decide +kernel
theorem dX9_due_53 : decode cX9_due 53 = .ok (.iload 4, 2) := by decide +kernel
theorem dX9_due_55 : decode cX9_due 55 = .ok (.iload_n 2, 1) := by decide +kernel
theorem dX9_due_56 : decode cX9_due 56 = .ok (.invokevirtual 248, 3) := by decide +kernel
theorem dX9_due_59 : decode cX9_due 59 = .ok (.ifCond .eq 7, 3) := by decide +kernel
theorem dX9_due_62 : decode cX9_due 62 = .ok (.iconst 1, 1) := by decide +kernel
theorem dX9_due_63 : decode cX9_due 63 = .ok (.goto 4, 3) := by decide +kernel
theorem dX9_due_66 : decode cX9_due 66 = .ok (.iconst 0, 1) := by decide +kernel
theorem dX9_due_67 : decode cX9_due 67 = .ok (.iadd, 1) := by decide +kernel
theorem dX9_due_68 : decode cX9_due 68 = .ok (.istore_n 3, 1) := by decide +kernel
theorem dX9_due_69 : decode cX9_due 69 = .ok (.iinc 4 1, 3) := by decide +kernel
theorem dX9_due_72 : decode cX9_due 72 = .ok (.goto (-44), 3) := by decide +kernel
theorem dX9_due_75 : decode cX9_due 75 = .ok (.iload_n 3, 1) := by decide +kernel
theorem dX9_due_76 : decode cX9_due 76 = .ok (.iload_n 1, 1) := by decide +kernel
theorem dX9_due_77 : decode cX9_due 77 = .ok (.if_icmp .ne 10, 3) := by decide +kernel
theorem dX9_due_80 : decode cX9_due 80 = .ok (.aload_n 0, 1) := by decide +kernel
theorem dX9_due_81 : decode cX9_due 81 = .ok (.iload_n 2, 1) := by decide +kernel
theorem dX9_due_82 : decode cX9_due 82 = .ok (.i2l, 1) := by decide +kernel
theorem dX9_due_83 : decode cX9_due 83 = .ok (.invokevirtual 78, 3) := by decide +kernel
theorem dX9_due_86 : decode cX9_due 86 = .ok (.ireturn, 1) := by decide +kernel
theorem dX9_due_87 : decode cX9_due 87 = .ok (.iinc 2 1, 3) := by decide +kernel
theorem dX9_due_90 : decode cX9_due 90 = .ok (.goto (-88), 3) := by decide +kernel
theorem dX9_due_93 : decode cX9_due 93 = .ok (.aload_n 0, 1) := by decide +kernel
theorem dX9_due_94 : decode cX9_due 94 = .ok (.iconst 1, 1) := by decide +kernel
theorem dX9_due_95 : decode cX9_due 95 = .ok (.invokevirtual 63, 3) := by decide +kernel
theorem dX9_due_98 : decode cX9_due 98 = .ok (.ireturn, 1) := by decide +kernel
theorem dX9_overdueWithin_0 : decode cX9_overdueWithin 0 = .ok (.iload_n 1, 1) := by decide +kernel
theorem dX9_overdueWithin_1 : decode cX9_overdueWithin 1 = .ok (.i2l, 1) := by decide +kernel
theorem dX9_overdueWithin_2 : decode cX9_overdueWithin 2 = .ok (.lconst 0, 1) := by decide +kernel
theorem dX9_overdueWithin_3 : decode cX9_overdueWithin 3 = .ok (.ldc2_w 111, 3) := by decide +kernel
theorem dX9_overdueWithin_6 : decode cX9_overdueWithin 6 = .ok (.invokestatic 55, 3) := by decide +kernel
theorem dX9_overdueWithin_9 : decode cX9_overdueWithin 9 = .ok (.ifCond .ne 9, 3) := by decide +kernel
theorem dX9_overdueWithin_12 : decode cX9_overdueWithin 12 = .ok (.aload_n 0, 1) := by decide +kernel
theorem dX9_overdueWithin_13 : decode cX9_overdueWithin 13 = .ok (.iconst 1, 1) := by decide +kernel
theorem dX9_overdueWithin_14 : decode cX9_overdueWithin 14 = .ok (.invokevirtual 63, 3) := by decide +kernel
theorem dX9_overdueWithin_17 : decode cX9_overdueWithin 17 = .ok (.ireturn, 1) := by decide +kernel
theorem dX9_overdueWithin_18 : decode cX9_overdueWithin 18 = .ok (.iconst 0, 1) := by decide +kernel
theorem dX9_overdueWithin_19 : decode cX9_overdueWithin 19 = .ok (.istore_n 2, 1) := by decide +kernel
theorem dX9_overdueWithin_20 : decode cX9_overdueWithin 20 = .ok (.iconst 0, 1) := by decide +kernel
theorem dX9_overdueWithin_21 : decode cX9_overdueWithin 21 = .ok (.istore_n 3, 1) := by decide +kernel
theorem dX9_overdueWithin_22 : decode cX9_overdueWithin 22 = .ok (.iload_n 3, 1) := by decide +kernel
theorem dX9_overdueWithin_23 : decode cX9_overdueWithin 23 = .ok (.i2l, 1) := by decide +kernel
theorem dX9_overdueWithin_24 : decode cX9_overdueWithin 24 = .ok (.aload_n 0, 1) := by decide +kernel
theorem dX9_overdueWithin_25 : decode cX9_overdueWithin 25 = .ok (.getfield 9, 3) := by decide +kernel
theorem dX9_overdueWithin_28 : decode cX9_overdueWithin 28 = .ok (.iconst 1, 1) := by decide +kernel
theorem dX9_overdueWithin_29 : decode cX9_overdueWithin 29 = .ok (.laload, 1) := by decide +kernel
theorem dX9_overdueWithin_30 : decode cX9_overdueWithin 30 = .ok (.lcmp, 1) := by decide +kernel
theorem dX9_overdueWithin_31 : decode cX9_overdueWithin 31 = .ok (.ifCond .ge 49, 3) := by decide +kernel
theorem dX9_overdueWithin_34 : decode cX9_overdueWithin 34 = .ok (.aload_n 0, 1) := by decide +kernel
theorem dX9_overdueWithin_35 : decode cX9_overdueWithin 35 = .ok (.iload_n 3, 1) := by decide +kernel
theorem dX9_overdueWithin_36 : decode cX9_overdueWithin 36 = .ok (.invokevirtual 96, 3) := by decide +kernel
theorem dX9_overdueWithin_39 : decode cX9_overdueWithin 39 = .ok (.istore 4, 2) := by decide +kernel
theorem dX9_overdueWithin_41 : decode cX9_overdueWithin 41 = .ok (.iload_n 2, 1) := by decide +kernel
theorem dX9_overdueWithin_42 : decode cX9_overdueWithin 42 = .ok (.iload 4, 2) := by decide +kernel
theorem dX9_overdueWithin_44 : decode cX9_overdueWithin 44 = .ok (.iconst (-1), 1) := by decide +kernel
theorem dX9_overdueWithin_45 : decode cX9_overdueWithin 45 = .ok (.if_icmp .eq 26, 3) := by decide +kernel
theorem dX9_overdueWithin_48 : decode cX9_overdueWithin 48 = .ok (.aload_n 0, 1) := by decide +kernel
theorem dX9_overdueWithin_49 : decode cX9_overdueWithin 49 = .ok (.getfield 9, 3) := by decide +kernel
theorem dX9_overdueWithin_52 : decode cX9_overdueWithin 52 = .ok (.iconst 0, 1) := by decide +kernel
theorem dX9_overdueWithin_53 : decode cX9_overdueWithin 53 = .ok (.laload, 1) := by decide +kernel
theorem dX9_overdueWithin_54 : decode cX9_overdueWithin 54 = .ok (.iload_n 1, 1) := by decide +kernel
theorem dX9_overdueWithin_55 : decode cX9_overdueWithin 55 = .ok (.i2l, 1) := by decide +kernel
theorem dX9_overdueWithin_56 : decode cX9_overdueWithin 56 = .ok (.ladd, 1) := by decide +kernel
theorem dX9_overdueWithin_57 : decode cX9_overdueWithin 57 = .ok (.aload_n 0, 1) := by decide +kernel
theorem dX9_overdueWithin_58 : decode cX9_overdueWithin 58 = .ok (.iload 4, 2) := by decide +kernel
theorem dX9_overdueWithin_60 : decode cX9_overdueWithin 60 = .ok (.invokevirtual 104, 3) := by decide +kernel
theorem dX9_overdueWithin_63 : decode cX9_overdueWithin 63 = .ok (.lcmp, 1) := by decide +kernel
theorem dX9_overdueWithin_64 : decode cX9_overdueWithin 64 = .ok (.ifCond .le 7, 3) := by decide +kernel
theorem dX9_overdueWithin_67 : decode cX9_overdueWithin 67 = .ok (.iconst 1, 1) := by decide +kernel
theorem dX9_overdueWithin_68 : decode cX9_overdueWithin 68 = .ok (.goto 4, 3) := by decide +kernel
theorem dX9_overdueWithin_71 : decode cX9_overdueWithin 71 = .ok (.iconst 0, 1) := by decide +kernel
theorem dX9_overdueWithin_72 : decode cX9_overdueWithin 72 = .ok (.iadd, 1) := by decide +kernel
theorem dX9_overdueWithin_73 : decode cX9_overdueWithin 73 = .ok (.istore_n 2, 1) := by decide +kernel
theorem dX9_overdueWithin_74 : decode cX9_overdueWithin 74 = .ok (.iinc 3 1, 3) := by decide +kernel
theorem dX9_overdueWithin_77 : decode cX9_overdueWithin 77 = .ok (.goto (-55), 3) := by decide +kernel
theorem dX9_overdueWithin_80 : decode cX9_overdueWithin 80 = .ok (.aload_n 0, 1) := by decide +kernel
theorem dX9_overdueWithin_81 : decode cX9_overdueWithin 81 = .ok (.iload_n 2, 1) := by decide +kernel
theorem dX9_overdueWithin_82 : decode cX9_overdueWithin 82 = .ok (.i2l, 1) := by decide +kernel
theorem dX9_overdueWithin_83 : decode cX9_overdueWithin 83 = .ok (.invokevirtual 78, 3) := by decide +kernel
theorem dX9_overdueWithin_86 : decode cX9_overdueWithin 86 = .ok (.ireturn, 1) := by decide +kernel
theorem dX9_append_0 : decode cX9_append 0 = .ok (.aload_n 0, 1) := by decide +kernel
theorem dX9_append_1 : decode cX9_append 1 = .ok (.getfield 251, 3) := by decide +kernel
theorem dX9_append_4 : decode cX9_append 4 = .ok (.bipush 80, 2) := by decide +kernel
theorem dX9_append_6 : decode cX9_append 6 = .ok (.if_icmp .ne 9, 3) := by decide +kernel
theorem dX9_append_9 : decode cX9_append 9 = .ok (.aload_n 0, 1) := by decide +kernel
theorem dX9_append_10 : decode cX9_append 10 = .ok (.iconst 1, 1) := by decide +kernel
theorem dX9_append_11 : decode cX9_append 11 = .ok (.putfield 37, 3) := by decide +kernel
theorem dX9_append_14 : decode cX9_append 14 = .ok (.return_, 1) := by decide +kernel
theorem dX9_append_15 : decode cX9_append 15 = .ok (.aload_n 0, 1) := by decide +kernel
theorem dX9_append_16 : decode cX9_append 16 = .ok (.getfield 22, 3) := by decide +kernel
theorem dX9_append_19 : decode cX9_append 19 = .ok (.aload_n 0, 1) := by decide +kernel
theorem dX9_append_20 : decode cX9_append 20 = .ok (.getfield 251, 3) := by decide +kernel
theorem dX9_append_23 : decode cX9_append 23 = .ok (.iload_n 1, 1) := by decide +kernel
theorem dX9_append_24 : decode cX9_append 24 = .ok (.castore, 1) := by decide +kernel
theorem dX9_append_25 : decode cX9_append 25 = .ok (.aload_n 0, 1) := by decide +kernel
theorem dX9_append_26 : decode cX9_append 26 = .ok (.dup, 1) := by decide +kernel
theorem dX9_append_27 : decode cX9_append 27 = .ok (.getfield 251, 3) := by decide +kernel
theorem dX9_append_30 : decode cX9_append 30 = .ok (.iconst 1, 1) := by decide +kernel
theorem dX9_append_31 : decode cX9_append 31 = .ok (.iadd, 1) := by decide +kernel
theorem dX9_append_32 : decode cX9_append 32 = .ok (.putfield 251, 3) := by decide +kernel
theorem dX9_append_35 : decode cX9_append 35 = .ok (.aload_n 0, 1) := by decide +kernel
theorem dX9_append_36 : decode cX9_append 36 = .ok (.iconst 0, 1) := by decide +kernel
theorem dX9_append_37 : decode cX9_append 37 = .ok (.putfield 37, 3) := by decide +kernel
theorem dX9_append_40 : decode cX9_append 40 = .ok (.return_, 1) := by decide +kernel
theorem dX9_here_0 : decode cX9_here 0 = .ok (.aload_n 0, 1) := by decide +kernel
theorem dX9_here_1 : decode cX9_here 1 = .ok (.getfield 254, 3) := by decide +kernel
theorem dX9_here_4 : decode cX9_here 4 = .ok (.aload_n 0, 1) := by decide +kernel
theorem dX9_here_5 : decode cX9_here 5 = .ok (.getfield 251, 3) := by decide +kernel
theorem dX9_here_8 : decode cX9_here 8 = .ok (.if_icmp .ge 15, 3) := by decide +kernel
theorem dX9_here_11 : decode cX9_here 11 = .ok (.aload_n 0, 1) := by decide +kernel
theorem dX9_here_12 : decode cX9_here 12 = .ok (.getfield 22, 3) := by decide +kernel
theorem dX9_here_15 : decode cX9_here 15 = .ok (.aload_n 0, 1) := by decide +kernel
theorem dX9_here_16 : decode cX9_here 16 = .ok (.getfield 254, 3) := by decide +kernel
theorem dX9_here_19 : decode cX9_here 19 = .ok (.caload, 1) := by decide +kernel
theorem dX9_here_20 : decode cX9_here 20 = .ok (.goto 4, 3) := by decide +kernel
theorem dX9_here_23 : decode cX9_here 23 = .ok (.iconst (-1), 1) := by decide +kernel
theorem dX9_here_24 : decode cX9_here 24 = .ok (.ireturn, 1) := by decide +kernel
theorem dX9_letterOf_0 : decode cX9_letterOf 0 = .ok (.iload_n 0, 1) := by decide +kernel
theorem dX9_letterOf_1 : decode cX9_letterOf 1 = .ok (.ifCond .ne 9, 3) := by decide +kernel
theorem dX9_letterOf_4 : decode cX9_letterOf 4 = .ok (.ldc_w 257, 3) := by decide +kernel
theorem dX9_letterOf_7 : decode cX9_letterOf 7 = .ok (.goto 61, 3) := by decide +kernel
theorem dX9_letterOf_10 : decode cX9_letterOf 10 = .ok (.iload_n 0, 1) := by decide +kernel
theorem dX9_letterOf_11 : decode cX9_letterOf 11 = .ok (.iconst 1, 1) := by decide +kernel
theorem dX9_letterOf_12 : decode cX9_letterOf 12 = .ok (.if_icmp .ne 9, 3) := by decide +kernel
theorem dX9_letterOf_15 : decode cX9_letterOf 15 = .ok (.ldc_w 259, 3) := by decide +kernel
theorem dX9_letterOf_18 : decode cX9_letterOf 18 = .ok (.goto 50, 3) := by decide +kernel
theorem dX9_letterOf_21 : decode cX9_letterOf 21 = .ok (.iload_n 0, 1) := by decide +kernel
theorem dX9_letterOf_22 : decode cX9_letterOf 22 = .ok (.iconst 2, 1) := by decide +kernel
theorem dX9_letterOf_23 : decode cX9_letterOf 23 = .ok (.if_icmp .ne 9, 3) := by decide +kernel
theorem dX9_letterOf_26 : decode cX9_letterOf 26 = .ok (.ldc_w 261, 3) := by decide +kernel
theorem dX9_letterOf_29 : decode cX9_letterOf 29 = .ok (.goto 39, 3) := by decide +kernel
theorem dX9_letterOf_32 : decode cX9_letterOf 32 = .ok (.iload_n 0, 1) := by decide +kernel
theorem dX9_letterOf_33 : decode cX9_letterOf 33 = .ok (.iconst 3, 1) := by decide +kernel
theorem dX9_letterOf_34 : decode cX9_letterOf 34 = .ok (.if_icmp .ne 9, 3) := by decide +kernel
theorem dX9_letterOf_37 : decode cX9_letterOf 37 = .ok (.ldc_w 263, 3) := by decide +kernel
theorem dX9_letterOf_40 : decode cX9_letterOf 40 = .ok (.goto 28, 3) := by decide +kernel
theorem dX9_letterOf_43 : decode cX9_letterOf 43 = .ok (.iload_n 0, 1) := by decide +kernel
theorem dX9_letterOf_44 : decode cX9_letterOf 44 = .ok (.iconst 4, 1) := by decide +kernel
theorem dX9_letterOf_45 : decode cX9_letterOf 45 = .ok (.if_icmp .ne 9, 3) := by decide +kernel
theorem dX9_letterOf_48 : decode cX9_letterOf 48 = .ok (.ldc_w 265, 3) := by decide +kernel
theorem dX9_letterOf_51 : decode cX9_letterOf 51 = .ok (.goto 17, 3) := by decide +kernel
theorem dX9_letterOf_54 : decode cX9_letterOf 54 = .ok (.iload_n 0, 1) := by decide +kernel
theorem dX9_letterOf_55 : decode cX9_letterOf 55 = .ok (.iconst 5, 1) := by decide +kernel
theorem dX9_letterOf_56 : decode cX9_letterOf 56 = .ok (.if_icmp .ne 9, 3) := by decide +kernel
theorem dX9_letterOf_59 : decode cX9_letterOf 59 = .ok (.ldc_w 267, 3) := by decide +kernel
theorem dX9_letterOf_62 : decode cX9_letterOf 62 = .ok (.goto 6, 3) := by decide +kernel
theorem dX9_letterOf_65 : decode cX9_letterOf 65 = .ok (.ldc_w 269, 3) := by decide +kernel
theorem dX9_letterOf_68 : decode cX9_letterOf 68 = .ok (.astore_n 2, 1) := by decide +kernel
theorem dX9_letterOf_69 : decode cX9_letterOf 69 = .ok (.iload_n 1, 1) := by decide +kernel
theorem dX9_letterOf_70 : decode cX9_letterOf 70 = .ok (.aload_n 2, 1) := by decide +kernel
theorem dX9_letterOf_71 : decode cX9_letterOf 71 = .ok (.invokevirtual 271, 3) := by decide +kernel
theorem dX9_letterOf_74 : decode cX9_letterOf 74 = .ok (.if_icmp .ge 11, 3) := by decide +kernel
theorem dX9_letterOf_77 : decode cX9_letterOf 77 = .ok (.aload_n 2, 1) := by decide +kernel
theorem dX9_letterOf_78 : decode cX9_letterOf 78 = .ok (.iload_n 1, 1) := by decide +kernel
theorem dX9_letterOf_79 : decode cX9_letterOf 79 = .ok (.invokevirtual 277, 3) := by decide +kernel
theorem dX9_letterOf_82 : decode cX9_letterOf 82 = .ok (.goto 4, 3) := by decide +kernel
theorem dX9_letterOf_85 : decode cX9_letterOf 85 = .ok (.iconst 0, 1) := by decide +kernel
theorem dX9_letterOf_86 : decode cX9_letterOf 86 = .ok (.ireturn, 1) := by decide +kernel
theorem dX9_numbersOf_0 : decode cX9_numbersOf 0 = .ok (.iload_n 0, 1) := by decide +kernel
theorem dX9_numbersOf_1 : decode cX9_numbersOf 1 = .ok (.ifCond .ne 7, 3) := by decide +kernel
theorem dX9_numbersOf_4 : decode cX9_numbersOf 4 = .ok (.iconst 2, 1) := by decide +kernel
theorem dX9_numbersOf_5 : decode cX9_numbersOf 5 = .ok (.goto 23, 3) := by decide +kernel
theorem dX9_numbersOf_8 : decode cX9_numbersOf 8 = .ok (.iload_n 0, 1) := by decide +kernel
theorem dX9_numbersOf_9 : decode cX9_numbersOf 9 = .ok (.iconst 1, 1) := by decide +kernel
theorem dX9_numbersOf_10 : decode cX9_numbersOf 10 = .ok (.if_icmp .eq 13, 3) := by decide +kernel
theorem dX9_numbersOf_13 : decode cX9_numbersOf 13 = .ok (.iload_n 0, 1) := by decide +kernel
theorem dX9_numbersOf_14 : decode cX9_numbersOf 14 = .ok (.iconst 3, 1) := by decide +kernel
theorem dX9_numbersOf_15 : decode cX9_numbersOf 15 = .ok (.if_icmp .eq 8, 3) := by decide +kernel
theorem dX9_numbersOf_18 : decode cX9_numbersOf 18 = .ok (.iload_n 0, 1) := by decide +kernel
theorem dX9_numbersOf_19 : decode cX9_numbersOf 19 = .ok (.iconst 5, 1) := by decide +kernel
theorem dX9_numbersOf_20 : decode cX9_numbersOf 20 = .ok (.if_icmp .ne 7, 3) := by decide +kernel
theorem dX9_numbersOf_23 : decode cX9_numbersOf 23 = .ok (.iconst 3, 1) := by decide +kernel
theorem dX9_numbersOf_24 : decode cX9_numbersOf 24 = .ok (.goto 4, 3) := by decide +kernel
theorem dX9_numbersOf_27 : decode cX9_numbersOf 27 = .ok (.iconst 1, 1) := by decide +kernel
theorem dX9_numbersOf_28 : decode cX9_numbersOf 28 = .ok (.ireturn, 1) := by decide +kernel
theorem dX9_readsWord_0 : decode cX9_readsWord 0 = .ok (.bipush 127, 2) := by decide +kernel
theorem dX9_readsWord_2 : decode cX9_readsWord 2 = .ok (.istore_n 1, 1) := by decide +kernel
theorem dX9_readsWord_3 : decode cX9_readsWord 3 = .ok (.iconst 0, 1) := by decide +kernel
theorem dX9_readsWord_4 : decode cX9_readsWord 4 = .ok (.istore_n 2, 1) := by decide +kernel
theorem dX9_readsWord_5 : decode cX9_readsWord 5 = .ok (.iload_n 2, 1) := by decide +kernel
theorem dX9_readsWord_6 : decode cX9_readsWord 6 = .ok (.bipush 8, 2) := by decide +kernel
theorem dX9_readsWord_8 : decode cX9_readsWord 8 = .ok (.if_icmp .ge 101, 3) := by decide +kernel
theorem dX9_readsWord_11 : decode cX9_readsWord 11 = .ok (.iconst 0, 1) := by decide +kernel
theorem dX9_readsWord_12 : decode cX9_readsWord 12 = .ok (.istore_n 3, 1) := by decide +kernel
theorem dX9_readsWord_13 : decode cX9_readsWord 13 = .ok (.iconst 0, 1) := by decide +kernel
theorem dX9_readsWord_14 : decode cX9_readsWord 14 = .ok (.istore 4, 2) := by decide +kernel
theorem dX9_readsWord_16 : decode cX9_readsWord 16 = .ok (.iload 4, 2) := by decide +kernel
theorem dX9_readsWord_18 : decode cX9_readsWord 18 = .ok (.bipush 7, 2) := by decide +kernel
theorem dX9_readsWord_20 : decode cX9_readsWord 20 = .ok (.if_icmp .ge 65, 3) := by decide +kernel
theorem dX9_readsWord_23 : decode cX9_readsWord 23 = .ok (.iload_n 1, 1) := by decide +kernel
theorem dX9_readsWord_24 : decode cX9_readsWord 24 = .ok (.iload 4, 2) := by decide +kernel
theorem dX9_readsWord_26 : decode cX9_readsWord 26 = .ok (.ishr, 1) := by decide +kernel
theorem dX9_readsWord_27 : decode cX9_readsWord 27 = .ok (.iconst 1, 1) := by decide +kernel
theorem dX9_readsWord_28 : decode cX9_readsWord 28 = .ok (.iand, 1) := by decide +kernel
theorem dX9_readsWord_29 : decode cX9_readsWord 29 = .ok (.iconst 1, 1) := by decide +kernel
theorem dX9_readsWord_30 : decode cX9_readsWord 30 = .ok (.if_icmp .ne 15, 3) := by decide +kernel
theorem dX9_readsWord_33 : decode cX9_readsWord 33 = .ok (.iload 4, 2) := by decide +kernel
theorem dX9_readsWord_35 : decode cX9_readsWord 35 = .ok (.iload_n 2, 1) := by decide +kernel
theorem dX9_readsWord_36 : decode cX9_readsWord 36 = .ok (.invokestatic 281, 3) := by decide +kernel
theorem dX9_readsWord_39 : decode cX9_readsWord 39 = .ok (.ifCond .ne 6, 3) := by decide +kernel
theorem dX9_readsWord_42 : decode cX9_readsWord 42 = .ok (.iload 4, 2) := by decide +kernel
theorem dX9_readsWord_44 : decode cX9_readsWord 44 = .ok (.ireturn, 1) := by decide +kernel
theorem dX9_readsWord_45 : decode cX9_readsWord 45 = .ok (.iload_n 3, 1) := by decide +kernel
theorem dX9_readsWord_46 : decode cX9_readsWord 46 = .ok (.iload_n 1, 1) := by decide +kernel
theorem dX9_readsWord_47 : decode cX9_readsWord 47 = .ok (.iload 4, 2) := by decide +kernel
theorem dX9_readsWord_49 : decode cX9_readsWord 49 = .ok (.ishr, 1) := by decide +kernel
theorem dX9_readsWord_50 : decode cX9_readsWord 50 = .ok (.iconst 1, 1) := by decide +kernel
theorem dX9_readsWord_51 : decode cX9_readsWord 51 = .ok (.iand, 1) := by decide +kernel
theorem dX9_readsWord_52 : decode cX9_readsWord 52 = .ok (.iconst 1, 1) := by decide +kernel
theorem dX9_readsWord_53 : decode cX9_readsWord 53 = .ok (.if_icmp .ne 23, 3) := by decide +kernel
theorem dX9_readsWord_56 : decode cX9_readsWord 56 = .ok (.iload 4, 2) := by decide +kernel
theorem dX9_readsWord_58 : decode cX9_readsWord 58 = .ok (.iload_n 2, 1) := by decide +kernel
theorem dX9_readsWord_59 : decode cX9_readsWord 59 = .ok (.invokestatic 281, 3) := by decide +kernel
theorem dX9_readsWord_62 : decode cX9_readsWord 62 = .ok (.aload_n 0, 1) := by decide +kernel
theorem dX9_readsWord_63 : decode cX9_readsWord 63 = .ok (.invokevirtual 284, 3) := by decide +kernel
theorem dX9_readsWord_66 : decode cX9_readsWord 66 = .ok (.if_icmp .ne 10, 3) := by decide +kernel
theorem dX9_readsWord_69 : decode cX9_readsWord 69 = .ok (.iconst 1, 1) := by decide +kernel
theorem dX9_readsWord_70 : decode cX9_readsWord 70 = .ok (.iload 4, 2) := by decide +kernel
theorem dX9_readsWord_72 : decode cX9_readsWord 72 = .ok (.ishl, 1) := by decide +kernel
theorem dX9_readsWord_73 : decode cX9_readsWord 73 = .ok (.goto 4, 3) := by decide +kernel
theorem dX9_readsWord_76 : decode cX9_readsWord 76 = .ok (.iconst 0, 1) := by decide +kernel
theorem dX9_readsWord_77 : decode cX9_readsWord 77 = .ok (.ior, 1) := by decide +kernel
theorem dX9_readsWord_78 : decode cX9_readsWord 78 = .ok (.istore_n 3, 1) := by decide +kernel
theorem dX9_readsWord_79 : decode cX9_readsWord 79 = .ok (.iinc 4 1, 3) := by decide +kernel
theorem dX9_readsWord_82 : decode cX9_readsWord 82 = .ok (.goto (-66), 3) := by decide +kernel
theorem dX9_readsWord_85 : decode cX9_readsWord 85 = .ok (.iload_n 3, 1) := by decide +kernel
theorem dX9_readsWord_86 : decode cX9_readsWord 86 = .ok (.ifCond .ne 5, 3) := by decide +kernel
theorem dX9_readsWord_89 : decode cX9_readsWord 89 = .ok (.iconst (-1), 1) := by decide +kernel
theorem dX9_readsWord_90 : decode cX9_readsWord 90 = .ok (.ireturn, 1) := by decide +kernel
theorem dX9_readsWord_91 : decode cX9_readsWord 91 = .ok (.iload_n 3, 1) := by decide +kernel
theorem dX9_readsWord_92 : decode cX9_readsWord 92 = .ok (.istore_n 1, 1) := by decide +kernel
theorem dX9_readsWord_93 : decode cX9_readsWord 93 = .ok (.aload_n 0, 1) := by decide +kernel
theorem dX9_readsWord_94 : decode cX9_readsWord 94 = .ok (.dup, 1) := by decide +kernel
theorem dX9_readsWord_95 : decode cX9_readsWord 95 = .ok (.getfield 254, 3) := by decide +kernel
theorem dX9_readsWord_98 : decode cX9_readsWord 98 = .ok (.iconst 1, 1) := by decide +kernel
theorem dX9_readsWord_99 : decode cX9_readsWord 99 = .ok (.iadd, 1) := by decide +kernel
theorem dX9_readsWord_100 : decode cX9_readsWord 100 = .ok (.putfield 254, 3) := by decide +kernel
theorem dX9_readsWord_103 : decode cX9_readsWord 103 = .ok (.iinc 2 1, 3) := by decide +kernel
theorem dX9_readsWord_106 : decode cX9_readsWord 106 = .ok (.goto (-101), 3) := by decide +kernel
theorem dX9_readsWord_109 : decode cX9_readsWord 109 = .ok (.iconst (-1), 1) := by decide +kernel
theorem dX9_readsWord_110 : decode cX9_readsWord 110 = .ok (.ireturn, 1) := by decide +kernel
theorem dX9_isDigit_0 : decode cX9_isDigit 0 = .ok (.aload_n 0, 1) := by decide +kernel
theorem dX9_isDigit_1 : decode cX9_isDigit 1 = .ok (.invokevirtual 284, 3) := by decide +kernel
theorem dX9_isDigit_4 : decode cX9_isDigit 4 = .ok (.i2l, 1) := by decide +kernel
theorem dX9_isDigit_5 : decode cX9_isDigit 5 = .ok (.ldc2_w 238, 3) := by decide +kernel
theorem dX9_isDigit_8 : decode cX9_isDigit 8 = .ok (.ldc2_w 287, 3) := by decide +kernel
theorem dX9_isDigit_11 : decode cX9_isDigit 11 = .ok (.invokestatic 55, 3) := by decide +kernel
theorem dX9_isDigit_14 : decode cX9_isDigit 14 = .ok (.ireturn, 1) := by decide +kernel
theorem dX9_readsNumber_0 : decode cX9_readsNumber 0 = .ok (.iload_n 1, 1) := by decide +kernel
theorem dX9_readsNumber_1 : decode cX9_readsNumber 1 = .ok (.ifCond .eq 16, 3) := by decide +kernel
theorem dX9_readsNumber_4 : decode cX9_readsNumber 4 = .ok (.aload_n 0, 1) := by decide +kernel
theorem dX9_readsNumber_5 : decode cX9_readsNumber 5 = .ok (.invokevirtual 284, 3) := by decide +kernel
theorem dX9_readsNumber_8 : decode cX9_readsNumber 8 = .ok (.bipush 45, 2) := by decide +kernel
theorem dX9_readsNumber_10 : decode cX9_readsNumber 10 = .ok (.if_icmp .ne 7, 3) := by decide +kernel
theorem dX9_readsNumber_13 : decode cX9_readsNumber 13 = .ok (.iconst 1, 1) := by decide +kernel
theorem dX9_readsNumber_14 : decode cX9_readsNumber 14 = .ok (.goto 4, 3) := by decide +kernel
theorem dX9_readsNumber_17 : decode cX9_readsNumber 17 = .ok (.iconst 0, 1) := by decide +kernel
theorem dX9_readsNumber_18 : decode cX9_readsNumber 18 = .ok (.istore_n 2, 1) := by decide +kernel
theorem dX9_readsNumber_19 : decode cX9_readsNumber 19 = .ok (.aload_n 0, 1) := by decide +kernel
theorem dX9_readsNumber_20 : decode cX9_readsNumber 20 = .ok (.dup, 1) := by decide +kernel
theorem dX9_readsNumber_21 : decode cX9_readsNumber 21 = .ok (.getfield 254, 3) := by decide +kernel
theorem dX9_readsNumber_24 : decode cX9_readsNumber 24 = .ok (.iload_n 2, 1) := by decide +kernel
theorem dX9_readsNumber_25 : decode cX9_readsNumber 25 = .ok (.ifCond .eq 7, 3) := by decide +kernel
theorem dX9_readsNumber_28 : decode cX9_readsNumber 28 = .ok (.iconst 1, 1) := by decide +kernel
theorem dX9_readsNumber_29 : decode cX9_readsNumber 29 = .ok (.goto 4, 3) := by decide +kernel
theorem dX9_readsNumber_32 : decode cX9_readsNumber 32 = .ok (.iconst 0, 1) := by decide +kernel
theorem dX9_readsNumber_33 : decode cX9_readsNumber 33 = .ok (.iadd, 1) := by decide +kernel
theorem dX9_readsNumber_34 : decode cX9_readsNumber 34 = .ok (.putfield 254, 3) := by decide +kernel
theorem dX9_readsNumber_37 : decode cX9_readsNumber 37 = .ok (.aload_n 0, 1) := by decide +kernel
theorem dX9_readsNumber_38 : decode cX9_readsNumber 38 = .ok (.dup, 1) := by decide +kernel
theorem dX9_readsNumber_39 : decode cX9_readsNumber 39 = .ok (.getfield 289, 3) := by decide +kernel
theorem dX9_readsNumber_42 : decode cX9_readsNumber 42 = .ok (.aload_n 0, 1) := by decide +kernel
theorem dX9_readsNumber_43 : decode cX9_readsNumber 43 = .ok (.invokevirtual 292, 3) := by decide +kernel
theorem dX9_readsNumber_46 : decode cX9_readsNumber 46 = .ok (.ifCond .ne 7, 3) := by decide +kernel
theorem dX9_readsNumber_49 : decode cX9_readsNumber 49 = .ok (.iconst 1, 1) := by decide +kernel
theorem dX9_readsNumber_50 : decode cX9_readsNumber 50 = .ok (.goto 4, 3) := by decide +kernel
theorem dX9_readsNumber_53 : decode cX9_readsNumber 53 = .ok (.iconst 0, 1) := by decide +kernel
theorem dX9_readsNumber_54 : decode cX9_readsNumber 54 = .ok (.ior, 1) := by decide +kernel
theorem dX9_readsNumber_55 : decode cX9_readsNumber 55 = .ok (.putfield 289, 3) := by decide +kernel
theorem dX9_readsNumber_58 : decode cX9_readsNumber 58 = .ok (.iconst 0, 1) := by decide +kernel
theorem dX9_readsNumber_59 : decode cX9_readsNumber 59 = .ok (.istore_n 3, 1) := by decide +kernel
theorem dX9_readsNumber_60 : decode cX9_readsNumber 60 = .ok (.iconst 0, 1) := by decide +kernel
theorem dX9_readsNumber_61 : decode cX9_readsNumber 61 = .ok (.istore 4, 2) := by decide +kernel
theorem dX9_readsNumber_63 : decode cX9_readsNumber 63 = .ok (.aload_n 0, 1) := by decide +kernel
theorem dX9_readsNumber_64 : decode cX9_readsNumber 64 = .ok (.getfield 289, 3) := by decide +kernel
theorem dX9_readsNumber_67 : decode cX9_readsNumber 67 = .ok (.ifCond .ne 54, 3) := by decide +kernel
theorem dX9_readsNumber_70 : decode cX9_readsNumber 70 = .ok (.aload_n 0, 1) := by decide +kernel
theorem dX9_readsNumber_71 : decode cX9_readsNumber 71 = .ok (.invokevirtual 292, 3) := by decide +kernel
theorem dX9_readsNumber_74 : decode cX9_readsNumber 74 = .ok (.ifCond .eq 47, 3) := by decide +kernel
theorem dX9_readsNumber_77 : decode cX9_readsNumber 77 = .ok (.iload 4, 2) := by decide +kernel
theorem dX9_readsNumber_79 : decode cX9_readsNumber 79 = .ok (.iconst 4, 1) := by decide +kernel
theorem dX9_readsNumber_80 : decode cX9_readsNumber 80 = .ok (.if_icmp .ge 41, 3) := by decide +kernel
theorem dX9_readsNumber_83 : decode cX9_readsNumber 83 = .ok (.iload 4, 2) := by decide +kernel
theorem dX9_readsNumber_85 : decode cX9_readsNumber 85 = .ok (.ifCond .eq 7, 3) := by decide +kernel
theorem dX9_readsNumber_88 : decode cX9_readsNumber 88 = .ok (.iload_n 3, 1) := by decide +kernel
theorem dX9_readsNumber_89 : decode cX9_readsNumber 89 = .ok (.ifCond .le 32, 3) := by decide +kernel
theorem dX9_readsNumber_92 : decode cX9_readsNumber 92 = .ok (.bipush 10, 2) := by decide +kernel
theorem dX9_readsNumber_94 : decode cX9_readsNumber 94 = .ok (.iload_n 3, 1) := by decide +kernel
theorem dX9_readsNumber_95 : decode cX9_readsNumber 95 = .ok (.imul, 1) := by decide +kernel
theorem dX9_readsNumber_96 : decode cX9_readsNumber 96 = .ok (.aload_n 0, 1) := by decide +kernel
theorem dX9_readsNumber_97 : decode cX9_readsNumber 97 = .ok (.invokevirtual 284, 3) := by decide +kernel
theorem dX9_readsNumber_100 : decode cX9_readsNumber 100 = .ok (.iadd, 1) := by decide +kernel
theorem dX9_readsNumber_101 : decode cX9_readsNumber 101 = .ok (.bipush 48, 2) := by decide +kernel
theorem dX9_readsNumber_103 : decode cX9_readsNumber 103 = .ok (.isub, 1) := by decide +kernel
theorem dX9_readsNumber_104 : decode cX9_readsNumber 104 = .ok (.istore_n 3, 1) := by decide +kernel
theorem dX9_readsNumber_105 : decode cX9_readsNumber 105 = .ok (.aload_n 0, 1) := by decide +kernel
theorem dX9_readsNumber_106 : decode cX9_readsNumber 106 = .ok (.dup, 1) := by decide +kernel
theorem dX9_readsNumber_107 : decode cX9_readsNumber 107 = .ok (.getfield 254, 3) := by decide +kernel
theorem dX9_readsNumber_110 : decode cX9_readsNumber 110 = .ok (.iconst 1, 1) := by decide +kernel
theorem dX9_readsNumber_111 : decode cX9_readsNumber 111 = .ok (.iadd, 1) := by decide +kernel
theorem dX9_readsNumber_112 : decode cX9_readsNumber 112 = .ok (.putfield 254, 3) := by decide +kernel
theorem dX9_readsNumber_115 : decode cX9_readsNumber 115 = .ok (.iinc 4 1, 3) := by decide +kernel
theorem dX9_readsNumber_118 : decode cX9_readsNumber 118 = .ok (.goto (-55), 3) := by decide +kernel
theorem dX9_readsNumber_121 : decode cX9_readsNumber 121 = .ok (.iload_n 2, 1) := by decide +kernel
theorem dX9_readsNumber_122 : decode cX9_readsNumber 122 = .ok (.ifCond .eq 8, 3) := by decide +kernel
theorem dX9_readsNumber_125 : decode cX9_readsNumber 125 = .ok (.iload_n 3, 1) := by decide +kernel
theorem dX9_readsNumber_126 : decode cX9_readsNumber 126 = .ok (.ineg, 1) := by decide +kernel
theorem dX9_readsNumber_127 : decode cX9_readsNumber 127 = .ok (.goto 4, 3) := by decide +kernel
theorem dX9_readsNumber_130 : decode cX9_readsNumber 130 = .ok (.iload_n 3, 1) := by decide +kernel
theorem dX9_readsNumber_131 : decode cX9_readsNumber 131 = .ok (.ireturn, 1) := by decide +kernel
theorem dX9_readsCommand_0 : decode cX9_readsCommand 0 = .ok (.aload_n 0, 1) := by decide +kernel
theorem dX9_readsCommand_1 : decode cX9_readsCommand 1 = .ok (.invokevirtual 296, 3) := by decide +kernel
theorem dX9_readsCommand_4 : decode cX9_readsCommand 4 = .ok (.istore_n 2, 1) := by decide +kernel
theorem dX9_readsCommand_5 : decode cX9_readsCommand 5 = .ok (.aload_n 0, 1) := by decide +kernel
theorem dX9_readsCommand_6 : decode cX9_readsCommand 6 = .ok (.iload_n 2, 1) := by decide +kernel
theorem dX9_readsCommand_7 : decode cX9_readsCommand 7 = .ok (.iconst (-1), 1) := by decide +kernel
theorem dX9_readsCommand_8 : decode cX9_readsCommand 8 = .ok (.if_icmp .ne 7, 3) := by decide +kernel
theorem dX9_readsCommand_11 : decode cX9_readsCommand 11 = .ok (.iconst 1, 1) := by decide +kernel
theorem dX9_readsCommand_12 : decode cX9_readsCommand 12 = .ok (.goto 4, 3) := by decide +kernel
theorem dX9_readsCommand_15 : decode cX9_readsCommand 15 = .ok (.iconst 0, 1) := by decide +kernel
theorem dX9_readsCommand_16 : decode cX9_readsCommand 16 = .ok (.putfield 289, 3) := by decide +kernel
theorem dX9_readsCommand_19 : decode cX9_readsCommand 19 = .ok (.aload_n 0, 1) := by decide +kernel
theorem dX9_readsCommand_20 : decode cX9_readsCommand 20 = .ok (.getfield 33, 3) := by decide +kernel
theorem dX9_readsCommand_23 : decode cX9_readsCommand 23 = .ok (.iload_n 1, 1) := by decide +kernel
theorem dX9_readsCommand_24 : decode cX9_readsCommand 24 = .ok (.iload_n 2, 1) := by decide +kernel
theorem dX9_readsCommand_25 : decode cX9_readsCommand 25 = .ok (.iastore, 1) := by decide +kernel
theorem dX9_readsCommand_26 : decode cX9_readsCommand 26 = .ok (.iconst 0, 1) := by decide +kernel
theorem dX9_readsCommand_27 : decode cX9_readsCommand 27 = .ok (.istore_n 3, 1) := by decide +kernel
theorem dX9_readsCommand_28 : decode cX9_readsCommand 28 = .ok (.iload_n 3, 1) := by decide +kernel
theorem dX9_readsCommand_29 : decode cX9_readsCommand 29 = .ok (.iconst 3, 1) := by decide +kernel
theorem dX9_readsCommand_30 : decode cX9_readsCommand 30 = .ok (.if_icmp .ge 124, 3) := by decide +kernel
theorem dX9_readsCommand_33 : decode cX9_readsCommand 33 = .ok (.aload_n 0, 1) := by decide +kernel
theorem dX9_readsCommand_34 : decode cX9_readsCommand 34 = .ok (.getfield 289, 3) := by decide +kernel
theorem dX9_readsCommand_37 : decode cX9_readsCommand 37 = .ok (.ifCond .ne 117, 3) := by decide +kernel
theorem dX9_readsCommand_40 : decode cX9_readsCommand 40 = .ok (.aload_n 0, 1) := by decide +kernel
theorem dX9_readsCommand_41 : decode cX9_readsCommand 41 = .ok (.getfield 33, 3) := by decide +kernel
theorem dX9_readsCommand_44 : decode cX9_readsCommand 44 = .ok (.iload_n 1, 1) := by decide +kernel
theorem dX9_readsCommand_45 : decode cX9_readsCommand 45 = .ok (.iconst 1, 1) := by decide +kernel
theorem dX9_readsCommand_46 : decode cX9_readsCommand 46 = .ok (.iadd, 1) := by decide +kernel
theorem dX9_readsCommand_47 : decode cX9_readsCommand 47 = .ok (.iload_n 3, 1) := by decide +kernel
theorem dX9_readsCommand_48 : decode cX9_readsCommand 48 = .ok (.iadd, 1) := by decide +kernel
theorem dX9_readsCommand_49 : decode cX9_readsCommand 49 = .ok (.iconst 0, 1) := by decide +kernel
theorem dX9_readsCommand_50 : decode cX9_readsCommand 50 = .ok (.iastore, 1) := by decide +kernel
theorem dX9_readsCommand_51 : decode cX9_readsCommand 51 = .ok (.iload_n 3, 1) := by decide +kernel
theorem dX9_readsCommand_52 : decode cX9_readsCommand 52 = .ok (.iload_n 2, 1) := by decide +kernel
theorem dX9_readsCommand_53 : decode cX9_readsCommand 53 = .ok (.invokestatic 299, 3) := by decide +kernel
theorem dX9_readsCommand_56 : decode cX9_readsCommand 56 = .ok (.if_icmp .ge 92, 3) := by decide +kernel
theorem dX9_readsCommand_59 : decode cX9_readsCommand 59 = .ok (.aload_n 0, 1) := by decide +kernel
theorem dX9_readsCommand_60 : decode cX9_readsCommand 60 = .ok (.aload_n 0, 1) := by decide +kernel
theorem dX9_readsCommand_61 : decode cX9_readsCommand 61 = .ok (.invokevirtual 284, 3) := by decide +kernel
theorem dX9_readsCommand_64 : decode cX9_readsCommand 64 = .ok (.bipush 32, 2) := by decide +kernel
theorem dX9_readsCommand_66 : decode cX9_readsCommand 66 = .ok (.if_icmp .eq 7, 3) := by decide +kernel
theorem dX9_readsCommand_69 : decode cX9_readsCommand 69 = .ok (.iconst 1, 1) := by decide +kernel
theorem dX9_readsCommand_70 : decode cX9_readsCommand 70 = .ok (.goto 4, 3) := by decide +kernel
theorem dX9_readsCommand_73 : decode cX9_readsCommand 73 = .ok (.iconst 0, 1) := by decide +kernel
theorem dX9_readsCommand_74 : decode cX9_readsCommand 74 = .ok (.putfield 289, 3) := by decide +kernel
theorem dX9_readsCommand_77 : decode cX9_readsCommand 77 = .ok (.aload_n 0, 1) := by decide +kernel
theorem dX9_readsCommand_78 : decode cX9_readsCommand 78 = .ok (.dup, 1) := by decide +kernel
theorem dX9_readsCommand_79 : decode cX9_readsCommand 79 = .ok (.getfield 254, 3) := by decide +kernel
theorem dX9_readsCommand_82 : decode cX9_readsCommand 82 = .ok (.aload_n 0, 1) := by decide +kernel
theorem dX9_readsCommand_83 : decode cX9_readsCommand 83 = .ok (.getfield 289, 3) := by decide +kernel
theorem dX9_readsCommand_86 : decode cX9_readsCommand 86 = .ok (.ifCond .eq 7, 3) := by decide +kernel
theorem dX9_readsCommand_89 : decode cX9_readsCommand 89 = .ok (.iconst 0, 1) := by decide +kernel
theorem dX9_readsCommand_90 : decode cX9_readsCommand 90 = .ok (.goto 4, 3) := by decide +kernel
theorem dX9_readsCommand_93 : decode cX9_readsCommand 93 = .ok (.iconst 1, 1) := by decide +kernel
theorem dX9_readsCommand_94 : decode cX9_readsCommand 94 = .ok (.iadd, 1) := by decide +kernel
theorem dX9_readsCommand_95 : decode cX9_readsCommand 95 = .ok (.putfield 254, 3) := by decide +kernel
theorem dX9_readsCommand_98 : decode cX9_readsCommand 98 = .ok (.aload_n 0, 1) := by decide +kernel
theorem dX9_readsCommand_99 : decode cX9_readsCommand 99 = .ok (.getfield 33, 3) := by decide +kernel
theorem dX9_readsCommand_102 : decode cX9_readsCommand 102 = .ok (.iload_n 1, 1) := by decide +kernel
theorem dX9_readsCommand_103 : decode cX9_readsCommand 103 = .ok (.iconst 1, 1) := by decide +kernel
theorem dX9_readsCommand_104 : decode cX9_readsCommand 104 = .ok (.iadd, 1) := by decide +kernel
theorem dX9_readsCommand_105 : decode cX9_readsCommand 105 = .ok (.iload_n 3, 1) := by decide +kernel
theorem dX9_readsCommand_106 : decode cX9_readsCommand 106 = .ok (.iadd, 1) := by decide +kernel
theorem dX9_readsCommand_107 : decode cX9_readsCommand 107 = .ok (.aload_n 0, 1) := by decide +kernel
theorem dX9_readsCommand_108 : decode cX9_readsCommand 108 = .ok (.getfield 289, 3) := by decide +kernel
theorem dX9_readsCommand_111 : decode cX9_readsCommand 111 = .ok (.ifCond .eq 7, 3) := by decide +kernel
theorem dX9_readsCommand_114 : decode cX9_readsCommand 114 = .ok (.iconst 0, 1) := by decide +kernel
theorem dX9_readsCommand_115 : decode cX9_readsCommand 115 = .ok (.goto 32, 3) := by decide +kernel
theorem dX9_readsCommand_118 : decode cX9_readsCommand 118 = .ok (.aload_n 0, 1) := by decide +kernel
theorem dX9_readsCommand_119 : decode cX9_readsCommand 119 = .ok (.iload_n 2, 1) := by decide +kernel
theorem dX9_readsCommand_120 : decode cX9_readsCommand 120 = .ok (.iconst 1, 1) := by decide +kernel
theorem dX9_readsCommand_121 : decode cX9_readsCommand 121 = .ok (.if_icmp .ne 8, 3) := by decide +kernel
theorem dX9_readsCommand_124 : decode cX9_readsCommand 124 = .ok (.iload_n 3, 1) := by decide +kernel
theorem dX9_readsCommand_125 : decode cX9_readsCommand 125 = .ok (.iconst 2, 1) := by decide +kernel
theorem dX9_readsCommand_126 : decode cX9_readsCommand 126 = .ok (.if_icmp .eq 13, 3) := by decide +kernel
theorem dX9_readsCommand_129 : decode cX9_readsCommand 129 = .ok (.iload_n 2, 1) := by decide +kernel
theorem dX9_readsCommand_130 : decode cX9_readsCommand 130 = .ok (.iconst 5, 1) := by decide +kernel
theorem dX9_readsCommand_131 : decode cX9_readsCommand 131 = .ok (.if_icmp .ne 12, 3) := by decide +kernel
theorem dX9_readsCommand_134 : decode cX9_readsCommand 134 = .ok (.iload_n 3, 1) := by decide +kernel
theorem dX9_readsCommand_135 : decode cX9_readsCommand 135 = .ok (.iconst 1, 1) := by decide +kernel
theorem dX9_readsCommand_136 : decode cX9_readsCommand 136 = .ok (.if_icmp .ne 7, 3) := by decide +kernel
theorem dX9_readsCommand_139 : decode cX9_readsCommand 139 = .ok (.iconst 1, 1) := by decide +kernel
theorem dX9_readsCommand_140 : decode cX9_readsCommand 140 = .ok (.goto 4, 3) := by decide +kernel
theorem dX9_readsCommand_143 : decode cX9_readsCommand 143 = .ok (.iconst 0, 1) := by decide +kernel
theorem dX9_readsCommand_144 : decode cX9_readsCommand 144 = .ok (.invokevirtual 302, 3) := by decide +kernel
theorem dX9_readsCommand_147 : decode cX9_readsCommand 147 = .ok (.iastore, 1) := by decide +kernel
theorem dX9_readsCommand_148 : decode cX9_readsCommand 148 = .ok (.iinc 3 1, 3) := by decide +kernel
theorem dX9_readsCommand_151 : decode cX9_readsCommand 151 = .ok (.goto (-123), 3) := by decide +kernel
theorem dX9_readsCommand_154 : decode cX9_readsCommand 154 = .ok (.return_, 1) := by decide +kernel
theorem dX9_does_0 : decode cX9_does 0 = .ok (.aload_n 0, 1) := by decide +kernel
theorem dX9_does_1 : decode cX9_does 1 = .ok (.getfield 33, 3) := by decide +kernel
theorem dX9_does_4 : decode cX9_does 4 = .ok (.iload_n 1, 1) := by decide +kernel
theorem dX9_does_5 : decode cX9_does 5 = .ok (.iconst 1, 1) := by decide +kernel
theorem dX9_does_6 : decode cX9_does 6 = .ok (.iadd, 1) := by decide +kernel
theorem dX9_does_7 : decode cX9_does 7 = .ok (.iaload, 1) := by decide +kernel
theorem dX9_does_8 : decode cX9_does 8 = .ok (.istore_n 2, 1) := by decide +kernel
theorem dX9_does_9 : decode cX9_does 9 = .ok (.aload_n 0, 1) := by decide +kernel
theorem dX9_does_10 : decode cX9_does 10 = .ok (.getfield 33, 3) := by decide +kernel
theorem dX9_does_13 : decode cX9_does 13 = .ok (.iload_n 1, 1) := by decide +kernel
theorem dX9_does_14 : decode cX9_does 14 = .ok (.iconst 2, 1) := by decide +kernel
theorem dX9_does_15 : decode cX9_does 15 = .ok (.iadd, 1) := by decide +kernel
theorem dX9_does_16 : decode cX9_does 16 = .ok (.iaload, 1) := by decide +kernel
theorem dX9_does_17 : decode cX9_does 17 = .ok (.istore_n 3, 1) := by decide +kernel
theorem dX9_does_18 : decode cX9_does 18 = .ok (.aload_n 0, 1) := by decide +kernel
theorem dX9_does_19 : decode cX9_does 19 = .ok (.getfield 33, 3) := by decide +kernel
theorem dX9_does_22 : decode cX9_does 22 = .ok (.iload_n 1, 1) := by decide +kernel
theorem dX9_does_23 : decode cX9_does 23 = .ok (.iconst 3, 1) := by decide +kernel
theorem dX9_does_24 : decode cX9_does 24 = .ok (.iadd, 1) := by decide +kernel
theorem dX9_does_25 : decode cX9_does 25 = .ok (.iaload, 1) := by decide +kernel
theorem dX9_does_26 : decode cX9_does 26 = .ok (.istore 4, 2) := by decide +kernel
theorem dX9_does_28 : decode cX9_does 28 = .ok (.iconst 0, 1) := by decide +kernel
theorem dX9_does_29 : decode cX9_does 29 = .ok (.istore 5, 2) := by decide +kernel
theorem dX9_does_31 : decode cX9_does 31 = .ok (.aload_n 0, 1) := by decide +kernel
theorem dX9_does_32 : decode cX9_does 32 = .ok (.getfield 33, 3) := by decide +kernel
theorem dX9_does_35 : decode cX9_does 35 = .ok (.iload_n 1, 1) := by decide +kernel
theorem dX9_does_36 : decode cX9_does 36 = .ok (.iaload, 1) := by decide +kernel
theorem dX9_does_37 : decode cX9_does 37 = .ok (.tableswitch 109 0 5 #[39, 50, 63, 73, 86, 96], 39) := by decide +kernel
theorem dX9_does_76 : decode cX9_does 76 = .ok (.aload_n 0, 1) := by decide +kernel
theorem dX9_does_77 : decode cX9_does 77 = .ok (.iload_n 2, 1) := by decide +kernel
theorem dX9_does_78 : decode cX9_does 78 = .ok (.iload_n 3, 1) := by decide +kernel
theorem dX9_does_79 : decode cX9_does 79 = .ok (.invokevirtual 306, 3) := by decide +kernel
theorem dX9_does_82 : decode cX9_does 82 = .ok (.istore 5, 2) := by decide +kernel
theorem dX9_does_84 : decode cX9_does 84 = .ok (.goto 69, 3) := by decide +kernel
theorem dX9_does_87 : decode cX9_does 87 = .ok (.aload_n 0, 1) := by decide +kernel
theorem dX9_does_88 : decode cX9_does 88 = .ok (.iload_n 2, 1) := by decide +kernel
theorem dX9_does_89 : decode cX9_does 89 = .ok (.iload_n 3, 1) := by decide +kernel
theorem dX9_does_90 : decode cX9_does 90 = .ok (.iload 4, 2) := by decide +kernel
theorem dX9_does_92 : decode cX9_does 92 = .ok (.invokevirtual 308, 3) := by decide +kernel
theorem dX9_does_95 : decode cX9_does 95 = .ok (.istore 5, 2) := by decide +kernel
theorem dX9_does_97 : decode cX9_does 97 = .ok (.goto 56, 3) := by decide +kernel
theorem dX9_does_100 : decode cX9_does 100 = .ok (.aload_n 0, 1) := by decide +kernel
theorem dX9_does_101 : decode cX9_does 101 = .ok (.iload_n 2, 1) := by decide +kernel
theorem dX9_does_102 : decode cX9_does 102 = .ok (.invokevirtual 312, 3) := by decide +kernel
theorem dX9_does_105 : decode cX9_does 105 = .ok (.istore 5, 2) := by decide +kernel
theorem dX9_does_107 : decode cX9_does 107 = .ok (.goto 46, 3) := by decide +kernel
theorem dX9_does_110 : decode cX9_does 110 = .ok (.aload_n 0, 1) := by decide +kernel
theorem dX9_does_111 : decode cX9_does 111 = .ok (.iload_n 2, 1) := by decide +kernel
theorem dX9_does_112 : decode cX9_does 112 = .ok (.iload_n 3, 1) := by decide +kernel
theorem dX9_does_113 : decode cX9_does 113 = .ok (.iload 4, 2) := by decide +kernel
theorem dX9_does_115 : decode cX9_does 115 = .ok (.invokevirtual 314, 3) := by decide +kernel
theorem dX9_does_118 : decode cX9_does 118 = .ok (.istore 5, 2) := by decide +kernel
theorem dX9_does_120 : decode cX9_does 120 = .ok (.goto 33, 3) := by decide +kernel
theorem dX9_does_123 : decode cX9_does 123 = .ok (.aload_n 0, 1) := by decide +kernel
theorem dX9_does_124 : decode cX9_does 124 = .ok (.iload_n 2, 1) := by decide +kernel
theorem dX9_does_125 : decode cX9_does 125 = .ok (.invokevirtual 316, 3) := by decide +kernel
theorem dX9_does_128 : decode cX9_does 128 = .ok (.istore 5, 2) := by decide +kernel
theorem dX9_does_130 : decode cX9_does 130 = .ok (.goto 23, 3) := by decide +kernel
theorem dX9_does_133 : decode cX9_does 133 = .ok (.aload_n 0, 1) := by decide +kernel
theorem dX9_does_134 : decode cX9_does 134 = .ok (.iload_n 2, 1) := by decide +kernel
theorem dX9_does_135 : decode cX9_does 135 = .ok (.iload_n 3, 1) := by decide +kernel
theorem dX9_does_136 : decode cX9_does 136 = .ok (.iload 4, 2) := by decide +kernel
theorem dX9_does_138 : decode cX9_does 138 = .ok (.invokevirtual 318, 3) := by decide +kernel
theorem dX9_does_141 : decode cX9_does 141 = .ok (.istore 5, 2) := by decide +kernel
theorem dX9_does_143 : decode cX9_does 143 = .ok (.goto 10, 3) := by decide +kernel
theorem dX9_does_146 : decode cX9_does 146 = .ok (.aload_n 0, 1) := by decide +kernel
theorem dX9_does_147 : decode cX9_does 147 = .ok (.iload_n 2, 1) := by decide +kernel
theorem dX9_does_148 : decode cX9_does 148 = .ok (.invokevirtual 320, 3) := by decide +kernel
theorem dX9_does_151 : decode cX9_does 151 = .ok (.istore 5, 2) := by decide +kernel
theorem dX9_does_153 : decode cX9_does 153 = .ok (.aload_n 0, 1) := by decide +kernel
theorem dX9_does_154 : decode cX9_does 154 = .ok (.getfield 33, 3) := by decide +kernel
theorem dX9_does_157 : decode cX9_does 157 = .ok (.iload_n 1, 1) := by decide +kernel
theorem dX9_does_158 : decode cX9_does 158 = .ok (.iaload, 1) := by decide +kernel
theorem dX9_does_159 : decode cX9_does 159 = .ok (.iconst 1, 1) := by decide +kernel
theorem dX9_does_160 : decode cX9_does 160 = .ok (.if_icmp .eq 13, 3) := by decide +kernel
theorem dX9_does_163 : decode cX9_does 163 = .ok (.aload_n 0, 1) := by decide +kernel
theorem dX9_does_164 : decode cX9_does 164 = .ok (.getfield 33, 3) := by decide +kernel
theorem dX9_does_167 : decode cX9_does 167 = .ok (.iload_n 1, 1) := by decide +kernel
theorem dX9_does_168 : decode cX9_does 168 = .ok (.iaload, 1) := by decide +kernel
theorem dX9_does_169 : decode cX9_does 169 = .ok (.iconst 5, 1) := by decide +kernel
theorem dX9_does_170 : decode cX9_does 170 = .ok (.if_icmp .ne 7, 3) := by decide +kernel
theorem dX9_does_173 : decode cX9_does 173 = .ok (.iconst 3, 1) := by decide +kernel
theorem dX9_does_174 : decode cX9_does 174 = .ok (.goto 20, 3) := by decide +kernel
theorem dX9_does_177 : decode cX9_does 177 = .ok (.aload_n 0, 1) := by decide +kernel
theorem dX9_does_178 : decode cX9_does 178 = .ok (.getfield 33, 3) := by decide +kernel
theorem dX9_does_181 : decode cX9_does 181 = .ok (.iload_n 1, 1) := by decide +kernel
theorem dX9_does_182 : decode cX9_does 182 = .ok (.iaload, 1) := by decide +kernel
theorem dX9_does_183 : decode cX9_does 183 = .ok (.bipush 6, 2) := by decide +kernel
theorem dX9_does_185 : decode cX9_does 185 = .ok (.if_icmp .ne 7, 3) := by decide +kernel
theorem dX9_does_188 : decode cX9_does 188 = .ok (.iconst 2, 1) := by decide +kernel
theorem dX9_does_189 : decode cX9_does 189 = .ok (.goto 5, 3) := by decide +kernel
theorem dX9_does_192 : decode cX9_does 192 = .ok (.bipush 99, 2) := by decide +kernel
theorem dX9_does_194 : decode cX9_does 194 = .ok (.istore 6, 2) := by decide +kernel
theorem dX9_does_196 : decode cX9_does 196 = .ok (.aload_n 0, 1) := by decide +kernel
theorem dX9_does_197 : decode cX9_does 197 = .ok (.getfield 37, 3) := by decide +kernel
theorem dX9_does_200 : decode cX9_does 200 = .ok (.ifCond .ne 7, 3) := by decide +kernel
theorem dX9_does_203 : decode cX9_does 203 = .ok (.iconst 0, 1) := by decide +kernel
theorem dX9_does_204 : decode cX9_does 204 = .ok (.goto 21, 3) := by decide +kernel
theorem dX9_does_207 : decode cX9_does 207 = .ok (.aload_n 0, 1) := by decide +kernel
theorem dX9_does_208 : decode cX9_does 208 = .ok (.getfield 37, 3) := by decide +kernel
theorem dX9_does_211 : decode cX9_does 211 = .ok (.iload 6, 2) := by decide +kernel
theorem dX9_does_213 : decode cX9_does 213 = .ok (.if_icmp .ne 10, 3) := by decide +kernel
theorem dX9_does_216 : decode cX9_does 216 = .ok (.aload_n 0, 1) := by decide +kernel
theorem dX9_does_217 : decode cX9_does 217 = .ok (.getfield 169, 3) := by decide +kernel
theorem dX9_does_220 : decode cX9_does 220 = .ok (.goto 5, 3) := by decide +kernel
theorem dX9_does_223 : decode cX9_does 223 = .ok (.bipush 10, 2) := by decide +kernel
theorem dX9_does_225 : decode cX9_does 225 = .ok (.ireturn, 1) := by decide +kernel
theorem dX9_read_0 : decode cX9_read 0 = .ok (.aload_n 0, 1) := by decide +kernel
theorem dX9_read_1 : decode cX9_read 1 = .ok (.iconst 0, 1) := by decide +kernel
theorem dX9_read_2 : decode cX9_read 2 = .ok (.putfield 254, 3) := by decide +kernel
theorem dX9_read_5 : decode cX9_read 5 = .ok (.aload_n 0, 1) := by decide +kernel
theorem dX9_read_6 : decode cX9_read 6 = .ok (.iconst 0, 1) := by decide +kernel
theorem dX9_read_7 : decode cX9_read 7 = .ok (.invokevirtual 323, 3) := by decide +kernel
theorem dX9_read_10 : decode cX9_read 10 = .ok (.iconst 1, 1) := by decide +kernel
theorem dX9_read_11 : decode cX9_read 11 = .ok (.istore_n 1, 1) := by decide +kernel
theorem dX9_read_12 : decode cX9_read 12 = .ok (.aload_n 0, 1) := by decide +kernel
theorem dX9_read_13 : decode cX9_read 13 = .ok (.getfield 289, 3) := by decide +kernel
theorem dX9_read_16 : decode cX9_read 16 = .ok (.ifCond .ne 35, 3) := by decide +kernel
theorem dX9_read_19 : decode cX9_read 19 = .ok (.aload_n 0, 1) := by decide +kernel
theorem dX9_read_20 : decode cX9_read 20 = .ok (.invokevirtual 284, 3) := by decide +kernel
theorem dX9_read_23 : decode cX9_read 23 = .ok (.bipush 59, 2) := by decide +kernel
theorem dX9_read_25 : decode cX9_read 25 = .ok (.if_icmp .ne 26, 3) := by decide +kernel
theorem dX9_read_28 : decode cX9_read 28 = .ok (.aload_n 0, 1) := by decide +kernel
theorem dX9_read_29 : decode cX9_read 29 = .ok (.dup, 1) := by decide +kernel
theorem dX9_read_30 : decode cX9_read 30 = .ok (.getfield 254, 3) := by decide +kernel
theorem dX9_read_33 : decode cX9_read 33 = .ok (.iconst 1, 1) := by decide +kernel
theorem dX9_read_34 : decode cX9_read 34 = .ok (.iadd, 1) := by decide +kernel
theorem dX9_read_35 : decode cX9_read 35 = .ok (.putfield 254, 3) := by decide +kernel
theorem dX9_read_38 : decode cX9_read 38 = .ok (.aload_n 0, 1) := by decide +kernel
theorem dX9_read_39 : decode cX9_read 39 = .ok (.iconst 4, 1) := by decide +kernel
theorem dX9_read_40 : decode cX9_read 40 = .ok (.iload_n 1, 1) := by decide +kernel
theorem dX9_read_41 : decode cX9_read 41 = .ok (.imul, 1) := by decide +kernel
theorem dX9_read_42 : decode cX9_read 42 = .ok (.invokevirtual 323, 3) := by decide +kernel
theorem dX9_read_45 : decode cX9_read 45 = .ok (.iinc 1 1, 3) := by decide +kernel
theorem dX9_read_48 : decode cX9_read 48 = .ok (.goto (-36), 3) := by decide +kernel
theorem dX9_read_51 : decode cX9_read 51 = .ok (.aload_n 0, 1) := by decide +kernel
theorem dX9_read_52 : decode cX9_read 52 = .ok (.dup, 1) := by decide +kernel
theorem dX9_read_53 : decode cX9_read 53 = .ok (.getfield 289, 3) := by decide +kernel
theorem dX9_read_56 : decode cX9_read 56 = .ok (.aload_n 0, 1) := by decide +kernel
theorem dX9_read_57 : decode cX9_read 57 = .ok (.getfield 254, 3) := by decide +kernel
theorem dX9_read_60 : decode cX9_read 60 = .ok (.aload_n 0, 1) := by decide +kernel
theorem dX9_read_61 : decode cX9_read 61 = .ok (.getfield 251, 3) := by decide +kernel
theorem dX9_read_64 : decode cX9_read 64 = .ok (.if_icmp .ge 7, 3) := by decide +kernel
theorem dX9_read_67 : decode cX9_read 67 = .ok (.iconst 1, 1) := by decide +kernel
theorem dX9_read_68 : decode cX9_read 68 = .ok (.goto 4, 3) := by decide +kernel
theorem dX9_read_71 : decode cX9_read 71 = .ok (.iconst 0, 1) := by decide +kernel
theorem dX9_read_72 : decode cX9_read 72 = .ok (.ior, 1) := by decide +kernel
theorem dX9_read_73 : decode cX9_read 73 = .ok (.putfield 289, 3) := by decide +kernel
theorem dX9_read_76 : decode cX9_read 76 = .ok (.aload_n 0, 1) := by decide +kernel
theorem dX9_read_77 : decode cX9_read 77 = .ok (.iconst 0, 1) := by decide +kernel
theorem dX9_read_78 : decode cX9_read 78 = .ok (.putfield 251, 3) := by decide +kernel
theorem dX9_read_81 : decode cX9_read 81 = .ok (.aload_n 0, 1) := by decide +kernel
theorem dX9_read_82 : decode cX9_read 82 = .ok (.aload_n 0, 1) := by decide +kernel
theorem dX9_read_83 : decode cX9_read 83 = .ok (.getfield 289, 3) := by decide +kernel
theorem dX9_read_86 : decode cX9_read 86 = .ok (.ifCond .eq 10, 3) := by decide +kernel
theorem dX9_read_89 : decode cX9_read 89 = .ok (.aload_n 0, 1) := by decide +kernel
theorem dX9_read_90 : decode cX9_read 90 = .ok (.getfield 254, 3) := by decide +kernel
theorem dX9_read_93 : decode cX9_read 93 = .ok (.goto 4, 3) := by decide +kernel
theorem dX9_read_96 : decode cX9_read 96 = .ok (.iconst (-1), 1) := by decide +kernel
theorem dX9_read_97 : decode cX9_read 97 = .ok (.putfield 26, 3) := by decide +kernel
theorem dX9_read_100 : decode cX9_read 100 = .ok (.aload_n 0, 1) := by decide +kernel
theorem dX9_read_101 : decode cX9_read 101 = .ok (.getfield 289, 3) := by decide +kernel
theorem dX9_read_104 : decode cX9_read 104 = .ok (.ifCond .eq 9, 3) := by decide +kernel
theorem dX9_read_107 : decode cX9_read 107 = .ok (.aload_n 0, 1) := by decide +kernel
theorem dX9_read_108 : decode cX9_read 108 = .ok (.iconst 1, 1) := by decide +kernel
theorem dX9_read_109 : decode cX9_read 109 = .ok (.invokevirtual 63, 3) := by decide +kernel
theorem dX9_read_112 : decode cX9_read 112 = .ok (.ireturn, 1) := by decide +kernel
theorem dX9_read_113 : decode cX9_read 113 = .ok (.aload_n 0, 1) := by decide +kernel
theorem dX9_read_114 : decode cX9_read 114 = .ok (.getfield 9, 3) := by decide +kernel
theorem dX9_read_117 : decode cX9_read 117 = .ok (.iconst 0, 1) := by decide +kernel
theorem dX9_read_118 : decode cX9_read 118 = .ok (.aload_n 0, 1) := by decide +kernel
theorem dX9_read_119 : decode cX9_read 119 = .ok (.getfield 19, 3) := by decide +kernel
theorem dX9_read_122 : decode cX9_read 122 = .ok (.iconst 0, 1) := by decide +kernel
theorem dX9_read_123 : decode cX9_read 123 = .ok (.invokestatic 51, 3) := by decide +kernel
theorem dX9_read_126 : decode cX9_read 126 = .ok (.aload_n 0, 1) := by decide +kernel
theorem dX9_read_127 : decode cX9_read 127 = .ok (.iconst 1, 1) := by decide +kernel
theorem dX9_read_128 : decode cX9_read 128 = .ok (.putfield 40, 3) := by decide +kernel
theorem dX9_read_131 : decode cX9_read 131 = .ok (.iconst 0, 1) := by decide +kernel
theorem dX9_read_132 : decode cX9_read 132 = .ok (.istore_n 2, 1) := by decide +kernel
theorem dX9_read_133 : decode cX9_read 133 = .ok (.iconst 0, 1) := by decide +kernel
theorem dX9_read_134 : decode cX9_read 134 = .ok (.istore_n 3, 1) := by decide +kernel
theorem dX9_read_135 : decode cX9_read 135 = .ok (.iload_n 3, 1) := by decide +kernel
theorem dX9_read_136 : decode cX9_read 136 = .ok (.iload_n 1, 1) := by decide +kernel
theorem dX9_read_137 : decode cX9_read 137 = .ok (.if_icmp .ge 21, 3) := by decide +kernel
theorem dX9_read_140 : decode cX9_read 140 = .ok (.iload_n 2, 1) := by decide +kernel
theorem dX9_read_141 : decode cX9_read 141 = .ok (.ifCond .ne 17, 3) := by decide +kernel
theorem dX9_read_144 : decode cX9_read 144 = .ok (.aload_n 0, 1) := by decide +kernel
theorem dX9_read_145 : decode cX9_read 145 = .ok (.iconst 4, 1) := by decide +kernel
theorem dX9_read_146 : decode cX9_read 146 = .ok (.iload_n 3, 1) := by decide +kernel
theorem dX9_read_147 : decode cX9_read 147 = .ok (.imul, 1) := by decide +kernel
theorem dX9_read_148 : decode cX9_read 148 = .ok (.invokevirtual 327, 3) := by decide +kernel
theorem dX9_read_151 : decode cX9_read 151 = .ok (.istore_n 2, 1) := by decide +kernel
theorem dX9_read_152 : decode cX9_read 152 = .ok (.iinc 3 1, 3) := by decide +kernel
theorem dX9_read_155 : decode cX9_read 155 = .ok (.goto (-20), 3) := by decide +kernel
theorem dX9_read_158 : decode cX9_read 158 = .ok (.aload_n 0, 1) := by decide +kernel
theorem dX9_read_159 : decode cX9_read 159 = .ok (.iconst 0, 1) := by decide +kernel
theorem dX9_read_160 : decode cX9_read 160 = .ok (.putfield 40, 3) := by decide +kernel
theorem dX9_read_163 : decode cX9_read 163 = .ok (.iload_n 2, 1) := by decide +kernel
theorem dX9_read_164 : decode cX9_read 164 = .ok (.ifCond .eq 34, 3) := by decide +kernel
theorem dX9_read_167 : decode cX9_read 167 = .ok (.aload_n 0, 1) := by decide +kernel
theorem dX9_read_168 : decode cX9_read 168 = .ok (.getfield 19, 3) := by decide +kernel
theorem dX9_read_171 : decode cX9_read 171 = .ok (.iconst 0, 1) := by decide +kernel
theorem dX9_read_172 : decode cX9_read 172 = .ok (.aload_n 0, 1) := by decide +kernel
theorem dX9_read_173 : decode cX9_read 173 = .ok (.getfield 9, 3) := by decide +kernel
theorem dX9_read_176 : decode cX9_read 176 = .ok (.iconst 0, 1) := by decide +kernel
theorem dX9_read_177 : decode cX9_read 177 = .ok (.invokestatic 51, 3) := by decide +kernel
theorem dX9_read_180 : decode cX9_read 180 = .ok (.aload_n 0, 1) := by decide +kernel
theorem dX9_read_181 : decode cX9_read 181 = .ok (.iload_n 2, 1) := by decide +kernel
theorem dX9_read_182 : decode cX9_read 182 = .ok (.putfield 169, 3) := by decide +kernel
theorem dX9_read_185 : decode cX9_read 185 = .ok (.aload_n 0, 1) := by decide +kernel
theorem dX9_read_186 : decode cX9_read 186 = .ok (.iload_n 3, 1) := by decide +kernel
theorem dX9_read_187 : decode cX9_read 187 = .ok (.iconst 1, 1) := by decide +kernel
theorem dX9_read_188 : decode cX9_read 188 = .ok (.isub, 1) := by decide +kernel
theorem dX9_read_189 : decode cX9_read 189 = .ok (.putfield 172, 3) := by decide +kernel
theorem dX9_read_192 : decode cX9_read 192 = .ok (.aload_n 0, 1) := by decide +kernel
theorem dX9_read_193 : decode cX9_read 193 = .ok (.iconst 2, 1) := by decide +kernel
theorem dX9_read_194 : decode cX9_read 194 = .ok (.invokevirtual 63, 3) := by decide +kernel
theorem dX9_read_197 : decode cX9_read 197 = .ok (.ireturn, 1) := by decide +kernel
theorem dX9_read_198 : decode cX9_read 198 = .ok (.aload_n 0, 1) := by decide +kernel
theorem dX9_read_199 : decode cX9_read 199 = .ok (.aload_n 0, 1) := by decide +kernel
theorem dX9_read_200 : decode cX9_read 200 = .ok (.getfield 19, 3) := by decide +kernel
theorem dX9_read_203 : decode cX9_read 203 = .ok (.invokevirtual 44, 3) := by decide +kernel
theorem dX9_read_206 : decode cX9_read 206 = .ok (.aload_n 0, 1) := by decide +kernel
theorem dX9_read_207 : decode cX9_read 207 = .ok (.iload_n 1, 1) := by decide +kernel
theorem dX9_read_208 : decode cX9_read 208 = .ok (.i2l, 1) := by decide +kernel
theorem dX9_read_209 : decode cX9_read 209 = .ok (.invokevirtual 78, 3) := by decide +kernel
theorem dX9_read_212 : decode cX9_read 212 = .ok (.ireturn, 1) := by decide +kernel
theorem dX9_faultPosition_0 : decode cX9_faultPosition 0 = .ok (.aload_n 0, 1) := by decide +kernel
theorem dX9_faultPosition_1 : decode cX9_faultPosition 1 = .ok (.aload_n 0, 1) := by decide +kernel
theorem dX9_faultPosition_2 : decode cX9_faultPosition 2 = .ok (.getfield 26, 3) := by decide +kernel
theorem dX9_faultPosition_5 : decode cX9_faultPosition 5 = .ok (.i2l, 1) := by decide +kernel
theorem dX9_faultPosition_6 : decode cX9_faultPosition 6 = .ok (.invokevirtual 78, 3) := by decide +kernel
theorem dX9_faultPosition_9 : decode cX9_faultPosition 9 = .ok (.ireturn, 1) := by decide +kernel
theorem dX9_refusal_0 : decode cX9_refusal 0 = .ok (.aload_n 0, 1) := by decide +kernel
theorem dX9_refusal_1 : decode cX9_refusal 1 = .ok (.getfield 169, 3) := by decide +kernel
theorem dX9_refusal_4 : decode cX9_refusal 4 = .ok (.ifCond .ne 11, 3) := by decide +kernel
theorem dX9_refusal_7 : decode cX9_refusal 7 = .ok (.aload_n 0, 1) := by decide +kernel
theorem dX9_refusal_8 : decode cX9_refusal 8 = .ok (.iconst 1, 1) := by decide +kernel
theorem dX9_refusal_9 : decode cX9_refusal 9 = .ok (.invokevirtual 63, 3) := by decide +kernel
theorem dX9_refusal_12 : decode cX9_refusal 12 = .ok (.goto 24, 3) := by decide +kernel
theorem dX9_refusal_15 : decode cX9_refusal 15 = .ok (.aload_n 0, 1) := by decide +kernel
theorem dX9_refusal_16 : decode cX9_refusal 16 = .ok (.iload_n 1, 1) := by decide +kernel
theorem dX9_refusal_17 : decode cX9_refusal 17 = .ok (.ifCond .eq 11, 3) := by decide +kernel
theorem dX9_refusal_20 : decode cX9_refusal 20 = .ok (.aload_n 0, 1) := by decide +kernel
theorem dX9_refusal_21 : decode cX9_refusal 21 = .ok (.getfield 169, 3) := by decide +kernel
theorem dX9_refusal_24 : decode cX9_refusal 24 = .ok (.i2l, 1) := by decide +kernel
theorem dX9_refusal_25 : decode cX9_refusal 25 = .ok (.goto 8, 3) := by decide +kernel
theorem dX9_refusal_28 : decode cX9_refusal 28 = .ok (.aload_n 0, 1) := by decide +kernel
theorem dX9_refusal_29 : decode cX9_refusal 29 = .ok (.getfield 172, 3) := by decide +kernel
theorem dX9_refusal_32 : decode cX9_refusal 32 = .ok (.i2l, 1) := by decide +kernel
theorem dX9_refusal_33 : decode cX9_refusal 33 = .ok (.invokevirtual 78, 3) := by decide +kernel
theorem dX9_refusal_36 : decode cX9_refusal 36 = .ok (.ireturn, 1) := by decide +kernel
theorem dX9_costs_0 : decode cX9_costs 0 = .ok (.lconst 0, 1) := by decide +kernel
theorem dX9_costs_1 : decode cX9_costs 1 = .ok (.lstore_n 1, 1) := by decide +kernel
theorem dX9_costs_2 : decode cX9_costs 2 = .ok (.iconst 0, 1) := by decide +kernel
theorem dX9_costs_3 : decode cX9_costs 3 = .ok (.istore_n 3, 1) := by decide +kernel
theorem dX9_costs_4 : decode cX9_costs 4 = .ok (.iload_n 3, 1) := by decide +kernel
theorem dX9_costs_5 : decode cX9_costs 5 = .ok (.i2l, 1) := by decide +kernel
theorem dX9_costs_6 : decode cX9_costs 6 = .ok (.aload_n 0, 1) := by decide +kernel
theorem dX9_costs_7 : decode cX9_costs 7 = .ok (.getfield 9, 3) := by decide +kernel
theorem dX9_costs_10 : decode cX9_costs 10 = .ok (.iconst 1, 1) := by decide +kernel
theorem dX9_costs_11 : decode cX9_costs 11 = .ok (.laload, 1) := by decide +kernel
theorem dX9_costs_12 : decode cX9_costs 12 = .ok (.lcmp, 1) := by decide +kernel
theorem dX9_costs_13 : decode cX9_costs 13 = .ok (.ifCond .ge 19, 3) := by decide +kernel
theorem dX9_costs_16 : decode cX9_costs 16 = .ok (.lload_n 1, 1) := by decide +kernel
theorem dX9_costs_17 : decode cX9_costs 17 = .ok (.aload_n 0, 1) := by decide +kernel
theorem dX9_costs_18 : decode cX9_costs 18 = .ok (.iload_n 3, 1) := by decide +kernel
theorem dX9_costs_19 : decode cX9_costs 19 = .ok (.bipush 6, 2) := by decide +kernel
theorem dX9_costs_21 : decode cX9_costs 21 = .ok (.invokevirtual 90, 3) := by decide +kernel
theorem dX9_costs_24 : decode cX9_costs 24 = .ok (.ladd, 1) := by decide +kernel
theorem dX9_costs_25 : decode cX9_costs 25 = .ok (.lstore_n 1, 1) := by decide +kernel
theorem dX9_costs_26 : decode cX9_costs 26 = .ok (.iinc 3 1, 3) := by decide +kernel
theorem dX9_costs_29 : decode cX9_costs 29 = .ok (.goto (-25), 3) := by decide +kernel
theorem dX9_costs_32 : decode cX9_costs 32 = .ok (.lload_n 1, 1) := by decide +kernel
theorem dX9_costs_33 : decode cX9_costs 33 = .ok (.lreturn, 1) := by decide +kernel
theorem dX9_doubtfulMeasures_0 : decode cX9_doubtfulMeasures 0 = .ok (.iconst 0, 1) := by decide +kernel
theorem dX9_doubtfulMeasures_1 : decode cX9_doubtfulMeasures 1 = .ok (.istore_n 1, 1) := by decide +kernel
theorem dX9_doubtfulMeasures_2 : decode cX9_doubtfulMeasures 2 = .ok (.iconst 0, 1) := by decide +kernel
theorem dX9_doubtfulMeasures_3 : decode cX9_doubtfulMeasures 3 = .ok (.istore_n 2, 1) := by decide +kernel
theorem dX9_doubtfulMeasures_4 : decode cX9_doubtfulMeasures 4 = .ok (.iload_n 2, 1) := by decide +kernel
theorem dX9_doubtfulMeasures_5 : decode cX9_doubtfulMeasures 5 = .ok (.i2l, 1) := by decide +kernel
theorem dX9_doubtfulMeasures_6 : decode cX9_doubtfulMeasures 6 = .ok (.aload_n 0, 1) := by decide +kernel
theorem dX9_doubtfulMeasures_7 : decode cX9_doubtfulMeasures 7 = .ok (.getfield 9, 3) := by decide +kernel
theorem dX9_doubtfulMeasures_10 : decode cX9_doubtfulMeasures 10 = .ok (.iconst 5, 1) := by decide +kernel
theorem dX9_doubtfulMeasures_11 : decode cX9_doubtfulMeasures 11 = .ok (.laload, 1) := by decide +kernel
theorem dX9_doubtfulMeasures_12 : decode cX9_doubtfulMeasures 12 = .ok (.lcmp, 1) := by decide +kernel
theorem dX9_doubtfulMeasures_13 : decode cX9_doubtfulMeasures 13 = .ok (.ifCond .ge 40, 3) := by decide +kernel
theorem dX9_doubtfulMeasures_16 : decode cX9_doubtfulMeasures 16 = .ok (.iload_n 1, 1) := by decide +kernel
theorem dX9_doubtfulMeasures_17 : decode cX9_doubtfulMeasures 17 = .ok (.aload_n 0, 1) := by decide +kernel
theorem dX9_doubtfulMeasures_18 : decode cX9_doubtfulMeasures 18 = .ok (.aload_n 0, 1) := by decide +kernel
theorem dX9_doubtfulMeasures_19 : decode cX9_doubtfulMeasures 19 = .ok (.getfield 9, 3) := by decide +kernel
theorem dX9_doubtfulMeasures_22 : decode cX9_doubtfulMeasures 22 = .ok (.sipush 780, 3) := by decide +kernel
theorem dX9_doubtfulMeasures_25 : decode cX9_doubtfulMeasures 25 = .ok (.bipush 7, 2) := by decide +kernel
theorem dX9_doubtfulMeasures_27 : decode cX9_doubtfulMeasures 27 = .ok (.iload_n 2, 1) := by decide +kernel
theorem dX9_doubtfulMeasures_28 : decode cX9_doubtfulMeasures 28 = .ok (.imul, 1) := by decide +kernel
theorem dX9_doubtfulMeasures_29 : decode cX9_doubtfulMeasures 29 = .ok (.iadd, 1) := by decide +kernel
theorem dX9_doubtfulMeasures_30 : decode cX9_doubtfulMeasures 30 = .ok (.iconst 1, 1) := by decide +kernel
theorem dX9_doubtfulMeasures_31 : decode cX9_doubtfulMeasures 31 = .ok (.iadd, 1) := by decide +kernel
theorem dX9_doubtfulMeasures_32 : decode cX9_doubtfulMeasures 32 = .ok (.laload, 1) := by decide +kernel
theorem dX9_doubtfulMeasures_33 : decode cX9_doubtfulMeasures 33 = .ok (.l2i, 1) := by decide +kernel
theorem dX9_doubtfulMeasures_34 : decode cX9_doubtfulMeasures 34 = .ok (.invokevirtual 130, 3) := by decide +kernel
theorem dX9_doubtfulMeasures_37 : decode cX9_doubtfulMeasures 37 = .ok (.ifCond .eq 7, 3) := by decide +kernel
theorem dX9_doubtfulMeasures_40 : decode cX9_doubtfulMeasures 40 = .ok (.iconst 0, 1) := by decide +kernel
theorem dX9_doubtfulMeasures_41 : decode cX9_doubtfulMeasures 41 = .ok (.goto 4, 3) := by decide +kernel
theorem dX9_doubtfulMeasures_44 : decode cX9_doubtfulMeasures 44 = .ok (.iconst 1, 1) := by decide +kernel
theorem dX9_doubtfulMeasures_45 : decode cX9_doubtfulMeasures 45 = .ok (.iadd, 1) := by decide +kernel
theorem dX9_doubtfulMeasures_46 : decode cX9_doubtfulMeasures 46 = .ok (.istore_n 1, 1) := by decide +kernel
theorem dX9_doubtfulMeasures_47 : decode cX9_doubtfulMeasures 47 = .ok (.iinc 2 1, 3) := by decide +kernel
theorem dX9_doubtfulMeasures_50 : decode cX9_doubtfulMeasures 50 = .ok (.goto (-46), 3) := by decide +kernel
theorem dX9_doubtfulMeasures_53 : decode cX9_doubtfulMeasures 53 = .ok (.iload_n 1, 1) := by decide +kernel
theorem dX9_doubtfulMeasures_54 : decode cX9_doubtfulMeasures 54 = .ok (.ireturn, 1) := by decide +kernel
theorem dX9_freshCerts_0 : decode cX9_freshCerts 0 = .ok (.iconst 0, 1) := by decide +kernel
theorem dX9_freshCerts_1 : decode cX9_freshCerts 1 = .ok (.istore_n 1, 1) := by decide +kernel
theorem dX9_freshCerts_2 : decode cX9_freshCerts 2 = .ok (.iconst 0, 1) := by decide +kernel
theorem dX9_freshCerts_3 : decode cX9_freshCerts 3 = .ok (.istore_n 2, 1) := by decide +kernel
theorem dX9_freshCerts_4 : decode cX9_freshCerts 4 = .ok (.iload_n 2, 1) := by decide +kernel
theorem dX9_freshCerts_5 : decode cX9_freshCerts 5 = .ok (.i2l, 1) := by decide +kernel
theorem dX9_freshCerts_6 : decode cX9_freshCerts 6 = .ok (.aload_n 0, 1) := by decide +kernel
theorem dX9_freshCerts_7 : decode cX9_freshCerts 7 = .ok (.getfield 9, 3) := by decide +kernel
theorem dX9_freshCerts_10 : decode cX9_freshCerts 10 = .ok (.bipush 6, 2) := by decide +kernel
theorem dX9_freshCerts_12 : decode cX9_freshCerts 12 = .ok (.laload, 1) := by decide +kernel
theorem dX9_freshCerts_13 : decode cX9_freshCerts 13 = .ok (.lcmp, 1) := by decide +kernel
theorem dX9_freshCerts_14 : decode cX9_freshCerts 14 = .ok (.ifCond .ge 25, 3) := by decide +kernel
theorem dX9_freshCerts_17 : decode cX9_freshCerts 17 = .ok (.iload_n 1, 1) := by decide +kernel
theorem dX9_freshCerts_18 : decode cX9_freshCerts 18 = .ok (.aload_n 0, 1) := by decide +kernel
theorem dX9_freshCerts_19 : decode cX9_freshCerts 19 = .ok (.iload_n 2, 1) := by decide +kernel
theorem dX9_freshCerts_20 : decode cX9_freshCerts 20 = .ok (.invokevirtual 228, 3) := by decide +kernel
theorem dX9_freshCerts_23 : decode cX9_freshCerts 23 = .ok (.ifCond .ne 7, 3) := by decide +kernel
theorem dX9_freshCerts_26 : decode cX9_freshCerts 26 = .ok (.iconst 1, 1) := by decide +kernel
theorem dX9_freshCerts_27 : decode cX9_freshCerts 27 = .ok (.goto 4, 3) := by decide +kernel
theorem dX9_freshCerts_30 : decode cX9_freshCerts 30 = .ok (.iconst 0, 1) := by decide +kernel
theorem dX9_freshCerts_31 : decode cX9_freshCerts 31 = .ok (.iadd, 1) := by decide +kernel
theorem dX9_freshCerts_32 : decode cX9_freshCerts 32 = .ok (.istore_n 1, 1) := by decide +kernel
theorem dX9_freshCerts_33 : decode cX9_freshCerts 33 = .ok (.iinc 2 1, 3) := by decide +kernel
theorem dX9_freshCerts_36 : decode cX9_freshCerts 36 = .ok (.goto (-32), 3) := by decide +kernel
theorem dX9_freshCerts_39 : decode cX9_freshCerts 39 = .ok (.iload_n 1, 1) := by decide +kernel
theorem dX9_freshCerts_40 : decode cX9_freshCerts 40 = .ok (.ireturn, 1) := by decide +kernel
theorem dX9_account_0 : decode cX9_account 0 = .ok (.iload_n 1, 1) := by decide +kernel
theorem dX9_account_1 : decode cX9_account 1 = .ok (.i2l, 1) := by decide +kernel
theorem dX9_account_2 : decode cX9_account 2 = .ok (.lconst 0, 1) := by decide +kernel
theorem dX9_account_3 : decode cX9_account 3 = .ok (.ldc2_w 94, 3) := by decide +kernel
theorem dX9_account_6 : decode cX9_account 6 = .ok (.invokestatic 55, 3) := by decide +kernel
theorem dX9_account_9 : decode cX9_account 9 = .ok (.ifCond .ne 10, 3) := by decide +kernel
theorem dX9_account_12 : decode cX9_account 12 = .ok (.aload_n 0, 1) := by decide +kernel
theorem dX9_account_13 : decode cX9_account 13 = .ok (.iconst 1, 1) := by decide +kernel
theorem dX9_account_14 : decode cX9_account 14 = .ok (.invokevirtual 63, 3) := by decide +kernel
theorem dX9_account_17 : decode cX9_account 17 = .ok (.i2l, 1) := by decide +kernel
theorem dX9_account_18 : decode cX9_account 18 = .ok (.lreturn, 1) := by decide +kernel
theorem dX9_account_19 : decode cX9_account 19 = .ok (.iload_n 1, 1) := by decide +kernel
theorem dX9_account_20 : decode cX9_account 20 = .ok (.tableswitch 162 0 9 #[56, 67, 78, 88, 99, 109, 121, 131, 142, 151], 56) := by decide +kernel
theorem dX9_account_76 : decode cX9_account 76 = .ok (.aload_n 0, 1) := by decide +kernel
theorem dX9_account_77 : decode cX9_account 77 = .ok (.aload_n 0, 1) := by decide +kernel
theorem dX9_account_78 : decode cX9_account 78 = .ok (.getfield 9, 3) := by decide +kernel
theorem dX9_account_81 : decode cX9_account 81 = .ok (.iconst 1, 1) := by decide +kernel
theorem dX9_account_82 : decode cX9_account 82 = .ok (.laload, 1) := by decide +kernel
theorem dX9_account_83 : decode cX9_account 83 = .ok (.invokevirtual 200, 3) := by decide +kernel
theorem dX9_account_86 : decode cX9_account 86 = .ok (.lreturn, 1) := by decide +kernel
theorem dX9_account_87 : decode cX9_account 87 = .ok (.aload_n 0, 1) := by decide +kernel
theorem dX9_account_88 : decode cX9_account 88 = .ok (.aload_n 0, 1) := by decide +kernel
theorem dX9_account_89 : decode cX9_account 89 = .ok (.getfield 9, 3) := by decide +kernel
theorem dX9_account_92 : decode cX9_account 92 = .ok (.iconst 2, 1) := by decide +kernel
theorem dX9_account_93 : decode cX9_account 93 = .ok (.laload, 1) := by decide +kernel
theorem dX9_account_94 : decode cX9_account 94 = .ok (.invokevirtual 200, 3) := by decide +kernel
theorem dX9_account_97 : decode cX9_account 97 = .ok (.lreturn, 1) := by decide +kernel
theorem dX9_account_98 : decode cX9_account 98 = .ok (.aload_n 0, 1) := by decide +kernel
theorem dX9_account_99 : decode cX9_account 99 = .ok (.aload_n 0, 1) := by decide +kernel
theorem dX9_account_100 : decode cX9_account 100 = .ok (.invokevirtual 330, 3) := by decide +kernel
theorem dX9_account_103 : decode cX9_account 103 = .ok (.i2l, 1) := by decide +kernel
theorem dX9_account_104 : decode cX9_account 104 = .ok (.invokevirtual 200, 3) := by decide +kernel
theorem dX9_account_107 : decode cX9_account 107 = .ok (.lreturn, 1) := by decide +kernel
theorem dX9_account_108 : decode cX9_account 108 = .ok (.aload_n 0, 1) := by decide +kernel
theorem dX9_account_109 : decode cX9_account 109 = .ok (.aload_n 0, 1) := by decide +kernel
theorem dX9_account_110 : decode cX9_account 110 = .ok (.getfield 9, 3) := by decide +kernel
theorem dX9_account_113 : decode cX9_account 113 = .ok (.iconst 5, 1) := by decide +kernel
theorem dX9_account_114 : decode cX9_account 114 = .ok (.laload, 1) := by decide +kernel
theorem dX9_account_115 : decode cX9_account 115 = .ok (.invokevirtual 200, 3) := by decide +kernel
theorem dX9_account_118 : decode cX9_account 118 = .ok (.lreturn, 1) := by decide +kernel
theorem dX9_account_119 : decode cX9_account 119 = .ok (.aload_n 0, 1) := by decide +kernel
theorem dX9_account_120 : decode cX9_account 120 = .ok (.aload_n 0, 1) := by decide +kernel
theorem dX9_account_121 : decode cX9_account 121 = .ok (.invokevirtual 333, 3) := by decide +kernel
theorem dX9_account_124 : decode cX9_account 124 = .ok (.i2l, 1) := by decide +kernel
theorem dX9_account_125 : decode cX9_account 125 = .ok (.invokevirtual 200, 3) := by decide +kernel
theorem dX9_account_128 : decode cX9_account 128 = .ok (.lreturn, 1) := by decide +kernel
theorem dX9_account_129 : decode cX9_account 129 = .ok (.aload_n 0, 1) := by decide +kernel
theorem dX9_account_130 : decode cX9_account 130 = .ok (.aload_n 0, 1) := by decide +kernel
theorem dX9_account_131 : decode cX9_account 131 = .ok (.getfield 9, 3) := by decide +kernel
theorem dX9_account_134 : decode cX9_account 134 = .ok (.bipush 6, 2) := by decide +kernel
theorem dX9_account_136 : decode cX9_account 136 = .ok (.laload, 1) := by decide +kernel
theorem dX9_account_137 : decode cX9_account 137 = .ok (.invokevirtual 200, 3) := by decide +kernel
theorem dX9_account_140 : decode cX9_account 140 = .ok (.lreturn, 1) := by decide +kernel
theorem dX9_account_141 : decode cX9_account 141 = .ok (.aload_n 0, 1) := by decide +kernel
theorem dX9_account_142 : decode cX9_account 142 = .ok (.aload_n 0, 1) := by decide +kernel
theorem dX9_account_143 : decode cX9_account 143 = .ok (.invokevirtual 336, 3) := by decide +kernel
theorem dX9_account_146 : decode cX9_account 146 = .ok (.i2l, 1) := by decide +kernel
theorem dX9_account_147 : decode cX9_account 147 = .ok (.invokevirtual 200, 3) := by decide +kernel
theorem dX9_account_150 : decode cX9_account 150 = .ok (.lreturn, 1) := by decide +kernel
theorem dX9_account_151 : decode cX9_account 151 = .ok (.aload_n 0, 1) := by decide +kernel
theorem dX9_account_152 : decode cX9_account 152 = .ok (.aload_n 0, 1) := by decide +kernel
theorem dX9_account_153 : decode cX9_account 153 = .ok (.getfield 9, 3) := by decide +kernel
theorem dX9_account_156 : decode cX9_account 156 = .ok (.iconst 4, 1) := by decide +kernel
theorem dX9_account_157 : decode cX9_account 157 = .ok (.laload, 1) := by decide +kernel
theorem dX9_account_158 : decode cX9_account 158 = .ok (.invokevirtual 200, 3) := by decide +kernel
theorem dX9_account_161 : decode cX9_account 161 = .ok (.lreturn, 1) := by decide +kernel
theorem dX9_account_162 : decode cX9_account 162 = .ok (.aload_n 0, 1) := by decide +kernel
theorem dX9_account_163 : decode cX9_account 163 = .ok (.aload_n 0, 1) := by decide +kernel
theorem dX9_account_164 : decode cX9_account 164 = .ok (.invokevirtual 339, 3) := by decide +kernel
theorem dX9_account_167 : decode cX9_account 167 = .ok (.invokevirtual 200, 3) := by decide +kernel
theorem dX9_account_170 : decode cX9_account 170 = .ok (.lreturn, 1) := by decide +kernel
theorem dX9_account_171 : decode cX9_account 171 = .ok (.aload_n 0, 1) := by decide +kernel
theorem dX9_account_172 : decode cX9_account 172 = .ok (.aload_n 0, 1) := by decide +kernel
theorem dX9_account_173 : decode cX9_account 173 = .ok (.getfield 9, 3) := by decide +kernel
theorem dX9_account_176 : decode cX9_account 176 = .ok (.iconst 3, 1) := by decide +kernel
theorem dX9_account_177 : decode cX9_account 177 = .ok (.laload, 1) := by decide +kernel
theorem dX9_account_178 : decode cX9_account 178 = .ok (.invokevirtual 200, 3) := by decide +kernel
theorem dX9_account_181 : decode cX9_account 181 = .ok (.lreturn, 1) := by decide +kernel
theorem dX9_account_182 : decode cX9_account 182 = .ok (.aload_n 0, 1) := by decide +kernel
theorem dX9_account_183 : decode cX9_account 183 = .ok (.aload_n 0, 1) := by decide +kernel
theorem dX9_account_184 : decode cX9_account 184 = .ok (.getfield 48, 3) := by decide +kernel
theorem dX9_account_187 : decode cX9_account 187 = .ok (.i2l, 1) := by decide +kernel
theorem dX9_account_188 : decode cX9_account 188 = .ok (.invokevirtual 200, 3) := by decide +kernel
theorem dX9_account_191 : decode cX9_account 191 = .ok (.lreturn, 1) := by decide +kernel
theorem dX9_goodShare_0 : decode cX9_goodShare 0 = .ok (.aload_n 0, 1) := by decide +kernel
theorem dX9_goodShare_1 : decode cX9_goodShare 1 = .ok (.getfield 9, 3) := by decide +kernel
theorem dX9_goodShare_4 : decode cX9_goodShare 4 = .ok (.iconst 2, 1) := by decide +kernel
theorem dX9_goodShare_5 : decode cX9_goodShare 5 = .ok (.laload, 1) := by decide +kernel
theorem dX9_goodShare_6 : decode cX9_goodShare 6 = .ok (.lconst 0, 1) := by decide +kernel
theorem dX9_goodShare_7 : decode cX9_goodShare 7 = .ok (.lcmp, 1) := by decide +kernel
theorem dX9_goodShare_8 : decode cX9_goodShare 8 = .ok (.ifCond .ne 10, 3) := by decide +kernel
theorem dX9_goodShare_11 : decode cX9_goodShare 11 = .ok (.aload_n 0, 1) := by decide +kernel
theorem dX9_goodShare_12 : decode cX9_goodShare 12 = .ok (.iconst 1, 1) := by decide +kernel
theorem dX9_goodShare_13 : decode cX9_goodShare 13 = .ok (.putfield 37, 3) := by decide +kernel
theorem dX9_goodShare_16 : decode cX9_goodShare 16 = .ok (.dconst 0, 1) := by decide +kernel
theorem dX9_goodShare_17 : decode cX9_goodShare 17 = .ok (.dreturn, 1) := by decide +kernel
theorem dX9_goodShare_18 : decode cX9_goodShare 18 = .ok (.aload_n 0, 1) := by decide +kernel
theorem dX9_goodShare_19 : decode cX9_goodShare 19 = .ok (.iconst 0, 1) := by decide +kernel
theorem dX9_goodShare_20 : decode cX9_goodShare 20 = .ok (.putfield 37, 3) := by decide +kernel
theorem dX9_goodShare_23 : decode cX9_goodShare 23 = .ok (.aload_n 0, 1) := by decide +kernel
theorem dX9_goodShare_24 : decode cX9_goodShare 24 = .ok (.invokevirtual 330, 3) := by decide +kernel
theorem dX9_goodShare_27 : decode cX9_goodShare 27 = .ok (.i2d, 1) := by decide +kernel
theorem dX9_goodShare_28 : decode cX9_goodShare 28 = .ok (.aload_n 0, 1) := by decide +kernel
theorem dX9_goodShare_29 : decode cX9_goodShare 29 = .ok (.getfield 9, 3) := by decide +kernel
theorem dX9_goodShare_32 : decode cX9_goodShare 32 = .ok (.iconst 2, 1) := by decide +kernel
theorem dX9_goodShare_33 : decode cX9_goodShare 33 = .ok (.laload, 1) := by decide +kernel
theorem dX9_goodShare_34 : decode cX9_goodShare 34 = .ok (.l2d, 1) := by decide +kernel
theorem dX9_goodShare_35 : decode cX9_goodShare 35 = .ok (.ddiv, 1) := by decide +kernel
theorem dX9_goodShare_36 : decode cX9_goodShare 36 = .ok (.dreturn, 1) := by decide +kernel
theorem dX9_undo_0 : decode cX9_undo 0 = .ok (.aload_n 0, 1) := by decide +kernel
theorem dX9_undo_1 : decode cX9_undo 1 = .ok (.getfield 48, 3) := by decide +kernel
theorem dX9_undo_4 : decode cX9_undo 4 = .ok (.ifCond .ne 9, 3) := by decide +kernel
theorem dX9_undo_7 : decode cX9_undo 7 = .ok (.aload_n 0, 1) := by decide +kernel
theorem dX9_undo_8 : decode cX9_undo 8 = .ok (.iconst 1, 1) := by decide +kernel
theorem dX9_undo_9 : decode cX9_undo 9 = .ok (.invokevirtual 63, 3) := by decide +kernel
theorem dX9_undo_12 : decode cX9_undo 12 = .ok (.ireturn, 1) := by decide +kernel
theorem dX9_undo_13 : decode cX9_undo 13 = .ok (.aload_n 0, 1) := by decide +kernel
theorem dX9_undo_14 : decode cX9_undo 14 = .ok (.dup, 1) := by decide +kernel
theorem dX9_undo_15 : decode cX9_undo 15 = .ok (.getfield 48, 3) := by decide +kernel
theorem dX9_undo_18 : decode cX9_undo 18 = .ok (.iconst 1, 1) := by decide +kernel
theorem dX9_undo_19 : decode cX9_undo 19 = .ok (.isub, 1) := by decide +kernel
theorem dX9_undo_20 : decode cX9_undo 20 = .ok (.putfield 48, 3) := by decide +kernel
theorem dX9_undo_23 : decode cX9_undo 23 = .ok (.aload_n 0, 1) := by decide +kernel
theorem dX9_undo_24 : decode cX9_undo 24 = .ok (.getfield 13, 3) := by decide +kernel
theorem dX9_undo_27 : decode cX9_undo 27 = .ok (.aload_n 0, 1) := by decide +kernel
theorem dX9_undo_28 : decode cX9_undo 28 = .ok (.getfield 48, 3) := by decide +kernel
theorem dX9_undo_31 : decode cX9_undo 31 = .ok (.sipush 1100, 3) := by decide +kernel
theorem dX9_undo_34 : decode cX9_undo 34 = .ok (.imul, 1) := by decide +kernel
theorem dX9_undo_35 : decode cX9_undo 35 = .ok (.aload_n 0, 1) := by decide +kernel
theorem dX9_undo_36 : decode cX9_undo 36 = .ok (.getfield 9, 3) := by decide +kernel
theorem dX9_undo_39 : decode cX9_undo 39 = .ok (.iconst 0, 1) := by decide +kernel
theorem dX9_undo_40 : decode cX9_undo 40 = .ok (.invokestatic 51, 3) := by decide +kernel
theorem dX9_undo_43 : decode cX9_undo 43 = .ok (.aload_n 0, 1) := by decide +kernel
theorem dX9_undo_44 : decode cX9_undo 44 = .ok (.aload_n 0, 1) := by decide +kernel
theorem dX9_undo_45 : decode cX9_undo 45 = .ok (.getfield 48, 3) := by decide +kernel
theorem dX9_undo_48 : decode cX9_undo 48 = .ok (.i2l, 1) := by decide +kernel
theorem dX9_undo_49 : decode cX9_undo 49 = .ok (.invokevirtual 78, 3) := by decide +kernel
theorem dX9_undo_52 : decode cX9_undo 52 = .ok (.ireturn, 1) := by decide +kernel
theorem dX9_save_0 : decode cX9_save 0 = .ok (.aload_n 0, 1) := by decide +kernel
theorem dX9_save_1 : decode cX9_save 1 = .ok (.getfield 9, 3) := by decide +kernel
theorem dX9_save_4 : decode cX9_save 4 = .ok (.iconst 0, 1) := by decide +kernel
theorem dX9_save_5 : decode cX9_save 5 = .ok (.aload_n 0, 1) := by decide +kernel
theorem dX9_save_6 : decode cX9_save 6 = .ok (.getfield 16, 3) := by decide +kernel
theorem dX9_save_9 : decode cX9_save 9 = .ok (.iconst 0, 1) := by decide +kernel
theorem dX9_save_10 : decode cX9_save 10 = .ok (.invokestatic 51, 3) := by decide +kernel
theorem dX9_save_13 : decode cX9_save 13 = .ok (.aload_n 0, 1) := by decide +kernel
theorem dX9_save_14 : decode cX9_save 14 = .ok (.iconst 1, 1) := by decide +kernel
theorem dX9_save_15 : decode cX9_save 15 = .ok (.putfield 342, 3) := by decide +kernel
theorem dX9_save_18 : decode cX9_save 18 = .ok (.aload_n 0, 1) := by decide +kernel
theorem dX9_save_19 : decode cX9_save 19 = .ok (.iconst 0, 1) := by decide +kernel
theorem dX9_save_20 : decode cX9_save 20 = .ok (.putfield 37, 3) := by decide +kernel
theorem dX9_save_23 : decode cX9_save 23 = .ok (.return_, 1) := by decide +kernel
theorem dX9_restore_0 : decode cX9_restore 0 = .ok (.aload_n 0, 1) := by decide +kernel
theorem dX9_restore_1 : decode cX9_restore 1 = .ok (.getfield 342, 3) := by decide +kernel
theorem dX9_restore_4 : decode cX9_restore 4 = .ok (.ifCond .ne 9, 3) := by decide +kernel
theorem dX9_restore_7 : decode cX9_restore 7 = .ok (.aload_n 0, 1) := by decide +kernel
theorem dX9_restore_8 : decode cX9_restore 8 = .ok (.iconst 1, 1) := by decide +kernel
theorem dX9_restore_9 : decode cX9_restore 9 = .ok (.putfield 37, 3) := by decide +kernel
theorem dX9_restore_12 : decode cX9_restore 12 = .ok (.return_, 1) := by decide +kernel
theorem dX9_restore_13 : decode cX9_restore 13 = .ok (.aload_n 0, 1) := by decide +kernel
theorem dX9_restore_14 : decode cX9_restore 14 = .ok (.getfield 16, 3) := by decide +kernel
theorem dX9_restore_17 : decode cX9_restore 17 = .ok (.iconst 0, 1) := by decide +kernel
theorem dX9_restore_18 : decode cX9_restore 18 = .ok (.aload_n 0, 1) := by decide +kernel
theorem dX9_restore_19 : decode cX9_restore 19 = .ok (.getfield 9, 3) := by decide +kernel
theorem dX9_restore_22 : decode cX9_restore 22 = .ok (.iconst 0, 1) := by decide +kernel
theorem dX9_restore_23 : decode cX9_restore 23 = .ok (.invokestatic 51, 3) := by decide +kernel
theorem dX9_restore_26 : decode cX9_restore 26 = .ok (.aload_n 0, 1) := by decide +kernel
theorem dX9_restore_27 : decode cX9_restore 27 = .ok (.iconst 0, 1) := by decide +kernel
theorem dX9_restore_28 : decode cX9_restore 28 = .ok (.putfield 48, 3) := by decide +kernel
theorem dX9_restore_31 : decode cX9_restore 31 = .ok (.aload_n 0, 1) := by decide +kernel
theorem dX9_restore_32 : decode cX9_restore 32 = .ok (.iconst 0, 1) := by decide +kernel
theorem dX9_restore_33 : decode cX9_restore 33 = .ok (.putfield 37, 3) := by decide +kernel
theorem dX9_restore_36 : decode cX9_restore 36 = .ok (.return_, 1) := by decide +kernel
