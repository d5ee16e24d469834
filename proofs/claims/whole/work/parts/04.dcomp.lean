theorem dX0_init_0 : decode cX0_init 0 = .ok (.aload_n 0, 1) := by decide +kernel
theorem dX0_init_1 : decode cX0_init 1 = .ok (.invokespecial 3, 3) := by decide +kernel
theorem dX0_init_4 : decode cX0_init 4 = .ok (.aload_n 0, 1) := by decide +kernel
theorem dX0_init_5 : decode cX0_init 5 = .ok (.aload_n 1, 1) := by decide +kernel
theorem dX0_init_6 : decode cX0_init 6 = .ok (.putfield 9, 3) := by decide +kernel
theorem dX0_init_9 : decode cX0_init 9 = .ok (.aload_n 0, 1) := by decide +kernel
theorem dX0_init_10 : decode cX0_init 10 = .ok (.aload_n 2, 1) := by decide +kernel
theorem dX0_init_11 : decode cX0_init 11 = .ok (.putfield 15, 3) := by decide +kernel
theorem dX0_init_14 : decode cX0_init 14 = .ok (.return_, 1) := by decide +kernel
theorem dX0_faultOf_0 : decode cX0_faultOf 0 = .ok (.iload_n 1, 1) := by decide +kernel
theorem dX0_faultOf_1 : decode cX0_faultOf 1 = .ok (.tableswitch 99 0 5 #[39, 46, 55, 61, 70, 90], 39) := by decide +kernel
theorem dX0_faultOf_40 : decode cX0_faultOf 40 = .ok (.aload_n 0, 1) := by decide +kernel
theorem dX0_faultOf_41 : decode cX0_faultOf 41 = .ok (.iload_n 2, 1) := by decide +kernel
theorem dX0_faultOf_42 : decode cX0_faultOf 42 = .ok (.iload_n 3, 1) := by decide +kernel
theorem dX0_faultOf_43 : decode cX0_faultOf 43 = .ok (.invokevirtual 19, 3) := by decide +kernel
theorem dX0_faultOf_46 : decode cX0_faultOf 46 = .ok (.ireturn, 1) := by decide +kernel
theorem dX0_faultOf_47 : decode cX0_faultOf 47 = .ok (.aload_n 0, 1) := by decide +kernel
theorem dX0_faultOf_48 : decode cX0_faultOf 48 = .ok (.iload_n 2, 1) := by decide +kernel
theorem dX0_faultOf_49 : decode cX0_faultOf 49 = .ok (.iload_n 3, 1) := by decide +kernel
theorem dX0_faultOf_50 : decode cX0_faultOf 50 = .ok (.iload 4, 2) := by decide +kernel
theorem dX0_faultOf_52 : decode cX0_faultOf 52 = .ok (.invokevirtual 23, 3) := by decide +kernel
theorem dX0_faultOf_55 : decode cX0_faultOf 55 = .ok (.ireturn, 1) := by decide +kernel
theorem dX0_faultOf_56 : decode cX0_faultOf 56 = .ok (.aload_n 0, 1) := by decide +kernel
theorem dX0_faultOf_57 : decode cX0_faultOf 57 = .ok (.iload_n 2, 1) := by decide +kernel
theorem dX0_faultOf_58 : decode cX0_faultOf 58 = .ok (.invokevirtual 27, 3) := by decide +kernel
theorem dX0_faultOf_61 : decode cX0_faultOf 61 = .ok (.ireturn, 1) := by decide +kernel
theorem dX0_faultOf_62 : decode cX0_faultOf 62 = .ok (.aload_n 0, 1) := by decide +kernel
theorem dX0_faultOf_63 : decode cX0_faultOf 63 = .ok (.iload_n 2, 1) := by decide +kernel
theorem dX0_faultOf_64 : decode cX0_faultOf 64 = .ok (.iload_n 3, 1) := by decide +kernel
theorem dX0_faultOf_65 : decode cX0_faultOf 65 = .ok (.iload 4, 2) := by decide +kernel
theorem dX0_faultOf_67 : decode cX0_faultOf 67 = .ok (.invokevirtual 31, 3) := by decide +kernel
theorem dX0_faultOf_70 : decode cX0_faultOf 70 = .ok (.ireturn, 1) := by decide +kernel
theorem dX0_faultOf_71 : decode cX0_faultOf 71 = .ok (.aload_n 0, 1) := by decide +kernel
theorem dX0_faultOf_72 : decode cX0_faultOf 72 = .ok (.getfield 9, 3) := by decide +kernel
theorem dX0_faultOf_75 : decode cX0_faultOf 75 = .ok (.getfield 34, 3) := by decide +kernel
theorem dX0_faultOf_78 : decode cX0_faultOf 78 = .ok (.iload_n 2, 1) := by decide +kernel
theorem dX0_faultOf_79 : decode cX0_faultOf 79 = .ok (.invokevirtual 40, 3) := by decide +kernel
theorem dX0_faultOf_82 : decode cX0_faultOf 82 = .ok (.ifCond .eq 7, 3) := by decide +kernel
theorem dX0_faultOf_85 : decode cX0_faultOf 85 = .ok (.iconst 0, 1) := by decide +kernel
theorem dX0_faultOf_86 : decode cX0_faultOf 86 = .ok (.goto 4, 3) := by decide +kernel
theorem dX0_faultOf_89 : decode cX0_faultOf 89 = .ok (.iconst 1, 1) := by decide +kernel
theorem dX0_faultOf_90 : decode cX0_faultOf 90 = .ok (.ireturn, 1) := by decide +kernel
theorem dX0_faultOf_91 : decode cX0_faultOf 91 = .ok (.aload_n 0, 1) := by decide +kernel
theorem dX0_faultOf_92 : decode cX0_faultOf 92 = .ok (.iload_n 2, 1) := by decide +kernel
theorem dX0_faultOf_93 : decode cX0_faultOf 93 = .ok (.iload_n 3, 1) := by decide +kernel
theorem dX0_faultOf_94 : decode cX0_faultOf 94 = .ok (.iload 4, 2) := by decide +kernel
theorem dX0_faultOf_96 : decode cX0_faultOf 96 = .ok (.invokevirtual 46, 3) := by decide +kernel
theorem dX0_faultOf_99 : decode cX0_faultOf 99 = .ok (.ireturn, 1) := by decide +kernel
theorem dX0_faultOf_100 : decode cX0_faultOf 100 = .ok (.aload_n 0, 1) := by decide +kernel
theorem dX0_faultOf_101 : decode cX0_faultOf 101 = .ok (.getfield 9, 3) := by decide +kernel
theorem dX0_faultOf_104 : decode cX0_faultOf 104 = .ok (.getfield 49, 3) := by decide +kernel
theorem dX0_faultOf_107 : decode cX0_faultOf 107 = .ok (.iload_n 2, 1) := by decide +kernel
theorem dX0_faultOf_108 : decode cX0_faultOf 108 = .ok (.invokevirtual 40, 3) := by decide +kernel
theorem dX0_faultOf_111 : decode cX0_faultOf 111 = .ok (.ifCond .eq 7, 3) := by decide +kernel
theorem dX0_faultOf_114 : decode cX0_faultOf 114 = .ok (.iconst 0, 1) := by decide +kernel
theorem dX0_faultOf_115 : decode cX0_faultOf 115 = .ok (.goto 4, 3) := by decide +kernel
theorem dX0_faultOf_118 : decode cX0_faultOf 118 = .ok (.iconst 1, 1) := by decide +kernel
theorem dX0_faultOf_119 : decode cX0_faultOf 119 = .ok (.ireturn, 1) := by decide +kernel
theorem dX0_carryOut_0 : decode cX0_carryOut 0 = .ok (.iload_n 1, 1) := by decide +kernel
theorem dX0_carryOut_1 : decode cX0_carryOut 1 = .ok (.tableswitch 110 0 5 #[39, 49, 61, 77, 89, 98], 39) := by decide +kernel
theorem dX0_carryOut_40 : decode cX0_carryOut 40 = .ok (.aload_n 0, 1) := by decide +kernel
theorem dX0_carryOut_41 : decode cX0_carryOut 41 = .ok (.iload_n 2, 1) := by decide +kernel
theorem dX0_carryOut_42 : decode cX0_carryOut 42 = .ok (.iload_n 3, 1) := by decide +kernel
theorem dX0_carryOut_43 : decode cX0_carryOut 43 = .ok (.invokevirtual 52, 3) := by decide +kernel
theorem dX0_carryOut_46 : decode cX0_carryOut 46 = .ok (.pop, 1) := by decide +kernel
theorem dX0_carryOut_47 : decode cX0_carryOut 47 = .ok (.goto 70, 3) := by decide +kernel
theorem dX0_carryOut_50 : decode cX0_carryOut 50 = .ok (.aload_n 0, 1) := by decide +kernel
theorem dX0_carryOut_51 : decode cX0_carryOut 51 = .ok (.iload_n 2, 1) := by decide +kernel
theorem dX0_carryOut_52 : decode cX0_carryOut 52 = .ok (.iload_n 3, 1) := by decide +kernel
theorem dX0_carryOut_53 : decode cX0_carryOut 53 = .ok (.iload 4, 2) := by decide +kernel
theorem dX0_carryOut_55 : decode cX0_carryOut 55 = .ok (.invokevirtual 55, 3) := by decide +kernel
theorem dX0_carryOut_58 : decode cX0_carryOut 58 = .ok (.pop, 1) := by decide +kernel
theorem dX0_carryOut_59 : decode cX0_carryOut 59 = .ok (.goto 58, 3) := by decide +kernel
theorem dX0_carryOut_62 : decode cX0_carryOut 62 = .ok (.aload_n 0, 1) := by decide +kernel
theorem dX0_carryOut_63 : decode cX0_carryOut 63 = .ok (.getfield 9, 3) := by decide +kernel
theorem dX0_carryOut_66 : decode cX0_carryOut 66 = .ok (.dup, 1) := by decide +kernel
theorem dX0_carryOut_67 : decode cX0_carryOut 67 = .ok (.getfield 58, 3) := by decide +kernel
theorem dX0_carryOut_70 : decode cX0_carryOut 70 = .ok (.iload_n 2, 1) := by decide +kernel
theorem dX0_carryOut_71 : decode cX0_carryOut 71 = .ok (.iadd, 1) := by decide +kernel
theorem dX0_carryOut_72 : decode cX0_carryOut 72 = .ok (.putfield 58, 3) := by decide +kernel
theorem dX0_carryOut_75 : decode cX0_carryOut 75 = .ok (.goto 42, 3) := by decide +kernel
theorem dX0_carryOut_78 : decode cX0_carryOut 78 = .ok (.aload_n 0, 1) := by decide +kernel
theorem dX0_carryOut_79 : decode cX0_carryOut 79 = .ok (.iload_n 2, 1) := by decide +kernel
theorem dX0_carryOut_80 : decode cX0_carryOut 80 = .ok (.iload_n 3, 1) := by decide +kernel
theorem dX0_carryOut_81 : decode cX0_carryOut 81 = .ok (.iload 4, 2) := by decide +kernel
theorem dX0_carryOut_83 : decode cX0_carryOut 83 = .ok (.invokevirtual 62, 3) := by decide +kernel
theorem dX0_carryOut_86 : decode cX0_carryOut 86 = .ok (.pop, 1) := by decide +kernel
theorem dX0_carryOut_87 : decode cX0_carryOut 87 = .ok (.goto 30, 3) := by decide +kernel
theorem dX0_carryOut_90 : decode cX0_carryOut 90 = .ok (.aload_n 0, 1) := by decide +kernel
theorem dX0_carryOut_91 : decode cX0_carryOut 91 = .ok (.iload_n 2, 1) := by decide +kernel
theorem dX0_carryOut_92 : decode cX0_carryOut 92 = .ok (.invokevirtual 65, 3) := by decide +kernel
theorem dX0_carryOut_95 : decode cX0_carryOut 95 = .ok (.pop, 1) := by decide +kernel
theorem dX0_carryOut_96 : decode cX0_carryOut 96 = .ok (.goto 21, 3) := by decide +kernel
theorem dX0_carryOut_99 : decode cX0_carryOut 99 = .ok (.aload_n 0, 1) := by decide +kernel
theorem dX0_carryOut_100 : decode cX0_carryOut 100 = .ok (.iload_n 2, 1) := by decide +kernel
theorem dX0_carryOut_101 : decode cX0_carryOut 101 = .ok (.iload_n 3, 1) := by decide +kernel
theorem dX0_carryOut_102 : decode cX0_carryOut 102 = .ok (.iload 4, 2) := by decide +kernel
theorem dX0_carryOut_104 : decode cX0_carryOut 104 = .ok (.invokevirtual 68, 3) := by decide +kernel
theorem dX0_carryOut_107 : decode cX0_carryOut 107 = .ok (.pop, 1) := by decide +kernel
theorem dX0_carryOut_108 : decode cX0_carryOut 108 = .ok (.goto 9, 3) := by decide +kernel
theorem dX0_carryOut_111 : decode cX0_carryOut 111 = .ok (.aload_n 0, 1) := by decide +kernel
theorem dX0_carryOut_112 : decode cX0_carryOut 112 = .ok (.iload_n 2, 1) := by decide +kernel
theorem dX0_carryOut_113 : decode cX0_carryOut 113 = .ok (.invokevirtual 71, 3) := by decide +kernel
theorem dX0_carryOut_116 : decode cX0_carryOut 116 = .ok (.pop, 1) := by decide +kernel
theorem dX0_carryOut_117 : decode cX0_carryOut 117 = .ok (.return_, 1) := by decide +kernel
theorem dX0_faultOfItem_0 : decode cX0_faultOfItem 0 = .ok (.iload_n 1, 1) := by decide +kernel
theorem dX0_faultOfItem_1 : decode cX0_faultOfItem 1 = .ok (.iconst 0, 1) := by decide +kernel
theorem dX0_faultOfItem_2 : decode cX0_faultOfItem 2 = .ok (.iconst 2, 1) := by decide +kernel
theorem dX0_faultOfItem_3 : decode cX0_faultOfItem 3 = .ok (.invokestatic 74, 3) := by decide +kernel
theorem dX0_faultOfItem_6 : decode cX0_faultOfItem 6 = .ok (.ifCond .eq 12, 3) := by decide +kernel
theorem dX0_faultOfItem_9 : decode cX0_faultOfItem 9 = .ok (.iload_n 2, 1) := by decide +kernel
theorem dX0_faultOfItem_10 : decode cX0_faultOfItem 10 = .ok (.iconst 0, 1) := by decide +kernel
theorem dX0_faultOfItem_11 : decode cX0_faultOfItem 11 = .ok (.iconst 3, 1) := by decide +kernel
theorem dX0_faultOfItem_12 : decode cX0_faultOfItem 12 = .ok (.invokestatic 74, 3) := by decide +kernel
theorem dX0_faultOfItem_15 : decode cX0_faultOfItem 15 = .ok (.ifCond .ne 5, 3) := by decide +kernel
theorem dX0_faultOfItem_18 : decode cX0_faultOfItem 18 = .ok (.iconst 1, 1) := by decide +kernel
theorem dX0_faultOfItem_19 : decode cX0_faultOfItem 19 = .ok (.ireturn, 1) := by decide +kernel
theorem dX0_faultOfItem_20 : decode cX0_faultOfItem 20 = .ok (.iconst 0, 1) := by decide +kernel
theorem dX0_faultOfItem_21 : decode cX0_faultOfItem 21 = .ok (.iload_n 3, 1) := by decide +kernel
theorem dX0_faultOfItem_22 : decode cX0_faultOfItem 22 = .ok (.invokestatic 78, 3) := by decide +kernel
theorem dX0_faultOfItem_25 : decode cX0_faultOfItem 25 = .ok (.ifCond .eq 12, 3) := by decide +kernel
theorem dX0_faultOfItem_28 : decode cX0_faultOfItem 28 = .ok (.iconst 1, 1) := by decide +kernel
theorem dX0_faultOfItem_29 : decode cX0_faultOfItem 29 = .ok (.iload 4, 2) := by decide +kernel
theorem dX0_faultOfItem_31 : decode cX0_faultOfItem 31 = .ok (.invokestatic 78, 3) := by decide +kernel
theorem dX0_faultOfItem_34 : decode cX0_faultOfItem 34 = .ok (.ifCond .ne 5, 3) := by decide +kernel
theorem dX0_faultOfItem_37 : decode cX0_faultOfItem 37 = .ok (.iconst 2, 1) := by decide +kernel
theorem dX0_faultOfItem_38 : decode cX0_faultOfItem 38 = .ok (.ireturn, 1) := by decide +kernel
theorem dX0_faultOfItem_39 : decode cX0_faultOfItem 39 = .ok (.aload_n 0, 1) := by decide +kernel
theorem dX0_faultOfItem_40 : decode cX0_faultOfItem 40 = .ok (.getfield 9, 3) := by decide +kernel
theorem dX0_faultOfItem_43 : decode cX0_faultOfItem 43 = .ok (.getfield 49, 3) := by decide +kernel
theorem dX0_faultOfItem_46 : decode cX0_faultOfItem 46 = .ok (.invokevirtual 82, 3) := by decide +kernel
theorem dX0_faultOfItem_49 : decode cX0_faultOfItem 49 = .ok (.ifCond .eq 7, 3) := by decide +kernel
theorem dX0_faultOfItem_52 : decode cX0_faultOfItem 52 = .ok (.iconst 3, 1) := by decide +kernel
theorem dX0_faultOfItem_53 : decode cX0_faultOfItem 53 = .ok (.goto 4, 3) := by decide +kernel
theorem dX0_faultOfItem_56 : decode cX0_faultOfItem 56 = .ok (.iconst 0, 1) := by decide +kernel
theorem dX0_faultOfItem_57 : decode cX0_faultOfItem 57 = .ok (.ireturn, 1) := by decide +kernel
theorem dX0_makeItem_0 : decode cX0_makeItem 0 = .ok (.aload_n 0, 1) := by decide +kernel
theorem dX0_makeItem_1 : decode cX0_makeItem 1 = .ok (.getfield 9, 3) := by decide +kernel
theorem dX0_makeItem_4 : decode cX0_makeItem 4 = .ok (.getfield 49, 3) := by decide +kernel
theorem dX0_makeItem_7 : decode cX0_makeItem 7 = .ok (.invokevirtual 86, 3) := by decide +kernel
theorem dX0_makeItem_10 : decode cX0_makeItem 10 = .ok (.istore 5, 2) := by decide +kernel
theorem dX0_makeItem_12 : decode cX0_makeItem 12 = .ok (.aload_n 0, 1) := by decide +kernel
theorem dX0_makeItem_13 : decode cX0_makeItem 13 = .ok (.getfield 9, 3) := by decide +kernel
theorem dX0_makeItem_16 : decode cX0_makeItem 16 = .ok (.getfield 49, 3) := by decide +kernel
theorem dX0_makeItem_19 : decode cX0_makeItem 19 = .ok (.iload 5, 2) := by decide +kernel
theorem dX0_makeItem_21 : decode cX0_makeItem 21 = .ok (.iconst 0, 1) := by decide +kernel
theorem dX0_makeItem_22 : decode cX0_makeItem 22 = .ok (.iload_n 1, 1) := by decide +kernel
theorem dX0_makeItem_23 : decode cX0_makeItem 23 = .ok (.invokevirtual 90, 3) := by decide +kernel
theorem dX0_makeItem_26 : decode cX0_makeItem 26 = .ok (.aload_n 0, 1) := by decide +kernel
theorem dX0_makeItem_27 : decode cX0_makeItem 27 = .ok (.getfield 9, 3) := by decide +kernel
theorem dX0_makeItem_30 : decode cX0_makeItem 30 = .ok (.getfield 49, 3) := by decide +kernel
theorem dX0_makeItem_33 : decode cX0_makeItem 33 = .ok (.iload 5, 2) := by decide +kernel
theorem dX0_makeItem_35 : decode cX0_makeItem 35 = .ok (.iconst 1, 1) := by decide +kernel
theorem dX0_makeItem_36 : decode cX0_makeItem 36 = .ok (.iload_n 2, 1) := by decide +kernel
theorem dX0_makeItem_37 : decode cX0_makeItem 37 = .ok (.invokevirtual 90, 3) := by decide +kernel
theorem dX0_makeItem_40 : decode cX0_makeItem 40 = .ok (.aload_n 0, 1) := by decide +kernel
theorem dX0_makeItem_41 : decode cX0_makeItem 41 = .ok (.getfield 9, 3) := by decide +kernel
theorem dX0_makeItem_44 : decode cX0_makeItem 44 = .ok (.getfield 49, 3) := by decide +kernel
theorem dX0_makeItem_47 : decode cX0_makeItem 47 = .ok (.iload 5, 2) := by decide +kernel
theorem dX0_makeItem_49 : decode cX0_makeItem 49 = .ok (.iconst 2, 1) := by decide +kernel
theorem dX0_makeItem_50 : decode cX0_makeItem 50 = .ok (.iload_n 3, 1) := by decide +kernel
theorem dX0_makeItem_51 : decode cX0_makeItem 51 = .ok (.invokevirtual 90, 3) := by decide +kernel
theorem dX0_makeItem_54 : decode cX0_makeItem 54 = .ok (.aload_n 0, 1) := by decide +kernel
theorem dX0_makeItem_55 : decode cX0_makeItem 55 = .ok (.getfield 9, 3) := by decide +kernel
theorem dX0_makeItem_58 : decode cX0_makeItem 58 = .ok (.getfield 49, 3) := by decide +kernel
theorem dX0_makeItem_61 : decode cX0_makeItem 61 = .ok (.iload 5, 2) := by decide +kernel
theorem dX0_makeItem_63 : decode cX0_makeItem 63 = .ok (.iconst 3, 1) := by decide +kernel
theorem dX0_makeItem_64 : decode cX0_makeItem 64 = .ok (.iload 4, 2) := by decide +kernel
theorem dX0_makeItem_66 : decode cX0_makeItem 66 = .ok (.invokevirtual 90, 3) := by decide +kernel
theorem dX0_makeItem_69 : decode cX0_makeItem 69 = .ok (.aload_n 0, 1) := by decide +kernel
theorem dX0_makeItem_70 : decode cX0_makeItem 70 = .ok (.getfield 9, 3) := by decide +kernel
theorem dX0_makeItem_73 : decode cX0_makeItem 73 = .ok (.getfield 49, 3) := by decide +kernel
theorem dX0_makeItem_76 : decode cX0_makeItem 76 = .ok (.iload 5, 2) := by decide +kernel
theorem dX0_makeItem_78 : decode cX0_makeItem 78 = .ok (.iconst 5, 1) := by decide +kernel
theorem dX0_makeItem_79 : decode cX0_makeItem 79 = .ok (.iload_n 1, 1) := by decide +kernel
theorem dX0_makeItem_80 : decode cX0_makeItem 80 = .ok (.ifCond .ne 7, 3) := by decide +kernel
theorem dX0_makeItem_83 : decode cX0_makeItem 83 = .ok (.iconst 1, 1) := by decide +kernel
theorem dX0_makeItem_84 : decode cX0_makeItem 84 = .ok (.goto 5, 3) := by decide +kernel
theorem dX0_makeItem_87 : decode cX0_makeItem 87 = .ok (.bipush 100, 2) := by decide +kernel
theorem dX0_makeItem_89 : decode cX0_makeItem 89 = .ok (.invokevirtual 90, 3) := by decide +kernel
theorem dX0_makeItem_92 : decode cX0_makeItem 92 = .ok (.iload 5, 2) := by decide +kernel
theorem dX0_makeItem_94 : decode cX0_makeItem 94 = .ok (.ireturn, 1) := by decide +kernel
theorem dX0_faultOfPass_0 : decode cX0_faultOfPass 0 = .ok (.iload_n 1, 1) := by decide +kernel
theorem dX0_faultOfPass_1 : decode cX0_faultOfPass 1 = .ok (.iconst 1, 1) := by decide +kernel
theorem dX0_faultOfPass_2 : decode cX0_faultOfPass 2 = .ok (.sipush 999, 3) := by decide +kernel
theorem dX0_faultOfPass_5 : decode cX0_faultOfPass 5 = .ok (.invokestatic 74, 3) := by decide +kernel
theorem dX0_faultOfPass_8 : decode cX0_faultOfPass 8 = .ok (.ifCond .ne 5, 3) := by decide +kernel
theorem dX0_faultOfPass_11 : decode cX0_faultOfPass 11 = .ok (.iconst 2, 1) := by decide +kernel
theorem dX0_faultOfPass_12 : decode cX0_faultOfPass 12 = .ok (.ireturn, 1) := by decide +kernel
theorem dX0_faultOfPass_13 : decode cX0_faultOfPass 13 = .ok (.aload_n 0, 1) := by decide +kernel
theorem dX0_faultOfPass_14 : decode cX0_faultOfPass 14 = .ok (.getfield 9, 3) := by decide +kernel
theorem dX0_faultOfPass_17 : decode cX0_faultOfPass 17 = .ok (.getfield 58, 3) := by decide +kernel
theorem dX0_faultOfPass_20 : decode cX0_faultOfPass 20 = .ok (.iload_n 1, 1) := by decide +kernel
theorem dX0_faultOfPass_21 : decode cX0_faultOfPass 21 = .ok (.iadd, 1) := by decide +kernel
theorem dX0_faultOfPass_22 : decode cX0_faultOfPass 22 = .ok (.sipush 9999, 3) := by decide +kernel
theorem dX0_faultOfPass_25 : decode cX0_faultOfPass 25 = .ok (.if_icmp .le 7, 3) := by decide +kernel
theorem dX0_faultOfPass_28 : decode cX0_faultOfPass 28 = .ok (.iconst 3, 1) := by decide +kernel
theorem dX0_faultOfPass_29 : decode cX0_faultOfPass 29 = .ok (.goto 4, 3) := by decide +kernel
theorem dX0_faultOfPass_32 : decode cX0_faultOfPass 32 = .ok (.iconst 0, 1) := by decide +kernel
theorem dX0_faultOfPass_33 : decode cX0_faultOfPass 33 = .ok (.ireturn, 1) := by decide +kernel
theorem dX0_faultOfPart_0 : decode cX0_faultOfPart 0 = .ok (.iload_n 1, 1) := by decide +kernel
theorem dX0_faultOfPart_1 : decode cX0_faultOfPart 1 = .ok (.iconst 0, 1) := by decide +kernel
theorem dX0_faultOfPart_2 : decode cX0_faultOfPart 2 = .ok (.iconst 3, 1) := by decide +kernel
theorem dX0_faultOfPart_3 : decode cX0_faultOfPart 3 = .ok (.invokestatic 74, 3) := by decide +kernel
theorem dX0_faultOfPart_6 : decode cX0_faultOfPart 6 = .ok (.ifCond .ne 5, 3) := by decide +kernel
theorem dX0_faultOfPart_9 : decode cX0_faultOfPart 9 = .ok (.iconst 1, 1) := by decide +kernel
theorem dX0_faultOfPart_10 : decode cX0_faultOfPart 10 = .ok (.ireturn, 1) := by decide +kernel
theorem dX0_faultOfPart_11 : decode cX0_faultOfPart 11 = .ok (.iload_n 2, 1) := by decide +kernel
theorem dX0_faultOfPart_12 : decode cX0_faultOfPart 12 = .ok (.iconst 0, 1) := by decide +kernel
theorem dX0_faultOfPart_13 : decode cX0_faultOfPart 13 = .ok (.sipush 999, 3) := by decide +kernel
theorem dX0_faultOfPart_16 : decode cX0_faultOfPart 16 = .ok (.invokestatic 74, 3) := by decide +kernel
theorem dX0_faultOfPart_19 : decode cX0_faultOfPart 19 = .ok (.ifCond .ne 5, 3) := by decide +kernel
theorem dX0_faultOfPart_22 : decode cX0_faultOfPart 22 = .ok (.iconst 2, 1) := by decide +kernel
theorem dX0_faultOfPart_23 : decode cX0_faultOfPart 23 = .ok (.ireturn, 1) := by decide +kernel
theorem dX0_faultOfPart_24 : decode cX0_faultOfPart 24 = .ok (.aload_n 0, 1) := by decide +kernel
theorem dX0_faultOfPart_25 : decode cX0_faultOfPart 25 = .ok (.getfield 9, 3) := by decide +kernel
theorem dX0_faultOfPart_28 : decode cX0_faultOfPart 28 = .ok (.getfield 94, 3) := by decide +kernel
theorem dX0_faultOfPart_31 : decode cX0_faultOfPart 31 = .ok (.invokevirtual 82, 3) := by decide +kernel
theorem dX0_faultOfPart_34 : decode cX0_faultOfPart 34 = .ok (.ifCond .eq 7, 3) := by decide +kernel
theorem dX0_faultOfPart_37 : decode cX0_faultOfPart 37 = .ok (.iconst 3, 1) := by decide +kernel
theorem dX0_faultOfPart_38 : decode cX0_faultOfPart 38 = .ok (.goto 4, 3) := by decide +kernel
theorem dX0_faultOfPart_41 : decode cX0_faultOfPart 41 = .ok (.iconst 0, 1) := by decide +kernel
theorem dX0_faultOfPart_42 : decode cX0_faultOfPart 42 = .ok (.ireturn, 1) := by decide +kernel
theorem dX0_makePart_0 : decode cX0_makePart 0 = .ok (.iload_n 2, 1) := by decide +kernel
theorem dX0_makePart_1 : decode cX0_makePart 1 = .ok (.iload_n 2, 1) := by decide +kernel
theorem dX0_makePart_2 : decode cX0_makePart 2 = .ok (.imul, 1) := by decide +kernel
theorem dX0_makePart_3 : decode cX0_makePart 3 = .ok (.iload_n 1, 1) := by decide +kernel
theorem dX0_makePart_4 : decode cX0_makePart 4 = .ok (.invokestatic 97, 3) := by decide +kernel
theorem dX0_makePart_7 : decode cX0_makePart 7 = .ok (.invokestatic 100, 3) := by decide +kernel
theorem dX0_makePart_10 : decode cX0_makePart 10 = .ok (.istore_n 3, 1) := by decide +kernel
theorem dX0_makePart_11 : decode cX0_makePart 11 = .ok (.aload_n 0, 1) := by decide +kernel
theorem dX0_makePart_12 : decode cX0_makePart 12 = .ok (.getfield 9, 3) := by decide +kernel
theorem dX0_makePart_15 : decode cX0_makePart 15 = .ok (.getfield 94, 3) := by decide +kernel
theorem dX0_makePart_18 : decode cX0_makePart 18 = .ok (.aload_n 0, 1) := by decide +kernel
theorem dX0_makePart_19 : decode cX0_makePart 19 = .ok (.getfield 9, 3) := by decide +kernel
theorem dX0_makePart_22 : decode cX0_makePart 22 = .ok (.getfield 94, 3) := by decide +kernel
theorem dX0_makePart_25 : decode cX0_makePart 25 = .ok (.invokevirtual 86, 3) := by decide +kernel
theorem dX0_makePart_28 : decode cX0_makePart 28 = .ok (.iconst 0, 1) := by decide +kernel
theorem dX0_makePart_29 : decode cX0_makePart 29 = .ok (.iload_n 3, 1) := by decide +kernel
theorem dX0_makePart_30 : decode cX0_makePart 30 = .ok (.invokevirtual 90, 3) := by decide +kernel
theorem dX0_makePart_33 : decode cX0_makePart 33 = .ok (.iload_n 3, 1) := by decide +kernel
theorem dX0_makePart_34 : decode cX0_makePart 34 = .ok (.ireturn, 1) := by decide +kernel
theorem dX0_faultOfCalibration_0 : decode cX0_faultOfCalibration 0 = .ok (.aload_n 0, 1) := by decide +kernel
theorem dX0_faultOfCalibration_1 : decode cX0_faultOfCalibration 1 = .ok (.getfield 9, 3) := by decide +kernel
theorem dX0_faultOfCalibration_4 : decode cX0_faultOfCalibration 4 = .ok (.getfield 49, 3) := by decide +kernel
theorem dX0_faultOfCalibration_7 : decode cX0_faultOfCalibration 7 = .ok (.iload_n 1, 1) := by decide +kernel
theorem dX0_faultOfCalibration_8 : decode cX0_faultOfCalibration 8 = .ok (.invokevirtual 40, 3) := by decide +kernel
theorem dX0_faultOfCalibration_11 : decode cX0_faultOfCalibration 11 = .ok (.ifCond .eq 17, 3) := by decide +kernel
theorem dX0_faultOfCalibration_14 : decode cX0_faultOfCalibration 14 = .ok (.aload_n 0, 1) := by decide +kernel
theorem dX0_faultOfCalibration_15 : decode cX0_faultOfCalibration 15 = .ok (.getfield 9, 3) := by decide +kernel
theorem dX0_faultOfCalibration_18 : decode cX0_faultOfCalibration 18 = .ok (.getfield 49, 3) := by decide +kernel
theorem dX0_faultOfCalibration_21 : decode cX0_faultOfCalibration 21 = .ok (.iload_n 2, 1) := by decide +kernel
theorem dX0_faultOfCalibration_22 : decode cX0_faultOfCalibration 22 = .ok (.invokevirtual 40, 3) := by decide +kernel
theorem dX0_faultOfCalibration_25 : decode cX0_faultOfCalibration 25 = .ok (.ifCond .ne 5, 3) := by decide +kernel
theorem dX0_faultOfCalibration_28 : decode cX0_faultOfCalibration 28 = .ok (.iconst 1, 1) := by decide +kernel
theorem dX0_faultOfCalibration_29 : decode cX0_faultOfCalibration 29 = .ok (.ireturn, 1) := by decide +kernel
theorem dX0_faultOfCalibration_30 : decode cX0_faultOfCalibration 30 = .ok (.iload_n 3, 1) := by decide +kernel
theorem dX0_faultOfCalibration_31 : decode cX0_faultOfCalibration 31 = .ok (.sipush (-999), 3) := by decide +kernel
theorem dX0_faultOfCalibration_34 : decode cX0_faultOfCalibration 34 = .ok (.sipush 999, 3) := by decide +kernel
theorem dX0_faultOfCalibration_37 : decode cX0_faultOfCalibration 37 = .ok (.invokestatic 74, 3) := by decide +kernel
theorem dX0_faultOfCalibration_40 : decode cX0_faultOfCalibration 40 = .ok (.ifCond .eq 7, 3) := by decide +kernel
theorem dX0_faultOfCalibration_43 : decode cX0_faultOfCalibration 43 = .ok (.iconst 0, 1) := by decide +kernel
theorem dX0_faultOfCalibration_44 : decode cX0_faultOfCalibration 44 = .ok (.goto 4, 3) := by decide +kernel
theorem dX0_faultOfCalibration_47 : decode cX0_faultOfCalibration 47 = .ok (.iconst 2, 1) := by decide +kernel
theorem dX0_faultOfCalibration_48 : decode cX0_faultOfCalibration 48 = .ok (.ireturn, 1) := by decide +kernel
theorem dX0_makeCalibration_0 : decode cX0_makeCalibration 0 = .ok (.aload_n 0, 1) := by decide +kernel
theorem dX0_makeCalibration_1 : decode cX0_makeCalibration 1 = .ok (.getfield 9, 3) := by decide +kernel
theorem dX0_makeCalibration_4 : decode cX0_makeCalibration 4 = .ok (.getfield 103, 3) := by decide +kernel
theorem dX0_makeCalibration_7 : decode cX0_makeCalibration 7 = .ok (.astore 4, 2) := by decide +kernel
theorem dX0_makeCalibration_9 : decode cX0_makeCalibration 9 = .ok (.aload_n 0, 1) := by decide +kernel
theorem dX0_makeCalibration_10 : decode cX0_makeCalibration 10 = .ok (.getfield 9, 3) := by decide +kernel
theorem dX0_makeCalibration_13 : decode cX0_makeCalibration 13 = .ok (.getfield 49, 3) := by decide +kernel
theorem dX0_makeCalibration_16 : decode cX0_makeCalibration 16 = .ok (.iload_n 2, 1) := by decide +kernel
theorem dX0_makeCalibration_17 : decode cX0_makeCalibration 17 = .ok (.iconst 0, 1) := by decide +kernel
theorem dX0_makeCalibration_18 : decode cX0_makeCalibration 18 = .ok (.invokevirtual 106, 3) := by decide +kernel
theorem dX0_makeCalibration_21 : decode cX0_makeCalibration 21 = .ok (.ifCond .ne 7, 3) := by decide +kernel
theorem dX0_makeCalibration_24 : decode cX0_makeCalibration 24 = .ok (.iconst 1, 1) := by decide +kernel
theorem dX0_makeCalibration_25 : decode cX0_makeCalibration 25 = .ok (.goto 4, 3) := by decide +kernel
theorem dX0_makeCalibration_28 : decode cX0_makeCalibration 28 = .ok (.iconst 0, 1) := by decide +kernel
theorem dX0_makeCalibration_29 : decode cX0_makeCalibration 29 = .ok (.istore 5, 2) := by decide +kernel
theorem dX0_makeCalibration_31 : decode cX0_makeCalibration 31 = .ok (.iload 5, 2) := by decide +kernel
theorem dX0_makeCalibration_33 : decode cX0_makeCalibration 33 = .ok (.ifCond .eq 7, 3) := by decide +kernel
theorem dX0_makeCalibration_36 : decode cX0_makeCalibration 36 = .ok (.iconst (-1), 1) := by decide +kernel
theorem dX0_makeCalibration_37 : decode cX0_makeCalibration 37 = .ok (.goto 11, 3) := by decide +kernel
theorem dX0_makeCalibration_40 : decode cX0_makeCalibration 40 = .ok (.aload_n 0, 1) := by decide +kernel
theorem dX0_makeCalibration_41 : decode cX0_makeCalibration 41 = .ok (.getfield 15, 3) := by decide +kernel
theorem dX0_makeCalibration_44 : decode cX0_makeCalibration 44 = .ok (.iload_n 2, 1) := by decide +kernel
theorem dX0_makeCalibration_45 : decode cX0_makeCalibration 45 = .ok (.invokevirtual 109, 3) := by decide +kernel
theorem dX0_makeCalibration_48 : decode cX0_makeCalibration 48 = .ok (.istore 6, 2) := by decide +kernel
theorem dX0_makeCalibration_50 : decode cX0_makeCalibration 50 = .ok (.iload 5, 2) := by decide +kernel
theorem dX0_makeCalibration_52 : decode cX0_makeCalibration 52 = .ok (.ifCond .eq 18, 3) := by decide +kernel
theorem dX0_makeCalibration_55 : decode cX0_makeCalibration 55 = .ok (.aload_n 0, 1) := by decide +kernel
theorem dX0_makeCalibration_56 : decode cX0_makeCalibration 56 = .ok (.getfield 9, 3) := by decide +kernel
theorem dX0_makeCalibration_59 : decode cX0_makeCalibration 59 = .ok (.getfield 49, 3) := by decide +kernel
theorem dX0_makeCalibration_62 : decode cX0_makeCalibration 62 = .ok (.iload_n 2, 1) := by decide +kernel
theorem dX0_makeCalibration_63 : decode cX0_makeCalibration 63 = .ok (.iconst 5, 1) := by decide +kernel
theorem dX0_makeCalibration_64 : decode cX0_makeCalibration 64 = .ok (.invokevirtual 106, 3) := by decide +kernel
theorem dX0_makeCalibration_67 : decode cX0_makeCalibration 67 = .ok (.goto 4, 3) := by decide +kernel
theorem dX0_makeCalibration_70 : decode cX0_makeCalibration 70 = .ok (.iconst 0, 1) := by decide +kernel
theorem dX0_makeCalibration_71 : decode cX0_makeCalibration 71 = .ok (.istore 7, 2) := by decide +kernel
theorem dX0_makeCalibration_73 : decode cX0_makeCalibration 73 = .ok (.aload_n 0, 1) := by decide +kernel
theorem dX0_makeCalibration_74 : decode cX0_makeCalibration 74 = .ok (.getfield 9, 3) := by decide +kernel
theorem dX0_makeCalibration_77 : decode cX0_makeCalibration 77 = .ok (.getfield 94, 3) := by decide +kernel
theorem dX0_makeCalibration_80 : decode cX0_makeCalibration 80 = .ok (.iconst 0, 1) := by decide +kernel
theorem dX0_makeCalibration_81 : decode cX0_makeCalibration 81 = .ok (.invokevirtual 114, 3) := by decide +kernel
theorem dX0_makeCalibration_84 : decode cX0_makeCalibration 84 = .ok (.istore 8, 2) := by decide +kernel
theorem dX0_makeCalibration_86 : decode cX0_makeCalibration 86 = .ok (.iload 5, 2) := by decide +kernel
theorem dX0_makeCalibration_88 : decode cX0_makeCalibration 88 = .ok (.ifCond .eq 7, 3) := by decide +kernel
theorem dX0_makeCalibration_91 : decode cX0_makeCalibration 91 = .ok (.iconst 0, 1) := by decide +kernel
theorem dX0_makeCalibration_92 : decode cX0_makeCalibration 92 = .ok (.goto 10, 3) := by decide +kernel
theorem dX0_makeCalibration_95 : decode cX0_makeCalibration 95 = .ok (.aload_n 0, 1) := by decide +kernel
theorem dX0_makeCalibration_96 : decode cX0_makeCalibration 96 = .ok (.iload 6, 2) := by decide +kernel
theorem dX0_makeCalibration_98 : decode cX0_makeCalibration 98 = .ok (.iload_n 2, 1) := by decide +kernel
theorem dX0_makeCalibration_99 : decode cX0_makeCalibration 99 = .ok (.invokevirtual 117, 3) := by decide +kernel
theorem dX0_makeCalibration_102 : decode cX0_makeCalibration 102 = .ok (.istore 9, 2) := by decide +kernel
theorem dX0_makeCalibration_104 : decode cX0_makeCalibration 104 = .ok (.iload 8, 2) := by decide +kernel
theorem dX0_makeCalibration_106 : decode cX0_makeCalibration 106 = .ok (.aload_n 0, 1) := by decide +kernel
theorem dX0_makeCalibration_107 : decode cX0_makeCalibration 107 = .ok (.iload_n 2, 1) := by decide +kernel
theorem dX0_makeCalibration_108 : decode cX0_makeCalibration 108 = .ok (.invokevirtual 120, 3) := by decide +kernel
theorem dX0_makeCalibration_111 : decode cX0_makeCalibration 111 = .ok (.iadd, 1) := by decide +kernel
theorem dX0_makeCalibration_112 : decode cX0_makeCalibration 112 = .ok (.istore 10, 2) := by decide +kernel
theorem dX0_makeCalibration_114 : decode cX0_makeCalibration 114 = .ok (.iload 10, 2) := by decide +kernel
theorem dX0_makeCalibration_116 : decode cX0_makeCalibration 116 = .ok (.invokestatic 123, 3) := by decide +kernel
theorem dX0_makeCalibration_119 : decode cX0_makeCalibration 119 = .ok (.istore 11, 2) := by decide +kernel
theorem dX0_makeCalibration_121 : decode cX0_makeCalibration 121 = .ok (.bipush 20, 2) := by decide +kernel
theorem dX0_makeCalibration_123 : decode cX0_makeCalibration 123 = .ok (.iconst 3, 1) := by decide +kernel
theorem dX0_makeCalibration_124 : decode cX0_makeCalibration 124 = .ok (.aload_n 0, 1) := by decide +kernel
theorem dX0_makeCalibration_125 : decode cX0_makeCalibration 125 = .ok (.getfield 9, 3) := by decide +kernel
theorem dX0_makeCalibration_128 : decode cX0_makeCalibration 128 = .ok (.getfield 94, 3) := by decide +kernel
theorem dX0_makeCalibration_131 : decode cX0_makeCalibration 131 = .ok (.invokevirtual 126, 3) := by decide +kernel
theorem dX0_makeCalibration_134 : decode cX0_makeCalibration 134 = .ok (.imul, 1) := by decide +kernel
theorem dX0_makeCalibration_135 : decode cX0_makeCalibration 135 = .ok (.iadd, 1) := by decide +kernel
theorem dX0_makeCalibration_136 : decode cX0_makeCalibration 136 = .ok (.istore 12, 2) := by decide +kernel
theorem dX0_makeCalibration_138 : decode cX0_makeCalibration 138 = .ok (.aload 4, 2) := by decide +kernel
theorem dX0_makeCalibration_140 : decode cX0_makeCalibration 140 = .ok (.invokevirtual 86, 3) := by decide +kernel
theorem dX0_makeCalibration_143 : decode cX0_makeCalibration 143 = .ok (.istore 13, 2) := by decide +kernel
theorem dX0_makeCalibration_145 : decode cX0_makeCalibration 145 = .ok (.aload 4, 2) := by decide +kernel
theorem dX0_makeCalibration_147 : decode cX0_makeCalibration 147 = .ok (.iload 13, 2) := by decide +kernel
theorem dX0_makeCalibration_149 : decode cX0_makeCalibration 149 = .ok (.iconst 0, 1) := by decide +kernel
theorem dX0_makeCalibration_150 : decode cX0_makeCalibration 150 = .ok (.iload_n 1, 1) := by decide +kernel
theorem dX0_makeCalibration_151 : decode cX0_makeCalibration 151 = .ok (.invokevirtual 90, 3) := by decide +kernel
theorem dX0_makeCalibration_154 : decode cX0_makeCalibration 154 = .ok (.aload 4, 2) := by decide +kernel
theorem dX0_makeCalibration_156 : decode cX0_makeCalibration 156 = .ok (.iload 13, 2) := by decide +kernel
theorem dX0_makeCalibration_158 : decode cX0_makeCalibration 158 = .ok (.iconst 1, 1) := by decide +kernel
theorem dX0_makeCalibration_159 : decode cX0_makeCalibration 159 = .ok (.iload_n 2, 1) := by decide +kernel
theorem dX0_makeCalibration_160 : decode cX0_makeCalibration 160 = .ok (.invokevirtual 90, 3) := by decide +kernel
theorem dX0_makeCalibration_163 : decode cX0_makeCalibration 163 = .ok (.aload 4, 2) := by decide +kernel
theorem dX0_makeCalibration_165 : decode cX0_makeCalibration 165 = .ok (.iload 13, 2) := by decide +kernel
theorem dX0_makeCalibration_167 : decode cX0_makeCalibration 167 = .ok (.iconst 2, 1) := by decide +kernel
theorem dX0_makeCalibration_168 : decode cX0_makeCalibration 168 = .ok (.iload 6, 2) := by decide +kernel
theorem dX0_makeCalibration_170 : decode cX0_makeCalibration 170 = .ok (.invokevirtual 90, 3) := by decide +kernel
theorem dX0_makeCalibration_173 : decode cX0_makeCalibration 173 = .ok (.aload 4, 2) := by decide +kernel
theorem dX0_makeCalibration_175 : decode cX0_makeCalibration 175 = .ok (.iload 13, 2) := by decide +kernel
theorem dX0_makeCalibration_177 : decode cX0_makeCalibration 177 = .ok (.iconst 3, 1) := by decide +kernel
theorem dX0_makeCalibration_178 : decode cX0_makeCalibration 178 = .ok (.aload_n 0, 1) := by decide +kernel
theorem dX0_makeCalibration_179 : decode cX0_makeCalibration 179 = .ok (.getfield 9, 3) := by decide +kernel
theorem dX0_makeCalibration_182 : decode cX0_makeCalibration 182 = .ok (.getfield 58, 3) := by decide +kernel
theorem dX0_makeCalibration_185 : decode cX0_makeCalibration 185 = .ok (.invokevirtual 90, 3) := by decide +kernel
theorem dX0_makeCalibration_188 : decode cX0_makeCalibration 188 = .ok (.aload 4, 2) := by decide +kernel
theorem dX0_makeCalibration_190 : decode cX0_makeCalibration 190 = .ok (.iload 13, 2) := by decide +kernel
theorem dX0_makeCalibration_192 : decode cX0_makeCalibration 192 = .ok (.iconst 4, 1) := by decide +kernel
theorem dX0_makeCalibration_193 : decode cX0_makeCalibration 193 = .ok (.iload_n 3, 1) := by decide +kernel
theorem dX0_makeCalibration_194 : decode cX0_makeCalibration 194 = .ok (.invokevirtual 90, 3) := by decide +kernel
theorem dX0_makeCalibration_197 : decode cX0_makeCalibration 197 = .ok (.aload 4, 2) := by decide +kernel
theorem dX0_makeCalibration_199 : decode cX0_makeCalibration 199 = .ok (.iload 13, 2) := by decide +kernel
theorem dX0_makeCalibration_201 : decode cX0_makeCalibration 201 = .ok (.iconst 5, 1) := by decide +kernel
theorem dX0_makeCalibration_202 : decode cX0_makeCalibration 202 = .ok (.iload 8, 2) := by decide +kernel
theorem dX0_makeCalibration_204 : decode cX0_makeCalibration 204 = .ok (.invokevirtual 90, 3) := by decide +kernel
theorem dX0_makeCalibration_207 : decode cX0_makeCalibration 207 = .ok (.aload 4, 2) := by decide +kernel
theorem dX0_makeCalibration_209 : decode cX0_makeCalibration 209 = .ok (.iload 13, 2) := by decide +kernel
theorem dX0_makeCalibration_211 : decode cX0_makeCalibration 211 = .ok (.bipush 6, 2) := by decide +kernel
theorem dX0_makeCalibration_213 : decode cX0_makeCalibration 213 = .ok (.iload 11, 2) := by decide +kernel
theorem dX0_makeCalibration_215 : decode cX0_makeCalibration 215 = .ok (.invokevirtual 90, 3) := by decide +kernel
theorem dX0_makeCalibration_218 : decode cX0_makeCalibration 218 = .ok (.aload 4, 2) := by decide +kernel
theorem dX0_makeCalibration_220 : decode cX0_makeCalibration 220 = .ok (.iload 13, 2) := by decide +kernel
theorem dX0_makeCalibration_222 : decode cX0_makeCalibration 222 = .ok (.bipush 7, 2) := by decide +kernel
theorem dX0_makeCalibration_224 : decode cX0_makeCalibration 224 = .ok (.iload 9, 2) := by decide +kernel
theorem dX0_makeCalibration_226 : decode cX0_makeCalibration 226 = .ok (.invokevirtual 90, 3) := by decide +kernel
theorem dX0_makeCalibration_229 : decode cX0_makeCalibration 229 = .ok (.aload 4, 2) := by decide +kernel
theorem dX0_makeCalibration_231 : decode cX0_makeCalibration 231 = .ok (.iload 13, 2) := by decide +kernel
theorem dX0_makeCalibration_233 : decode cX0_makeCalibration 233 = .ok (.bipush 8, 2) := by decide +kernel
theorem dX0_makeCalibration_235 : decode cX0_makeCalibration 235 = .ok (.iload 10, 2) := by decide +kernel
theorem dX0_makeCalibration_237 : decode cX0_makeCalibration 237 = .ok (.invokevirtual 90, 3) := by decide +kernel
theorem dX0_makeCalibration_240 : decode cX0_makeCalibration 240 = .ok (.aload 4, 2) := by decide +kernel
theorem dX0_makeCalibration_242 : decode cX0_makeCalibration 242 = .ok (.iload 13, 2) := by decide +kernel
theorem dX0_makeCalibration_244 : decode cX0_makeCalibration 244 = .ok (.bipush 9, 2) := by decide +kernel
theorem dX0_makeCalibration_246 : decode cX0_makeCalibration 246 = .ok (.iload 7, 2) := by decide +kernel
theorem dX0_makeCalibration_248 : decode cX0_makeCalibration 248 = .ok (.iload 7, 2) := by decide +kernel
theorem dX0_makeCalibration_250 : decode cX0_makeCalibration 250 = .ok (.imul, 1) := by decide +kernel
theorem dX0_makeCalibration_251 : decode cX0_makeCalibration 251 = .ok (.invokevirtual 90, 3) := by decide +kernel
theorem dX0_makeCalibration_254 : decode cX0_makeCalibration 254 = .ok (.aload 4, 2) := by decide +kernel
theorem dX0_makeCalibration_256 : decode cX0_makeCalibration 256 = .ok (.iload 13, 2) := by decide +kernel
theorem dX0_makeCalibration_258 : decode cX0_makeCalibration 258 = .ok (.bipush 10, 2) := by decide +kernel
theorem dX0_makeCalibration_260 : decode cX0_makeCalibration 260 = .ok (.iload_n 3, 1) := by decide +kernel
theorem dX0_makeCalibration_261 : decode cX0_makeCalibration 261 = .ok (.invokestatic 129, 3) := by decide +kernel
theorem dX0_makeCalibration_264 : decode cX0_makeCalibration 264 = .ok (.iconst 2, 1) := by decide +kernel
theorem dX0_makeCalibration_265 : decode cX0_makeCalibration 265 = .ok (.iload 11, 2) := by decide +kernel
theorem dX0_makeCalibration_267 : decode cX0_makeCalibration 267 = .ok (.imul, 1) := by decide +kernel
theorem dX0_makeCalibration_268 : decode cX0_makeCalibration 268 = .ok (.iadd, 1) := by decide +kernel
theorem dX0_makeCalibration_269 : decode cX0_makeCalibration 269 = .ok (.invokevirtual 90, 3) := by decide +kernel
theorem dX0_makeCalibration_272 : decode cX0_makeCalibration 272 = .ok (.aload_n 0, 1) := by decide +kernel
theorem dX0_makeCalibration_273 : decode cX0_makeCalibration 273 = .ok (.getfield 9, 3) := by decide +kernel
theorem dX0_makeCalibration_276 : decode cX0_makeCalibration 276 = .ok (.getfield 94, 3) := by decide +kernel
theorem dX0_makeCalibration_279 : decode cX0_makeCalibration 279 = .ok (.invokevirtual 134, 3) := by decide +kernel
theorem dX0_makeCalibration_282 : decode cX0_makeCalibration 282 = .ok (.aload_n 0, 1) := by decide +kernel
theorem dX0_makeCalibration_283 : decode cX0_makeCalibration 283 = .ok (.iload_n 1, 1) := by decide +kernel
theorem dX0_makeCalibration_284 : decode cX0_makeCalibration 284 = .ok (.iload 12, 2) := by decide +kernel
theorem dX0_makeCalibration_286 : decode cX0_makeCalibration 286 = .ok (.invokevirtual 137, 3) := by decide +kernel
theorem dX0_makeCalibration_289 : decode cX0_makeCalibration 289 = .ok (.aload_n 0, 1) := by decide +kernel
theorem dX0_makeCalibration_290 : decode cX0_makeCalibration 290 = .ok (.getfield 15, 3) := by decide +kernel
theorem dX0_makeCalibration_293 : decode cX0_makeCalibration 293 = .ok (.invokevirtual 141, 3) := by decide +kernel
theorem dX0_makeCalibration_296 : decode cX0_makeCalibration 296 = .ok (.iload 13, 2) := by decide +kernel
theorem dX0_makeCalibration_298 : decode cX0_makeCalibration 298 = .ok (.ireturn, 1) := by decide +kernel
theorem dX0_inheritedVariance_0 : decode cX0_inheritedVariance 0 = .ok (.aload_n 0, 1) := by decide +kernel
theorem dX0_inheritedVariance_1 : decode cX0_inheritedVariance 1 = .ok (.getfield 9, 3) := by decide +kernel
theorem dX0_inheritedVariance_4 : decode cX0_inheritedVariance 4 = .ok (.getfield 49, 3) := by decide +kernel
theorem dX0_inheritedVariance_7 : decode cX0_inheritedVariance 7 = .ok (.iload_n 1, 1) := by decide +kernel
theorem dX0_inheritedVariance_8 : decode cX0_inheritedVariance 8 = .ok (.iconst 0, 1) := by decide +kernel
theorem dX0_inheritedVariance_9 : decode cX0_inheritedVariance 9 = .ok (.invokevirtual 106, 3) := by decide +kernel
theorem dX0_inheritedVariance_12 : decode cX0_inheritedVariance 12 = .ok (.ifCond .ne 20, 3) := by decide +kernel
theorem dX0_inheritedVariance_15 : decode cX0_inheritedVariance 15 = .ok (.aload_n 0, 1) := by decide +kernel
theorem dX0_inheritedVariance_16 : decode cX0_inheritedVariance 16 = .ok (.getfield 9, 3) := by decide +kernel
theorem dX0_inheritedVariance_19 : decode cX0_inheritedVariance 19 = .ok (.getfield 49, 3) := by decide +kernel
theorem dX0_inheritedVariance_22 : decode cX0_inheritedVariance 22 = .ok (.iload_n 1, 1) := by decide +kernel
theorem dX0_inheritedVariance_23 : decode cX0_inheritedVariance 23 = .ok (.iconst 5, 1) := by decide +kernel
theorem dX0_inheritedVariance_24 : decode cX0_inheritedVariance 24 = .ok (.invokevirtual 106, 3) := by decide +kernel
theorem dX0_inheritedVariance_27 : decode cX0_inheritedVariance 27 = .ok (.istore_n 2, 1) := by decide +kernel
theorem dX0_inheritedVariance_28 : decode cX0_inheritedVariance 28 = .ok (.iload_n 2, 1) := by decide +kernel
theorem dX0_inheritedVariance_29 : decode cX0_inheritedVariance 29 = .ok (.iload_n 2, 1) := by decide +kernel
theorem dX0_inheritedVariance_30 : decode cX0_inheritedVariance 30 = .ok (.imul, 1) := by decide +kernel
theorem dX0_inheritedVariance_31 : decode cX0_inheritedVariance 31 = .ok (.ireturn, 1) := by decide +kernel
theorem dX0_inheritedVariance_32 : decode cX0_inheritedVariance 32 = .ok (.aload_n 0, 1) := by decide +kernel
theorem dX0_inheritedVariance_33 : decode cX0_inheritedVariance 33 = .ok (.getfield 15, 3) := by decide +kernel
theorem dX0_inheritedVariance_36 : decode cX0_inheritedVariance 36 = .ok (.iload_n 1, 1) := by decide +kernel
theorem dX0_inheritedVariance_37 : decode cX0_inheritedVariance 37 = .ok (.invokevirtual 109, 3) := by decide +kernel
theorem dX0_inheritedVariance_40 : decode cX0_inheritedVariance 40 = .ok (.istore_n 2, 1) := by decide +kernel
theorem dX0_inheritedVariance_41 : decode cX0_inheritedVariance 41 = .ok (.aload_n 0, 1) := by decide +kernel
theorem dX0_inheritedVariance_42 : decode cX0_inheritedVariance 42 = .ok (.iload_n 2, 1) := by decide +kernel
theorem dX0_inheritedVariance_43 : decode cX0_inheritedVariance 43 = .ok (.iload_n 1, 1) := by decide +kernel
theorem dX0_inheritedVariance_44 : decode cX0_inheritedVariance 44 = .ok (.invokevirtual 117, 3) := by decide +kernel
theorem dX0_inheritedVariance_47 : decode cX0_inheritedVariance 47 = .ok (.aload_n 0, 1) := by decide +kernel
theorem dX0_inheritedVariance_48 : decode cX0_inheritedVariance 48 = .ok (.getfield 9, 3) := by decide +kernel
theorem dX0_inheritedVariance_51 : decode cX0_inheritedVariance 51 = .ok (.getfield 103, 3) := by decide +kernel
theorem dX0_inheritedVariance_54 : decode cX0_inheritedVariance 54 = .ok (.iload_n 2, 1) := by decide +kernel
theorem dX0_inheritedVariance_55 : decode cX0_inheritedVariance 55 = .ok (.bipush 8, 2) := by decide +kernel
theorem dX0_inheritedVariance_57 : decode cX0_inheritedVariance 57 = .ok (.invokevirtual 106, 3) := by decide +kernel
theorem dX0_inheritedVariance_60 : decode cX0_inheritedVariance 60 = .ok (.iadd, 1) := by decide +kernel
theorem dX0_inheritedVariance_61 : decode cX0_inheritedVariance 61 = .ok (.ireturn, 1) := by decide +kernel
theorem dX0_faultOfRecall_0 : decode cX0_faultOfRecall 0 = .ok (.aload_n 0, 1) := by decide +kernel
theorem dX0_faultOfRecall_1 : decode cX0_faultOfRecall 1 = .ok (.getfield 9, 3) := by decide +kernel
theorem dX0_faultOfRecall_4 : decode cX0_faultOfRecall 4 = .ok (.getfield 49, 3) := by decide +kernel
theorem dX0_faultOfRecall_7 : decode cX0_faultOfRecall 7 = .ok (.iload_n 1, 1) := by decide +kernel
theorem dX0_faultOfRecall_8 : decode cX0_faultOfRecall 8 = .ok (.invokevirtual 40, 3) := by decide +kernel
theorem dX0_faultOfRecall_11 : decode cX0_faultOfRecall 11 = .ok (.ifCond .ne 5, 3) := by decide +kernel
theorem dX0_faultOfRecall_14 : decode cX0_faultOfRecall 14 = .ok (.iconst 1, 1) := by decide +kernel
theorem dX0_faultOfRecall_15 : decode cX0_faultOfRecall 15 = .ok (.ireturn, 1) := by decide +kernel
theorem dX0_faultOfRecall_16 : decode cX0_faultOfRecall 16 = .ok (.iload_n 2, 1) := by decide +kernel
theorem dX0_faultOfRecall_17 : decode cX0_faultOfRecall 17 = .ok (.iload_n 3, 1) := by decide +kernel
theorem dX0_faultOfRecall_18 : decode cX0_faultOfRecall 18 = .ok (.invokestatic 144, 3) := by decide +kernel
theorem dX0_faultOfRecall_21 : decode cX0_faultOfRecall 21 = .ok (.ifCond .ne 5, 3) := by decide +kernel
theorem dX0_faultOfRecall_24 : decode cX0_faultOfRecall 24 = .ok (.iconst 2, 1) := by decide +kernel
theorem dX0_faultOfRecall_25 : decode cX0_faultOfRecall 25 = .ok (.ireturn, 1) := by decide +kernel
theorem dX0_faultOfRecall_26 : decode cX0_faultOfRecall 26 = .ok (.aload_n 0, 1) := by decide +kernel
theorem dX0_faultOfRecall_27 : decode cX0_faultOfRecall 27 = .ok (.getfield 9, 3) := by decide +kernel
theorem dX0_faultOfRecall_30 : decode cX0_faultOfRecall 30 = .ok (.getfield 34, 3) := by decide +kernel
theorem dX0_faultOfRecall_33 : decode cX0_faultOfRecall 33 = .ok (.invokevirtual 82, 3) := by decide +kernel
theorem dX0_faultOfRecall_36 : decode cX0_faultOfRecall 36 = .ok (.ifCond .eq 7, 3) := by decide +kernel
theorem dX0_faultOfRecall_39 : decode cX0_faultOfRecall 39 = .ok (.iconst 3, 1) := by decide +kernel
theorem dX0_faultOfRecall_40 : decode cX0_faultOfRecall 40 = .ok (.goto 4, 3) := by decide +kernel
theorem dX0_faultOfRecall_43 : decode cX0_faultOfRecall 43 = .ok (.iconst 0, 1) := by decide +kernel
theorem dX0_faultOfRecall_44 : decode cX0_faultOfRecall 44 = .ok (.ireturn, 1) := by decide +kernel
theorem dX0_makeRecall_0 : decode cX0_makeRecall 0 = .ok (.aload_n 0, 1) := by decide +kernel
theorem dX0_makeRecall_1 : decode cX0_makeRecall 1 = .ok (.getfield 9, 3) := by decide +kernel
theorem dX0_makeRecall_4 : decode cX0_makeRecall 4 = .ok (.getfield 34, 3) := by decide +kernel
theorem dX0_makeRecall_7 : decode cX0_makeRecall 7 = .ok (.invokevirtual 86, 3) := by decide +kernel
theorem dX0_makeRecall_10 : decode cX0_makeRecall 10 = .ok (.istore 4, 2) := by decide +kernel
theorem dX0_makeRecall_12 : decode cX0_makeRecall 12 = .ok (.aload_n 0, 1) := by decide +kernel
theorem dX0_makeRecall_13 : decode cX0_makeRecall 13 = .ok (.getfield 9, 3) := by decide +kernel
theorem dX0_makeRecall_16 : decode cX0_makeRecall 16 = .ok (.getfield 34, 3) := by decide +kernel
theorem dX0_makeRecall_19 : decode cX0_makeRecall 19 = .ok (.iload 4, 2) := by decide +kernel
theorem dX0_makeRecall_21 : decode cX0_makeRecall 21 = .ok (.iconst 0, 1) := by decide +kernel
theorem dX0_makeRecall_22 : decode cX0_makeRecall 22 = .ok (.iload_n 1, 1) := by decide +kernel
theorem dX0_makeRecall_23 : decode cX0_makeRecall 23 = .ok (.invokevirtual 90, 3) := by decide +kernel
theorem dX0_makeRecall_26 : decode cX0_makeRecall 26 = .ok (.aload_n 0, 1) := by decide +kernel
theorem dX0_makeRecall_27 : decode cX0_makeRecall 27 = .ok (.getfield 9, 3) := by decide +kernel
theorem dX0_makeRecall_30 : decode cX0_makeRecall 30 = .ok (.getfield 34, 3) := by decide +kernel
theorem dX0_makeRecall_33 : decode cX0_makeRecall 33 = .ok (.iload 4, 2) := by decide +kernel
theorem dX0_makeRecall_35 : decode cX0_makeRecall 35 = .ok (.iconst 1, 1) := by decide +kernel
theorem dX0_makeRecall_36 : decode cX0_makeRecall 36 = .ok (.iload_n 2, 1) := by decide +kernel
theorem dX0_makeRecall_37 : decode cX0_makeRecall 37 = .ok (.invokevirtual 90, 3) := by decide +kernel
theorem dX0_makeRecall_40 : decode cX0_makeRecall 40 = .ok (.aload_n 0, 1) := by decide +kernel
theorem dX0_makeRecall_41 : decode cX0_makeRecall 41 = .ok (.getfield 9, 3) := by decide +kernel
theorem dX0_makeRecall_44 : decode cX0_makeRecall 44 = .ok (.getfield 34, 3) := by decide +kernel
theorem dX0_makeRecall_47 : decode cX0_makeRecall 47 = .ok (.iload 4, 2) := by decide +kernel
theorem dX0_makeRecall_49 : decode cX0_makeRecall 49 = .ok (.iconst 2, 1) := by decide +kernel
theorem dX0_makeRecall_50 : decode cX0_makeRecall 50 = .ok (.iload_n 3, 1) := by decide +kernel
theorem dX0_makeRecall_51 : decode cX0_makeRecall 51 = .ok (.invokevirtual 90, 3) := by decide +kernel
theorem dX0_makeRecall_54 : decode cX0_makeRecall 54 = .ok (.aload_n 0, 1) := by decide +kernel
theorem dX0_makeRecall_55 : decode cX0_makeRecall 55 = .ok (.getfield 15, 3) := by decide +kernel
theorem dX0_makeRecall_58 : decode cX0_makeRecall 58 = .ok (.invokevirtual 141, 3) := by decide +kernel
theorem dX0_makeRecall_61 : decode cX0_makeRecall 61 = .ok (.iload 4, 2) := by decide +kernel
theorem dX0_makeRecall_63 : decode cX0_makeRecall 63 = .ok (.ireturn, 1) := by decide +kernel
theorem dX0_liftRecall_0 : decode cX0_liftRecall 0 = .ok (.aload_n 0, 1) := by decide +kernel
theorem dX0_liftRecall_1 : decode cX0_liftRecall 1 = .ok (.getfield 9, 3) := by decide +kernel
theorem dX0_liftRecall_4 : decode cX0_liftRecall 4 = .ok (.getfield 34, 3) := by decide +kernel
theorem dX0_liftRecall_7 : decode cX0_liftRecall 7 = .ok (.iload_n 1, 1) := by decide +kernel
theorem dX0_liftRecall_8 : decode cX0_liftRecall 8 = .ok (.invokevirtual 147, 3) := by decide +kernel
theorem dX0_liftRecall_11 : decode cX0_liftRecall 11 = .ok (.aload_n 0, 1) := by decide +kernel
theorem dX0_liftRecall_12 : decode cX0_liftRecall 12 = .ok (.getfield 15, 3) := by decide +kernel
theorem dX0_liftRecall_15 : decode cX0_liftRecall 15 = .ok (.invokevirtual 141, 3) := by decide +kernel
theorem dX0_liftRecall_18 : decode cX0_liftRecall 18 = .ok (.aload_n 0, 1) := by decide +kernel
theorem dX0_liftRecall_19 : decode cX0_liftRecall 19 = .ok (.getfield 9, 3) := by decide +kernel
theorem dX0_liftRecall_22 : decode cX0_liftRecall 22 = .ok (.getfield 34, 3) := by decide +kernel
theorem dX0_liftRecall_25 : decode cX0_liftRecall 25 = .ok (.invokevirtual 126, 3) := by decide +kernel
theorem dX0_liftRecall_28 : decode cX0_liftRecall 28 = .ok (.ireturn, 1) := by decide +kernel
theorem dX0_faultOfMeasurement_0 : decode cX0_faultOfMeasurement 0 = .ok (.aload_n 0, 1) := by decide +kernel
theorem dX0_faultOfMeasurement_1 : decode cX0_faultOfMeasurement 1 = .ok (.getfield 9, 3) := by decide +kernel
theorem dX0_faultOfMeasurement_4 : decode cX0_faultOfMeasurement 4 = .ok (.getfield 49, 3) := by decide +kernel
theorem dX0_faultOfMeasurement_7 : decode cX0_faultOfMeasurement 7 = .ok (.iload_n 1, 1) := by decide +kernel
theorem dX0_faultOfMeasurement_8 : decode cX0_faultOfMeasurement 8 = .ok (.invokevirtual 40, 3) := by decide +kernel
theorem dX0_faultOfMeasurement_11 : decode cX0_faultOfMeasurement 11 = .ok (.ifCond .ne 5, 3) := by decide +kernel
theorem dX0_faultOfMeasurement_14 : decode cX0_faultOfMeasurement 14 = .ok (.iconst 1, 1) := by decide +kernel
theorem dX0_faultOfMeasurement_15 : decode cX0_faultOfMeasurement 15 = .ok (.ireturn, 1) := by decide +kernel
theorem dX0_faultOfMeasurement_16 : decode cX0_faultOfMeasurement 16 = .ok (.iload_n 2, 1) := by decide +kernel
theorem dX0_faultOfMeasurement_17 : decode cX0_faultOfMeasurement 17 = .ok (.sipush (-9999), 3) := by decide +kernel
theorem dX0_faultOfMeasurement_20 : decode cX0_faultOfMeasurement 20 = .ok (.sipush 9999, 3) := by decide +kernel
theorem dX0_faultOfMeasurement_23 : decode cX0_faultOfMeasurement 23 = .ok (.invokestatic 74, 3) := by decide +kernel
theorem dX0_faultOfMeasurement_26 : decode cX0_faultOfMeasurement 26 = .ok (.ifCond .eq 18, 3) := by decide +kernel
theorem dX0_faultOfMeasurement_29 : decode cX0_faultOfMeasurement 29 = .ok (.iload_n 3, 1) := by decide +kernel
theorem dX0_faultOfMeasurement_30 : decode cX0_faultOfMeasurement 30 = .ok (.iconst 0, 1) := by decide +kernel
theorem dX0_faultOfMeasurement_31 : decode cX0_faultOfMeasurement 31 = .ok (.sipush 9999, 3) := by decide +kernel
theorem dX0_faultOfMeasurement_34 : decode cX0_faultOfMeasurement 34 = .ok (.invokestatic 74, 3) := by decide +kernel
theorem dX0_faultOfMeasurement_37 : decode cX0_faultOfMeasurement 37 = .ok (.ifCond .eq 7, 3) := by decide +kernel
theorem dX0_faultOfMeasurement_40 : decode cX0_faultOfMeasurement 40 = .ok (.iconst 1, 1) := by decide +kernel
theorem dX0_faultOfMeasurement_41 : decode cX0_faultOfMeasurement 41 = .ok (.goto 4, 3) := by decide +kernel
theorem dX0_faultOfMeasurement_44 : decode cX0_faultOfMeasurement 44 = .ok (.iconst 0, 1) := by decide +kernel
theorem dX0_faultOfMeasurement_45 : decode cX0_faultOfMeasurement 45 = .ok (.istore 4, 2) := by decide +kernel
theorem dX0_faultOfMeasurement_47 : decode cX0_faultOfMeasurement 47 = .ok (.iload 4, 2) := by decide +kernel
theorem dX0_faultOfMeasurement_49 : decode cX0_faultOfMeasurement 49 = .ok (.ifCond .eq 7, 3) := by decide +kernel
theorem dX0_faultOfMeasurement_52 : decode cX0_faultOfMeasurement 52 = .ok (.iconst 0, 1) := by decide +kernel
theorem dX0_faultOfMeasurement_53 : decode cX0_faultOfMeasurement 53 = .ok (.goto 4, 3) := by decide +kernel
theorem dX0_faultOfMeasurement_56 : decode cX0_faultOfMeasurement 56 = .ok (.iconst 2, 1) := by decide +kernel
theorem dX0_faultOfMeasurement_57 : decode cX0_faultOfMeasurement 57 = .ok (.ireturn, 1) := by decide +kernel
theorem dX0_makeMeasurement_0 : decode cX0_makeMeasurement 0 = .ok (.aload_n 0, 1) := by decide +kernel
theorem dX0_makeMeasurement_1 : decode cX0_makeMeasurement 1 = .ok (.getfield 9, 3) := by decide +kernel
theorem dX0_makeMeasurement_4 : decode cX0_makeMeasurement 4 = .ok (.getfield 151, 3) := by decide +kernel
theorem dX0_makeMeasurement_7 : decode cX0_makeMeasurement 7 = .ok (.astore 4, 2) := by decide +kernel
theorem dX0_makeMeasurement_9 : decode cX0_makeMeasurement 9 = .ok (.aload_n 0, 1) := by decide +kernel
theorem dX0_makeMeasurement_10 : decode cX0_makeMeasurement 10 = .ok (.getfield 15, 3) := by decide +kernel
theorem dX0_makeMeasurement_13 : decode cX0_makeMeasurement 13 = .ok (.iload_n 1, 1) := by decide +kernel
theorem dX0_makeMeasurement_14 : decode cX0_makeMeasurement 14 = .ok (.invokevirtual 109, 3) := by decide +kernel
theorem dX0_makeMeasurement_17 : decode cX0_makeMeasurement 17 = .ok (.istore 5, 2) := by decide +kernel
theorem dX0_makeMeasurement_19 : decode cX0_makeMeasurement 19 = .ok (.aload_n 0, 1) := by decide +kernel
theorem dX0_makeMeasurement_20 : decode cX0_makeMeasurement 20 = .ok (.iload 5, 2) := by decide +kernel
theorem dX0_makeMeasurement_22 : decode cX0_makeMeasurement 22 = .ok (.aload_n 0, 1) := by decide +kernel
theorem dX0_makeMeasurement_23 : decode cX0_makeMeasurement 23 = .ok (.getfield 9, 3) := by decide +kernel
theorem dX0_makeMeasurement_26 : decode cX0_makeMeasurement 26 = .ok (.getfield 58, 3) := by decide +kernel
theorem dX0_makeMeasurement_29 : decode cX0_makeMeasurement 29 = .ok (.invokevirtual 154, 3) := by decide +kernel
theorem dX0_makeMeasurement_32 : decode cX0_makeMeasurement 32 = .ok (.istore 6, 2) := by decide +kernel
theorem dX0_makeMeasurement_34 : decode cX0_makeMeasurement 34 = .ok (.aload 4, 2) := by decide +kernel
theorem dX0_makeMeasurement_36 : decode cX0_makeMeasurement 36 = .ok (.invokevirtual 86, 3) := by decide +kernel
theorem dX0_makeMeasurement_39 : decode cX0_makeMeasurement 39 = .ok (.istore 7, 2) := by decide +kernel
theorem dX0_makeMeasurement_41 : decode cX0_makeMeasurement 41 = .ok (.aload 4, 2) := by decide +kernel
theorem dX0_makeMeasurement_43 : decode cX0_makeMeasurement 43 = .ok (.iload 7, 2) := by decide +kernel
theorem dX0_makeMeasurement_45 : decode cX0_makeMeasurement 45 = .ok (.iconst 0, 1) := by decide +kernel
theorem dX0_makeMeasurement_46 : decode cX0_makeMeasurement 46 = .ok (.iload_n 1, 1) := by decide +kernel
theorem dX0_makeMeasurement_47 : decode cX0_makeMeasurement 47 = .ok (.invokevirtual 90, 3) := by decide +kernel
theorem dX0_makeMeasurement_50 : decode cX0_makeMeasurement 50 = .ok (.aload 4, 2) := by decide +kernel
theorem dX0_makeMeasurement_52 : decode cX0_makeMeasurement 52 = .ok (.iload 7, 2) := by decide +kernel
theorem dX0_makeMeasurement_54 : decode cX0_makeMeasurement 54 = .ok (.iconst 1, 1) := by decide +kernel
theorem dX0_makeMeasurement_55 : decode cX0_makeMeasurement 55 = .ok (.iload 5, 2) := by decide +kernel
theorem dX0_makeMeasurement_57 : decode cX0_makeMeasurement 57 = .ok (.invokevirtual 90, 3) := by decide +kernel
theorem dX0_makeMeasurement_60 : decode cX0_makeMeasurement 60 = .ok (.aload 4, 2) := by decide +kernel
theorem dX0_makeMeasurement_62 : decode cX0_makeMeasurement 62 = .ok (.iload 7, 2) := by decide +kernel
theorem dX0_makeMeasurement_64 : decode cX0_makeMeasurement 64 = .ok (.iconst 2, 1) := by decide +kernel
theorem dX0_makeMeasurement_65 : decode cX0_makeMeasurement 65 = .ok (.aload_n 0, 1) := by decide +kernel
theorem dX0_makeMeasurement_66 : decode cX0_makeMeasurement 66 = .ok (.getfield 9, 3) := by decide +kernel
theorem dX0_makeMeasurement_69 : decode cX0_makeMeasurement 69 = .ok (.getfield 58, 3) := by decide +kernel
theorem dX0_makeMeasurement_72 : decode cX0_makeMeasurement 72 = .ok (.invokevirtual 90, 3) := by decide +kernel
theorem dX0_makeMeasurement_75 : decode cX0_makeMeasurement 75 = .ok (.aload 4, 2) := by decide +kernel
theorem dX0_makeMeasurement_77 : decode cX0_makeMeasurement 77 = .ok (.iload 7, 2) := by decide +kernel
theorem dX0_makeMeasurement_79 : decode cX0_makeMeasurement 79 = .ok (.iconst 3, 1) := by decide +kernel
theorem dX0_makeMeasurement_80 : decode cX0_makeMeasurement 80 = .ok (.iload_n 2, 1) := by decide +kernel
theorem dX0_makeMeasurement_81 : decode cX0_makeMeasurement 81 = .ok (.invokevirtual 90, 3) := by decide +kernel
theorem dX0_makeMeasurement_84 : decode cX0_makeMeasurement 84 = .ok (.aload 4, 2) := by decide +kernel
theorem dX0_makeMeasurement_86 : decode cX0_makeMeasurement 86 = .ok (.iload 7, 2) := by decide +kernel
theorem dX0_makeMeasurement_88 : decode cX0_makeMeasurement 88 = .ok (.iconst 4, 1) := by decide +kernel
theorem dX0_makeMeasurement_89 : decode cX0_makeMeasurement 89 = .ok (.iload_n 3, 1) := by decide +kernel
theorem dX0_makeMeasurement_90 : decode cX0_makeMeasurement 90 = .ok (.invokevirtual 90, 3) := by decide +kernel
theorem dX0_makeMeasurement_93 : decode cX0_makeMeasurement 93 = .ok (.aload 4, 2) := by decide +kernel
theorem dX0_makeMeasurement_95 : decode cX0_makeMeasurement 95 = .ok (.iload 7, 2) := by decide +kernel
theorem dX0_makeMeasurement_97 : decode cX0_makeMeasurement 97 = .ok (.iconst 5, 1) := by decide +kernel
theorem dX0_makeMeasurement_98 : decode cX0_makeMeasurement 98 = .ok (.iload 6, 2) := by decide +kernel
theorem dX0_makeMeasurement_100 : decode cX0_makeMeasurement 100 = .ok (.invokevirtual 90, 3) := by decide +kernel
theorem dX0_makeMeasurement_103 : decode cX0_makeMeasurement 103 = .ok (.aload 4, 2) := by decide +kernel
theorem dX0_makeMeasurement_105 : decode cX0_makeMeasurement 105 = .ok (.iload 7, 2) := by decide +kernel
theorem dX0_makeMeasurement_107 : decode cX0_makeMeasurement 107 = .ok (.bipush 6, 2) := by decide +kernel
theorem dX0_makeMeasurement_109 : decode cX0_makeMeasurement 109 = .ok (.aload_n 0, 1) := by decide +kernel
theorem dX0_makeMeasurement_110 : decode cX0_makeMeasurement 110 = .ok (.iload 5, 2) := by decide +kernel
theorem dX0_makeMeasurement_112 : decode cX0_makeMeasurement 112 = .ok (.iload_n 2, 1) := by decide +kernel
theorem dX0_makeMeasurement_113 : decode cX0_makeMeasurement 113 = .ok (.iload_n 3, 1) := by decide +kernel
theorem dX0_makeMeasurement_114 : decode cX0_makeMeasurement 114 = .ok (.iload 6, 2) := by decide +kernel
theorem dX0_makeMeasurement_116 : decode cX0_makeMeasurement 116 = .ok (.invokevirtual 157, 3) := by decide +kernel
theorem dX0_makeMeasurement_119 : decode cX0_makeMeasurement 119 = .ok (.invokevirtual 90, 3) := by decide +kernel
theorem dX0_makeMeasurement_122 : decode cX0_makeMeasurement 122 = .ok (.aload_n 0, 1) := by decide +kernel
theorem dX0_makeMeasurement_123 : decode cX0_makeMeasurement 123 = .ok (.iload_n 1, 1) := by decide +kernel
theorem dX0_makeMeasurement_124 : decode cX0_makeMeasurement 124 = .ok (.iconst 1, 1) := by decide +kernel
theorem dX0_makeMeasurement_125 : decode cX0_makeMeasurement 125 = .ok (.invokevirtual 137, 3) := by decide +kernel
theorem dX0_makeMeasurement_128 : decode cX0_makeMeasurement 128 = .ok (.iload 7, 2) := by decide +kernel
theorem dX0_makeMeasurement_130 : decode cX0_makeMeasurement 130 = .ok (.ireturn, 1) := by decide +kernel
theorem dX0_makeCertificate_0 : decode cX0_makeCertificate 0 = .ok (.aload_n 0, 1) := by decide +kernel
theorem dX0_makeCertificate_1 : decode cX0_makeCertificate 1 = .ok (.getfield 15, 3) := by decide +kernel
theorem dX0_makeCertificate_4 : decode cX0_makeCertificate 4 = .ok (.iload_n 1, 1) := by decide +kernel
theorem dX0_makeCertificate_5 : decode cX0_makeCertificate 5 = .ok (.invokevirtual 109, 3) := by decide +kernel
theorem dX0_makeCertificate_8 : decode cX0_makeCertificate 8 = .ok (.istore_n 2, 1) := by decide +kernel
theorem dX0_makeCertificate_9 : decode cX0_makeCertificate 9 = .ok (.aload_n 0, 1) := by decide +kernel
theorem dX0_makeCertificate_10 : decode cX0_makeCertificate 10 = .ok (.getfield 9, 3) := by decide +kernel
theorem dX0_makeCertificate_13 : decode cX0_makeCertificate 13 = .ok (.getfield 161, 3) := by decide +kernel
theorem dX0_makeCertificate_16 : decode cX0_makeCertificate 16 = .ok (.invokevirtual 86, 3) := by decide +kernel
theorem dX0_makeCertificate_19 : decode cX0_makeCertificate 19 = .ok (.istore_n 3, 1) := by decide +kernel
theorem dX0_makeCertificate_20 : decode cX0_makeCertificate 20 = .ok (.aload_n 0, 1) := by decide +kernel
theorem dX0_makeCertificate_21 : decode cX0_makeCertificate 21 = .ok (.getfield 9, 3) := by decide +kernel
theorem dX0_makeCertificate_24 : decode cX0_makeCertificate 24 = .ok (.getfield 161, 3) := by decide +kernel
theorem dX0_makeCertificate_27 : decode cX0_makeCertificate 27 = .ok (.iload_n 3, 1) := by decide +kernel
theorem dX0_makeCertificate_28 : decode cX0_makeCertificate 28 = .ok (.iconst 0, 1) := by decide +kernel
theorem dX0_makeCertificate_29 : decode cX0_makeCertificate 29 = .ok (.iload_n 2, 1) := by decide +kernel
theorem dX0_makeCertificate_30 : decode cX0_makeCertificate 30 = .ok (.invokevirtual 90, 3) := by decide +kernel
theorem dX0_makeCertificate_33 : decode cX0_makeCertificate 33 = .ok (.aload_n 0, 1) := by decide +kernel
theorem dX0_makeCertificate_34 : decode cX0_makeCertificate 34 = .ok (.getfield 9, 3) := by decide +kernel
theorem dX0_makeCertificate_37 : decode cX0_makeCertificate 37 = .ok (.getfield 161, 3) := by decide +kernel
theorem dX0_makeCertificate_40 : decode cX0_makeCertificate 40 = .ok (.iload_n 3, 1) := by decide +kernel
theorem dX0_makeCertificate_41 : decode cX0_makeCertificate 41 = .ok (.iconst 1, 1) := by decide +kernel
theorem dX0_makeCertificate_42 : decode cX0_makeCertificate 42 = .ok (.aload_n 0, 1) := by decide +kernel
theorem dX0_makeCertificate_43 : decode cX0_makeCertificate 43 = .ok (.getfield 9, 3) := by decide +kernel
theorem dX0_makeCertificate_46 : decode cX0_makeCertificate 46 = .ok (.getfield 58, 3) := by decide +kernel
theorem dX0_makeCertificate_49 : decode cX0_makeCertificate 49 = .ok (.invokevirtual 90, 3) := by decide +kernel
theorem dX0_makeCertificate_52 : decode cX0_makeCertificate 52 = .ok (.aload_n 0, 1) := by decide +kernel
theorem dX0_makeCertificate_53 : decode cX0_makeCertificate 53 = .ok (.iload_n 1, 1) := by decide +kernel
theorem dX0_makeCertificate_54 : decode cX0_makeCertificate 54 = .ok (.iconst 5, 1) := by decide +kernel
theorem dX0_makeCertificate_55 : decode cX0_makeCertificate 55 = .ok (.invokevirtual 137, 3) := by decide +kernel
theorem dX0_makeCertificate_58 : decode cX0_makeCertificate 58 = .ok (.iload_n 3, 1) := by decide +kernel
theorem dX0_makeCertificate_59 : decode cX0_makeCertificate 59 = .ok (.ireturn, 1) := by decide +kernel
theorem dX0_allowance_0 : decode cX0_allowance 0 = .ok (.aload_n 0, 1) := by decide +kernel
theorem dX0_allowance_1 : decode cX0_allowance 1 = .ok (.getfield 9, 3) := by decide +kernel
theorem dX0_allowance_4 : decode cX0_allowance 4 = .ok (.getfield 103, 3) := by decide +kernel
theorem dX0_allowance_7 : decode cX0_allowance 7 = .ok (.iload_n 1, 1) := by decide +kernel
theorem dX0_allowance_8 : decode cX0_allowance 8 = .ok (.iconst 0, 1) := by decide +kernel
theorem dX0_allowance_9 : decode cX0_allowance 9 = .ok (.invokevirtual 106, 3) := by decide +kernel
theorem dX0_allowance_12 : decode cX0_allowance 12 = .ok (.istore_n 3, 1) := by decide +kernel
theorem dX0_allowance_13 : decode cX0_allowance 13 = .ok (.iload_n 2, 1) := by decide +kernel
theorem dX0_allowance_14 : decode cX0_allowance 14 = .ok (.aload_n 0, 1) := by decide +kernel
theorem dX0_allowance_15 : decode cX0_allowance 15 = .ok (.getfield 9, 3) := by decide +kernel
theorem dX0_allowance_18 : decode cX0_allowance 18 = .ok (.getfield 103, 3) := by decide +kernel
theorem dX0_allowance_21 : decode cX0_allowance 21 = .ok (.iload_n 1, 1) := by decide +kernel
theorem dX0_allowance_22 : decode cX0_allowance 22 = .ok (.iconst 3, 1) := by decide +kernel
theorem dX0_allowance_23 : decode cX0_allowance 23 = .ok (.invokevirtual 106, 3) := by decide +kernel
theorem dX0_allowance_26 : decode cX0_allowance 26 = .ok (.isub, 1) := by decide +kernel
theorem dX0_allowance_27 : decode cX0_allowance 27 = .ok (.istore 4, 2) := by decide +kernel
theorem dX0_allowance_29 : decode cX0_allowance 29 = .ok (.aload_n 0, 1) := by decide +kernel
theorem dX0_allowance_30 : decode cX0_allowance 30 = .ok (.getfield 9, 3) := by decide +kernel
theorem dX0_allowance_33 : decode cX0_allowance 33 = .ok (.getfield 49, 3) := by decide +kernel
theorem dX0_allowance_36 : decode cX0_allowance 36 = .ok (.iload_n 3, 1) := by decide +kernel
theorem dX0_allowance_37 : decode cX0_allowance 37 = .ok (.iconst 3, 1) := by decide +kernel
theorem dX0_allowance_38 : decode cX0_allowance 38 = .ok (.invokevirtual 106, 3) := by decide +kernel
theorem dX0_allowance_41 : decode cX0_allowance 41 = .ok (.iload 4, 2) := by decide +kernel
theorem dX0_allowance_43 : decode cX0_allowance 43 = .ok (.imul, 1) := by decide +kernel
theorem dX0_allowance_44 : decode cX0_allowance 44 = .ok (.bipush 100, 2) := by decide +kernel
theorem dX0_allowance_46 : decode cX0_allowance 46 = .ok (.invokestatic 100, 3) := by decide +kernel
theorem dX0_allowance_49 : decode cX0_allowance 49 = .ok (.istore 5, 2) := by decide +kernel
theorem dX0_allowance_51 : decode cX0_allowance 51 = .ok (.iconst 2, 1) := by decide +kernel
theorem dX0_allowance_52 : decode cX0_allowance 52 = .ok (.aload_n 0, 1) := by decide +kernel
theorem dX0_allowance_53 : decode cX0_allowance 53 = .ok (.getfield 9, 3) := by decide +kernel
theorem dX0_allowance_56 : decode cX0_allowance 56 = .ok (.getfield 103, 3) := by decide +kernel
theorem dX0_allowance_59 : decode cX0_allowance 59 = .ok (.iload_n 1, 1) := by decide +kernel
theorem dX0_allowance_60 : decode cX0_allowance 60 = .ok (.bipush 6, 2) := by decide +kernel
theorem dX0_allowance_62 : decode cX0_allowance 62 = .ok (.invokevirtual 106, 3) := by decide +kernel
theorem dX0_allowance_65 : decode cX0_allowance 65 = .ok (.imul, 1) := by decide +kernel
theorem dX0_allowance_66 : decode cX0_allowance 66 = .ok (.iload 5, 2) := by decide +kernel
theorem dX0_allowance_68 : decode cX0_allowance 68 = .ok (.iadd, 1) := by decide +kernel
theorem dX0_allowance_69 : decode cX0_allowance 69 = .ok (.ireturn, 1) := by decide +kernel
theorem dX0_verdict_0 : decode cX0_verdict 0 = .ok (.iload_n 2, 1) := by decide +kernel
theorem dX0_verdict_1 : decode cX0_verdict 1 = .ok (.aload_n 0, 1) := by decide +kernel
theorem dX0_verdict_2 : decode cX0_verdict 2 = .ok (.getfield 9, 3) := by decide +kernel
theorem dX0_verdict_5 : decode cX0_verdict 5 = .ok (.getfield 103, 3) := by decide +kernel
theorem dX0_verdict_8 : decode cX0_verdict 8 = .ok (.iload_n 1, 1) := by decide +kernel
theorem dX0_verdict_9 : decode cX0_verdict 9 = .ok (.iconst 4, 1) := by decide +kernel
theorem dX0_verdict_10 : decode cX0_verdict 10 = .ok (.invokevirtual 106, 3) := by decide +kernel
theorem dX0_verdict_13 : decode cX0_verdict 13 = .ok (.isub, 1) := by decide +kernel
theorem dX0_verdict_14 : decode cX0_verdict 14 = .ok (.invokestatic 129, 3) := by decide +kernel
theorem dX0_verdict_17 : decode cX0_verdict 17 = .ok (.istore 5, 2) := by decide +kernel
theorem dX0_verdict_19 : decode cX0_verdict 19 = .ok (.iload 5, 2) := by decide +kernel
theorem dX0_verdict_21 : decode cX0_verdict 21 = .ok (.iload 4, 2) := by decide +kernel
theorem dX0_verdict_23 : decode cX0_verdict 23 = .ok (.iadd, 1) := by decide +kernel
theorem dX0_verdict_24 : decode cX0_verdict 24 = .ok (.iload_n 3, 1) := by decide +kernel
theorem dX0_verdict_25 : decode cX0_verdict 25 = .ok (.if_icmp .gt 5, 3) := by decide +kernel
theorem dX0_verdict_28 : decode cX0_verdict 28 = .ok (.iconst 2, 1) := by decide +kernel
theorem dX0_verdict_29 : decode cX0_verdict 29 = .ok (.ireturn, 1) := by decide +kernel
theorem dX0_verdict_30 : decode cX0_verdict 30 = .ok (.iload 5, 2) := by decide +kernel
theorem dX0_verdict_32 : decode cX0_verdict 32 = .ok (.iload 4, 2) := by decide +kernel
theorem dX0_verdict_34 : decode cX0_verdict 34 = .ok (.isub, 1) := by decide +kernel
theorem dX0_verdict_35 : decode cX0_verdict 35 = .ok (.iload_n 3, 1) := by decide +kernel
theorem dX0_verdict_36 : decode cX0_verdict 36 = .ok (.if_icmp .le 7, 3) := by decide +kernel
theorem dX0_verdict_39 : decode cX0_verdict 39 = .ok (.iconst 0, 1) := by decide +kernel
theorem dX0_verdict_40 : decode cX0_verdict 40 = .ok (.goto 4, 3) := by decide +kernel
theorem dX0_verdict_43 : decode cX0_verdict 43 = .ok (.iconst 1, 1) := by decide +kernel
theorem dX0_verdict_44 : decode cX0_verdict 44 = .ok (.ireturn, 1) := by decide +kernel
theorem dX0_growthSince_0 : decode cX0_growthSince 0 = .ok (.aload_n 0, 1) := by decide +kernel
theorem dX0_growthSince_1 : decode cX0_growthSince 1 = .ok (.getfield 9, 3) := by decide +kernel
theorem dX0_growthSince_4 : decode cX0_growthSince 4 = .ok (.getfield 58, 3) := by decide +kernel
theorem dX0_growthSince_7 : decode cX0_growthSince 7 = .ok (.aload_n 0, 1) := by decide +kernel
theorem dX0_growthSince_8 : decode cX0_growthSince 8 = .ok (.getfield 9, 3) := by decide +kernel
theorem dX0_growthSince_11 : decode cX0_growthSince 11 = .ok (.getfield 103, 3) := by decide +kernel
theorem dX0_growthSince_14 : decode cX0_growthSince 14 = .ok (.iload_n 1, 1) := by decide +kernel
theorem dX0_growthSince_15 : decode cX0_growthSince 15 = .ok (.iconst 3, 1) := by decide +kernel
theorem dX0_growthSince_16 : decode cX0_growthSince 16 = .ok (.invokevirtual 106, 3) := by decide +kernel
theorem dX0_growthSince_19 : decode cX0_growthSince 19 = .ok (.isub, 1) := by decide +kernel
theorem dX0_growthSince_20 : decode cX0_growthSince 20 = .ok (.istore_n 3, 1) := by decide +kernel
theorem dX0_growthSince_21 : decode cX0_growthSince 21 = .ok (.aload_n 0, 1) := by decide +kernel
theorem dX0_growthSince_22 : decode cX0_growthSince 22 = .ok (.getfield 9, 3) := by decide +kernel
theorem dX0_growthSince_25 : decode cX0_growthSince 25 = .ok (.getfield 49, 3) := by decide +kernel
theorem dX0_growthSince_28 : decode cX0_growthSince 28 = .ok (.iload_n 2, 1) := by decide +kernel
theorem dX0_growthSince_29 : decode cX0_growthSince 29 = .ok (.iconst 3, 1) := by decide +kernel
theorem dX0_growthSince_30 : decode cX0_growthSince 30 = .ok (.invokevirtual 106, 3) := by decide +kernel
theorem dX0_growthSince_33 : decode cX0_growthSince 33 = .ok (.iload_n 3, 1) := by decide +kernel
theorem dX0_growthSince_34 : decode cX0_growthSince 34 = .ok (.imul, 1) := by decide +kernel
theorem dX0_growthSince_35 : decode cX0_growthSince 35 = .ok (.bipush 100, 2) := by decide +kernel
theorem dX0_growthSince_37 : decode cX0_growthSince 37 = .ok (.invokestatic 100, 3) := by decide +kernel
theorem dX0_growthSince_40 : decode cX0_growthSince 40 = .ok (.istore 4, 2) := by decide +kernel
theorem dX0_growthSince_42 : decode cX0_growthSince 42 = .ok (.iload 4, 2) := by decide +kernel
theorem dX0_growthSince_44 : decode cX0_growthSince 44 = .ok (.iload 4, 2) := by decide +kernel
theorem dX0_growthSince_46 : decode cX0_growthSince 46 = .ok (.imul, 1) := by decide +kernel
theorem dX0_growthSince_47 : decode cX0_growthSince 47 = .ok (.ireturn, 1) := by decide +kernel
theorem dX0_charge_0 : decode cX0_charge 0 = .ok (.aload_n 0, 1) := by decide +kernel
theorem dX0_charge_1 : decode cX0_charge 1 = .ok (.getfield 9, 3) := by decide +kernel
theorem dX0_charge_4 : decode cX0_charge 4 = .ok (.getfield 49, 3) := by decide +kernel
theorem dX0_charge_7 : decode cX0_charge 7 = .ok (.iload_n 1, 1) := by decide +kernel
theorem dX0_charge_8 : decode cX0_charge 8 = .ok (.bipush 6, 2) := by decide +kernel
theorem dX0_charge_10 : decode cX0_charge 10 = .ok (.aload_n 0, 1) := by decide +kernel
theorem dX0_charge_11 : decode cX0_charge 11 = .ok (.getfield 9, 3) := by decide +kernel
theorem dX0_charge_14 : decode cX0_charge 14 = .ok (.getfield 49, 3) := by decide +kernel
theorem dX0_charge_17 : decode cX0_charge 17 = .ok (.iload_n 1, 1) := by decide +kernel
theorem dX0_charge_18 : decode cX0_charge 18 = .ok (.bipush 6, 2) := by decide +kernel
theorem dX0_charge_20 : decode cX0_charge 20 = .ok (.invokevirtual 106, 3) := by decide +kernel
theorem dX0_charge_23 : decode cX0_charge 23 = .ok (.iload_n 2, 1) := by decide +kernel
theorem dX0_charge_24 : decode cX0_charge 24 = .ok (.iadd, 1) := by decide +kernel
theorem dX0_charge_25 : decode cX0_charge 25 = .ok (.invokevirtual 90, 3) := by decide +kernel
theorem dX0_charge_28 : decode cX0_charge 28 = .ok (.return_, 1) := by decide +kernel
theorem dX0_partDivisor_0 : decode cX0_partDivisor 0 = .ok (.iload_n 0, 1) := by decide +kernel
theorem dX0_partDivisor_1 : decode cX0_partDivisor 1 = .ok (.tableswitch 34 0 2 #[27, 29, 31], 27) := by decide +kernel
theorem dX0_partDivisor_28 : decode cX0_partDivisor 28 = .ok (.iconst 1, 1) := by decide +kernel
theorem dX0_partDivisor_29 : decode cX0_partDivisor 29 = .ok (.ireturn, 1) := by decide +kernel
theorem dX0_partDivisor_30 : decode cX0_partDivisor 30 = .ok (.iconst 3, 1) := by decide +kernel
theorem dX0_partDivisor_31 : decode cX0_partDivisor 31 = .ok (.ireturn, 1) := by decide +kernel
theorem dX0_partDivisor_32 : decode cX0_partDivisor 32 = .ok (.bipush 6, 2) := by decide +kernel
theorem dX0_partDivisor_34 : decode cX0_partDivisor 34 = .ok (.ireturn, 1) := by decide +kernel
theorem dX0_partDivisor_35 : decode cX0_partDivisor 35 = .ok (.iconst 2, 1) := by decide +kernel
theorem dX0_partDivisor_36 : decode cX0_partDivisor 36 = .ok (.ireturn, 1) := by decide +kernel
theorem dX0_rootUp_0 : decode cX0_rootUp 0 = .ok (.iconst 0, 1) := by decide +kernel
theorem dX0_rootUp_1 : decode cX0_rootUp 1 = .ok (.istore_n 1, 1) := by decide +kernel
theorem dX0_rootUp_2 : decode cX0_rootUp 2 = .ok (.ldc 164, 2) := by decide +kernel
theorem dX0_rootUp_4 : decode cX0_rootUp 4 = .ok (.istore_n 2, 1) := by decide +kernel
theorem dX0_rootUp_5 : decode cX0_rootUp 5 = .ok (.iconst 0, 1) := by decide +kernel
theorem dX0_rootUp_6 : decode cX0_rootUp 6 = .ok (.istore_n 3, 1) := by decide +kernel
theorem dX0_rootUp_7 : decode cX0_rootUp 7 = .ok (.iload_n 3, 1) := by decide +kernel
theorem dX0_rootUp_8 : decode cX0_rootUp 8 = .ok (.bipush 16, 2) := by decide +kernel
theorem dX0_rootUp_10 : decode cX0_rootUp 10 = .ok (.if_icmp .ge 41, 3) := by decide +kernel
theorem dX0_rootUp_13 : decode cX0_rootUp 13 = .ok (.iload_n 1, 1) := by decide +kernel
theorem dX0_rootUp_14 : decode cX0_rootUp 14 = .ok (.iload_n 2, 1) := by decide +kernel
theorem dX0_rootUp_15 : decode cX0_rootUp 15 = .ok (.if_icmp .ge 36, 3) := by decide +kernel
theorem dX0_rootUp_18 : decode cX0_rootUp 18 = .ok (.iload_n 1, 1) := by decide +kernel
theorem dX0_rootUp_19 : decode cX0_rootUp 19 = .ok (.iload_n 2, 1) := by decide +kernel
theorem dX0_rootUp_20 : decode cX0_rootUp 20 = .ok (.iadd, 1) := by decide +kernel
theorem dX0_rootUp_21 : decode cX0_rootUp 21 = .ok (.iconst 2, 1) := by decide +kernel
theorem dX0_rootUp_22 : decode cX0_rootUp 22 = .ok (.idiv, 1) := by decide +kernel
theorem dX0_rootUp_23 : decode cX0_rootUp 23 = .ok (.istore 4, 2) := by decide +kernel
theorem dX0_rootUp_25 : decode cX0_rootUp 25 = .ok (.iload 4, 2) := by decide +kernel
theorem dX0_rootUp_27 : decode cX0_rootUp 27 = .ok (.iload 4, 2) := by decide +kernel
theorem dX0_rootUp_29 : decode cX0_rootUp 29 = .ok (.imul, 1) := by decide +kernel
theorem dX0_rootUp_30 : decode cX0_rootUp 30 = .ok (.iload_n 0, 1) := by decide +kernel
theorem dX0_rootUp_31 : decode cX0_rootUp 31 = .ok (.if_icmp .lt 9, 3) := by decide +kernel
theorem dX0_rootUp_34 : decode cX0_rootUp 34 = .ok (.iload 4, 2) := by decide +kernel
theorem dX0_rootUp_36 : decode cX0_rootUp 36 = .ok (.istore_n 2, 1) := by decide +kernel
theorem dX0_rootUp_37 : decode cX0_rootUp 37 = .ok (.goto 8, 3) := by decide +kernel
theorem dX0_rootUp_40 : decode cX0_rootUp 40 = .ok (.iload 4, 2) := by decide +kernel
theorem dX0_rootUp_42 : decode cX0_rootUp 42 = .ok (.iconst 1, 1) := by decide +kernel
theorem dX0_rootUp_43 : decode cX0_rootUp 43 = .ok (.iadd, 1) := by decide +kernel
theorem dX0_rootUp_44 : decode cX0_rootUp 44 = .ok (.istore_n 1, 1) := by decide +kernel
theorem dX0_rootUp_45 : decode cX0_rootUp 45 = .ok (.iinc 3 1, 3) := by decide +kernel
theorem dX0_rootUp_48 : decode cX0_rootUp 48 = .ok (.goto (-41), 3) := by decide +kernel
theorem dX0_rootUp_51 : decode cX0_rootUp 51 = .ok (.iload_n 1, 1) := by decide +kernel
theorem dX0_rootUp_52 : decode cX0_rootUp 52 = .ok (.ireturn, 1) := by decide +kernel
theorem dX1_init_0 : decode cX1_init 0 = .ok (.aload_n 0, 1) := by decide +kernel
theorem dX1_init_1 : decode cX1_init 1 = .ok (.invokespecial 3, 3) := by decide +kernel
theorem dX1_init_4 : decode cX1_init 4 = .ok (.aload_n 0, 1) := by decide +kernel
theorem dX1_init_5 : decode cX1_init 5 = .ok (.bipush 60, 2) := by decide +kernel
theorem dX1_init_7 : decode cX1_init 7 = .ok (.newarray .boolean, 2) := by decide +kernel
theorem dX1_init_9 : decode cX1_init 9 = .ok (.putfield 9, 3) := by decide +kernel
theorem dX1_init_12 : decode cX1_init 12 = .ok (.aload_n 0, 1) := by decide +kernel
theorem dX1_init_13 : decode cX1_init 13 = .ok (.aload_n 1, 1) := by decide +kernel
theorem dX1_init_14 : decode cX1_init 14 = .ok (.putfield 15, 3) := by decide +kernel
theorem dX1_init_17 : decode cX1_init 17 = .ok (.return_, 1) := by decide +kernel
theorem dX1_isGood_0 : decode cX1_isGood 0 = .ok (.aload_n 0, 1) := by decide +kernel
theorem dX1_isGood_1 : decode cX1_isGood 1 = .ok (.getfield 15, 3) := by decide +kernel
theorem dX1_isGood_4 : decode cX1_isGood 4 = .ok (.getfield 19, 3) := by decide +kernel
theorem dX1_isGood_7 : decode cX1_isGood 7 = .ok (.iload_n 1, 1) := by decide +kernel
theorem dX1_isGood_8 : decode cX1_isGood 8 = .ok (.bipush 11, 2) := by decide +kernel
theorem dX1_isGood_10 : decode cX1_isGood 10 = .ok (.invokevirtual 25, 3) := by decide +kernel
theorem dX1_isGood_13 : decode cX1_isGood 13 = .ok (.ifCond .ne 7, 3) := by decide +kernel
theorem dX1_isGood_16 : decode cX1_isGood 16 = .ok (.iconst 1, 1) := by decide +kernel
theorem dX1_isGood_17 : decode cX1_isGood 17 = .ok (.goto 4, 3) := by decide +kernel
theorem dX1_isGood_20 : decode cX1_isGood 20 = .ok (.iconst 0, 1) := by decide +kernel
theorem dX1_isGood_21 : decode cX1_isGood 21 = .ok (.ireturn, 1) := by decide +kernel
theorem dX1_current_0 : decode cX1_current 0 = .ok (.aload_n 0, 1) := by decide +kernel
theorem dX1_current_1 : decode cX1_current 1 = .ok (.iload_n 1, 1) := by decide +kernel
theorem dX1_current_2 : decode cX1_current 2 = .ok (.aload_n 0, 1) := by decide +kernel
theorem dX1_current_3 : decode cX1_current 3 = .ok (.getfield 15, 3) := by decide +kernel
theorem dX1_current_6 : decode cX1_current 6 = .ok (.getfield 19, 3) := by decide +kernel
theorem dX1_current_9 : decode cX1_current 9 = .ok (.invokevirtual 31, 3) := by decide +kernel
theorem dX1_current_12 : decode cX1_current 12 = .ok (.sipush 9999, 3) := by decide +kernel
theorem dX1_current_15 : decode cX1_current 15 = .ok (.invokevirtual 35, 3) := by decide +kernel
theorem dX1_current_18 : decode cX1_current 18 = .ok (.ireturn, 1) := by decide +kernel
theorem dX1_latestGood_0 : decode cX1_latestGood 0 = .ok (.aload_n 0, 1) := by decide +kernel
theorem dX1_latestGood_1 : decode cX1_latestGood 1 = .ok (.getfield 15, 3) := by decide +kernel
theorem dX1_latestGood_4 : decode cX1_latestGood 4 = .ok (.getfield 19, 3) := by decide +kernel
theorem dX1_latestGood_7 : decode cX1_latestGood 7 = .ok (.astore 4, 2) := by decide +kernel
theorem dX1_latestGood_9 : decode cX1_latestGood 9 = .ok (.iload_n 2, 1) := by decide +kernel
theorem dX1_latestGood_10 : decode cX1_latestGood 10 = .ok (.iconst 1, 1) := by decide +kernel
theorem dX1_latestGood_11 : decode cX1_latestGood 11 = .ok (.isub, 1) := by decide +kernel
theorem dX1_latestGood_12 : decode cX1_latestGood 12 = .ok (.istore 5, 2) := by decide +kernel
theorem dX1_latestGood_14 : decode cX1_latestGood 14 = .ok (.iload 5, 2) := by decide +kernel
theorem dX1_latestGood_16 : decode cX1_latestGood 16 = .ok (.ifCond .lt 48, 3) := by decide +kernel
theorem dX1_latestGood_19 : decode cX1_latestGood 19 = .ok (.aload 4, 2) := by decide +kernel
theorem dX1_latestGood_21 : decode cX1_latestGood 21 = .ok (.iload 5, 2) := by decide +kernel
theorem dX1_latestGood_23 : decode cX1_latestGood 23 = .ok (.iconst 0, 1) := by decide +kernel
theorem dX1_latestGood_24 : decode cX1_latestGood 24 = .ok (.invokevirtual 25, 3) := by decide +kernel
theorem dX1_latestGood_27 : decode cX1_latestGood 27 = .ok (.iload_n 1, 1) := by decide +kernel
theorem dX1_latestGood_28 : decode cX1_latestGood 28 = .ok (.if_icmp .ne 30, 3) := by decide +kernel
theorem dX1_latestGood_31 : decode cX1_latestGood 31 = .ok (.aload 4, 2) := by decide +kernel
theorem dX1_latestGood_33 : decode cX1_latestGood 33 = .ok (.iload 5, 2) := by decide +kernel
theorem dX1_latestGood_35 : decode cX1_latestGood 35 = .ok (.bipush 11, 2) := by decide +kernel
theorem dX1_latestGood_37 : decode cX1_latestGood 37 = .ok (.invokevirtual 25, 3) := by decide +kernel
theorem dX1_latestGood_40 : decode cX1_latestGood 40 = .ok (.ifCond .ne 18, 3) := by decide +kernel
theorem dX1_latestGood_43 : decode cX1_latestGood 43 = .ok (.aload 4, 2) := by decide +kernel
theorem dX1_latestGood_45 : decode cX1_latestGood 45 = .ok (.iload 5, 2) := by decide +kernel
theorem dX1_latestGood_47 : decode cX1_latestGood 47 = .ok (.iconst 3, 1) := by decide +kernel
theorem dX1_latestGood_48 : decode cX1_latestGood 48 = .ok (.invokevirtual 25, 3) := by decide +kernel
theorem dX1_latestGood_51 : decode cX1_latestGood 51 = .ok (.iload_n 3, 1) := by decide +kernel
theorem dX1_latestGood_52 : decode cX1_latestGood 52 = .ok (.if_icmp .gt 6, 3) := by decide +kernel
theorem dX1_latestGood_55 : decode cX1_latestGood 55 = .ok (.iload 5, 2) := by decide +kernel
theorem dX1_latestGood_57 : decode cX1_latestGood 57 = .ok (.ireturn, 1) := by decide +kernel
theorem dX1_latestGood_58 : decode cX1_latestGood 58 = .ok (.iinc 5 (-1), 3) := by decide +kernel
theorem dX1_latestGood_61 : decode cX1_latestGood 61 = .ok (.goto (-47), 3) := by decide +kernel
theorem dX1_latestGood_64 : decode cX1_latestGood 64 = .ok (.iconst (-1), 1) := by decide +kernel
theorem dX1_latestGood_65 : decode cX1_latestGood 65 = .ok (.ireturn, 1) := by decide +kernel
theorem dX1_renew_0 : decode cX1_renew 0 = .ok (.aload_n 0, 1) := by decide +kernel
theorem dX1_renew_1 : decode cX1_renew 1 = .ok (.getfield 15, 3) := by decide +kernel
theorem dX1_renew_4 : decode cX1_renew 4 = .ok (.getfield 19, 3) := by decide +kernel
theorem dX1_renew_7 : decode cX1_renew 7 = .ok (.astore_n 1, 1) := by decide +kernel
theorem dX1_renew_8 : decode cX1_renew 8 = .ok (.iconst 0, 1) := by decide +kernel
theorem dX1_renew_9 : decode cX1_renew 9 = .ok (.istore_n 2, 1) := by decide +kernel
theorem dX1_renew_10 : decode cX1_renew 10 = .ok (.iload_n 2, 1) := by decide +kernel
theorem dX1_renew_11 : decode cX1_renew 11 = .ok (.aload_n 1, 1) := by decide +kernel
theorem dX1_renew_12 : decode cX1_renew 12 = .ok (.invokevirtual 31, 3) := by decide +kernel
theorem dX1_renew_15 : decode cX1_renew 15 = .ok (.if_icmp .ge 62, 3) := by decide +kernel
theorem dX1_renew_18 : decode cX1_renew 18 = .ok (.aload_n 1, 1) := by decide +kernel
theorem dX1_renew_19 : decode cX1_renew 19 = .ok (.iload_n 2, 1) := by decide +kernel
theorem dX1_renew_20 : decode cX1_renew 20 = .ok (.iconst 2, 1) := by decide +kernel
theorem dX1_renew_21 : decode cX1_renew 21 = .ok (.invokevirtual 25, 3) := by decide +kernel
theorem dX1_renew_24 : decode cX1_renew 24 = .ok (.istore_n 3, 1) := by decide +kernel
theorem dX1_renew_25 : decode cX1_renew 25 = .ok (.iload_n 3, 1) := by decide +kernel
theorem dX1_renew_26 : decode cX1_renew 26 = .ok (.ifCond .lt 17, 3) := by decide +kernel
theorem dX1_renew_29 : decode cX1_renew 29 = .ok (.aload_n 1, 1) := by decide +kernel
theorem dX1_renew_30 : decode cX1_renew 30 = .ok (.iload_n 3, 1) := by decide +kernel
theorem dX1_renew_31 : decode cX1_renew 31 = .ok (.bipush 11, 2) := by decide +kernel
theorem dX1_renew_33 : decode cX1_renew 33 = .ok (.invokevirtual 25, 3) := by decide +kernel
theorem dX1_renew_36 : decode cX1_renew 36 = .ok (.ifCond .eq 7, 3) := by decide +kernel
theorem dX1_renew_39 : decode cX1_renew 39 = .ok (.iconst 1, 1) := by decide +kernel
theorem dX1_renew_40 : decode cX1_renew 40 = .ok (.goto 4, 3) := by decide +kernel
theorem dX1_renew_43 : decode cX1_renew 43 = .ok (.iconst 0, 1) := by decide +kernel
theorem dX1_renew_44 : decode cX1_renew 44 = .ok (.istore 4, 2) := by decide +kernel
theorem dX1_renew_46 : decode cX1_renew 46 = .ok (.aload_n 1, 1) := by decide +kernel
theorem dX1_renew_47 : decode cX1_renew 47 = .ok (.iload_n 2, 1) := by decide +kernel
theorem dX1_renew_48 : decode cX1_renew 48 = .ok (.bipush 11, 2) := by decide +kernel
theorem dX1_renew_50 : decode cX1_renew 50 = .ok (.iload 4, 2) := by decide +kernel
theorem dX1_renew_52 : decode cX1_renew 52 = .ok (.ifCond .ne 11, 3) := by decide +kernel
theorem dX1_renew_55 : decode cX1_renew 55 = .ok (.aload_n 0, 1) := by decide +kernel
theorem dX1_renew_56 : decode cX1_renew 56 = .ok (.iload_n 2, 1) := by decide +kernel
theorem dX1_renew_57 : decode cX1_renew 57 = .ok (.invokevirtual 39, 3) := by decide +kernel
theorem dX1_renew_60 : decode cX1_renew 60 = .ok (.ifCond .eq 7, 3) := by decide +kernel
theorem dX1_renew_63 : decode cX1_renew 63 = .ok (.iconst 1, 1) := by decide +kernel
theorem dX1_renew_64 : decode cX1_renew 64 = .ok (.goto 4, 3) := by decide +kernel
theorem dX1_renew_67 : decode cX1_renew 67 = .ok (.iconst 0, 1) := by decide +kernel
theorem dX1_renew_68 : decode cX1_renew 68 = .ok (.invokevirtual 43, 3) := by decide +kernel
theorem dX1_renew_71 : decode cX1_renew 71 = .ok (.iinc 2 1, 3) := by decide +kernel
theorem dX1_renew_74 : decode cX1_renew 74 = .ok (.goto (-64), 3) := by decide +kernel
theorem dX1_renew_77 : decode cX1_renew 77 = .ok (.return_, 1) := by decide +kernel
theorem dX1_countCovered_0 : decode cX1_countCovered 0 = .ok (.aload_n 0, 1) := by decide +kernel
theorem dX1_countCovered_1 : decode cX1_countCovered 1 = .ok (.getfield 15, 3) := by decide +kernel
theorem dX1_countCovered_4 : decode cX1_countCovered 4 = .ok (.getfield 47, 3) := by decide +kernel
theorem dX1_countCovered_7 : decode cX1_countCovered 7 = .ok (.iload_n 1, 1) := by decide +kernel
theorem dX1_countCovered_8 : decode cX1_countCovered 8 = .ok (.iconst 0, 1) := by decide +kernel
theorem dX1_countCovered_9 : decode cX1_countCovered 9 = .ok (.invokevirtual 25, 3) := by decide +kernel
theorem dX1_countCovered_12 : decode cX1_countCovered 12 = .ok (.istore_n 2, 1) := by decide +kernel
theorem dX1_countCovered_13 : decode cX1_countCovered 13 = .ok (.aload_n 0, 1) := by decide +kernel
theorem dX1_countCovered_14 : decode cX1_countCovered 14 = .ok (.getfield 15, 3) := by decide +kernel
theorem dX1_countCovered_17 : decode cX1_countCovered 17 = .ok (.getfield 47, 3) := by decide +kernel
theorem dX1_countCovered_20 : decode cX1_countCovered 20 = .ok (.iload_n 1, 1) := by decide +kernel
theorem dX1_countCovered_21 : decode cX1_countCovered 21 = .ok (.iconst 1, 1) := by decide +kernel
theorem dX1_countCovered_22 : decode cX1_countCovered 22 = .ok (.invokevirtual 25, 3) := by decide +kernel
theorem dX1_countCovered_25 : decode cX1_countCovered 25 = .ok (.istore_n 3, 1) := by decide +kernel
theorem dX1_countCovered_26 : decode cX1_countCovered 26 = .ok (.aload_n 0, 1) := by decide +kernel
theorem dX1_countCovered_27 : decode cX1_countCovered 27 = .ok (.getfield 15, 3) := by decide +kernel
theorem dX1_countCovered_30 : decode cX1_countCovered 30 = .ok (.getfield 47, 3) := by decide +kernel
theorem dX1_countCovered_33 : decode cX1_countCovered 33 = .ok (.iload_n 1, 1) := by decide +kernel
theorem dX1_countCovered_34 : decode cX1_countCovered 34 = .ok (.iconst 2, 1) := by decide +kernel
theorem dX1_countCovered_35 : decode cX1_countCovered 35 = .ok (.invokevirtual 25, 3) := by decide +kernel
theorem dX1_countCovered_38 : decode cX1_countCovered 38 = .ok (.istore 4, 2) := by decide +kernel
theorem dX1_countCovered_40 : decode cX1_countCovered 40 = .ok (.iconst 0, 1) := by decide +kernel
theorem dX1_countCovered_41 : decode cX1_countCovered 41 = .ok (.istore 5, 2) := by decide +kernel
theorem dX1_countCovered_43 : decode cX1_countCovered 43 = .ok (.iconst 0, 1) := by decide +kernel
theorem dX1_countCovered_44 : decode cX1_countCovered 44 = .ok (.istore 6, 2) := by decide +kernel
theorem dX1_countCovered_46 : decode cX1_countCovered 46 = .ok (.iload 6, 2) := by decide +kernel
theorem dX1_countCovered_48 : decode cX1_countCovered 48 = .ok (.aload_n 0, 1) := by decide +kernel
theorem dX1_countCovered_49 : decode cX1_countCovered 49 = .ok (.getfield 15, 3) := by decide +kernel
theorem dX1_countCovered_52 : decode cX1_countCovered 52 = .ok (.getfield 19, 3) := by decide +kernel
theorem dX1_countCovered_55 : decode cX1_countCovered 55 = .ok (.invokevirtual 31, 3) := by decide +kernel
theorem dX1_countCovered_58 : decode cX1_countCovered 58 = .ok (.if_icmp .ge 25, 3) := by decide +kernel
theorem dX1_countCovered_61 : decode cX1_countCovered 61 = .ok (.aload_n 0, 1) := by decide +kernel
theorem dX1_countCovered_62 : decode cX1_countCovered 62 = .ok (.iload_n 2, 1) := by decide +kernel
theorem dX1_countCovered_63 : decode cX1_countCovered 63 = .ok (.iload_n 3, 1) := by decide +kernel
theorem dX1_countCovered_64 : decode cX1_countCovered 64 = .ok (.iload 4, 2) := by decide +kernel
theorem dX1_countCovered_66 : decode cX1_countCovered 66 = .ok (.iload 6, 2) := by decide +kernel
theorem dX1_countCovered_68 : decode cX1_countCovered 68 = .ok (.invokevirtual 50, 3) := by decide +kernel
theorem dX1_countCovered_71 : decode cX1_countCovered 71 = .ok (.ifCond .eq 6, 3) := by decide +kernel
theorem dX1_countCovered_74 : decode cX1_countCovered 74 = .ok (.iinc 5 1, 3) := by decide +kernel
theorem dX1_countCovered_77 : decode cX1_countCovered 77 = .ok (.iinc 6 1, 3) := by decide +kernel
theorem dX1_countCovered_80 : decode cX1_countCovered 80 = .ok (.goto (-34), 3) := by decide +kernel
theorem dX1_countCovered_83 : decode cX1_countCovered 83 = .ok (.iload 5, 2) := by decide +kernel
theorem dX1_countCovered_85 : decode cX1_countCovered 85 = .ok (.ireturn, 1) := by decide +kernel
theorem dX1_lastCovered_0 : decode cX1_lastCovered 0 = .ok (.iconst (-1), 1) := by decide +kernel
theorem dX1_lastCovered_1 : decode cX1_lastCovered 1 = .ok (.istore_n 2, 1) := by decide +kernel
theorem dX1_lastCovered_2 : decode cX1_lastCovered 2 = .ok (.iload_n 1, 1) := by decide +kernel
theorem dX1_lastCovered_3 : decode cX1_lastCovered 3 = .ok (.istore_n 3, 1) := by decide +kernel
theorem dX1_lastCovered_4 : decode cX1_lastCovered 4 = .ok (.iconst 0, 1) := by decide +kernel
theorem dX1_lastCovered_5 : decode cX1_lastCovered 5 = .ok (.istore 4, 2) := by decide +kernel
theorem dX1_lastCovered_7 : decode cX1_lastCovered 7 = .ok (.iload 4, 2) := by decide +kernel
theorem dX1_lastCovered_9 : decode cX1_lastCovered 9 = .ok (.bipush 60, 2) := by decide +kernel
theorem dX1_lastCovered_11 : decode cX1_lastCovered 11 = .ok (.if_icmp .ge 36, 3) := by decide +kernel
theorem dX1_lastCovered_14 : decode cX1_lastCovered 14 = .ok (.iload_n 3, 1) := by decide +kernel
theorem dX1_lastCovered_15 : decode cX1_lastCovered 15 = .ok (.ifCond .lt 32, 3) := by decide +kernel
theorem dX1_lastCovered_18 : decode cX1_lastCovered 18 = .ok (.aload_n 0, 1) := by decide +kernel
theorem dX1_lastCovered_19 : decode cX1_lastCovered 19 = .ok (.iload_n 3, 1) := by decide +kernel
theorem dX1_lastCovered_20 : decode cX1_lastCovered 20 = .ok (.invokevirtual 39, 3) := by decide +kernel
theorem dX1_lastCovered_23 : decode cX1_lastCovered 23 = .ok (.ifCond .eq 5, 3) := by decide +kernel
theorem dX1_lastCovered_26 : decode cX1_lastCovered 26 = .ok (.iload_n 3, 1) := by decide +kernel
theorem dX1_lastCovered_27 : decode cX1_lastCovered 27 = .ok (.istore_n 2, 1) := by decide +kernel
theorem dX1_lastCovered_28 : decode cX1_lastCovered 28 = .ok (.aload_n 0, 1) := by decide +kernel
theorem dX1_lastCovered_29 : decode cX1_lastCovered 29 = .ok (.getfield 15, 3) := by decide +kernel
theorem dX1_lastCovered_32 : decode cX1_lastCovered 32 = .ok (.getfield 19, 3) := by decide +kernel
theorem dX1_lastCovered_35 : decode cX1_lastCovered 35 = .ok (.iload_n 3, 1) := by decide +kernel
theorem dX1_lastCovered_36 : decode cX1_lastCovered 36 = .ok (.iconst 2, 1) := by decide +kernel
theorem dX1_lastCovered_37 : decode cX1_lastCovered 37 = .ok (.invokevirtual 25, 3) := by decide +kernel
theorem dX1_lastCovered_40 : decode cX1_lastCovered 40 = .ok (.istore_n 3, 1) := by decide +kernel
theorem dX1_lastCovered_41 : decode cX1_lastCovered 41 = .ok (.iinc 4 1, 3) := by decide +kernel
theorem dX1_lastCovered_44 : decode cX1_lastCovered 44 = .ok (.goto (-37), 3) := by decide +kernel
theorem dX1_lastCovered_47 : decode cX1_lastCovered 47 = .ok (.iload_n 2, 1) := by decide +kernel
theorem dX1_lastCovered_48 : decode cX1_lastCovered 48 = .ok (.ireturn, 1) := by decide +kernel
theorem dX1_countReached_0 : decode cX1_countReached 0 = .ok (.iconst 0, 1) := by decide +kernel
theorem dX1_countReached_1 : decode cX1_countReached 1 = .ok (.istore 4, 2) := by decide +kernel
theorem dX1_countReached_3 : decode cX1_countReached 3 = .ok (.aload_n 0, 1) := by decide +kernel
theorem dX1_countReached_4 : decode cX1_countReached 4 = .ok (.getfield 9, 3) := by decide +kernel
theorem dX1_countReached_7 : decode cX1_countReached 7 = .ok (.arraylength, 1) := by decide +kernel
theorem dX1_countReached_8 : decode cX1_countReached 8 = .ok (.aload_n 0, 1) := by decide +kernel
theorem dX1_countReached_9 : decode cX1_countReached 9 = .ok (.getfield 15, 3) := by decide +kernel
theorem dX1_countReached_12 : decode cX1_countReached 12 = .ok (.getfield 19, 3) := by decide +kernel
theorem dX1_countReached_15 : decode cX1_countReached 15 = .ok (.invokevirtual 31, 3) := by decide +kernel
theorem dX1_countReached_18 : decode cX1_countReached 18 = .ok (.invokestatic 54, 3) := by decide +kernel
theorem dX1_countReached_21 : decode cX1_countReached 21 = .ok (.istore 5, 2) := by decide +kernel
theorem dX1_countReached_23 : decode cX1_countReached 23 = .ok (.iconst 0, 1) := by decide +kernel
theorem dX1_countReached_24 : decode cX1_countReached 24 = .ok (.istore 6, 2) := by decide +kernel
theorem dX1_countReached_26 : decode cX1_countReached 26 = .ok (.iload 6, 2) := by decide +kernel
theorem dX1_countReached_28 : decode cX1_countReached 28 = .ok (.iload 5, 2) := by decide +kernel
theorem dX1_countReached_30 : decode cX1_countReached 30 = .ok (.if_icmp .ge 107, 3) := by decide +kernel
theorem dX1_countReached_33 : decode cX1_countReached 33 = .ok (.aload_n 0, 1) := by decide +kernel
theorem dX1_countReached_34 : decode cX1_countReached 34 = .ok (.getfield 15, 3) := by decide +kernel
theorem dX1_countReached_37 : decode cX1_countReached 37 = .ok (.getfield 19, 3) := by decide +kernel
theorem dX1_countReached_40 : decode cX1_countReached 40 = .ok (.iload 6, 2) := by decide +kernel
theorem dX1_countReached_42 : decode cX1_countReached 42 = .ok (.iconst 2, 1) := by decide +kernel
theorem dX1_countReached_43 : decode cX1_countReached 43 = .ok (.invokevirtual 25, 3) := by decide +kernel
theorem dX1_countReached_46 : decode cX1_countReached 46 = .ok (.istore 7, 2) := by decide +kernel
theorem dX1_countReached_48 : decode cX1_countReached 48 = .ok (.iload 7, 2) := by decide +kernel
theorem dX1_countReached_50 : decode cX1_countReached 50 = .ok (.ifCond .lt 27, 3) := by decide +kernel
theorem dX1_countReached_53 : decode cX1_countReached 53 = .ok (.iload 7, 2) := by decide +kernel
theorem dX1_countReached_55 : decode cX1_countReached 55 = .ok (.aload_n 0, 1) := by decide +kernel
theorem dX1_countReached_56 : decode cX1_countReached 56 = .ok (.getfield 9, 3) := by decide +kernel
theorem dX1_countReached_59 : decode cX1_countReached 59 = .ok (.arraylength, 1) := by decide +kernel
theorem dX1_countReached_60 : decode cX1_countReached 60 = .ok (.if_icmp .ge 17, 3) := by decide +kernel
theorem dX1_countReached_63 : decode cX1_countReached 63 = .ok (.aload_n 0, 1) := by decide +kernel
theorem dX1_countReached_64 : decode cX1_countReached 64 = .ok (.getfield 9, 3) := by decide +kernel
theorem dX1_countReached_67 : decode cX1_countReached 67 = .ok (.iload 7, 2) := by decide +kernel
theorem dX1_countReached_69 : decode cX1_countReached 69 = .ok (.baload, 1) := by decide +kernel
theorem dX1_countReached_70 : decode cX1_countReached 70 = .ok (.ifCond .eq 7, 3) := by decide +kernel
theorem dX1_countReached_73 : decode cX1_countReached 73 = .ok (.iconst 1, 1) := by decide +kernel
theorem dX1_countReached_74 : decode cX1_countReached 74 = .ok (.goto 4, 3) := by decide +kernel
theorem dX1_countReached_77 : decode cX1_countReached 77 = .ok (.iconst 0, 1) := by decide +kernel
theorem dX1_countReached_78 : decode cX1_countReached 78 = .ok (.istore 8, 2) := by decide +kernel
theorem dX1_countReached_80 : decode cX1_countReached 80 = .ok (.aload_n 0, 1) := by decide +kernel
theorem dX1_countReached_81 : decode cX1_countReached 81 = .ok (.getfield 9, 3) := by decide +kernel
theorem dX1_countReached_84 : decode cX1_countReached 84 = .ok (.iload 6, 2) := by decide +kernel
theorem dX1_countReached_86 : decode cX1_countReached 86 = .ok (.iload 8, 2) := by decide +kernel
theorem dX1_countReached_88 : decode cX1_countReached 88 = .ok (.ifCond .ne 15, 3) := by decide +kernel
theorem dX1_countReached_91 : decode cX1_countReached 91 = .ok (.aload_n 0, 1) := by decide +kernel
theorem dX1_countReached_92 : decode cX1_countReached 92 = .ok (.iload_n 1, 1) := by decide +kernel
theorem dX1_countReached_93 : decode cX1_countReached 93 = .ok (.iload_n 2, 1) := by decide +kernel
theorem dX1_countReached_94 : decode cX1_countReached 94 = .ok (.iload_n 3, 1) := by decide +kernel
theorem dX1_countReached_95 : decode cX1_countReached 95 = .ok (.iload 6, 2) := by decide +kernel
theorem dX1_countReached_97 : decode cX1_countReached 97 = .ok (.invokevirtual 50, 3) := by decide +kernel
theorem dX1_countReached_100 : decode cX1_countReached 100 = .ok (.ifCond .eq 7, 3) := by decide +kernel
theorem dX1_countReached_103 : decode cX1_countReached 103 = .ok (.iconst 1, 1) := by decide +kernel
theorem dX1_countReached_104 : decode cX1_countReached 104 = .ok (.goto 4, 3) := by decide +kernel
theorem dX1_countReached_107 : decode cX1_countReached 107 = .ok (.iconst 0, 1) := by decide +kernel
theorem dX1_countReached_108 : decode cX1_countReached 108 = .ok (.bastore, 1) := by decide +kernel
theorem dX1_countReached_109 : decode cX1_countReached 109 = .ok (.aload_n 0, 1) := by decide +kernel
theorem dX1_countReached_110 : decode cX1_countReached 110 = .ok (.getfield 9, 3) := by decide +kernel
theorem dX1_countReached_113 : decode cX1_countReached 113 = .ok (.iload 6, 2) := by decide +kernel
theorem dX1_countReached_115 : decode cX1_countReached 115 = .ok (.baload, 1) := by decide +kernel
theorem dX1_countReached_116 : decode cX1_countReached 116 = .ok (.ifCond .eq 15, 3) := by decide +kernel
theorem dX1_countReached_119 : decode cX1_countReached 119 = .ok (.aload_n 0, 1) := by decide +kernel
theorem dX1_countReached_120 : decode cX1_countReached 120 = .ok (.iload 6, 2) := by decide +kernel
theorem dX1_countReached_122 : decode cX1_countReached 122 = .ok (.invokevirtual 59, 3) := by decide +kernel
theorem dX1_countReached_125 : decode cX1_countReached 125 = .ok (.ifCond .eq 6, 3) := by decide +kernel
theorem dX1_countReached_128 : decode cX1_countReached 128 = .ok (.iinc 4 1, 3) := by decide +kernel
theorem dX1_countReached_131 : decode cX1_countReached 131 = .ok (.iinc 6 1, 3) := by decide +kernel
theorem dX1_countReached_134 : decode cX1_countReached 134 = .ok (.goto (-108), 3) := by decide +kernel
theorem dX1_countReached_137 : decode cX1_countReached 137 = .ok (.iload 4, 2) := by decide +kernel
theorem dX1_countReached_139 : decode cX1_countReached 139 = .ok (.ireturn, 1) := by decide +kernel
theorem dX1_countDependents_0 : decode cX1_countDependents 0 = .ok (.iconst 0, 1) := by decide +kernel
theorem dX1_countDependents_1 : decode cX1_countDependents 1 = .ok (.istore_n 2, 1) := by decide +kernel
theorem dX1_countDependents_2 : decode cX1_countDependents 2 = .ok (.aload_n 0, 1) := by decide +kernel
theorem dX1_countDependents_3 : decode cX1_countDependents 3 = .ok (.getfield 9, 3) := by decide +kernel
theorem dX1_countDependents_6 : decode cX1_countDependents 6 = .ok (.arraylength, 1) := by decide +kernel
theorem dX1_countDependents_7 : decode cX1_countDependents 7 = .ok (.aload_n 0, 1) := by decide +kernel
theorem dX1_countDependents_8 : decode cX1_countDependents 8 = .ok (.getfield 15, 3) := by decide +kernel
theorem dX1_countDependents_11 : decode cX1_countDependents 11 = .ok (.getfield 19, 3) := by decide +kernel
theorem dX1_countDependents_14 : decode cX1_countDependents 14 = .ok (.invokevirtual 31, 3) := by decide +kernel
theorem dX1_countDependents_17 : decode cX1_countDependents 17 = .ok (.invokestatic 54, 3) := by decide +kernel
theorem dX1_countDependents_20 : decode cX1_countDependents 20 = .ok (.istore_n 3, 1) := by decide +kernel
theorem dX1_countDependents_21 : decode cX1_countDependents 21 = .ok (.iconst 0, 1) := by decide +kernel
theorem dX1_countDependents_22 : decode cX1_countDependents 22 = .ok (.istore 4, 2) := by decide +kernel
theorem dX1_countDependents_24 : decode cX1_countDependents 24 = .ok (.iload 4, 2) := by decide +kernel
theorem dX1_countDependents_26 : decode cX1_countDependents 26 = .ok (.iload_n 3, 1) := by decide +kernel
theorem dX1_countDependents_27 : decode cX1_countDependents 27 = .ok (.if_icmp .ge 92, 3) := by decide +kernel
theorem dX1_countDependents_30 : decode cX1_countDependents 30 = .ok (.aload_n 0, 1) := by decide +kernel
theorem dX1_countDependents_31 : decode cX1_countDependents 31 = .ok (.getfield 15, 3) := by decide +kernel
theorem dX1_countDependents_34 : decode cX1_countDependents 34 = .ok (.getfield 19, 3) := by decide +kernel
theorem dX1_countDependents_37 : decode cX1_countDependents 37 = .ok (.iload 4, 2) := by decide +kernel
theorem dX1_countDependents_39 : decode cX1_countDependents 39 = .ok (.iconst 2, 1) := by decide +kernel
theorem dX1_countDependents_40 : decode cX1_countDependents 40 = .ok (.invokevirtual 25, 3) := by decide +kernel
theorem dX1_countDependents_43 : decode cX1_countDependents 43 = .ok (.istore 5, 2) := by decide +kernel
theorem dX1_countDependents_45 : decode cX1_countDependents 45 = .ok (.iload 5, 2) := by decide +kernel
theorem dX1_countDependents_47 : decode cX1_countDependents 47 = .ok (.ifCond .lt 27, 3) := by decide +kernel
theorem dX1_countDependents_50 : decode cX1_countDependents 50 = .ok (.iload 5, 2) := by decide +kernel
theorem dX1_countDependents_52 : decode cX1_countDependents 52 = .ok (.aload_n 0, 1) := by decide +kernel
theorem dX1_countDependents_53 : decode cX1_countDependents 53 = .ok (.getfield 9, 3) := by decide +kernel
theorem dX1_countDependents_56 : decode cX1_countDependents 56 = .ok (.arraylength, 1) := by decide +kernel
theorem dX1_countDependents_57 : decode cX1_countDependents 57 = .ok (.if_icmp .ge 17, 3) := by decide +kernel
theorem dX1_countDependents_60 : decode cX1_countDependents 60 = .ok (.aload_n 0, 1) := by decide +kernel
theorem dX1_countDependents_61 : decode cX1_countDependents 61 = .ok (.getfield 9, 3) := by decide +kernel
theorem dX1_countDependents_64 : decode cX1_countDependents 64 = .ok (.iload 5, 2) := by decide +kernel
theorem dX1_countDependents_66 : decode cX1_countDependents 66 = .ok (.baload, 1) := by decide +kernel
theorem dX1_countDependents_67 : decode cX1_countDependents 67 = .ok (.ifCond .eq 7, 3) := by decide +kernel
theorem dX1_countDependents_70 : decode cX1_countDependents 70 = .ok (.iconst 1, 1) := by decide +kernel
theorem dX1_countDependents_71 : decode cX1_countDependents 71 = .ok (.goto 4, 3) := by decide +kernel
theorem dX1_countDependents_74 : decode cX1_countDependents 74 = .ok (.iconst 0, 1) := by decide +kernel
theorem dX1_countDependents_75 : decode cX1_countDependents 75 = .ok (.istore 6, 2) := by decide +kernel
theorem dX1_countDependents_77 : decode cX1_countDependents 77 = .ok (.aload_n 0, 1) := by decide +kernel
theorem dX1_countDependents_78 : decode cX1_countDependents 78 = .ok (.getfield 9, 3) := by decide +kernel
theorem dX1_countDependents_81 : decode cX1_countDependents 81 = .ok (.iload 4, 2) := by decide +kernel
theorem dX1_countDependents_83 : decode cX1_countDependents 83 = .ok (.iload 6, 2) := by decide +kernel
theorem dX1_countDependents_85 : decode cX1_countDependents 85 = .ok (.ifCond .ne 9, 3) := by decide +kernel
theorem dX1_countDependents_88 : decode cX1_countDependents 88 = .ok (.iload 5, 2) := by decide +kernel
theorem dX1_countDependents_90 : decode cX1_countDependents 90 = .ok (.iload_n 1, 1) := by decide +kernel
theorem dX1_countDependents_91 : decode cX1_countDependents 91 = .ok (.if_icmp .ne 7, 3) := by decide +kernel
theorem dX1_countDependents_94 : decode cX1_countDependents 94 = .ok (.iconst 1, 1) := by decide +kernel
theorem dX1_countDependents_95 : decode cX1_countDependents 95 = .ok (.goto 4, 3) := by decide +kernel
theorem dX1_countDependents_98 : decode cX1_countDependents 98 = .ok (.iconst 0, 1) := by decide +kernel
theorem dX1_countDependents_99 : decode cX1_countDependents 99 = .ok (.bastore, 1) := by decide +kernel
theorem dX1_countDependents_100 : decode cX1_countDependents 100 = .ok (.aload_n 0, 1) := by decide +kernel
theorem dX1_countDependents_101 : decode cX1_countDependents 101 = .ok (.getfield 9, 3) := by decide +kernel
theorem dX1_countDependents_104 : decode cX1_countDependents 104 = .ok (.iload 4, 2) := by decide +kernel
theorem dX1_countDependents_106 : decode cX1_countDependents 106 = .ok (.baload, 1) := by decide +kernel
theorem dX1_countDependents_107 : decode cX1_countDependents 107 = .ok (.ifCond .eq 6, 3) := by decide +kernel
theorem dX1_countDependents_110 : decode cX1_countDependents 110 = .ok (.iinc 2 1, 3) := by decide +kernel
theorem dX1_countDependents_113 : decode cX1_countDependents 113 = .ok (.iinc 4 1, 3) := by decide +kernel
theorem dX1_countDependents_116 : decode cX1_countDependents 116 = .ok (.goto (-92), 3) := by decide +kernel
theorem dX1_countDependents_119 : decode cX1_countDependents 119 = .ok (.iload_n 2, 1) := by decide +kernel
theorem dX1_countDependents_120 : decode cX1_countDependents 120 = .ok (.ireturn, 1) := by decide +kernel
theorem dX1_isCovered_0 : decode cX1_isCovered 0 = .ok (.aload_n 0, 1) := by decide +kernel
theorem dX1_isCovered_1 : decode cX1_isCovered 1 = .ok (.getfield 15, 3) := by decide +kernel
theorem dX1_isCovered_4 : decode cX1_isCovered 4 = .ok (.getfield 47, 3) := by decide +kernel
theorem dX1_isCovered_7 : decode cX1_isCovered 7 = .ok (.astore_n 2, 1) := by decide +kernel
theorem dX1_isCovered_8 : decode cX1_isCovered 8 = .ok (.iconst 0, 1) := by decide +kernel
theorem dX1_isCovered_9 : decode cX1_isCovered 9 = .ok (.istore_n 3, 1) := by decide +kernel
theorem dX1_isCovered_10 : decode cX1_isCovered 10 = .ok (.iload_n 3, 1) := by decide +kernel
theorem dX1_isCovered_11 : decode cX1_isCovered 11 = .ok (.aload_n 2, 1) := by decide +kernel
theorem dX1_isCovered_12 : decode cX1_isCovered 12 = .ok (.invokevirtual 31, 3) := by decide +kernel
theorem dX1_isCovered_15 : decode cX1_isCovered 15 = .ok (.if_icmp .ge 45, 3) := by decide +kernel
theorem dX1_isCovered_18 : decode cX1_isCovered 18 = .ok (.aload_n 2, 1) := by decide +kernel
theorem dX1_isCovered_19 : decode cX1_isCovered 19 = .ok (.iload_n 3, 1) := by decide +kernel
theorem dX1_isCovered_20 : decode cX1_isCovered 20 = .ok (.iconst 0, 1) := by decide +kernel
theorem dX1_isCovered_21 : decode cX1_isCovered 21 = .ok (.invokevirtual 25, 3) := by decide +kernel
theorem dX1_isCovered_24 : decode cX1_isCovered 24 = .ok (.istore 4, 2) := by decide +kernel
theorem dX1_isCovered_26 : decode cX1_isCovered 26 = .ok (.aload_n 2, 1) := by decide +kernel
theorem dX1_isCovered_27 : decode cX1_isCovered 27 = .ok (.iload_n 3, 1) := by decide +kernel
theorem dX1_isCovered_28 : decode cX1_isCovered 28 = .ok (.iconst 1, 1) := by decide +kernel
theorem dX1_isCovered_29 : decode cX1_isCovered 29 = .ok (.invokevirtual 25, 3) := by decide +kernel
theorem dX1_isCovered_32 : decode cX1_isCovered 32 = .ok (.istore 5, 2) := by decide +kernel
theorem dX1_isCovered_34 : decode cX1_isCovered 34 = .ok (.aload_n 0, 1) := by decide +kernel
theorem dX1_isCovered_35 : decode cX1_isCovered 35 = .ok (.iload 4, 2) := by decide +kernel
theorem dX1_isCovered_37 : decode cX1_isCovered 37 = .ok (.iload 5, 2) := by decide +kernel
theorem dX1_isCovered_39 : decode cX1_isCovered 39 = .ok (.aload_n 2, 1) := by decide +kernel
theorem dX1_isCovered_40 : decode cX1_isCovered 40 = .ok (.iload_n 3, 1) := by decide +kernel
theorem dX1_isCovered_41 : decode cX1_isCovered 41 = .ok (.iconst 2, 1) := by decide +kernel
theorem dX1_isCovered_42 : decode cX1_isCovered 42 = .ok (.invokevirtual 25, 3) := by decide +kernel
theorem dX1_isCovered_45 : decode cX1_isCovered 45 = .ok (.iload_n 1, 1) := by decide +kernel
theorem dX1_isCovered_46 : decode cX1_isCovered 46 = .ok (.invokevirtual 50, 3) := by decide +kernel
theorem dX1_isCovered_49 : decode cX1_isCovered 49 = .ok (.ifCond .eq 5, 3) := by decide +kernel
theorem dX1_isCovered_52 : decode cX1_isCovered 52 = .ok (.iconst 1, 1) := by decide +kernel
theorem dX1_isCovered_53 : decode cX1_isCovered 53 = .ok (.ireturn, 1) := by decide +kernel
theorem dX1_isCovered_54 : decode cX1_isCovered 54 = .ok (.iinc 3 1, 3) := by decide +kernel
theorem dX1_isCovered_57 : decode cX1_isCovered 57 = .ok (.goto (-47), 3) := by decide +kernel
theorem dX1_isCovered_60 : decode cX1_isCovered 60 = .ok (.iconst 0, 1) := by decide +kernel
theorem dX1_isCovered_61 : decode cX1_isCovered 61 = .ok (.ireturn, 1) := by decide +kernel
theorem dX1_covers_0 : decode cX1_covers 0 = .ok (.aload_n 0, 1) := by decide +kernel
theorem dX1_covers_1 : decode cX1_covers 1 = .ok (.getfield 15, 3) := by decide +kernel
theorem dX1_covers_4 : decode cX1_covers 4 = .ok (.getfield 19, 3) := by decide +kernel
theorem dX1_covers_7 : decode cX1_covers 7 = .ok (.iload 4, 2) := by decide +kernel
theorem dX1_covers_9 : decode cX1_covers 9 = .ok (.iconst 3, 1) := by decide +kernel
theorem dX1_covers_10 : decode cX1_covers 10 = .ok (.invokevirtual 25, 3) := by decide +kernel
theorem dX1_covers_13 : decode cX1_covers 13 = .ok (.istore 5, 2) := by decide +kernel
theorem dX1_covers_15 : decode cX1_covers 15 = .ok (.iload 5, 2) := by decide +kernel
theorem dX1_covers_17 : decode cX1_covers 17 = .ok (.iload_n 2, 1) := by decide +kernel
theorem dX1_covers_18 : decode cX1_covers 18 = .ok (.if_icmp .lt 9, 3) := by decide +kernel
theorem dX1_covers_21 : decode cX1_covers 21 = .ok (.iload 5, 2) := by decide +kernel
theorem dX1_covers_23 : decode cX1_covers 23 = .ok (.iload_n 3, 1) := by decide +kernel
theorem dX1_covers_24 : decode cX1_covers 24 = .ok (.if_icmp .le 5, 3) := by decide +kernel
theorem dX1_covers_27 : decode cX1_covers 27 = .ok (.iconst 0, 1) := by decide +kernel
theorem dX1_covers_28 : decode cX1_covers 28 = .ok (.ireturn, 1) := by decide +kernel
theorem dX1_covers_29 : decode cX1_covers 29 = .ok (.aload_n 0, 1) := by decide +kernel
theorem dX1_covers_30 : decode cX1_covers 30 = .ok (.getfield 15, 3) := by decide +kernel
theorem dX1_covers_33 : decode cX1_covers 33 = .ok (.getfield 19, 3) := by decide +kernel
theorem dX1_covers_36 : decode cX1_covers 36 = .ok (.iload 4, 2) := by decide +kernel
theorem dX1_covers_38 : decode cX1_covers 38 = .ok (.iconst 0, 1) := by decide +kernel
theorem dX1_covers_39 : decode cX1_covers 39 = .ok (.invokevirtual 25, 3) := by decide +kernel
theorem dX1_covers_42 : decode cX1_covers 42 = .ok (.iload_n 1, 1) := by decide +kernel
theorem dX1_covers_43 : decode cX1_covers 43 = .ok (.if_icmp .ne 5, 3) := by decide +kernel
theorem dX1_covers_46 : decode cX1_covers 46 = .ok (.iconst 1, 1) := by decide +kernel
theorem dX1_covers_47 : decode cX1_covers 47 = .ok (.ireturn, 1) := by decide +kernel
theorem dX1_covers_48 : decode cX1_covers 48 = .ok (.aload_n 0, 1) := by decide +kernel
theorem dX1_covers_49 : decode cX1_covers 49 = .ok (.getfield 15, 3) := by decide +kernel
theorem dX1_covers_52 : decode cX1_covers 52 = .ok (.getfield 62, 3) := by decide +kernel
theorem dX1_covers_55 : decode cX1_covers 55 = .ok (.iload_n 1, 1) := by decide +kernel
theorem dX1_covers_56 : decode cX1_covers 56 = .ok (.iconst 0, 1) := by decide +kernel
theorem dX1_covers_57 : decode cX1_covers 57 = .ok (.invokevirtual 25, 3) := by decide +kernel
theorem dX1_covers_60 : decode cX1_covers 60 = .ok (.ifCond .ne 7, 3) := by decide +kernel
theorem dX1_covers_63 : decode cX1_covers 63 = .ok (.iconst 1, 1) := by decide +kernel
theorem dX1_covers_64 : decode cX1_covers 64 = .ok (.goto 4, 3) := by decide +kernel
theorem dX1_covers_67 : decode cX1_covers 67 = .ok (.iconst 0, 1) := by decide +kernel
theorem dX1_covers_68 : decode cX1_covers 68 = .ok (.istore 6, 2) := by decide +kernel
theorem dX1_covers_70 : decode cX1_covers 70 = .ok (.iload 6, 2) := by decide +kernel
theorem dX1_covers_72 : decode cX1_covers 72 = .ok (.ifCond .eq 24, 3) := by decide +kernel
theorem dX1_covers_75 : decode cX1_covers 75 = .ok (.aload_n 0, 1) := by decide +kernel
theorem dX1_covers_76 : decode cX1_covers 76 = .ok (.getfield 15, 3) := by decide +kernel
theorem dX1_covers_79 : decode cX1_covers 79 = .ok (.getfield 19, 3) := by decide +kernel
theorem dX1_covers_82 : decode cX1_covers 82 = .ok (.iload 4, 2) := by decide +kernel
theorem dX1_covers_84 : decode cX1_covers 84 = .ok (.iconst 1, 1) := by decide +kernel
theorem dX1_covers_85 : decode cX1_covers 85 = .ok (.invokevirtual 25, 3) := by decide +kernel
theorem dX1_covers_88 : decode cX1_covers 88 = .ok (.iload_n 1, 1) := by decide +kernel
theorem dX1_covers_89 : decode cX1_covers 89 = .ok (.if_icmp .ne 7, 3) := by decide +kernel
theorem dX1_covers_92 : decode cX1_covers 92 = .ok (.iconst 1, 1) := by decide +kernel
theorem dX1_covers_93 : decode cX1_covers 93 = .ok (.goto 4, 3) := by decide +kernel
theorem dX1_covers_96 : decode cX1_covers 96 = .ok (.iconst 0, 1) := by decide +kernel
theorem dX1_covers_97 : decode cX1_covers 97 = .ok (.ireturn, 1) := by decide +kernel
theorem dX2_init_0 : decode cX2_init 0 = .ok (.aload_n 0, 1) := by decide +kernel
theorem dX2_init_1 : decode cX2_init 1 = .ok (.invokespecial 3, 3) := by decide +kernel
theorem dX2_init_4 : decode cX2_init 4 = .ok (.aload_n 0, 1) := by decide +kernel
theorem dX2_init_5 : decode cX2_init 5 = .ok (.aload_n 1, 1) := by decide +kernel
theorem dX2_init_6 : decode cX2_init 6 = .ok (.putfield 9, 3) := by decide +kernel
theorem dX2_init_9 : decode cX2_init 9 = .ok (.aload_n 0, 1) := by decide +kernel
theorem dX2_init_10 : decode cX2_init 10 = .ok (.aload_n 2, 1) := by decide +kernel
theorem dX2_init_11 : decode cX2_init 11 = .ok (.putfield 15, 3) := by decide +kernel
theorem dX2_init_14 : decode cX2_init 14 = .ok (.return_, 1) := by decide +kernel
theorem dX2_isInTolerance_0 : decode cX2_isInTolerance 0 = .ok (.aload_n 0, 1) := by decide +kernel
theorem dX2_isInTolerance_1 : decode cX2_isInTolerance 1 = .ok (.getfield 9, 3) := by decide +kernel
theorem dX2_isInTolerance_4 : decode cX2_isInTolerance 4 = .ok (.getfield 19, 3) := by decide +kernel
theorem dX2_isInTolerance_7 : decode cX2_isInTolerance 7 = .ok (.iload_n 1, 1) := by decide +kernel
theorem dX2_isInTolerance_8 : decode cX2_isInTolerance 8 = .ok (.iconst 0, 1) := by decide +kernel
theorem dX2_isInTolerance_9 : decode cX2_isInTolerance 9 = .ok (.invokevirtual 25, 3) := by decide +kernel
theorem dX2_isInTolerance_12 : decode cX2_isInTolerance 12 = .ok (.istore_n 2, 1) := by decide +kernel
theorem dX2_isInTolerance_13 : decode cX2_isInTolerance 13 = .ok (.aload_n 0, 1) := by decide +kernel
theorem dX2_isInTolerance_14 : decode cX2_isInTolerance 14 = .ok (.getfield 9, 3) := by decide +kernel
theorem dX2_isInTolerance_17 : decode cX2_isInTolerance 17 = .ok (.getfield 19, 3) := by decide +kernel
theorem dX2_isInTolerance_20 : decode cX2_isInTolerance 20 = .ok (.iload_n 1, 1) := by decide +kernel
theorem dX2_isInTolerance_21 : decode cX2_isInTolerance 21 = .ok (.bipush 10, 2) := by decide +kernel
theorem dX2_isInTolerance_23 : decode cX2_isInTolerance 23 = .ok (.invokevirtual 25, 3) := by decide +kernel
theorem dX2_isInTolerance_26 : decode cX2_isInTolerance 26 = .ok (.aload_n 0, 1) := by decide +kernel
theorem dX2_isInTolerance_27 : decode cX2_isInTolerance 27 = .ok (.getfield 9, 3) := by decide +kernel
theorem dX2_isInTolerance_30 : decode cX2_isInTolerance 30 = .ok (.getfield 31, 3) := by decide +kernel
theorem dX2_isInTolerance_33 : decode cX2_isInTolerance 33 = .ok (.iload_n 2, 1) := by decide +kernel
theorem dX2_isInTolerance_34 : decode cX2_isInTolerance 34 = .ok (.iconst 2, 1) := by decide +kernel
theorem dX2_isInTolerance_35 : decode cX2_isInTolerance 35 = .ok (.invokevirtual 25, 3) := by decide +kernel
theorem dX2_isInTolerance_38 : decode cX2_isInTolerance 38 = .ok (.if_icmp .gt 7, 3) := by decide +kernel
theorem dX2_isInTolerance_41 : decode cX2_isInTolerance 41 = .ok (.iconst 1, 1) := by decide +kernel
theorem dX2_isInTolerance_42 : decode cX2_isInTolerance 42 = .ok (.goto 4, 3) := by decide +kernel
theorem dX2_isInTolerance_45 : decode cX2_isInTolerance 45 = .ok (.iconst 0, 1) := by decide +kernel
theorem dX2_isInTolerance_46 : decode cX2_isInTolerance 46 = .ok (.ireturn, 1) := by decide +kernel
theorem dX2_isOverdue_0 : decode cX2_isOverdue 0 = .ok (.aload_n 0, 1) := by decide +kernel
theorem dX2_isOverdue_1 : decode cX2_isOverdue 1 = .ok (.getfield 9, 3) := by decide +kernel
theorem dX2_isOverdue_4 : decode cX2_isOverdue 4 = .ok (.getfield 34, 3) := by decide +kernel
theorem dX2_isOverdue_7 : decode cX2_isOverdue 7 = .ok (.aload_n 0, 1) := by decide +kernel
theorem dX2_isOverdue_8 : decode cX2_isOverdue 8 = .ok (.getfield 9, 3) := by decide +kernel
theorem dX2_isOverdue_11 : decode cX2_isOverdue 11 = .ok (.getfield 19, 3) := by decide +kernel
theorem dX2_isOverdue_14 : decode cX2_isOverdue 14 = .ok (.iload_n 1, 1) := by decide +kernel
theorem dX2_isOverdue_15 : decode cX2_isOverdue 15 = .ok (.iconst 3, 1) := by decide +kernel
theorem dX2_isOverdue_16 : decode cX2_isOverdue 16 = .ok (.invokevirtual 25, 3) := by decide +kernel
theorem dX2_isOverdue_19 : decode cX2_isOverdue 19 = .ok (.aload_n 0, 1) := by decide +kernel
theorem dX2_isOverdue_20 : decode cX2_isOverdue 20 = .ok (.iload_n 1, 1) := by decide +kernel
theorem dX2_isOverdue_21 : decode cX2_isOverdue 21 = .ok (.invokevirtual 38, 3) := by decide +kernel
theorem dX2_isOverdue_24 : decode cX2_isOverdue 24 = .ok (.iadd, 1) := by decide +kernel
theorem dX2_isOverdue_25 : decode cX2_isOverdue 25 = .ok (.if_icmp .le 7, 3) := by decide +kernel
theorem dX2_isOverdue_28 : decode cX2_isOverdue 28 = .ok (.iconst 1, 1) := by decide +kernel
theorem dX2_isOverdue_29 : decode cX2_isOverdue 29 = .ok (.goto 4, 3) := by decide +kernel
theorem dX2_isOverdue_32 : decode cX2_isOverdue 32 = .ok (.iconst 0, 1) := by decide +kernel
theorem dX2_isOverdue_33 : decode cX2_isOverdue 33 = .ok (.ireturn, 1) := by decide +kernel
theorem dX2_dueDay_0 : decode cX2_dueDay 0 = .ok (.aload_n 0, 1) := by decide +kernel
theorem dX2_dueDay_1 : decode cX2_dueDay 1 = .ok (.getfield 9, 3) := by decide +kernel
theorem dX2_dueDay_4 : decode cX2_dueDay 4 = .ok (.getfield 19, 3) := by decide +kernel
theorem dX2_dueDay_7 : decode cX2_dueDay 7 = .ok (.iload_n 1, 1) := by decide +kernel
theorem dX2_dueDay_8 : decode cX2_dueDay 8 = .ok (.iconst 3, 1) := by decide +kernel
theorem dX2_dueDay_9 : decode cX2_dueDay 9 = .ok (.invokevirtual 25, 3) := by decide +kernel
theorem dX2_dueDay_12 : decode cX2_dueDay 12 = .ok (.aload_n 0, 1) := by decide +kernel
theorem dX2_dueDay_13 : decode cX2_dueDay 13 = .ok (.iload_n 1, 1) := by decide +kernel
theorem dX2_dueDay_14 : decode cX2_dueDay 14 = .ok (.invokevirtual 38, 3) := by decide +kernel
theorem dX2_dueDay_17 : decode cX2_dueDay 17 = .ok (.iadd, 1) := by decide +kernel
theorem dX2_dueDay_18 : decode cX2_dueDay 18 = .ok (.ireturn, 1) := by decide +kernel
theorem dX2_lengthOf_0 : decode cX2_lengthOf 0 = .ok (.aload_n 0, 1) := by decide +kernel
theorem dX2_lengthOf_1 : decode cX2_lengthOf 1 = .ok (.getfield 9, 3) := by decide +kernel
theorem dX2_lengthOf_4 : decode cX2_lengthOf 4 = .ok (.getfield 19, 3) := by decide +kernel
theorem dX2_lengthOf_7 : decode cX2_lengthOf 7 = .ok (.iload_n 1, 1) := by decide +kernel
theorem dX2_lengthOf_8 : decode cX2_lengthOf 8 = .ok (.iconst 0, 1) := by decide +kernel
theorem dX2_lengthOf_9 : decode cX2_lengthOf 9 = .ok (.invokevirtual 25, 3) := by decide +kernel
theorem dX2_lengthOf_12 : decode cX2_lengthOf 12 = .ok (.istore_n 2, 1) := by decide +kernel
theorem dX2_lengthOf_13 : decode cX2_lengthOf 13 = .ok (.aload_n 0, 1) := by decide +kernel
theorem dX2_lengthOf_14 : decode cX2_lengthOf 14 = .ok (.getfield 9, 3) := by decide +kernel
theorem dX2_lengthOf_17 : decode cX2_lengthOf 17 = .ok (.getfield 31, 3) := by decide +kernel
theorem dX2_lengthOf_20 : decode cX2_lengthOf 20 = .ok (.iload_n 2, 1) := by decide +kernel
theorem dX2_lengthOf_21 : decode cX2_lengthOf 21 = .ok (.iconst 4, 1) := by decide +kernel
theorem dX2_lengthOf_22 : decode cX2_lengthOf 22 = .ok (.invokevirtual 25, 3) := by decide +kernel
theorem dX2_lengthOf_25 : decode cX2_lengthOf 25 = .ok (.istore_n 3, 1) := by decide +kernel
theorem dX2_lengthOf_26 : decode cX2_lengthOf 26 = .ok (.iload_n 3, 1) := by decide +kernel
theorem dX2_lengthOf_27 : decode cX2_lengthOf 27 = .ok (.ifCond .ne 16, 3) := by decide +kernel
theorem dX2_lengthOf_30 : decode cX2_lengthOf 30 = .ok (.aload_n 0, 1) := by decide +kernel
theorem dX2_lengthOf_31 : decode cX2_lengthOf 31 = .ok (.getfield 9, 3) := by decide +kernel
theorem dX2_lengthOf_34 : decode cX2_lengthOf 34 = .ok (.getfield 31, 3) := by decide +kernel
theorem dX2_lengthOf_37 : decode cX2_lengthOf 37 = .ok (.iload_n 2, 1) := by decide +kernel
theorem dX2_lengthOf_38 : decode cX2_lengthOf 38 = .ok (.iconst 5, 1) := by decide +kernel
theorem dX2_lengthOf_39 : decode cX2_lengthOf 39 = .ok (.invokevirtual 25, 3) := by decide +kernel
theorem dX2_lengthOf_42 : decode cX2_lengthOf 42 = .ok (.ireturn, 1) := by decide +kernel
theorem dX2_lengthOf_43 : decode cX2_lengthOf 43 = .ok (.iload_n 3, 1) := by decide +kernel
theorem dX2_lengthOf_44 : decode cX2_lengthOf 44 = .ok (.iconst 3, 1) := by decide +kernel
theorem dX2_lengthOf_45 : decode cX2_lengthOf 45 = .ok (.if_icmp .ne 10, 3) := by decide +kernel
theorem dX2_lengthOf_48 : decode cX2_lengthOf 48 = .ok (.aload_n 0, 1) := by decide +kernel
theorem dX2_lengthOf_49 : decode cX2_lengthOf 49 = .ok (.iload_n 1, 1) := by decide +kernel
theorem dX2_lengthOf_50 : decode cX2_lengthOf 50 = .ok (.iload_n 2, 1) := by decide +kernel
theorem dX2_lengthOf_51 : decode cX2_lengthOf 51 = .ok (.invokevirtual 42, 3) := by decide +kernel
theorem dX2_lengthOf_54 : decode cX2_lengthOf 54 = .ok (.ireturn, 1) := by decide +kernel
theorem dX2_lengthOf_55 : decode cX2_lengthOf 55 = .ok (.aload_n 0, 1) := by decide +kernel
theorem dX2_lengthOf_56 : decode cX2_lengthOf 56 = .ok (.getfield 9, 3) := by decide +kernel
theorem dX2_lengthOf_59 : decode cX2_lengthOf 59 = .ok (.getfield 31, 3) := by decide +kernel
theorem dX2_lengthOf_62 : decode cX2_lengthOf 62 = .ok (.iload_n 2, 1) := by decide +kernel
theorem dX2_lengthOf_63 : decode cX2_lengthOf 63 = .ok (.iconst 3, 1) := by decide +kernel
theorem dX2_lengthOf_64 : decode cX2_lengthOf 64 = .ok (.invokevirtual 25, 3) := by decide +kernel
theorem dX2_lengthOf_67 : decode cX2_lengthOf 67 = .ok (.istore 4, 2) := by decide +kernel
theorem dX2_lengthOf_69 : decode cX2_lengthOf 69 = .ok (.iload_n 3, 1) := by decide +kernel
theorem dX2_lengthOf_70 : decode cX2_lengthOf 70 = .ok (.iconst 2, 1) := by decide +kernel
theorem dX2_lengthOf_71 : decode cX2_lengthOf 71 = .ok (.if_icmp .ne 36, 3) := by decide +kernel
theorem dX2_lengthOf_74 : decode cX2_lengthOf 74 = .ok (.aload_n 0, 1) := by decide +kernel
theorem dX2_lengthOf_75 : decode cX2_lengthOf 75 = .ok (.getfield 15, 3) := by decide +kernel
theorem dX2_lengthOf_78 : decode cX2_lengthOf 78 = .ok (.iload_n 2, 1) := by decide +kernel
theorem dX2_lengthOf_79 : decode cX2_lengthOf 79 = .ok (.iload_n 1, 1) := by decide +kernel
theorem dX2_lengthOf_80 : decode cX2_lengthOf 80 = .ok (.sipush 9999, 3) := by decide +kernel
theorem dX2_lengthOf_83 : decode cX2_lengthOf 83 = .ok (.invokevirtual 45, 3) := by decide +kernel
theorem dX2_lengthOf_86 : decode cX2_lengthOf 86 = .ok (.istore 5, 2) := by decide +kernel
theorem dX2_lengthOf_88 : decode cX2_lengthOf 88 = .ok (.iload 5, 2) := by decide +kernel
theorem dX2_lengthOf_90 : decode cX2_lengthOf 90 = .ok (.ifCond .ge 8, 3) := by decide +kernel
theorem dX2_lengthOf_93 : decode cX2_lengthOf 93 = .ok (.iload 4, 2) := by decide +kernel
theorem dX2_lengthOf_95 : decode cX2_lengthOf 95 = .ok (.goto 10, 3) := by decide +kernel
theorem dX2_lengthOf_98 : decode cX2_lengthOf 98 = .ok (.aload_n 0, 1) := by decide +kernel
theorem dX2_lengthOf_99 : decode cX2_lengthOf 99 = .ok (.iload 5, 2) := by decide +kernel
theorem dX2_lengthOf_101 : decode cX2_lengthOf 101 = .ok (.iload_n 1, 1) := by decide +kernel
theorem dX2_lengthOf_102 : decode cX2_lengthOf 102 = .ok (.invokevirtual 51, 3) := by decide +kernel
theorem dX2_lengthOf_105 : decode cX2_lengthOf 105 = .ok (.istore 4, 2) := by decide +kernel
theorem dX2_lengthOf_107 : decode cX2_lengthOf 107 = .ok (.aload_n 0, 1) := by decide +kernel
theorem dX2_lengthOf_108 : decode cX2_lengthOf 108 = .ok (.getfield 9, 3) := by decide +kernel
theorem dX2_lengthOf_111 : decode cX2_lengthOf 111 = .ok (.getfield 31, 3) := by decide +kernel
theorem dX2_lengthOf_114 : decode cX2_lengthOf 114 = .ok (.iload_n 2, 1) := by decide +kernel
theorem dX2_lengthOf_115 : decode cX2_lengthOf 115 = .ok (.iconst 2, 1) := by decide +kernel
theorem dX2_lengthOf_116 : decode cX2_lengthOf 116 = .ok (.invokevirtual 25, 3) := by decide +kernel
theorem dX2_lengthOf_119 : decode cX2_lengthOf 119 = .ok (.aload_n 0, 1) := by decide +kernel
theorem dX2_lengthOf_120 : decode cX2_lengthOf 120 = .ok (.getfield 9, 3) := by decide +kernel
theorem dX2_lengthOf_123 : decode cX2_lengthOf 123 = .ok (.getfield 19, 3) := by decide +kernel
theorem dX2_lengthOf_126 : decode cX2_lengthOf 126 = .ok (.iload_n 1, 1) := by decide +kernel
theorem dX2_lengthOf_127 : decode cX2_lengthOf 127 = .ok (.bipush 10, 2) := by decide +kernel
theorem dX2_lengthOf_129 : decode cX2_lengthOf 129 = .ok (.invokevirtual 25, 3) := by decide +kernel
theorem dX2_lengthOf_132 : decode cX2_lengthOf 132 = .ok (.isub, 1) := by decide +kernel
theorem dX2_lengthOf_133 : decode cX2_lengthOf 133 = .ok (.istore 5, 2) := by decide +kernel
theorem dX2_lengthOf_135 : decode cX2_lengthOf 135 = .ok (.iload 5, 2) := by decide +kernel
theorem dX2_lengthOf_137 : decode cX2_lengthOf 137 = .ok (.iload 4, 2) := by decide +kernel
theorem dX2_lengthOf_139 : decode cX2_lengthOf 139 = .ok (.invokestatic 54, 3) := by decide +kernel
theorem dX2_lengthOf_142 : decode cX2_lengthOf 142 = .ok (.ireturn, 1) := by decide +kernel
theorem dX2_daysWithin_0 : decode cX2_daysWithin 0 = .ok (.iload_n 0, 1) := by decide +kernel
theorem dX2_daysWithin_1 : decode cX2_daysWithin 1 = .ok (.ifCond .ge 5, 3) := by decide +kernel
theorem dX2_daysWithin_4 : decode cX2_daysWithin 4 = .ok (.iconst 0, 1) := by decide +kernel
theorem dX2_daysWithin_5 : decode cX2_daysWithin 5 = .ok (.ireturn, 1) := by decide +kernel
theorem dX2_daysWithin_6 : decode cX2_daysWithin 6 = .ok (.iload_n 1, 1) := by decide +kernel
theorem dX2_daysWithin_7 : decode cX2_daysWithin 7 = .ok (.ifCond .gt 9, 3) := by decide +kernel
theorem dX2_daysWithin_10 : decode cX2_daysWithin 10 = .ok (.sipush 999, 3) := by decide +kernel
theorem dX2_daysWithin_13 : decode cX2_daysWithin 13 = .ok (.goto 15, 3) := by decide +kernel
theorem dX2_daysWithin_16 : decode cX2_daysWithin 16 = .ok (.sipush 999, 3) := by decide +kernel
theorem dX2_daysWithin_19 : decode cX2_daysWithin 19 = .ok (.iload_n 0, 1) := by decide +kernel
theorem dX2_daysWithin_20 : decode cX2_daysWithin 20 = .ok (.bipush 100, 2) := by decide +kernel
theorem dX2_daysWithin_22 : decode cX2_daysWithin 22 = .ok (.imul, 1) := by decide +kernel
theorem dX2_daysWithin_23 : decode cX2_daysWithin 23 = .ok (.iload_n 1, 1) := by decide +kernel
theorem dX2_daysWithin_24 : decode cX2_daysWithin 24 = .ok (.idiv, 1) := by decide +kernel
theorem dX2_daysWithin_25 : decode cX2_daysWithin 25 = .ok (.invokestatic 57, 3) := by decide +kernel
theorem dX2_daysWithin_28 : decode cX2_daysWithin 28 = .ok (.ireturn, 1) := by decide +kernel
theorem dX2_rateBetween_0 : decode cX2_rateBetween 0 = .ok (.aload_n 0, 1) := by decide +kernel
theorem dX2_rateBetween_1 : decode cX2_rateBetween 1 = .ok (.getfield 9, 3) := by decide +kernel
theorem dX2_rateBetween_4 : decode cX2_rateBetween 4 = .ok (.getfield 19, 3) := by decide +kernel
theorem dX2_rateBetween_7 : decode cX2_rateBetween 7 = .ok (.astore_n 3, 1) := by decide +kernel
theorem dX2_rateBetween_8 : decode cX2_rateBetween 8 = .ok (.aload_n 3, 1) := by decide +kernel
theorem dX2_rateBetween_9 : decode cX2_rateBetween 9 = .ok (.iload_n 2, 1) := by decide +kernel
theorem dX2_rateBetween_10 : decode cX2_rateBetween 10 = .ok (.iconst 3, 1) := by decide +kernel
theorem dX2_rateBetween_11 : decode cX2_rateBetween 11 = .ok (.invokevirtual 25, 3) := by decide +kernel
theorem dX2_rateBetween_14 : decode cX2_rateBetween 14 = .ok (.aload_n 3, 1) := by decide +kernel
theorem dX2_rateBetween_15 : decode cX2_rateBetween 15 = .ok (.iload_n 1, 1) := by decide +kernel
theorem dX2_rateBetween_16 : decode cX2_rateBetween 16 = .ok (.iconst 3, 1) := by decide +kernel
theorem dX2_rateBetween_17 : decode cX2_rateBetween 17 = .ok (.invokevirtual 25, 3) := by decide +kernel
theorem dX2_rateBetween_20 : decode cX2_rateBetween 20 = .ok (.isub, 1) := by decide +kernel
theorem dX2_rateBetween_21 : decode cX2_rateBetween 21 = .ok (.istore 4, 2) := by decide +kernel
theorem dX2_rateBetween_23 : decode cX2_rateBetween 23 = .ok (.aload_n 3, 1) := by decide +kernel
theorem dX2_rateBetween_24 : decode cX2_rateBetween 24 = .ok (.iload_n 2, 1) := by decide +kernel
theorem dX2_rateBetween_25 : decode cX2_rateBetween 25 = .ok (.iconst 4, 1) := by decide +kernel
theorem dX2_rateBetween_26 : decode cX2_rateBetween 26 = .ok (.invokevirtual 25, 3) := by decide +kernel
theorem dX2_rateBetween_29 : decode cX2_rateBetween 29 = .ok (.aload_n 3, 1) := by decide +kernel
theorem dX2_rateBetween_30 : decode cX2_rateBetween 30 = .ok (.iload_n 1, 1) := by decide +kernel
theorem dX2_rateBetween_31 : decode cX2_rateBetween 31 = .ok (.iconst 4, 1) := by decide +kernel
theorem dX2_rateBetween_32 : decode cX2_rateBetween 32 = .ok (.invokevirtual 25, 3) := by decide +kernel
theorem dX2_rateBetween_35 : decode cX2_rateBetween 35 = .ok (.isub, 1) := by decide +kernel
theorem dX2_rateBetween_36 : decode cX2_rateBetween 36 = .ok (.istore 5, 2) := by decide +kernel
theorem dX2_rateBetween_38 : decode cX2_rateBetween 38 = .ok (.iload 5, 2) := by decide +kernel
theorem dX2_rateBetween_40 : decode cX2_rateBetween 40 = .ok (.invokestatic 62, 3) := by decide +kernel
theorem dX2_rateBetween_43 : decode cX2_rateBetween 43 = .ok (.bipush 100, 2) := by decide +kernel
theorem dX2_rateBetween_45 : decode cX2_rateBetween 45 = .ok (.imul, 1) := by decide +kernel
theorem dX2_rateBetween_46 : decode cX2_rateBetween 46 = .ok (.iconst 1, 1) := by decide +kernel
theorem dX2_rateBetween_47 : decode cX2_rateBetween 47 = .ok (.iload 4, 2) := by decide +kernel
theorem dX2_rateBetween_49 : decode cX2_rateBetween 49 = .ok (.invokestatic 65, 3) := by decide +kernel
theorem dX2_rateBetween_52 : decode cX2_rateBetween 52 = .ok (.invokestatic 68, 3) := by decide +kernel
theorem dX2_rateBetween_55 : decode cX2_rateBetween 55 = .ok (.ireturn, 1) := by decide +kernel
theorem dX2_steppedLength_0 : decode cX2_steppedLength 0 = .ok (.aload_n 0, 1) := by decide +kernel
theorem dX2_steppedLength_1 : decode cX2_steppedLength 1 = .ok (.getfield 9, 3) := by decide +kernel
theorem dX2_steppedLength_4 : decode cX2_steppedLength 4 = .ok (.getfield 19, 3) := by decide +kernel
theorem dX2_steppedLength_7 : decode cX2_steppedLength 7 = .ok (.astore_n 3, 1) := by decide +kernel
theorem dX2_steppedLength_8 : decode cX2_steppedLength 8 = .ok (.aload_n 0, 1) := by decide +kernel
theorem dX2_steppedLength_9 : decode cX2_steppedLength 9 = .ok (.getfield 9, 3) := by decide +kernel
theorem dX2_steppedLength_12 : decode cX2_steppedLength 12 = .ok (.getfield 31, 3) := by decide +kernel
theorem dX2_steppedLength_15 : decode cX2_steppedLength 15 = .ok (.iload_n 2, 1) := by decide +kernel
theorem dX2_steppedLength_16 : decode cX2_steppedLength 16 = .ok (.iconst 2, 1) := by decide +kernel
theorem dX2_steppedLength_17 : decode cX2_steppedLength 17 = .ok (.invokevirtual 25, 3) := by decide +kernel
theorem dX2_steppedLength_20 : decode cX2_steppedLength 20 = .ok (.istore 4, 2) := by decide +kernel
theorem dX2_steppedLength_22 : decode cX2_steppedLength 22 = .ok (.aload_n 0, 1) := by decide +kernel
theorem dX2_steppedLength_23 : decode cX2_steppedLength 23 = .ok (.getfield 9, 3) := by decide +kernel
theorem dX2_steppedLength_26 : decode cX2_steppedLength 26 = .ok (.getfield 31, 3) := by decide +kernel
theorem dX2_steppedLength_29 : decode cX2_steppedLength 29 = .ok (.iload_n 2, 1) := by decide +kernel
theorem dX2_steppedLength_30 : decode cX2_steppedLength 30 = .ok (.iconst 5, 1) := by decide +kernel
theorem dX2_steppedLength_31 : decode cX2_steppedLength 31 = .ok (.invokevirtual 25, 3) := by decide +kernel
theorem dX2_steppedLength_34 : decode cX2_steppedLength 34 = .ok (.istore 5, 2) := by decide +kernel
theorem dX2_steppedLength_36 : decode cX2_steppedLength 36 = .ok (.iconst 0, 1) := by decide +kernel
theorem dX2_steppedLength_37 : decode cX2_steppedLength 37 = .ok (.istore 6, 2) := by decide +kernel
theorem dX2_steppedLength_39 : decode cX2_steppedLength 39 = .ok (.iload 6, 2) := by decide +kernel
theorem dX2_steppedLength_41 : decode cX2_steppedLength 41 = .ok (.iload_n 1, 1) := by decide +kernel
theorem dX2_steppedLength_42 : decode cX2_steppedLength 42 = .ok (.if_icmp .gt 97, 3) := by decide +kernel
theorem dX2_steppedLength_45 : decode cX2_steppedLength 45 = .ok (.aload_n 3, 1) := by decide +kernel
theorem dX2_steppedLength_46 : decode cX2_steppedLength 46 = .ok (.iload 6, 2) := by decide +kernel
theorem dX2_steppedLength_48 : decode cX2_steppedLength 48 = .ok (.iconst 0, 1) := by decide +kernel
theorem dX2_steppedLength_49 : decode cX2_steppedLength 49 = .ok (.invokevirtual 25, 3) := by decide +kernel
theorem dX2_steppedLength_52 : decode cX2_steppedLength 52 = .ok (.iload_n 2, 1) := by decide +kernel
theorem dX2_steppedLength_53 : decode cX2_steppedLength 53 = .ok (.if_icmp .ne 7, 3) := by decide +kernel
theorem dX2_steppedLength_56 : decode cX2_steppedLength 56 = .ok (.iconst 1, 1) := by decide +kernel
theorem dX2_steppedLength_57 : decode cX2_steppedLength 57 = .ok (.goto 4, 3) := by decide +kernel
theorem dX2_steppedLength_60 : decode cX2_steppedLength 60 = .ok (.iconst 0, 1) := by decide +kernel
theorem dX2_steppedLength_61 : decode cX2_steppedLength 61 = .ok (.istore 7, 2) := by decide +kernel
theorem dX2_steppedLength_63 : decode cX2_steppedLength 63 = .ok (.iload 7, 2) := by decide +kernel
theorem dX2_steppedLength_65 : decode cX2_steppedLength 65 = .ok (.ifCond .eq 14, 3) := by decide +kernel
theorem dX2_steppedLength_68 : decode cX2_steppedLength 68 = .ok (.aload_n 3, 1) := by decide +kernel
theorem dX2_steppedLength_69 : decode cX2_steppedLength 69 = .ok (.iload 6, 2) := by decide +kernel
theorem dX2_steppedLength_71 : decode cX2_steppedLength 71 = .ok (.bipush 11, 2) := by decide +kernel
theorem dX2_steppedLength_73 : decode cX2_steppedLength 73 = .ok (.invokevirtual 25, 3) := by decide +kernel
theorem dX2_steppedLength_76 : decode cX2_steppedLength 76 = .ok (.ifCond .eq 9, 3) := by decide +kernel
theorem dX2_steppedLength_79 : decode cX2_steppedLength 79 = .ok (.iload 6, 2) := by decide +kernel
theorem dX2_steppedLength_81 : decode cX2_steppedLength 81 = .ok (.iload_n 1, 1) := by decide +kernel
theorem dX2_steppedLength_82 : decode cX2_steppedLength 82 = .ok (.if_icmp .ne 51, 3) := by decide +kernel
theorem dX2_steppedLength_85 : decode cX2_steppedLength 85 = .ok (.aload_n 3, 1) := by decide +kernel
theorem dX2_steppedLength_86 : decode cX2_steppedLength 86 = .ok (.iload 6, 2) := by decide +kernel
theorem dX2_steppedLength_88 : decode cX2_steppedLength 88 = .ok (.bipush 10, 2) := by decide +kernel
theorem dX2_steppedLength_90 : decode cX2_steppedLength 90 = .ok (.invokevirtual 25, 3) := by decide +kernel
theorem dX2_steppedLength_93 : decode cX2_steppedLength 93 = .ok (.iload 4, 2) := by decide +kernel
theorem dX2_steppedLength_95 : decode cX2_steppedLength 95 = .ok (.if_icmp .gt 7, 3) := by decide +kernel
theorem dX2_steppedLength_98 : decode cX2_steppedLength 98 = .ok (.iconst 1, 1) := by decide +kernel
theorem dX2_steppedLength_99 : decode cX2_steppedLength 99 = .ok (.goto 4, 3) := by decide +kernel
theorem dX2_steppedLength_102 : decode cX2_steppedLength 102 = .ok (.iconst 0, 1) := by decide +kernel
theorem dX2_steppedLength_103 : decode cX2_steppedLength 103 = .ok (.istore 8, 2) := by decide +kernel
theorem dX2_steppedLength_105 : decode cX2_steppedLength 105 = .ok (.iload 8, 2) := by decide +kernel
theorem dX2_steppedLength_107 : decode cX2_steppedLength 107 = .ok (.ifCond .eq 16, 3) := by decide +kernel
theorem dX2_steppedLength_110 : decode cX2_steppedLength 110 = .ok (.sipush 999, 3) := by decide +kernel
theorem dX2_steppedLength_113 : decode cX2_steppedLength 113 = .ok (.iload 5, 2) := by decide +kernel
theorem dX2_steppedLength_115 : decode cX2_steppedLength 115 = .ok (.iconst 2, 1) := by decide +kernel
theorem dX2_steppedLength_116 : decode cX2_steppedLength 116 = .ok (.imul, 1) := by decide +kernel
theorem dX2_steppedLength_117 : decode cX2_steppedLength 117 = .ok (.invokestatic 57, 3) := by decide +kernel
theorem dX2_steppedLength_120 : decode cX2_steppedLength 120 = .ok (.goto 11, 3) := by decide +kernel
theorem dX2_steppedLength_123 : decode cX2_steppedLength 123 = .ok (.iconst 1, 1) := by decide +kernel
theorem dX2_steppedLength_124 : decode cX2_steppedLength 124 = .ok (.iload 5, 2) := by decide +kernel
theorem dX2_steppedLength_126 : decode cX2_steppedLength 126 = .ok (.iconst 2, 1) := by decide +kernel
theorem dX2_steppedLength_127 : decode cX2_steppedLength 127 = .ok (.idiv, 1) := by decide +kernel
theorem dX2_steppedLength_128 : decode cX2_steppedLength 128 = .ok (.invokestatic 65, 3) := by decide +kernel
theorem dX2_steppedLength_131 : decode cX2_steppedLength 131 = .ok (.istore 5, 2) := by decide +kernel
theorem dX2_steppedLength_133 : decode cX2_steppedLength 133 = .ok (.iinc 6 1, 3) := by decide +kernel
theorem dX2_steppedLength_136 : decode cX2_steppedLength 136 = .ok (.goto (-97), 3) := by decide +kernel
theorem dX2_steppedLength_139 : decode cX2_steppedLength 139 = .ok (.iload 5, 2) := by decide +kernel
theorem dX2_steppedLength_141 : decode cX2_steppedLength 141 = .ok (.ireturn, 1) := by decide +kernel
theorem dX3_init_0 : decode cX3_init 0 = .ok (.aload_n 0, 1) := by decide +kernel
theorem dX3_init_1 : decode cX3_init 1 = .ok (.invokespecial 3, 3) := by decide +kernel
theorem dX3_init_4 : decode cX3_init 4 = .ok (.aload_n 0, 1) := by decide +kernel
theorem dX3_init_5 : decode cX3_init 5 = .ok (.bipush 9, 2) := by decide +kernel
theorem dX3_init_7 : decode cX3_init 7 = .ok (.anewarray 9, 3) := by decide +kernel
theorem dX3_init_10 : decode cX3_init 10 = .ok (.putfield 11, 3) := by decide +kernel
theorem dX3_init_13 : decode cX3_init 13 = .ok (.aload_n 0, 1) := by decide +kernel
theorem dX3_init_14 : decode cX3_init 14 = .ok (.iconst 0, 1) := by decide +kernel
theorem dX3_init_15 : decode cX3_init 15 = .ok (.putfield 17, 3) := by decide +kernel
theorem dX3_init_18 : decode cX3_init 18 = .ok (.aload_n 0, 1) := by decide +kernel
theorem dX3_init_19 : decode cX3_init 19 = .ok (.iconst 0, 1) := by decide +kernel
theorem dX3_init_20 : decode cX3_init 20 = .ok (.putfield 21, 3) := by decide +kernel
theorem dX3_init_23 : decode cX3_init 23 = .ok (.return_, 1) := by decide +kernel
theorem dX3_count_0 : decode cX3_count 0 = .ok (.aload_n 0, 1) := by decide +kernel
theorem dX3_count_1 : decode cX3_count 1 = .ok (.getfield 21, 3) := by decide +kernel
theorem dX3_count_4 : decode cX3_count 4 = .ok (.ireturn, 1) := by decide +kernel
theorem dX3_begin_0 : decode cX3_begin 0 = .ok (.aload_n 0, 1) := by decide +kernel
theorem dX3_begin_1 : decode cX3_begin 1 = .ok (.getfield 17, 3) := by decide +kernel
theorem dX3_begin_4 : decode cX3_begin 4 = .ok (.ifCond .lt 15, 3) := by decide +kernel
theorem dX3_begin_7 : decode cX3_begin 7 = .ok (.aload_n 0, 1) := by decide +kernel
theorem dX3_begin_8 : decode cX3_begin 8 = .ok (.getfield 17, 3) := by decide +kernel
theorem dX3_begin_11 : decode cX3_begin 11 = .ok (.aload_n 0, 1) := by decide +kernel
theorem dX3_begin_12 : decode cX3_begin 12 = .ok (.getfield 11, 3) := by decide +kernel
theorem dX3_begin_15 : decode cX3_begin 15 = .ok (.arraylength, 1) := by decide +kernel
theorem dX3_begin_16 : decode cX3_begin 16 = .ok (.if_icmp .lt 4, 3) := by decide +kernel
theorem dX3_begin_19 : decode cX3_begin 19 = .ok (.return_, 1) := by decide +kernel
theorem dX3_begin_20 : decode cX3_begin 20 = .ok (.aload_n 0, 1) := by decide +kernel
theorem dX3_begin_21 : decode cX3_begin 21 = .ok (.getfield 11, 3) := by decide +kernel
theorem dX3_begin_24 : decode cX3_begin 24 = .ok (.aload_n 0, 1) := by decide +kernel
theorem dX3_begin_25 : decode cX3_begin 25 = .ok (.getfield 17, 3) := by decide +kernel
theorem dX3_begin_28 : decode cX3_begin 28 = .ok (.aaload, 1) := by decide +kernel
theorem dX3_begin_29 : decode cX3_begin 29 = .ok (.astore_n 2, 1) := by decide +kernel
theorem dX3_begin_30 : decode cX3_begin 30 = .ok (.aload_n 2, 1) := by decide +kernel
theorem dX3_begin_31 : decode cX3_begin 31 = .ok (.ifnonnull 21, 3) := by decide +kernel
theorem dX3_begin_34 : decode cX3_begin 34 = .ok (.new 9, 3) := by decide +kernel
theorem dX3_begin_37 : decode cX3_begin 37 = .ok (.dup, 1) := by decide +kernel
theorem dX3_begin_38 : decode cX3_begin 38 = .ok (.invokespecial 24, 3) := by decide +kernel
theorem dX3_begin_41 : decode cX3_begin 41 = .ok (.astore_n 2, 1) := by decide +kernel
theorem dX3_begin_42 : decode cX3_begin 42 = .ok (.aload_n 0, 1) := by decide +kernel
theorem dX3_begin_43 : decode cX3_begin 43 = .ok (.getfield 11, 3) := by decide +kernel
theorem dX3_begin_46 : decode cX3_begin 46 = .ok (.aload_n 0, 1) := by decide +kernel
theorem dX3_begin_47 : decode cX3_begin 47 = .ok (.getfield 17, 3) := by decide +kernel
theorem dX3_begin_50 : decode cX3_begin 50 = .ok (.aload_n 2, 1) := by decide +kernel
theorem dX3_begin_51 : decode cX3_begin 51 = .ok (.aastore, 1) := by decide +kernel
theorem dX3_begin_52 : decode cX3_begin 52 = .ok (.aload_n 2, 1) := by decide +kernel
theorem dX3_begin_53 : decode cX3_begin 53 = .ok (.aload_n 1, 1) := by decide +kernel
theorem dX3_begin_54 : decode cX3_begin 54 = .ok (.invokevirtual 25, 3) := by decide +kernel
theorem dX3_begin_57 : decode cX3_begin 57 = .ok (.return_, 1) := by decide +kernel
theorem dX3_commit_0 : decode cX3_commit 0 = .ok (.aload_n 0, 1) := by decide +kernel
theorem dX3_commit_1 : decode cX3_commit 1 = .ok (.aload_n 0, 1) := by decide +kernel
theorem dX3_commit_2 : decode cX3_commit 2 = .ok (.getfield 17, 3) := by decide +kernel
theorem dX3_commit_5 : decode cX3_commit 5 = .ok (.bipush 8, 2) := by decide +kernel
theorem dX3_commit_7 : decode cX3_commit 7 = .ok (.if_icmp .lt 7, 3) := by decide +kernel
theorem dX3_commit_10 : decode cX3_commit 10 = .ok (.iconst 0, 1) := by decide +kernel
theorem dX3_commit_11 : decode cX3_commit 11 = .ok (.goto 9, 3) := by decide +kernel
theorem dX3_commit_14 : decode cX3_commit 14 = .ok (.aload_n 0, 1) := by decide +kernel
theorem dX3_commit_15 : decode cX3_commit 15 = .ok (.getfield 17, 3) := by decide +kernel
theorem dX3_commit_18 : decode cX3_commit 18 = .ok (.iconst 1, 1) := by decide +kernel
theorem dX3_commit_19 : decode cX3_commit 19 = .ok (.iadd, 1) := by decide +kernel
theorem dX3_commit_20 : decode cX3_commit 20 = .ok (.putfield 17, 3) := by decide +kernel
theorem dX3_commit_23 : decode cX3_commit 23 = .ok (.aload_n 0, 1) := by decide +kernel
theorem dX3_commit_24 : decode cX3_commit 24 = .ok (.aload_n 0, 1) := by decide +kernel
theorem dX3_commit_25 : decode cX3_commit 25 = .ok (.getfield 21, 3) := by decide +kernel
theorem dX3_commit_28 : decode cX3_commit 28 = .ok (.iconst 1, 1) := by decide +kernel
theorem dX3_commit_29 : decode cX3_commit 29 = .ok (.iadd, 1) := by decide +kernel
theorem dX3_commit_30 : decode cX3_commit 30 = .ok (.bipush 8, 2) := by decide +kernel
theorem dX3_commit_32 : decode cX3_commit 32 = .ok (.invokestatic 29, 3) := by decide +kernel
theorem dX3_commit_35 : decode cX3_commit 35 = .ok (.putfield 21, 3) := by decide +kernel
theorem dX3_commit_38 : decode cX3_commit 38 = .ok (.return_, 1) := by decide +kernel
theorem dX3_remember_0 : decode cX3_remember 0 = .ok (.aload_n 0, 1) := by decide +kernel
theorem dX3_remember_1 : decode cX3_remember 1 = .ok (.aload_n 1, 1) := by decide +kernel
theorem dX3_remember_2 : decode cX3_remember 2 = .ok (.invokevirtual 35, 3) := by decide +kernel
theorem dX3_remember_5 : decode cX3_remember 5 = .ok (.aload_n 0, 1) := by decide +kernel
theorem dX3_remember_6 : decode cX3_remember 6 = .ok (.invokevirtual 38, 3) := by decide +kernel
theorem dX3_remember_9 : decode cX3_remember 9 = .ok (.return_, 1) := by decide +kernel
theorem dX3_rollBack_0 : decode cX3_rollBack 0 = .ok (.aload_n 0, 1) := by decide +kernel
theorem dX3_rollBack_1 : decode cX3_rollBack 1 = .ok (.getfield 17, 3) := by decide +kernel
theorem dX3_rollBack_4 : decode cX3_rollBack 4 = .ok (.ifCond .lt 27, 3) := by decide +kernel
theorem dX3_rollBack_7 : decode cX3_rollBack 7 = .ok (.aload_n 0, 1) := by decide +kernel
theorem dX3_rollBack_8 : decode cX3_rollBack 8 = .ok (.getfield 17, 3) := by decide +kernel
theorem dX3_rollBack_11 : decode cX3_rollBack 11 = .ok (.aload_n 0, 1) := by decide +kernel
theorem dX3_rollBack_12 : decode cX3_rollBack 12 = .ok (.getfield 11, 3) := by decide +kernel
theorem dX3_rollBack_15 : decode cX3_rollBack 15 = .ok (.arraylength, 1) := by decide +kernel
theorem dX3_rollBack_16 : decode cX3_rollBack 16 = .ok (.if_icmp .ge 15, 3) := by decide +kernel
theorem dX3_rollBack_19 : decode cX3_rollBack 19 = .ok (.aload_n 0, 1) := by decide +kernel
theorem dX3_rollBack_20 : decode cX3_rollBack 20 = .ok (.getfield 11, 3) := by decide +kernel
theorem dX3_rollBack_23 : decode cX3_rollBack 23 = .ok (.aload_n 0, 1) := by decide +kernel
theorem dX3_rollBack_24 : decode cX3_rollBack 24 = .ok (.getfield 17, 3) := by decide +kernel
theorem dX3_rollBack_27 : decode cX3_rollBack 27 = .ok (.aaload, 1) := by decide +kernel
theorem dX3_rollBack_28 : decode cX3_rollBack 28 = .ok (.goto 4, 3) := by decide +kernel
theorem dX3_rollBack_31 : decode cX3_rollBack 31 = .ok (.aconst_null, 1) := by decide +kernel
theorem dX3_rollBack_32 : decode cX3_rollBack 32 = .ok (.astore_n 2, 1) := by decide +kernel
theorem dX3_rollBack_33 : decode cX3_rollBack 33 = .ok (.aload_n 2, 1) := by decide +kernel
theorem dX3_rollBack_34 : decode cX3_rollBack 34 = .ok (.ifnull 8, 3) := by decide +kernel
theorem dX3_rollBack_37 : decode cX3_rollBack 37 = .ok (.aload_n 1, 1) := by decide +kernel
theorem dX3_rollBack_38 : decode cX3_rollBack 38 = .ok (.aload_n 2, 1) := by decide +kernel
theorem dX3_rollBack_39 : decode cX3_rollBack 39 = .ok (.invokevirtual 25, 3) := by decide +kernel
theorem dX3_rollBack_42 : decode cX3_rollBack 42 = .ok (.return_, 1) := by decide +kernel
theorem dX3_stepBack_0 : decode cX3_stepBack 0 = .ok (.aload_n 0, 1) := by decide +kernel
theorem dX3_stepBack_1 : decode cX3_stepBack 1 = .ok (.getfield 21, 3) := by decide +kernel
theorem dX3_stepBack_4 : decode cX3_stepBack 4 = .ok (.ifCond .le 40, 3) := by decide +kernel
theorem dX3_stepBack_7 : decode cX3_stepBack 7 = .ok (.aload_n 0, 1) := by decide +kernel
theorem dX3_stepBack_8 : decode cX3_stepBack 8 = .ok (.aload_n 0, 1) := by decide +kernel
theorem dX3_stepBack_9 : decode cX3_stepBack 9 = .ok (.getfield 17, 3) := by decide +kernel
theorem dX3_stepBack_12 : decode cX3_stepBack 12 = .ok (.ifCond .gt 8, 3) := by decide +kernel
theorem dX3_stepBack_15 : decode cX3_stepBack 15 = .ok (.bipush 8, 2) := by decide +kernel
theorem dX3_stepBack_17 : decode cX3_stepBack 17 = .ok (.goto 9, 3) := by decide +kernel
theorem dX3_stepBack_20 : decode cX3_stepBack 20 = .ok (.aload_n 0, 1) := by decide +kernel
theorem dX3_stepBack_21 : decode cX3_stepBack 21 = .ok (.getfield 17, 3) := by decide +kernel
theorem dX3_stepBack_24 : decode cX3_stepBack 24 = .ok (.iconst 1, 1) := by decide +kernel
theorem dX3_stepBack_25 : decode cX3_stepBack 25 = .ok (.isub, 1) := by decide +kernel
theorem dX3_stepBack_26 : decode cX3_stepBack 26 = .ok (.putfield 17, 3) := by decide +kernel
theorem dX3_stepBack_29 : decode cX3_stepBack 29 = .ok (.aload_n 0, 1) := by decide +kernel
theorem dX3_stepBack_30 : decode cX3_stepBack 30 = .ok (.dup, 1) := by decide +kernel
theorem dX3_stepBack_31 : decode cX3_stepBack 31 = .ok (.getfield 21, 3) := by decide +kernel
theorem dX3_stepBack_34 : decode cX3_stepBack 34 = .ok (.iconst 1, 1) := by decide +kernel
theorem dX3_stepBack_35 : decode cX3_stepBack 35 = .ok (.isub, 1) := by decide +kernel
theorem dX3_stepBack_36 : decode cX3_stepBack 36 = .ok (.putfield 21, 3) := by decide +kernel
theorem dX3_stepBack_39 : decode cX3_stepBack 39 = .ok (.aload_n 0, 1) := by decide +kernel
theorem dX3_stepBack_40 : decode cX3_stepBack 40 = .ok (.aload_n 1, 1) := by decide +kernel
theorem dX3_stepBack_41 : decode cX3_stepBack 41 = .ok (.invokevirtual 41, 3) := by decide +kernel
theorem dX3_stepBack_44 : decode cX3_stepBack 44 = .ok (.return_, 1) := by decide +kernel
theorem dX3_forget_0 : decode cX3_forget 0 = .ok (.aload_n 0, 1) := by decide +kernel
theorem dX3_forget_1 : decode cX3_forget 1 = .ok (.iconst 0, 1) := by decide +kernel
theorem dX3_forget_2 : decode cX3_forget 2 = .ok (.putfield 21, 3) := by decide +kernel
theorem dX3_forget_5 : decode cX3_forget 5 = .ok (.return_, 1) := by decide +kernel
theorem dX4_init_0 : decode cX4_init 0 = .ok (.aload_n 0, 1) := by decide +kernel
theorem dX4_init_1 : decode cX4_init 1 = .ok (.invokespecial 3, 3) := by decide +kernel
theorem dX4_init_4 : decode cX4_init 4 = .ok (.aload_n 0, 1) := by decide +kernel
theorem dX4_init_5 : decode cX4_init 5 = .ok (.aload_n 1, 1) := by decide +kernel
theorem dX4_init_6 : decode cX4_init 6 = .ok (.putfield 9, 3) := by decide +kernel
theorem dX4_init_9 : decode cX4_init 9 = .ok (.aload_n 0, 1) := by decide +kernel
theorem dX4_init_10 : decode cX4_init 10 = .ok (.aload_n 2, 1) := by decide +kernel
theorem dX4_init_11 : decode cX4_init 11 = .ok (.putfield 15, 3) := by decide +kernel
theorem dX4_init_14 : decode cX4_init 14 = .ok (.aload_n 0, 1) := by decide +kernel
theorem dX4_init_15 : decode cX4_init 15 = .ok (.aload_n 3, 1) := by decide +kernel
theorem dX4_init_16 : decode cX4_init 16 = .ok (.putfield 19, 3) := by decide +kernel
theorem dX4_init_19 : decode cX4_init 19 = .ok (.return_, 1) := by decide +kernel
theorem dX4_ofCalibration_0 : decode cX4_ofCalibration 0 = .ok (.aload_n 0, 1) := by decide +kernel
theorem dX4_ofCalibration_1 : decode cX4_ofCalibration 1 = .ok (.getfield 9, 3) := by decide +kernel
theorem dX4_ofCalibration_4 : decode cX4_ofCalibration 4 = .ok (.getfield 23, 3) := by decide +kernel
theorem dX4_ofCalibration_7 : decode cX4_ofCalibration 7 = .ok (.astore_n 3, 1) := by decide +kernel
theorem dX4_ofCalibration_8 : decode cX4_ofCalibration 8 = .ok (.aload_n 3, 1) := by decide +kernel
theorem dX4_ofCalibration_9 : decode cX4_ofCalibration 9 = .ok (.iload_n 2, 1) := by decide +kernel
theorem dX4_ofCalibration_10 : decode cX4_ofCalibration 10 = .ok (.iconst 0, 1) := by decide +kernel
theorem dX4_ofCalibration_11 : decode cX4_ofCalibration 11 = .ok (.invokevirtual 29, 3) := by decide +kernel
theorem dX4_ofCalibration_14 : decode cX4_ofCalibration 14 = .ok (.istore 4, 2) := by decide +kernel
theorem dX4_ofCalibration_16 : decode cX4_ofCalibration 16 = .ok (.aload_n 3, 1) := by decide +kernel
theorem dX4_ofCalibration_17 : decode cX4_ofCalibration 17 = .ok (.iload_n 1, 1) := by decide +kernel
theorem dX4_ofCalibration_18 : decode cX4_ofCalibration 18 = .ok (.iconst 0, 1) := by decide +kernel
theorem dX4_ofCalibration_19 : decode cX4_ofCalibration 19 = .ok (.invokevirtual 29, 3) := by decide +kernel
theorem dX4_ofCalibration_22 : decode cX4_ofCalibration 22 = .ok (.ifCond .eq 14, 3) := by decide +kernel
theorem dX4_ofCalibration_25 : decode cX4_ofCalibration 25 = .ok (.iload 4, 2) := by decide +kernel
theorem dX4_ofCalibration_27 : decode cX4_ofCalibration 27 = .ok (.iconst 2, 1) := by decide +kernel
theorem dX4_ofCalibration_28 : decode cX4_ofCalibration 28 = .ok (.if_icmp .eq 8, 3) := by decide +kernel
theorem dX4_ofCalibration_31 : decode cX4_ofCalibration 31 = .ok (.iload_n 1, 1) := by decide +kernel
theorem dX4_ofCalibration_32 : decode cX4_ofCalibration 32 = .ok (.iload_n 2, 1) := by decide +kernel
theorem dX4_ofCalibration_33 : decode cX4_ofCalibration 33 = .ok (.if_icmp .ne 5, 3) := by decide +kernel
theorem dX4_ofCalibration_36 : decode cX4_ofCalibration 36 = .ok (.iconst 1, 1) := by decide +kernel
theorem dX4_ofCalibration_37 : decode cX4_ofCalibration 37 = .ok (.ireturn, 1) := by decide +kernel
theorem dX4_ofCalibration_38 : decode cX4_ofCalibration 38 = .ok (.aload_n 3, 1) := by decide +kernel
theorem dX4_ofCalibration_39 : decode cX4_ofCalibration 39 = .ok (.iload_n 1, 1) := by decide +kernel
theorem dX4_ofCalibration_40 : decode cX4_ofCalibration 40 = .ok (.iconst 1, 1) := by decide +kernel
theorem dX4_ofCalibration_41 : decode cX4_ofCalibration 41 = .ok (.invokevirtual 29, 3) := by decide +kernel
theorem dX4_ofCalibration_44 : decode cX4_ofCalibration 44 = .ok (.aload_n 3, 1) := by decide +kernel
theorem dX4_ofCalibration_45 : decode cX4_ofCalibration 45 = .ok (.iload_n 2, 1) := by decide +kernel
theorem dX4_ofCalibration_46 : decode cX4_ofCalibration 46 = .ok (.iconst 1, 1) := by decide +kernel
theorem dX4_ofCalibration_47 : decode cX4_ofCalibration 47 = .ok (.invokevirtual 29, 3) := by decide +kernel
theorem dX4_ofCalibration_50 : decode cX4_ofCalibration 50 = .ok (.if_icmp .eq 5, 3) := by decide +kernel
theorem dX4_ofCalibration_53 : decode cX4_ofCalibration 53 = .ok (.iconst 2, 1) := by decide +kernel
theorem dX4_ofCalibration_54 : decode cX4_ofCalibration 54 = .ok (.ireturn, 1) := by decide +kernel
theorem dX4_ofCalibration_55 : decode cX4_ofCalibration 55 = .ok (.iload 4, 2) := by decide +kernel
theorem dX4_ofCalibration_57 : decode cX4_ofCalibration 57 = .ok (.ifCond .eq 34, 3) := by decide +kernel
theorem dX4_ofCalibration_60 : decode cX4_ofCalibration 60 = .ok (.aload_n 0, 1) := by decide +kernel
theorem dX4_ofCalibration_61 : decode cX4_ofCalibration 61 = .ok (.getfield 15, 3) := by decide +kernel
theorem dX4_ofCalibration_64 : decode cX4_ofCalibration 64 = .ok (.iload_n 2, 1) := by decide +kernel
theorem dX4_ofCalibration_65 : decode cX4_ofCalibration 65 = .ok (.invokevirtual 35, 3) := by decide +kernel
theorem dX4_ofCalibration_68 : decode cX4_ofCalibration 68 = .ok (.istore 5, 2) := by decide +kernel
theorem dX4_ofCalibration_70 : decode cX4_ofCalibration 70 = .ok (.iload 5, 2) := by decide +kernel
theorem dX4_ofCalibration_72 : decode cX4_ofCalibration 72 = .ok (.ifCond .ge 5, 3) := by decide +kernel
theorem dX4_ofCalibration_75 : decode cX4_ofCalibration 75 = .ok (.iconst 3, 1) := by decide +kernel
theorem dX4_ofCalibration_76 : decode cX4_ofCalibration 76 = .ok (.ireturn, 1) := by decide +kernel
theorem dX4_ofCalibration_77 : decode cX4_ofCalibration 77 = .ok (.aload_n 0, 1) := by decide +kernel
theorem dX4_ofCalibration_78 : decode cX4_ofCalibration 78 = .ok (.getfield 19, 3) := by decide +kernel
theorem dX4_ofCalibration_81 : decode cX4_ofCalibration 81 = .ok (.iload 5, 2) := by decide +kernel
theorem dX4_ofCalibration_83 : decode cX4_ofCalibration 83 = .ok (.invokevirtual 41, 3) := by decide +kernel
theorem dX4_ofCalibration_86 : decode cX4_ofCalibration 86 = .ok (.ifCond .eq 5, 3) := by decide +kernel
theorem dX4_ofCalibration_89 : decode cX4_ofCalibration 89 = .ok (.iconst 4, 1) := by decide +kernel
theorem dX4_ofCalibration_90 : decode cX4_ofCalibration 90 = .ok (.ireturn, 1) := by decide +kernel
theorem dX4_ofCalibration_91 : decode cX4_ofCalibration 91 = .ok (.aload_n 0, 1) := by decide +kernel
theorem dX4_ofCalibration_92 : decode cX4_ofCalibration 92 = .ok (.getfield 9, 3) := by decide +kernel
theorem dX4_ofCalibration_95 : decode cX4_ofCalibration 95 = .ok (.getfield 47, 3) := by decide +kernel
theorem dX4_ofCalibration_98 : decode cX4_ofCalibration 98 = .ok (.invokevirtual 50, 3) := by decide +kernel
theorem dX4_ofCalibration_101 : decode cX4_ofCalibration 101 = .ok (.ifCond .eq 7, 3) := by decide +kernel
theorem dX4_ofCalibration_104 : decode cX4_ofCalibration 104 = .ok (.iconst 5, 1) := by decide +kernel
theorem dX4_ofCalibration_105 : decode cX4_ofCalibration 105 = .ok (.goto 4, 3) := by decide +kernel
theorem dX4_ofCalibration_108 : decode cX4_ofCalibration 108 = .ok (.iconst 0, 1) := by decide +kernel
theorem dX4_ofCalibration_109 : decode cX4_ofCalibration 109 = .ok (.ireturn, 1) := by decide +kernel
theorem dX4_ofMeasurement_0 : decode cX4_ofMeasurement 0 = .ok (.aload_n 0, 1) := by decide +kernel
theorem dX4_ofMeasurement_1 : decode cX4_ofMeasurement 1 = .ok (.getfield 9, 3) := by decide +kernel
theorem dX4_ofMeasurement_4 : decode cX4_ofMeasurement 4 = .ok (.getfield 23, 3) := by decide +kernel
theorem dX4_ofMeasurement_7 : decode cX4_ofMeasurement 7 = .ok (.iload_n 1, 1) := by decide +kernel
theorem dX4_ofMeasurement_8 : decode cX4_ofMeasurement 8 = .ok (.iconst 0, 1) := by decide +kernel
theorem dX4_ofMeasurement_9 : decode cX4_ofMeasurement 9 = .ok (.invokevirtual 29, 3) := by decide +kernel
theorem dX4_ofMeasurement_12 : decode cX4_ofMeasurement 12 = .ok (.iconst 2, 1) := by decide +kernel
theorem dX4_ofMeasurement_13 : decode cX4_ofMeasurement 13 = .ok (.if_icmp .eq 6, 3) := by decide +kernel
theorem dX4_ofMeasurement_16 : decode cX4_ofMeasurement 16 = .ok (.bipush 6, 2) := by decide +kernel
theorem dX4_ofMeasurement_18 : decode cX4_ofMeasurement 18 = .ok (.ireturn, 1) := by decide +kernel
theorem dX4_ofMeasurement_19 : decode cX4_ofMeasurement 19 = .ok (.aload_n 0, 1) := by decide +kernel
theorem dX4_ofMeasurement_20 : decode cX4_ofMeasurement 20 = .ok (.getfield 15, 3) := by decide +kernel
theorem dX4_ofMeasurement_23 : decode cX4_ofMeasurement 23 = .ok (.iload_n 1, 1) := by decide +kernel
theorem dX4_ofMeasurement_24 : decode cX4_ofMeasurement 24 = .ok (.invokevirtual 35, 3) := by decide +kernel
theorem dX4_ofMeasurement_27 : decode cX4_ofMeasurement 27 = .ok (.istore_n 2, 1) := by decide +kernel
theorem dX4_ofMeasurement_28 : decode cX4_ofMeasurement 28 = .ok (.iload_n 2, 1) := by decide +kernel
theorem dX4_ofMeasurement_29 : decode cX4_ofMeasurement 29 = .ok (.ifCond .ge 5, 3) := by decide +kernel
theorem dX4_ofMeasurement_32 : decode cX4_ofMeasurement 32 = .ok (.iconst 3, 1) := by decide +kernel
theorem dX4_ofMeasurement_33 : decode cX4_ofMeasurement 33 = .ok (.ireturn, 1) := by decide +kernel
theorem dX4_ofMeasurement_34 : decode cX4_ofMeasurement 34 = .ok (.aload_n 0, 1) := by decide +kernel
theorem dX4_ofMeasurement_35 : decode cX4_ofMeasurement 35 = .ok (.getfield 19, 3) := by decide +kernel
theorem dX4_ofMeasurement_38 : decode cX4_ofMeasurement 38 = .ok (.iload_n 2, 1) := by decide +kernel
theorem dX4_ofMeasurement_39 : decode cX4_ofMeasurement 39 = .ok (.invokevirtual 41, 3) := by decide +kernel
theorem dX4_ofMeasurement_42 : decode cX4_ofMeasurement 42 = .ok (.ifCond .eq 5, 3) := by decide +kernel
theorem dX4_ofMeasurement_45 : decode cX4_ofMeasurement 45 = .ok (.iconst 4, 1) := by decide +kernel
theorem dX4_ofMeasurement_46 : decode cX4_ofMeasurement 46 = .ok (.ireturn, 1) := by decide +kernel
theorem dX4_ofMeasurement_47 : decode cX4_ofMeasurement 47 = .ok (.aload_n 0, 1) := by decide +kernel
theorem dX4_ofMeasurement_48 : decode cX4_ofMeasurement 48 = .ok (.getfield 9, 3) := by decide +kernel
theorem dX4_ofMeasurement_51 : decode cX4_ofMeasurement 51 = .ok (.getfield 54, 3) := by decide +kernel
theorem dX4_ofMeasurement_54 : decode cX4_ofMeasurement 54 = .ok (.invokevirtual 50, 3) := by decide +kernel
theorem dX4_ofMeasurement_57 : decode cX4_ofMeasurement 57 = .ok (.ifCond .eq 8, 3) := by decide +kernel
theorem dX4_ofMeasurement_60 : decode cX4_ofMeasurement 60 = .ok (.bipush 7, 2) := by decide +kernel
theorem dX4_ofMeasurement_62 : decode cX4_ofMeasurement 62 = .ok (.goto 4, 3) := by decide +kernel
theorem dX4_ofMeasurement_65 : decode cX4_ofMeasurement 65 = .ok (.iconst 0, 1) := by decide +kernel
theorem dX4_ofMeasurement_66 : decode cX4_ofMeasurement 66 = .ok (.ireturn, 1) := by decide +kernel
theorem dX4_ofCertificate_0 : decode cX4_ofCertificate 0 = .ok (.aload_n 0, 1) := by decide +kernel
theorem dX4_ofCertificate_1 : decode cX4_ofCertificate 1 = .ok (.getfield 15, 3) := by decide +kernel
theorem dX4_ofCertificate_4 : decode cX4_ofCertificate 4 = .ok (.iload_n 1, 1) := by decide +kernel
theorem dX4_ofCertificate_5 : decode cX4_ofCertificate 5 = .ok (.invokevirtual 35, 3) := by decide +kernel
theorem dX4_ofCertificate_8 : decode cX4_ofCertificate 8 = .ok (.istore_n 2, 1) := by decide +kernel
theorem dX4_ofCertificate_9 : decode cX4_ofCertificate 9 = .ok (.iload_n 2, 1) := by decide +kernel
theorem dX4_ofCertificate_10 : decode cX4_ofCertificate 10 = .ok (.ifCond .ge 5, 3) := by decide +kernel
theorem dX4_ofCertificate_13 : decode cX4_ofCertificate 13 = .ok (.iconst 3, 1) := by decide +kernel
theorem dX4_ofCertificate_14 : decode cX4_ofCertificate 14 = .ok (.ireturn, 1) := by decide +kernel
theorem dX4_ofCertificate_15 : decode cX4_ofCertificate 15 = .ok (.aload_n 0, 1) := by decide +kernel
theorem dX4_ofCertificate_16 : decode cX4_ofCertificate 16 = .ok (.getfield 19, 3) := by decide +kernel
theorem dX4_ofCertificate_19 : decode cX4_ofCertificate 19 = .ok (.iload_n 2, 1) := by decide +kernel
theorem dX4_ofCertificate_20 : decode cX4_ofCertificate 20 = .ok (.invokevirtual 41, 3) := by decide +kernel
theorem dX4_ofCertificate_23 : decode cX4_ofCertificate 23 = .ok (.ifCond .eq 5, 3) := by decide +kernel
theorem dX4_ofCertificate_26 : decode cX4_ofCertificate 26 = .ok (.iconst 4, 1) := by decide +kernel
theorem dX4_ofCertificate_27 : decode cX4_ofCertificate 27 = .ok (.ireturn, 1) := by decide +kernel
theorem dX4_ofCertificate_28 : decode cX4_ofCertificate 28 = .ok (.aload_n 0, 1) := by decide +kernel
theorem dX4_ofCertificate_29 : decode cX4_ofCertificate 29 = .ok (.getfield 19, 3) := by decide +kernel
theorem dX4_ofCertificate_32 : decode cX4_ofCertificate 32 = .ok (.iload_n 2, 1) := by decide +kernel
theorem dX4_ofCertificate_33 : decode cX4_ofCertificate 33 = .ok (.invokevirtual 57, 3) := by decide +kernel
theorem dX4_ofCertificate_36 : decode cX4_ofCertificate 36 = .ok (.ifCond .ne 6, 3) := by decide +kernel
theorem dX4_ofCertificate_39 : decode cX4_ofCertificate 39 = .ok (.bipush 8, 2) := by decide +kernel
theorem dX4_ofCertificate_41 : decode cX4_ofCertificate 41 = .ok (.ireturn, 1) := by decide +kernel
theorem dX4_ofCertificate_42 : decode cX4_ofCertificate 42 = .ok (.aload_n 0, 1) := by decide +kernel
theorem dX4_ofCertificate_43 : decode cX4_ofCertificate 43 = .ok (.getfield 9, 3) := by decide +kernel
theorem dX4_ofCertificate_46 : decode cX4_ofCertificate 46 = .ok (.getfield 60, 3) := by decide +kernel
theorem dX4_ofCertificate_49 : decode cX4_ofCertificate 49 = .ok (.invokevirtual 50, 3) := by decide +kernel
theorem dX4_ofCertificate_52 : decode cX4_ofCertificate 52 = .ok (.ifCond .eq 8, 3) := by decide +kernel
theorem dX4_ofCertificate_55 : decode cX4_ofCertificate 55 = .ok (.bipush 9, 2) := by decide +kernel
theorem dX4_ofCertificate_57 : decode cX4_ofCertificate 57 = .ok (.goto 4, 3) := by decide +kernel
theorem dX4_ofCertificate_60 : decode cX4_ofCertificate 60 = .ok (.iconst 0, 1) := by decide +kernel
theorem dX4_ofCertificate_61 : decode cX4_ofCertificate 61 = .ok (.ireturn, 1) := by decide +kernel
theorem dX5_init_0 : decode cX5_init 0 = .ok (.aload_n 0, 1) := by decide +kernel
theorem dX5_init_1 : decode cX5_init 1 = .ok (.invokespecial 3, 3) := by decide +kernel
theorem dX5_init_4 : decode cX5_init 4 = .ok (.aload_n 0, 1) := by decide +kernel
theorem dX5_init_5 : decode cX5_init 5 = .ok (.new 9, 3) := by decide +kernel
theorem dX5_init_8 : decode cX5_init 8 = .ok (.dup, 1) := by decide +kernel
theorem dX5_init_9 : decode cX5_init 9 = .ok (.bipush 16, 2) := by decide +kernel
theorem dX5_init_11 : decode cX5_init 11 = .ok (.bipush 7, 2) := by decide +kernel
theorem dX5_init_13 : decode cX5_init 13 = .ok (.invokespecial 11, 3) := by decide +kernel
theorem dX5_init_16 : decode cX5_init 16 = .ok (.putfield 14, 3) := by decide +kernel
theorem dX5_init_19 : decode cX5_init 19 = .ok (.aload_n 0, 1) := by decide +kernel
theorem dX5_init_20 : decode cX5_init 20 = .ok (.new 9, 3) := by decide +kernel
theorem dX5_init_23 : decode cX5_init 23 = .ok (.dup, 1) := by decide +kernel
theorem dX5_init_24 : decode cX5_init 24 = .ok (.bipush 6, 2) := by decide +kernel
theorem dX5_init_26 : decode cX5_init 26 = .ok (.iconst 1, 1) := by decide +kernel
theorem dX5_init_27 : decode cX5_init 27 = .ok (.invokespecial 11, 3) := by decide +kernel
theorem dX5_init_30 : decode cX5_init 30 = .ok (.putfield 20, 3) := by decide +kernel
theorem dX5_init_33 : decode cX5_init 33 = .ok (.aload_n 0, 1) := by decide +kernel
theorem dX5_init_34 : decode cX5_init 34 = .ok (.new 9, 3) := by decide +kernel
theorem dX5_init_37 : decode cX5_init 37 = .ok (.dup, 1) := by decide +kernel
theorem dX5_init_38 : decode cX5_init 38 = .ok (.bipush 60, 2) := by decide +kernel
theorem dX5_init_40 : decode cX5_init 40 = .ok (.bipush 12, 2) := by decide +kernel
theorem dX5_init_42 : decode cX5_init 42 = .ok (.invokespecial 11, 3) := by decide +kernel
theorem dX5_init_45 : decode cX5_init 45 = .ok (.putfield 23, 3) := by decide +kernel
theorem dX5_init_48 : decode cX5_init 48 = .ok (.aload_n 0, 1) := by decide +kernel
theorem dX5_init_49 : decode cX5_init 49 = .ok (.new 9, 3) := by decide +kernel
theorem dX5_init_52 : decode cX5_init 52 = .ok (.dup, 1) := by decide +kernel
theorem dX5_init_53 : decode cX5_init 53 = .ok (.bipush 8, 2) := by decide +kernel
theorem dX5_init_55 : decode cX5_init 55 = .ok (.iconst 3, 1) := by decide +kernel
theorem dX5_init_56 : decode cX5_init 56 = .ok (.invokespecial 11, 3) := by decide +kernel
theorem dX5_init_59 : decode cX5_init 59 = .ok (.putfield 26, 3) := by decide +kernel
theorem dX5_init_62 : decode cX5_init 62 = .ok (.aload_n 0, 1) := by decide +kernel
theorem dX5_init_63 : decode cX5_init 63 = .ok (.new 9, 3) := by decide +kernel
theorem dX5_init_66 : decode cX5_init 66 = .ok (.dup, 1) := by decide +kernel
theorem dX5_init_67 : decode cX5_init 67 = .ok (.bipush 40, 2) := by decide +kernel
theorem dX5_init_69 : decode cX5_init 69 = .ok (.bipush 7, 2) := by decide +kernel
theorem dX5_init_71 : decode cX5_init 71 = .ok (.invokespecial 11, 3) := by decide +kernel
theorem dX5_init_74 : decode cX5_init 74 = .ok (.putfield 29, 3) := by decide +kernel
theorem dX5_init_77 : decode cX5_init 77 = .ok (.aload_n 0, 1) := by decide +kernel
theorem dX5_init_78 : decode cX5_init 78 = .ok (.new 9, 3) := by decide +kernel
theorem dX5_init_81 : decode cX5_init 81 = .ok (.dup, 1) := by decide +kernel
theorem dX5_init_82 : decode cX5_init 82 = .ok (.bipush 20, 2) := by decide +kernel
theorem dX5_init_84 : decode cX5_init 84 = .ok (.iconst 2, 1) := by decide +kernel
theorem dX5_init_85 : decode cX5_init 85 = .ok (.invokespecial 11, 3) := by decide +kernel
theorem dX5_init_88 : decode cX5_init 88 = .ok (.putfield 32, 3) := by decide +kernel
theorem dX5_init_91 : decode cX5_init 91 = .ok (.aload_n 0, 1) := by decide +kernel
theorem dX5_init_92 : decode cX5_init 92 = .ok (.iconst 0, 1) := by decide +kernel
theorem dX5_init_93 : decode cX5_init 93 = .ok (.putfield 35, 3) := by decide +kernel
theorem dX5_init_96 : decode cX5_init 96 = .ok (.return_, 1) := by decide +kernel
theorem dX5_copyFrom_0 : decode cX5_copyFrom 0 = .ok (.aload_n 0, 1) := by decide +kernel
theorem dX5_copyFrom_1 : decode cX5_copyFrom 1 = .ok (.getfield 14, 3) := by decide +kernel
theorem dX5_copyFrom_4 : decode cX5_copyFrom 4 = .ok (.aload_n 1, 1) := by decide +kernel
theorem dX5_copyFrom_5 : decode cX5_copyFrom 5 = .ok (.getfield 14, 3) := by decide +kernel
theorem dX5_copyFrom_8 : decode cX5_copyFrom 8 = .ok (.invokevirtual 39, 3) := by decide +kernel
theorem dX5_copyFrom_11 : decode cX5_copyFrom 11 = .ok (.aload_n 0, 1) := by decide +kernel
theorem dX5_copyFrom_12 : decode cX5_copyFrom 12 = .ok (.getfield 20, 3) := by decide +kernel
theorem dX5_copyFrom_15 : decode cX5_copyFrom 15 = .ok (.aload_n 1, 1) := by decide +kernel
theorem dX5_copyFrom_16 : decode cX5_copyFrom 16 = .ok (.getfield 20, 3) := by decide +kernel
theorem dX5_copyFrom_19 : decode cX5_copyFrom 19 = .ok (.invokevirtual 39, 3) := by decide +kernel
theorem dX5_copyFrom_22 : decode cX5_copyFrom 22 = .ok (.aload_n 0, 1) := by decide +kernel
theorem dX5_copyFrom_23 : decode cX5_copyFrom 23 = .ok (.getfield 23, 3) := by decide +kernel
theorem dX5_copyFrom_26 : decode cX5_copyFrom 26 = .ok (.aload_n 1, 1) := by decide +kernel
theorem dX5_copyFrom_27 : decode cX5_copyFrom 27 = .ok (.getfield 23, 3) := by decide +kernel
theorem dX5_copyFrom_30 : decode cX5_copyFrom 30 = .ok (.invokevirtual 39, 3) := by decide +kernel
theorem dX5_copyFrom_33 : decode cX5_copyFrom 33 = .ok (.aload_n 0, 1) := by decide +kernel
theorem dX5_copyFrom_34 : decode cX5_copyFrom 34 = .ok (.getfield 26, 3) := by decide +kernel
theorem dX5_copyFrom_37 : decode cX5_copyFrom 37 = .ok (.aload_n 1, 1) := by decide +kernel
theorem dX5_copyFrom_38 : decode cX5_copyFrom 38 = .ok (.getfield 26, 3) := by decide +kernel
theorem dX5_copyFrom_41 : decode cX5_copyFrom 41 = .ok (.invokevirtual 39, 3) := by decide +kernel
theorem dX5_copyFrom_44 : decode cX5_copyFrom 44 = .ok (.aload_n 0, 1) := by decide +kernel
theorem dX5_copyFrom_45 : decode cX5_copyFrom 45 = .ok (.getfield 29, 3) := by decide +kernel
theorem dX5_copyFrom_48 : decode cX5_copyFrom 48 = .ok (.aload_n 1, 1) := by decide +kernel
theorem dX5_copyFrom_49 : decode cX5_copyFrom 49 = .ok (.getfield 29, 3) := by decide +kernel
theorem dX5_copyFrom_52 : decode cX5_copyFrom 52 = .ok (.invokevirtual 39, 3) := by decide +kernel
theorem dX5_copyFrom_55 : decode cX5_copyFrom 55 = .ok (.aload_n 0, 1) := by decide +kernel
theorem dX5_copyFrom_56 : decode cX5_copyFrom 56 = .ok (.getfield 32, 3) := by decide +kernel
theorem dX5_copyFrom_59 : decode cX5_copyFrom 59 = .ok (.aload_n 1, 1) := by decide +kernel
theorem dX5_copyFrom_60 : decode cX5_copyFrom 60 = .ok (.getfield 32, 3) := by decide +kernel
theorem dX5_copyFrom_63 : decode cX5_copyFrom 63 = .ok (.invokevirtual 39, 3) := by decide +kernel
theorem dX5_copyFrom_66 : decode cX5_copyFrom 66 = .ok (.aload_n 0, 1) := by decide +kernel
theorem dX5_copyFrom_67 : decode cX5_copyFrom 67 = .ok (.aload_n 1, 1) := by decide +kernel
theorem dX5_copyFrom_68 : decode cX5_copyFrom 68 = .ok (.getfield 35, 3) := by decide +kernel
theorem dX5_copyFrom_71 : decode cX5_copyFrom 71 = .ok (.putfield 35, 3) := by decide +kernel
theorem dX5_copyFrom_74 : decode cX5_copyFrom 74 = .ok (.return_, 1) := by decide +kernel
theorem dX6_init_0 : decode cX6_init 0 = .ok (.aload_n 0, 1) := by decide +kernel
theorem dX6_init_1 : decode cX6_init 1 = .ok (.invokespecial 1, 3) := by decide +kernel
theorem dX6_init_4 : decode cX6_init 4 = .ok (.aload_n 0, 1) := by decide +kernel
theorem dX6_init_5 : decode cX6_init 5 = .ok (.iconst 0, 1) := by decide +kernel
theorem dX6_init_6 : decode cX6_init 6 = .ok (.putfield 7, 3) := by decide +kernel
theorem dX6_init_9 : decode cX6_init 9 = .ok (.aload_n 0, 1) := by decide +kernel
theorem dX6_init_10 : decode cX6_init 10 = .ok (.iload_n 1, 1) := by decide +kernel
theorem dX6_init_11 : decode cX6_init 11 = .ok (.putfield 13, 3) := by decide +kernel
theorem dX6_init_14 : decode cX6_init 14 = .ok (.aload_n 0, 1) := by decide +kernel
theorem dX6_init_15 : decode cX6_init 15 = .ok (.iload_n 2, 1) := by decide +kernel
theorem dX6_init_16 : decode cX6_init 16 = .ok (.putfield 16, 3) := by decide +kernel
theorem dX6_init_19 : decode cX6_init 19 = .ok (.aload_n 0, 1) := by decide +kernel
theorem dX6_init_20 : decode cX6_init 20 = .ok (.iconst 0, 1) := by decide +kernel
theorem dX6_init_21 : decode cX6_init 21 = .ok (.iload_n 1, 1) := by decide +kernel
theorem dX6_init_22 : decode cX6_init 22 = .ok (.iload_n 2, 1) := by decide +kernel
theorem dX6_init_23 : decode cX6_init 23 = .ok (.imul, 1) := by decide +kernel
theorem dX6_init_24 : decode cX6_init 24 = .ok (.invokestatic 19, 3) := by decide +kernel
theorem dX6_init_27 : decode cX6_init 27 = .ok (.newarray .int, 2) := by decide +kernel
theorem dX6_init_29 : decode cX6_init 29 = .ok (.putfield 25, 3) := by decide +kernel
theorem dX6_init_32 : decode cX6_init 32 = .ok (.return_, 1) := by decide +kernel
theorem dX6_size_0 : decode cX6_size 0 = .ok (.aload_n 0, 1) := by decide +kernel
theorem dX6_size_1 : decode cX6_size 1 = .ok (.getfield 7, 3) := by decide +kernel
theorem dX6_size_4 : decode cX6_size 4 = .ok (.ireturn, 1) := by decide +kernel
theorem dX6_has_0 : decode cX6_has 0 = .ok (.iload_n 1, 1) := by decide +kernel
theorem dX6_has_1 : decode cX6_has 1 = .ok (.ifCond .lt 15, 3) := by decide +kernel
theorem dX6_has_4 : decode cX6_has 4 = .ok (.iload_n 1, 1) := by decide +kernel
theorem dX6_has_5 : decode cX6_has 5 = .ok (.aload_n 0, 1) := by decide +kernel
theorem dX6_has_6 : decode cX6_has 6 = .ok (.getfield 7, 3) := by decide +kernel
theorem dX6_has_9 : decode cX6_has 9 = .ok (.if_icmp .ge 7, 3) := by decide +kernel
theorem dX6_has_12 : decode cX6_has 12 = .ok (.iconst 1, 1) := by decide +kernel
theorem dX6_has_13 : decode cX6_has 13 = .ok (.goto 4, 3) := by decide +kernel
theorem dX6_has_16 : decode cX6_has 16 = .ok (.iconst 0, 1) := by decide +kernel
theorem dX6_has_17 : decode cX6_has 17 = .ok (.ireturn, 1) := by decide +kernel
theorem dX6_isFull_0 : decode cX6_isFull 0 = .ok (.aload_n 0, 1) := by decide +kernel
theorem dX6_isFull_1 : decode cX6_isFull 1 = .ok (.getfield 7, 3) := by decide +kernel
theorem dX6_isFull_4 : decode cX6_isFull 4 = .ok (.aload_n 0, 1) := by decide +kernel
theorem dX6_isFull_5 : decode cX6_isFull 5 = .ok (.getfield 13, 3) := by decide +kernel
theorem dX6_isFull_8 : decode cX6_isFull 8 = .ok (.if_icmp .lt 7, 3) := by decide +kernel
theorem dX6_isFull_11 : decode cX6_isFull 11 = .ok (.iconst 1, 1) := by decide +kernel
theorem dX6_isFull_12 : decode cX6_isFull 12 = .ok (.goto 4, 3) := by decide +kernel
theorem dX6_isFull_15 : decode cX6_isFull 15 = .ok (.iconst 0, 1) := by decide +kernel
theorem dX6_isFull_16 : decode cX6_isFull 16 = .ok (.ireturn, 1) := by decide +kernel
theorem dX6_get_0 : decode cX6_get 0 = .ok (.iload_n 1, 1) := by decide +kernel
theorem dX6_get_1 : decode cX6_get 1 = .ok (.aload_n 0, 1) := by decide +kernel
theorem dX6_get_2 : decode cX6_get 2 = .ok (.getfield 16, 3) := by decide +kernel
theorem dX6_get_5 : decode cX6_get 5 = .ok (.imul, 1) := by decide +kernel
theorem dX6_get_6 : decode cX6_get 6 = .ok (.iload_n 2, 1) := by decide +kernel
theorem dX6_get_7 : decode cX6_get 7 = .ok (.iadd, 1) := by decide +kernel
theorem dX6_get_8 : decode cX6_get 8 = .ok (.istore_n 3, 1) := by decide +kernel
theorem dX6_get_9 : decode cX6_get 9 = .ok (.iload_n 1, 1) := by decide +kernel
theorem dX6_get_10 : decode cX6_get 10 = .ok (.ifCond .lt 27, 3) := by decide +kernel
theorem dX6_get_13 : decode cX6_get 13 = .ok (.iload_n 1, 1) := by decide +kernel
theorem dX6_get_14 : decode cX6_get 14 = .ok (.aload_n 0, 1) := by decide +kernel
theorem dX6_get_15 : decode cX6_get 15 = .ok (.getfield 7, 3) := by decide +kernel
theorem dX6_get_18 : decode cX6_get 18 = .ok (.if_icmp .ge 19, 3) := by decide +kernel
theorem dX6_get_21 : decode cX6_get 21 = .ok (.iload_n 2, 1) := by decide +kernel
theorem dX6_get_22 : decode cX6_get 22 = .ok (.ifCond .lt 15, 3) := by decide +kernel
theorem dX6_get_25 : decode cX6_get 25 = .ok (.iload_n 2, 1) := by decide +kernel
theorem dX6_get_26 : decode cX6_get 26 = .ok (.aload_n 0, 1) := by decide +kernel
theorem dX6_get_27 : decode cX6_get 27 = .ok (.getfield 16, 3) := by decide +kernel
theorem dX6_get_30 : decode cX6_get 30 = .ok (.if_icmp .ge 7, 3) := by decide +kernel
theorem dX6_get_33 : decode cX6_get 33 = .ok (.iconst 1, 1) := by decide +kernel
theorem dX6_get_34 : decode cX6_get 34 = .ok (.goto 4, 3) := by decide +kernel
theorem dX6_get_37 : decode cX6_get 37 = .ok (.iconst 0, 1) := by decide +kernel
theorem dX6_get_38 : decode cX6_get 38 = .ok (.istore 4, 2) := by decide +kernel
theorem dX6_get_40 : decode cX6_get 40 = .ok (.iload 4, 2) := by decide +kernel
theorem dX6_get_42 : decode cX6_get 42 = .ok (.ifCond .eq 25, 3) := by decide +kernel
theorem dX6_get_45 : decode cX6_get 45 = .ok (.iload_n 3, 1) := by decide +kernel
theorem dX6_get_46 : decode cX6_get 46 = .ok (.ifCond .lt 21, 3) := by decide +kernel
theorem dX6_get_49 : decode cX6_get 49 = .ok (.iload_n 3, 1) := by decide +kernel
theorem dX6_get_50 : decode cX6_get 50 = .ok (.aload_n 0, 1) := by decide +kernel
theorem dX6_get_51 : decode cX6_get 51 = .ok (.getfield 25, 3) := by decide +kernel
theorem dX6_get_54 : decode cX6_get 54 = .ok (.arraylength, 1) := by decide +kernel
theorem dX6_get_55 : decode cX6_get 55 = .ok (.if_icmp .ge 12, 3) := by decide +kernel
theorem dX6_get_58 : decode cX6_get 58 = .ok (.aload_n 0, 1) := by decide +kernel
theorem dX6_get_59 : decode cX6_get 59 = .ok (.getfield 25, 3) := by decide +kernel
theorem dX6_get_62 : decode cX6_get 62 = .ok (.iload_n 3, 1) := by decide +kernel
theorem dX6_get_63 : decode cX6_get 63 = .ok (.iaload, 1) := by decide +kernel
theorem dX6_get_64 : decode cX6_get 64 = .ok (.goto 4, 3) := by decide +kernel
theorem dX6_get_67 : decode cX6_get 67 = .ok (.iconst 0, 1) := by decide +kernel
theorem dX6_get_68 : decode cX6_get 68 = .ok (.ireturn, 1) := by decide +kernel
theorem dX6_put_0 : decode cX6_put 0 = .ok (.iload_n 1, 1) := by decide +kernel
theorem dX6_put_1 : decode cX6_put 1 = .ok (.aload_n 0, 1) := by decide +kernel
theorem dX6_put_2 : decode cX6_put 2 = .ok (.getfield 16, 3) := by decide +kernel
theorem dX6_put_5 : decode cX6_put 5 = .ok (.imul, 1) := by decide +kernel
theorem dX6_put_6 : decode cX6_put 6 = .ok (.iload_n 2, 1) := by decide +kernel
theorem dX6_put_7 : decode cX6_put 7 = .ok (.iadd, 1) := by decide +kernel
theorem dX6_put_8 : decode cX6_put 8 = .ok (.istore 4, 2) := by decide +kernel
theorem dX6_put_10 : decode cX6_put 10 = .ok (.iload_n 1, 1) := by decide +kernel
theorem dX6_put_11 : decode cX6_put 11 = .ok (.ifCond .lt 27, 3) := by decide +kernel
theorem dX6_put_14 : decode cX6_put 14 = .ok (.iload_n 1, 1) := by decide +kernel
theorem dX6_put_15 : decode cX6_put 15 = .ok (.aload_n 0, 1) := by decide +kernel
theorem dX6_put_16 : decode cX6_put 16 = .ok (.getfield 7, 3) := by decide +kernel
theorem dX6_put_19 : decode cX6_put 19 = .ok (.if_icmp .ge 19, 3) := by decide +kernel
theorem dX6_put_22 : decode cX6_put 22 = .ok (.iload_n 2, 1) := by decide +kernel
theorem dX6_put_23 : decode cX6_put 23 = .ok (.ifCond .lt 15, 3) := by decide +kernel
theorem dX6_put_26 : decode cX6_put 26 = .ok (.iload_n 2, 1) := by decide +kernel
theorem dX6_put_27 : decode cX6_put 27 = .ok (.aload_n 0, 1) := by decide +kernel
theorem dX6_put_28 : decode cX6_put 28 = .ok (.getfield 16, 3) := by decide +kernel
theorem dX6_put_31 : decode cX6_put 31 = .ok (.if_icmp .ge 7, 3) := by decide +kernel
theorem dX6_put_34 : decode cX6_put 34 = .ok (.iconst 1, 1) := by decide +kernel
theorem dX6_put_35 : decode cX6_put 35 = .ok (.goto 4, 3) := by decide +kernel
theorem dX6_put_38 : decode cX6_put 38 = .ok (.iconst 0, 1) := by decide +kernel
theorem dX6_put_39 : decode cX6_put 39 = .ok (.istore 5, 2) := by decide +kernel
theorem dX6_put_41 : decode cX6_put 41 = .ok (.iload 5, 2) := by decide +kernel
theorem dX6_put_43 : decode cX6_put 43 = .ok (.ifCond .eq 26, 3) := by decide +kernel
theorem dX6_put_46 : decode cX6_put 46 = .ok (.iload 4, 2) := by decide +kernel
theorem dX6_put_48 : decode cX6_put 48 = .ok (.ifCond .lt 21, 3) := by decide +kernel
theorem dX6_put_51 : decode cX6_put 51 = .ok (.iload 4, 2) := by decide +kernel
theorem dX6_put_53 : decode cX6_put 53 = .ok (.aload_n 0, 1) := by decide +kernel
theorem dX6_put_54 : decode cX6_put 54 = .ok (.getfield 25, 3) := by decide +kernel
theorem dX6_put_57 : decode cX6_put 57 = .ok (.arraylength, 1) := by decide +kernel
theorem dX6_put_58 : decode cX6_put 58 = .ok (.if_icmp .ge 11, 3) := by decide +kernel
theorem dX6_put_61 : decode cX6_put 61 = .ok (.aload_n 0, 1) := by decide +kernel
theorem dX6_put_62 : decode cX6_put 62 = .ok (.getfield 25, 3) := by decide +kernel
theorem dX6_put_65 : decode cX6_put 65 = .ok (.iload 4, 2) := by decide +kernel
theorem dX6_put_67 : decode cX6_put 67 = .ok (.iload_n 3, 1) := by decide +kernel
theorem dX6_put_68 : decode cX6_put 68 = .ok (.iastore, 1) := by decide +kernel
theorem dX6_put_69 : decode cX6_put 69 = .ok (.return_, 1) := by decide +kernel
theorem dX6_add_0 : decode cX6_add 0 = .ok (.aload_n 0, 1) := by decide +kernel
theorem dX6_add_1 : decode cX6_add 1 = .ok (.getfield 7, 3) := by decide +kernel
theorem dX6_add_4 : decode cX6_add 4 = .ok (.aload_n 0, 1) := by decide +kernel
theorem dX6_add_5 : decode cX6_add 5 = .ok (.getfield 13, 3) := by decide +kernel
theorem dX6_add_8 : decode cX6_add 8 = .ok (.if_icmp .lt 5, 3) := by decide +kernel
theorem dX6_add_11 : decode cX6_add 11 = .ok (.iconst (-1), 1) := by decide +kernel
theorem dX6_add_12 : decode cX6_add 12 = .ok (.ireturn, 1) := by decide +kernel
theorem dX6_add_13 : decode cX6_add 13 = .ok (.aload_n 0, 1) := by decide +kernel
theorem dX6_add_14 : decode cX6_add 14 = .ok (.dup, 1) := by decide +kernel
theorem dX6_add_15 : decode cX6_add 15 = .ok (.getfield 7, 3) := by decide +kernel
theorem dX6_add_18 : decode cX6_add 18 = .ok (.iconst 1, 1) := by decide +kernel
theorem dX6_add_19 : decode cX6_add 19 = .ok (.iadd, 1) := by decide +kernel
theorem dX6_add_20 : decode cX6_add 20 = .ok (.putfield 7, 3) := by decide +kernel
theorem dX6_add_23 : decode cX6_add 23 = .ok (.iconst 0, 1) := by decide +kernel
theorem dX6_add_24 : decode cX6_add 24 = .ok (.istore_n 1, 1) := by decide +kernel
theorem dX6_add_25 : decode cX6_add 25 = .ok (.iload_n 1, 1) := by decide +kernel
theorem dX6_add_26 : decode cX6_add 26 = .ok (.aload_n 0, 1) := by decide +kernel
theorem dX6_add_27 : decode cX6_add 27 = .ok (.getfield 16, 3) := by decide +kernel
theorem dX6_add_30 : decode cX6_add 30 = .ok (.if_icmp .ge 21, 3) := by decide +kernel
theorem dX6_add_33 : decode cX6_add 33 = .ok (.aload_n 0, 1) := by decide +kernel
theorem dX6_add_34 : decode cX6_add 34 = .ok (.aload_n 0, 1) := by decide +kernel
theorem dX6_add_35 : decode cX6_add 35 = .ok (.getfield 7, 3) := by decide +kernel
theorem dX6_add_38 : decode cX6_add 38 = .ok (.iconst 1, 1) := by decide +kernel
theorem dX6_add_39 : decode cX6_add 39 = .ok (.isub, 1) := by decide +kernel
theorem dX6_add_40 : decode cX6_add 40 = .ok (.iload_n 1, 1) := by decide +kernel
theorem dX6_add_41 : decode cX6_add 41 = .ok (.iconst 0, 1) := by decide +kernel
theorem dX6_add_42 : decode cX6_add 42 = .ok (.invokevirtual 29, 3) := by decide +kernel
theorem dX6_add_45 : decode cX6_add 45 = .ok (.iinc 1 1, 3) := by decide +kernel
theorem dX6_add_48 : decode cX6_add 48 = .ok (.goto (-23), 3) := by decide +kernel
theorem dX6_add_51 : decode cX6_add 51 = .ok (.aload_n 0, 1) := by decide +kernel
theorem dX6_add_52 : decode cX6_add 52 = .ok (.getfield 7, 3) := by decide +kernel
theorem dX6_add_55 : decode cX6_add 55 = .ok (.iconst 1, 1) := by decide +kernel
theorem dX6_add_56 : decode cX6_add 56 = .ok (.isub, 1) := by decide +kernel
theorem dX6_add_57 : decode cX6_add 57 = .ok (.ireturn, 1) := by decide +kernel
theorem dX6_remove_0 : decode cX6_remove 0 = .ok (.iload_n 1, 1) := by decide +kernel
theorem dX6_remove_1 : decode cX6_remove 1 = .ok (.ifCond .lt 11, 3) := by decide +kernel
theorem dX6_remove_4 : decode cX6_remove 4 = .ok (.iload_n 1, 1) := by decide +kernel
theorem dX6_remove_5 : decode cX6_remove 5 = .ok (.aload_n 0, 1) := by decide +kernel
theorem dX6_remove_6 : decode cX6_remove 6 = .ok (.getfield 7, 3) := by decide +kernel
theorem dX6_remove_9 : decode cX6_remove 9 = .ok (.if_icmp .lt 4, 3) := by decide +kernel
theorem dX6_remove_12 : decode cX6_remove 12 = .ok (.return_, 1) := by decide +kernel
theorem dX6_remove_13 : decode cX6_remove 13 = .ok (.iload_n 1, 1) := by decide +kernel
theorem dX6_remove_14 : decode cX6_remove 14 = .ok (.iconst 1, 1) := by decide +kernel
theorem dX6_remove_15 : decode cX6_remove 15 = .ok (.iadd, 1) := by decide +kernel
theorem dX6_remove_16 : decode cX6_remove 16 = .ok (.istore_n 2, 1) := by decide +kernel
theorem dX6_remove_17 : decode cX6_remove 17 = .ok (.iload_n 2, 1) := by decide +kernel
theorem dX6_remove_18 : decode cX6_remove 18 = .ok (.aload_n 0, 1) := by decide +kernel
theorem dX6_remove_19 : decode cX6_remove 19 = .ok (.getfield 7, 3) := by decide +kernel
theorem dX6_remove_22 : decode cX6_remove 22 = .ok (.if_icmp .ge 39, 3) := by decide +kernel
theorem dX6_remove_25 : decode cX6_remove 25 = .ok (.iconst 0, 1) := by decide +kernel
theorem dX6_remove_26 : decode cX6_remove 26 = .ok (.istore_n 3, 1) := by decide +kernel
theorem dX6_remove_27 : decode cX6_remove 27 = .ok (.iload_n 3, 1) := by decide +kernel
theorem dX6_remove_28 : decode cX6_remove 28 = .ok (.aload_n 0, 1) := by decide +kernel
theorem dX6_remove_29 : decode cX6_remove 29 = .ok (.getfield 16, 3) := by decide +kernel
theorem dX6_remove_32 : decode cX6_remove 32 = .ok (.if_icmp .ge 23, 3) := by decide +kernel
theorem dX6_remove_35 : decode cX6_remove 35 = .ok (.aload_n 0, 1) := by decide +kernel
theorem dX6_remove_36 : decode cX6_remove 36 = .ok (.iload_n 2, 1) := by decide +kernel
theorem dX6_remove_37 : decode cX6_remove 37 = .ok (.iconst 1, 1) := by decide +kernel
theorem dX6_remove_38 : decode cX6_remove 38 = .ok (.isub, 1) := by decide +kernel
theorem dX6_remove_39 : decode cX6_remove 39 = .ok (.iload_n 3, 1) := by decide +kernel
theorem dX6_remove_40 : decode cX6_remove 40 = .ok (.aload_n 0, 1) := by decide +kernel
theorem dX6_remove_41 : decode cX6_remove 41 = .ok (.iload_n 2, 1) := by decide +kernel
theorem dX6_remove_42 : decode cX6_remove 42 = .ok (.iload_n 3, 1) := by decide +kernel
theorem dX6_remove_43 : decode cX6_remove 43 = .ok (.invokevirtual 33, 3) := by decide +kernel
theorem dX6_remove_46 : decode cX6_remove 46 = .ok (.invokevirtual 29, 3) := by decide +kernel
theorem dX6_remove_49 : decode cX6_remove 49 = .ok (.iinc 3 1, 3) := by decide +kernel
theorem dX6_remove_52 : decode cX6_remove 52 = .ok (.goto (-25), 3) := by decide +kernel
theorem dX6_remove_55 : decode cX6_remove 55 = .ok (.iinc 2 1, 3) := by decide +kernel
theorem dX6_remove_58 : decode cX6_remove 58 = .ok (.goto (-41), 3) := by decide +kernel
theorem dX6_remove_61 : decode cX6_remove 61 = .ok (.aload_n 0, 1) := by decide +kernel
theorem dX6_remove_62 : decode cX6_remove 62 = .ok (.dup, 1) := by decide +kernel
theorem dX6_remove_63 : decode cX6_remove 63 = .ok (.getfield 7, 3) := by decide +kernel
theorem dX6_remove_66 : decode cX6_remove 66 = .ok (.iconst 1, 1) := by decide +kernel
theorem dX6_remove_67 : decode cX6_remove 67 = .ok (.isub, 1) := by decide +kernel
theorem dX6_remove_68 : decode cX6_remove 68 = .ok (.putfield 7, 3) := by decide +kernel
theorem dX6_remove_71 : decode cX6_remove 71 = .ok (.return_, 1) := by decide +kernel
theorem dX6_clear_0 : decode cX6_clear 0 = .ok (.aload_n 0, 1) := by decide +kernel
theorem dX6_clear_1 : decode cX6_clear 1 = .ok (.iconst 0, 1) := by decide +kernel
theorem dX6_clear_2 : decode cX6_clear 2 = .ok (.putfield 7, 3) := by decide +kernel
theorem dX6_clear_5 : decode cX6_clear 5 = .ok (.return_, 1) := by decide +kernel
theorem dX6_sum_0 : decode cX6_sum 0 = .ok (.iconst 0, 1) := by decide +kernel
theorem dX6_sum_1 : decode cX6_sum 1 = .ok (.istore_n 2, 1) := by decide +kernel
theorem dX6_sum_2 : decode cX6_sum 2 = .ok (.iconst 0, 1) := by decide +kernel
theorem dX6_sum_3 : decode cX6_sum 3 = .ok (.istore_n 3, 1) := by decide +kernel
theorem dX6_sum_4 : decode cX6_sum 4 = .ok (.iload_n 3, 1) := by decide +kernel
theorem dX6_sum_5 : decode cX6_sum 5 = .ok (.aload_n 0, 1) := by decide +kernel
theorem dX6_sum_6 : decode cX6_sum 6 = .ok (.getfield 7, 3) := by decide +kernel
theorem dX6_sum_9 : decode cX6_sum 9 = .ok (.if_icmp .ge 18, 3) := by decide +kernel
theorem dX6_sum_12 : decode cX6_sum 12 = .ok (.iload_n 2, 1) := by decide +kernel
theorem dX6_sum_13 : decode cX6_sum 13 = .ok (.aload_n 0, 1) := by decide +kernel
theorem dX6_sum_14 : decode cX6_sum 14 = .ok (.iload_n 3, 1) := by decide +kernel
theorem dX6_sum_15 : decode cX6_sum 15 = .ok (.iload_n 1, 1) := by decide +kernel
theorem dX6_sum_16 : decode cX6_sum 16 = .ok (.invokevirtual 33, 3) := by decide +kernel
theorem dX6_sum_19 : decode cX6_sum 19 = .ok (.iadd, 1) := by decide +kernel
theorem dX6_sum_20 : decode cX6_sum 20 = .ok (.istore_n 2, 1) := by decide +kernel
theorem dX6_sum_21 : decode cX6_sum 21 = .ok (.iinc 3 1, 3) := by decide +kernel
theorem dX6_sum_24 : decode cX6_sum 24 = .ok (.goto (-20), 3) := by decide +kernel
theorem dX6_sum_27 : decode cX6_sum 27 = .ok (.iload_n 2, 1) := by decide +kernel
theorem dX6_sum_28 : decode cX6_sum 28 = .ok (.ireturn, 1) := by decide +kernel
theorem dX6_count_0 : decode cX6_count 0 = .ok (.iconst 0, 1) := by decide +kernel
theorem dX6_count_1 : decode cX6_count 1 = .ok (.istore_n 3, 1) := by decide +kernel
theorem dX6_count_2 : decode cX6_count 2 = .ok (.iconst 0, 1) := by decide +kernel
theorem dX6_count_3 : decode cX6_count 3 = .ok (.istore 4, 2) := by decide +kernel
theorem dX6_count_5 : decode cX6_count 5 = .ok (.iload 4, 2) := by decide +kernel
theorem dX6_count_7 : decode cX6_count 7 = .ok (.aload_n 0, 1) := by decide +kernel
theorem dX6_count_8 : decode cX6_count 8 = .ok (.getfield 7, 3) := by decide +kernel
theorem dX6_count_11 : decode cX6_count 11 = .ok (.if_icmp .ge 23, 3) := by decide +kernel
theorem dX6_count_14 : decode cX6_count 14 = .ok (.aload_n 0, 1) := by decide +kernel
theorem dX6_count_15 : decode cX6_count 15 = .ok (.iload 4, 2) := by decide +kernel
theorem dX6_count_17 : decode cX6_count 17 = .ok (.iload_n 1, 1) := by decide +kernel
theorem dX6_count_18 : decode cX6_count 18 = .ok (.invokevirtual 33, 3) := by decide +kernel
theorem dX6_count_21 : decode cX6_count 21 = .ok (.iload_n 2, 1) := by decide +kernel
theorem dX6_count_22 : decode cX6_count 22 = .ok (.if_icmp .ne 6, 3) := by decide +kernel
theorem dX6_count_25 : decode cX6_count 25 = .ok (.iinc 3 1, 3) := by decide +kernel
theorem dX6_count_28 : decode cX6_count 28 = .ok (.iinc 4 1, 3) := by decide +kernel
theorem dX6_count_31 : decode cX6_count 31 = .ok (.goto (-26), 3) := by decide +kernel
theorem dX6_count_34 : decode cX6_count 34 = .ok (.iload_n 3, 1) := by decide +kernel
theorem dX6_count_35 : decode cX6_count 35 = .ok (.ireturn, 1) := by decide +kernel
theorem dX6_copyFrom_0 : decode cX6_copyFrom 0 = .ok (.aload_n 1, 1) := by decide +kernel
theorem dX6_copyFrom_1 : decode cX6_copyFrom 1 = .ok (.getfield 7, 3) := by decide +kernel
theorem dX6_copyFrom_4 : decode cX6_copyFrom 4 = .ok (.aload_n 1, 1) := by decide +kernel
theorem dX6_copyFrom_5 : decode cX6_copyFrom 5 = .ok (.getfield 16, 3) := by decide +kernel
theorem dX6_copyFrom_8 : decode cX6_copyFrom 8 = .ok (.imul, 1) := by decide +kernel
theorem dX6_copyFrom_9 : decode cX6_copyFrom 9 = .ok (.aload_n 0, 1) := by decide +kernel
theorem dX6_copyFrom_10 : decode cX6_copyFrom 10 = .ok (.getfield 25, 3) := by decide +kernel
theorem dX6_copyFrom_13 : decode cX6_copyFrom 13 = .ok (.arraylength, 1) := by decide +kernel
theorem dX6_copyFrom_14 : decode cX6_copyFrom 14 = .ok (.aload_n 1, 1) := by decide +kernel
theorem dX6_copyFrom_15 : decode cX6_copyFrom 15 = .ok (.getfield 25, 3) := by decide +kernel
theorem dX6_copyFrom_18 : decode cX6_copyFrom 18 = .ok (.arraylength, 1) := by decide +kernel
theorem dX6_copyFrom_19 : decode cX6_copyFrom 19 = .ok (.invokestatic 36, 3) := by decide +kernel
theorem dX6_copyFrom_22 : decode cX6_copyFrom 22 = .ok (.invokestatic 36, 3) := by decide +kernel
theorem dX6_copyFrom_25 : decode cX6_copyFrom 25 = .ok (.istore_n 2, 1) := by decide +kernel
theorem dX6_copyFrom_26 : decode cX6_copyFrom 26 = .ok (.iload_n 2, 1) := by decide +kernel
theorem dX6_copyFrom_27 : decode cX6_copyFrom 27 = .ok (.ifCond .le 17, 3) := by decide +kernel
theorem dX6_copyFrom_30 : decode cX6_copyFrom 30 = .ok (.aload_n 1, 1) := by decide +kernel
theorem dX6_copyFrom_31 : decode cX6_copyFrom 31 = .ok (.getfield 25, 3) := by decide +kernel
theorem dX6_copyFrom_34 : decode cX6_copyFrom 34 = .ok (.iconst 0, 1) := by decide +kernel
theorem dX6_copyFrom_35 : decode cX6_copyFrom 35 = .ok (.aload_n 0, 1) := by decide +kernel
theorem dX6_copyFrom_36 : decode cX6_copyFrom 36 = .ok (.getfield 25, 3) := by decide +kernel
theorem dX6_copyFrom_39 : decode cX6_copyFrom 39 = .ok (.iconst 0, 1) := by decide +kernel
theorem dX6_copyFrom_40 : decode cX6_copyFrom 40 = .ok (.iload_n 2, 1) := by decide +kernel
theorem dX6_copyFrom_41 : decode cX6_copyFrom 41 = .ok (.invokestatic 39, 3) := by decide +kernel
theorem dX6_copyFrom_44 : decode cX6_copyFrom 44 = .ok (.aload_n 0, 1) := by decide +kernel
theorem dX6_copyFrom_45 : decode cX6_copyFrom 45 = .ok (.aload_n 1, 1) := by decide +kernel
theorem dX6_copyFrom_46 : decode cX6_copyFrom 46 = .ok (.getfield 7, 3) := by decide +kernel
theorem dX6_copyFrom_49 : decode cX6_copyFrom 49 = .ok (.putfield 7, 3) := by decide +kernel
theorem dX6_copyFrom_52 : decode cX6_copyFrom 52 = .ok (.return_, 1) := by decide +kernel
theorem dX7_init_0 : decode cX7_init 0 = .ok (.aload_n 0, 1) := by decide +kernel
theorem dX7_init_1 : decode cX7_init 1 = .ok (.invokespecial 3, 3) := by decide +kernel
theorem dX7_init_4 : decode cX7_init 4 = .ok (.aload_n 0, 1) := by decide +kernel
theorem dX7_init_5 : decode cX7_init 5 = .ok (.bipush 80, 2) := by decide +kernel
theorem dX7_init_7 : decode cX7_init 7 = .ok (.newarray .char, 2) := by decide +kernel
theorem dX7_init_9 : decode cX7_init 9 = .ok (.putfield 9, 3) := by decide +kernel
theorem dX7_init_12 : decode cX7_init 12 = .ok (.aload_n 0, 1) := by decide +kernel
theorem dX7_init_13 : decode cX7_init 13 = .ok (.new 15, 3) := by decide +kernel
theorem dX7_init_16 : decode cX7_init 16 = .ok (.dup, 1) := by decide +kernel
theorem dX7_init_17 : decode cX7_init 17 = .ok (.bipush 13, 2) := by decide +kernel
theorem dX7_init_19 : decode cX7_init 19 = .ok (.iconst 4, 1) := by decide +kernel
theorem dX7_init_20 : decode cX7_init 20 = .ok (.invokespecial 17, 3) := by decide +kernel
theorem dX7_init_23 : decode cX7_init 23 = .ok (.putfield 20, 3) := by decide +kernel
theorem dX7_init_26 : decode cX7_init 26 = .ok (.aload_n 0, 1) := by decide +kernel
theorem dX7_init_27 : decode cX7_init 27 = .ok (.iconst 0, 1) := by decide +kernel
theorem dX7_init_28 : decode cX7_init 28 = .ok (.putfield 24, 3) := by decide +kernel
theorem dX7_init_31 : decode cX7_init 31 = .ok (.aload_n 0, 1) := by decide +kernel
theorem dX7_init_32 : decode cX7_init 32 = .ok (.iconst 0, 1) := by decide +kernel
theorem dX7_init_33 : decode cX7_init 33 = .ok (.putfield 28, 3) := by decide +kernel
theorem dX7_init_36 : decode cX7_init 36 = .ok (.return_, 1) := by decide +kernel
theorem dX7_isFull_0 : decode cX7_isFull 0 = .ok (.aload_n 0, 1) := by decide +kernel
theorem dX7_isFull_1 : decode cX7_isFull 1 = .ok (.getfield 24, 3) := by decide +kernel
theorem dX7_isFull_4 : decode cX7_isFull 4 = .ok (.aload_n 0, 1) := by decide +kernel
theorem dX7_isFull_5 : decode cX7_isFull 5 = .ok (.getfield 9, 3) := by decide +kernel
theorem dX7_isFull_8 : decode cX7_isFull 8 = .ok (.arraylength, 1) := by decide +kernel
theorem dX7_isFull_9 : decode cX7_isFull 9 = .ok (.if_icmp .lt 7, 3) := by decide +kernel
theorem dX7_isFull_12 : decode cX7_isFull 12 = .ok (.iconst 1, 1) := by decide +kernel
theorem dX7_isFull_13 : decode cX7_isFull 13 = .ok (.goto 4, 3) := by decide +kernel
theorem dX7_isFull_16 : decode cX7_isFull 16 = .ok (.iconst 0, 1) := by decide +kernel
theorem dX7_isFull_17 : decode cX7_isFull 17 = .ok (.ireturn, 1) := by decide +kernel
theorem dX7_add_0 : decode cX7_add 0 = .ok (.aload_n 0, 1) := by decide +kernel
theorem dX7_add_1 : decode cX7_add 1 = .ok (.getfield 24, 3) := by decide +kernel
theorem dX7_add_4 : decode cX7_add 4 = .ok (.ifCond .lt 35, 3) := by decide +kernel
theorem dX7_add_7 : decode cX7_add 7 = .ok (.aload_n 0, 1) := by decide +kernel
theorem dX7_add_8 : decode cX7_add 8 = .ok (.getfield 24, 3) := by decide +kernel
theorem dX7_add_11 : decode cX7_add 11 = .ok (.aload_n 0, 1) := by decide +kernel
theorem dX7_add_12 : decode cX7_add 12 = .ok (.getfield 9, 3) := by decide +kernel
theorem dX7_add_15 : decode cX7_add 15 = .ok (.arraylength, 1) := by decide +kernel
theorem dX7_add_16 : decode cX7_add 16 = .ok (.if_icmp .ge 23, 3) := by decide +kernel
theorem dX7_add_19 : decode cX7_add 19 = .ok (.aload_n 0, 1) := by decide +kernel
theorem dX7_add_20 : decode cX7_add 20 = .ok (.getfield 9, 3) := by decide +kernel
theorem dX7_add_23 : decode cX7_add 23 = .ok (.aload_n 0, 1) := by decide +kernel
theorem dX7_add_24 : decode cX7_add 24 = .ok (.getfield 24, 3) := by decide +kernel
theorem dX7_add_27 : decode cX7_add 27 = .ok (.iload_n 1, 1) := by decide +kernel
theorem dX7_add_28 : decode cX7_add 28 = .ok (.castore, 1) := by decide +kernel
theorem dX7_add_29 : decode cX7_add 29 = .ok (.aload_n 0, 1) := by decide +kernel
theorem dX7_add_30 : decode cX7_add 30 = .ok (.dup, 1) := by decide +kernel
theorem dX7_add_31 : decode cX7_add 31 = .ok (.getfield 24, 3) := by decide +kernel
theorem dX7_add_34 : decode cX7_add 34 = .ok (.iconst 1, 1) := by decide +kernel
theorem dX7_add_35 : decode cX7_add 35 = .ok (.iadd, 1) := by decide +kernel
theorem dX7_add_36 : decode cX7_add 36 = .ok (.putfield 24, 3) := by decide +kernel
theorem dX7_add_39 : decode cX7_add 39 = .ok (.return_, 1) := by decide +kernel
theorem dX7_clear_0 : decode cX7_clear 0 = .ok (.aload_n 0, 1) := by decide +kernel
theorem dX7_clear_1 : decode cX7_clear 1 = .ok (.iconst 0, 1) := by decide +kernel
theorem dX7_clear_2 : decode cX7_clear 2 = .ok (.putfield 24, 3) := by decide +kernel
theorem dX7_clear_5 : decode cX7_clear 5 = .ok (.return_, 1) := by decide +kernel
theorem dX7_commandCount_0 : decode cX7_commandCount 0 = .ok (.aload_n 0, 1) := by decide +kernel
theorem dX7_commandCount_1 : decode cX7_commandCount 1 = .ok (.getfield 20, 3) := by decide +kernel
theorem dX7_commandCount_4 : decode cX7_commandCount 4 = .ok (.invokevirtual 31, 3) := by decide +kernel
theorem dX7_commandCount_7 : decode cX7_commandCount 7 = .ok (.ireturn, 1) := by decide +kernel
theorem dX7_word_0 : decode cX7_word 0 = .ok (.aload_n 0, 1) := by decide +kernel
theorem dX7_word_1 : decode cX7_word 1 = .ok (.getfield 20, 3) := by decide +kernel
theorem dX7_word_4 : decode cX7_word 4 = .ok (.iload_n 1, 1) := by decide +kernel
theorem dX7_word_5 : decode cX7_word 5 = .ok (.iconst 0, 1) := by decide +kernel
theorem dX7_word_6 : decode cX7_word 6 = .ok (.invokevirtual 35, 3) := by decide +kernel
theorem dX7_word_9 : decode cX7_word 9 = .ok (.ireturn, 1) := by decide +kernel
theorem dX7_number_0 : decode cX7_number 0 = .ok (.aload_n 0, 1) := by decide +kernel
theorem dX7_number_1 : decode cX7_number 1 = .ok (.getfield 20, 3) := by decide +kernel
theorem dX7_number_4 : decode cX7_number 4 = .ok (.iload_n 1, 1) := by decide +kernel
theorem dX7_number_5 : decode cX7_number 5 = .ok (.iconst 1, 1) := by decide +kernel
theorem dX7_number_6 : decode cX7_number 6 = .ok (.iload_n 2, 1) := by decide +kernel
theorem dX7_number_7 : decode cX7_number 7 = .ok (.iadd, 1) := by decide +kernel
theorem dX7_number_8 : decode cX7_number 8 = .ok (.invokevirtual 35, 3) := by decide +kernel
theorem dX7_number_11 : decode cX7_number 11 = .ok (.ireturn, 1) := by decide +kernel
theorem dX7_parse_0 : decode cX7_parse 0 = .ok (.aload_n 0, 1) := by decide +kernel
theorem dX7_parse_1 : decode cX7_parse 1 = .ok (.getfield 20, 3) := by decide +kernel
theorem dX7_parse_4 : decode cX7_parse 4 = .ok (.invokevirtual 39, 3) := by decide +kernel
theorem dX7_parse_7 : decode cX7_parse 7 = .ok (.aload_n 0, 1) := by decide +kernel
theorem dX7_parse_8 : decode cX7_parse 8 = .ok (.iconst 0, 1) := by decide +kernel
theorem dX7_parse_9 : decode cX7_parse 9 = .ok (.putfield 28, 3) := by decide +kernel
theorem dX7_parse_12 : decode cX7_parse 12 = .ok (.aload_n 0, 1) := by decide +kernel
theorem dX7_parse_13 : decode cX7_parse 13 = .ok (.invokevirtual 42, 3) := by decide +kernel
theorem dX7_parse_16 : decode cX7_parse 16 = .ok (.istore_n 1, 1) := by decide +kernel
theorem dX7_parse_17 : decode cX7_parse 17 = .ok (.iconst 0, 1) := by decide +kernel
theorem dX7_parse_18 : decode cX7_parse 18 = .ok (.istore_n 2, 1) := by decide +kernel
theorem dX7_parse_19 : decode cX7_parse 19 = .ok (.iload_n 2, 1) := by decide +kernel
theorem dX7_parse_20 : decode cX7_parse 20 = .ok (.bipush 80, 2) := by decide +kernel
theorem dX7_parse_22 : decode cX7_parse 22 = .ok (.if_icmp .ge 46, 3) := by decide +kernel
theorem dX7_parse_25 : decode cX7_parse 25 = .ok (.iload_n 1, 1) := by decide +kernel
theorem dX7_parse_26 : decode cX7_parse 26 = .ok (.ifCond .eq 42, 3) := by decide +kernel
theorem dX7_parse_29 : decode cX7_parse 29 = .ok (.aload_n 0, 1) := by decide +kernel
theorem dX7_parse_30 : decode cX7_parse 30 = .ok (.getfield 28, 3) := by decide +kernel
theorem dX7_parse_33 : decode cX7_parse 33 = .ok (.aload_n 0, 1) := by decide +kernel
theorem dX7_parse_34 : decode cX7_parse 34 = .ok (.getfield 24, 3) := by decide +kernel
theorem dX7_parse_37 : decode cX7_parse 37 = .ok (.if_icmp .ge 31, 3) := by decide +kernel
theorem dX7_parse_40 : decode cX7_parse 40 = .ok (.aload_n 0, 1) := by decide +kernel
theorem dX7_parse_41 : decode cX7_parse 41 = .ok (.bipush 59, 2) := by decide +kernel
theorem dX7_parse_43 : decode cX7_parse 43 = .ok (.invokevirtual 46, 3) := by decide +kernel
theorem dX7_parse_46 : decode cX7_parse 46 = .ok (.ifCond .eq 14, 3) := by decide +kernel
theorem dX7_parse_49 : decode cX7_parse 49 = .ok (.aload_n 0, 1) := by decide +kernel
theorem dX7_parse_50 : decode cX7_parse 50 = .ok (.invokevirtual 42, 3) := by decide +kernel
theorem dX7_parse_53 : decode cX7_parse 53 = .ok (.ifCond .eq 7, 3) := by decide +kernel
theorem dX7_parse_56 : decode cX7_parse 56 = .ok (.iconst 1, 1) := by decide +kernel
theorem dX7_parse_57 : decode cX7_parse 57 = .ok (.goto 4, 3) := by decide +kernel
theorem dX7_parse_60 : decode cX7_parse 60 = .ok (.iconst 0, 1) := by decide +kernel
theorem dX7_parse_61 : decode cX7_parse 61 = .ok (.istore_n 1, 1) := by decide +kernel
theorem dX7_parse_62 : decode cX7_parse 62 = .ok (.iinc 2 1, 3) := by decide +kernel
theorem dX7_parse_65 : decode cX7_parse 65 = .ok (.goto (-46), 3) := by decide +kernel
theorem dX7_parse_68 : decode cX7_parse 68 = .ok (.iload_n 1, 1) := by decide +kernel
theorem dX7_parse_69 : decode cX7_parse 69 = .ok (.ifCond .eq 7, 3) := by decide +kernel
theorem dX7_parse_72 : decode cX7_parse 72 = .ok (.iconst (-1), 1) := by decide +kernel
theorem dX7_parse_73 : decode cX7_parse 73 = .ok (.goto 7, 3) := by decide +kernel
theorem dX7_parse_76 : decode cX7_parse 76 = .ok (.aload_n 0, 1) := by decide +kernel
theorem dX7_parse_77 : decode cX7_parse 77 = .ok (.getfield 28, 3) := by decide +kernel
theorem dX7_parse_80 : decode cX7_parse 80 = .ok (.ireturn, 1) := by decide +kernel
theorem dX7_parseCommand_0 : decode cX7_parseCommand 0 = .ok (.aload_n 0, 1) := by decide +kernel
theorem dX7_parseCommand_1 : decode cX7_parseCommand 1 = .ok (.invokevirtual 50, 3) := by decide +kernel
theorem dX7_parseCommand_4 : decode cX7_parseCommand 4 = .ok (.istore_n 1, 1) := by decide +kernel
theorem dX7_parseCommand_5 : decode cX7_parseCommand 5 = .ok (.iload_n 1, 1) := by decide +kernel
theorem dX7_parseCommand_6 : decode cX7_parseCommand 6 = .ok (.ifCond .ge 5, 3) := by decide +kernel
theorem dX7_parseCommand_9 : decode cX7_parseCommand 9 = .ok (.iconst 0, 1) := by decide +kernel
theorem dX7_parseCommand_10 : decode cX7_parseCommand 10 = .ok (.ireturn, 1) := by decide +kernel
theorem dX7_parseCommand_11 : decode cX7_parseCommand 11 = .ok (.aload_n 0, 1) := by decide +kernel
theorem dX7_parseCommand_12 : decode cX7_parseCommand 12 = .ok (.getfield 20, 3) := by decide +kernel
theorem dX7_parseCommand_15 : decode cX7_parseCommand 15 = .ok (.invokevirtual 53, 3) := by decide +kernel
theorem dX7_parseCommand_18 : decode cX7_parseCommand 18 = .ok (.istore_n 2, 1) := by decide +kernel
theorem dX7_parseCommand_19 : decode cX7_parseCommand 19 = .ok (.aload_n 0, 1) := by decide +kernel
theorem dX7_parseCommand_20 : decode cX7_parseCommand 20 = .ok (.getfield 20, 3) := by decide +kernel
theorem dX7_parseCommand_23 : decode cX7_parseCommand 23 = .ok (.iload_n 2, 1) := by decide +kernel
theorem dX7_parseCommand_24 : decode cX7_parseCommand 24 = .ok (.iconst 0, 1) := by decide +kernel
theorem dX7_parseCommand_25 : decode cX7_parseCommand 25 = .ok (.iload_n 1, 1) := by decide +kernel
theorem dX7_parseCommand_26 : decode cX7_parseCommand 26 = .ok (.invokevirtual 56, 3) := by decide +kernel
theorem dX7_parseCommand_29 : decode cX7_parseCommand 29 = .ok (.iconst 0, 1) := by decide +kernel
theorem dX7_parseCommand_30 : decode cX7_parseCommand 30 = .ok (.istore_n 3, 1) := by decide +kernel
theorem dX7_parseCommand_31 : decode cX7_parseCommand 31 = .ok (.iload_n 3, 1) := by decide +kernel
theorem dX7_parseCommand_32 : decode cX7_parseCommand 32 = .ok (.iload_n 1, 1) := by decide +kernel
theorem dX7_parseCommand_33 : decode cX7_parseCommand 33 = .ok (.invokestatic 60, 3) := by decide +kernel
theorem dX7_parseCommand_36 : decode cX7_parseCommand 36 = .ok (.if_icmp .ge 34, 3) := by decide +kernel
theorem dX7_parseCommand_39 : decode cX7_parseCommand 39 = .ok (.aload_n 0, 1) := by decide +kernel
theorem dX7_parseCommand_40 : decode cX7_parseCommand 40 = .ok (.bipush 32, 2) := by decide +kernel
theorem dX7_parseCommand_42 : decode cX7_parseCommand 42 = .ok (.invokevirtual 46, 3) := by decide +kernel
theorem dX7_parseCommand_45 : decode cX7_parseCommand 45 = .ok (.ifCond .eq 17, 3) := by decide +kernel
theorem dX7_parseCommand_48 : decode cX7_parseCommand 48 = .ok (.aload_n 0, 1) := by decide +kernel
theorem dX7_parseCommand_49 : decode cX7_parseCommand 49 = .ok (.iload_n 2, 1) := by decide +kernel
theorem dX7_parseCommand_50 : decode cX7_parseCommand 50 = .ok (.iload_n 3, 1) := by decide +kernel
theorem dX7_parseCommand_51 : decode cX7_parseCommand 51 = .ok (.iload_n 1, 1) := by decide +kernel
theorem dX7_parseCommand_52 : decode cX7_parseCommand 52 = .ok (.iload_n 3, 1) := by decide +kernel
theorem dX7_parseCommand_53 : decode cX7_parseCommand 53 = .ok (.invokestatic 64, 3) := by decide +kernel
theorem dX7_parseCommand_56 : decode cX7_parseCommand 56 = .ok (.invokevirtual 68, 3) := by decide +kernel
theorem dX7_parseCommand_59 : decode cX7_parseCommand 59 = .ok (.ifCond .ne 5, 3) := by decide +kernel
theorem dX7_parseCommand_62 : decode cX7_parseCommand 62 = .ok (.iconst 0, 1) := by decide +kernel
theorem dX7_parseCommand_63 : decode cX7_parseCommand 63 = .ok (.ireturn, 1) := by decide +kernel
theorem dX7_parseCommand_64 : decode cX7_parseCommand 64 = .ok (.iinc 3 1, 3) := by decide +kernel
theorem dX7_parseCommand_67 : decode cX7_parseCommand 67 = .ok (.goto (-36), 3) := by decide +kernel
theorem dX7_parseCommand_70 : decode cX7_parseCommand 70 = .ok (.iconst 1, 1) := by decide +kernel
theorem dX7_parseCommand_71 : decode cX7_parseCommand 71 = .ok (.ireturn, 1) := by decide +kernel
theorem dX7_parseSign_0 : decode cX7_parseSign 0 = .ok (.aload_n 0, 1) := by decide +kernel
theorem dX7_parseSign_1 : decode cX7_parseSign 1 = .ok (.aload_n 0, 1) := by decide +kernel
theorem dX7_parseSign_2 : decode cX7_parseSign 2 = .ok (.getfield 28, 3) := by decide +kernel
theorem dX7_parseSign_5 : decode cX7_parseSign 5 = .ok (.invokevirtual 72, 3) := by decide +kernel
theorem dX7_parseSign_8 : decode cX7_parseSign 8 = .ok (.iload_n 1, 1) := by decide +kernel
theorem dX7_parseSign_9 : decode cX7_parseSign 9 = .ok (.if_icmp .eq 5, 3) := by decide +kernel
theorem dX7_parseSign_12 : decode cX7_parseSign 12 = .ok (.iconst 0, 1) := by decide +kernel
theorem dX7_parseSign_13 : decode cX7_parseSign 13 = .ok (.ireturn, 1) := by decide +kernel
theorem dX7_parseSign_14 : decode cX7_parseSign 14 = .ok (.aload_n 0, 1) := by decide +kernel
theorem dX7_parseSign_15 : decode cX7_parseSign 15 = .ok (.dup, 1) := by decide +kernel
theorem dX7_parseSign_16 : decode cX7_parseSign 16 = .ok (.getfield 28, 3) := by decide +kernel
theorem dX7_parseSign_19 : decode cX7_parseSign 19 = .ok (.iconst 1, 1) := by decide +kernel
theorem dX7_parseSign_20 : decode cX7_parseSign 20 = .ok (.iadd, 1) := by decide +kernel
theorem dX7_parseSign_21 : decode cX7_parseSign 21 = .ok (.putfield 28, 3) := by decide +kernel
theorem dX7_parseSign_24 : decode cX7_parseSign 24 = .ok (.iconst 1, 1) := by decide +kernel
theorem dX7_parseSign_25 : decode cX7_parseSign 25 = .ok (.ireturn, 1) := by decide +kernel
theorem dX7_parseNumber_0 : decode cX7_parseNumber 0 = .ok (.iload_n 3, 1) := by decide +kernel
theorem dX7_parseNumber_1 : decode cX7_parseNumber 1 = .ok (.ifCond .eq 16, 3) := by decide +kernel
theorem dX7_parseNumber_4 : decode cX7_parseNumber 4 = .ok (.aload_n 0, 1) := by decide +kernel
theorem dX7_parseNumber_5 : decode cX7_parseNumber 5 = .ok (.bipush 45, 2) := by decide +kernel
theorem dX7_parseNumber_7 : decode cX7_parseNumber 7 = .ok (.invokevirtual 46, 3) := by decide +kernel
theorem dX7_parseNumber_10 : decode cX7_parseNumber 10 = .ok (.ifCond .eq 7, 3) := by decide +kernel
theorem dX7_parseNumber_13 : decode cX7_parseNumber 13 = .ok (.iconst 1, 1) := by decide +kernel
theorem dX7_parseNumber_14 : decode cX7_parseNumber 14 = .ok (.goto 4, 3) := by decide +kernel
theorem dX7_parseNumber_17 : decode cX7_parseNumber 17 = .ok (.iconst 0, 1) := by decide +kernel
theorem dX7_parseNumber_18 : decode cX7_parseNumber 18 = .ok (.istore 4, 2) := by decide +kernel
theorem dX7_parseNumber_20 : decode cX7_parseNumber 20 = .ok (.aload_n 0, 1) := by decide +kernel
theorem dX7_parseNumber_21 : decode cX7_parseNumber 21 = .ok (.aload_n 0, 1) := by decide +kernel
theorem dX7_parseNumber_22 : decode cX7_parseNumber 22 = .ok (.getfield 28, 3) := by decide +kernel
theorem dX7_parseNumber_25 : decode cX7_parseNumber 25 = .ok (.invokevirtual 75, 3) := by decide +kernel
theorem dX7_parseNumber_28 : decode cX7_parseNumber 28 = .ok (.ifCond .ne 5, 3) := by decide +kernel
theorem dX7_parseNumber_31 : decode cX7_parseNumber 31 = .ok (.iconst 0, 1) := by decide +kernel
theorem dX7_parseNumber_32 : decode cX7_parseNumber 32 = .ok (.ireturn, 1) := by decide +kernel
theorem dX7_parseNumber_33 : decode cX7_parseNumber 33 = .ok (.iconst 0, 1) := by decide +kernel
theorem dX7_parseNumber_34 : decode cX7_parseNumber 34 = .ok (.istore 5, 2) := by decide +kernel
theorem dX7_parseNumber_36 : decode cX7_parseNumber 36 = .ok (.aload_n 0, 1) := by decide +kernel
theorem dX7_parseNumber_37 : decode cX7_parseNumber 37 = .ok (.aload_n 0, 1) := by decide +kernel
theorem dX7_parseNumber_38 : decode cX7_parseNumber 38 = .ok (.getfield 28, 3) := by decide +kernel
theorem dX7_parseNumber_41 : decode cX7_parseNumber 41 = .ok (.invokevirtual 72, 3) := by decide +kernel
theorem dX7_parseNumber_44 : decode cX7_parseNumber 44 = .ok (.bipush 48, 2) := by decide +kernel
theorem dX7_parseNumber_46 : decode cX7_parseNumber 46 = .ok (.if_icmp .ne 7, 3) := by decide +kernel
theorem dX7_parseNumber_49 : decode cX7_parseNumber 49 = .ok (.iconst 1, 1) := by decide +kernel
theorem dX7_parseNumber_50 : decode cX7_parseNumber 50 = .ok (.goto 4, 3) := by decide +kernel
theorem dX7_parseNumber_53 : decode cX7_parseNumber 53 = .ok (.iconst 4, 1) := by decide +kernel
theorem dX7_parseNumber_54 : decode cX7_parseNumber 54 = .ok (.istore 6, 2) := by decide +kernel
theorem dX7_parseNumber_56 : decode cX7_parseNumber 56 = .ok (.iconst 0, 1) := by decide +kernel
theorem dX7_parseNumber_57 : decode cX7_parseNumber 57 = .ok (.istore 7, 2) := by decide +kernel
theorem dX7_parseNumber_59 : decode cX7_parseNumber 59 = .ok (.iload 7, 2) := by decide +kernel
theorem dX7_parseNumber_61 : decode cX7_parseNumber 61 = .ok (.iload 6, 2) := by decide +kernel
theorem dX7_parseNumber_63 : decode cX7_parseNumber 63 = .ok (.if_icmp .ge 49, 3) := by decide +kernel
theorem dX7_parseNumber_66 : decode cX7_parseNumber 66 = .ok (.aload_n 0, 1) := by decide +kernel
theorem dX7_parseNumber_67 : decode cX7_parseNumber 67 = .ok (.aload_n 0, 1) := by decide +kernel
theorem dX7_parseNumber_68 : decode cX7_parseNumber 68 = .ok (.getfield 28, 3) := by decide +kernel
theorem dX7_parseNumber_71 : decode cX7_parseNumber 71 = .ok (.invokevirtual 75, 3) := by decide +kernel
theorem dX7_parseNumber_74 : decode cX7_parseNumber 74 = .ok (.ifCond .eq 38, 3) := by decide +kernel
theorem dX7_parseNumber_77 : decode cX7_parseNumber 77 = .ok (.iload 5, 2) := by decide +kernel
theorem dX7_parseNumber_79 : decode cX7_parseNumber 79 = .ok (.bipush 10, 2) := by decide +kernel
theorem dX7_parseNumber_81 : decode cX7_parseNumber 81 = .ok (.imul, 1) := by decide +kernel
theorem dX7_parseNumber_82 : decode cX7_parseNumber 82 = .ok (.aload_n 0, 1) := by decide +kernel
theorem dX7_parseNumber_83 : decode cX7_parseNumber 83 = .ok (.aload_n 0, 1) := by decide +kernel
theorem dX7_parseNumber_84 : decode cX7_parseNumber 84 = .ok (.getfield 28, 3) := by decide +kernel
theorem dX7_parseNumber_87 : decode cX7_parseNumber 87 = .ok (.invokevirtual 72, 3) := by decide +kernel
theorem dX7_parseNumber_90 : decode cX7_parseNumber 90 = .ok (.iadd, 1) := by decide +kernel
theorem dX7_parseNumber_91 : decode cX7_parseNumber 91 = .ok (.bipush 48, 2) := by decide +kernel
theorem dX7_parseNumber_93 : decode cX7_parseNumber 93 = .ok (.isub, 1) := by decide +kernel
theorem dX7_parseNumber_94 : decode cX7_parseNumber 94 = .ok (.istore 5, 2) := by decide +kernel
theorem dX7_parseNumber_96 : decode cX7_parseNumber 96 = .ok (.aload_n 0, 1) := by decide +kernel
theorem dX7_parseNumber_97 : decode cX7_parseNumber 97 = .ok (.dup, 1) := by decide +kernel
theorem dX7_parseNumber_98 : decode cX7_parseNumber 98 = .ok (.getfield 28, 3) := by decide +kernel
theorem dX7_parseNumber_101 : decode cX7_parseNumber 101 = .ok (.iconst 1, 1) := by decide +kernel
theorem dX7_parseNumber_102 : decode cX7_parseNumber 102 = .ok (.iadd, 1) := by decide +kernel
theorem dX7_parseNumber_103 : decode cX7_parseNumber 103 = .ok (.putfield 28, 3) := by decide +kernel
theorem dX7_parseNumber_106 : decode cX7_parseNumber 106 = .ok (.iinc 7 1, 3) := by decide +kernel
theorem dX7_parseNumber_109 : decode cX7_parseNumber 109 = .ok (.goto (-50), 3) := by decide +kernel
theorem dX7_parseNumber_112 : decode cX7_parseNumber 112 = .ok (.aload_n 0, 1) := by decide +kernel
theorem dX7_parseNumber_113 : decode cX7_parseNumber 113 = .ok (.getfield 20, 3) := by decide +kernel
theorem dX7_parseNumber_116 : decode cX7_parseNumber 116 = .ok (.iload_n 1, 1) := by decide +kernel
theorem dX7_parseNumber_117 : decode cX7_parseNumber 117 = .ok (.iconst 1, 1) := by decide +kernel
theorem dX7_parseNumber_118 : decode cX7_parseNumber 118 = .ok (.iload_n 2, 1) := by decide +kernel
theorem dX7_parseNumber_119 : decode cX7_parseNumber 119 = .ok (.iadd, 1) := by decide +kernel
theorem dX7_parseNumber_120 : decode cX7_parseNumber 120 = .ok (.iload 4, 2) := by decide +kernel
theorem dX7_parseNumber_122 : decode cX7_parseNumber 122 = .ok (.ifCond .eq 9, 3) := by decide +kernel
theorem dX7_parseNumber_125 : decode cX7_parseNumber 125 = .ok (.iload 5, 2) := by decide +kernel
theorem dX7_parseNumber_127 : decode cX7_parseNumber 127 = .ok (.ineg, 1) := by decide +kernel
theorem dX7_parseNumber_128 : decode cX7_parseNumber 128 = .ok (.goto 5, 3) := by decide +kernel
theorem dX7_parseNumber_131 : decode cX7_parseNumber 131 = .ok (.iload 5, 2) := by decide +kernel
theorem dX7_parseNumber_133 : decode cX7_parseNumber 133 = .ok (.invokevirtual 56, 3) := by decide +kernel
theorem dX7_parseNumber_136 : decode cX7_parseNumber 136 = .ok (.iconst 1, 1) := by decide +kernel
theorem dX7_parseNumber_137 : decode cX7_parseNumber 137 = .ok (.ireturn, 1) := by decide +kernel
theorem dX7_parseWord_0 : decode cX7_parseWord 0 = .ok (.aload_n 0, 1) := by decide +kernel
theorem dX7_parseWord_1 : decode cX7_parseWord 1 = .ok (.getfield 28, 3) := by decide +kernel
theorem dX7_parseWord_4 : decode cX7_parseWord 4 = .ok (.istore_n 1, 1) := by decide +kernel
theorem dX7_parseWord_5 : decode cX7_parseWord 5 = .ok (.iconst 0, 1) := by decide +kernel
theorem dX7_parseWord_6 : decode cX7_parseWord 6 = .ok (.istore_n 2, 1) := by decide +kernel
theorem dX7_parseWord_7 : decode cX7_parseWord 7 = .ok (.iload_n 2, 1) := by decide +kernel
theorem dX7_parseWord_8 : decode cX7_parseWord 8 = .ok (.bipush 80, 2) := by decide +kernel
theorem dX7_parseWord_10 : decode cX7_parseWord 10 = .ok (.if_icmp .ge 66, 3) := by decide +kernel
theorem dX7_parseWord_13 : decode cX7_parseWord 13 = .ok (.aload_n 0, 1) := by decide +kernel
theorem dX7_parseWord_14 : decode cX7_parseWord 14 = .ok (.getfield 28, 3) := by decide +kernel
theorem dX7_parseWord_17 : decode cX7_parseWord 17 = .ok (.aload_n 0, 1) := by decide +kernel
theorem dX7_parseWord_18 : decode cX7_parseWord 18 = .ok (.getfield 24, 3) := by decide +kernel
theorem dX7_parseWord_21 : decode cX7_parseWord 21 = .ok (.if_icmp .ge 55, 3) := by decide +kernel
theorem dX7_parseWord_24 : decode cX7_parseWord 24 = .ok (.aload_n 0, 1) := by decide +kernel
theorem dX7_parseWord_25 : decode cX7_parseWord 25 = .ok (.iload_n 1, 1) := by decide +kernel
theorem dX7_parseWord_26 : decode cX7_parseWord 26 = .ok (.aload_n 0, 1) := by decide +kernel
theorem dX7_parseWord_27 : decode cX7_parseWord 27 = .ok (.getfield 28, 3) := by decide +kernel
theorem dX7_parseWord_30 : decode cX7_parseWord 30 = .ok (.iconst 1, 1) := by decide +kernel
theorem dX7_parseWord_31 : decode cX7_parseWord 31 = .ok (.iadd, 1) := by decide +kernel
theorem dX7_parseWord_32 : decode cX7_parseWord 32 = .ok (.invokevirtual 79, 3) := by decide +kernel
theorem dX7_parseWord_35 : decode cX7_parseWord 35 = .ok (.istore_n 3, 1) := by decide +kernel
theorem dX7_parseWord_36 : decode cX7_parseWord 36 = .ok (.iload_n 3, 1) := by decide +kernel
theorem dX7_parseWord_37 : decode cX7_parseWord 37 = .ok (.ifCond .ge 5, 3) := by decide +kernel
theorem dX7_parseWord_40 : decode cX7_parseWord 40 = .ok (.iconst (-1), 1) := by decide +kernel
theorem dX7_parseWord_41 : decode cX7_parseWord 41 = .ok (.ireturn, 1) := by decide +kernel
theorem dX7_parseWord_42 : decode cX7_parseWord 42 = .ok (.aload_n 0, 1) := by decide +kernel
theorem dX7_parseWord_43 : decode cX7_parseWord 43 = .ok (.dup, 1) := by decide +kernel
theorem dX7_parseWord_44 : decode cX7_parseWord 44 = .ok (.getfield 28, 3) := by decide +kernel
theorem dX7_parseWord_47 : decode cX7_parseWord 47 = .ok (.iconst 1, 1) := by decide +kernel
theorem dX7_parseWord_48 : decode cX7_parseWord 48 = .ok (.iadd, 1) := by decide +kernel
theorem dX7_parseWord_49 : decode cX7_parseWord 49 = .ok (.putfield 28, 3) := by decide +kernel
theorem dX7_parseWord_52 : decode cX7_parseWord 52 = .ok (.iload_n 3, 1) := by decide +kernel
theorem dX7_parseWord_53 : decode cX7_parseWord 53 = .ok (.invokestatic 82, 3) := by decide +kernel
theorem dX7_parseWord_56 : decode cX7_parseWord 56 = .ok (.invokevirtual 86, 3) := by decide +kernel
theorem dX7_parseWord_59 : decode cX7_parseWord 59 = .ok (.aload_n 0, 1) := by decide +kernel
theorem dX7_parseWord_60 : decode cX7_parseWord 60 = .ok (.getfield 28, 3) := by decide +kernel
theorem dX7_parseWord_63 : decode cX7_parseWord 63 = .ok (.iload_n 1, 1) := by decide +kernel
theorem dX7_parseWord_64 : decode cX7_parseWord 64 = .ok (.isub, 1) := by decide +kernel
theorem dX7_parseWord_65 : decode cX7_parseWord 65 = .ok (.if_icmp .ne 5, 3) := by decide +kernel
theorem dX7_parseWord_68 : decode cX7_parseWord 68 = .ok (.iload_n 3, 1) := by decide +kernel
theorem dX7_parseWord_69 : decode cX7_parseWord 69 = .ok (.ireturn, 1) := by decide +kernel
theorem dX7_parseWord_70 : decode cX7_parseWord 70 = .ok (.iinc 2 1, 3) := by decide +kernel
theorem dX7_parseWord_73 : decode cX7_parseWord 73 = .ok (.goto (-66), 3) := by decide +kernel
theorem dX7_parseWord_76 : decode cX7_parseWord 76 = .ok (.iconst (-1), 1) := by decide +kernel
theorem dX7_parseWord_77 : decode cX7_parseWord 77 = .ok (.ireturn, 1) := by decide +kernel
theorem dX7_wordThatBegins_0 : decode cX7_wordThatBegins 0 = .ok (.iconst 0, 1) := by decide +kernel
theorem dX7_wordThatBegins_1 : decode cX7_wordThatBegins 1 = .ok (.istore_n 3, 1) := by decide +kernel
theorem dX7_wordThatBegins_2 : decode cX7_wordThatBegins 2 = .ok (.iload_n 3, 1) := by decide +kernel
theorem dX7_wordThatBegins_3 : decode cX7_wordThatBegins 3 = .ok (.bipush 7, 2) := by decide +kernel
theorem dX7_wordThatBegins_5 : decode cX7_wordThatBegins 5 = .ok (.if_icmp .ge 70, 3) := by decide +kernel
theorem dX7_wordThatBegins_8 : decode cX7_wordThatBegins 8 = .ok (.iload_n 3, 1) := by decide +kernel
theorem dX7_wordThatBegins_9 : decode cX7_wordThatBegins 9 = .ok (.invokestatic 82, 3) := by decide +kernel
theorem dX7_wordThatBegins_12 : decode cX7_wordThatBegins 12 = .ok (.astore 4, 2) := by decide +kernel
theorem dX7_wordThatBegins_14 : decode cX7_wordThatBegins 14 = .ok (.iconst 0, 1) := by decide +kernel
theorem dX7_wordThatBegins_15 : decode cX7_wordThatBegins 15 = .ok (.istore 5, 2) := by decide +kernel
theorem dX7_wordThatBegins_17 : decode cX7_wordThatBegins 17 = .ok (.iload_n 1, 1) := by decide +kernel
theorem dX7_wordThatBegins_18 : decode cX7_wordThatBegins 18 = .ok (.iload 5, 2) := by decide +kernel
theorem dX7_wordThatBegins_20 : decode cX7_wordThatBegins 20 = .ok (.iadd, 1) := by decide +kernel
theorem dX7_wordThatBegins_21 : decode cX7_wordThatBegins 21 = .ok (.iload_n 2, 1) := by decide +kernel
theorem dX7_wordThatBegins_22 : decode cX7_wordThatBegins 22 = .ok (.if_icmp .ge 37, 3) := by decide +kernel
theorem dX7_wordThatBegins_25 : decode cX7_wordThatBegins 25 = .ok (.iload 5, 2) := by decide +kernel
theorem dX7_wordThatBegins_27 : decode cX7_wordThatBegins 27 = .ok (.aload 4, 2) := by decide +kernel
theorem dX7_wordThatBegins_29 : decode cX7_wordThatBegins 29 = .ok (.invokevirtual 86, 3) := by decide +kernel
theorem dX7_wordThatBegins_32 : decode cX7_wordThatBegins 32 = .ok (.if_icmp .ge 27, 3) := by decide +kernel
theorem dX7_wordThatBegins_35 : decode cX7_wordThatBegins 35 = .ok (.aload 4, 2) := by decide +kernel
theorem dX7_wordThatBegins_37 : decode cX7_wordThatBegins 37 = .ok (.iload 5, 2) := by decide +kernel
theorem dX7_wordThatBegins_39 : decode cX7_wordThatBegins 39 = .ok (.invokevirtual 90, 3) := by decide +kernel
theorem dX7_wordThatBegins_42 : decode cX7_wordThatBegins 42 = .ok (.aload_n 0, 1) := by decide +kernel
theorem dX7_wordThatBegins_43 : decode cX7_wordThatBegins 43 = .ok (.iload_n 1, 1) := by decide +kernel
theorem dX7_wordThatBegins_44 : decode cX7_wordThatBegins 44 = .ok (.iload 5, 2) := by decide +kernel
theorem dX7_wordThatBegins_46 : decode cX7_wordThatBegins 46 = .ok (.iadd, 1) := by decide +kernel
theorem dX7_wordThatBegins_47 : decode cX7_wordThatBegins 47 = .ok (.invokevirtual 72, 3) := by decide +kernel
theorem dX7_wordThatBegins_50 : decode cX7_wordThatBegins 50 = .ok (.if_icmp .ne 9, 3) := by decide +kernel
theorem dX7_wordThatBegins_53 : decode cX7_wordThatBegins 53 = .ok (.iinc 5 1, 3) := by decide +kernel
theorem dX7_wordThatBegins_56 : decode cX7_wordThatBegins 56 = .ok (.goto (-39), 3) := by decide +kernel
theorem dX7_wordThatBegins_59 : decode cX7_wordThatBegins 59 = .ok (.iload_n 1, 1) := by decide +kernel
theorem dX7_wordThatBegins_60 : decode cX7_wordThatBegins 60 = .ok (.iload 5, 2) := by decide +kernel
theorem dX7_wordThatBegins_62 : decode cX7_wordThatBegins 62 = .ok (.iadd, 1) := by decide +kernel
theorem dX7_wordThatBegins_63 : decode cX7_wordThatBegins 63 = .ok (.iload_n 2, 1) := by decide +kernel
theorem dX7_wordThatBegins_64 : decode cX7_wordThatBegins 64 = .ok (.if_icmp .ne 5, 3) := by decide +kernel
theorem dX7_wordThatBegins_67 : decode cX7_wordThatBegins 67 = .ok (.iload_n 3, 1) := by decide +kernel
theorem dX7_wordThatBegins_68 : decode cX7_wordThatBegins 68 = .ok (.ireturn, 1) := by decide +kernel
theorem dX7_wordThatBegins_69 : decode cX7_wordThatBegins 69 = .ok (.iinc 3 1, 3) := by decide +kernel
theorem dX7_wordThatBegins_72 : decode cX7_wordThatBegins 72 = .ok (.goto (-70), 3) := by decide +kernel
theorem dX7_wordThatBegins_75 : decode cX7_wordThatBegins 75 = .ok (.iconst (-1), 1) := by decide +kernel
theorem dX7_wordThatBegins_76 : decode cX7_wordThatBegins 76 = .ok (.ireturn, 1) := by decide +kernel
theorem dX7_isDigitAt_0 : decode cX7_isDigitAt 0 = .ok (.aload_n 0, 1) := by decide +kernel
theorem dX7_isDigitAt_1 : decode cX7_isDigitAt 1 = .ok (.iload_n 1, 1) := by decide +kernel
theorem dX7_isDigitAt_2 : decode cX7_isDigitAt 2 = .ok (.invokevirtual 72, 3) := by decide +kernel
theorem dX7_isDigitAt_5 : decode cX7_isDigitAt 5 = .ok (.istore_n 2, 1) := by decide +kernel
theorem dX7_isDigitAt_6 : decode cX7_isDigitAt 6 = .ok (.iload_n 2, 1) := by decide +kernel
theorem dX7_isDigitAt_7 : decode cX7_isDigitAt 7 = .ok (.bipush 48, 2) := by decide +kernel
theorem dX7_isDigitAt_9 : decode cX7_isDigitAt 9 = .ok (.if_icmp .lt 13, 3) := by decide +kernel
theorem dX7_isDigitAt_12 : decode cX7_isDigitAt 12 = .ok (.iload_n 2, 1) := by decide +kernel
theorem dX7_isDigitAt_13 : decode cX7_isDigitAt 13 = .ok (.bipush 57, 2) := by decide +kernel
theorem dX7_isDigitAt_15 : decode cX7_isDigitAt 15 = .ok (.if_icmp .gt 7, 3) := by decide +kernel
theorem dX7_isDigitAt_18 : decode cX7_isDigitAt 18 = .ok (.iconst 1, 1) := by decide +kernel
theorem dX7_isDigitAt_19 : decode cX7_isDigitAt 19 = .ok (.goto 4, 3) := by decide +kernel
theorem dX7_isDigitAt_22 : decode cX7_isDigitAt 22 = .ok (.iconst 0, 1) := by decide +kernel
theorem dX7_isDigitAt_23 : decode cX7_isDigitAt 23 = .ok (.ireturn, 1) := by decide +kernel
theorem dX7_signAt_0 : decode cX7_signAt 0 = .ok (.iload_n 1, 1) := by decide +kernel
theorem dX7_signAt_1 : decode cX7_signAt 1 = .ok (.ifCond .lt 29, 3) := by decide +kernel
theorem dX7_signAt_4 : decode cX7_signAt 4 = .ok (.iload_n 1, 1) := by decide +kernel
theorem dX7_signAt_5 : decode cX7_signAt 5 = .ok (.aload_n 0, 1) := by decide +kernel
theorem dX7_signAt_6 : decode cX7_signAt 6 = .ok (.getfield 24, 3) := by decide +kernel
theorem dX7_signAt_9 : decode cX7_signAt 9 = .ok (.if_icmp .ge 21, 3) := by decide +kernel
theorem dX7_signAt_12 : decode cX7_signAt 12 = .ok (.iload_n 1, 1) := by decide +kernel
theorem dX7_signAt_13 : decode cX7_signAt 13 = .ok (.aload_n 0, 1) := by decide +kernel
theorem dX7_signAt_14 : decode cX7_signAt 14 = .ok (.getfield 9, 3) := by decide +kernel
theorem dX7_signAt_17 : decode cX7_signAt 17 = .ok (.arraylength, 1) := by decide +kernel
theorem dX7_signAt_18 : decode cX7_signAt 18 = .ok (.if_icmp .ge 12, 3) := by decide +kernel
theorem dX7_signAt_21 : decode cX7_signAt 21 = .ok (.aload_n 0, 1) := by decide +kernel
theorem dX7_signAt_22 : decode cX7_signAt 22 = .ok (.getfield 9, 3) := by decide +kernel
theorem dX7_signAt_25 : decode cX7_signAt 25 = .ok (.iload_n 1, 1) := by decide +kernel
theorem dX7_signAt_26 : decode cX7_signAt 26 = .ok (.caload, 1) := by decide +kernel
theorem dX7_signAt_27 : decode cX7_signAt 27 = .ok (.goto 4, 3) := by decide +kernel
theorem dX7_signAt_30 : decode cX7_signAt 30 = .ok (.iconst (-1), 1) := by decide +kernel
theorem dX7_signAt_31 : decode cX7_signAt 31 = .ok (.ireturn, 1) := by decide +kernel
theorem dX7_lettersOf_0 : decode cX7_lettersOf 0 = .ok (.iload_n 0, 1) := by decide +kernel
theorem dX7_lettersOf_1 : decode cX7_lettersOf 1 = .ok (.tableswitch 57 0 5 #[39, 42, 45, 48, 51, 54], 39) := by decide +kernel
theorem dX7_lettersOf_40 : decode cX7_lettersOf 40 = .ok (.ldc 94, 2) := by decide +kernel
theorem dX7_lettersOf_42 : decode cX7_lettersOf 42 = .ok (.areturn, 1) := by decide +kernel
theorem dX7_lettersOf_43 : decode cX7_lettersOf 43 = .ok (.ldc 96, 2) := by decide +kernel
theorem dX7_lettersOf_45 : decode cX7_lettersOf 45 = .ok (.areturn, 1) := by decide +kernel
theorem dX7_lettersOf_46 : decode cX7_lettersOf 46 = .ok (.ldc 98, 2) := by decide +kernel
theorem dX7_lettersOf_48 : decode cX7_lettersOf 48 = .ok (.areturn, 1) := by decide +kernel
theorem dX7_lettersOf_49 : decode cX7_lettersOf 49 = .ok (.ldc 100, 2) := by decide +kernel
theorem dX7_lettersOf_51 : decode cX7_lettersOf 51 = .ok (.areturn, 1) := by decide +kernel
theorem dX7_lettersOf_52 : decode cX7_lettersOf 52 = .ok (.ldc 102, 2) := by decide +kernel
theorem dX7_lettersOf_54 : decode cX7_lettersOf 54 = .ok (.areturn, 1) := by decide +kernel
theorem dX7_lettersOf_55 : decode cX7_lettersOf 55 = .ok (.ldc 104, 2) := by decide +kernel
theorem dX7_lettersOf_57 : decode cX7_lettersOf 57 = .ok (.areturn, 1) := by decide +kernel
theorem dX7_lettersOf_58 : decode cX7_lettersOf 58 = .ok (.ldc 106, 2) := by decide +kernel
theorem dX7_lettersOf_60 : decode cX7_lettersOf 60 = .ok (.areturn, 1) := by decide +kernel
theorem dX7_numbersOf_0 : decode cX7_numbersOf 0 = .ok (.iload_n 0, 1) := by decide +kernel
theorem dX7_numbersOf_1 : decode cX7_numbersOf 1 = .ok (.tableswitch 43 0 5 #[41, 39, 43, 39, 43, 39], 39) := by decide +kernel
theorem dX7_numbersOf_40 : decode cX7_numbersOf 40 = .ok (.iconst 3, 1) := by decide +kernel
theorem dX7_numbersOf_41 : decode cX7_numbersOf 41 = .ok (.ireturn, 1) := by decide +kernel
theorem dX7_numbersOf_42 : decode cX7_numbersOf 42 = .ok (.iconst 2, 1) := by decide +kernel
theorem dX7_numbersOf_43 : decode cX7_numbersOf 43 = .ok (.ireturn, 1) := by decide +kernel
theorem dX7_numbersOf_44 : decode cX7_numbersOf 44 = .ok (.iconst 1, 1) := by decide +kernel
theorem dX7_numbersOf_45 : decode cX7_numbersOf 45 = .ok (.ireturn, 1) := by decide +kernel
theorem dX7_isSigned_0 : decode cX7_isSigned 0 = .ok (.iload_n 0, 1) := by decide +kernel
theorem dX7_isSigned_1 : decode cX7_isSigned 1 = .ok (.iconst 1, 1) := by decide +kernel
theorem dX7_isSigned_2 : decode cX7_isSigned 2 = .ok (.if_icmp .ne 8, 3) := by decide +kernel
theorem dX7_isSigned_5 : decode cX7_isSigned 5 = .ok (.iload_n 1, 1) := by decide +kernel
theorem dX7_isSigned_6 : decode cX7_isSigned 6 = .ok (.iconst 2, 1) := by decide +kernel
theorem dX7_isSigned_7 : decode cX7_isSigned 7 = .ok (.if_icmp .eq 13, 3) := by decide +kernel
theorem dX7_isSigned_10 : decode cX7_isSigned 10 = .ok (.iload_n 0, 1) := by decide +kernel
theorem dX7_isSigned_11 : decode cX7_isSigned 11 = .ok (.iconst 5, 1) := by decide +kernel
theorem dX7_isSigned_12 : decode cX7_isSigned 12 = .ok (.if_icmp .ne 12, 3) := by decide +kernel
theorem dX7_isSigned_15 : decode cX7_isSigned 15 = .ok (.iload_n 1, 1) := by decide +kernel
theorem dX7_isSigned_16 : decode cX7_isSigned 16 = .ok (.iconst 1, 1) := by decide +kernel
theorem dX7_isSigned_17 : decode cX7_isSigned 17 = .ok (.if_icmp .ne 7, 3) := by decide +kernel
theorem dX7_isSigned_20 : decode cX7_isSigned 20 = .ok (.iconst 1, 1) := by decide +kernel
theorem dX7_isSigned_21 : decode cX7_isSigned 21 = .ok (.goto 4, 3) := by decide +kernel
theorem dX7_isSigned_24 : decode cX7_isSigned 24 = .ok (.iconst 0, 1) := by decide +kernel
theorem dX7_isSigned_25 : decode cX7_isSigned 25 = .ok (.ireturn, 1) := by decide +kernel
theorem dX8_init_0 : decode cX8_init 0 = .ok (.aload_n 0, 1) := by decide +kernel
theorem dX8_init_1 : decode cX8_init 1 = .ok (.invokespecial 1, 3) := by decide +kernel
theorem dX8_init_4 : decode cX8_init 4 = .ok (.aload_n 0, 1) := by decide +kernel
theorem dX8_init_5 : decode cX8_init 5 = .ok (.new 7, 3) := by decide +kernel
theorem dX8_init_8 : decode cX8_init 8 = .ok (.dup, 1) := by decide +kernel
theorem dX8_init_9 : decode cX8_init 9 = .ok (.invokespecial 9, 3) := by decide +kernel
theorem dX8_init_12 : decode cX8_init 12 = .ok (.putfield 10, 3) := by decide +kernel
theorem dX8_init_15 : decode cX8_init 15 = .ok (.aload_n 0, 1) := by decide +kernel
theorem dX8_init_16 : decode cX8_init 16 = .ok (.new 16, 3) := by decide +kernel
theorem dX8_init_19 : decode cX8_init 19 = .ok (.dup, 1) := by decide +kernel
theorem dX8_init_20 : decode cX8_init 20 = .ok (.invokespecial 18, 3) := by decide +kernel
theorem dX8_init_23 : decode cX8_init 23 = .ok (.putfield 19, 3) := by decide +kernel
theorem dX8_init_26 : decode cX8_init 26 = .ok (.aload_n 0, 1) := by decide +kernel
theorem dX8_init_27 : decode cX8_init 27 = .ok (.new 23, 3) := by decide +kernel
theorem dX8_init_30 : decode cX8_init 30 = .ok (.dup, 1) := by decide +kernel
theorem dX8_init_31 : decode cX8_init 31 = .ok (.invokespecial 25, 3) := by decide +kernel
theorem dX8_init_34 : decode cX8_init 34 = .ok (.putfield 26, 3) := by decide +kernel
theorem dX8_init_37 : decode cX8_init 37 = .ok (.aload_n 0, 1) := by decide +kernel
theorem dX8_init_38 : decode cX8_init 38 = .ok (.bipush 16, 2) := by decide +kernel
theorem dX8_init_40 : decode cX8_init 40 = .ok (.newarray .int, 2) := by decide +kernel
theorem dX8_init_42 : decode cX8_init 42 = .ok (.putfield 30, 3) := by decide +kernel
theorem dX8_init_45 : decode cX8_init 45 = .ok (.aload_n 0, 1) := by decide +kernel
theorem dX8_init_46 : decode cX8_init 46 = .ok (.aconst_null, 1) := by decide +kernel
theorem dX8_init_47 : decode cX8_init 47 = .ok (.putfield 34, 3) := by decide +kernel
theorem dX8_init_50 : decode cX8_init 50 = .ok (.aload_n 0, 1) := by decide +kernel
theorem dX8_init_51 : decode cX8_init 51 = .ok (.iconst (-1), 1) := by decide +kernel
theorem dX8_init_52 : decode cX8_init 52 = .ok (.putfield 38, 3) := by decide +kernel
theorem dX8_init_55 : decode cX8_init 55 = .ok (.aload_n 0, 1) := by decide +kernel
theorem dX8_init_56 : decode cX8_init 56 = .ok (.iconst 0, 1) := by decide +kernel
theorem dX8_init_57 : decode cX8_init 57 = .ok (.putfield 42, 3) := by decide +kernel
theorem dX8_init_60 : decode cX8_init 60 = .ok (.aload_n 0, 1) := by decide +kernel
theorem dX8_init_61 : decode cX8_init 61 = .ok (.iconst (-1), 1) := by decide +kernel
theorem dX8_init_62 : decode cX8_init 62 = .ok (.putfield 45, 3) := by decide +kernel
theorem dX8_init_65 : decode cX8_init 65 = .ok (.new 48, 3) := by decide +kernel
theorem dX8_init_68 : decode cX8_init 68 = .ok (.dup, 1) := by decide +kernel
theorem dX8_init_69 : decode cX8_init 69 = .ok (.invokespecial 50, 3) := by decide +kernel
theorem dX8_init_72 : decode cX8_init 72 = .ok (.astore_n 1, 1) := by decide +kernel
theorem dX8_init_73 : decode cX8_init 73 = .ok (.new 51, 3) := by decide +kernel
theorem dX8_init_76 : decode cX8_init 76 = .ok (.dup, 1) := by decide +kernel
theorem dX8_init_77 : decode cX8_init 77 = .ok (.aload_n 1, 1) := by decide +kernel
theorem dX8_init_78 : decode cX8_init 78 = .ok (.invokespecial 53, 3) := by decide +kernel
theorem dX8_init_81 : decode cX8_init 81 = .ok (.astore_n 2, 1) := by decide +kernel
theorem dX8_init_82 : decode cX8_init 82 = .ok (.new 56, 3) := by decide +kernel
theorem dX8_init_85 : decode cX8_init 85 = .ok (.dup, 1) := by decide +kernel
theorem dX8_init_86 : decode cX8_init 86 = .ok (.aload_n 1, 1) := by decide +kernel
theorem dX8_init_87 : decode cX8_init 87 = .ok (.aload_n 2, 1) := by decide +kernel
theorem dX8_init_88 : decode cX8_init 88 = .ok (.invokespecial 58, 3) := by decide +kernel
theorem dX8_init_91 : decode cX8_init 91 = .ok (.astore_n 3, 1) := by decide +kernel
theorem dX8_init_92 : decode cX8_init 92 = .ok (.aload_n 0, 1) := by decide +kernel
theorem dX8_init_93 : decode cX8_init 93 = .ok (.aload_n 1, 1) := by decide +kernel
theorem dX8_init_94 : decode cX8_init 94 = .ok (.putfield 61, 3) := by decide +kernel
theorem dX8_init_97 : decode cX8_init 97 = .ok (.aload_n 0, 1) := by decide +kernel
theorem dX8_init_98 : decode cX8_init 98 = .ok (.aload_n 2, 1) := by decide +kernel
theorem dX8_init_99 : decode cX8_init 99 = .ok (.putfield 64, 3) := by decide +kernel
theorem dX8_init_102 : decode cX8_init 102 = .ok (.aload_n 0, 1) := by decide +kernel
theorem dX8_init_103 : decode cX8_init 103 = .ok (.aload_n 3, 1) := by decide +kernel
theorem dX8_init_104 : decode cX8_init 104 = .ok (.putfield 68, 3) := by decide +kernel
theorem dX8_init_107 : decode cX8_init 107 = .ok (.aload_n 0, 1) := by decide +kernel
theorem dX8_init_108 : decode cX8_init 108 = .ok (.new 72, 3) := by decide +kernel
theorem dX8_init_111 : decode cX8_init 111 = .ok (.dup, 1) := by decide +kernel
theorem dX8_init_112 : decode cX8_init 112 = .ok (.aload_n 1, 1) := by decide +kernel
theorem dX8_init_113 : decode cX8_init 113 = .ok (.aload_n 2, 1) := by decide +kernel
theorem dX8_init_114 : decode cX8_init 114 = .ok (.aload_n 3, 1) := by decide +kernel
theorem dX8_init_115 : decode cX8_init 115 = .ok (.invokespecial 74, 3) := by decide +kernel
theorem dX8_init_118 : decode cX8_init 118 = .ok (.putfield 77, 3) := by decide +kernel
theorem dX8_init_121 : decode cX8_init 121 = .ok (.aload_n 0, 1) := by decide +kernel
theorem dX8_init_122 : decode cX8_init 122 = .ok (.new 81, 3) := by decide +kernel
theorem dX8_init_125 : decode cX8_init 125 = .ok (.dup, 1) := by decide +kernel
theorem dX8_init_126 : decode cX8_init 126 = .ok (.aload_n 1, 1) := by decide +kernel
theorem dX8_init_127 : decode cX8_init 127 = .ok (.aload_n 2, 1) := by decide +kernel
theorem dX8_init_128 : decode cX8_init 128 = .ok (.invokespecial 83, 3) := by decide +kernel
theorem dX8_init_131 : decode cX8_init 131 = .ok (.putfield 84, 3) := by decide +kernel
theorem dX8_init_134 : decode cX8_init 134 = .ok (.return_, 1) := by decide +kernel
theorem dX8_addItem_0 : decode cX8_addItem 0 = .ok (.aload_n 0, 1) := by decide +kernel
theorem dX8_addItem_1 : decode cX8_addItem 1 = .ok (.getfield 84, 3) := by decide +kernel
theorem dX8_addItem_4 : decode cX8_addItem 4 = .ok (.iload_n 1, 1) := by decide +kernel
theorem dX8_addItem_5 : decode cX8_addItem 5 = .ok (.iload_n 2, 1) := by decide +kernel
theorem dX8_addItem_6 : decode cX8_addItem 6 = .ok (.iload_n 3, 1) := by decide +kernel
theorem dX8_addItem_7 : decode cX8_addItem 7 = .ok (.iload 4, 2) := by decide +kernel
theorem dX8_addItem_9 : decode cX8_addItem 9 = .ok (.invokevirtual 88, 3) := by decide +kernel
theorem dX8_addItem_12 : decode cX8_addItem 12 = .ok (.invokestatic 92, 3) := by decide +kernel
theorem dX8_addItem_15 : decode cX8_addItem 15 = .ok (.aload_n 0, 1) := by decide +kernel
theorem dX8_addItem_16 : decode cX8_addItem 16 = .ok (.getfield 10, 3) := by decide +kernel
theorem dX8_addItem_19 : decode cX8_addItem 19 = .ok (.aload_n 0, 1) := by decide +kernel
theorem dX8_addItem_20 : decode cX8_addItem 20 = .ok (.getfield 61, 3) := by decide +kernel
theorem dX8_addItem_23 : decode cX8_addItem 23 = .ok (.invokevirtual 96, 3) := by decide +kernel
theorem dX8_addItem_26 : decode cX8_addItem 26 = .ok (.aload_n 0, 1) := by decide +kernel
theorem dX8_addItem_27 : decode cX8_addItem 27 = .ok (.getfield 84, 3) := by decide +kernel
theorem dX8_addItem_30 : decode cX8_addItem 30 = .ok (.iload_n 1, 1) := by decide +kernel
theorem dX8_addItem_31 : decode cX8_addItem 31 = .ok (.iload_n 2, 1) := by decide +kernel
theorem dX8_addItem_32 : decode cX8_addItem 32 = .ok (.iload_n 3, 1) := by decide +kernel
theorem dX8_addItem_33 : decode cX8_addItem 33 = .ok (.iload 4, 2) := by decide +kernel
theorem dX8_addItem_35 : decode cX8_addItem 35 = .ok (.invokevirtual 99, 3) := by decide +kernel
theorem dX8_addItem_38 : decode cX8_addItem 38 = .ok (.ireturn, 1) := by decide +kernel
theorem dX8_set_0 : decode cX8_set 0 = .ok (.aload_n 0, 1) := by decide +kernel
theorem dX8_set_1 : decode cX8_set 1 = .ok (.getfield 61, 3) := by decide +kernel
theorem dX8_set_4 : decode cX8_set 4 = .ok (.getfield 102, 3) := by decide +kernel
theorem dX8_set_7 : decode cX8_set 7 = .ok (.iload_n 1, 1) := by decide +kernel
theorem dX8_set_8 : decode cX8_set 8 = .ok (.invokestatic 106, 3) := by decide +kernel
theorem dX8_set_11 : decode cX8_set 11 = .ok (.iload_n 2, 1) := by decide +kernel
theorem dX8_set_12 : decode cX8_set 12 = .ok (.iload_n 3, 1) := by decide +kernel
theorem dX8_set_13 : decode cX8_set 13 = .ok (.invokestatic 110, 3) := by decide +kernel
theorem dX8_set_16 : decode cX8_set 16 = .ok (.ifCond .ne 13, 3) := by decide +kernel
theorem dX8_set_19 : decode cX8_set 19 = .ok (.new 114, 3) := by decide +kernel
theorem dX8_set_22 : decode cX8_set 22 = .ok (.dup, 1) := by decide +kernel
theorem dX8_set_23 : decode cX8_set 23 = .ok (.ldc 116, 2) := by decide +kernel
theorem dX8_set_25 : decode cX8_set 25 = .ok (.invokespecial 118, 3) := by decide +kernel
theorem dX8_set_28 : decode cX8_set 28 = .ok (.athrow, 1) := by decide +kernel
theorem dX8_set_29 : decode cX8_set 29 = .ok (.aload_n 0, 1) := by decide +kernel
theorem dX8_set_30 : decode cX8_set 30 = .ok (.getfield 10, 3) := by decide +kernel
theorem dX8_set_33 : decode cX8_set 33 = .ok (.aload_n 0, 1) := by decide +kernel
theorem dX8_set_34 : decode cX8_set 34 = .ok (.getfield 61, 3) := by decide +kernel
theorem dX8_set_37 : decode cX8_set 37 = .ok (.invokevirtual 96, 3) := by decide +kernel
theorem dX8_set_40 : decode cX8_set 40 = .ok (.iconst 2, 1) := by decide +kernel
theorem dX8_set_41 : decode cX8_set 41 = .ok (.iload_n 2, 1) := by decide +kernel
theorem dX8_set_42 : decode cX8_set 42 = .ok (.iadd, 1) := by decide +kernel
theorem dX8_set_43 : decode cX8_set 43 = .ok (.istore 4, 2) := by decide +kernel
theorem dX8_set_45 : decode cX8_set 45 = .ok (.aload_n 0, 1) := by decide +kernel
theorem dX8_set_46 : decode cX8_set 46 = .ok (.getfield 61, 3) := by decide +kernel
theorem dX8_set_49 : decode cX8_set 49 = .ok (.getfield 102, 3) := by decide +kernel
theorem dX8_set_52 : decode cX8_set 52 = .ok (.iload_n 1, 1) := by decide +kernel
theorem dX8_set_53 : decode cX8_set 53 = .ok (.iload 4, 2) := by decide +kernel
theorem dX8_set_55 : decode cX8_set 55 = .ok (.invokevirtual 121, 3) := by decide +kernel
theorem dX8_set_58 : decode cX8_set 58 = .ok (.istore 5, 2) := by decide +kernel
theorem dX8_set_60 : decode cX8_set 60 = .ok (.aload_n 0, 1) := by decide +kernel
theorem dX8_set_61 : decode cX8_set 61 = .ok (.getfield 61, 3) := by decide +kernel
theorem dX8_set_64 : decode cX8_set 64 = .ok (.getfield 102, 3) := by decide +kernel
theorem dX8_set_67 : decode cX8_set 67 = .ok (.iload_n 1, 1) := by decide +kernel
theorem dX8_set_68 : decode cX8_set 68 = .ok (.iload 4, 2) := by decide +kernel
theorem dX8_set_70 : decode cX8_set 70 = .ok (.iload_n 3, 1) := by decide +kernel
theorem dX8_set_71 : decode cX8_set 71 = .ok (.invokevirtual 127, 3) := by decide +kernel
theorem dX8_set_74 : decode cX8_set 74 = .ok (.iload 5, 2) := by decide +kernel
theorem dX8_set_76 : decode cX8_set 76 = .ok (.ireturn, 1) := by decide +kernel
theorem dX8_item_0 : decode cX8_item 0 = .ok (.aload_n 0, 1) := by decide +kernel
theorem dX8_item_1 : decode cX8_item 1 = .ok (.getfield 61, 3) := by decide +kernel
theorem dX8_item_4 : decode cX8_item 4 = .ok (.getfield 102, 3) := by decide +kernel
theorem dX8_item_7 : decode cX8_item 7 = .ok (.iload_n 1, 1) := by decide +kernel
theorem dX8_item_8 : decode cX8_item 8 = .ok (.invokestatic 106, 3) := by decide +kernel
theorem dX8_item_11 : decode cX8_item 11 = .ok (.iload_n 2, 1) := by decide +kernel
theorem dX8_item_12 : decode cX8_item 12 = .ok (.bipush 10, 2) := by decide +kernel
theorem dX8_item_14 : decode cX8_item 14 = .ok (.invokestatic 131, 3) := by decide +kernel
theorem dX8_item_17 : decode cX8_item 17 = .ok (.iload_n 2, 1) := by decide +kernel
theorem dX8_item_18 : decode cX8_item 18 = .ok (.iconst 5, 1) := by decide +kernel
theorem dX8_item_19 : decode cX8_item 19 = .ok (.if_icmp .gt 16, 3) := by decide +kernel
theorem dX8_item_22 : decode cX8_item 22 = .ok (.aload_n 0, 1) := by decide +kernel
theorem dX8_item_23 : decode cX8_item 23 = .ok (.getfield 61, 3) := by decide +kernel
theorem dX8_item_26 : decode cX8_item 26 = .ok (.getfield 102, 3) := by decide +kernel
theorem dX8_item_29 : decode cX8_item 29 = .ok (.iload_n 1, 1) := by decide +kernel
theorem dX8_item_30 : decode cX8_item 30 = .ok (.iload_n 2, 1) := by decide +kernel
theorem dX8_item_31 : decode cX8_item 31 = .ok (.invokevirtual 121, 3) := by decide +kernel
theorem dX8_item_34 : decode cX8_item 34 = .ok (.ireturn, 1) := by decide +kernel
theorem dX8_item_35 : decode cX8_item 35 = .ok (.iload_n 2, 1) := by decide +kernel
theorem dX8_item_36 : decode cX8_item 36 = .ok (.bipush 6, 2) := by decide +kernel
theorem dX8_item_38 : decode cX8_item 38 = .ok (.if_icmp .ne 16, 3) := by decide +kernel
theorem dX8_item_41 : decode cX8_item 41 = .ok (.aload_n 0, 1) := by decide +kernel
theorem dX8_item_42 : decode cX8_item 42 = .ok (.getfield 61, 3) := by decide +kernel
theorem dX8_item_45 : decode cX8_item 45 = .ok (.getfield 135, 3) := by decide +kernel
theorem dX8_item_48 : decode cX8_item 48 = .ok (.iconst 0, 1) := by decide +kernel
theorem dX8_item_49 : decode cX8_item 49 = .ok (.iload_n 1, 1) := by decide +kernel
theorem dX8_item_50 : decode cX8_item 50 = .ok (.invokevirtual 138, 3) := by decide +kernel
theorem dX8_item_53 : decode cX8_item 53 = .ok (.ireturn, 1) := by decide +kernel
theorem dX8_item_54 : decode cX8_item 54 = .ok (.iload_n 2, 1) := by decide +kernel
theorem dX8_item_55 : decode cX8_item 55 = .ok (.bipush 10, 2) := by decide +kernel
theorem dX8_item_57 : decode cX8_item 57 = .ok (.if_icmp .ne 17, 3) := by decide +kernel
theorem dX8_item_60 : decode cX8_item 60 = .ok (.aload_n 0, 1) := by decide +kernel
theorem dX8_item_61 : decode cX8_item 61 = .ok (.getfield 61, 3) := by decide +kernel
theorem dX8_item_64 : decode cX8_item 64 = .ok (.getfield 102, 3) := by decide +kernel
theorem dX8_item_67 : decode cX8_item 67 = .ok (.iload_n 1, 1) := by decide +kernel
theorem dX8_item_68 : decode cX8_item 68 = .ok (.bipush 6, 2) := by decide +kernel
theorem dX8_item_70 : decode cX8_item 70 = .ok (.invokevirtual 121, 3) := by decide +kernel
theorem dX8_item_73 : decode cX8_item 73 = .ok (.ireturn, 1) := by decide +kernel
theorem dX8_item_74 : decode cX8_item 74 = .ok (.aload_n 0, 1) := by decide +kernel
theorem dX8_item_75 : decode cX8_item 75 = .ok (.getfield 64, 3) := by decide +kernel
theorem dX8_item_78 : decode cX8_item 78 = .ok (.iload_n 1, 1) := by decide +kernel
theorem dX8_item_79 : decode cX8_item 79 = .ok (.invokevirtual 141, 3) := by decide +kernel
theorem dX8_item_82 : decode cX8_item 82 = .ok (.istore_n 3, 1) := by decide +kernel
theorem dX8_item_83 : decode cX8_item 83 = .ok (.iload_n 2, 1) := by decide +kernel
theorem dX8_item_84 : decode cX8_item 84 = .ok (.bipush 7, 2) := by decide +kernel
theorem dX8_item_86 : decode cX8_item 86 = .ok (.if_icmp .ne 5, 3) := by decide +kernel
theorem dX8_item_89 : decode cX8_item 89 = .ok (.iload_n 3, 1) := by decide +kernel
theorem dX8_item_90 : decode cX8_item 90 = .ok (.ireturn, 1) := by decide +kernel
theorem dX8_item_91 : decode cX8_item 91 = .ok (.iload_n 2, 1) := by decide +kernel
theorem dX8_item_92 : decode cX8_item 92 = .ok (.bipush 8, 2) := by decide +kernel
theorem dX8_item_94 : decode cX8_item 94 = .ok (.if_icmp .ne 20, 3) := by decide +kernel
theorem dX8_item_97 : decode cX8_item 97 = .ok (.iload_n 3, 1) := by decide +kernel
theorem dX8_item_98 : decode cX8_item 98 = .ok (.ifCond .ge 7, 3) := by decide +kernel
theorem dX8_item_101 : decode cX8_item 101 = .ok (.iconst (-1), 1) := by decide +kernel
theorem dX8_item_102 : decode cX8_item 102 = .ok (.goto 11, 3) := by decide +kernel
theorem dX8_item_105 : decode cX8_item 105 = .ok (.aload_n 0, 1) := by decide +kernel
theorem dX8_item_106 : decode cX8_item 106 = .ok (.getfield 68, 3) := by decide +kernel
theorem dX8_item_109 : decode cX8_item 109 = .ok (.iload_n 3, 1) := by decide +kernel
theorem dX8_item_110 : decode cX8_item 110 = .ok (.invokevirtual 145, 3) := by decide +kernel
theorem dX8_item_113 : decode cX8_item 113 = .ok (.ireturn, 1) := by decide +kernel
theorem dX8_item_114 : decode cX8_item 114 = .ok (.iload_n 3, 1) := by decide +kernel
theorem dX8_item_115 : decode cX8_item 115 = .ok (.ifCond .ge 5, 3) := by decide +kernel
theorem dX8_item_118 : decode cX8_item 118 = .ok (.iconst 0, 1) := by decide +kernel
theorem dX8_item_119 : decode cX8_item 119 = .ok (.ireturn, 1) := by decide +kernel
theorem dX8_item_120 : decode cX8_item 120 = .ok (.aload_n 0, 1) := by decide +kernel
theorem dX8_item_121 : decode cX8_item 121 = .ok (.getfield 68, 3) := by decide +kernel
theorem dX8_item_124 : decode cX8_item 124 = .ok (.iload_n 3, 1) := by decide +kernel
theorem dX8_item_125 : decode cX8_item 125 = .ok (.invokevirtual 148, 3) := by decide +kernel
theorem dX8_item_128 : decode cX8_item 128 = .ok (.ifCond .eq 7, 3) := by decide +kernel
theorem dX8_item_131 : decode cX8_item 131 = .ok (.iconst 2, 1) := by decide +kernel
theorem dX8_item_132 : decode cX8_item 132 = .ok (.goto 4, 3) := by decide +kernel
theorem dX8_item_135 : decode cX8_item 135 = .ok (.iconst 1, 1) := by decide +kernel
theorem dX8_item_136 : decode cX8_item 136 = .ok (.ireturn, 1) := by decide +kernel
theorem dX8_pass_0 : decode cX8_pass 0 = .ok (.aload_n 0, 1) := by decide +kernel
theorem dX8_pass_1 : decode cX8_pass 1 = .ok (.getfield 84, 3) := by decide +kernel
theorem dX8_pass_4 : decode cX8_pass 4 = .ok (.iload_n 1, 1) := by decide +kernel
theorem dX8_pass_5 : decode cX8_pass 5 = .ok (.invokevirtual 152, 3) := by decide +kernel
theorem dX8_pass_8 : decode cX8_pass 8 = .ok (.invokestatic 92, 3) := by decide +kernel
theorem dX8_pass_11 : decode cX8_pass 11 = .ok (.aload_n 0, 1) := by decide +kernel
theorem dX8_pass_12 : decode cX8_pass 12 = .ok (.getfield 10, 3) := by decide +kernel
theorem dX8_pass_15 : decode cX8_pass 15 = .ok (.aload_n 0, 1) := by decide +kernel
theorem dX8_pass_16 : decode cX8_pass 16 = .ok (.getfield 61, 3) := by decide +kernel
theorem dX8_pass_19 : decode cX8_pass 19 = .ok (.invokevirtual 96, 3) := by decide +kernel
theorem dX8_pass_22 : decode cX8_pass 22 = .ok (.aload_n 0, 1) := by decide +kernel
theorem dX8_pass_23 : decode cX8_pass 23 = .ok (.getfield 61, 3) := by decide +kernel
theorem dX8_pass_26 : decode cX8_pass 26 = .ok (.dup, 1) := by decide +kernel
theorem dX8_pass_27 : decode cX8_pass 27 = .ok (.getfield 155, 3) := by decide +kernel
theorem dX8_pass_30 : decode cX8_pass 30 = .ok (.iload_n 1, 1) := by decide +kernel
theorem dX8_pass_31 : decode cX8_pass 31 = .ok (.iadd, 1) := by decide +kernel
theorem dX8_pass_32 : decode cX8_pass 32 = .ok (.putfield 155, 3) := by decide +kernel
theorem dX8_pass_35 : decode cX8_pass 35 = .ok (.aload_n 0, 1) := by decide +kernel
theorem dX8_pass_36 : decode cX8_pass 36 = .ok (.getfield 61, 3) := by decide +kernel
theorem dX8_pass_39 : decode cX8_pass 39 = .ok (.getfield 155, 3) := by decide +kernel
theorem dX8_pass_42 : decode cX8_pass 42 = .ok (.ireturn, 1) := by decide +kernel
theorem dX8_today_0 : decode cX8_today 0 = .ok (.aload_n 0, 1) := by decide +kernel
theorem dX8_today_1 : decode cX8_today 1 = .ok (.getfield 61, 3) := by decide +kernel
theorem dX8_today_4 : decode cX8_today 4 = .ok (.getfield 155, 3) := by decide +kernel
theorem dX8_today_7 : decode cX8_today 7 = .ok (.ireturn, 1) := by decide +kernel
theorem dX8_part_0 : decode cX8_part 0 = .ok (.aload_n 0, 1) := by decide +kernel
theorem dX8_part_1 : decode cX8_part 1 = .ok (.getfield 84, 3) := by decide +kernel
theorem dX8_part_4 : decode cX8_part 4 = .ok (.iload_n 1, 1) := by decide +kernel
theorem dX8_part_5 : decode cX8_part 5 = .ok (.iload_n 2, 1) := by decide +kernel
theorem dX8_part_6 : decode cX8_part 6 = .ok (.invokevirtual 158, 3) := by decide +kernel
theorem dX8_part_9 : decode cX8_part 9 = .ok (.invokestatic 92, 3) := by decide +kernel
theorem dX8_part_12 : decode cX8_part 12 = .ok (.aload_n 0, 1) := by decide +kernel
theorem dX8_part_13 : decode cX8_part 13 = .ok (.getfield 10, 3) := by decide +kernel
theorem dX8_part_16 : decode cX8_part 16 = .ok (.aload_n 0, 1) := by decide +kernel
theorem dX8_part_17 : decode cX8_part 17 = .ok (.getfield 61, 3) := by decide +kernel
theorem dX8_part_20 : decode cX8_part 20 = .ok (.invokevirtual 96, 3) := by decide +kernel
theorem dX8_part_23 : decode cX8_part 23 = .ok (.aload_n 0, 1) := by decide +kernel
theorem dX8_part_24 : decode cX8_part 24 = .ok (.getfield 84, 3) := by decide +kernel
theorem dX8_part_27 : decode cX8_part 27 = .ok (.iload_n 1, 1) := by decide +kernel
theorem dX8_part_28 : decode cX8_part 28 = .ok (.iload_n 2, 1) := by decide +kernel
theorem dX8_part_29 : decode cX8_part 29 = .ok (.invokevirtual 161, 3) := by decide +kernel
theorem dX8_part_32 : decode cX8_part 32 = .ok (.ireturn, 1) := by decide +kernel
theorem dX8_square_0 : decode cX8_square 0 = .ok (.iload_n 1, 1) := by decide +kernel
theorem dX8_square_1 : decode cX8_square 1 = .ok (.iconst (-1), 1) := by decide +kernel
theorem dX8_square_2 : decode cX8_square 2 = .ok (.if_icmp .ne 15, 3) := by decide +kernel
theorem dX8_square_5 : decode cX8_square 5 = .ok (.aload_n 0, 1) := by decide +kernel
theorem dX8_square_6 : decode cX8_square 6 = .ok (.getfield 61, 3) := by decide +kernel
theorem dX8_square_9 : decode cX8_square 9 = .ok (.getfield 164, 3) := by decide +kernel
theorem dX8_square_12 : decode cX8_square 12 = .ok (.iconst 0, 1) := by decide +kernel
theorem dX8_square_13 : decode cX8_square 13 = .ok (.invokevirtual 167, 3) := by decide +kernel
theorem dX8_square_16 : decode cX8_square 16 = .ok (.ireturn, 1) := by decide +kernel
theorem dX8_square_17 : decode cX8_square 17 = .ok (.aload_n 0, 1) := by decide +kernel
theorem dX8_square_18 : decode cX8_square 18 = .ok (.getfield 61, 3) := by decide +kernel
theorem dX8_square_21 : decode cX8_square 21 = .ok (.getfield 164, 3) := by decide +kernel
theorem dX8_square_24 : decode cX8_square 24 = .ok (.iload_n 1, 1) := by decide +kernel
theorem dX8_square_25 : decode cX8_square 25 = .ok (.invokevirtual 170, 3) := by decide +kernel
theorem dX8_square_28 : decode cX8_square 28 = .ok (.ifCond .ne 13, 3) := by decide +kernel
theorem dX8_square_31 : decode cX8_square 31 = .ok (.new 173, 3) := by decide +kernel
theorem dX8_square_34 : decode cX8_square 34 = .ok (.dup, 1) := by decide +kernel
theorem dX8_square_35 : decode cX8_square 35 = .ok (.ldc 175, 2) := by decide +kernel
theorem dX8_square_37 : decode cX8_square 37 = .ok (.invokespecial 177, 3) := by decide +kernel
theorem dX8_square_40 : decode cX8_square 40 = .ok (.athrow, 1) := by decide +kernel
theorem dX8_square_41 : decode cX8_square 41 = .ok (.aload_n 0, 1) := by decide +kernel
theorem dX8_square_42 : decode cX8_square 42 = .ok (.getfield 61, 3) := by decide +kernel
theorem dX8_square_45 : decode cX8_square 45 = .ok (.getfield 164, 3) := by decide +kernel
theorem dX8_square_48 : decode cX8_square 48 = .ok (.iload_n 1, 1) := by decide +kernel
theorem dX8_square_49 : decode cX8_square 49 = .ok (.iconst 0, 1) := by decide +kernel
theorem dX8_square_50 : decode cX8_square 50 = .ok (.invokevirtual 121, 3) := by decide +kernel
theorem dX8_square_53 : decode cX8_square 53 = .ok (.ireturn, 1) := by decide +kernel
theorem dX8_clearParts_0 : decode cX8_clearParts 0 = .ok (.aload_n 0, 1) := by decide +kernel
theorem dX8_clearParts_1 : decode cX8_clearParts 1 = .ok (.getfield 10, 3) := by decide +kernel
theorem dX8_clearParts_4 : decode cX8_clearParts 4 = .ok (.aload_n 0, 1) := by decide +kernel
theorem dX8_clearParts_5 : decode cX8_clearParts 5 = .ok (.getfield 61, 3) := by decide +kernel
theorem dX8_clearParts_8 : decode cX8_clearParts 8 = .ok (.invokevirtual 96, 3) := by decide +kernel
theorem dX8_clearParts_11 : decode cX8_clearParts 11 = .ok (.aload_n 0, 1) := by decide +kernel
theorem dX8_clearParts_12 : decode cX8_clearParts 12 = .ok (.getfield 61, 3) := by decide +kernel
theorem dX8_clearParts_15 : decode cX8_clearParts 15 = .ok (.getfield 164, 3) := by decide +kernel
theorem dX8_clearParts_18 : decode cX8_clearParts 18 = .ok (.invokevirtual 178, 3) := by decide +kernel
theorem dX8_clearParts_21 : decode cX8_clearParts 21 = .ok (.istore_n 1, 1) := by decide +kernel
theorem dX8_clearParts_22 : decode cX8_clearParts 22 = .ok (.aload_n 0, 1) := by decide +kernel
theorem dX8_clearParts_23 : decode cX8_clearParts 23 = .ok (.getfield 61, 3) := by decide +kernel
theorem dX8_clearParts_26 : decode cX8_clearParts 26 = .ok (.getfield 164, 3) := by decide +kernel
theorem dX8_clearParts_29 : decode cX8_clearParts 29 = .ok (.invokevirtual 182, 3) := by decide +kernel
theorem dX8_clearParts_32 : decode cX8_clearParts 32 = .ok (.iload_n 1, 1) := by decide +kernel
theorem dX8_clearParts_33 : decode cX8_clearParts 33 = .ok (.ireturn, 1) := by decide +kernel
theorem dX8_calibrate_0 : decode cX8_calibrate 0 = .ok (.aload_n 0, 1) := by decide +kernel
theorem dX8_calibrate_1 : decode cX8_calibrate 1 = .ok (.getfield 84, 3) := by decide +kernel
theorem dX8_calibrate_4 : decode cX8_calibrate 4 = .ok (.iload_n 1, 1) := by decide +kernel
theorem dX8_calibrate_5 : decode cX8_calibrate 5 = .ok (.iload_n 2, 1) := by decide +kernel
theorem dX8_calibrate_6 : decode cX8_calibrate 6 = .ok (.iload_n 3, 1) := by decide +kernel
theorem dX8_calibrate_7 : decode cX8_calibrate 7 = .ok (.invokevirtual 185, 3) := by decide +kernel
theorem dX8_calibrate_10 : decode cX8_calibrate 10 = .ok (.invokestatic 92, 3) := by decide +kernel
theorem dX8_calibrate_13 : decode cX8_calibrate 13 = .ok (.aload_n 0, 1) := by decide +kernel
theorem dX8_calibrate_14 : decode cX8_calibrate 14 = .ok (.aload_n 0, 1) := by decide +kernel
theorem dX8_calibrate_15 : decode cX8_calibrate 15 = .ok (.getfield 77, 3) := by decide +kernel
theorem dX8_calibrate_18 : decode cX8_calibrate 18 = .ok (.iload_n 1, 1) := by decide +kernel
theorem dX8_calibrate_19 : decode cX8_calibrate 19 = .ok (.iload_n 2, 1) := by decide +kernel
theorem dX8_calibrate_20 : decode cX8_calibrate 20 = .ok (.invokevirtual 189, 3) := by decide +kernel
theorem dX8_calibrate_23 : decode cX8_calibrate 23 = .ok (.invokevirtual 192, 3) := by decide +kernel
theorem dX8_calibrate_26 : decode cX8_calibrate 26 = .ok (.aload_n 0, 1) := by decide +kernel
theorem dX8_calibrate_27 : decode cX8_calibrate 27 = .ok (.getfield 10, 3) := by decide +kernel
theorem dX8_calibrate_30 : decode cX8_calibrate 30 = .ok (.aload_n 0, 1) := by decide +kernel
theorem dX8_calibrate_31 : decode cX8_calibrate 31 = .ok (.getfield 61, 3) := by decide +kernel
theorem dX8_calibrate_34 : decode cX8_calibrate 34 = .ok (.invokevirtual 96, 3) := by decide +kernel
theorem dX8_calibrate_37 : decode cX8_calibrate 37 = .ok (.aload_n 0, 1) := by decide +kernel
theorem dX8_calibrate_38 : decode cX8_calibrate 38 = .ok (.getfield 84, 3) := by decide +kernel
theorem dX8_calibrate_41 : decode cX8_calibrate 41 = .ok (.iload_n 1, 1) := by decide +kernel
theorem dX8_calibrate_42 : decode cX8_calibrate 42 = .ok (.iload_n 2, 1) := by decide +kernel
theorem dX8_calibrate_43 : decode cX8_calibrate 43 = .ok (.iload_n 3, 1) := by decide +kernel
theorem dX8_calibrate_44 : decode cX8_calibrate 44 = .ok (.invokevirtual 195, 3) := by decide +kernel
theorem dX8_calibrate_47 : decode cX8_calibrate 47 = .ok (.ireturn, 1) := by decide +kernel
theorem dX8_wouldRefuse_0 : decode cX8_wouldRefuse 0 = .ok (.aload_n 0, 1) := by decide +kernel
theorem dX8_wouldRefuse_1 : decode cX8_wouldRefuse 1 = .ok (.getfield 61, 3) := by decide +kernel
theorem dX8_wouldRefuse_4 : decode cX8_wouldRefuse 4 = .ok (.getfield 102, 3) := by decide +kernel
theorem dX8_wouldRefuse_7 : decode cX8_wouldRefuse 7 = .ok (.iload_n 1, 1) := by decide +kernel
theorem dX8_wouldRefuse_8 : decode cX8_wouldRefuse 8 = .ok (.invokestatic 106, 3) := by decide +kernel
theorem dX8_wouldRefuse_11 : decode cX8_wouldRefuse 11 = .ok (.aload_n 0, 1) := by decide +kernel
theorem dX8_wouldRefuse_12 : decode cX8_wouldRefuse 12 = .ok (.getfield 61, 3) := by decide +kernel
theorem dX8_wouldRefuse_15 : decode cX8_wouldRefuse 15 = .ok (.getfield 102, 3) := by decide +kernel
theorem dX8_wouldRefuse_18 : decode cX8_wouldRefuse 18 = .ok (.iload_n 2, 1) := by decide +kernel
theorem dX8_wouldRefuse_19 : decode cX8_wouldRefuse 19 = .ok (.invokestatic 106, 3) := by decide +kernel
theorem dX8_wouldRefuse_22 : decode cX8_wouldRefuse 22 = .ok (.aload_n 0, 1) := by decide +kernel
theorem dX8_wouldRefuse_23 : decode cX8_wouldRefuse 23 = .ok (.getfield 77, 3) := by decide +kernel
theorem dX8_wouldRefuse_26 : decode cX8_wouldRefuse 26 = .ok (.iload_n 1, 1) := by decide +kernel
theorem dX8_wouldRefuse_27 : decode cX8_wouldRefuse 27 = .ok (.iload_n 2, 1) := by decide +kernel
theorem dX8_wouldRefuse_28 : decode cX8_wouldRefuse 28 = .ok (.invokevirtual 189, 3) := by decide +kernel
theorem dX8_wouldRefuse_31 : decode cX8_wouldRefuse 31 = .ok (.ireturn, 1) := by decide +kernel
theorem dX8_best_0 : decode cX8_best 0 = .ok (.aload_n 0, 1) := by decide +kernel
theorem dX8_best_1 : decode cX8_best 1 = .ok (.getfield 61, 3) := by decide +kernel
theorem dX8_best_4 : decode cX8_best 4 = .ok (.getfield 102, 3) := by decide +kernel
theorem dX8_best_7 : decode cX8_best 7 = .ok (.iload_n 1, 1) := by decide +kernel
theorem dX8_best_8 : decode cX8_best 8 = .ok (.invokestatic 106, 3) := by decide +kernel
theorem dX8_best_11 : decode cX8_best 11 = .ok (.iconst (-1), 1) := by decide +kernel
theorem dX8_best_12 : decode cX8_best 12 = .ok (.istore_n 2, 1) := by decide +kernel
theorem dX8_best_13 : decode cX8_best 13 = .ok (.iconst 0, 1) := by decide +kernel
theorem dX8_best_14 : decode cX8_best 14 = .ok (.istore_n 3, 1) := by decide +kernel
theorem dX8_best_15 : decode cX8_best 15 = .ok (.iconst 0, 1) := by decide +kernel
theorem dX8_best_16 : decode cX8_best 16 = .ok (.istore 4, 2) := by decide +kernel
theorem dX8_best_18 : decode cX8_best 18 = .ok (.iload 4, 2) := by decide +kernel
theorem dX8_best_20 : decode cX8_best 20 = .ok (.aload_n 0, 1) := by decide +kernel
theorem dX8_best_21 : decode cX8_best 21 = .ok (.getfield 61, 3) := by decide +kernel
theorem dX8_best_24 : decode cX8_best 24 = .ok (.getfield 102, 3) := by decide +kernel
theorem dX8_best_27 : decode cX8_best 27 = .ok (.invokevirtual 178, 3) := by decide +kernel
theorem dX8_best_30 : decode cX8_best 30 = .ok (.if_icmp .ge 49, 3) := by decide +kernel
theorem dX8_best_33 : decode cX8_best 33 = .ok (.aload_n 0, 1) := by decide +kernel
theorem dX8_best_34 : decode cX8_best 34 = .ok (.getfield 77, 3) := by decide +kernel
theorem dX8_best_37 : decode cX8_best 37 = .ok (.iload_n 1, 1) := by decide +kernel
theorem dX8_best_38 : decode cX8_best 38 = .ok (.iload 4, 2) := by decide +kernel
theorem dX8_best_40 : decode cX8_best 40 = .ok (.invokevirtual 189, 3) := by decide +kernel
theorem dX8_best_43 : decode cX8_best 43 = .ok (.ifCond .ne 30, 3) := by decide +kernel
theorem dX8_best_46 : decode cX8_best 46 = .ok (.aload_n 0, 1) := by decide +kernel
theorem dX8_best_47 : decode cX8_best 47 = .ok (.getfield 84, 3) := by decide +kernel
theorem dX8_best_50 : decode cX8_best 50 = .ok (.iload 4, 2) := by decide +kernel
theorem dX8_best_52 : decode cX8_best 52 = .ok (.invokevirtual 198, 3) := by decide +kernel
theorem dX8_best_55 : decode cX8_best 55 = .ok (.istore 5, 2) := by decide +kernel
theorem dX8_best_57 : decode cX8_best 57 = .ok (.iload_n 2, 1) := by decide +kernel
theorem dX8_best_58 : decode cX8_best 58 = .ok (.ifCond .lt 9, 3) := by decide +kernel
theorem dX8_best_61 : decode cX8_best 61 = .ok (.iload 5, 2) := by decide +kernel
theorem dX8_best_63 : decode cX8_best 63 = .ok (.iload_n 3, 1) := by decide +kernel
theorem dX8_best_64 : decode cX8_best 64 = .ok (.if_icmp .ge 9, 3) := by decide +kernel
theorem dX8_best_67 : decode cX8_best 67 = .ok (.iload 4, 2) := by decide +kernel
theorem dX8_best_69 : decode cX8_best 69 = .ok (.istore_n 2, 1) := by decide +kernel
theorem dX8_best_70 : decode cX8_best 70 = .ok (.iload 5, 2) := by decide +kernel
theorem dX8_best_72 : decode cX8_best 72 = .ok (.istore_n 3, 1) := by decide +kernel
theorem dX8_best_73 : decode cX8_best 73 = .ok (.iinc 4 1, 3) := by decide +kernel
theorem dX8_best_76 : decode cX8_best 76 = .ok (.goto (-58), 3) := by decide +kernel
theorem dX8_best_79 : decode cX8_best 79 = .ok (.iload_n 2, 1) := by decide +kernel
theorem dX8_best_80 : decode cX8_best 80 = .ok (.ifCond .ge 13, 3) := by decide +kernel
theorem dX8_best_83 : decode cX8_best 83 = .ok (.new 173, 3) := by decide +kernel
theorem dX8_best_86 : decode cX8_best 86 = .ok (.dup, 1) := by decide +kernel
theorem dX8_best_87 : decode cX8_best 87 = .ok (.ldc 201, 2) := by decide +kernel
theorem dX8_best_89 : decode cX8_best 89 = .ok (.invokespecial 177, 3) := by decide +kernel
theorem dX8_best_92 : decode cX8_best 92 = .ok (.athrow, 1) := by decide +kernel
theorem dX8_best_93 : decode cX8_best 93 = .ok (.iload_n 2, 1) := by decide +kernel
theorem dX8_best_94 : decode cX8_best 94 = .ok (.ireturn, 1) := by decide +kernel
theorem dX8_calibration_0 : decode cX8_calibration 0 = .ok (.aload_n 0, 1) := by decide +kernel
theorem dX8_calibration_1 : decode cX8_calibration 1 = .ok (.getfield 61, 3) := by decide +kernel
theorem dX8_calibration_4 : decode cX8_calibration 4 = .ok (.getfield 135, 3) := by decide +kernel
theorem dX8_calibration_7 : decode cX8_calibration 7 = .ok (.iload_n 1, 1) := by decide +kernel
theorem dX8_calibration_8 : decode cX8_calibration 8 = .ok (.invokestatic 106, 3) := by decide +kernel
theorem dX8_calibration_11 : decode cX8_calibration 11 = .ok (.iload_n 2, 1) := by decide +kernel
theorem dX8_calibration_12 : decode cX8_calibration 12 = .ok (.bipush 12, 2) := by decide +kernel
theorem dX8_calibration_14 : decode cX8_calibration 14 = .ok (.invokestatic 131, 3) := by decide +kernel
theorem dX8_calibration_17 : decode cX8_calibration 17 = .ok (.iload_n 2, 1) := by decide +kernel
theorem dX8_calibration_18 : decode cX8_calibration 18 = .ok (.bipush 6, 2) := by decide +kernel
theorem dX8_calibration_20 : decode cX8_calibration 20 = .ok (.if_icmp .gt 16, 3) := by decide +kernel
theorem dX8_calibration_23 : decode cX8_calibration 23 = .ok (.aload_n 0, 1) := by decide +kernel
theorem dX8_calibration_24 : decode cX8_calibration 24 = .ok (.getfield 61, 3) := by decide +kernel
theorem dX8_calibration_27 : decode cX8_calibration 27 = .ok (.getfield 135, 3) := by decide +kernel
theorem dX8_calibration_30 : decode cX8_calibration 30 = .ok (.iload_n 1, 1) := by decide +kernel
theorem dX8_calibration_31 : decode cX8_calibration 31 = .ok (.iload_n 2, 1) := by decide +kernel
theorem dX8_calibration_32 : decode cX8_calibration 32 = .ok (.invokevirtual 121, 3) := by decide +kernel
theorem dX8_calibration_35 : decode cX8_calibration 35 = .ok (.ireturn, 1) := by decide +kernel
theorem dX8_calibration_36 : decode cX8_calibration 36 = .ok (.iload_n 2, 1) := by decide +kernel
theorem dX8_calibration_37 : decode cX8_calibration 37 = .ok (.tableswitch 93 7 11 #[35, 44, 53, 70, 87], 35) := by decide +kernel
theorem dX8_calibration_72 : decode cX8_calibration 72 = .ok (.aload_n 0, 1) := by decide +kernel
theorem dX8_calibration_73 : decode cX8_calibration 73 = .ok (.getfield 68, 3) := by decide +kernel
theorem dX8_calibration_76 : decode cX8_calibration 76 = .ok (.iload_n 1, 1) := by decide +kernel
theorem dX8_calibration_77 : decode cX8_calibration 77 = .ok (.invokevirtual 203, 3) := by decide +kernel
theorem dX8_calibration_80 : decode cX8_calibration 80 = .ok (.ireturn, 1) := by decide +kernel
theorem dX8_calibration_81 : decode cX8_calibration 81 = .ok (.aload_n 0, 1) := by decide +kernel
theorem dX8_calibration_82 : decode cX8_calibration 82 = .ok (.getfield 68, 3) := by decide +kernel
theorem dX8_calibration_85 : decode cX8_calibration 85 = .ok (.iload_n 1, 1) := by decide +kernel
theorem dX8_calibration_86 : decode cX8_calibration 86 = .ok (.invokevirtual 145, 3) := by decide +kernel
theorem dX8_calibration_89 : decode cX8_calibration 89 = .ok (.ireturn, 1) := by decide +kernel
theorem dX8_calibration_90 : decode cX8_calibration 90 = .ok (.aload_n 0, 1) := by decide +kernel
theorem dX8_calibration_91 : decode cX8_calibration 91 = .ok (.getfield 68, 3) := by decide +kernel
theorem dX8_calibration_94 : decode cX8_calibration 94 = .ok (.iload_n 1, 1) := by decide +kernel
theorem dX8_calibration_95 : decode cX8_calibration 95 = .ok (.invokevirtual 206, 3) := by decide +kernel
theorem dX8_calibration_98 : decode cX8_calibration 98 = .ok (.ifCond .eq 7, 3) := by decide +kernel
theorem dX8_calibration_101 : decode cX8_calibration 101 = .ok (.iconst 1, 1) := by decide +kernel
theorem dX8_calibration_102 : decode cX8_calibration 102 = .ok (.goto 4, 3) := by decide +kernel
theorem dX8_calibration_105 : decode cX8_calibration 105 = .ok (.iconst 0, 1) := by decide +kernel
theorem dX8_calibration_106 : decode cX8_calibration 106 = .ok (.ireturn, 1) := by decide +kernel
theorem dX8_calibration_107 : decode cX8_calibration 107 = .ok (.aload_n 0, 1) := by decide +kernel
theorem dX8_calibration_108 : decode cX8_calibration 108 = .ok (.getfield 64, 3) := by decide +kernel
theorem dX8_calibration_111 : decode cX8_calibration 111 = .ok (.iload_n 1, 1) := by decide +kernel
theorem dX8_calibration_112 : decode cX8_calibration 112 = .ok (.invokevirtual 209, 3) := by decide +kernel
theorem dX8_calibration_115 : decode cX8_calibration 115 = .ok (.ifCond .eq 7, 3) := by decide +kernel
theorem dX8_calibration_118 : decode cX8_calibration 118 = .ok (.iconst 1, 1) := by decide +kernel
theorem dX8_calibration_119 : decode cX8_calibration 119 = .ok (.goto 4, 3) := by decide +kernel
theorem dX8_calibration_122 : decode cX8_calibration 122 = .ok (.iconst 0, 1) := by decide +kernel
theorem dX8_calibration_123 : decode cX8_calibration 123 = .ok (.ireturn, 1) := by decide +kernel
theorem dX8_calibration_124 : decode cX8_calibration 124 = .ok (.aload_n 0, 1) := by decide +kernel
theorem dX8_calibration_125 : decode cX8_calibration 125 = .ok (.iload_n 1, 1) := by decide +kernel
theorem dX8_calibration_126 : decode cX8_calibration 126 = .ok (.invokevirtual 212, 3) := by decide +kernel
theorem dX8_calibration_129 : decode cX8_calibration 129 = .ok (.ireturn, 1) := by decide +kernel
theorem dX8_calibration_130 : decode cX8_calibration 130 = .ok (.aload_n 0, 1) := by decide +kernel
theorem dX8_calibration_131 : decode cX8_calibration 131 = .ok (.getfield 64, 3) := by decide +kernel
theorem dX8_calibration_134 : decode cX8_calibration 134 = .ok (.iload_n 1, 1) := by decide +kernel
theorem dX8_calibration_135 : decode cX8_calibration 135 = .ok (.invokevirtual 215, 3) := by decide +kernel
theorem dX8_calibration_138 : decode cX8_calibration 138 = .ok (.ireturn, 1) := by decide +kernel
theorem dX8_variance_0 : decode cX8_variance 0 = .ok (.aload_n 0, 1) := by decide +kernel
theorem dX8_variance_1 : decode cX8_variance 1 = .ok (.getfield 61, 3) := by decide +kernel
theorem dX8_variance_4 : decode cX8_variance 4 = .ok (.getfield 135, 3) := by decide +kernel
theorem dX8_variance_7 : decode cX8_variance 7 = .ok (.iload_n 1, 1) := by decide +kernel
theorem dX8_variance_8 : decode cX8_variance 8 = .ok (.invokestatic 106, 3) := by decide +kernel
theorem dX8_variance_11 : decode cX8_variance 11 = .ok (.aload_n 0, 1) := by decide +kernel
theorem dX8_variance_12 : decode cX8_variance 12 = .ok (.getfield 61, 3) := by decide +kernel
theorem dX8_variance_15 : decode cX8_variance 15 = .ok (.getfield 135, 3) := by decide +kernel
theorem dX8_variance_18 : decode cX8_variance 18 = .ok (.iload_n 1, 1) := by decide +kernel
theorem dX8_variance_19 : decode cX8_variance 19 = .ok (.iload_n 2, 1) := by decide +kernel
theorem dX8_variance_20 : decode cX8_variance 20 = .ok (.ifCond .eq 8, 3) := by decide +kernel
theorem dX8_variance_23 : decode cX8_variance 23 = .ok (.bipush 7, 2) := by decide +kernel
theorem dX8_variance_25 : decode cX8_variance 25 = .ok (.goto 5, 3) := by decide +kernel
theorem dX8_variance_28 : decode cX8_variance 28 = .ok (.bipush 8, 2) := by decide +kernel
theorem dX8_variance_30 : decode cX8_variance 30 = .ok (.invokevirtual 121, 3) := by decide +kernel
theorem dX8_variance_33 : decode cX8_variance 33 = .ok (.i2l, 1) := by decide +kernel
theorem dX8_variance_34 : decode cX8_variance 34 = .ok (.lreturn, 1) := by decide +kernel
theorem dX8_alongChain_0 : decode cX8_alongChain 0 = .ok (.aload_n 0, 1) := by decide +kernel
theorem dX8_alongChain_1 : decode cX8_alongChain 1 = .ok (.getfield 61, 3) := by decide +kernel
theorem dX8_alongChain_4 : decode cX8_alongChain 4 = .ok (.getfield 135, 3) := by decide +kernel
theorem dX8_alongChain_7 : decode cX8_alongChain 7 = .ok (.iload_n 1, 1) := by decide +kernel
theorem dX8_alongChain_8 : decode cX8_alongChain 8 = .ok (.invokestatic 106, 3) := by decide +kernel
theorem dX8_alongChain_11 : decode cX8_alongChain 11 = .ok (.aload_n 0, 1) := by decide +kernel
theorem dX8_alongChain_12 : decode cX8_alongChain 12 = .ok (.getfield 61, 3) := by decide +kernel
theorem dX8_alongChain_15 : decode cX8_alongChain 15 = .ok (.getfield 135, 3) := by decide +kernel
theorem dX8_alongChain_18 : decode cX8_alongChain 18 = .ok (.astore_n 2, 1) := by decide +kernel
theorem dX8_alongChain_19 : decode cX8_alongChain 19 = .ok (.lconst 0, 1) := by decide +kernel
theorem dX8_alongChain_20 : decode cX8_alongChain 20 = .ok (.lstore_n 3, 1) := by decide +kernel
theorem dX8_alongChain_21 : decode cX8_alongChain 21 = .ok (.iload_n 1, 1) := by decide +kernel
theorem dX8_alongChain_22 : decode cX8_alongChain 22 = .ok (.istore 5, 2) := by decide +kernel
theorem dX8_alongChain_24 : decode cX8_alongChain 24 = .ok (.iconst 0, 1) := by decide +kernel
theorem dX8_alongChain_25 : decode cX8_alongChain 25 = .ok (.istore 6, 2) := by decide +kernel
theorem dX8_alongChain_27 : decode cX8_alongChain 27 = .ok (.iload 6, 2) := by decide +kernel
theorem dX8_alongChain_29 : decode cX8_alongChain 29 = .ok (.bipush 60, 2) := by decide +kernel
theorem dX8_alongChain_31 : decode cX8_alongChain 31 = .ok (.if_icmp .ge 58, 3) := by decide +kernel
theorem dX8_alongChain_34 : decode cX8_alongChain 34 = .ok (.iload 5, 2) := by decide +kernel
theorem dX8_alongChain_36 : decode cX8_alongChain 36 = .ok (.ifCond .lt 53, 3) := by decide +kernel
theorem dX8_alongChain_39 : decode cX8_alongChain 39 = .ok (.lload_n 3, 1) := by decide +kernel
theorem dX8_alongChain_40 : decode cX8_alongChain 40 = .ok (.aload_n 2, 1) := by decide +kernel
theorem dX8_alongChain_41 : decode cX8_alongChain 41 = .ok (.iload 5, 2) := by decide +kernel
theorem dX8_alongChain_43 : decode cX8_alongChain 43 = .ok (.iconst 5, 1) := by decide +kernel
theorem dX8_alongChain_44 : decode cX8_alongChain 44 = .ok (.invokevirtual 121, 3) := by decide +kernel
theorem dX8_alongChain_47 : decode cX8_alongChain 47 = .ok (.i2l, 1) := by decide +kernel
theorem dX8_alongChain_48 : decode cX8_alongChain 48 = .ok (.ladd, 1) := by decide +kernel
theorem dX8_alongChain_49 : decode cX8_alongChain 49 = .ok (.lstore_n 3, 1) := by decide +kernel
theorem dX8_alongChain_50 : decode cX8_alongChain 50 = .ok (.lload_n 3, 1) := by decide +kernel
theorem dX8_alongChain_51 : decode cX8_alongChain 51 = .ok (.aload_n 2, 1) := by decide +kernel
theorem dX8_alongChain_52 : decode cX8_alongChain 52 = .ok (.iload 5, 2) := by decide +kernel
theorem dX8_alongChain_54 : decode cX8_alongChain 54 = .ok (.bipush 7, 2) := by decide +kernel
theorem dX8_alongChain_56 : decode cX8_alongChain 56 = .ok (.invokevirtual 121, 3) := by decide +kernel
theorem dX8_alongChain_59 : decode cX8_alongChain 59 = .ok (.i2l, 1) := by decide +kernel
theorem dX8_alongChain_60 : decode cX8_alongChain 60 = .ok (.ladd, 1) := by decide +kernel
theorem dX8_alongChain_61 : decode cX8_alongChain 61 = .ok (.lstore_n 3, 1) := by decide +kernel
theorem dX8_alongChain_62 : decode cX8_alongChain 62 = .ok (.lload_n 3, 1) := by decide +kernel
theorem dX8_alongChain_63 : decode cX8_alongChain 63 = .ok (.aload_n 2, 1) := by decide +kernel
theorem dX8_alongChain_64 : decode cX8_alongChain 64 = .ok (.iload 5, 2) := by decide +kernel
theorem dX8_alongChain_66 : decode cX8_alongChain 66 = .ok (.bipush 9, 2) := by decide +kernel
theorem dX8_alongChain_68 : decode cX8_alongChain 68 = .ok (.invokevirtual 121, 3) := by decide +kernel
theorem dX8_alongChain_71 : decode cX8_alongChain 71 = .ok (.i2l, 1) := by decide +kernel
theorem dX8_alongChain_72 : decode cX8_alongChain 72 = .ok (.ladd, 1) := by decide +kernel
theorem dX8_alongChain_73 : decode cX8_alongChain 73 = .ok (.lstore_n 3, 1) := by decide +kernel
theorem dX8_alongChain_74 : decode cX8_alongChain 74 = .ok (.aload_n 2, 1) := by decide +kernel
theorem dX8_alongChain_75 : decode cX8_alongChain 75 = .ok (.iload 5, 2) := by decide +kernel
theorem dX8_alongChain_77 : decode cX8_alongChain 77 = .ok (.iconst 2, 1) := by decide +kernel
theorem dX8_alongChain_78 : decode cX8_alongChain 78 = .ok (.invokevirtual 121, 3) := by decide +kernel
theorem dX8_alongChain_81 : decode cX8_alongChain 81 = .ok (.istore 5, 2) := by decide +kernel
theorem dX8_alongChain_83 : decode cX8_alongChain 83 = .ok (.iinc 6 1, 3) := by decide +kernel
theorem dX8_alongChain_86 : decode cX8_alongChain 86 = .ok (.goto (-59), 3) := by decide +kernel
theorem dX8_alongChain_89 : decode cX8_alongChain 89 = .ok (.lload_n 3, 1) := by decide +kernel
theorem dX8_alongChain_90 : decode cX8_alongChain 90 = .ok (.lreturn, 1) := by decide +kernel
theorem dX8_chain_0 : decode cX8_chain 0 = .ok (.aload_n 0, 1) := by decide +kernel
theorem dX8_chain_1 : decode cX8_chain 1 = .ok (.getfield 61, 3) := by decide +kernel
theorem dX8_chain_4 : decode cX8_chain 4 = .ok (.getfield 135, 3) := by decide +kernel
theorem dX8_chain_7 : decode cX8_chain 7 = .ok (.iload_n 1, 1) := by decide +kernel
theorem dX8_chain_8 : decode cX8_chain 8 = .ok (.invokestatic 106, 3) := by decide +kernel
theorem dX8_chain_11 : decode cX8_chain 11 = .ok (.iload_n 2, 1) := by decide +kernel
theorem dX8_chain_12 : decode cX8_chain 12 = .ok (.ifCond .ge 7, 3) := by decide +kernel
theorem dX8_chain_15 : decode cX8_chain 15 = .ok (.iconst (-1), 1) := by decide +kernel
theorem dX8_chain_16 : decode cX8_chain 16 = .ok (.goto 4, 3) := by decide +kernel
theorem dX8_chain_19 : decode cX8_chain 19 = .ok (.iload_n 1, 1) := by decide +kernel
theorem dX8_chain_20 : decode cX8_chain 20 = .ok (.istore_n 3, 1) := by decide +kernel
theorem dX8_chain_21 : decode cX8_chain 21 = .ok (.iconst 0, 1) := by decide +kernel
theorem dX8_chain_22 : decode cX8_chain 22 = .ok (.istore 4, 2) := by decide +kernel
theorem dX8_chain_24 : decode cX8_chain 24 = .ok (.iload 4, 2) := by decide +kernel
theorem dX8_chain_26 : decode cX8_chain 26 = .ok (.iload_n 2, 1) := by decide +kernel
theorem dX8_chain_27 : decode cX8_chain 27 = .ok (.if_icmp .ge 26, 3) := by decide +kernel
theorem dX8_chain_30 : decode cX8_chain 30 = .ok (.iload_n 3, 1) := by decide +kernel
theorem dX8_chain_31 : decode cX8_chain 31 = .ok (.ifCond .lt 22, 3) := by decide +kernel
theorem dX8_chain_34 : decode cX8_chain 34 = .ok (.aload_n 0, 1) := by decide +kernel
theorem dX8_chain_35 : decode cX8_chain 35 = .ok (.getfield 61, 3) := by decide +kernel
theorem dX8_chain_38 : decode cX8_chain 38 = .ok (.getfield 135, 3) := by decide +kernel
theorem dX8_chain_41 : decode cX8_chain 41 = .ok (.iload_n 3, 1) := by decide +kernel
theorem dX8_chain_42 : decode cX8_chain 42 = .ok (.iconst 2, 1) := by decide +kernel
theorem dX8_chain_43 : decode cX8_chain 43 = .ok (.invokevirtual 121, 3) := by decide +kernel
theorem dX8_chain_46 : decode cX8_chain 46 = .ok (.istore_n 3, 1) := by decide +kernel
theorem dX8_chain_47 : decode cX8_chain 47 = .ok (.iinc 4 1, 3) := by decide +kernel
theorem dX8_chain_50 : decode cX8_chain 50 = .ok (.goto (-26), 3) := by decide +kernel
theorem dX8_chain_53 : decode cX8_chain 53 = .ok (.iload_n 3, 1) := by decide +kernel
theorem dX8_chain_54 : decode cX8_chain 54 = .ok (.ifCond .ge 13, 3) := by decide +kernel
theorem dX8_chain_57 : decode cX8_chain 57 = .ok (.new 173, 3) := by decide +kernel
theorem dX8_chain_60 : decode cX8_chain 60 = .ok (.dup, 1) := by decide +kernel
theorem dX8_chain_61 : decode cX8_chain 61 = .ok (.ldc 218, 2) := by decide +kernel
theorem dX8_chain_63 : decode cX8_chain 63 = .ok (.invokespecial 177, 3) := by decide +kernel
theorem dX8_chain_66 : decode cX8_chain 66 = .ok (.athrow, 1) := by decide +kernel
theorem dX8_chain_67 : decode cX8_chain 67 = .ok (.iload_n 3, 1) := by decide +kernel
theorem dX8_chain_68 : decode cX8_chain 68 = .ok (.ireturn, 1) := by decide +kernel
theorem dX8_cause_0 : decode cX8_cause 0 = .ok (.aload_n 0, 1) := by decide +kernel
theorem dX8_cause_1 : decode cX8_cause 1 = .ok (.getfield 61, 3) := by decide +kernel
theorem dX8_cause_4 : decode cX8_cause 4 = .ok (.getfield 135, 3) := by decide +kernel
theorem dX8_cause_7 : decode cX8_cause 7 = .ok (.iload_n 1, 1) := by decide +kernel
theorem dX8_cause_8 : decode cX8_cause 8 = .ok (.invokestatic 106, 3) := by decide +kernel
theorem dX8_cause_11 : decode cX8_cause 11 = .ok (.aload_n 0, 1) := by decide +kernel
theorem dX8_cause_12 : decode cX8_cause 12 = .ok (.getfield 64, 3) := by decide +kernel
theorem dX8_cause_15 : decode cX8_cause 15 = .ok (.iload_n 1, 1) := by decide +kernel
theorem dX8_cause_16 : decode cX8_cause 16 = .ok (.invokevirtual 220, 3) := by decide +kernel
theorem dX8_cause_19 : decode cX8_cause 19 = .ok (.istore_n 2, 1) := by decide +kernel
theorem dX8_cause_20 : decode cX8_cause 20 = .ok (.iload_n 2, 1) := by decide +kernel
theorem dX8_cause_21 : decode cX8_cause 21 = .ok (.ifCond .ge 13, 3) := by decide +kernel
theorem dX8_cause_24 : decode cX8_cause 24 = .ok (.new 173, 3) := by decide +kernel
theorem dX8_cause_27 : decode cX8_cause 27 = .ok (.dup, 1) := by decide +kernel
theorem dX8_cause_28 : decode cX8_cause 28 = .ok (.ldc 223, 2) := by decide +kernel
theorem dX8_cause_30 : decode cX8_cause 30 = .ok (.invokespecial 177, 3) := by decide +kernel
theorem dX8_cause_33 : decode cX8_cause 33 = .ok (.athrow, 1) := by decide +kernel
theorem dX8_cause_34 : decode cX8_cause 34 = .ok (.iload_n 2, 1) := by decide +kernel
theorem dX8_cause_35 : decode cX8_cause 35 = .ok (.ireturn, 1) := by decide +kernel
theorem dX8_recall_0 : decode cX8_recall 0 = .ok (.aload_n 0, 1) := by decide +kernel
theorem dX8_recall_1 : decode cX8_recall 1 = .ok (.getfield 84, 3) := by decide +kernel
theorem dX8_recall_4 : decode cX8_recall 4 = .ok (.iload_n 1, 1) := by decide +kernel
theorem dX8_recall_5 : decode cX8_recall 5 = .ok (.iload_n 2, 1) := by decide +kernel
theorem dX8_recall_6 : decode cX8_recall 6 = .ok (.iload_n 3, 1) := by decide +kernel
theorem dX8_recall_7 : decode cX8_recall 7 = .ok (.invokevirtual 225, 3) := by decide +kernel
theorem dX8_recall_10 : decode cX8_recall 10 = .ok (.invokestatic 92, 3) := by decide +kernel
theorem dX8_recall_13 : decode cX8_recall 13 = .ok (.aload_n 0, 1) := by decide +kernel
theorem dX8_recall_14 : decode cX8_recall 14 = .ok (.getfield 10, 3) := by decide +kernel
theorem dX8_recall_17 : decode cX8_recall 17 = .ok (.aload_n 0, 1) := by decide +kernel
theorem dX8_recall_18 : decode cX8_recall 18 = .ok (.getfield 61, 3) := by decide +kernel
theorem dX8_recall_21 : decode cX8_recall 21 = .ok (.invokevirtual 96, 3) := by decide +kernel
theorem dX8_recall_24 : decode cX8_recall 24 = .ok (.aload_n 0, 1) := by decide +kernel
theorem dX8_recall_25 : decode cX8_recall 25 = .ok (.getfield 84, 3) := by decide +kernel
theorem dX8_recall_28 : decode cX8_recall 28 = .ok (.iload_n 1, 1) := by decide +kernel
theorem dX8_recall_29 : decode cX8_recall 29 = .ok (.iload_n 2, 1) := by decide +kernel
theorem dX8_recall_30 : decode cX8_recall 30 = .ok (.iload_n 3, 1) := by decide +kernel
theorem dX8_recall_31 : decode cX8_recall 31 = .ok (.invokevirtual 228, 3) := by decide +kernel
theorem dX8_recall_34 : decode cX8_recall 34 = .ok (.ireturn, 1) := by decide +kernel
theorem dX8_lift_0 : decode cX8_lift 0 = .ok (.aload_n 0, 1) := by decide +kernel
theorem dX8_lift_1 : decode cX8_lift 1 = .ok (.getfield 61, 3) := by decide +kernel
theorem dX8_lift_4 : decode cX8_lift 4 = .ok (.getfield 231, 3) := by decide +kernel
theorem dX8_lift_7 : decode cX8_lift 7 = .ok (.iload_n 1, 1) := by decide +kernel
theorem dX8_lift_8 : decode cX8_lift 8 = .ok (.invokestatic 106, 3) := by decide +kernel
theorem dX8_lift_11 : decode cX8_lift 11 = .ok (.aload_n 0, 1) := by decide +kernel
theorem dX8_lift_12 : decode cX8_lift 12 = .ok (.getfield 10, 3) := by decide +kernel
theorem dX8_lift_15 : decode cX8_lift 15 = .ok (.aload_n 0, 1) := by decide +kernel
theorem dX8_lift_16 : decode cX8_lift 16 = .ok (.getfield 61, 3) := by decide +kernel
theorem dX8_lift_19 : decode cX8_lift 19 = .ok (.invokevirtual 96, 3) := by decide +kernel
theorem dX8_lift_22 : decode cX8_lift 22 = .ok (.aload_n 0, 1) := by decide +kernel
theorem dX8_lift_23 : decode cX8_lift 23 = .ok (.getfield 84, 3) := by decide +kernel
theorem dX8_lift_26 : decode cX8_lift 26 = .ok (.iload_n 1, 1) := by decide +kernel
theorem dX8_lift_27 : decode cX8_lift 27 = .ok (.invokevirtual 234, 3) := by decide +kernel
theorem dX8_lift_30 : decode cX8_lift 30 = .ok (.ireturn, 1) := by decide +kernel
theorem dX8_recalled_0 : decode cX8_recalled 0 = .ok (.aload_n 0, 1) := by decide +kernel
theorem dX8_recalled_1 : decode cX8_recalled 1 = .ok (.getfield 61, 3) := by decide +kernel
theorem dX8_recalled_4 : decode cX8_recalled 4 = .ok (.getfield 231, 3) := by decide +kernel
theorem dX8_recalled_7 : decode cX8_recalled 7 = .ok (.iload_n 1, 1) := by decide +kernel
theorem dX8_recalled_8 : decode cX8_recalled 8 = .ok (.invokestatic 106, 3) := by decide +kernel
theorem dX8_recalled_11 : decode cX8_recalled 11 = .ok (.iload_n 2, 1) := by decide +kernel
theorem dX8_recalled_12 : decode cX8_recalled 12 = .ok (.iconst 3, 1) := by decide +kernel
theorem dX8_recalled_13 : decode cX8_recalled 13 = .ok (.invokestatic 131, 3) := by decide +kernel
theorem dX8_recalled_16 : decode cX8_recalled 16 = .ok (.iload_n 2, 1) := by decide +kernel
theorem dX8_recalled_17 : decode cX8_recalled 17 = .ok (.iconst 2, 1) := by decide +kernel
theorem dX8_recalled_18 : decode cX8_recalled 18 = .ok (.if_icmp .gt 18, 3) := by decide +kernel
theorem dX8_recalled_21 : decode cX8_recalled 21 = .ok (.aload_n 0, 1) := by decide +kernel
theorem dX8_recalled_22 : decode cX8_recalled 22 = .ok (.getfield 61, 3) := by decide +kernel
theorem dX8_recalled_25 : decode cX8_recalled 25 = .ok (.getfield 231, 3) := by decide +kernel
theorem dX8_recalled_28 : decode cX8_recalled 28 = .ok (.iload_n 1, 1) := by decide +kernel
theorem dX8_recalled_29 : decode cX8_recalled 29 = .ok (.iload_n 2, 1) := by decide +kernel
theorem dX8_recalled_30 : decode cX8_recalled 30 = .ok (.invokevirtual 121, 3) := by decide +kernel
theorem dX8_recalled_33 : decode cX8_recalled 33 = .ok (.goto 11, 3) := by decide +kernel
theorem dX8_recalled_36 : decode cX8_recalled 36 = .ok (.aload_n 0, 1) := by decide +kernel
theorem dX8_recalled_37 : decode cX8_recalled 37 = .ok (.getfield 64, 3) := by decide +kernel
theorem dX8_recalled_40 : decode cX8_recalled 40 = .ok (.iload_n 1, 1) := by decide +kernel
theorem dX8_recalled_41 : decode cX8_recalled 41 = .ok (.invokevirtual 237, 3) := by decide +kernel
theorem dX8_recalled_44 : decode cX8_recalled 44 = .ok (.ireturn, 1) := by decide +kernel
theorem dX8_reach_0 : decode cX8_reach 0 = .ok (.aload_n 0, 1) := by decide +kernel
theorem dX8_reach_1 : decode cX8_reach 1 = .ok (.getfield 61, 3) := by decide +kernel
theorem dX8_reach_4 : decode cX8_reach 4 = .ok (.getfield 102, 3) := by decide +kernel
theorem dX8_reach_7 : decode cX8_reach 7 = .ok (.iload_n 1, 1) := by decide +kernel
theorem dX8_reach_8 : decode cX8_reach 8 = .ok (.invokestatic 106, 3) := by decide +kernel
theorem dX8_reach_11 : decode cX8_reach 11 = .ok (.iload_n 2, 1) := by decide +kernel
theorem dX8_reach_12 : decode cX8_reach 12 = .ok (.iload_n 3, 1) := by decide +kernel
theorem dX8_reach_13 : decode cX8_reach 13 = .ok (.invokestatic 240, 3) := by decide +kernel
theorem dX8_reach_16 : decode cX8_reach 16 = .ok (.ifCond .ne 13, 3) := by decide +kernel
theorem dX8_reach_19 : decode cX8_reach 19 = .ok (.new 114, 3) := by decide +kernel
theorem dX8_reach_22 : decode cX8_reach 22 = .ok (.dup, 1) := by decide +kernel
theorem dX8_reach_23 : decode cX8_reach 23 = .ok (.ldc 243, 2) := by decide +kernel
theorem dX8_reach_25 : decode cX8_reach 25 = .ok (.invokespecial 118, 3) := by decide +kernel
theorem dX8_reach_28 : decode cX8_reach 28 = .ok (.athrow, 1) := by decide +kernel
theorem dX8_reach_29 : decode cX8_reach 29 = .ok (.aload_n 0, 1) := by decide +kernel
theorem dX8_reach_30 : decode cX8_reach 30 = .ok (.getfield 64, 3) := by decide +kernel
theorem dX8_reach_33 : decode cX8_reach 33 = .ok (.iload_n 1, 1) := by decide +kernel
theorem dX8_reach_34 : decode cX8_reach 34 = .ok (.iload_n 2, 1) := by decide +kernel
theorem dX8_reach_35 : decode cX8_reach 35 = .ok (.iload_n 3, 1) := by decide +kernel
theorem dX8_reach_36 : decode cX8_reach 36 = .ok (.invokevirtual 245, 3) := by decide +kernel
theorem dX8_reach_39 : decode cX8_reach 39 = .ok (.ireturn, 1) := by decide +kernel
theorem dX8_measure_0 : decode cX8_measure 0 = .ok (.aload_n 0, 1) := by decide +kernel
theorem dX8_measure_1 : decode cX8_measure 1 = .ok (.getfield 84, 3) := by decide +kernel
theorem dX8_measure_4 : decode cX8_measure 4 = .ok (.iload_n 1, 1) := by decide +kernel
theorem dX8_measure_5 : decode cX8_measure 5 = .ok (.iload_n 2, 1) := by decide +kernel
theorem dX8_measure_6 : decode cX8_measure 6 = .ok (.iload_n 3, 1) := by decide +kernel
theorem dX8_measure_7 : decode cX8_measure 7 = .ok (.invokevirtual 248, 3) := by decide +kernel
theorem dX8_measure_10 : decode cX8_measure 10 = .ok (.invokestatic 92, 3) := by decide +kernel
theorem dX8_measure_13 : decode cX8_measure 13 = .ok (.aload_n 0, 1) := by decide +kernel
theorem dX8_measure_14 : decode cX8_measure 14 = .ok (.aload_n 0, 1) := by decide +kernel
theorem dX8_measure_15 : decode cX8_measure 15 = .ok (.getfield 77, 3) := by decide +kernel
theorem dX8_measure_18 : decode cX8_measure 18 = .ok (.iload_n 1, 1) := by decide +kernel
theorem dX8_measure_19 : decode cX8_measure 19 = .ok (.invokevirtual 251, 3) := by decide +kernel
theorem dX8_measure_22 : decode cX8_measure 22 = .ok (.invokevirtual 192, 3) := by decide +kernel
theorem dX8_measure_25 : decode cX8_measure 25 = .ok (.aload_n 0, 1) := by decide +kernel
theorem dX8_measure_26 : decode cX8_measure 26 = .ok (.getfield 10, 3) := by decide +kernel
theorem dX8_measure_29 : decode cX8_measure 29 = .ok (.aload_n 0, 1) := by decide +kernel
theorem dX8_measure_30 : decode cX8_measure 30 = .ok (.getfield 61, 3) := by decide +kernel
theorem dX8_measure_33 : decode cX8_measure 33 = .ok (.invokevirtual 96, 3) := by decide +kernel
theorem dX8_measure_36 : decode cX8_measure 36 = .ok (.aload_n 0, 1) := by decide +kernel
theorem dX8_measure_37 : decode cX8_measure 37 = .ok (.getfield 84, 3) := by decide +kernel
theorem dX8_measure_40 : decode cX8_measure 40 = .ok (.iload_n 1, 1) := by decide +kernel
theorem dX8_measure_41 : decode cX8_measure 41 = .ok (.iload_n 2, 1) := by decide +kernel
theorem dX8_measure_42 : decode cX8_measure 42 = .ok (.iload_n 3, 1) := by decide +kernel
theorem dX8_measure_43 : decode cX8_measure 43 = .ok (.invokevirtual 254, 3) := by decide +kernel
theorem dX8_measure_46 : decode cX8_measure 46 = .ok (.ireturn, 1) := by decide +kernel
theorem dX8_measurement_0 : decode cX8_measurement 0 = .ok (.aload_n 0, 1) := by decide +kernel
theorem dX8_measurement_1 : decode cX8_measurement 1 = .ok (.getfield 61, 3) := by decide +kernel
theorem dX8_measurement_4 : decode cX8_measurement 4 = .ok (.getfield 257, 3) := by decide +kernel
theorem dX8_measurement_7 : decode cX8_measurement 7 = .ok (.iload_n 1, 1) := by decide +kernel
theorem dX8_measurement_8 : decode cX8_measurement 8 = .ok (.invokestatic 106, 3) := by decide +kernel
theorem dX8_measurement_11 : decode cX8_measurement 11 = .ok (.iload_n 2, 1) := by decide +kernel
theorem dX8_measurement_12 : decode cX8_measurement 12 = .ok (.bipush 7, 2) := by decide +kernel
theorem dX8_measurement_14 : decode cX8_measurement 14 = .ok (.invokestatic 131, 3) := by decide +kernel
theorem dX8_measurement_17 : decode cX8_measurement 17 = .ok (.iload_n 2, 1) := by decide +kernel
theorem dX8_measurement_18 : decode cX8_measurement 18 = .ok (.bipush 6, 2) := by decide +kernel
theorem dX8_measurement_20 : decode cX8_measurement 20 = .ok (.if_icmp .gt 16, 3) := by decide +kernel
theorem dX8_measurement_23 : decode cX8_measurement 23 = .ok (.aload_n 0, 1) := by decide +kernel
theorem dX8_measurement_24 : decode cX8_measurement 24 = .ok (.getfield 61, 3) := by decide +kernel
theorem dX8_measurement_27 : decode cX8_measurement 27 = .ok (.getfield 257, 3) := by decide +kernel
theorem dX8_measurement_30 : decode cX8_measurement 30 = .ok (.iload_n 1, 1) := by decide +kernel
theorem dX8_measurement_31 : decode cX8_measurement 31 = .ok (.iload_n 2, 1) := by decide +kernel
theorem dX8_measurement_32 : decode cX8_measurement 32 = .ok (.invokevirtual 121, 3) := by decide +kernel
theorem dX8_measurement_35 : decode cX8_measurement 35 = .ok (.ireturn, 1) := by decide +kernel
theorem dX8_measurement_36 : decode cX8_measurement 36 = .ok (.aload_n 0, 1) := by decide +kernel
theorem dX8_measurement_37 : decode cX8_measurement 37 = .ok (.iload_n 1, 1) := by decide +kernel
theorem dX8_measurement_38 : decode cX8_measurement 38 = .ok (.invokevirtual 260, 3) := by decide +kernel
theorem dX8_measurement_41 : decode cX8_measurement 41 = .ok (.ifCond .eq 7, 3) := by decide +kernel
theorem dX8_measurement_44 : decode cX8_measurement 44 = .ok (.iconst 1, 1) := by decide +kernel
theorem dX8_measurement_45 : decode cX8_measurement 45 = .ok (.goto 4, 3) := by decide +kernel
theorem dX8_measurement_48 : decode cX8_measurement 48 = .ok (.iconst 0, 1) := by decide +kernel
theorem dX8_measurement_49 : decode cX8_measurement 49 = .ok (.ireturn, 1) := by decide +kernel
theorem dX8_again_0 : decode cX8_again 0 = .ok (.aload_n 0, 1) := by decide +kernel
theorem dX8_again_1 : decode cX8_again 1 = .ok (.getfield 61, 3) := by decide +kernel
theorem dX8_again_4 : decode cX8_again 4 = .ok (.getfield 257, 3) := by decide +kernel
theorem dX8_again_7 : decode cX8_again 7 = .ok (.iload_n 1, 1) := by decide +kernel
theorem dX8_again_8 : decode cX8_again 8 = .ok (.invokestatic 106, 3) := by decide +kernel
theorem dX8_again_11 : decode cX8_again 11 = .ok (.aload_n 0, 1) := by decide +kernel
theorem dX8_again_12 : decode cX8_again 12 = .ok (.getfield 61, 3) := by decide +kernel
theorem dX8_again_15 : decode cX8_again 15 = .ok (.getfield 257, 3) := by decide +kernel
theorem dX8_again_18 : decode cX8_again 18 = .ok (.iload_n 1, 1) := by decide +kernel
theorem dX8_again_19 : decode cX8_again 19 = .ok (.iconst 0, 1) := by decide +kernel
theorem dX8_again_20 : decode cX8_again 20 = .ok (.invokevirtual 121, 3) := by decide +kernel
theorem dX8_again_23 : decode cX8_again 23 = .ok (.istore_n 2, 1) := by decide +kernel
theorem dX8_again_24 : decode cX8_again 24 = .ok (.aload_n 0, 1) := by decide +kernel
theorem dX8_again_25 : decode cX8_again 25 = .ok (.getfield 61, 3) := by decide +kernel
theorem dX8_again_28 : decode cX8_again 28 = .ok (.getfield 257, 3) := by decide +kernel
theorem dX8_again_31 : decode cX8_again 31 = .ok (.iload_n 1, 1) := by decide +kernel
theorem dX8_again_32 : decode cX8_again 32 = .ok (.iconst 2, 1) := by decide +kernel
theorem dX8_again_33 : decode cX8_again 33 = .ok (.invokevirtual 121, 3) := by decide +kernel
theorem dX8_again_36 : decode cX8_again 36 = .ok (.istore_n 3, 1) := by decide +kernel
theorem dX8_again_37 : decode cX8_again 37 = .ok (.aload_n 0, 1) := by decide +kernel
theorem dX8_again_38 : decode cX8_again 38 = .ok (.getfield 64, 3) := by decide +kernel
theorem dX8_again_41 : decode cX8_again 41 = .ok (.iload_n 2, 1) := by decide +kernel
theorem dX8_again_42 : decode cX8_again 42 = .ok (.aload_n 0, 1) := by decide +kernel
theorem dX8_again_43 : decode cX8_again 43 = .ok (.getfield 61, 3) := by decide +kernel
theorem dX8_again_46 : decode cX8_again 46 = .ok (.getfield 135, 3) := by decide +kernel
theorem dX8_again_49 : decode cX8_again 49 = .ok (.invokevirtual 178, 3) := by decide +kernel
theorem dX8_again_52 : decode cX8_again 52 = .ok (.iload_n 3, 1) := by decide +kernel
theorem dX8_again_53 : decode cX8_again 53 = .ok (.invokevirtual 263, 3) := by decide +kernel
theorem dX8_again_56 : decode cX8_again 56 = .ok (.istore 4, 2) := by decide +kernel
theorem dX8_again_58 : decode cX8_again 58 = .ok (.iload 4, 2) := by decide +kernel
theorem dX8_again_60 : decode cX8_again 60 = .ok (.ifCond .ge 14, 3) := by decide +kernel
theorem dX8_again_63 : decode cX8_again 63 = .ok (.new 173, 3) := by decide +kernel
theorem dX8_again_66 : decode cX8_again 66 = .ok (.dup, 1) := by decide +kernel
theorem dX8_again_67 : decode cX8_again 67 = .ok (.ldc_w 266, 3) := by decide +kernel
theorem dX8_again_70 : decode cX8_again 70 = .ok (.invokespecial 177, 3) := by decide +kernel
theorem dX8_again_73 : decode cX8_again 73 = .ok (.athrow, 1) := by decide +kernel
theorem dX8_again_74 : decode cX8_again 74 = .ok (.aload_n 0, 1) := by decide +kernel
theorem dX8_again_75 : decode cX8_again 75 = .ok (.getfield 61, 3) := by decide +kernel
theorem dX8_again_78 : decode cX8_again 78 = .ok (.getfield 257, 3) := by decide +kernel
theorem dX8_again_81 : decode cX8_again 81 = .ok (.iload_n 1, 1) := by decide +kernel
theorem dX8_again_82 : decode cX8_again 82 = .ok (.iconst 3, 1) := by decide +kernel
theorem dX8_again_83 : decode cX8_again 83 = .ok (.invokevirtual 121, 3) := by decide +kernel
theorem dX8_again_86 : decode cX8_again 86 = .ok (.istore 5, 2) := by decide +kernel
theorem dX8_again_88 : decode cX8_again 88 = .ok (.aload_n 0, 1) := by decide +kernel
theorem dX8_again_89 : decode cX8_again 89 = .ok (.getfield 61, 3) := by decide +kernel
theorem dX8_again_92 : decode cX8_again 92 = .ok (.getfield 257, 3) := by decide +kernel
theorem dX8_again_95 : decode cX8_again 95 = .ok (.iload_n 1, 1) := by decide +kernel
theorem dX8_again_96 : decode cX8_again 96 = .ok (.iconst 4, 1) := by decide +kernel
theorem dX8_again_97 : decode cX8_again 97 = .ok (.invokevirtual 121, 3) := by decide +kernel
theorem dX8_again_100 : decode cX8_again 100 = .ok (.istore 6, 2) := by decide +kernel
theorem dX8_again_102 : decode cX8_again 102 = .ok (.aload_n 0, 1) := by decide +kernel
theorem dX8_again_103 : decode cX8_again 103 = .ok (.getfield 84, 3) := by decide +kernel
theorem dX8_again_106 : decode cX8_again 106 = .ok (.iload 4, 2) := by decide +kernel
theorem dX8_again_108 : decode cX8_again 108 = .ok (.iload 5, 2) := by decide +kernel
theorem dX8_again_110 : decode cX8_again 110 = .ok (.iload 6, 2) := by decide +kernel
theorem dX8_again_112 : decode cX8_again 112 = .ok (.aload_n 0, 1) := by decide +kernel
theorem dX8_again_113 : decode cX8_again 113 = .ok (.getfield 84, 3) := by decide +kernel
theorem dX8_again_116 : decode cX8_again 116 = .ok (.iload 4, 2) := by decide +kernel
theorem dX8_again_118 : decode cX8_again 118 = .ok (.iload_n 3, 1) := by decide +kernel
theorem dX8_again_119 : decode cX8_again 119 = .ok (.invokevirtual 268, 3) := by decide +kernel
theorem dX8_again_122 : decode cX8_again 122 = .ok (.invokevirtual 271, 3) := by decide +kernel
theorem dX8_again_125 : decode cX8_again 125 = .ok (.ireturn, 1) := by decide +kernel
theorem dX8_issue_0 : decode cX8_issue 0 = .ok (.aload_n 0, 1) := by decide +kernel
theorem dX8_issue_1 : decode cX8_issue 1 = .ok (.getfield 61, 3) := by decide +kernel
theorem dX8_issue_4 : decode cX8_issue 4 = .ok (.getfield 102, 3) := by decide +kernel
theorem dX8_issue_7 : decode cX8_issue 7 = .ok (.iload_n 1, 1) := by decide +kernel
theorem dX8_issue_8 : decode cX8_issue 8 = .ok (.invokestatic 106, 3) := by decide +kernel
theorem dX8_issue_11 : decode cX8_issue 11 = .ok (.aload_n 0, 1) := by decide +kernel
theorem dX8_issue_12 : decode cX8_issue 12 = .ok (.aload_n 0, 1) := by decide +kernel
theorem dX8_issue_13 : decode cX8_issue 13 = .ok (.getfield 77, 3) := by decide +kernel
theorem dX8_issue_16 : decode cX8_issue 16 = .ok (.iload_n 1, 1) := by decide +kernel
theorem dX8_issue_17 : decode cX8_issue 17 = .ok (.invokevirtual 274, 3) := by decide +kernel
theorem dX8_issue_20 : decode cX8_issue 20 = .ok (.invokevirtual 192, 3) := by decide +kernel
theorem dX8_issue_23 : decode cX8_issue 23 = .ok (.aload_n 0, 1) := by decide +kernel
theorem dX8_issue_24 : decode cX8_issue 24 = .ok (.getfield 10, 3) := by decide +kernel
theorem dX8_issue_27 : decode cX8_issue 27 = .ok (.aload_n 0, 1) := by decide +kernel
theorem dX8_issue_28 : decode cX8_issue 28 = .ok (.getfield 61, 3) := by decide +kernel
theorem dX8_issue_31 : decode cX8_issue 31 = .ok (.invokevirtual 96, 3) := by decide +kernel
theorem dX8_issue_34 : decode cX8_issue 34 = .ok (.aload_n 0, 1) := by decide +kernel
theorem dX8_issue_35 : decode cX8_issue 35 = .ok (.getfield 84, 3) := by decide +kernel
theorem dX8_issue_38 : decode cX8_issue 38 = .ok (.iload_n 1, 1) := by decide +kernel
theorem dX8_issue_39 : decode cX8_issue 39 = .ok (.invokevirtual 277, 3) := by decide +kernel
theorem dX8_issue_42 : decode cX8_issue 42 = .ok (.ireturn, 1) := by decide +kernel
theorem dX8_certificate_0 : decode cX8_certificate 0 = .ok (.aload_n 0, 1) := by decide +kernel
theorem dX8_certificate_1 : decode cX8_certificate 1 = .ok (.getfield 61, 3) := by decide +kernel
theorem dX8_certificate_4 : decode cX8_certificate 4 = .ok (.getfield 280, 3) := by decide +kernel
theorem dX8_certificate_7 : decode cX8_certificate 7 = .ok (.iload_n 1, 1) := by decide +kernel
theorem dX8_certificate_8 : decode cX8_certificate 8 = .ok (.invokestatic 106, 3) := by decide +kernel
theorem dX8_certificate_11 : decode cX8_certificate 11 = .ok (.iload_n 2, 1) := by decide +kernel
theorem dX8_certificate_12 : decode cX8_certificate 12 = .ok (.iconst 2, 1) := by decide +kernel
theorem dX8_certificate_13 : decode cX8_certificate 13 = .ok (.invokestatic 131, 3) := by decide +kernel
theorem dX8_certificate_16 : decode cX8_certificate 16 = .ok (.iload_n 2, 1) := by decide +kernel
theorem dX8_certificate_17 : decode cX8_certificate 17 = .ok (.iconst 1, 1) := by decide +kernel
theorem dX8_certificate_18 : decode cX8_certificate 18 = .ok (.if_icmp .gt 18, 3) := by decide +kernel
theorem dX8_certificate_21 : decode cX8_certificate 21 = .ok (.aload_n 0, 1) := by decide +kernel
theorem dX8_certificate_22 : decode cX8_certificate 22 = .ok (.getfield 61, 3) := by decide +kernel
theorem dX8_certificate_25 : decode cX8_certificate 25 = .ok (.getfield 280, 3) := by decide +kernel
theorem dX8_certificate_28 : decode cX8_certificate 28 = .ok (.iload_n 1, 1) := by decide +kernel
theorem dX8_certificate_29 : decode cX8_certificate 29 = .ok (.iload_n 2, 1) := by decide +kernel
theorem dX8_certificate_30 : decode cX8_certificate 30 = .ok (.invokevirtual 121, 3) := by decide +kernel
theorem dX8_certificate_33 : decode cX8_certificate 33 = .ok (.goto 8, 3) := by decide +kernel
theorem dX8_certificate_36 : decode cX8_certificate 36 = .ok (.aload_n 0, 1) := by decide +kernel
theorem dX8_certificate_37 : decode cX8_certificate 37 = .ok (.iload_n 1, 1) := by decide +kernel
theorem dX8_certificate_38 : decode cX8_certificate 38 = .ok (.invokevirtual 283, 3) := by decide +kernel
theorem dX8_certificate_41 : decode cX8_certificate 41 = .ok (.ireturn, 1) := by decide +kernel
theorem dX8_write_0 : decode cX8_write 0 = .ok (.aload_n 0, 1) := by decide +kernel
theorem dX8_write_1 : decode cX8_write 1 = .ok (.getfield 61, 3) := by decide +kernel
theorem dX8_write_4 : decode cX8_write 4 = .ok (.getfield 280, 3) := by decide +kernel
theorem dX8_write_7 : decode cX8_write 7 = .ok (.iload_n 1, 1) := by decide +kernel
theorem dX8_write_8 : decode cX8_write 8 = .ok (.invokestatic 106, 3) := by decide +kernel
theorem dX8_write_11 : decode cX8_write 11 = .ok (.aload_n 0, 1) := by decide +kernel
theorem dX8_write_12 : decode cX8_write 12 = .ok (.getfield 61, 3) := by decide +kernel
theorem dX8_write_15 : decode cX8_write 15 = .ok (.getfield 280, 3) := by decide +kernel
theorem dX8_write_18 : decode cX8_write 18 = .ok (.iload_n 1, 1) := by decide +kernel
theorem dX8_write_19 : decode cX8_write 19 = .ok (.iconst 0, 1) := by decide +kernel
theorem dX8_write_20 : decode cX8_write 20 = .ok (.invokevirtual 121, 3) := by decide +kernel
theorem dX8_write_23 : decode cX8_write 23 = .ok (.istore_n 2, 1) := by decide +kernel
theorem dX8_write_24 : decode cX8_write 24 = .ok (.aload_n 0, 1) := by decide +kernel
theorem dX8_write_25 : decode cX8_write 25 = .ok (.getfield 26, 3) := by decide +kernel
theorem dX8_write_28 : decode cX8_write 28 = .ok (.iconst 0, 1) := by decide +kernel
theorem dX8_write_29 : decode cX8_write 29 = .ok (.invokevirtual 286, 3) := by decide +kernel
theorem dX8_write_32 : decode cX8_write 32 = .ok (.aload_n 0, 1) := by decide +kernel
theorem dX8_write_33 : decode cX8_write 33 = .ok (.getfield 26, 3) := by decide +kernel
theorem dX8_write_36 : decode cX8_write 36 = .ok (.bipush 78, 2) := by decide +kernel
theorem dX8_write_38 : decode cX8_write 38 = .ok (.invokevirtual 289, 3) := by decide +kernel
theorem dX8_write_41 : decode cX8_write 41 = .ok (.iload_n 1, 1) := by decide +kernel
theorem dX8_write_42 : decode cX8_write 42 = .ok (.invokevirtual 293, 3) := by decide +kernel
theorem dX8_write_45 : decode cX8_write 45 = .ok (.pop, 1) := by decide +kernel
theorem dX8_write_46 : decode cX8_write 46 = .ok (.aload_n 0, 1) := by decide +kernel
theorem dX8_write_47 : decode cX8_write 47 = .ok (.getfield 26, 3) := by decide +kernel
theorem dX8_write_50 : decode cX8_write 50 = .ok (.ldc_w 296, 3) := by decide +kernel
theorem dX8_write_53 : decode cX8_write 53 = .ok (.invokevirtual 298, 3) := by decide +kernel
theorem dX8_write_56 : decode cX8_write 56 = .ok (.aload_n 0, 1) := by decide +kernel
theorem dX8_write_57 : decode cX8_write 57 = .ok (.getfield 61, 3) := by decide +kernel
theorem dX8_write_60 : decode cX8_write 60 = .ok (.getfield 135, 3) := by decide +kernel
theorem dX8_write_63 : decode cX8_write 63 = .ok (.iload_n 2, 1) := by decide +kernel
theorem dX8_write_64 : decode cX8_write 64 = .ok (.iconst 0, 1) := by decide +kernel
theorem dX8_write_65 : decode cX8_write 65 = .ok (.invokevirtual 121, 3) := by decide +kernel
theorem dX8_write_68 : decode cX8_write 68 = .ok (.invokevirtual 293, 3) := by decide +kernel
theorem dX8_write_71 : decode cX8_write 71 = .ok (.pop, 1) := by decide +kernel
theorem dX8_write_72 : decode cX8_write 72 = .ok (.aload_n 0, 1) := by decide +kernel
theorem dX8_write_73 : decode cX8_write 73 = .ok (.getfield 26, 3) := by decide +kernel
theorem dX8_write_76 : decode cX8_write 76 = .ok (.ldc_w 301, 3) := by decide +kernel
theorem dX8_write_79 : decode cX8_write 79 = .ok (.invokevirtual 298, 3) := by decide +kernel
theorem dX8_write_82 : decode cX8_write 82 = .ok (.aload_n 0, 1) := by decide +kernel
theorem dX8_write_83 : decode cX8_write 83 = .ok (.getfield 61, 3) := by decide +kernel
theorem dX8_write_86 : decode cX8_write 86 = .ok (.getfield 135, 3) := by decide +kernel
theorem dX8_write_89 : decode cX8_write 89 = .ok (.iload_n 2, 1) := by decide +kernel
theorem dX8_write_90 : decode cX8_write 90 = .ok (.iconst 3, 1) := by decide +kernel
theorem dX8_write_91 : decode cX8_write 91 = .ok (.invokevirtual 121, 3) := by decide +kernel
theorem dX8_write_94 : decode cX8_write 94 = .ok (.invokevirtual 293, 3) := by decide +kernel
theorem dX8_write_97 : decode cX8_write 97 = .ok (.pop, 1) := by decide +kernel
theorem dX8_write_98 : decode cX8_write 98 = .ok (.aload_n 0, 1) := by decide +kernel
theorem dX8_write_99 : decode cX8_write 99 = .ok (.getfield 26, 3) := by decide +kernel
theorem dX8_write_102 : decode cX8_write 102 = .ok (.ldc_w 303, 3) := by decide +kernel
theorem dX8_write_105 : decode cX8_write 105 = .ok (.invokevirtual 298, 3) := by decide +kernel
theorem dX8_write_108 : decode cX8_write 108 = .ok (.aload_n 0, 1) := by decide +kernel
theorem dX8_write_109 : decode cX8_write 109 = .ok (.getfield 61, 3) := by decide +kernel
theorem dX8_write_112 : decode cX8_write 112 = .ok (.getfield 135, 3) := by decide +kernel
theorem dX8_write_115 : decode cX8_write 115 = .ok (.iload_n 2, 1) := by decide +kernel
theorem dX8_write_116 : decode cX8_write 116 = .ok (.iconst 4, 1) := by decide +kernel
theorem dX8_write_117 : decode cX8_write 117 = .ok (.invokevirtual 121, 3) := by decide +kernel
theorem dX8_write_120 : decode cX8_write 120 = .ok (.invokevirtual 293, 3) := by decide +kernel
theorem dX8_write_123 : decode cX8_write 123 = .ok (.pop, 1) := by decide +kernel
theorem dX8_write_124 : decode cX8_write 124 = .ok (.aload_n 0, 1) := by decide +kernel
theorem dX8_write_125 : decode cX8_write 125 = .ok (.getfield 26, 3) := by decide +kernel
theorem dX8_write_128 : decode cX8_write 128 = .ok (.ldc_w 305, 3) := by decide +kernel
theorem dX8_write_131 : decode cX8_write 131 = .ok (.invokevirtual 298, 3) := by decide +kernel
theorem dX8_write_134 : decode cX8_write 134 = .ok (.aload_n 0, 1) := by decide +kernel
theorem dX8_write_135 : decode cX8_write 135 = .ok (.getfield 61, 3) := by decide +kernel
theorem dX8_write_138 : decode cX8_write 138 = .ok (.getfield 135, 3) := by decide +kernel
theorem dX8_write_141 : decode cX8_write 141 = .ok (.iload_n 2, 1) := by decide +kernel
theorem dX8_write_142 : decode cX8_write 142 = .ok (.bipush 6, 2) := by decide +kernel
theorem dX8_write_144 : decode cX8_write 144 = .ok (.invokevirtual 121, 3) := by decide +kernel
theorem dX8_write_147 : decode cX8_write 147 = .ok (.invokevirtual 293, 3) := by decide +kernel
theorem dX8_write_150 : decode cX8_write 150 = .ok (.pop, 1) := by decide +kernel
theorem dX8_write_151 : decode cX8_write 151 = .ok (.aload_n 0, 1) := by decide +kernel
theorem dX8_write_152 : decode cX8_write 152 = .ok (.getfield 26, 3) := by decide +kernel
theorem dX8_write_155 : decode cX8_write 155 = .ok (.ldc_w 307, 3) := by decide +kernel
theorem dX8_write_158 : decode cX8_write 158 = .ok (.invokevirtual 298, 3) := by decide +kernel
theorem dX8_write_161 : decode cX8_write 161 = .ok (.pop, 1) := by decide +kernel
theorem dX8_write_162 : decode cX8_write 162 = .ok (.aload_n 0, 1) := by decide +kernel
theorem dX8_write_163 : decode cX8_write 163 = .ok (.iload_n 2, 1) := by decide +kernel
theorem dX8_write_164 : decode cX8_write 164 = .ok (.invokevirtual 309, 3) := by decide +kernel
theorem dX8_write_167 : decode cX8_write 167 = .ok (.aload_n 0, 1) := by decide +kernel
theorem dX8_write_168 : decode cX8_write 168 = .ok (.getfield 26, 3) := by decide +kernel
theorem dX8_write_171 : decode cX8_write 171 = .ok (.invokevirtual 312, 3) := by decide +kernel
theorem dX8_write_174 : decode cX8_write 174 = .ok (.ireturn, 1) := by decide +kernel
theorem dX8_written_0 : decode cX8_written 0 = .ok (.iload_n 1, 1) := by decide +kernel
theorem dX8_written_1 : decode cX8_written 1 = .ok (.ifCond .lt 14, 3) := by decide +kernel
theorem dX8_written_4 : decode cX8_written 4 = .ok (.iload_n 1, 1) := by decide +kernel
theorem dX8_written_5 : decode cX8_written 5 = .ok (.aload_n 0, 1) := by decide +kernel
theorem dX8_written_6 : decode cX8_written 6 = .ok (.getfield 26, 3) := by decide +kernel
theorem dX8_written_9 : decode cX8_written 9 = .ok (.invokevirtual 312, 3) := by decide +kernel
theorem dX8_written_12 : decode cX8_written 12 = .ok (.if_icmp .lt 14, 3) := by decide +kernel
theorem dX8_written_15 : decode cX8_written 15 = .ok (.new 173, 3) := by decide +kernel
theorem dX8_written_18 : decode cX8_written 18 = .ok (.dup, 1) := by decide +kernel
theorem dX8_written_19 : decode cX8_written 19 = .ok (.ldc_w 315, 3) := by decide +kernel
theorem dX8_written_22 : decode cX8_written 22 = .ok (.invokespecial 177, 3) := by decide +kernel
theorem dX8_written_25 : decode cX8_written 25 = .ok (.athrow, 1) := by decide +kernel
theorem dX8_written_26 : decode cX8_written 26 = .ok (.aload_n 0, 1) := by decide +kernel
theorem dX8_written_27 : decode cX8_written 27 = .ok (.getfield 26, 3) := by decide +kernel
theorem dX8_written_30 : decode cX8_written 30 = .ok (.iload_n 1, 1) := by decide +kernel
theorem dX8_written_31 : decode cX8_written 31 = .ok (.invokevirtual 317, 3) := by decide +kernel
theorem dX8_written_34 : decode cX8_written 34 = .ok (.ireturn, 1) := by decide +kernel
theorem dX8_due_0 : decode cX8_due 0 = .ok (.aload_n 0, 1) := by decide +kernel
theorem dX8_due_1 : decode cX8_due 1 = .ok (.invokevirtual 321, 3) := by decide +kernel
theorem dX8_due_4 : decode cX8_due 4 = .ok (.iconst 0, 1) := by decide +kernel
theorem dX8_due_5 : decode cX8_due 5 = .ok (.istore_n 2, 1) := by decide +kernel
theorem dX8_due_6 : decode cX8_due 6 = .ok (.iload_n 2, 1) := by decide +kernel
theorem dX8_due_7 : decode cX8_due 7 = .ok (.aload_n 0, 1) := by decide +kernel
theorem dX8_due_8 : decode cX8_due 8 = .ok (.getfield 61, 3) := by decide +kernel
theorem dX8_due_11 : decode cX8_due 11 = .ok (.getfield 102, 3) := by decide +kernel
theorem dX8_due_14 : decode cX8_due 14 = .ok (.invokevirtual 178, 3) := by decide +kernel
theorem dX8_due_17 : decode cX8_due 17 = .ok (.if_icmp .ge 24, 3) := by decide +kernel
theorem dX8_due_20 : decode cX8_due 20 = .ok (.iload_n 1, 1) := by decide +kernel
theorem dX8_due_21 : decode cX8_due 21 = .ok (.ifCond .lt 14, 3) := by decide +kernel
theorem dX8_due_24 : decode cX8_due 24 = .ok (.aload_n 0, 1) := by decide +kernel
theorem dX8_due_25 : decode cX8_due 25 = .ok (.iload_n 2, 1) := by decide +kernel
theorem dX8_due_26 : decode cX8_due 26 = .ok (.invokevirtual 324, 3) := by decide +kernel
theorem dX8_due_29 : decode cX8_due 29 = .ok (.iload_n 1, 1) := by decide +kernel
theorem dX8_due_30 : decode cX8_due 30 = .ok (.if_icmp .ne 5, 3) := by decide +kernel
theorem dX8_due_33 : decode cX8_due 33 = .ok (.iload_n 2, 1) := by decide +kernel
theorem dX8_due_34 : decode cX8_due 34 = .ok (.ireturn, 1) := by decide +kernel
theorem dX8_due_35 : decode cX8_due 35 = .ok (.iinc 2 1, 3) := by decide +kernel
theorem dX8_due_38 : decode cX8_due 38 = .ok (.goto (-32), 3) := by decide +kernel
theorem dX8_due_41 : decode cX8_due 41 = .ok (.new 173, 3) := by decide +kernel
theorem dX8_due_44 : decode cX8_due 44 = .ok (.dup, 1) := by decide +kernel
theorem dX8_due_45 : decode cX8_due 45 = .ok (.ldc_w 327, 3) := by decide +kernel
theorem dX8_due_48 : decode cX8_due 48 = .ok (.invokespecial 177, 3) := by decide +kernel
theorem dX8_due_51 : decode cX8_due 51 = .ok (.athrow, 1) := by decide +kernel
theorem dX8_overdueWithin_0 : decode cX8_overdueWithin 0 = .ok (.iload_n 1, 1) := by decide +kernel
theorem dX8_overdueWithin_1 : decode cX8_overdueWithin 1 = .ok (.iconst 0, 1) := by decide +kernel
theorem dX8_overdueWithin_2 : decode cX8_overdueWithin 2 = .ok (.sipush 9999, 3) := by decide +kernel
theorem dX8_overdueWithin_5 : decode cX8_overdueWithin 5 = .ok (.invokestatic 329, 3) := by decide +kernel
theorem dX8_overdueWithin_8 : decode cX8_overdueWithin 8 = .ok (.ifCond .ne 14, 3) := by decide +kernel
theorem dX8_overdueWithin_11 : decode cX8_overdueWithin 11 = .ok (.new 114, 3) := by decide +kernel
theorem dX8_overdueWithin_14 : decode cX8_overdueWithin 14 = .ok (.dup, 1) := by decide +kernel
theorem dX8_overdueWithin_15 : decode cX8_overdueWithin 15 = .ok (.ldc_w 333, 3) := by decide +kernel
theorem dX8_overdueWithin_18 : decode cX8_overdueWithin 18 = .ok (.invokespecial 118, 3) := by decide +kernel
theorem dX8_overdueWithin_21 : decode cX8_overdueWithin 21 = .ok (.athrow, 1) := by decide +kernel
theorem dX8_overdueWithin_22 : decode cX8_overdueWithin 22 = .ok (.iconst 0, 1) := by decide +kernel
theorem dX8_overdueWithin_23 : decode cX8_overdueWithin 23 = .ok (.istore_n 2, 1) := by decide +kernel
theorem dX8_overdueWithin_24 : decode cX8_overdueWithin 24 = .ok (.iconst 0, 1) := by decide +kernel
theorem dX8_overdueWithin_25 : decode cX8_overdueWithin 25 = .ok (.istore_n 3, 1) := by decide +kernel
theorem dX8_overdueWithin_26 : decode cX8_overdueWithin 26 = .ok (.iload_n 3, 1) := by decide +kernel
theorem dX8_overdueWithin_27 : decode cX8_overdueWithin 27 = .ok (.aload_n 0, 1) := by decide +kernel
theorem dX8_overdueWithin_28 : decode cX8_overdueWithin 28 = .ok (.getfield 61, 3) := by decide +kernel
theorem dX8_overdueWithin_31 : decode cX8_overdueWithin 31 = .ok (.getfield 102, 3) := by decide +kernel
theorem dX8_overdueWithin_34 : decode cX8_overdueWithin 34 = .ok (.invokevirtual 178, 3) := by decide +kernel
theorem dX8_overdueWithin_37 : decode cX8_overdueWithin 37 = .ok (.if_icmp .ge 48, 3) := by decide +kernel
theorem dX8_overdueWithin_40 : decode cX8_overdueWithin 40 = .ok (.aload_n 0, 1) := by decide +kernel
theorem dX8_overdueWithin_41 : decode cX8_overdueWithin 41 = .ok (.getfield 64, 3) := by decide +kernel
theorem dX8_overdueWithin_44 : decode cX8_overdueWithin 44 = .ok (.iload_n 3, 1) := by decide +kernel
theorem dX8_overdueWithin_45 : decode cX8_overdueWithin 45 = .ok (.invokevirtual 141, 3) := by decide +kernel
theorem dX8_overdueWithin_48 : decode cX8_overdueWithin 48 = .ok (.istore 4, 2) := by decide +kernel
theorem dX8_overdueWithin_50 : decode cX8_overdueWithin 50 = .ok (.iload 4, 2) := by decide +kernel
theorem dX8_overdueWithin_52 : decode cX8_overdueWithin 52 = .ok (.ifCond .lt 27, 3) := by decide +kernel
theorem dX8_overdueWithin_55 : decode cX8_overdueWithin 55 = .ok (.aload_n 0, 1) := by decide +kernel
theorem dX8_overdueWithin_56 : decode cX8_overdueWithin 56 = .ok (.getfield 61, 3) := by decide +kernel
theorem dX8_overdueWithin_59 : decode cX8_overdueWithin 59 = .ok (.getfield 155, 3) := by decide +kernel
theorem dX8_overdueWithin_62 : decode cX8_overdueWithin 62 = .ok (.iload_n 1, 1) := by decide +kernel
theorem dX8_overdueWithin_63 : decode cX8_overdueWithin 63 = .ok (.iadd, 1) := by decide +kernel
theorem dX8_overdueWithin_64 : decode cX8_overdueWithin 64 = .ok (.aload_n 0, 1) := by decide +kernel
theorem dX8_overdueWithin_65 : decode cX8_overdueWithin 65 = .ok (.getfield 68, 3) := by decide +kernel
theorem dX8_overdueWithin_68 : decode cX8_overdueWithin 68 = .ok (.iload 4, 2) := by decide +kernel
theorem dX8_overdueWithin_70 : decode cX8_overdueWithin 70 = .ok (.invokevirtual 145, 3) := by decide +kernel
theorem dX8_overdueWithin_73 : decode cX8_overdueWithin 73 = .ok (.if_icmp .le 6, 3) := by decide +kernel
theorem dX8_overdueWithin_76 : decode cX8_overdueWithin 76 = .ok (.iinc 2 1, 3) := by decide +kernel
theorem dX8_overdueWithin_79 : decode cX8_overdueWithin 79 = .ok (.iinc 3 1, 3) := by decide +kernel
theorem dX8_overdueWithin_82 : decode cX8_overdueWithin 82 = .ok (.goto (-56), 3) := by decide +kernel
theorem dX8_overdueWithin_85 : decode cX8_overdueWithin 85 = .ok (.iload_n 2, 1) := by decide +kernel
theorem dX8_overdueWithin_86 : decode cX8_overdueWithin 86 = .ok (.ireturn, 1) := by decide +kernel
theorem dX8_append_0 : decode cX8_append 0 = .ok (.aload_n 0, 1) := by decide +kernel
theorem dX8_append_1 : decode cX8_append 1 = .ok (.getfield 19, 3) := by decide +kernel
theorem dX8_append_4 : decode cX8_append 4 = .ok (.invokevirtual 335, 3) := by decide +kernel
theorem dX8_append_7 : decode cX8_append 7 = .ok (.ifCond .eq 14, 3) := by decide +kernel
theorem dX8_append_10 : decode cX8_append 10 = .ok (.new 339, 3) := by decide +kernel
theorem dX8_append_13 : decode cX8_append 13 = .ok (.dup, 1) := by decide +kernel
theorem dX8_append_14 : decode cX8_append 14 = .ok (.ldc_w 341, 3) := by decide +kernel
theorem dX8_append_17 : decode cX8_append 17 = .ok (.invokespecial 343, 3) := by decide +kernel
theorem dX8_append_20 : decode cX8_append 20 = .ok (.athrow, 1) := by decide +kernel
theorem dX8_append_21 : decode cX8_append 21 = .ok (.aload_n 0, 1) := by decide +kernel
theorem dX8_append_22 : decode cX8_append 22 = .ok (.getfield 19, 3) := by decide +kernel
theorem dX8_append_25 : decode cX8_append 25 = .ok (.iload_n 1, 1) := by decide +kernel
theorem dX8_append_26 : decode cX8_append 26 = .ok (.invokevirtual 344, 3) := by decide +kernel
theorem dX8_append_29 : decode cX8_append 29 = .ok (.return_, 1) := by decide +kernel
theorem dX8_read_0 : decode cX8_read 0 = .ok (.aload_n 0, 1) := by decide +kernel
theorem dX8_read_1 : decode cX8_read 1 = .ok (.aload_n 0, 1) := by decide +kernel
theorem dX8_read_2 : decode cX8_read 2 = .ok (.getfield 19, 3) := by decide +kernel
theorem dX8_read_5 : decode cX8_read 5 = .ok (.invokevirtual 348, 3) := by decide +kernel
theorem dX8_read_8 : decode cX8_read 8 = .ok (.putfield 38, 3) := by decide +kernel
theorem dX8_read_11 : decode cX8_read 11 = .ok (.aload_n 0, 1) := by decide +kernel
theorem dX8_read_12 : decode cX8_read 12 = .ok (.getfield 19, 3) := by decide +kernel
theorem dX8_read_15 : decode cX8_read 15 = .ok (.invokevirtual 351, 3) := by decide +kernel
theorem dX8_read_18 : decode cX8_read 18 = .ok (.aload_n 0, 1) := by decide +kernel
theorem dX8_read_19 : decode cX8_read 19 = .ok (.getfield 38, 3) := by decide +kernel
theorem dX8_read_22 : decode cX8_read 22 = .ok (.ifCond .lt 14, 3) := by decide +kernel
theorem dX8_read_25 : decode cX8_read 25 = .ok (.new 114, 3) := by decide +kernel
theorem dX8_read_28 : decode cX8_read 28 = .ok (.dup, 1) := by decide +kernel
theorem dX8_read_29 : decode cX8_read 29 = .ok (.ldc_w 352, 3) := by decide +kernel
theorem dX8_read_32 : decode cX8_read 32 = .ok (.invokespecial 118, 3) := by decide +kernel
theorem dX8_read_35 : decode cX8_read 35 = .ok (.athrow, 1) := by decide +kernel
theorem dX8_read_36 : decode cX8_read 36 = .ok (.aload_n 0, 1) := by decide +kernel
theorem dX8_read_37 : decode cX8_read 37 = .ok (.getfield 10, 3) := by decide +kernel
theorem dX8_read_40 : decode cX8_read 40 = .ok (.aload_n 0, 1) := by decide +kernel
theorem dX8_read_41 : decode cX8_read 41 = .ok (.getfield 61, 3) := by decide +kernel
theorem dX8_read_44 : decode cX8_read 44 = .ok (.invokevirtual 354, 3) := by decide +kernel
theorem dX8_read_47 : decode cX8_read 47 = .ok (.aload_n 0, 1) := by decide +kernel
theorem dX8_read_48 : decode cX8_read 48 = .ok (.getfield 19, 3) := by decide +kernel
theorem dX8_read_51 : decode cX8_read 51 = .ok (.invokevirtual 357, 3) := by decide +kernel
theorem dX8_read_54 : decode cX8_read 54 = .ok (.istore_n 1, 1) := by decide +kernel
theorem dX8_read_55 : decode cX8_read 55 = .ok (.iconst 0, 1) := by decide +kernel
theorem dX8_read_56 : decode cX8_read 56 = .ok (.istore_n 2, 1) := by decide +kernel
theorem dX8_read_57 : decode cX8_read 57 = .ok (.iload_n 2, 1) := by decide +kernel
theorem dX8_read_58 : decode cX8_read 58 = .ok (.iload_n 1, 1) := by decide +kernel
theorem dX8_read_59 : decode cX8_read 59 = .ok (.if_icmp .ge 112, 3) := by decide +kernel
theorem dX8_read_62 : decode cX8_read 62 = .ok (.aload_n 0, 1) := by decide +kernel
theorem dX8_read_63 : decode cX8_read 63 = .ok (.getfield 19, 3) := by decide +kernel
theorem dX8_read_66 : decode cX8_read 66 = .ok (.iload_n 2, 1) := by decide +kernel
theorem dX8_read_67 : decode cX8_read 67 = .ok (.iconst 0, 1) := by decide +kernel
theorem dX8_read_68 : decode cX8_read 68 = .ok (.invokevirtual 360, 3) := by decide +kernel
theorem dX8_read_71 : decode cX8_read 71 = .ok (.istore_n 3, 1) := by decide +kernel
theorem dX8_read_72 : decode cX8_read 72 = .ok (.aload_n 0, 1) := by decide +kernel
theorem dX8_read_73 : decode cX8_read 73 = .ok (.getfield 19, 3) := by decide +kernel
theorem dX8_read_76 : decode cX8_read 76 = .ok (.iload_n 2, 1) := by decide +kernel
theorem dX8_read_77 : decode cX8_read 77 = .ok (.iconst 1, 1) := by decide +kernel
theorem dX8_read_78 : decode cX8_read 78 = .ok (.invokevirtual 360, 3) := by decide +kernel
theorem dX8_read_81 : decode cX8_read 81 = .ok (.istore 4, 2) := by decide +kernel
theorem dX8_read_83 : decode cX8_read 83 = .ok (.aload_n 0, 1) := by decide +kernel
theorem dX8_read_84 : decode cX8_read 84 = .ok (.getfield 19, 3) := by decide +kernel
theorem dX8_read_87 : decode cX8_read 87 = .ok (.iload_n 2, 1) := by decide +kernel
theorem dX8_read_88 : decode cX8_read 88 = .ok (.iconst 2, 1) := by decide +kernel
theorem dX8_read_89 : decode cX8_read 89 = .ok (.invokevirtual 360, 3) := by decide +kernel
theorem dX8_read_92 : decode cX8_read 92 = .ok (.istore 5, 2) := by decide +kernel
theorem dX8_read_94 : decode cX8_read 94 = .ok (.aload_n 0, 1) := by decide +kernel
theorem dX8_read_95 : decode cX8_read 95 = .ok (.getfield 19, 3) := by decide +kernel
theorem dX8_read_98 : decode cX8_read 98 = .ok (.iload_n 2, 1) := by decide +kernel
theorem dX8_read_99 : decode cX8_read 99 = .ok (.invokevirtual 363, 3) := by decide +kernel
theorem dX8_read_102 : decode cX8_read 102 = .ok (.istore 6, 2) := by decide +kernel
theorem dX8_read_104 : decode cX8_read 104 = .ok (.aload_n 0, 1) := by decide +kernel
theorem dX8_read_105 : decode cX8_read 105 = .ok (.iload 6, 2) := by decide +kernel
theorem dX8_read_107 : decode cX8_read 107 = .ok (.iload_n 3, 1) := by decide +kernel
theorem dX8_read_108 : decode cX8_read 108 = .ok (.iload 4, 2) := by decide +kernel
theorem dX8_read_110 : decode cX8_read 110 = .ok (.iload 5, 2) := by decide +kernel
theorem dX8_read_112 : decode cX8_read 112 = .ok (.invokevirtual 366, 3) := by decide +kernel
theorem dX8_read_115 : decode cX8_read 115 = .ok (.istore 7, 2) := by decide +kernel
theorem dX8_read_117 : decode cX8_read 117 = .ok (.iload 7, 2) := by decide +kernel
theorem dX8_read_119 : decode cX8_read 119 = .ok (.ifCond .eq 32, 3) := by decide +kernel
theorem dX8_read_122 : decode cX8_read 122 = .ok (.aload_n 0, 1) := by decide +kernel
theorem dX8_read_123 : decode cX8_read 123 = .ok (.getfield 10, 3) := by decide +kernel
theorem dX8_read_126 : decode cX8_read 126 = .ok (.aload_n 0, 1) := by decide +kernel
theorem dX8_read_127 : decode cX8_read 127 = .ok (.getfield 61, 3) := by decide +kernel
theorem dX8_read_130 : decode cX8_read 130 = .ok (.invokevirtual 369, 3) := by decide +kernel
theorem dX8_read_133 : decode cX8_read 133 = .ok (.aload_n 0, 1) := by decide +kernel
theorem dX8_read_134 : decode cX8_read 134 = .ok (.iload 7, 2) := by decide +kernel
theorem dX8_read_136 : decode cX8_read 136 = .ok (.iload_n 2, 1) := by decide +kernel
theorem dX8_read_137 : decode cX8_read 137 = .ok (.invokevirtual 372, 3) := by decide +kernel
theorem dX8_read_140 : decode cX8_read 140 = .ok (.new 375, 3) := by decide +kernel
theorem dX8_read_143 : decode cX8_read 143 = .ok (.dup, 1) := by decide +kernel
theorem dX8_read_144 : decode cX8_read 144 = .ok (.ldc_w 377, 3) := by decide +kernel
theorem dX8_read_147 : decode cX8_read 147 = .ok (.invokespecial 379, 3) := by decide +kernel
theorem dX8_read_150 : decode cX8_read 150 = .ok (.athrow, 1) := by decide +kernel
theorem dX8_read_151 : decode cX8_read 151 = .ok (.aload_n 0, 1) := by decide +kernel
theorem dX8_read_152 : decode cX8_read 152 = .ok (.getfield 84, 3) := by decide +kernel
theorem dX8_read_155 : decode cX8_read 155 = .ok (.iload 6, 2) := by decide +kernel
theorem dX8_read_157 : decode cX8_read 157 = .ok (.iload_n 3, 1) := by decide +kernel
theorem dX8_read_158 : decode cX8_read 158 = .ok (.iload 4, 2) := by decide +kernel
theorem dX8_read_160 : decode cX8_read 160 = .ok (.iload 5, 2) := by decide +kernel
theorem dX8_read_162 : decode cX8_read 162 = .ok (.invokevirtual 380, 3) := by decide +kernel
theorem dX8_read_165 : decode cX8_read 165 = .ok (.iinc 2 1, 3) := by decide +kernel
theorem dX8_read_168 : decode cX8_read 168 = .ok (.goto (-111), 3) := by decide +kernel
theorem dX8_read_171 : decode cX8_read 171 = .ok (.aload_n 0, 1) := by decide +kernel
theorem dX8_read_172 : decode cX8_read 172 = .ok (.getfield 10, 3) := by decide +kernel
theorem dX8_read_175 : decode cX8_read 175 = .ok (.invokevirtual 384, 3) := by decide +kernel
theorem dX8_read_178 : decode cX8_read 178 = .ok (.iload_n 1, 1) := by decide +kernel
theorem dX8_read_179 : decode cX8_read 179 = .ok (.ireturn, 1) := by decide +kernel
theorem dX8_faultPosition_0 : decode cX8_faultPosition 0 = .ok (.aload_n 0, 1) := by decide +kernel
theorem dX8_faultPosition_1 : decode cX8_faultPosition 1 = .ok (.getfield 38, 3) := by decide +kernel
theorem dX8_faultPosition_4 : decode cX8_faultPosition 4 = .ok (.ireturn, 1) := by decide +kernel
theorem dX8_refusal_0 : decode cX8_refusal 0 = .ok (.aload_n 0, 1) := by decide +kernel
theorem dX8_refusal_1 : decode cX8_refusal 1 = .ok (.getfield 42, 3) := by decide +kernel
theorem dX8_refusal_4 : decode cX8_refusal 4 = .ok (.ifCond .ne 14, 3) := by decide +kernel
theorem dX8_refusal_7 : decode cX8_refusal 7 = .ok (.new 173, 3) := by decide +kernel
theorem dX8_refusal_10 : decode cX8_refusal 10 = .ok (.dup, 1) := by decide +kernel
theorem dX8_refusal_11 : decode cX8_refusal 11 = .ok (.ldc_w 387, 3) := by decide +kernel
theorem dX8_refusal_14 : decode cX8_refusal 14 = .ok (.invokespecial 177, 3) := by decide +kernel
theorem dX8_refusal_17 : decode cX8_refusal 17 = .ok (.athrow, 1) := by decide +kernel
theorem dX8_refusal_18 : decode cX8_refusal 18 = .ok (.iload_n 1, 1) := by decide +kernel
theorem dX8_refusal_19 : decode cX8_refusal 19 = .ok (.ifCond .eq 10, 3) := by decide +kernel
theorem dX8_refusal_22 : decode cX8_refusal 22 = .ok (.aload_n 0, 1) := by decide +kernel
theorem dX8_refusal_23 : decode cX8_refusal 23 = .ok (.getfield 42, 3) := by decide +kernel
theorem dX8_refusal_26 : decode cX8_refusal 26 = .ok (.goto 7, 3) := by decide +kernel
theorem dX8_refusal_29 : decode cX8_refusal 29 = .ok (.aload_n 0, 1) := by decide +kernel
theorem dX8_refusal_30 : decode cX8_refusal 30 = .ok (.getfield 45, 3) := by decide +kernel
theorem dX8_refusal_33 : decode cX8_refusal 33 = .ok (.ireturn, 1) := by decide +kernel
theorem dX8_account_0 : decode cX8_account 0 = .ok (.iload_n 1, 1) := by decide +kernel
theorem dX8_account_1 : decode cX8_account 1 = .ok (.bipush 10, 2) := by decide +kernel
theorem dX8_account_3 : decode cX8_account 3 = .ok (.invokestatic 131, 3) := by decide +kernel
theorem dX8_account_6 : decode cX8_account 6 = .ok (.iload_n 1, 1) := by decide +kernel
theorem dX8_account_7 : decode cX8_account 7 = .ok (.tableswitch 166 0 9 #[53, 65, 77, 92, 104, 110, 122, 128, 140, 154], 53) := by decide +kernel
theorem dX8_account_60 : decode cX8_account 60 = .ok (.aload_n 0, 1) := by decide +kernel
theorem dX8_account_61 : decode cX8_account 61 = .ok (.getfield 61, 3) := by decide +kernel
theorem dX8_account_64 : decode cX8_account 64 = .ok (.getfield 102, 3) := by decide +kernel
theorem dX8_account_67 : decode cX8_account 67 = .ok (.invokevirtual 178, 3) := by decide +kernel
theorem dX8_account_70 : decode cX8_account 70 = .ok (.i2l, 1) := by decide +kernel
theorem dX8_account_71 : decode cX8_account 71 = .ok (.lreturn, 1) := by decide +kernel
theorem dX8_account_72 : decode cX8_account 72 = .ok (.aload_n 0, 1) := by decide +kernel
theorem dX8_account_73 : decode cX8_account 73 = .ok (.getfield 61, 3) := by decide +kernel
theorem dX8_account_76 : decode cX8_account 76 = .ok (.getfield 135, 3) := by decide +kernel
theorem dX8_account_79 : decode cX8_account 79 = .ok (.invokevirtual 178, 3) := by decide +kernel
theorem dX8_account_82 : decode cX8_account 82 = .ok (.i2l, 1) := by decide +kernel
theorem dX8_account_83 : decode cX8_account 83 = .ok (.lreturn, 1) := by decide +kernel
theorem dX8_account_84 : decode cX8_account 84 = .ok (.aload_n 0, 1) := by decide +kernel
theorem dX8_account_85 : decode cX8_account 85 = .ok (.getfield 61, 3) := by decide +kernel
theorem dX8_account_88 : decode cX8_account 88 = .ok (.getfield 135, 3) := by decide +kernel
theorem dX8_account_91 : decode cX8_account 91 = .ok (.bipush 11, 2) := by decide +kernel
theorem dX8_account_93 : decode cX8_account 93 = .ok (.iconst 0, 1) := by decide +kernel
theorem dX8_account_94 : decode cX8_account 94 = .ok (.invokevirtual 138, 3) := by decide +kernel
theorem dX8_account_97 : decode cX8_account 97 = .ok (.i2l, 1) := by decide +kernel
theorem dX8_account_98 : decode cX8_account 98 = .ok (.lreturn, 1) := by decide +kernel
theorem dX8_account_99 : decode cX8_account 99 = .ok (.aload_n 0, 1) := by decide +kernel
theorem dX8_account_100 : decode cX8_account 100 = .ok (.getfield 61, 3) := by decide +kernel
theorem dX8_account_103 : decode cX8_account 103 = .ok (.getfield 257, 3) := by decide +kernel
theorem dX8_account_106 : decode cX8_account 106 = .ok (.invokevirtual 178, 3) := by decide +kernel
theorem dX8_account_109 : decode cX8_account 109 = .ok (.i2l, 1) := by decide +kernel
theorem dX8_account_110 : decode cX8_account 110 = .ok (.lreturn, 1) := by decide +kernel
theorem dX8_account_111 : decode cX8_account 111 = .ok (.aload_n 0, 1) := by decide +kernel
theorem dX8_account_112 : decode cX8_account 112 = .ok (.invokevirtual 389, 3) := by decide +kernel
theorem dX8_account_115 : decode cX8_account 115 = .ok (.i2l, 1) := by decide +kernel
theorem dX8_account_116 : decode cX8_account 116 = .ok (.lreturn, 1) := by decide +kernel
theorem dX8_account_117 : decode cX8_account 117 = .ok (.aload_n 0, 1) := by decide +kernel
theorem dX8_account_118 : decode cX8_account 118 = .ok (.getfield 61, 3) := by decide +kernel
theorem dX8_account_121 : decode cX8_account 121 = .ok (.getfield 280, 3) := by decide +kernel
theorem dX8_account_124 : decode cX8_account 124 = .ok (.invokevirtual 178, 3) := by decide +kernel
theorem dX8_account_127 : decode cX8_account 127 = .ok (.i2l, 1) := by decide +kernel
theorem dX8_account_128 : decode cX8_account 128 = .ok (.lreturn, 1) := by decide +kernel
theorem dX8_account_129 : decode cX8_account 129 = .ok (.aload_n 0, 1) := by decide +kernel
theorem dX8_account_130 : decode cX8_account 130 = .ok (.invokevirtual 392, 3) := by decide +kernel
theorem dX8_account_133 : decode cX8_account 133 = .ok (.i2l, 1) := by decide +kernel
theorem dX8_account_134 : decode cX8_account 134 = .ok (.lreturn, 1) := by decide +kernel
theorem dX8_account_135 : decode cX8_account 135 = .ok (.aload_n 0, 1) := by decide +kernel
theorem dX8_account_136 : decode cX8_account 136 = .ok (.getfield 61, 3) := by decide +kernel
theorem dX8_account_139 : decode cX8_account 139 = .ok (.getfield 231, 3) := by decide +kernel
theorem dX8_account_142 : decode cX8_account 142 = .ok (.invokevirtual 178, 3) := by decide +kernel
theorem dX8_account_145 : decode cX8_account 145 = .ok (.i2l, 1) := by decide +kernel
theorem dX8_account_146 : decode cX8_account 146 = .ok (.lreturn, 1) := by decide +kernel
theorem dX8_account_147 : decode cX8_account 147 = .ok (.aload_n 0, 1) := by decide +kernel
theorem dX8_account_148 : decode cX8_account 148 = .ok (.getfield 61, 3) := by decide +kernel
theorem dX8_account_151 : decode cX8_account 151 = .ok (.getfield 102, 3) := by decide +kernel
theorem dX8_account_154 : decode cX8_account 154 = .ok (.bipush 6, 2) := by decide +kernel
theorem dX8_account_156 : decode cX8_account 156 = .ok (.invokevirtual 167, 3) := by decide +kernel
theorem dX8_account_159 : decode cX8_account 159 = .ok (.i2l, 1) := by decide +kernel
theorem dX8_account_160 : decode cX8_account 160 = .ok (.lreturn, 1) := by decide +kernel
theorem dX8_account_161 : decode cX8_account 161 = .ok (.aload_n 0, 1) := by decide +kernel
theorem dX8_account_162 : decode cX8_account 162 = .ok (.getfield 61, 3) := by decide +kernel
theorem dX8_account_165 : decode cX8_account 165 = .ok (.getfield 164, 3) := by decide +kernel
theorem dX8_account_168 : decode cX8_account 168 = .ok (.invokevirtual 178, 3) := by decide +kernel
theorem dX8_account_171 : decode cX8_account 171 = .ok (.i2l, 1) := by decide +kernel
theorem dX8_account_172 : decode cX8_account 172 = .ok (.lreturn, 1) := by decide +kernel
theorem dX8_account_173 : decode cX8_account 173 = .ok (.aload_n 0, 1) := by decide +kernel
theorem dX8_account_174 : decode cX8_account 174 = .ok (.getfield 10, 3) := by decide +kernel
theorem dX8_account_177 : decode cX8_account 177 = .ok (.invokevirtual 395, 3) := by decide +kernel
theorem dX8_account_180 : decode cX8_account 180 = .ok (.i2l, 1) := by decide +kernel
theorem dX8_account_181 : decode cX8_account 181 = .ok (.lreturn, 1) := by decide +kernel
theorem dX8_goodShare_0 : decode cX8_goodShare 0 = .ok (.aload_n 0, 1) := by decide +kernel
theorem dX8_goodShare_1 : decode cX8_goodShare 1 = .ok (.getfield 61, 3) := by decide +kernel
theorem dX8_goodShare_4 : decode cX8_goodShare 4 = .ok (.getfield 135, 3) := by decide +kernel
theorem dX8_goodShare_7 : decode cX8_goodShare 7 = .ok (.invokevirtual 178, 3) := by decide +kernel
theorem dX8_goodShare_10 : decode cX8_goodShare 10 = .ok (.istore_n 1, 1) := by decide +kernel
theorem dX8_goodShare_11 : decode cX8_goodShare 11 = .ok (.iload_n 1, 1) := by decide +kernel
theorem dX8_goodShare_12 : decode cX8_goodShare 12 = .ok (.ifCond .gt 14, 3) := by decide +kernel
theorem dX8_goodShare_15 : decode cX8_goodShare 15 = .ok (.new 397, 3) := by decide +kernel
theorem dX8_goodShare_18 : decode cX8_goodShare 18 = .ok (.dup, 1) := by decide +kernel
theorem dX8_goodShare_19 : decode cX8_goodShare 19 = .ok (.ldc_w 399, 3) := by decide +kernel
theorem dX8_goodShare_22 : decode cX8_goodShare 22 = .ok (.invokespecial 401, 3) := by decide +kernel
theorem dX8_goodShare_25 : decode cX8_goodShare 25 = .ok (.athrow, 1) := by decide +kernel
theorem dX8_goodShare_26 : decode cX8_goodShare 26 = .ok (.aload_n 0, 1) := by decide +kernel
theorem dX8_goodShare_27 : decode cX8_goodShare 27 = .ok (.getfield 61, 3) := by decide +kernel
theorem dX8_goodShare_30 : decode cX8_goodShare 30 = .ok (.getfield 135, 3) := by decide +kernel
theorem dX8_goodShare_33 : decode cX8_goodShare 33 = .ok (.bipush 11, 2) := by decide +kernel
theorem dX8_goodShare_35 : decode cX8_goodShare 35 = .ok (.iconst 0, 1) := by decide +kernel
theorem dX8_goodShare_36 : decode cX8_goodShare 36 = .ok (.invokevirtual 138, 3) := by decide +kernel
theorem dX8_goodShare_39 : decode cX8_goodShare 39 = .ok (.i2d, 1) := by decide +kernel
theorem dX8_goodShare_40 : decode cX8_goodShare 40 = .ok (.iload_n 1, 1) := by decide +kernel
theorem dX8_goodShare_41 : decode cX8_goodShare 41 = .ok (.i2d, 1) := by decide +kernel
theorem dX8_goodShare_42 : decode cX8_goodShare 42 = .ok (.ddiv, 1) := by decide +kernel
theorem dX8_goodShare_43 : decode cX8_goodShare 43 = .ok (.dreturn, 1) := by decide +kernel
theorem dX8_undo_0 : decode cX8_undo 0 = .ok (.aload_n 0, 1) := by decide +kernel
theorem dX8_undo_1 : decode cX8_undo 1 = .ok (.getfield 10, 3) := by decide +kernel
theorem dX8_undo_4 : decode cX8_undo 4 = .ok (.invokevirtual 395, 3) := by decide +kernel
theorem dX8_undo_7 : decode cX8_undo 7 = .ok (.ifCond .gt 14, 3) := by decide +kernel
theorem dX8_undo_10 : decode cX8_undo 10 = .ok (.new 339, 3) := by decide +kernel
theorem dX8_undo_13 : decode cX8_undo 13 = .ok (.dup, 1) := by decide +kernel
theorem dX8_undo_14 : decode cX8_undo 14 = .ok (.ldc_w 402, 3) := by decide +kernel
theorem dX8_undo_17 : decode cX8_undo 17 = .ok (.invokespecial 343, 3) := by decide +kernel
theorem dX8_undo_20 : decode cX8_undo 20 = .ok (.athrow, 1) := by decide +kernel
theorem dX8_undo_21 : decode cX8_undo 21 = .ok (.aload_n 0, 1) := by decide +kernel
theorem dX8_undo_22 : decode cX8_undo 22 = .ok (.getfield 10, 3) := by decide +kernel
theorem dX8_undo_25 : decode cX8_undo 25 = .ok (.aload_n 0, 1) := by decide +kernel
theorem dX8_undo_26 : decode cX8_undo 26 = .ok (.getfield 61, 3) := by decide +kernel
theorem dX8_undo_29 : decode cX8_undo 29 = .ok (.invokevirtual 404, 3) := by decide +kernel
theorem dX8_undo_32 : decode cX8_undo 32 = .ok (.aload_n 0, 1) := by decide +kernel
theorem dX8_undo_33 : decode cX8_undo 33 = .ok (.getfield 10, 3) := by decide +kernel
theorem dX8_undo_36 : decode cX8_undo 36 = .ok (.invokevirtual 395, 3) := by decide +kernel
theorem dX8_undo_39 : decode cX8_undo 39 = .ok (.ireturn, 1) := by decide +kernel
theorem dX8_save_0 : decode cX8_save 0 = .ok (.aload_n 0, 1) := by decide +kernel
theorem dX8_save_1 : decode cX8_save 1 = .ok (.getfield 34, 3) := by decide +kernel
theorem dX8_save_4 : decode cX8_save 4 = .ok (.ifnonnull 14, 3) := by decide +kernel
theorem dX8_save_7 : decode cX8_save 7 = .ok (.aload_n 0, 1) := by decide +kernel
theorem dX8_save_8 : decode cX8_save 8 = .ok (.new 48, 3) := by decide +kernel
theorem dX8_save_11 : decode cX8_save 11 = .ok (.dup, 1) := by decide +kernel
theorem dX8_save_12 : decode cX8_save 12 = .ok (.invokespecial 50, 3) := by decide +kernel
theorem dX8_save_15 : decode cX8_save 15 = .ok (.putfield 34, 3) := by decide +kernel
theorem dX8_save_18 : decode cX8_save 18 = .ok (.aload_n 0, 1) := by decide +kernel
theorem dX8_save_19 : decode cX8_save 19 = .ok (.getfield 34, 3) := by decide +kernel
theorem dX8_save_22 : decode cX8_save 22 = .ok (.aload_n 0, 1) := by decide +kernel
theorem dX8_save_23 : decode cX8_save 23 = .ok (.getfield 61, 3) := by decide +kernel
theorem dX8_save_26 : decode cX8_save 26 = .ok (.invokevirtual 407, 3) := by decide +kernel
theorem dX8_save_29 : decode cX8_save 29 = .ok (.return_, 1) := by decide +kernel
theorem dX8_restore_0 : decode cX8_restore 0 = .ok (.aload_n 0, 1) := by decide +kernel
theorem dX8_restore_1 : decode cX8_restore 1 = .ok (.getfield 34, 3) := by decide +kernel
theorem dX8_restore_4 : decode cX8_restore 4 = .ok (.ifnonnull 14, 3) := by decide +kernel
theorem dX8_restore_7 : decode cX8_restore 7 = .ok (.new 339, 3) := by decide +kernel
theorem dX8_restore_10 : decode cX8_restore 10 = .ok (.dup, 1) := by decide +kernel
theorem dX8_restore_11 : decode cX8_restore 11 = .ok (.ldc_w 410, 3) := by decide +kernel
theorem dX8_restore_14 : decode cX8_restore 14 = .ok (.invokespecial 343, 3) := by decide +kernel
theorem dX8_restore_17 : decode cX8_restore 17 = .ok (.athrow, 1) := by decide +kernel
theorem dX8_restore_18 : decode cX8_restore 18 = .ok (.aload_n 0, 1) := by decide +kernel
theorem dX8_restore_19 : decode cX8_restore 19 = .ok (.getfield 61, 3) := by decide +kernel
theorem dX8_restore_22 : decode cX8_restore 22 = .ok (.aload_n 0, 1) := by decide +kernel
theorem dX8_restore_23 : decode cX8_restore 23 = .ok (.getfield 34, 3) := by decide +kernel
theorem dX8_restore_26 : decode cX8_restore 26 = .ok (.invokevirtual 407, 3) := by decide +kernel
theorem dX8_restore_29 : decode cX8_restore 29 = .ok (.aload_n 0, 1) := by decide +kernel
theorem dX8_restore_30 : decode cX8_restore 30 = .ok (.getfield 10, 3) := by decide +kernel
theorem dX8_restore_33 : decode cX8_restore 33 = .ok (.invokevirtual 412, 3) := by decide +kernel
theorem dX8_restore_36 : decode cX8_restore 36 = .ok (.return_, 1) := by decide +kernel
theorem dX8_isWithin_0 : decode cX8_isWithin 0 = .ok (.iload_n 0, 1) := by decide +kernel
theorem dX8_isWithin_1 : decode cX8_isWithin 1 = .ok (.iload_n 1, 1) := by decide +kernel
theorem dX8_isWithin_2 : decode cX8_isWithin 2 = .ok (.if_icmp .lt 12, 3) := by decide +kernel
theorem dX8_isWithin_5 : decode cX8_isWithin 5 = .ok (.iload_n 0, 1) := by decide +kernel
theorem dX8_isWithin_6 : decode cX8_isWithin 6 = .ok (.iload_n 2, 1) := by decide +kernel
theorem dX8_isWithin_7 : decode cX8_isWithin 7 = .ok (.if_icmp .gt 7, 3) := by decide +kernel
theorem dX8_isWithin_10 : decode cX8_isWithin 10 = .ok (.iconst 1, 1) := by decide +kernel
theorem dX8_isWithin_11 : decode cX8_isWithin 11 = .ok (.goto 4, 3) := by decide +kernel
theorem dX8_isWithin_14 : decode cX8_isWithin 14 = .ok (.iconst 0, 1) := by decide +kernel
theorem dX8_isWithin_15 : decode cX8_isWithin 15 = .ok (.ireturn, 1) := by decide +kernel
theorem dX8_areDays_0 : decode cX8_areDays 0 = .ok (.iload_n 0, 1) := by decide +kernel
theorem dX8_areDays_1 : decode cX8_areDays 1 = .ok (.ifCond .lt 19, 3) := by decide +kernel
theorem dX8_areDays_4 : decode cX8_areDays 4 = .ok (.iload_n 1, 1) := by decide +kernel
theorem dX8_areDays_5 : decode cX8_areDays 5 = .ok (.iload_n 0, 1) := by decide +kernel
theorem dX8_areDays_6 : decode cX8_areDays 6 = .ok (.if_icmp .lt 14, 3) := by decide +kernel
theorem dX8_areDays_9 : decode cX8_areDays 9 = .ok (.iload_n 1, 1) := by decide +kernel
theorem dX8_areDays_10 : decode cX8_areDays 10 = .ok (.sipush 9999, 3) := by decide +kernel
theorem dX8_areDays_13 : decode cX8_areDays 13 = .ok (.if_icmp .gt 7, 3) := by decide +kernel
theorem dX8_areDays_16 : decode cX8_areDays 16 = .ok (.iconst 1, 1) := by decide +kernel
theorem dX8_areDays_17 : decode cX8_areDays 17 = .ok (.goto 4, 3) := by decide +kernel
theorem dX8_areDays_20 : decode cX8_areDays 20 = .ok (.iconst 0, 1) := by decide +kernel
theorem dX8_areDays_21 : decode cX8_areDays 21 = .ok (.ireturn, 1) := by decide +kernel
theorem dX8_isSettable_0 : decode cX8_isSettable 0 = .ok (.iload_n 0, 1) := by decide +kernel
theorem dX8_isSettable_1 : decode cX8_isSettable 1 = .ok (.tableswitch 98 0 3 #[31, 49, 65, 80], 31) := by decide +kernel
theorem dX8_isSettable_32 : decode cX8_isSettable 32 = .ok (.iload_n 1, 1) := by decide +kernel
theorem dX8_isSettable_33 : decode cX8_isSettable 33 = .ok (.iconst 1, 1) := by decide +kernel
theorem dX8_isSettable_34 : decode cX8_isSettable 34 = .ok (.if_icmp .lt 14, 3) := by decide +kernel
theorem dX8_isSettable_37 : decode cX8_isSettable 37 = .ok (.iload_n 1, 1) := by decide +kernel
theorem dX8_isSettable_38 : decode cX8_isSettable 38 = .ok (.sipush 999, 3) := by decide +kernel
theorem dX8_isSettable_41 : decode cX8_isSettable 41 = .ok (.if_icmp .gt 7, 3) := by decide +kernel
theorem dX8_isSettable_44 : decode cX8_isSettable 44 = .ok (.iconst 1, 1) := by decide +kernel
theorem dX8_isSettable_45 : decode cX8_isSettable 45 = .ok (.goto 4, 3) := by decide +kernel
theorem dX8_isSettable_48 : decode cX8_isSettable 48 = .ok (.iconst 0, 1) := by decide +kernel
theorem dX8_isSettable_49 : decode cX8_isSettable 49 = .ok (.ireturn, 1) := by decide +kernel
theorem dX8_isSettable_50 : decode cX8_isSettable 50 = .ok (.iload_n 1, 1) := by decide +kernel
theorem dX8_isSettable_51 : decode cX8_isSettable 51 = .ok (.ifCond .lt 13, 3) := by decide +kernel
theorem dX8_isSettable_54 : decode cX8_isSettable 54 = .ok (.iload_n 1, 1) := by decide +kernel
theorem dX8_isSettable_55 : decode cX8_isSettable 55 = .ok (.bipush 99, 2) := by decide +kernel
theorem dX8_isSettable_57 : decode cX8_isSettable 57 = .ok (.if_icmp .gt 7, 3) := by decide +kernel
theorem dX8_isSettable_60 : decode cX8_isSettable 60 = .ok (.iconst 1, 1) := by decide +kernel
theorem dX8_isSettable_61 : decode cX8_isSettable 61 = .ok (.goto 4, 3) := by decide +kernel
theorem dX8_isSettable_64 : decode cX8_isSettable 64 = .ok (.iconst 0, 1) := by decide +kernel
theorem dX8_isSettable_65 : decode cX8_isSettable 65 = .ok (.ireturn, 1) := by decide +kernel
theorem dX8_isSettable_66 : decode cX8_isSettable 66 = .ok (.iload_n 1, 1) := by decide +kernel
theorem dX8_isSettable_67 : decode cX8_isSettable 67 = .ok (.ifCond .lt 12, 3) := by decide +kernel
theorem dX8_isSettable_70 : decode cX8_isSettable 70 = .ok (.iload_n 1, 1) := by decide +kernel
theorem dX8_isSettable_71 : decode cX8_isSettable 71 = .ok (.iconst 3, 1) := by decide +kernel
theorem dX8_isSettable_72 : decode cX8_isSettable 72 = .ok (.if_icmp .gt 7, 3) := by decide +kernel
theorem dX8_isSettable_75 : decode cX8_isSettable 75 = .ok (.iconst 1, 1) := by decide +kernel
theorem dX8_isSettable_76 : decode cX8_isSettable 76 = .ok (.goto 4, 3) := by decide +kernel
theorem dX8_isSettable_79 : decode cX8_isSettable 79 = .ok (.iconst 0, 1) := by decide +kernel
theorem dX8_isSettable_80 : decode cX8_isSettable 80 = .ok (.ireturn, 1) := by decide +kernel
theorem dX8_isSettable_81 : decode cX8_isSettable 81 = .ok (.iload_n 1, 1) := by decide +kernel
theorem dX8_isSettable_82 : decode cX8_isSettable 82 = .ok (.iconst 1, 1) := by decide +kernel
theorem dX8_isSettable_83 : decode cX8_isSettable 83 = .ok (.if_icmp .lt 14, 3) := by decide +kernel
theorem dX8_isSettable_86 : decode cX8_isSettable 86 = .ok (.iload_n 1, 1) := by decide +kernel
theorem dX8_isSettable_87 : decode cX8_isSettable 87 = .ok (.sipush 999, 3) := by decide +kernel
theorem dX8_isSettable_90 : decode cX8_isSettable 90 = .ok (.if_icmp .gt 7, 3) := by decide +kernel
theorem dX8_isSettable_93 : decode cX8_isSettable 93 = .ok (.iconst 1, 1) := by decide +kernel
theorem dX8_isSettable_94 : decode cX8_isSettable 94 = .ok (.goto 4, 3) := by decide +kernel
theorem dX8_isSettable_97 : decode cX8_isSettable 97 = .ok (.iconst 0, 1) := by decide +kernel
theorem dX8_isSettable_98 : decode cX8_isSettable 98 = .ok (.ireturn, 1) := by decide +kernel
theorem dX8_isSettable_99 : decode cX8_isSettable 99 = .ok (.iconst 0, 1) := by decide +kernel
theorem dX8_isSettable_100 : decode cX8_isSettable 100 = .ok (.ireturn, 1) := by decide +kernel
theorem dX8_dividedUp_0 : decode cX8_dividedUp 0 = .ok (.iload_n 1, 1) := by decide +kernel
theorem dX8_dividedUp_1 : decode cX8_dividedUp 1 = .ok (.ifCond .gt 7, 3) := by decide +kernel
theorem dX8_dividedUp_4 : decode cX8_dividedUp 4 = .ok (.iconst 0, 1) := by decide +kernel
theorem dX8_dividedUp_5 : decode cX8_dividedUp 5 = .ok (.goto 10, 3) := by decide +kernel
theorem dX8_dividedUp_8 : decode cX8_dividedUp 8 = .ok (.iload_n 0, 1) := by decide +kernel
theorem dX8_dividedUp_9 : decode cX8_dividedUp 9 = .ok (.iload_n 1, 1) := by decide +kernel
theorem dX8_dividedUp_10 : decode cX8_dividedUp 10 = .ok (.iadd, 1) := by decide +kernel
theorem dX8_dividedUp_11 : decode cX8_dividedUp 11 = .ok (.iconst 1, 1) := by decide +kernel
theorem dX8_dividedUp_12 : decode cX8_dividedUp 12 = .ok (.isub, 1) := by decide +kernel
theorem dX8_dividedUp_13 : decode cX8_dividedUp 13 = .ok (.iload_n 1, 1) := by decide +kernel
theorem dX8_dividedUp_14 : decode cX8_dividedUp 14 = .ok (.idiv, 1) := by decide +kernel
theorem dX8_dividedUp_15 : decode cX8_dividedUp 15 = .ok (.ireturn, 1) := by decide +kernel
theorem dX8_raise_0 : decode cX8_raise 0 = .ok (.iload_n 0, 1) := by decide +kernel
theorem dX8_raise_1 : decode cX8_raise 1 = .ok (.iconst 1, 1) := by decide +kernel
theorem dX8_raise_2 : decode cX8_raise 2 = .ok (.if_icmp .ne 14, 3) := by decide +kernel
theorem dX8_raise_5 : decode cX8_raise 5 = .ok (.new 415, 3) := by decide +kernel
theorem dX8_raise_8 : decode cX8_raise 8 = .ok (.dup, 1) := by decide +kernel
theorem dX8_raise_9 : decode cX8_raise 9 = .ok (.ldc_w 417, 3) := by decide +kernel
theorem dX8_raise_12 : decode cX8_raise 12 = .ok (.invokespecial 419, 3) := by decide +kernel
theorem dX8_raise_15 : decode cX8_raise 15 = .ok (.athrow, 1) := by decide +kernel
theorem dX8_raise_16 : decode cX8_raise 16 = .ok (.iload_n 0, 1) := by decide +kernel
theorem dX8_raise_17 : decode cX8_raise 17 = .ok (.iconst 2, 1) := by decide +kernel
theorem dX8_raise_18 : decode cX8_raise 18 = .ok (.if_icmp .ne 14, 3) := by decide +kernel
theorem dX8_raise_21 : decode cX8_raise 21 = .ok (.new 114, 3) := by decide +kernel
theorem dX8_raise_24 : decode cX8_raise 24 = .ok (.dup, 1) := by decide +kernel
theorem dX8_raise_25 : decode cX8_raise 25 = .ok (.ldc_w 420, 3) := by decide +kernel
theorem dX8_raise_28 : decode cX8_raise 28 = .ok (.invokespecial 118, 3) := by decide +kernel
theorem dX8_raise_31 : decode cX8_raise 31 = .ok (.athrow, 1) := by decide +kernel
theorem dX8_raise_32 : decode cX8_raise 32 = .ok (.iload_n 0, 1) := by decide +kernel
theorem dX8_raise_33 : decode cX8_raise 33 = .ok (.iconst 3, 1) := by decide +kernel
theorem dX8_raise_34 : decode cX8_raise 34 = .ok (.if_icmp .ne 14, 3) := by decide +kernel
theorem dX8_raise_37 : decode cX8_raise 37 = .ok (.new 339, 3) := by decide +kernel
theorem dX8_raise_40 : decode cX8_raise 40 = .ok (.dup, 1) := by decide +kernel
theorem dX8_raise_41 : decode cX8_raise 41 = .ok (.ldc_w 422, 3) := by decide +kernel
theorem dX8_raise_44 : decode cX8_raise 44 = .ok (.invokespecial 343, 3) := by decide +kernel
theorem dX8_raise_47 : decode cX8_raise 47 = .ok (.athrow, 1) := by decide +kernel
theorem dX8_raise_48 : decode cX8_raise 48 = .ok (.return_, 1) := by decide +kernel
theorem dX8_requireRow_0 : decode cX8_requireRow 0 = .ok (.aload_n 0, 1) := by decide +kernel
theorem dX8_requireRow_1 : decode cX8_requireRow 1 = .ok (.iload_n 1, 1) := by decide +kernel
theorem dX8_requireRow_2 : decode cX8_requireRow 2 = .ok (.invokevirtual 170, 3) := by decide +kernel
theorem dX8_requireRow_5 : decode cX8_requireRow 5 = .ok (.ifCond .ne 14, 3) := by decide +kernel
theorem dX8_requireRow_8 : decode cX8_requireRow 8 = .ok (.new 415, 3) := by decide +kernel
theorem dX8_requireRow_11 : decode cX8_requireRow 11 = .ok (.dup, 1) := by decide +kernel
theorem dX8_requireRow_12 : decode cX8_requireRow 12 = .ok (.ldc_w 424, 3) := by decide +kernel
theorem dX8_requireRow_15 : decode cX8_requireRow 15 = .ok (.invokespecial 419, 3) := by decide +kernel
theorem dX8_requireRow_18 : decode cX8_requireRow 18 = .ok (.athrow, 1) := by decide +kernel
theorem dX8_requireRow_19 : decode cX8_requireRow 19 = .ok (.return_, 1) := by decide +kernel
theorem dX8_requireWhat_0 : decode cX8_requireWhat 0 = .ok (.iload_n 0, 1) := by decide +kernel
theorem dX8_requireWhat_1 : decode cX8_requireWhat 1 = .ok (.ifCond .lt 8, 3) := by decide +kernel
theorem dX8_requireWhat_4 : decode cX8_requireWhat 4 = .ok (.iload_n 0, 1) := by decide +kernel
theorem dX8_requireWhat_5 : decode cX8_requireWhat 5 = .ok (.iload_n 1, 1) := by decide +kernel
theorem dX8_requireWhat_6 : decode cX8_requireWhat 6 = .ok (.if_icmp .le 14, 3) := by decide +kernel
theorem dX8_requireWhat_9 : decode cX8_requireWhat 9 = .ok (.new 114, 3) := by decide +kernel
theorem dX8_requireWhat_12 : decode cX8_requireWhat 12 = .ok (.dup, 1) := by decide +kernel
theorem dX8_requireWhat_13 : decode cX8_requireWhat 13 = .ok (.ldc_w 426, 3) := by decide +kernel
theorem dX8_requireWhat_16 : decode cX8_requireWhat 16 = .ok (.invokespecial 118, 3) := by decide +kernel
theorem dX8_requireWhat_19 : decode cX8_requireWhat 19 = .ok (.athrow, 1) := by decide +kernel
theorem dX8_requireWhat_20 : decode cX8_requireWhat 20 = .ok (.return_, 1) := by decide +kernel
theorem dX8_requireReasonless_0 : decode cX8_requireReasonless 0 = .ok (.iload_n 1, 1) := by decide +kernel
theorem dX8_requireReasonless_1 : decode cX8_requireReasonless 1 = .ok (.ifCond .eq 20, 3) := by decide +kernel
theorem dX8_requireReasonless_4 : decode cX8_requireReasonless 4 = .ok (.aload_n 0, 1) := by decide +kernel
theorem dX8_requireReasonless_5 : decode cX8_requireReasonless 5 = .ok (.iload_n 1, 1) := by decide +kernel
theorem dX8_requireReasonless_6 : decode cX8_requireReasonless 6 = .ok (.iconst (-1), 1) := by decide +kernel
theorem dX8_requireReasonless_7 : decode cX8_requireReasonless 7 = .ok (.invokevirtual 372, 3) := by decide +kernel
theorem dX8_requireReasonless_10 : decode cX8_requireReasonless 10 = .ok (.new 375, 3) := by decide +kernel
theorem dX8_requireReasonless_13 : decode cX8_requireReasonless 13 = .ok (.dup, 1) := by decide +kernel
theorem dX8_requireReasonless_14 : decode cX8_requireReasonless 14 = .ok (.ldc_w 428, 3) := by decide +kernel
theorem dX8_requireReasonless_17 : decode cX8_requireReasonless 17 = .ok (.invokespecial 379, 3) := by decide +kernel
theorem dX8_requireReasonless_20 : decode cX8_requireReasonless 20 = .ok (.athrow, 1) := by decide +kernel
theorem dX8_requireReasonless_21 : decode cX8_requireReasonless 21 = .ok (.return_, 1) := by decide +kernel
theorem dX8_keepRefusal_0 : decode cX8_keepRefusal 0 = .ok (.aload_n 0, 1) := by decide +kernel
theorem dX8_keepRefusal_1 : decode cX8_keepRefusal 1 = .ok (.iload_n 1, 1) := by decide +kernel
theorem dX8_keepRefusal_2 : decode cX8_keepRefusal 2 = .ok (.putfield 42, 3) := by decide +kernel
theorem dX8_keepRefusal_5 : decode cX8_keepRefusal 5 = .ok (.aload_n 0, 1) := by decide +kernel
theorem dX8_keepRefusal_6 : decode cX8_keepRefusal 6 = .ok (.iload_n 2, 1) := by decide +kernel
theorem dX8_keepRefusal_7 : decode cX8_keepRefusal 7 = .ok (.putfield 45, 3) := by decide +kernel
theorem dX8_keepRefusal_10 : decode cX8_keepRefusal 10 = .ok (.return_, 1) := by decide +kernel
theorem dX8_chainLength_0 : decode cX8_chainLength 0 = .ok (.iconst 0, 1) := by decide +kernel
theorem dX8_chainLength_1 : decode cX8_chainLength 1 = .ok (.istore_n 2, 1) := by decide +kernel
theorem dX8_chainLength_2 : decode cX8_chainLength 2 = .ok (.iload_n 1, 1) := by decide +kernel
theorem dX8_chainLength_3 : decode cX8_chainLength 3 = .ok (.istore_n 3, 1) := by decide +kernel
theorem dX8_chainLength_4 : decode cX8_chainLength 4 = .ok (.iload_n 2, 1) := by decide +kernel
theorem dX8_chainLength_5 : decode cX8_chainLength 5 = .ok (.bipush 60, 2) := by decide +kernel
theorem dX8_chainLength_7 : decode cX8_chainLength 7 = .ok (.if_icmp .ge 26, 3) := by decide +kernel
theorem dX8_chainLength_10 : decode cX8_chainLength 10 = .ok (.iload_n 3, 1) := by decide +kernel
theorem dX8_chainLength_11 : decode cX8_chainLength 11 = .ok (.ifCond .lt 22, 3) := by decide +kernel
theorem dX8_chainLength_14 : decode cX8_chainLength 14 = .ok (.aload_n 0, 1) := by decide +kernel
theorem dX8_chainLength_15 : decode cX8_chainLength 15 = .ok (.getfield 61, 3) := by decide +kernel
theorem dX8_chainLength_18 : decode cX8_chainLength 18 = .ok (.getfield 135, 3) := by decide +kernel
theorem dX8_chainLength_21 : decode cX8_chainLength 21 = .ok (.iload_n 3, 1) := by decide +kernel
theorem dX8_chainLength_22 : decode cX8_chainLength 22 = .ok (.iconst 2, 1) := by decide +kernel
theorem dX8_chainLength_23 : decode cX8_chainLength 23 = .ok (.invokevirtual 121, 3) := by decide +kernel
theorem dX8_chainLength_26 : decode cX8_chainLength 26 = .ok (.istore_n 3, 1) := by decide +kernel
theorem dX8_chainLength_27 : decode cX8_chainLength 27 = .ok (.iinc 2 1, 3) := by decide +kernel
theorem dX8_chainLength_30 : decode cX8_chainLength 30 = .ok (.goto (-26), 3) := by decide +kernel
theorem dX8_chainLength_33 : decode cX8_chainLength 33 = .ok (.iload_n 2, 1) := by decide +kernel
theorem dX8_chainLength_34 : decode cX8_chainLength 34 = .ok (.ireturn, 1) := by decide +kernel
theorem dX8_isDoubtfulMeasurement_0 : decode cX8_isDoubtfulMeasurement 0 = .ok (.aload_n 0, 1) := by decide +kernel
theorem dX8_isDoubtfulMeasurement_1 : decode cX8_isDoubtfulMeasurement 1 = .ok (.getfield 64, 3) := by decide +kernel
theorem dX8_isDoubtfulMeasurement_4 : decode cX8_isDoubtfulMeasurement 4 = .ok (.aload_n 0, 1) := by decide +kernel
theorem dX8_isDoubtfulMeasurement_5 : decode cX8_isDoubtfulMeasurement 5 = .ok (.getfield 61, 3) := by decide +kernel
theorem dX8_isDoubtfulMeasurement_8 : decode cX8_isDoubtfulMeasurement 8 = .ok (.getfield 257, 3) := by decide +kernel
theorem dX8_isDoubtfulMeasurement_11 : decode cX8_isDoubtfulMeasurement 11 = .ok (.iload_n 1, 1) := by decide +kernel
theorem dX8_isDoubtfulMeasurement_12 : decode cX8_isDoubtfulMeasurement 12 = .ok (.iconst 1, 1) := by decide +kernel
theorem dX8_isDoubtfulMeasurement_13 : decode cX8_isDoubtfulMeasurement 13 = .ok (.invokevirtual 121, 3) := by decide +kernel
theorem dX8_isDoubtfulMeasurement_16 : decode cX8_isDoubtfulMeasurement 16 = .ok (.invokevirtual 209, 3) := by decide +kernel
theorem dX8_isDoubtfulMeasurement_19 : decode cX8_isDoubtfulMeasurement 19 = .ok (.ifCond .ne 7, 3) := by decide +kernel
theorem dX8_isDoubtfulMeasurement_22 : decode cX8_isDoubtfulMeasurement 22 = .ok (.iconst 1, 1) := by decide +kernel
theorem dX8_isDoubtfulMeasurement_23 : decode cX8_isDoubtfulMeasurement 23 = .ok (.goto 4, 3) := by decide +kernel
theorem dX8_isDoubtfulMeasurement_26 : decode cX8_isDoubtfulMeasurement 26 = .ok (.iconst 0, 1) := by decide +kernel
theorem dX8_isDoubtfulMeasurement_27 : decode cX8_isDoubtfulMeasurement 27 = .ok (.ireturn, 1) := by decide +kernel
theorem dX8_countDoubtfulMeasurements_0 : decode cX8_countDoubtfulMeasurements 0 = .ok (.iconst 0, 1) := by decide +kernel
theorem dX8_countDoubtfulMeasurements_1 : decode cX8_countDoubtfulMeasurements 1 = .ok (.istore_n 1, 1) := by decide +kernel
theorem dX8_countDoubtfulMeasurements_2 : decode cX8_countDoubtfulMeasurements 2 = .ok (.iconst 0, 1) := by decide +kernel
theorem dX8_countDoubtfulMeasurements_3 : decode cX8_countDoubtfulMeasurements 3 = .ok (.istore_n 2, 1) := by decide +kernel
theorem dX8_countDoubtfulMeasurements_4 : decode cX8_countDoubtfulMeasurements 4 = .ok (.iload_n 2, 1) := by decide +kernel
theorem dX8_countDoubtfulMeasurements_5 : decode cX8_countDoubtfulMeasurements 5 = .ok (.aload_n 0, 1) := by decide +kernel
theorem dX8_countDoubtfulMeasurements_6 : decode cX8_countDoubtfulMeasurements 6 = .ok (.getfield 61, 3) := by decide +kernel
theorem dX8_countDoubtfulMeasurements_9 : decode cX8_countDoubtfulMeasurements 9 = .ok (.getfield 257, 3) := by decide +kernel
theorem dX8_countDoubtfulMeasurements_12 : decode cX8_countDoubtfulMeasurements 12 = .ok (.invokevirtual 178, 3) := by decide +kernel
theorem dX8_countDoubtfulMeasurements_15 : decode cX8_countDoubtfulMeasurements 15 = .ok (.if_icmp .ge 20, 3) := by decide +kernel
theorem dX8_countDoubtfulMeasurements_18 : decode cX8_countDoubtfulMeasurements 18 = .ok (.aload_n 0, 1) := by decide +kernel
theorem dX8_countDoubtfulMeasurements_19 : decode cX8_countDoubtfulMeasurements 19 = .ok (.iload_n 2, 1) := by decide +kernel
theorem dX8_countDoubtfulMeasurements_20 : decode cX8_countDoubtfulMeasurements 20 = .ok (.invokevirtual 260, 3) := by decide +kernel
theorem dX8_countDoubtfulMeasurements_23 : decode cX8_countDoubtfulMeasurements 23 = .ok (.ifCond .eq 6, 3) := by decide +kernel
theorem dX8_countDoubtfulMeasurements_26 : decode cX8_countDoubtfulMeasurements 26 = .ok (.iinc 1 1, 3) := by decide +kernel
theorem dX8_countDoubtfulMeasurements_29 : decode cX8_countDoubtfulMeasurements 29 = .ok (.iinc 2 1, 3) := by decide +kernel
theorem dX8_countDoubtfulMeasurements_32 : decode cX8_countDoubtfulMeasurements 32 = .ok (.goto (-28), 3) := by decide +kernel
theorem dX8_countDoubtfulMeasurements_35 : decode cX8_countDoubtfulMeasurements 35 = .ok (.iload_n 1, 1) := by decide +kernel
theorem dX8_countDoubtfulMeasurements_36 : decode cX8_countDoubtfulMeasurements 36 = .ok (.ireturn, 1) := by decide +kernel
theorem dX8_certificateState_0 : decode cX8_certificateState 0 = .ok (.aload_n 0, 1) := by decide +kernel
theorem dX8_certificateState_1 : decode cX8_certificateState 1 = .ok (.getfield 61, 3) := by decide +kernel
theorem dX8_certificateState_4 : decode cX8_certificateState 4 = .ok (.getfield 280, 3) := by decide +kernel
theorem dX8_certificateState_7 : decode cX8_certificateState 7 = .ok (.iload_n 1, 1) := by decide +kernel
theorem dX8_certificateState_8 : decode cX8_certificateState 8 = .ok (.iconst 0, 1) := by decide +kernel
theorem dX8_certificateState_9 : decode cX8_certificateState 9 = .ok (.invokevirtual 121, 3) := by decide +kernel
theorem dX8_certificateState_12 : decode cX8_certificateState 12 = .ok (.istore_n 2, 1) := by decide +kernel
theorem dX8_certificateState_13 : decode cX8_certificateState 13 = .ok (.aload_n 0, 1) := by decide +kernel
theorem dX8_certificateState_14 : decode cX8_certificateState 14 = .ok (.getfield 64, 3) := by decide +kernel
theorem dX8_certificateState_17 : decode cX8_certificateState 17 = .ok (.iload_n 2, 1) := by decide +kernel
theorem dX8_certificateState_18 : decode cX8_certificateState 18 = .ok (.invokevirtual 209, 3) := by decide +kernel
theorem dX8_certificateState_21 : decode cX8_certificateState 21 = .ok (.ifCond .ne 5, 3) := by decide +kernel
theorem dX8_certificateState_24 : decode cX8_certificateState 24 = .ok (.iconst 2, 1) := by decide +kernel
theorem dX8_certificateState_25 : decode cX8_certificateState 25 = .ok (.ireturn, 1) := by decide +kernel
theorem dX8_certificateState_26 : decode cX8_certificateState 26 = .ok (.aload_n 0, 1) := by decide +kernel
theorem dX8_certificateState_27 : decode cX8_certificateState 27 = .ok (.getfield 68, 3) := by decide +kernel
theorem dX8_certificateState_30 : decode cX8_certificateState 30 = .ok (.iload_n 2, 1) := by decide +kernel
theorem dX8_certificateState_31 : decode cX8_certificateState 31 = .ok (.invokevirtual 148, 3) := by decide +kernel
theorem dX8_certificateState_34 : decode cX8_certificateState 34 = .ok (.ifCond .eq 7, 3) := by decide +kernel
theorem dX8_certificateState_37 : decode cX8_certificateState 37 = .ok (.iconst 1, 1) := by decide +kernel
theorem dX8_certificateState_38 : decode cX8_certificateState 38 = .ok (.goto 4, 3) := by decide +kernel
theorem dX8_certificateState_41 : decode cX8_certificateState 41 = .ok (.iconst 0, 1) := by decide +kernel
theorem dX8_certificateState_42 : decode cX8_certificateState 42 = .ok (.ireturn, 1) := by decide +kernel
theorem dX8_countValidCertificates_0 : decode cX8_countValidCertificates 0 = .ok (.iconst 0, 1) := by decide +kernel
theorem dX8_countValidCertificates_1 : decode cX8_countValidCertificates 1 = .ok (.istore_n 1, 1) := by decide +kernel
theorem dX8_countValidCertificates_2 : decode cX8_countValidCertificates 2 = .ok (.iconst 0, 1) := by decide +kernel
theorem dX8_countValidCertificates_3 : decode cX8_countValidCertificates 3 = .ok (.istore_n 2, 1) := by decide +kernel
theorem dX8_countValidCertificates_4 : decode cX8_countValidCertificates 4 = .ok (.iload_n 2, 1) := by decide +kernel
theorem dX8_countValidCertificates_5 : decode cX8_countValidCertificates 5 = .ok (.aload_n 0, 1) := by decide +kernel
theorem dX8_countValidCertificates_6 : decode cX8_countValidCertificates 6 = .ok (.getfield 61, 3) := by decide +kernel
theorem dX8_countValidCertificates_9 : decode cX8_countValidCertificates 9 = .ok (.getfield 280, 3) := by decide +kernel
theorem dX8_countValidCertificates_12 : decode cX8_countValidCertificates 12 = .ok (.invokevirtual 178, 3) := by decide +kernel
theorem dX8_countValidCertificates_15 : decode cX8_countValidCertificates 15 = .ok (.if_icmp .ge 20, 3) := by decide +kernel
theorem dX8_countValidCertificates_18 : decode cX8_countValidCertificates 18 = .ok (.aload_n 0, 1) := by decide +kernel
theorem dX8_countValidCertificates_19 : decode cX8_countValidCertificates 19 = .ok (.iload_n 2, 1) := by decide +kernel
theorem dX8_countValidCertificates_20 : decode cX8_countValidCertificates 20 = .ok (.invokevirtual 283, 3) := by decide +kernel
theorem dX8_countValidCertificates_23 : decode cX8_countValidCertificates 23 = .ok (.ifCond .ne 6, 3) := by decide +kernel
theorem dX8_countValidCertificates_26 : decode cX8_countValidCertificates 26 = .ok (.iinc 1 1, 3) := by decide +kernel
theorem dX8_countValidCertificates_29 : decode cX8_countValidCertificates 29 = .ok (.iinc 2 1, 3) := by decide +kernel
theorem dX8_countValidCertificates_32 : decode cX8_countValidCertificates 32 = .ok (.goto (-28), 3) := by decide +kernel
theorem dX8_countValidCertificates_35 : decode cX8_countValidCertificates 35 = .ok (.iload_n 1, 1) := by decide +kernel
theorem dX8_countValidCertificates_36 : decode cX8_countValidCertificates 36 = .ok (.ireturn, 1) := by decide +kernel
theorem dX8_writeStandards_0 : decode cX8_writeStandards 0 = .ok (.iload_n 1, 1) := by decide +kernel
theorem dX8_writeStandards_1 : decode cX8_writeStandards 1 = .ok (.istore_n 2, 1) := by decide +kernel
theorem dX8_writeStandards_2 : decode cX8_writeStandards 2 = .ok (.iconst 0, 1) := by decide +kernel
theorem dX8_writeStandards_3 : decode cX8_writeStandards 3 = .ok (.istore_n 3, 1) := by decide +kernel
theorem dX8_writeStandards_4 : decode cX8_writeStandards 4 = .ok (.iload_n 3, 1) := by decide +kernel
theorem dX8_writeStandards_5 : decode cX8_writeStandards 5 = .ok (.bipush 60, 2) := by decide +kernel
theorem dX8_writeStandards_7 : decode cX8_writeStandards 7 = .ok (.if_icmp .ge 60, 3) := by decide +kernel
theorem dX8_writeStandards_10 : decode cX8_writeStandards 10 = .ok (.iload_n 2, 1) := by decide +kernel
theorem dX8_writeStandards_11 : decode cX8_writeStandards 11 = .ok (.ifCond .lt 56, 3) := by decide +kernel
theorem dX8_writeStandards_14 : decode cX8_writeStandards 14 = .ok (.iload_n 3, 1) := by decide +kernel
theorem dX8_writeStandards_15 : decode cX8_writeStandards 15 = .ok (.ifCond .le 13, 3) := by decide +kernel
theorem dX8_writeStandards_18 : decode cX8_writeStandards 18 = .ok (.aload_n 0, 1) := by decide +kernel
theorem dX8_writeStandards_19 : decode cX8_writeStandards 19 = .ok (.getfield 26, 3) := by decide +kernel
theorem dX8_writeStandards_22 : decode cX8_writeStandards 22 = .ok (.bipush 60, 2) := by decide +kernel
theorem dX8_writeStandards_24 : decode cX8_writeStandards 24 = .ok (.invokevirtual 289, 3) := by decide +kernel
theorem dX8_writeStandards_27 : decode cX8_writeStandards 27 = .ok (.pop, 1) := by decide +kernel
theorem dX8_writeStandards_28 : decode cX8_writeStandards 28 = .ok (.aload_n 0, 1) := by decide +kernel
theorem dX8_writeStandards_29 : decode cX8_writeStandards 29 = .ok (.getfield 26, 3) := by decide +kernel
theorem dX8_writeStandards_32 : decode cX8_writeStandards 32 = .ok (.aload_n 0, 1) := by decide +kernel
theorem dX8_writeStandards_33 : decode cX8_writeStandards 33 = .ok (.getfield 61, 3) := by decide +kernel
theorem dX8_writeStandards_36 : decode cX8_writeStandards 36 = .ok (.getfield 135, 3) := by decide +kernel
theorem dX8_writeStandards_39 : decode cX8_writeStandards 39 = .ok (.iload_n 2, 1) := by decide +kernel
theorem dX8_writeStandards_40 : decode cX8_writeStandards 40 = .ok (.iconst 1, 1) := by decide +kernel
theorem dX8_writeStandards_41 : decode cX8_writeStandards 41 = .ok (.invokevirtual 121, 3) := by decide +kernel
theorem dX8_writeStandards_44 : decode cX8_writeStandards 44 = .ok (.invokevirtual 293, 3) := by decide +kernel
theorem dX8_writeStandards_47 : decode cX8_writeStandards 47 = .ok (.pop, 1) := by decide +kernel
theorem dX8_writeStandards_48 : decode cX8_writeStandards 48 = .ok (.aload_n 0, 1) := by decide +kernel
theorem dX8_writeStandards_49 : decode cX8_writeStandards 49 = .ok (.getfield 61, 3) := by decide +kernel
theorem dX8_writeStandards_52 : decode cX8_writeStandards 52 = .ok (.getfield 135, 3) := by decide +kernel
theorem dX8_writeStandards_55 : decode cX8_writeStandards 55 = .ok (.iload_n 2, 1) := by decide +kernel
theorem dX8_writeStandards_56 : decode cX8_writeStandards 56 = .ok (.iconst 2, 1) := by decide +kernel
theorem dX8_writeStandards_57 : decode cX8_writeStandards 57 = .ok (.invokevirtual 121, 3) := by decide +kernel
theorem dX8_writeStandards_60 : decode cX8_writeStandards 60 = .ok (.istore_n 2, 1) := by decide +kernel
theorem dX8_writeStandards_61 : decode cX8_writeStandards 61 = .ok (.iinc 3 1, 3) := by decide +kernel
theorem dX8_writeStandards_64 : decode cX8_writeStandards 64 = .ok (.goto (-60), 3) := by decide +kernel
theorem dX8_writeStandards_67 : decode cX8_writeStandards 67 = .ok (.return_, 1) := by decide +kernel
theorem dX8_findDueDays_0 : decode cX8_findDueDays 0 = .ok (.iconst 0, 1) := by decide +kernel
theorem dX8_findDueDays_1 : decode cX8_findDueDays 1 = .ok (.istore_n 1, 1) := by decide +kernel
theorem dX8_findDueDays_2 : decode cX8_findDueDays 2 = .ok (.iload_n 1, 1) := by decide +kernel
theorem dX8_findDueDays_3 : decode cX8_findDueDays 3 = .ok (.aload_n 0, 1) := by decide +kernel
theorem dX8_findDueDays_4 : decode cX8_findDueDays 4 = .ok (.getfield 30, 3) := by decide +kernel
theorem dX8_findDueDays_7 : decode cX8_findDueDays 7 = .ok (.arraylength, 1) := by decide +kernel
theorem dX8_findDueDays_8 : decode cX8_findDueDays 8 = .ok (.if_icmp .ge 40, 3) := by decide +kernel
theorem dX8_findDueDays_11 : decode cX8_findDueDays 11 = .ok (.aload_n 0, 1) := by decide +kernel
theorem dX8_findDueDays_12 : decode cX8_findDueDays 12 = .ok (.getfield 64, 3) := by decide +kernel
theorem dX8_findDueDays_15 : decode cX8_findDueDays 15 = .ok (.iload_n 1, 1) := by decide +kernel
theorem dX8_findDueDays_16 : decode cX8_findDueDays 16 = .ok (.invokevirtual 141, 3) := by decide +kernel
theorem dX8_findDueDays_19 : decode cX8_findDueDays 19 = .ok (.istore_n 2, 1) := by decide +kernel
theorem dX8_findDueDays_20 : decode cX8_findDueDays 20 = .ok (.aload_n 0, 1) := by decide +kernel
theorem dX8_findDueDays_21 : decode cX8_findDueDays 21 = .ok (.getfield 30, 3) := by decide +kernel
theorem dX8_findDueDays_24 : decode cX8_findDueDays 24 = .ok (.iload_n 1, 1) := by decide +kernel
theorem dX8_findDueDays_25 : decode cX8_findDueDays 25 = .ok (.iload_n 2, 1) := by decide +kernel
theorem dX8_findDueDays_26 : decode cX8_findDueDays 26 = .ok (.ifCond .ge 7, 3) := by decide +kernel
theorem dX8_findDueDays_29 : decode cX8_findDueDays 29 = .ok (.iconst (-1), 1) := by decide +kernel
theorem dX8_findDueDays_30 : decode cX8_findDueDays 30 = .ok (.goto 11, 3) := by decide +kernel
theorem dX8_findDueDays_33 : decode cX8_findDueDays 33 = .ok (.aload_n 0, 1) := by decide +kernel
theorem dX8_findDueDays_34 : decode cX8_findDueDays 34 = .ok (.getfield 68, 3) := by decide +kernel
theorem dX8_findDueDays_37 : decode cX8_findDueDays 37 = .ok (.iload_n 2, 1) := by decide +kernel
theorem dX8_findDueDays_38 : decode cX8_findDueDays 38 = .ok (.invokevirtual 145, 3) := by decide +kernel
theorem dX8_findDueDays_41 : decode cX8_findDueDays 41 = .ok (.iastore, 1) := by decide +kernel
theorem dX8_findDueDays_42 : decode cX8_findDueDays 42 = .ok (.iinc 1 1, 3) := by decide +kernel
theorem dX8_findDueDays_45 : decode cX8_findDueDays 45 = .ok (.goto (-43), 3) := by decide +kernel
theorem dX8_findDueDays_48 : decode cX8_findDueDays 48 = .ok (.return_, 1) := by decide +kernel
theorem dX8_placeByDueDay_0 : decode cX8_placeByDueDay 0 = .ok (.iload_n 1, 1) := by decide +kernel
theorem dX8_placeByDueDay_1 : decode cX8_placeByDueDay 1 = .ok (.ifCond .lt 21, 3) := by decide +kernel
theorem dX8_placeByDueDay_4 : decode cX8_placeByDueDay 4 = .ok (.iload_n 1, 1) := by decide +kernel
theorem dX8_placeByDueDay_5 : decode cX8_placeByDueDay 5 = .ok (.aload_n 0, 1) := by decide +kernel
theorem dX8_placeByDueDay_6 : decode cX8_placeByDueDay 6 = .ok (.getfield 30, 3) := by decide +kernel
theorem dX8_placeByDueDay_9 : decode cX8_placeByDueDay 9 = .ok (.arraylength, 1) := by decide +kernel
theorem dX8_placeByDueDay_10 : decode cX8_placeByDueDay 10 = .ok (.if_icmp .ge 12, 3) := by decide +kernel
theorem dX8_placeByDueDay_13 : decode cX8_placeByDueDay 13 = .ok (.aload_n 0, 1) := by decide +kernel
theorem dX8_placeByDueDay_14 : decode cX8_placeByDueDay 14 = .ok (.getfield 30, 3) := by decide +kernel
theorem dX8_placeByDueDay_17 : decode cX8_placeByDueDay 17 = .ok (.iload_n 1, 1) := by decide +kernel
theorem dX8_placeByDueDay_18 : decode cX8_placeByDueDay 18 = .ok (.iaload, 1) := by decide +kernel
theorem dX8_placeByDueDay_19 : decode cX8_placeByDueDay 19 = .ok (.ifCond .ge 5, 3) := by decide +kernel
theorem dX8_placeByDueDay_22 : decode cX8_placeByDueDay 22 = .ok (.iconst (-1), 1) := by decide +kernel
theorem dX8_placeByDueDay_23 : decode cX8_placeByDueDay 23 = .ok (.ireturn, 1) := by decide +kernel
theorem dX8_placeByDueDay_24 : decode cX8_placeByDueDay 24 = .ok (.iconst 0, 1) := by decide +kernel
theorem dX8_placeByDueDay_25 : decode cX8_placeByDueDay 25 = .ok (.istore_n 2, 1) := by decide +kernel
theorem dX8_placeByDueDay_26 : decode cX8_placeByDueDay 26 = .ok (.iconst 0, 1) := by decide +kernel
theorem dX8_placeByDueDay_27 : decode cX8_placeByDueDay 27 = .ok (.istore_n 3, 1) := by decide +kernel
theorem dX8_placeByDueDay_28 : decode cX8_placeByDueDay 28 = .ok (.iload_n 3, 1) := by decide +kernel
theorem dX8_placeByDueDay_29 : decode cX8_placeByDueDay 29 = .ok (.aload_n 0, 1) := by decide +kernel
theorem dX8_placeByDueDay_30 : decode cX8_placeByDueDay 30 = .ok (.getfield 30, 3) := by decide +kernel
theorem dX8_placeByDueDay_33 : decode cX8_placeByDueDay 33 = .ok (.arraylength, 1) := by decide +kernel
theorem dX8_placeByDueDay_34 : decode cX8_placeByDueDay 34 = .ok (.if_icmp .ge 68, 3) := by decide +kernel
theorem dX8_placeByDueDay_37 : decode cX8_placeByDueDay 37 = .ok (.aload_n 0, 1) := by decide +kernel
theorem dX8_placeByDueDay_38 : decode cX8_placeByDueDay 38 = .ok (.getfield 30, 3) := by decide +kernel
theorem dX8_placeByDueDay_41 : decode cX8_placeByDueDay 41 = .ok (.iload_n 3, 1) := by decide +kernel
theorem dX8_placeByDueDay_42 : decode cX8_placeByDueDay 42 = .ok (.iaload, 1) := by decide +kernel
theorem dX8_placeByDueDay_43 : decode cX8_placeByDueDay 43 = .ok (.aload_n 0, 1) := by decide +kernel
theorem dX8_placeByDueDay_44 : decode cX8_placeByDueDay 44 = .ok (.getfield 30, 3) := by decide +kernel
theorem dX8_placeByDueDay_47 : decode cX8_placeByDueDay 47 = .ok (.iload_n 1, 1) := by decide +kernel
theorem dX8_placeByDueDay_48 : decode cX8_placeByDueDay 48 = .ok (.iaload, 1) := by decide +kernel
theorem dX8_placeByDueDay_49 : decode cX8_placeByDueDay 49 = .ok (.if_icmp .lt 23, 3) := by decide +kernel
theorem dX8_placeByDueDay_52 : decode cX8_placeByDueDay 52 = .ok (.aload_n 0, 1) := by decide +kernel
theorem dX8_placeByDueDay_53 : decode cX8_placeByDueDay 53 = .ok (.getfield 30, 3) := by decide +kernel
theorem dX8_placeByDueDay_56 : decode cX8_placeByDueDay 56 = .ok (.iload_n 3, 1) := by decide +kernel
theorem dX8_placeByDueDay_57 : decode cX8_placeByDueDay 57 = .ok (.iaload, 1) := by decide +kernel
theorem dX8_placeByDueDay_58 : decode cX8_placeByDueDay 58 = .ok (.aload_n 0, 1) := by decide +kernel
theorem dX8_placeByDueDay_59 : decode cX8_placeByDueDay 59 = .ok (.getfield 30, 3) := by decide +kernel
theorem dX8_placeByDueDay_62 : decode cX8_placeByDueDay 62 = .ok (.iload_n 1, 1) := by decide +kernel
theorem dX8_placeByDueDay_63 : decode cX8_placeByDueDay 63 = .ok (.iaload, 1) := by decide +kernel
theorem dX8_placeByDueDay_64 : decode cX8_placeByDueDay 64 = .ok (.if_icmp .ne 12, 3) := by decide +kernel
theorem dX8_placeByDueDay_67 : decode cX8_placeByDueDay 67 = .ok (.iload_n 3, 1) := by decide +kernel
theorem dX8_placeByDueDay_68 : decode cX8_placeByDueDay 68 = .ok (.iload_n 1, 1) := by decide +kernel
theorem dX8_placeByDueDay_69 : decode cX8_placeByDueDay 69 = .ok (.if_icmp .ge 7, 3) := by decide +kernel
theorem dX8_placeByDueDay_72 : decode cX8_placeByDueDay 72 = .ok (.iconst 1, 1) := by decide +kernel
theorem dX8_placeByDueDay_73 : decode cX8_placeByDueDay 73 = .ok (.goto 4, 3) := by decide +kernel
theorem dX8_placeByDueDay_76 : decode cX8_placeByDueDay 76 = .ok (.iconst 0, 1) := by decide +kernel
theorem dX8_placeByDueDay_77 : decode cX8_placeByDueDay 77 = .ok (.istore 4, 2) := by decide +kernel
theorem dX8_placeByDueDay_79 : decode cX8_placeByDueDay 79 = .ok (.aload_n 0, 1) := by decide +kernel
theorem dX8_placeByDueDay_80 : decode cX8_placeByDueDay 80 = .ok (.getfield 30, 3) := by decide +kernel
theorem dX8_placeByDueDay_83 : decode cX8_placeByDueDay 83 = .ok (.iload_n 3, 1) := by decide +kernel
theorem dX8_placeByDueDay_84 : decode cX8_placeByDueDay 84 = .ok (.iaload, 1) := by decide +kernel
theorem dX8_placeByDueDay_85 : decode cX8_placeByDueDay 85 = .ok (.ifCond .lt 11, 3) := by decide +kernel
theorem dX8_placeByDueDay_88 : decode cX8_placeByDueDay 88 = .ok (.iload 4, 2) := by decide +kernel
theorem dX8_placeByDueDay_90 : decode cX8_placeByDueDay 90 = .ok (.ifCond .eq 6, 3) := by decide +kernel
theorem dX8_placeByDueDay_93 : decode cX8_placeByDueDay 93 = .ok (.iinc 2 1, 3) := by decide +kernel
theorem dX8_placeByDueDay_96 : decode cX8_placeByDueDay 96 = .ok (.iinc 3 1, 3) := by decide +kernel
theorem dX8_placeByDueDay_99 : decode cX8_placeByDueDay 99 = .ok (.goto (-71), 3) := by decide +kernel
theorem dX8_placeByDueDay_102 : decode cX8_placeByDueDay 102 = .ok (.iload_n 2, 1) := by decide +kernel
theorem dX8_placeByDueDay_103 : decode cX8_placeByDueDay 103 = .ok (.ireturn, 1) := by decide +kernel
theorem dX8_reasonAgainst_0 : decode cX8_reasonAgainst 0 = .ok (.aload_n 0, 1) := by decide +kernel
theorem dX8_reasonAgainst_1 : decode cX8_reasonAgainst 1 = .ok (.getfield 84, 3) := by decide +kernel
theorem dX8_reasonAgainst_4 : decode cX8_reasonAgainst 4 = .ok (.iload_n 1, 1) := by decide +kernel
theorem dX8_reasonAgainst_5 : decode cX8_reasonAgainst 5 = .ok (.iload_n 2, 1) := by decide +kernel
theorem dX8_reasonAgainst_6 : decode cX8_reasonAgainst 6 = .ok (.iload_n 3, 1) := by decide +kernel
theorem dX8_reasonAgainst_7 : decode cX8_reasonAgainst 7 = .ok (.iload 4, 2) := by decide +kernel
theorem dX8_reasonAgainst_9 : decode cX8_reasonAgainst 9 = .ok (.invokevirtual 430, 3) := by decide +kernel
theorem dX8_reasonAgainst_12 : decode cX8_reasonAgainst 12 = .ok (.ifCond .eq 6, 3) := by decide +kernel
theorem dX8_reasonAgainst_15 : decode cX8_reasonAgainst 15 = .ok (.bipush 10, 2) := by decide +kernel
theorem dX8_reasonAgainst_17 : decode cX8_reasonAgainst 17 = .ok (.ireturn, 1) := by decide +kernel
theorem dX8_reasonAgainst_18 : decode cX8_reasonAgainst 18 = .ok (.iload_n 1, 1) := by decide +kernel
theorem dX8_reasonAgainst_19 : decode cX8_reasonAgainst 19 = .ok (.lookupswitch 61 #[(1, 33), (5, 43), (6, 52)], 33) := by decide +kernel
theorem dX8_reasonAgainst_52 : decode cX8_reasonAgainst 52 = .ok (.aload_n 0, 1) := by decide +kernel
theorem dX8_reasonAgainst_53 : decode cX8_reasonAgainst 53 = .ok (.getfield 77, 3) := by decide +kernel
theorem dX8_reasonAgainst_56 : decode cX8_reasonAgainst 56 = .ok (.iload_n 2, 1) := by decide +kernel
theorem dX8_reasonAgainst_57 : decode cX8_reasonAgainst 57 = .ok (.iload_n 3, 1) := by decide +kernel
theorem dX8_reasonAgainst_58 : decode cX8_reasonAgainst 58 = .ok (.invokevirtual 189, 3) := by decide +kernel
theorem dX8_reasonAgainst_61 : decode cX8_reasonAgainst 61 = .ok (.ireturn, 1) := by decide +kernel
theorem dX8_reasonAgainst_62 : decode cX8_reasonAgainst 62 = .ok (.aload_n 0, 1) := by decide +kernel
theorem dX8_reasonAgainst_63 : decode cX8_reasonAgainst 63 = .ok (.getfield 77, 3) := by decide +kernel
theorem dX8_reasonAgainst_66 : decode cX8_reasonAgainst 66 = .ok (.iload_n 2, 1) := by decide +kernel
theorem dX8_reasonAgainst_67 : decode cX8_reasonAgainst 67 = .ok (.invokevirtual 251, 3) := by decide +kernel
theorem dX8_reasonAgainst_70 : decode cX8_reasonAgainst 70 = .ok (.ireturn, 1) := by decide +kernel
theorem dX8_reasonAgainst_71 : decode cX8_reasonAgainst 71 = .ok (.aload_n 0, 1) := by decide +kernel
theorem dX8_reasonAgainst_72 : decode cX8_reasonAgainst 72 = .ok (.getfield 77, 3) := by decide +kernel
theorem dX8_reasonAgainst_75 : decode cX8_reasonAgainst 75 = .ok (.iload_n 2, 1) := by decide +kernel
theorem dX8_reasonAgainst_76 : decode cX8_reasonAgainst 76 = .ok (.invokevirtual 274, 3) := by decide +kernel
theorem dX8_reasonAgainst_79 : decode cX8_reasonAgainst 79 = .ok (.ireturn, 1) := by decide +kernel
theorem dX8_reasonAgainst_80 : decode cX8_reasonAgainst 80 = .ok (.iconst 0, 1) := by decide +kernel
theorem dX8_reasonAgainst_81 : decode cX8_reasonAgainst 81 = .ok (.ireturn, 1) := by decide +kernel
