theorem dL_addItem_0 : decode cL_addItem 0 = .ok (.aload 5, 2) := by decide +kernel
theorem dL_addItem_2 : decode cL_addItem 2 = .ok (.iconst 0, 1) := by decide +kernel
theorem dL_addItem_3 : decode cL_addItem 3 = .ok (.aload_n 0, 1) := by decide +kernel
theorem dL_addItem_4 : decode cL_addItem 4 = .ok (.iload_n 1, 1) := by decide +kernel
theorem dL_addItem_5 : decode cL_addItem 5 = .ok (.iload_n 2, 1) := by decide +kernel
theorem dL_addItem_6 : decode cL_addItem 6 = .ok (.iload_n 3, 1) := by decide +kernel
theorem dL_addItem_7 : decode cL_addItem 7 = .ok (.iload 4, 2) := by decide +kernel
theorem dL_addItem_9 : decode cL_addItem 9 = .ok (.invokevirtual 7, 3) := by decide +kernel
theorem dL_addItem_12 : decode cL_addItem 12 = .ok (.i2l, 1) := by decide +kernel
theorem dL_addItem_13 : decode cL_addItem 13 = .ok (.lastore, 1) := by decide +kernel
theorem dL_addItem_14 : decode cL_addItem 14 = .ok (.goto 15, 3) := by decide +kernel
theorem dL_addItem_17 : decode cL_addItem 17 = .ok (.astore 6, 2) := by decide +kernel
theorem dL_addItem_19 : decode cL_addItem 19 = .ok (.iconst 1, 1) := by decide +kernel
theorem dL_addItem_20 : decode cL_addItem 20 = .ok (.ireturn, 1) := by decide +kernel
theorem dL_addItem_21 : decode cL_addItem 21 = .ok (.astore 6, 2) := by decide +kernel
theorem dL_addItem_23 : decode cL_addItem 23 = .ok (.iconst 2, 1) := by decide +kernel
theorem dL_addItem_24 : decode cL_addItem 24 = .ok (.ireturn, 1) := by decide +kernel
theorem dL_addItem_25 : decode cL_addItem 25 = .ok (.astore 6, 2) := by decide +kernel
theorem dL_addItem_27 : decode cL_addItem 27 = .ok (.iconst 3, 1) := by decide +kernel
theorem dL_addItem_28 : decode cL_addItem 28 = .ok (.ireturn, 1) := by decide +kernel
theorem dL_addItem_29 : decode cL_addItem 29 = .ok (.iconst 0, 1) := by decide +kernel
theorem dL_addItem_30 : decode cL_addItem 30 = .ok (.ireturn, 1) := by decide +kernel
theorem dL_set_0 : decode cL_set 0 = .ok (.aload 4, 2) := by decide +kernel
theorem dL_set_2 : decode cL_set 2 = .ok (.iconst 0, 1) := by decide +kernel
theorem dL_set_3 : decode cL_set 3 = .ok (.aload_n 0, 1) := by decide +kernel
theorem dL_set_4 : decode cL_set 4 = .ok (.iload_n 1, 1) := by decide +kernel
theorem dL_set_5 : decode cL_set 5 = .ok (.iload_n 2, 1) := by decide +kernel
theorem dL_set_6 : decode cL_set 6 = .ok (.iload_n 3, 1) := by decide +kernel
theorem dL_set_7 : decode cL_set 7 = .ok (.invokevirtual 19, 3) := by decide +kernel
theorem dL_set_10 : decode cL_set 10 = .ok (.i2l, 1) := by decide +kernel
theorem dL_set_11 : decode cL_set 11 = .ok (.lastore, 1) := by decide +kernel
theorem dL_set_12 : decode cL_set 12 = .ok (.goto 11, 3) := by decide +kernel
theorem dL_set_15 : decode cL_set 15 = .ok (.astore 5, 2) := by decide +kernel
theorem dL_set_17 : decode cL_set 17 = .ok (.iconst 1, 1) := by decide +kernel
theorem dL_set_18 : decode cL_set 18 = .ok (.ireturn, 1) := by decide +kernel
theorem dL_set_19 : decode cL_set 19 = .ok (.astore 5, 2) := by decide +kernel
theorem dL_set_21 : decode cL_set 21 = .ok (.iconst 2, 1) := by decide +kernel
theorem dL_set_22 : decode cL_set 22 = .ok (.ireturn, 1) := by decide +kernel
theorem dL_set_23 : decode cL_set 23 = .ok (.iconst 0, 1) := by decide +kernel
theorem dL_set_24 : decode cL_set 24 = .ok (.ireturn, 1) := by decide +kernel
theorem dL_item_0 : decode cL_item 0 = .ok (.aload_n 3, 1) := by decide +kernel
theorem dL_item_1 : decode cL_item 1 = .ok (.iconst 0, 1) := by decide +kernel
theorem dL_item_2 : decode cL_item 2 = .ok (.aload_n 0, 1) := by decide +kernel
theorem dL_item_3 : decode cL_item 3 = .ok (.iload_n 1, 1) := by decide +kernel
theorem dL_item_4 : decode cL_item 4 = .ok (.iload_n 2, 1) := by decide +kernel
theorem dL_item_5 : decode cL_item 5 = .ok (.invokevirtual 23, 3) := by decide +kernel
theorem dL_item_8 : decode cL_item 8 = .ok (.i2l, 1) := by decide +kernel
theorem dL_item_9 : decode cL_item 9 = .ok (.lastore, 1) := by decide +kernel
theorem dL_item_10 : decode cL_item 10 = .ok (.goto 11, 3) := by decide +kernel
theorem dL_item_13 : decode cL_item 13 = .ok (.astore 4, 2) := by decide +kernel
theorem dL_item_15 : decode cL_item 15 = .ok (.iconst 1, 1) := by decide +kernel
theorem dL_item_16 : decode cL_item 16 = .ok (.ireturn, 1) := by decide +kernel
theorem dL_item_17 : decode cL_item 17 = .ok (.astore 4, 2) := by decide +kernel
theorem dL_item_19 : decode cL_item 19 = .ok (.iconst 2, 1) := by decide +kernel
theorem dL_item_20 : decode cL_item 20 = .ok (.ireturn, 1) := by decide +kernel
theorem dL_item_21 : decode cL_item 21 = .ok (.iconst 0, 1) := by decide +kernel
theorem dL_item_22 : decode cL_item 22 = .ok (.ireturn, 1) := by decide +kernel
theorem dL_pass_0 : decode cL_pass 0 = .ok (.aload_n 2, 1) := by decide +kernel
theorem dL_pass_1 : decode cL_pass 1 = .ok (.iconst 0, 1) := by decide +kernel
theorem dL_pass_2 : decode cL_pass 2 = .ok (.aload_n 0, 1) := by decide +kernel
theorem dL_pass_3 : decode cL_pass 3 = .ok (.iload_n 1, 1) := by decide +kernel
theorem dL_pass_4 : decode cL_pass 4 = .ok (.invokevirtual 27, 3) := by decide +kernel
theorem dL_pass_7 : decode cL_pass 7 = .ok (.i2l, 1) := by decide +kernel
theorem dL_pass_8 : decode cL_pass 8 = .ok (.lastore, 1) := by decide +kernel
theorem dL_pass_9 : decode cL_pass 9 = .ok (.goto 9, 3) := by decide +kernel
theorem dL_pass_12 : decode cL_pass 12 = .ok (.astore_n 3, 1) := by decide +kernel
theorem dL_pass_13 : decode cL_pass 13 = .ok (.iconst 1, 1) := by decide +kernel
theorem dL_pass_14 : decode cL_pass 14 = .ok (.ireturn, 1) := by decide +kernel
theorem dL_pass_15 : decode cL_pass 15 = .ok (.astore_n 3, 1) := by decide +kernel
theorem dL_pass_16 : decode cL_pass 16 = .ok (.iconst 2, 1) := by decide +kernel
theorem dL_pass_17 : decode cL_pass 17 = .ok (.ireturn, 1) := by decide +kernel
theorem dL_pass_18 : decode cL_pass 18 = .ok (.iconst 0, 1) := by decide +kernel
theorem dL_pass_19 : decode cL_pass 19 = .ok (.ireturn, 1) := by decide +kernel
theorem dL_part_0 : decode cL_part 0 = .ok (.aload_n 3, 1) := by decide +kernel
theorem dL_part_1 : decode cL_part 1 = .ok (.iconst 0, 1) := by decide +kernel
theorem dL_part_2 : decode cL_part 2 = .ok (.aload_n 0, 1) := by decide +kernel
theorem dL_part_3 : decode cL_part 3 = .ok (.iload_n 1, 1) := by decide +kernel
theorem dL_part_4 : decode cL_part 4 = .ok (.iload_n 2, 1) := by decide +kernel
theorem dL_part_5 : decode cL_part 5 = .ok (.invokevirtual 31, 3) := by decide +kernel
theorem dL_part_8 : decode cL_part 8 = .ok (.i2l, 1) := by decide +kernel
theorem dL_part_9 : decode cL_part 9 = .ok (.lastore, 1) := by decide +kernel
theorem dL_part_10 : decode cL_part 10 = .ok (.goto 15, 3) := by decide +kernel
theorem dL_part_13 : decode cL_part 13 = .ok (.astore 4, 2) := by decide +kernel
theorem dL_part_15 : decode cL_part 15 = .ok (.iconst 1, 1) := by decide +kernel
theorem dL_part_16 : decode cL_part 16 = .ok (.ireturn, 1) := by decide +kernel
theorem dL_part_17 : decode cL_part 17 = .ok (.astore 4, 2) := by decide +kernel
theorem dL_part_19 : decode cL_part 19 = .ok (.iconst 2, 1) := by decide +kernel
theorem dL_part_20 : decode cL_part 20 = .ok (.ireturn, 1) := by decide +kernel
theorem dL_part_21 : decode cL_part 21 = .ok (.astore 4, 2) := by decide +kernel
theorem dL_part_23 : decode cL_part 23 = .ok (.iconst 3, 1) := by decide +kernel
theorem dL_part_24 : decode cL_part 24 = .ok (.ireturn, 1) := by decide +kernel
theorem dL_part_25 : decode cL_part 25 = .ok (.iconst 0, 1) := by decide +kernel
theorem dL_part_26 : decode cL_part 26 = .ok (.ireturn, 1) := by decide +kernel
theorem dL_square_0 : decode cL_square 0 = .ok (.aload_n 2, 1) := by decide +kernel
theorem dL_square_1 : decode cL_square 1 = .ok (.iconst 0, 1) := by decide +kernel
theorem dL_square_2 : decode cL_square 2 = .ok (.aload_n 0, 1) := by decide +kernel
theorem dL_square_3 : decode cL_square 3 = .ok (.iload_n 1, 1) := by decide +kernel
theorem dL_square_4 : decode cL_square 4 = .ok (.invokevirtual 34, 3) := by decide +kernel
theorem dL_square_7 : decode cL_square 7 = .ok (.i2l, 1) := by decide +kernel
theorem dL_square_8 : decode cL_square 8 = .ok (.lastore, 1) := by decide +kernel
theorem dL_square_9 : decode cL_square 9 = .ok (.goto 6, 3) := by decide +kernel
theorem dL_square_12 : decode cL_square 12 = .ok (.astore_n 3, 1) := by decide +kernel
theorem dL_square_13 : decode cL_square 13 = .ok (.iconst 1, 1) := by decide +kernel
theorem dL_square_14 : decode cL_square 14 = .ok (.ireturn, 1) := by decide +kernel
theorem dL_square_15 : decode cL_square 15 = .ok (.iconst 0, 1) := by decide +kernel
theorem dL_square_16 : decode cL_square 16 = .ok (.ireturn, 1) := by decide +kernel
theorem dL_calibrate_0 : decode cL_calibrate 0 = .ok (.aload 4, 2) := by decide +kernel
theorem dL_calibrate_2 : decode cL_calibrate 2 = .ok (.iconst 0, 1) := by decide +kernel
theorem dL_calibrate_3 : decode cL_calibrate 3 = .ok (.aload_n 0, 1) := by decide +kernel
theorem dL_calibrate_4 : decode cL_calibrate 4 = .ok (.iload_n 1, 1) := by decide +kernel
theorem dL_calibrate_5 : decode cL_calibrate 5 = .ok (.iload_n 2, 1) := by decide +kernel
theorem dL_calibrate_6 : decode cL_calibrate 6 = .ok (.iload_n 3, 1) := by decide +kernel
theorem dL_calibrate_7 : decode cL_calibrate 7 = .ok (.invokevirtual 39, 3) := by decide +kernel
theorem dL_calibrate_10 : decode cL_calibrate 10 = .ok (.i2l, 1) := by decide +kernel
theorem dL_calibrate_11 : decode cL_calibrate 11 = .ok (.lastore, 1) := by decide +kernel
theorem dL_calibrate_12 : decode cL_calibrate 12 = .ok (.goto 15, 3) := by decide +kernel
theorem dL_calibrate_15 : decode cL_calibrate 15 = .ok (.astore 5, 2) := by decide +kernel
theorem dL_calibrate_17 : decode cL_calibrate 17 = .ok (.iconst 1, 1) := by decide +kernel
theorem dL_calibrate_18 : decode cL_calibrate 18 = .ok (.ireturn, 1) := by decide +kernel
theorem dL_calibrate_19 : decode cL_calibrate 19 = .ok (.astore 5, 2) := by decide +kernel
theorem dL_calibrate_21 : decode cL_calibrate 21 = .ok (.iconst 2, 1) := by decide +kernel
theorem dL_calibrate_22 : decode cL_calibrate 22 = .ok (.ireturn, 1) := by decide +kernel
theorem dL_calibrate_23 : decode cL_calibrate 23 = .ok (.astore 5, 2) := by decide +kernel
theorem dL_calibrate_25 : decode cL_calibrate 25 = .ok (.iconst 3, 1) := by decide +kernel
theorem dL_calibrate_26 : decode cL_calibrate 26 = .ok (.ireturn, 1) := by decide +kernel
theorem dL_calibrate_27 : decode cL_calibrate 27 = .ok (.iconst 0, 1) := by decide +kernel
theorem dL_calibrate_28 : decode cL_calibrate 28 = .ok (.ireturn, 1) := by decide +kernel
theorem dL_wouldRefuse_0 : decode cL_wouldRefuse 0 = .ok (.aload_n 3, 1) := by decide +kernel
theorem dL_wouldRefuse_1 : decode cL_wouldRefuse 1 = .ok (.iconst 0, 1) := by decide +kernel
theorem dL_wouldRefuse_2 : decode cL_wouldRefuse 2 = .ok (.aload_n 0, 1) := by decide +kernel
theorem dL_wouldRefuse_3 : decode cL_wouldRefuse 3 = .ok (.iload_n 1, 1) := by decide +kernel
theorem dL_wouldRefuse_4 : decode cL_wouldRefuse 4 = .ok (.iload_n 2, 1) := by decide +kernel
theorem dL_wouldRefuse_5 : decode cL_wouldRefuse 5 = .ok (.invokevirtual 44, 3) := by decide +kernel
theorem dL_wouldRefuse_8 : decode cL_wouldRefuse 8 = .ok (.i2l, 1) := by decide +kernel
theorem dL_wouldRefuse_9 : decode cL_wouldRefuse 9 = .ok (.lastore, 1) := by decide +kernel
theorem dL_wouldRefuse_10 : decode cL_wouldRefuse 10 = .ok (.goto 7, 3) := by decide +kernel
theorem dL_wouldRefuse_13 : decode cL_wouldRefuse 13 = .ok (.astore 4, 2) := by decide +kernel
theorem dL_wouldRefuse_15 : decode cL_wouldRefuse 15 = .ok (.iconst 1, 1) := by decide +kernel
theorem dL_wouldRefuse_16 : decode cL_wouldRefuse 16 = .ok (.ireturn, 1) := by decide +kernel
theorem dL_wouldRefuse_17 : decode cL_wouldRefuse 17 = .ok (.iconst 0, 1) := by decide +kernel
theorem dL_wouldRefuse_18 : decode cL_wouldRefuse 18 = .ok (.ireturn, 1) := by decide +kernel
theorem dL_best_0 : decode cL_best 0 = .ok (.aload_n 2, 1) := by decide +kernel
theorem dL_best_1 : decode cL_best 1 = .ok (.iconst 0, 1) := by decide +kernel
theorem dL_best_2 : decode cL_best 2 = .ok (.aload_n 0, 1) := by decide +kernel
theorem dL_best_3 : decode cL_best 3 = .ok (.iload_n 1, 1) := by decide +kernel
theorem dL_best_4 : decode cL_best 4 = .ok (.invokevirtual 47, 3) := by decide +kernel
theorem dL_best_7 : decode cL_best 7 = .ok (.i2l, 1) := by decide +kernel
theorem dL_best_8 : decode cL_best 8 = .ok (.lastore, 1) := by decide +kernel
theorem dL_best_9 : decode cL_best 9 = .ok (.goto 9, 3) := by decide +kernel
theorem dL_best_12 : decode cL_best 12 = .ok (.astore_n 3, 1) := by decide +kernel
theorem dL_best_13 : decode cL_best 13 = .ok (.iconst 1, 1) := by decide +kernel
theorem dL_best_14 : decode cL_best 14 = .ok (.ireturn, 1) := by decide +kernel
theorem dL_best_15 : decode cL_best 15 = .ok (.astore_n 3, 1) := by decide +kernel
theorem dL_best_16 : decode cL_best 16 = .ok (.iconst 2, 1) := by decide +kernel
theorem dL_best_17 : decode cL_best 17 = .ok (.ireturn, 1) := by decide +kernel
theorem dL_best_18 : decode cL_best 18 = .ok (.iconst 0, 1) := by decide +kernel
theorem dL_best_19 : decode cL_best 19 = .ok (.ireturn, 1) := by decide +kernel
theorem dL_calibration_0 : decode cL_calibration 0 = .ok (.aload_n 3, 1) := by decide +kernel
theorem dL_calibration_1 : decode cL_calibration 1 = .ok (.iconst 0, 1) := by decide +kernel
theorem dL_calibration_2 : decode cL_calibration 2 = .ok (.aload_n 0, 1) := by decide +kernel
theorem dL_calibration_3 : decode cL_calibration 3 = .ok (.iload_n 1, 1) := by decide +kernel
theorem dL_calibration_4 : decode cL_calibration 4 = .ok (.iload_n 2, 1) := by decide +kernel
theorem dL_calibration_5 : decode cL_calibration 5 = .ok (.invokevirtual 50, 3) := by decide +kernel
theorem dL_calibration_8 : decode cL_calibration 8 = .ok (.i2l, 1) := by decide +kernel
theorem dL_calibration_9 : decode cL_calibration 9 = .ok (.lastore, 1) := by decide +kernel
theorem dL_calibration_10 : decode cL_calibration 10 = .ok (.goto 11, 3) := by decide +kernel
theorem dL_calibration_13 : decode cL_calibration 13 = .ok (.astore 4, 2) := by decide +kernel
theorem dL_calibration_15 : decode cL_calibration 15 = .ok (.iconst 1, 1) := by decide +kernel
theorem dL_calibration_16 : decode cL_calibration 16 = .ok (.ireturn, 1) := by decide +kernel
theorem dL_calibration_17 : decode cL_calibration 17 = .ok (.astore 4, 2) := by decide +kernel
theorem dL_calibration_19 : decode cL_calibration 19 = .ok (.iconst 2, 1) := by decide +kernel
theorem dL_calibration_20 : decode cL_calibration 20 = .ok (.ireturn, 1) := by decide +kernel
theorem dL_calibration_21 : decode cL_calibration 21 = .ok (.iconst 0, 1) := by decide +kernel
theorem dL_calibration_22 : decode cL_calibration 22 = .ok (.ireturn, 1) := by decide +kernel
theorem dL_variance_0 : decode cL_variance 0 = .ok (.aload_n 3, 1) := by decide +kernel
theorem dL_variance_1 : decode cL_variance 1 = .ok (.iconst 0, 1) := by decide +kernel
theorem dL_variance_2 : decode cL_variance 2 = .ok (.aload_n 0, 1) := by decide +kernel
theorem dL_variance_3 : decode cL_variance 3 = .ok (.iload_n 1, 1) := by decide +kernel
theorem dL_variance_4 : decode cL_variance 4 = .ok (.iload_n 2, 1) := by decide +kernel
theorem dL_variance_5 : decode cL_variance 5 = .ok (.invokevirtual 53, 3) := by decide +kernel
theorem dL_variance_8 : decode cL_variance 8 = .ok (.lastore, 1) := by decide +kernel
theorem dL_variance_9 : decode cL_variance 9 = .ok (.goto 7, 3) := by decide +kernel
theorem dL_variance_12 : decode cL_variance 12 = .ok (.astore 4, 2) := by decide +kernel
theorem dL_variance_14 : decode cL_variance 14 = .ok (.iconst 1, 1) := by decide +kernel
theorem dL_variance_15 : decode cL_variance 15 = .ok (.ireturn, 1) := by decide +kernel
theorem dL_variance_16 : decode cL_variance 16 = .ok (.iconst 0, 1) := by decide +kernel
theorem dL_variance_17 : decode cL_variance 17 = .ok (.ireturn, 1) := by decide +kernel
theorem dL_alongChain_0 : decode cL_alongChain 0 = .ok (.aload_n 2, 1) := by decide +kernel
theorem dL_alongChain_1 : decode cL_alongChain 1 = .ok (.iconst 0, 1) := by decide +kernel
theorem dL_alongChain_2 : decode cL_alongChain 2 = .ok (.aload_n 0, 1) := by decide +kernel
theorem dL_alongChain_3 : decode cL_alongChain 3 = .ok (.iload_n 1, 1) := by decide +kernel
theorem dL_alongChain_4 : decode cL_alongChain 4 = .ok (.invokevirtual 57, 3) := by decide +kernel
theorem dL_alongChain_7 : decode cL_alongChain 7 = .ok (.lastore, 1) := by decide +kernel
theorem dL_alongChain_8 : decode cL_alongChain 8 = .ok (.goto 6, 3) := by decide +kernel
theorem dL_alongChain_11 : decode cL_alongChain 11 = .ok (.astore_n 3, 1) := by decide +kernel
theorem dL_alongChain_12 : decode cL_alongChain 12 = .ok (.iconst 1, 1) := by decide +kernel
theorem dL_alongChain_13 : decode cL_alongChain 13 = .ok (.ireturn, 1) := by decide +kernel
theorem dL_alongChain_14 : decode cL_alongChain 14 = .ok (.iconst 0, 1) := by decide +kernel
theorem dL_alongChain_15 : decode cL_alongChain 15 = .ok (.ireturn, 1) := by decide +kernel
theorem dL_chain_0 : decode cL_chain 0 = .ok (.aload_n 3, 1) := by decide +kernel
theorem dL_chain_1 : decode cL_chain 1 = .ok (.iconst 0, 1) := by decide +kernel
theorem dL_chain_2 : decode cL_chain 2 = .ok (.aload_n 0, 1) := by decide +kernel
theorem dL_chain_3 : decode cL_chain 3 = .ok (.iload_n 1, 1) := by decide +kernel
theorem dL_chain_4 : decode cL_chain 4 = .ok (.iload_n 2, 1) := by decide +kernel
theorem dL_chain_5 : decode cL_chain 5 = .ok (.invokevirtual 61, 3) := by decide +kernel
theorem dL_chain_8 : decode cL_chain 8 = .ok (.i2l, 1) := by decide +kernel
theorem dL_chain_9 : decode cL_chain 9 = .ok (.lastore, 1) := by decide +kernel
theorem dL_chain_10 : decode cL_chain 10 = .ok (.goto 11, 3) := by decide +kernel
theorem dL_chain_13 : decode cL_chain 13 = .ok (.astore 4, 2) := by decide +kernel
theorem dL_chain_15 : decode cL_chain 15 = .ok (.iconst 1, 1) := by decide +kernel
theorem dL_chain_16 : decode cL_chain 16 = .ok (.ireturn, 1) := by decide +kernel
theorem dL_chain_17 : decode cL_chain 17 = .ok (.astore 4, 2) := by decide +kernel
theorem dL_chain_19 : decode cL_chain 19 = .ok (.iconst 2, 1) := by decide +kernel
theorem dL_chain_20 : decode cL_chain 20 = .ok (.ireturn, 1) := by decide +kernel
theorem dL_chain_21 : decode cL_chain 21 = .ok (.iconst 0, 1) := by decide +kernel
theorem dL_chain_22 : decode cL_chain 22 = .ok (.ireturn, 1) := by decide +kernel
theorem dL_cause_0 : decode cL_cause 0 = .ok (.aload_n 2, 1) := by decide +kernel
theorem dL_cause_1 : decode cL_cause 1 = .ok (.iconst 0, 1) := by decide +kernel
theorem dL_cause_2 : decode cL_cause 2 = .ok (.aload_n 0, 1) := by decide +kernel
theorem dL_cause_3 : decode cL_cause 3 = .ok (.iload_n 1, 1) := by decide +kernel
theorem dL_cause_4 : decode cL_cause 4 = .ok (.invokevirtual 64, 3) := by decide +kernel
theorem dL_cause_7 : decode cL_cause 7 = .ok (.i2l, 1) := by decide +kernel
theorem dL_cause_8 : decode cL_cause 8 = .ok (.lastore, 1) := by decide +kernel
theorem dL_cause_9 : decode cL_cause 9 = .ok (.goto 9, 3) := by decide +kernel
theorem dL_cause_12 : decode cL_cause 12 = .ok (.astore_n 3, 1) := by decide +kernel
theorem dL_cause_13 : decode cL_cause 13 = .ok (.iconst 1, 1) := by decide +kernel
theorem dL_cause_14 : decode cL_cause 14 = .ok (.ireturn, 1) := by decide +kernel
theorem dL_cause_15 : decode cL_cause 15 = .ok (.astore_n 3, 1) := by decide +kernel
theorem dL_cause_16 : decode cL_cause 16 = .ok (.iconst 2, 1) := by decide +kernel
theorem dL_cause_17 : decode cL_cause 17 = .ok (.ireturn, 1) := by decide +kernel
theorem dL_cause_18 : decode cL_cause 18 = .ok (.iconst 0, 1) := by decide +kernel
theorem dL_cause_19 : decode cL_cause 19 = .ok (.ireturn, 1) := by decide +kernel
theorem dL_recall_0 : decode cL_recall 0 = .ok (.aload 4, 2) := by decide +kernel
theorem dL_recall_2 : decode cL_recall 2 = .ok (.iconst 0, 1) := by decide +kernel
theorem dL_recall_3 : decode cL_recall 3 = .ok (.aload_n 0, 1) := by decide +kernel
theorem dL_recall_4 : decode cL_recall 4 = .ok (.iload_n 1, 1) := by decide +kernel
theorem dL_recall_5 : decode cL_recall 5 = .ok (.iload_n 2, 1) := by decide +kernel
theorem dL_recall_6 : decode cL_recall 6 = .ok (.iload_n 3, 1) := by decide +kernel
theorem dL_recall_7 : decode cL_recall 7 = .ok (.invokevirtual 67, 3) := by decide +kernel
theorem dL_recall_10 : decode cL_recall 10 = .ok (.i2l, 1) := by decide +kernel
theorem dL_recall_11 : decode cL_recall 11 = .ok (.lastore, 1) := by decide +kernel
theorem dL_recall_12 : decode cL_recall 12 = .ok (.goto 15, 3) := by decide +kernel
theorem dL_recall_15 : decode cL_recall 15 = .ok (.astore 5, 2) := by decide +kernel
theorem dL_recall_17 : decode cL_recall 17 = .ok (.iconst 1, 1) := by decide +kernel
theorem dL_recall_18 : decode cL_recall 18 = .ok (.ireturn, 1) := by decide +kernel
theorem dL_recall_19 : decode cL_recall 19 = .ok (.astore 5, 2) := by decide +kernel
theorem dL_recall_21 : decode cL_recall 21 = .ok (.iconst 2, 1) := by decide +kernel
theorem dL_recall_22 : decode cL_recall 22 = .ok (.ireturn, 1) := by decide +kernel
theorem dL_recall_23 : decode cL_recall 23 = .ok (.astore 5, 2) := by decide +kernel
theorem dL_recall_25 : decode cL_recall 25 = .ok (.iconst 3, 1) := by decide +kernel
theorem dL_recall_26 : decode cL_recall 26 = .ok (.ireturn, 1) := by decide +kernel
theorem dL_recall_27 : decode cL_recall 27 = .ok (.iconst 0, 1) := by decide +kernel
theorem dL_recall_28 : decode cL_recall 28 = .ok (.ireturn, 1) := by decide +kernel
theorem dL_lift_0 : decode cL_lift 0 = .ok (.aload_n 2, 1) := by decide +kernel
theorem dL_lift_1 : decode cL_lift 1 = .ok (.iconst 0, 1) := by decide +kernel
theorem dL_lift_2 : decode cL_lift 2 = .ok (.aload_n 0, 1) := by decide +kernel
theorem dL_lift_3 : decode cL_lift 3 = .ok (.iload_n 1, 1) := by decide +kernel
theorem dL_lift_4 : decode cL_lift 4 = .ok (.invokevirtual 70, 3) := by decide +kernel
theorem dL_lift_7 : decode cL_lift 7 = .ok (.i2l, 1) := by decide +kernel
theorem dL_lift_8 : decode cL_lift 8 = .ok (.lastore, 1) := by decide +kernel
theorem dL_lift_9 : decode cL_lift 9 = .ok (.goto 6, 3) := by decide +kernel
theorem dL_lift_12 : decode cL_lift 12 = .ok (.astore_n 3, 1) := by decide +kernel
theorem dL_lift_13 : decode cL_lift 13 = .ok (.iconst 1, 1) := by decide +kernel
theorem dL_lift_14 : decode cL_lift 14 = .ok (.ireturn, 1) := by decide +kernel
theorem dL_lift_15 : decode cL_lift 15 = .ok (.iconst 0, 1) := by decide +kernel
theorem dL_lift_16 : decode cL_lift 16 = .ok (.ireturn, 1) := by decide +kernel
theorem dL_recalled_0 : decode cL_recalled 0 = .ok (.aload_n 3, 1) := by decide +kernel
theorem dL_recalled_1 : decode cL_recalled 1 = .ok (.iconst 0, 1) := by decide +kernel
theorem dL_recalled_2 : decode cL_recalled 2 = .ok (.aload_n 0, 1) := by decide +kernel
theorem dL_recalled_3 : decode cL_recalled 3 = .ok (.iload_n 1, 1) := by decide +kernel
theorem dL_recalled_4 : decode cL_recalled 4 = .ok (.iload_n 2, 1) := by decide +kernel
theorem dL_recalled_5 : decode cL_recalled 5 = .ok (.invokevirtual 73, 3) := by decide +kernel
theorem dL_recalled_8 : decode cL_recalled 8 = .ok (.i2l, 1) := by decide +kernel
theorem dL_recalled_9 : decode cL_recalled 9 = .ok (.lastore, 1) := by decide +kernel
theorem dL_recalled_10 : decode cL_recalled 10 = .ok (.goto 11, 3) := by decide +kernel
theorem dL_recalled_13 : decode cL_recalled 13 = .ok (.astore 4, 2) := by decide +kernel
theorem dL_recalled_15 : decode cL_recalled 15 = .ok (.iconst 1, 1) := by decide +kernel
theorem dL_recalled_16 : decode cL_recalled 16 = .ok (.ireturn, 1) := by decide +kernel
theorem dL_recalled_17 : decode cL_recalled 17 = .ok (.astore 4, 2) := by decide +kernel
theorem dL_recalled_19 : decode cL_recalled 19 = .ok (.iconst 2, 1) := by decide +kernel
theorem dL_recalled_20 : decode cL_recalled 20 = .ok (.ireturn, 1) := by decide +kernel
theorem dL_recalled_21 : decode cL_recalled 21 = .ok (.iconst 0, 1) := by decide +kernel
theorem dL_recalled_22 : decode cL_recalled 22 = .ok (.ireturn, 1) := by decide +kernel
theorem dL_reach_0 : decode cL_reach 0 = .ok (.aload 4, 2) := by decide +kernel
theorem dL_reach_2 : decode cL_reach 2 = .ok (.iconst 0, 1) := by decide +kernel
theorem dL_reach_3 : decode cL_reach 3 = .ok (.aload_n 0, 1) := by decide +kernel
theorem dL_reach_4 : decode cL_reach 4 = .ok (.iload_n 1, 1) := by decide +kernel
theorem dL_reach_5 : decode cL_reach 5 = .ok (.iload_n 2, 1) := by decide +kernel
theorem dL_reach_6 : decode cL_reach 6 = .ok (.iload_n 3, 1) := by decide +kernel
theorem dL_reach_7 : decode cL_reach 7 = .ok (.invokevirtual 76, 3) := by decide +kernel
theorem dL_reach_10 : decode cL_reach 10 = .ok (.i2l, 1) := by decide +kernel
theorem dL_reach_11 : decode cL_reach 11 = .ok (.lastore, 1) := by decide +kernel
theorem dL_reach_12 : decode cL_reach 12 = .ok (.goto 11, 3) := by decide +kernel
theorem dL_reach_15 : decode cL_reach 15 = .ok (.astore 5, 2) := by decide +kernel
theorem dL_reach_17 : decode cL_reach 17 = .ok (.iconst 1, 1) := by decide +kernel
theorem dL_reach_18 : decode cL_reach 18 = .ok (.ireturn, 1) := by decide +kernel
theorem dL_reach_19 : decode cL_reach 19 = .ok (.astore 5, 2) := by decide +kernel
theorem dL_reach_21 : decode cL_reach 21 = .ok (.iconst 2, 1) := by decide +kernel
theorem dL_reach_22 : decode cL_reach 22 = .ok (.ireturn, 1) := by decide +kernel
theorem dL_reach_23 : decode cL_reach 23 = .ok (.iconst 0, 1) := by decide +kernel
theorem dL_reach_24 : decode cL_reach 24 = .ok (.ireturn, 1) := by decide +kernel
theorem dL_measure_0 : decode cL_measure 0 = .ok (.aload 4, 2) := by decide +kernel
theorem dL_measure_2 : decode cL_measure 2 = .ok (.iconst 0, 1) := by decide +kernel
theorem dL_measure_3 : decode cL_measure 3 = .ok (.aload_n 0, 1) := by decide +kernel
theorem dL_measure_4 : decode cL_measure 4 = .ok (.iload_n 1, 1) := by decide +kernel
theorem dL_measure_5 : decode cL_measure 5 = .ok (.iload_n 2, 1) := by decide +kernel
theorem dL_measure_6 : decode cL_measure 6 = .ok (.iload_n 3, 1) := by decide +kernel
theorem dL_measure_7 : decode cL_measure 7 = .ok (.invokevirtual 79, 3) := by decide +kernel
theorem dL_measure_10 : decode cL_measure 10 = .ok (.i2l, 1) := by decide +kernel
theorem dL_measure_11 : decode cL_measure 11 = .ok (.lastore, 1) := by decide +kernel
theorem dL_measure_12 : decode cL_measure 12 = .ok (.goto 15, 3) := by decide +kernel
theorem dL_measure_15 : decode cL_measure 15 = .ok (.astore 5, 2) := by decide +kernel
theorem dL_measure_17 : decode cL_measure 17 = .ok (.iconst 1, 1) := by decide +kernel
theorem dL_measure_18 : decode cL_measure 18 = .ok (.ireturn, 1) := by decide +kernel
theorem dL_measure_19 : decode cL_measure 19 = .ok (.astore 5, 2) := by decide +kernel
theorem dL_measure_21 : decode cL_measure 21 = .ok (.iconst 2, 1) := by decide +kernel
theorem dL_measure_22 : decode cL_measure 22 = .ok (.ireturn, 1) := by decide +kernel
theorem dL_measure_23 : decode cL_measure 23 = .ok (.astore 5, 2) := by decide +kernel
theorem dL_measure_25 : decode cL_measure 25 = .ok (.iconst 3, 1) := by decide +kernel
theorem dL_measure_26 : decode cL_measure 26 = .ok (.ireturn, 1) := by decide +kernel
theorem dL_measure_27 : decode cL_measure 27 = .ok (.iconst 0, 1) := by decide +kernel
theorem dL_measure_28 : decode cL_measure 28 = .ok (.ireturn, 1) := by decide +kernel
theorem dL_measurement_0 : decode cL_measurement 0 = .ok (.aload_n 3, 1) := by decide +kernel
theorem dL_measurement_1 : decode cL_measurement 1 = .ok (.iconst 0, 1) := by decide +kernel
theorem dL_measurement_2 : decode cL_measurement 2 = .ok (.aload_n 0, 1) := by decide +kernel
theorem dL_measurement_3 : decode cL_measurement 3 = .ok (.iload_n 1, 1) := by decide +kernel
theorem dL_measurement_4 : decode cL_measurement 4 = .ok (.iload_n 2, 1) := by decide +kernel
theorem dL_measurement_5 : decode cL_measurement 5 = .ok (.invokevirtual 82, 3) := by decide +kernel
theorem dL_measurement_8 : decode cL_measurement 8 = .ok (.i2l, 1) := by decide +kernel
theorem dL_measurement_9 : decode cL_measurement 9 = .ok (.lastore, 1) := by decide +kernel
theorem dL_measurement_10 : decode cL_measurement 10 = .ok (.goto 11, 3) := by decide +kernel
theorem dL_measurement_13 : decode cL_measurement 13 = .ok (.astore 4, 2) := by decide +kernel
theorem dL_measurement_15 : decode cL_measurement 15 = .ok (.iconst 1, 1) := by decide +kernel
theorem dL_measurement_16 : decode cL_measurement 16 = .ok (.ireturn, 1) := by decide +kernel
theorem dL_measurement_17 : decode cL_measurement 17 = .ok (.astore 4, 2) := by decide +kernel
theorem dL_measurement_19 : decode cL_measurement 19 = .ok (.iconst 2, 1) := by decide +kernel
theorem dL_measurement_20 : decode cL_measurement 20 = .ok (.ireturn, 1) := by decide +kernel
theorem dL_measurement_21 : decode cL_measurement 21 = .ok (.iconst 0, 1) := by decide +kernel
theorem dL_measurement_22 : decode cL_measurement 22 = .ok (.ireturn, 1) := by decide +kernel
theorem dL_again_0 : decode cL_again 0 = .ok (.aload_n 2, 1) := by decide +kernel
theorem dL_again_1 : decode cL_again 1 = .ok (.iconst 0, 1) := by decide +kernel
theorem dL_again_2 : decode cL_again 2 = .ok (.aload_n 0, 1) := by decide +kernel
theorem dL_again_3 : decode cL_again 3 = .ok (.iload_n 1, 1) := by decide +kernel
theorem dL_again_4 : decode cL_again 4 = .ok (.invokevirtual 85, 3) := by decide +kernel
theorem dL_again_7 : decode cL_again 7 = .ok (.i2l, 1) := by decide +kernel
theorem dL_again_8 : decode cL_again 8 = .ok (.lastore, 1) := by decide +kernel
theorem dL_again_9 : decode cL_again 9 = .ok (.goto 9, 3) := by decide +kernel
theorem dL_again_12 : decode cL_again 12 = .ok (.astore_n 3, 1) := by decide +kernel
theorem dL_again_13 : decode cL_again 13 = .ok (.iconst 1, 1) := by decide +kernel
theorem dL_again_14 : decode cL_again 14 = .ok (.ireturn, 1) := by decide +kernel
theorem dL_again_15 : decode cL_again 15 = .ok (.astore_n 3, 1) := by decide +kernel
theorem dL_again_16 : decode cL_again 16 = .ok (.iconst 2, 1) := by decide +kernel
theorem dL_again_17 : decode cL_again 17 = .ok (.ireturn, 1) := by decide +kernel
theorem dL_again_18 : decode cL_again 18 = .ok (.iconst 0, 1) := by decide +kernel
theorem dL_again_19 : decode cL_again 19 = .ok (.ireturn, 1) := by decide +kernel
theorem dL_issue_0 : decode cL_issue 0 = .ok (.aload_n 2, 1) := by decide +kernel
theorem dL_issue_1 : decode cL_issue 1 = .ok (.iconst 0, 1) := by decide +kernel
theorem dL_issue_2 : decode cL_issue 2 = .ok (.aload_n 0, 1) := by decide +kernel
theorem dL_issue_3 : decode cL_issue 3 = .ok (.iload_n 1, 1) := by decide +kernel
theorem dL_issue_4 : decode cL_issue 4 = .ok (.invokevirtual 88, 3) := by decide +kernel
theorem dL_issue_7 : decode cL_issue 7 = .ok (.i2l, 1) := by decide +kernel
theorem dL_issue_8 : decode cL_issue 8 = .ok (.lastore, 1) := by decide +kernel
theorem dL_issue_9 : decode cL_issue 9 = .ok (.goto 9, 3) := by decide +kernel
theorem dL_issue_12 : decode cL_issue 12 = .ok (.astore_n 3, 1) := by decide +kernel
theorem dL_issue_13 : decode cL_issue 13 = .ok (.iconst 1, 1) := by decide +kernel
theorem dL_issue_14 : decode cL_issue 14 = .ok (.ireturn, 1) := by decide +kernel
theorem dL_issue_15 : decode cL_issue 15 = .ok (.astore_n 3, 1) := by decide +kernel
theorem dL_issue_16 : decode cL_issue 16 = .ok (.iconst 2, 1) := by decide +kernel
theorem dL_issue_17 : decode cL_issue 17 = .ok (.ireturn, 1) := by decide +kernel
theorem dL_issue_18 : decode cL_issue 18 = .ok (.iconst 0, 1) := by decide +kernel
theorem dL_issue_19 : decode cL_issue 19 = .ok (.ireturn, 1) := by decide +kernel
theorem dL_certificate_0 : decode cL_certificate 0 = .ok (.aload_n 3, 1) := by decide +kernel
theorem dL_certificate_1 : decode cL_certificate 1 = .ok (.iconst 0, 1) := by decide +kernel
theorem dL_certificate_2 : decode cL_certificate 2 = .ok (.aload_n 0, 1) := by decide +kernel
theorem dL_certificate_3 : decode cL_certificate 3 = .ok (.iload_n 1, 1) := by decide +kernel
theorem dL_certificate_4 : decode cL_certificate 4 = .ok (.iload_n 2, 1) := by decide +kernel
theorem dL_certificate_5 : decode cL_certificate 5 = .ok (.invokevirtual 91, 3) := by decide +kernel
theorem dL_certificate_8 : decode cL_certificate 8 = .ok (.i2l, 1) := by decide +kernel
theorem dL_certificate_9 : decode cL_certificate 9 = .ok (.lastore, 1) := by decide +kernel
theorem dL_certificate_10 : decode cL_certificate 10 = .ok (.goto 11, 3) := by decide +kernel
theorem dL_certificate_13 : decode cL_certificate 13 = .ok (.astore 4, 2) := by decide +kernel
theorem dL_certificate_15 : decode cL_certificate 15 = .ok (.iconst 1, 1) := by decide +kernel
theorem dL_certificate_16 : decode cL_certificate 16 = .ok (.ireturn, 1) := by decide +kernel
theorem dL_certificate_17 : decode cL_certificate 17 = .ok (.astore 4, 2) := by decide +kernel
theorem dL_certificate_19 : decode cL_certificate 19 = .ok (.iconst 2, 1) := by decide +kernel
theorem dL_certificate_20 : decode cL_certificate 20 = .ok (.ireturn, 1) := by decide +kernel
theorem dL_certificate_21 : decode cL_certificate 21 = .ok (.iconst 0, 1) := by decide +kernel
theorem dL_certificate_22 : decode cL_certificate 22 = .ok (.ireturn, 1) := by decide +kernel
theorem dL_write_0 : decode cL_write 0 = .ok (.aload_n 2, 1) := by decide +kernel
theorem dL_write_1 : decode cL_write 1 = .ok (.iconst 0, 1) := by decide +kernel
theorem dL_write_2 : decode cL_write 2 = .ok (.aload_n 0, 1) := by decide +kernel
theorem dL_write_3 : decode cL_write 3 = .ok (.iload_n 1, 1) := by decide +kernel
theorem dL_write_4 : decode cL_write 4 = .ok (.invokevirtual 94, 3) := by decide +kernel
theorem dL_write_7 : decode cL_write 7 = .ok (.i2l, 1) := by decide +kernel
theorem dL_write_8 : decode cL_write 8 = .ok (.lastore, 1) := by decide +kernel
theorem dL_write_9 : decode cL_write 9 = .ok (.goto 6, 3) := by decide +kernel
theorem dL_write_12 : decode cL_write 12 = .ok (.astore_n 3, 1) := by decide +kernel
theorem dL_write_13 : decode cL_write 13 = .ok (.iconst 1, 1) := by decide +kernel
theorem dL_write_14 : decode cL_write 14 = .ok (.ireturn, 1) := by decide +kernel
theorem dL_write_15 : decode cL_write 15 = .ok (.iconst 0, 1) := by decide +kernel
theorem dL_write_16 : decode cL_write 16 = .ok (.ireturn, 1) := by decide +kernel
theorem dL_written_0 : decode cL_written 0 = .ok (.aload_n 2, 1) := by decide +kernel
theorem dL_written_1 : decode cL_written 1 = .ok (.iconst 0, 1) := by decide +kernel
theorem dL_written_2 : decode cL_written 2 = .ok (.aload_n 0, 1) := by decide +kernel
theorem dL_written_3 : decode cL_written 3 = .ok (.iload_n 1, 1) := by decide +kernel
theorem dL_written_4 : decode cL_written 4 = .ok (.invokevirtual 97, 3) := by decide +kernel
theorem dL_written_7 : decode cL_written 7 = .ok (.i2l, 1) := by decide +kernel
theorem dL_written_8 : decode cL_written 8 = .ok (.lastore, 1) := by decide +kernel
theorem dL_written_9 : decode cL_written 9 = .ok (.goto 6, 3) := by decide +kernel
theorem dL_written_12 : decode cL_written 12 = .ok (.astore_n 3, 1) := by decide +kernel
theorem dL_written_13 : decode cL_written 13 = .ok (.iconst 1, 1) := by decide +kernel
theorem dL_written_14 : decode cL_written 14 = .ok (.ireturn, 1) := by decide +kernel
theorem dL_written_15 : decode cL_written 15 = .ok (.iconst 0, 1) := by decide +kernel
theorem dL_written_16 : decode cL_written 16 = .ok (.ireturn, 1) := by decide +kernel
theorem dL_due_0 : decode cL_due 0 = .ok (.aload_n 2, 1) := by decide +kernel
theorem dL_due_1 : decode cL_due 1 = .ok (.iconst 0, 1) := by decide +kernel
theorem dL_due_2 : decode cL_due 2 = .ok (.aload_n 0, 1) := by decide +kernel
theorem dL_due_3 : decode cL_due 3 = .ok (.iload_n 1, 1) := by decide +kernel
theorem dL_due_4 : decode cL_due 4 = .ok (.invokevirtual 101, 3) := by decide +kernel
theorem dL_due_7 : decode cL_due 7 = .ok (.i2l, 1) := by decide +kernel
theorem dL_due_8 : decode cL_due 8 = .ok (.lastore, 1) := by decide +kernel
theorem dL_due_9 : decode cL_due 9 = .ok (.goto 6, 3) := by decide +kernel
theorem dL_due_12 : decode cL_due 12 = .ok (.astore_n 3, 1) := by decide +kernel
theorem dL_due_13 : decode cL_due 13 = .ok (.iconst 1, 1) := by decide +kernel
theorem dL_due_14 : decode cL_due 14 = .ok (.ireturn, 1) := by decide +kernel
theorem dL_due_15 : decode cL_due 15 = .ok (.iconst 0, 1) := by decide +kernel
theorem dL_due_16 : decode cL_due 16 = .ok (.ireturn, 1) := by decide +kernel
theorem dL_overdueWithin_0 : decode cL_overdueWithin 0 = .ok (.aload_n 2, 1) := by decide +kernel
theorem dL_overdueWithin_1 : decode cL_overdueWithin 1 = .ok (.iconst 0, 1) := by decide +kernel
theorem dL_overdueWithin_2 : decode cL_overdueWithin 2 = .ok (.aload_n 0, 1) := by decide +kernel
theorem dL_overdueWithin_3 : decode cL_overdueWithin 3 = .ok (.iload_n 1, 1) := by decide +kernel
theorem dL_overdueWithin_4 : decode cL_overdueWithin 4 = .ok (.invokevirtual 104, 3) := by decide +kernel
theorem dL_overdueWithin_7 : decode cL_overdueWithin 7 = .ok (.i2l, 1) := by decide +kernel
theorem dL_overdueWithin_8 : decode cL_overdueWithin 8 = .ok (.lastore, 1) := by decide +kernel
theorem dL_overdueWithin_9 : decode cL_overdueWithin 9 = .ok (.goto 6, 3) := by decide +kernel
theorem dL_overdueWithin_12 : decode cL_overdueWithin 12 = .ok (.astore_n 3, 1) := by decide +kernel
theorem dL_overdueWithin_13 : decode cL_overdueWithin 13 = .ok (.iconst 1, 1) := by decide +kernel
theorem dL_overdueWithin_14 : decode cL_overdueWithin 14 = .ok (.ireturn, 1) := by decide +kernel
theorem dL_overdueWithin_15 : decode cL_overdueWithin 15 = .ok (.iconst 0, 1) := by decide +kernel
theorem dL_overdueWithin_16 : decode cL_overdueWithin 16 = .ok (.ireturn, 1) := by decide +kernel
theorem dL_append_0 : decode cL_append 0 = .ok (.aload_n 0, 1) := by decide +kernel
theorem dL_append_1 : decode cL_append 1 = .ok (.iload_n 1, 1) := by decide +kernel
theorem dL_append_2 : decode cL_append 2 = .ok (.invokevirtual 107, 3) := by decide +kernel
theorem dL_append_5 : decode cL_append 5 = .ok (.goto 6, 3) := by decide +kernel
theorem dL_append_8 : decode cL_append 8 = .ok (.astore_n 2, 1) := by decide +kernel
theorem dL_append_9 : decode cL_append 9 = .ok (.iconst 1, 1) := by decide +kernel
theorem dL_append_10 : decode cL_append 10 = .ok (.ireturn, 1) := by decide +kernel
theorem dL_append_11 : decode cL_append 11 = .ok (.iconst 0, 1) := by decide +kernel
theorem dL_append_12 : decode cL_append 12 = .ok (.ireturn, 1) := by decide +kernel
theorem dL_read_0 : decode cL_read 0 = .ok (.aload_n 1, 1) := by decide +kernel
theorem dL_read_1 : decode cL_read 1 = .ok (.iconst 0, 1) := by decide +kernel
theorem dL_read_2 : decode cL_read 2 = .ok (.aload_n 0, 1) := by decide +kernel
theorem dL_read_3 : decode cL_read 3 = .ok (.invokevirtual 111, 3) := by decide +kernel
theorem dL_read_6 : decode cL_read 6 = .ok (.i2l, 1) := by decide +kernel
theorem dL_read_7 : decode cL_read 7 = .ok (.lastore, 1) := by decide +kernel
theorem dL_read_8 : decode cL_read 8 = .ok (.goto 9, 3) := by decide +kernel
theorem dL_read_11 : decode cL_read 11 = .ok (.astore_n 2, 1) := by decide +kernel
theorem dL_read_12 : decode cL_read 12 = .ok (.iconst 1, 1) := by decide +kernel
theorem dL_read_13 : decode cL_read 13 = .ok (.ireturn, 1) := by decide +kernel
theorem dL_read_14 : decode cL_read 14 = .ok (.astore_n 2, 1) := by decide +kernel
theorem dL_read_15 : decode cL_read 15 = .ok (.iconst 2, 1) := by decide +kernel
theorem dL_read_16 : decode cL_read 16 = .ok (.ireturn, 1) := by decide +kernel
theorem dL_read_17 : decode cL_read 17 = .ok (.iconst 0, 1) := by decide +kernel
theorem dL_read_18 : decode cL_read 18 = .ok (.ireturn, 1) := by decide +kernel
theorem dL_refusal_0 : decode cL_refusal 0 = .ok (.aload_n 2, 1) := by decide +kernel
theorem dL_refusal_1 : decode cL_refusal 1 = .ok (.iconst 0, 1) := by decide +kernel
theorem dL_refusal_2 : decode cL_refusal 2 = .ok (.aload_n 0, 1) := by decide +kernel
theorem dL_refusal_3 : decode cL_refusal 3 = .ok (.iload_n 1, 1) := by decide +kernel
theorem dL_refusal_4 : decode cL_refusal 4 = .ok (.invokevirtual 115, 3) := by decide +kernel
theorem dL_refusal_7 : decode cL_refusal 7 = .ok (.i2l, 1) := by decide +kernel
theorem dL_refusal_8 : decode cL_refusal 8 = .ok (.lastore, 1) := by decide +kernel
theorem dL_refusal_9 : decode cL_refusal 9 = .ok (.goto 6, 3) := by decide +kernel
theorem dL_refusal_12 : decode cL_refusal 12 = .ok (.astore_n 3, 1) := by decide +kernel
theorem dL_refusal_13 : decode cL_refusal 13 = .ok (.iconst 1, 1) := by decide +kernel
theorem dL_refusal_14 : decode cL_refusal 14 = .ok (.ireturn, 1) := by decide +kernel
theorem dL_refusal_15 : decode cL_refusal 15 = .ok (.iconst 0, 1) := by decide +kernel
theorem dL_refusal_16 : decode cL_refusal 16 = .ok (.ireturn, 1) := by decide +kernel
theorem dL_account_0 : decode cL_account 0 = .ok (.aload_n 2, 1) := by decide +kernel
theorem dL_account_1 : decode cL_account 1 = .ok (.iconst 0, 1) := by decide +kernel
theorem dL_account_2 : decode cL_account 2 = .ok (.aload_n 0, 1) := by decide +kernel
theorem dL_account_3 : decode cL_account 3 = .ok (.iload_n 1, 1) := by decide +kernel
theorem dL_account_4 : decode cL_account 4 = .ok (.invokevirtual 119, 3) := by decide +kernel
theorem dL_account_7 : decode cL_account 7 = .ok (.lastore, 1) := by decide +kernel
theorem dL_account_8 : decode cL_account 8 = .ok (.goto 6, 3) := by decide +kernel
theorem dL_account_11 : decode cL_account 11 = .ok (.astore_n 3, 1) := by decide +kernel
theorem dL_account_12 : decode cL_account 12 = .ok (.iconst 1, 1) := by decide +kernel
theorem dL_account_13 : decode cL_account 13 = .ok (.ireturn, 1) := by decide +kernel
theorem dL_account_14 : decode cL_account 14 = .ok (.iconst 0, 1) := by decide +kernel
theorem dL_account_15 : decode cL_account 15 = .ok (.ireturn, 1) := by decide +kernel
theorem dL_goodShare_0 : decode cL_goodShare 0 = .ok (.aload_n 1, 1) := by decide +kernel
theorem dL_goodShare_1 : decode cL_goodShare 1 = .ok (.iconst 0, 1) := by decide +kernel
theorem dL_goodShare_2 : decode cL_goodShare 2 = .ok (.aload_n 0, 1) := by decide +kernel
theorem dL_goodShare_3 : decode cL_goodShare 3 = .ok (.invokevirtual 122, 3) := by decide +kernel
theorem dL_goodShare_6 : decode cL_goodShare 6 = .ok (.dastore, 1) := by decide +kernel
theorem dL_goodShare_7 : decode cL_goodShare 7 = .ok (.goto 6, 3) := by decide +kernel
theorem dL_goodShare_10 : decode cL_goodShare 10 = .ok (.astore_n 2, 1) := by decide +kernel
theorem dL_goodShare_11 : decode cL_goodShare 11 = .ok (.iconst 1, 1) := by decide +kernel
theorem dL_goodShare_12 : decode cL_goodShare 12 = .ok (.ireturn, 1) := by decide +kernel
theorem dL_goodShare_13 : decode cL_goodShare 13 = .ok (.iconst 0, 1) := by decide +kernel
theorem dL_goodShare_14 : decode cL_goodShare 14 = .ok (.ireturn, 1) := by decide +kernel
theorem dL_undo_0 : decode cL_undo 0 = .ok (.aload_n 1, 1) := by decide +kernel
theorem dL_undo_1 : decode cL_undo 1 = .ok (.iconst 0, 1) := by decide +kernel
theorem dL_undo_2 : decode cL_undo 2 = .ok (.aload_n 0, 1) := by decide +kernel
theorem dL_undo_3 : decode cL_undo 3 = .ok (.invokevirtual 128, 3) := by decide +kernel
theorem dL_undo_6 : decode cL_undo 6 = .ok (.i2l, 1) := by decide +kernel
theorem dL_undo_7 : decode cL_undo 7 = .ok (.lastore, 1) := by decide +kernel
theorem dL_undo_8 : decode cL_undo 8 = .ok (.goto 6, 3) := by decide +kernel
theorem dL_undo_11 : decode cL_undo 11 = .ok (.astore_n 2, 1) := by decide +kernel
theorem dL_undo_12 : decode cL_undo 12 = .ok (.iconst 1, 1) := by decide +kernel
theorem dL_undo_13 : decode cL_undo 13 = .ok (.ireturn, 1) := by decide +kernel
theorem dL_undo_14 : decode cL_undo 14 = .ok (.iconst 0, 1) := by decide +kernel
theorem dL_undo_15 : decode cL_undo 15 = .ok (.ireturn, 1) := by decide +kernel
theorem dL_restore_0 : decode cL_restore 0 = .ok (.aload_n 0, 1) := by decide +kernel
theorem dL_restore_1 : decode cL_restore 1 = .ok (.invokevirtual 131, 3) := by decide +kernel
theorem dL_restore_4 : decode cL_restore 4 = .ok (.goto 6, 3) := by decide +kernel
theorem dL_restore_7 : decode cL_restore 7 = .ok (.astore_n 1, 1) := by decide +kernel
theorem dL_restore_8 : decode cL_restore 8 = .ok (.iconst 1, 1) := by decide +kernel
theorem dL_restore_9 : decode cL_restore 9 = .ok (.ireturn, 1) := by decide +kernel
theorem dL_restore_10 : decode cL_restore 10 = .ok (.iconst 0, 1) := by decide +kernel
theorem dL_restore_11 : decode cL_restore 11 = .ok (.ireturn, 1) := by decide +kernel
