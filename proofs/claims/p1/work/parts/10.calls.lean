theorem dX10_about_0 : decode cX10_about 0 = .ok (.iload_n 1, 1) := by decide +kernel
theorem dX10_about_1 : decode cX10_about 1 = .ok (.tableswitch 87 0 3 #[31, 36, 55, 68], 31) := by decide +kernel
theorem dX10_about_32 : decode cX10_about 32 = .ok (.aload_n 0, 1) := by decide +kernel
theorem dX10_about_33 : decode cX10_about 33 = .ok (.getfield 13, 3) := by decide +kernel
theorem dX10_about_36 : decode cX10_about 36 = .ok (.ireturn, 1) := by decide +kernel
theorem dX10_about_37 : decode cX10_about 37 = .ok (.aload_n 0, 1) := by decide +kernel
theorem dX10_about_38 : decode cX10_about 38 = .ok (.getfield 27, 3) := by decide +kernel
theorem dX10_about_41 : decode cX10_about 41 = .ok (.ifCond .eq 13, 3) := by decide +kernel
theorem dX10_about_54 : decode cX10_about 54 = .ok (.iconst 0, 1) := by decide +kernel
theorem dX10_about_55 : decode cX10_about 55 = .ok (.ireturn, 1) := by decide +kernel
theorem dX10_about_56 : decode cX10_about 56 = .ok (.aload_n 0, 1) := by decide +kernel
theorem dX10_about_57 : decode cX10_about 57 = .ok (.getfield 31, 3) := by decide +kernel
theorem dX10_about_60 : decode cX10_about 60 = .ok (.ifCond .eq 7, 3) := by decide +kernel
theorem dX10_about_67 : decode cX10_about 67 = .ok (.iconst 0, 1) := by decide +kernel
theorem dX10_about_68 : decode cX10_about 68 = .ok (.ireturn, 1) := by decide +kernel
theorem dX10_about_69 : decode cX10_about 69 = .ok (.aload_n 0, 1) := by decide +kernel
theorem dX10_about_70 : decode cX10_about 70 = .ok (.getfield 31, 3) := by decide +kernel
theorem dX10_about_73 : decode cX10_about 73 = .ok (.ifCond .eq 13, 3) := by decide +kernel
theorem dX10_about_86 : decode cX10_about 86 = .ok (.iconst (-1), 1) := by decide +kernel
theorem dX10_about_87 : decode cX10_about 87 = .ok (.ireturn, 1) := by decide +kernel
theorem dX10_about_88 : decode cX10_about 88 = .ok (.iconst (-1), 1) := by decide +kernel
theorem dX10_about_89 : decode cX10_about 89 = .ok (.ireturn, 1) := by decide +kernel
theorem dX10_asked_0 : decode cX10_asked 0 = .ok (.aload_n 0, 1) := by decide +kernel
theorem dX10_asked_1 : decode cX10_asked 1 = .ok (.getfield 34, 3) := by decide +kernel
theorem dX10_asked_4 : decode cX10_asked 4 = .ok (.ifCond .eq 19, 3) := by decide +kernel
theorem dX10_asked_23 : decode cX10_asked 23 = .ok (.iconst (-1), 1) := by decide +kernel
theorem dX10_asked_24 : decode cX10_asked 24 = .ok (.ireturn, 1) := by decide +kernel
theorem dX10_end_0 : decode cX10_end 0 = .ok (.iload_n 1, 1) := by decide +kernel
theorem dX10_end_1 : decode cX10_end 1 = .ok (.ifCond .lt 11, 3) := by decide +kernel
theorem dX10_end_4 : decode cX10_end 4 = .ok (.iload_n 1, 1) := by decide +kernel
theorem dX10_end_5 : decode cX10_end 5 = .ok (.aload_n 0, 1) := by decide +kernel
theorem dX10_end_6 : decode cX10_end 6 = .ok (.getfield 13, 3) := by decide +kernel
theorem dX10_end_9 : decode cX10_end 9 = .ok (.if_icmp .le 5, 3) := by decide +kernel
theorem dX10_end_12 : decode cX10_end 12 = .ok (.iconst (-1), 1) := by decide +kernel
theorem dX10_end_13 : decode cX10_end 13 = .ok (.ireturn, 1) := by decide +kernel
theorem dX10_end_14 : decode cX10_end 14 = .ok (.aload_n 0, 1) := by decide +kernel
theorem dX10_end_15 : decode cX10_end 15 = .ok (.iload_n 1, 1) := by decide +kernel
theorem dX10_end_16 : decode cX10_end 16 = .ok (.putfield 13, 3) := by decide +kernel
theorem dX10_end_19 : decode cX10_end 19 = .ok (.iload_n 1, 1) := by decide +kernel
theorem dX10_end_20 : decode cX10_end 20 = .ok (.ireturn, 1) := by decide +kernel
theorem dX10_fault_0 : decode cX10_fault 0 = .ok (.iload_n 1, 1) := by decide +kernel
theorem dX10_fault_1 : decode cX10_fault 1 = .ok (.ifCond .ne 8, 3) := by decide +kernel
theorem dX10_fault_4 : decode cX10_fault 4 = .ok (.aload_n 0, 1) := by decide +kernel
theorem dX10_fault_5 : decode cX10_fault 5 = .ok (.getfield 65, 3) := by decide +kernel
theorem dX10_fault_8 : decode cX10_fault 8 = .ok (.ireturn, 1) := by decide +kernel
theorem dX10_fault_9 : decode cX10_fault 9 = .ok (.iload_n 1, 1) := by decide +kernel
theorem dX10_fault_10 : decode cX10_fault 10 = .ok (.iconst 1, 1) := by decide +kernel
theorem dX10_fault_11 : decode cX10_fault 11 = .ok (.if_icmp .ne 10, 3) := by decide +kernel
theorem dX10_fault_14 : decode cX10_fault 14 = .ok (.aload_n 0, 1) := by decide +kernel
theorem dX10_fault_15 : decode cX10_fault 15 = .ok (.getfield 68, 3) := by decide +kernel
theorem dX10_fault_18 : decode cX10_fault 18 = .ok (.goto 4, 3) := by decide +kernel
theorem dX10_fault_21 : decode cX10_fault 21 = .ok (.iconst (-1), 1) := by decide +kernel
theorem dX10_fault_22 : decode cX10_fault 22 = .ok (.ireturn, 1) := by decide +kernel
theorem dX10_feed_0 : decode cX10_feed 0 = .ok (.aload_n 0, 1) := by decide +kernel
theorem dX10_feed_1 : decode cX10_feed 1 = .ok (.getfield 13, 3) := by decide +kernel
theorem dX10_feed_4 : decode cX10_feed 4 = .ok (.bipush 20, 2) := by decide +kernel
theorem dX10_feed_6 : decode cX10_feed 6 = .ok (.iadd, 1) := by decide +kernel
theorem dX10_feed_7 : decode cX10_feed 7 = .ok (.sipush 3000, 3) := by decide +kernel
theorem dX10_feed_10 : decode cX10_feed 10 = .ok (.if_icmp .le 5, 3) := by decide +kernel
theorem dX10_feed_15 : decode cX10_feed 15 = .ok (.aload_n 0, 1) := by decide +kernel
theorem dX10_feed_16 : decode cX10_feed 16 = .ok (.iload_n 1, 1) := by decide +kernel
theorem dX10_feed_17 : decode cX10_feed 17 = .ok (.invokevirtual 71, 3) := by decide +kernel
theorem dX10_feed_20 : decode cX10_feed 20 = .ok (.aload_n 0, 1) := by decide +kernel
theorem dX10_feed_21 : decode cX10_feed 21 = .ok (.iload_n 2, 1) := by decide +kernel
theorem dX10_feed_22 : decode cX10_feed 22 = .ok (.invokevirtual 71, 3) := by decide +kernel
theorem dX10_feed_25 : decode cX10_feed 25 = .ok (.aload_n 0, 1) := by decide +kernel
theorem dX10_feed_26 : decode cX10_feed 26 = .ok (.iload_n 3, 1) := by decide +kernel
theorem dX10_feed_27 : decode cX10_feed 27 = .ok (.invokevirtual 71, 3) := by decide +kernel
theorem dX10_feed_30 : decode cX10_feed 30 = .ok (.aload_n 0, 1) := by decide +kernel
theorem dX10_feed_31 : decode cX10_feed 31 = .ok (.iload 4, 2) := by decide +kernel
theorem dX10_feed_33 : decode cX10_feed 33 = .ok (.invokevirtual 71, 3) := by decide +kernel
theorem dX10_feed_36 : decode cX10_feed 36 = .ok (.aload_n 0, 1) := by decide +kernel
theorem dX10_feed_37 : decode cX10_feed 37 = .ok (.iload 5, 2) := by decide +kernel
theorem dX10_feed_39 : decode cX10_feed 39 = .ok (.invokevirtual 71, 3) := by decide +kernel
theorem dX10_feed_42 : decode cX10_feed 42 = .ok (.aload_n 0, 1) := by decide +kernel
theorem dX10_feed_43 : decode cX10_feed 43 = .ok (.getfield 13, 3) := by decide +kernel
theorem dX10_feed_46 : decode cX10_feed 46 = .ok (.ireturn, 1) := by decide +kernel
theorem dX10_guard_0 : decode cX10_guard 0 = .ok (.aload_n 0, 1) := by decide +kernel
theorem dX10_guard_1 : decode cX10_guard 1 = .ok (.getfield 31, 3) := by decide +kernel
theorem dX10_guard_4 : decode cX10_guard 4 = .ok (.ifCond .eq 18, 3) := by decide +kernel
theorem dX10_guard_22 : decode cX10_guard 22 = .ok (.iconst (-1), 1) := by decide +kernel
theorem dX10_guard_23 : decode cX10_guard 23 = .ok (.ireturn, 1) := by decide +kernel
theorem dX10_isPart_0 : decode cX10_isPart 0 = .ok (.aload_n 0, 1) := by decide +kernel
theorem dX10_isPart_1 : decode cX10_isPart 1 = .ok (.getfield 27, 3) := by decide +kernel
theorem dX10_isPart_4 : decode cX10_isPart 4 = .ok (.ifCond .eq 22, 3) := by decide +kernel
theorem dX10_isPart_26 : decode cX10_isPart 26 = .ok (.iconst 0, 1) := by decide +kernel
theorem dX10_isPart_27 : decode cX10_isPart 27 = .ok (.ireturn, 1) := by decide +kernel
theorem dX10_judge_0 : decode cX10_judge 0 = .ok (.aload_n 0, 1) := by decide +kernel
theorem dX10_judge_1 : decode cX10_judge 1 = .ok (.iconst 0, 1) := by decide +kernel
theorem dX10_judge_2 : decode cX10_judge 2 = .ok (.putfield 31, 3) := by decide +kernel
theorem dX10_judge_5 : decode cX10_judge 5 = .ok (.aload_n 0, 1) := by decide +kernel
theorem dX10_judge_6 : decode cX10_judge 6 = .ok (.iconst 0, 1) := by decide +kernel
theorem dX10_judge_7 : decode cX10_judge 7 = .ok (.putfield 65, 3) := by decide +kernel
theorem dX10_judge_10 : decode cX10_judge 10 = .ok (.aload_n 0, 1) := by decide +kernel
theorem dX10_judge_11 : decode cX10_judge 11 = .ok (.iconst (-1), 1) := by decide +kernel
theorem dX10_judge_12 : decode cX10_judge 12 = .ok (.putfield 68, 3) := by decide +kernel
theorem dX10_judge_15 : decode cX10_judge 15 = .ok (.aload_n 0, 1) := by decide +kernel
theorem dX10_judge_16 : decode cX10_judge 16 = .ok (.getfield 27, 3) := by decide +kernel
theorem dX10_judge_19 : decode cX10_judge 19 = .ok (.ifCond .ne 5, 3) := by decide +kernel
theorem dX10_judge_22 : decode cX10_judge 22 = .ok (.iconst (-1), 1) := by decide +kernel
theorem dX10_judge_23 : decode cX10_judge 23 = .ok (.ireturn, 1) := by decide +kernel
theorem dX10_out_0 : decode cX10_out 0 = .ok (.aload_n 0, 1) := by decide +kernel
theorem dX10_out_1 : decode cX10_out 1 = .ok (.getfield 34, 3) := by decide +kernel
theorem dX10_out_4 : decode cX10_out 4 = .ok (.ifCond .eq 18, 3) := by decide +kernel
theorem dX10_out_22 : decode cX10_out 22 = .ok (.iconst 0, 1) := by decide +kernel
theorem dX10_out_23 : decode cX10_out 23 = .ok (.ireturn, 1) := by decide +kernel
theorem dX10_part_0 : decode cX10_part 0 = .ok (.aload_n 0, 1) := by decide +kernel
theorem dX10_part_1 : decode cX10_part 1 = .ok (.iload_n 1, 1) := by decide +kernel
theorem dX10_part_2 : decode cX10_part 2 = .ok (.invokevirtual 88, 3) := by decide +kernel
theorem dX10_part_5 : decode cX10_part 5 = .ok (.ifCond .ne 5, 3) := by decide +kernel
theorem dX10_part_8 : decode cX10_part 8 = .ok (.iconst (-1), 1) := by decide +kernel
theorem dX10_part_9 : decode cX10_part 9 = .ok (.ireturn, 1) := by decide +kernel
theorem dX10_putFour_0 : decode cX10_putFour 0 = .ok (.bipush 24, 2) := by decide +kernel
theorem dX10_putFour_2 : decode cX10_putFour 2 = .ok (.istore_n 2, 1) := by decide +kernel
theorem dX10_putFour_3 : decode cX10_putFour 3 = .ok (.iload_n 2, 1) := by decide +kernel
theorem dX10_putFour_4 : decode cX10_putFour 4 = .ok (.ifCond .lt 42, 3) := by decide +kernel
theorem dX10_putFour_7 : decode cX10_putFour 7 = .ok (.aload_n 0, 1) := by decide +kernel
theorem dX10_putFour_8 : decode cX10_putFour 8 = .ok (.getfield 13, 3) := by decide +kernel
theorem dX10_putFour_11 : decode cX10_putFour 11 = .ok (.sipush 3000, 3) := by decide +kernel
theorem dX10_putFour_14 : decode cX10_putFour 14 = .ok (.if_icmp .ge 26, 3) := by decide +kernel
theorem dX10_putFour_17 : decode cX10_putFour 17 = .ok (.aload_n 0, 1) := by decide +kernel
theorem dX10_putFour_18 : decode cX10_putFour 18 = .ok (.getfield 9, 3) := by decide +kernel
theorem dX10_putFour_21 : decode cX10_putFour 21 = .ok (.aload_n 0, 1) := by decide +kernel
theorem dX10_putFour_22 : decode cX10_putFour 22 = .ok (.getfield 13, 3) := by decide +kernel
theorem dX10_putFour_25 : decode cX10_putFour 25 = .ok (.iload_n 1, 1) := by decide +kernel
theorem dX10_putFour_26 : decode cX10_putFour 26 = .ok (.iload_n 2, 1) := by decide +kernel
theorem dX10_putFour_27 : decode cX10_putFour 27 = .ok (.ishr, 1) := by decide +kernel
theorem dX10_putFour_28 : decode cX10_putFour 28 = .ok (.i2b, 1) := by decide +kernel
theorem dX10_putFour_29 : decode cX10_putFour 29 = .ok (.bastore, 1) := by decide +kernel
theorem dX10_putFour_30 : decode cX10_putFour 30 = .ok (.aload_n 0, 1) := by decide +kernel
theorem dX10_putFour_31 : decode cX10_putFour 31 = .ok (.dup, 1) := by decide +kernel
theorem dX10_putFour_32 : decode cX10_putFour 32 = .ok (.getfield 13, 3) := by decide +kernel
theorem dX10_putFour_35 : decode cX10_putFour 35 = .ok (.iconst 1, 1) := by decide +kernel
theorem dX10_putFour_36 : decode cX10_putFour 36 = .ok (.iadd, 1) := by decide +kernel
theorem dX10_putFour_37 : decode cX10_putFour 37 = .ok (.putfield 13, 3) := by decide +kernel
theorem dX10_putFour_40 : decode cX10_putFour 40 = .ok (.iinc 2 (-8), 3) := by decide +kernel
theorem dX10_putFour_43 : decode cX10_putFour 43 = .ok (.goto (-40), 3) := by decide +kernel
theorem dX10_putFour_46 : decode cX10_putFour 46 = .ok (.return_, 1) := by decide +kernel
theorem dX10_read_0 : decode cX10_read 0 = .ok (.aload_n 0, 1) := by decide +kernel
theorem dX10_read_1 : decode cX10_read 1 = .ok (.getfield 40, 3) := by decide +kernel
theorem dX10_read_4 : decode cX10_read 4 = .ok (.aload_n 0, 1) := by decide +kernel
theorem dX10_read_5 : decode cX10_read 5 = .ok (.getfield 24, 3) := by decide +kernel
theorem dX10_read_8 : decode cX10_read 8 = .ok (.aload_n 0, 1) := by decide +kernel
theorem dX10_read_9 : decode cX10_read 9 = .ok (.getfield 9, 3) := by decide +kernel
theorem dX10_read_12 : decode cX10_read 12 = .ok (.aload_n 0, 1) := by decide +kernel
theorem dX10_read_13 : decode cX10_read 13 = .ok (.getfield 13, 3) := by decide +kernel
theorem dX10_read_16 : decode cX10_read 16 = .ok (.invokevirtual 75, 3) := by decide +kernel
theorem dX10_read_19 : decode cX10_read 19 = .ok (.aload_n 0, 1) := by decide +kernel
theorem dX10_read_20 : decode cX10_read 20 = .ok (.iconst 0, 1) := by decide +kernel
theorem dX10_read_21 : decode cX10_read 21 = .ok (.putfield 13, 3) := by decide +kernel
theorem dX10_read_24 : decode cX10_read 24 = .ok (.aload_n 0, 1) := by decide +kernel
theorem dX10_read_25 : decode cX10_read 25 = .ok (.aload_n 0, 1) := by decide +kernel
theorem dX10_read_26 : decode cX10_read 26 = .ok (.getfield 40, 3) := by decide +kernel
theorem dX10_read_29 : decode cX10_read 29 = .ok (.getfield 79, 3) := by decide +kernel
theorem dX10_read_32 : decode cX10_read 32 = .ok (.putfield 65, 3) := by decide +kernel
theorem dX10_read_35 : decode cX10_read 35 = .ok (.aload_n 0, 1) := by decide +kernel
theorem dX10_read_36 : decode cX10_read 36 = .ok (.aload_n 0, 1) := by decide +kernel
theorem dX10_read_37 : decode cX10_read 37 = .ok (.getfield 40, 3) := by decide +kernel
theorem dX10_read_40 : decode cX10_read 40 = .ok (.getfield 82, 3) := by decide +kernel
theorem dX10_read_43 : decode cX10_read 43 = .ok (.putfield 68, 3) := by decide +kernel
theorem dX10_read_46 : decode cX10_read 46 = .ok (.aload_n 0, 1) := by decide +kernel
theorem dX10_read_47 : decode cX10_read 47 = .ok (.getfield 65, 3) := by decide +kernel
theorem dX10_read_50 : decode cX10_read 50 = .ok (.ifCond .eq 5, 3) := by decide +kernel
theorem dX10_read_53 : decode cX10_read 53 = .ok (.iconst (-1), 1) := by decide +kernel
theorem dX10_read_54 : decode cX10_read 54 = .ok (.ireturn, 1) := by decide +kernel
theorem dX10_run_0 : decode cX10_run 0 = .ok (.aload_n 0, 1) := by decide +kernel
theorem dX10_run_1 : decode cX10_run 1 = .ok (.getfield 31, 3) := by decide +kernel
theorem dX10_run_4 : decode cX10_run 4 = .ok (.ifCond .eq 10, 3) := by decide +kernel
theorem dX10_run_14 : decode cX10_run 14 = .ok (.iconst (-1), 1) := by decide +kernel
theorem dX10_run_15 : decode cX10_run 15 = .ok (.ireturn, 1) := by decide +kernel
theorem dX10_runUntold_0 : decode cX10_runUntold 0 = .ok (.aload_n 0, 1) := by decide +kernel
theorem dX10_runUntold_1 : decode cX10_runUntold 1 = .ok (.getfield 27, 3) := by decide +kernel
theorem dX10_runUntold_4 : decode cX10_runUntold 4 = .ok (.ifCond .eq 10, 3) := by decide +kernel
theorem dX10_runUntold_14 : decode cX10_runUntold 14 = .ok (.iconst (-1), 1) := by decide +kernel
theorem dX10_runUntold_15 : decode cX10_runUntold 15 = .ok (.ireturn, 1) := by decide +kernel
theorem dX10_tell_0 : decode cX10_tell 0 = .ok (.aload_n 0, 1) := by decide +kernel
theorem dX10_tell_1 : decode cX10_tell 1 = .ok (.iload_n 1, 1) := by decide +kernel
theorem dX10_tell_2 : decode cX10_tell 2 = .ok (.invokevirtual 88, 3) := by decide +kernel
theorem dX10_tell_5 : decode cX10_tell 5 = .ok (.ifCond .ne 5, 3) := by decide +kernel
theorem dX10_tell_8 : decode cX10_tell 8 = .ok (.iconst 0, 1) := by decide +kernel
theorem dX10_tell_9 : decode cX10_tell 9 = .ok (.ireturn, 1) := by decide +kernel
theorem dX10_told_0 : decode cX10_told 0 = .ok (.aload_n 0, 1) := by decide +kernel
theorem dX10_told_1 : decode cX10_told 1 = .ok (.getfield 34, 3) := by decide +kernel
theorem dX10_told_4 : decode cX10_told 4 = .ok (.ifCond .eq 14, 3) := by decide +kernel
theorem dX10_told_18 : decode cX10_told 18 = .ok (.iconst (-1), 1) := by decide +kernel
theorem dX10_told_19 : decode cX10_told 19 = .ok (.ireturn, 1) := by decide +kernel
theorem dX3_cutTo_0 : decode cX3_cutTo 0 = .ok (.aload_n 0, 1) := by decide +kernel
theorem dX3_cutTo_1 : decode cX3_cutTo 1 = .ok (.getfield 34, 3) := by decide +kernel
theorem dX3_cutTo_4 : decode cX3_cutTo 4 = .ok (.iconst 1, 1) := by decide +kernel
theorem dX3_cutTo_5 : decode cX3_cutTo 5 = .ok (.isub, 1) := by decide +kernel
theorem dX3_cutTo_6 : decode cX3_cutTo 6 = .ok (.istore_n 2, 1) := by decide +kernel
theorem dX3_cutTo_7 : decode cX3_cutTo 7 = .ok (.iload_n 2, 1) := by decide +kernel
theorem dX3_cutTo_8 : decode cX3_cutTo 8 = .ok (.iload_n 1, 1) := by decide +kernel
theorem dX3_cutTo_9 : decode cX3_cutTo 9 = .ok (.if_icmp .lt 40, 3) := by decide +kernel
theorem dX3_cutTo_49 : decode cX3_cutTo 49 = .ok (.return_, 1) := by decide +kernel
theorem dX3_forgetTexts_0 : decode cX3_forgetTexts 0 = .ok (.aload_n 0, 1) := by decide +kernel
theorem dX3_forgetTexts_1 : decode cX3_forgetTexts 1 = .ok (.bipush 9, 2) := by decide +kernel
theorem dX3_forgetTexts_3 : decode cX3_forgetTexts 3 = .ok (.invokevirtual 56, 3) := by decide +kernel
theorem dX3_forgetTexts_6 : decode cX3_forgetTexts 6 = .ok (.return_, 1) := by decide +kernel
theorem dX5_clear_0 : decode cX5_clear 0 = .ok (.aload_n 0, 1) := by decide +kernel
theorem dX5_clear_1 : decode cX5_clear 1 = .ok (.getfield 12, 3) := by decide +kernel
theorem dX5_clear_4 : decode cX5_clear 4 = .ok (.invokevirtual 70, 3) := by decide +kernel
theorem dX5_clear_7 : decode cX5_clear 7 = .ok (.aload_n 0, 1) := by decide +kernel
theorem dX5_clear_8 : decode cX5_clear 8 = .ok (.iconst 0, 1) := by decide +kernel
theorem dX5_clear_9 : decode cX5_clear 9 = .ok (.putfield 18, 3) := by decide +kernel
theorem dX5_clear_12 : decode cX5_clear 12 = .ok (.aload_n 0, 1) := by decide +kernel
theorem dX5_clear_13 : decode cX5_clear 13 = .ok (.iconst (-1), 1) := by decide +kernel
theorem dX5_clear_14 : decode cX5_clear 14 = .ok (.putfield 22, 3) := by decide +kernel
theorem dX5_clear_17 : decode cX5_clear 17 = .ok (.aload_n 0, 1) := by decide +kernel
theorem dX5_clear_18 : decode cX5_clear 18 = .ok (.iconst 0, 1) := by decide +kernel
theorem dX5_clear_19 : decode cX5_clear 19 = .ok (.putfield 67, 3) := by decide +kernel
theorem dX5_clear_22 : decode cX5_clear 22 = .ok (.iconst 0, 1) := by decide +kernel
theorem dX5_clear_23 : decode cX5_clear 23 = .ok (.istore_n 1, 1) := by decide +kernel
theorem dX5_clear_24 : decode cX5_clear 24 = .ok (.iload_n 1, 1) := by decide +kernel
theorem dX5_clear_25 : decode cX5_clear 25 = .ok (.bipush 40, 2) := by decide +kernel
theorem dX5_clear_27 : decode cX5_clear 27 = .ok (.if_icmp .ge 16, 3) := by decide +kernel
theorem dX5_clear_30 : decode cX5_clear 30 = .ok (.aload_n 0, 1) := by decide +kernel
theorem dX5_clear_31 : decode cX5_clear 31 = .ok (.getfield 45, 3) := by decide +kernel
theorem dX5_clear_34 : decode cX5_clear 34 = .ok (.iload_n 1, 1) := by decide +kernel
theorem dX5_clear_35 : decode cX5_clear 35 = .ok (.iconst 1, 1) := by decide +kernel
theorem dX5_clear_36 : decode cX5_clear 36 = .ok (.bastore, 1) := by decide +kernel
theorem dX5_clear_37 : decode cX5_clear 37 = .ok (.iinc 1 1, 3) := by decide +kernel
theorem dX5_clear_40 : decode cX5_clear 40 = .ok (.goto (-16), 3) := by decide +kernel
theorem dX5_clear_43 : decode cX5_clear 43 = .ok (.return_, 1) := by decide +kernel
theorem dX5_paramsOf_0 : decode cX5_paramsOf 0 = .ok (.iload_n 1, 1) := by decide +kernel
theorem dX5_paramsOf_1 : decode cX5_paramsOf 1 = .ok (.ifCond .lt 20, 3) := by decide +kernel
theorem dX5_paramsOf_21 : decode cX5_paramsOf 21 = .ok (.iconst (-1), 1) := by decide +kernel
theorem dX5_paramsOf_22 : decode cX5_paramsOf 22 = .ok (.ireturn, 1) := by decide +kernel
theorem dX5_partOfName_0 : decode cX5_partOfName 0 = .ok (.iconst 0, 1) := by decide +kernel
theorem dX5_partOfName_1 : decode cX5_partOfName 1 = .ok (.istore_n 3, 1) := by decide +kernel
theorem dX5_partOfName_2 : decode cX5_partOfName 2 = .ok (.iload_n 3, 1) := by decide +kernel
theorem dX5_partOfName_3 : decode cX5_partOfName 3 = .ok (.aload_n 0, 1) := by decide +kernel
theorem dX5_partOfName_4 : decode cX5_partOfName 4 = .ok (.getfield 18, 3) := by decide +kernel
theorem dX5_partOfName_7 : decode cX5_partOfName 7 = .ok (.if_icmp .ge 22, 3) := by decide +kernel
theorem dX5_partOfName_29 : decode cX5_partOfName 29 = .ok (.iconst (-1), 1) := by decide +kernel
theorem dX5_partOfName_30 : decode cX5_partOfName 30 = .ok (.ireturn, 1) := by decide +kernel
theorem dX6_readInto_0 : decode cX6_readInto 0 = .ok (.aload_n 1, 1) := by decide +kernel
theorem dX6_readInto_1 : decode cX6_readInto 1 = .ok (.ifnull 7, 3) := by decide +kernel
theorem dX6_readInto_4 : decode cX6_readInto 4 = .ok (.aload_n 2, 1) := by decide +kernel
theorem dX6_readInto_5 : decode cX6_readInto 5 = .ok (.ifnonnull 4, 3) := by decide +kernel
theorem dX6_readInto_9 : decode cX6_readInto 9 = .ok (.aload_n 0, 1) := by decide +kernel
theorem dX6_readInto_10 : decode cX6_readInto 10 = .ok (.aload_n 1, 1) := by decide +kernel
theorem dX6_readInto_11 : decode cX6_readInto 11 = .ok (.putfield 18, 3) := by decide +kernel
theorem dX6_readInto_14 : decode cX6_readInto 14 = .ok (.aload_n 0, 1) := by decide +kernel
theorem dX6_readInto_15 : decode cX6_readInto 15 = .ok (.getfield 18, 3) := by decide +kernel
theorem dX6_readInto_18 : decode cX6_readInto 18 = .ok (.invokevirtual 61, 3) := by decide +kernel
theorem dX6_readInto_21 : decode cX6_readInto 21 = .ok (.aload_n 0, 1) := by decide +kernel
theorem dX6_readInto_22 : decode cX6_readInto 22 = .ok (.iconst 0, 1) := by decide +kernel
theorem dX6_readInto_23 : decode cX6_readInto 23 = .ok (.putfield 26, 3) := by decide +kernel
theorem dX6_readInto_26 : decode cX6_readInto 26 = .ok (.aload_n 0, 1) := by decide +kernel
theorem dX6_readInto_27 : decode cX6_readInto 27 = .ok (.iconst (-1), 1) := by decide +kernel
theorem dX6_readInto_28 : decode cX6_readInto 28 = .ok (.putfield 29, 3) := by decide +kernel
theorem dX6_readInto_31 : decode cX6_readInto 31 = .ok (.aload_n 0, 1) := by decide +kernel
theorem dX6_readInto_32 : decode cX6_readInto 32 = .ok (.iconst 0, 1) := by decide +kernel
theorem dX6_readInto_33 : decode cX6_readInto 33 = .ok (.putfield 22, 3) := by decide +kernel
theorem dX6_readInto_36 : decode cX6_readInto 36 = .ok (.aload_n 0, 1) := by decide +kernel
theorem dX6_readInto_37 : decode cX6_readInto 37 = .ok (.iconst 0, 1) := by decide +kernel
theorem dX6_readInto_38 : decode cX6_readInto 38 = .ok (.putfield 52, 3) := by decide +kernel
theorem dX6_readInto_41 : decode cX6_readInto 41 = .ok (.aload_n 0, 1) := by decide +kernel
theorem dX6_readInto_42 : decode cX6_readInto 42 = .ok (.iconst 0, 1) := by decide +kernel
theorem dX6_readInto_43 : decode cX6_readInto 43 = .ok (.putfield 58, 3) := by decide +kernel
theorem dX6_readInto_46 : decode cX6_readInto 46 = .ok (.aload_n 0, 1) := by decide +kernel
theorem dX6_readInto_47 : decode cX6_readInto 47 = .ok (.getfield 14, 3) := by decide +kernel
theorem dX6_readInto_50 : decode cX6_readInto 50 = .ok (.aload_n 2, 1) := by decide +kernel
theorem dX6_readInto_51 : decode cX6_readInto 51 = .ok (.iload_n 3, 1) := by decide +kernel
theorem dX6_readInto_52 : decode cX6_readInto 52 = .ok (.invokevirtual 66, 3) := by decide +kernel
theorem dX6_readInto_55 : decode cX6_readInto 55 = .ok (.iconst 0, 1) := by decide +kernel
theorem dX6_readInto_56 : decode cX6_readInto 56 = .ok (.istore 4, 2) := by decide +kernel
theorem dX6_readInto_58 : decode cX6_readInto 58 = .ok (.iload 4, 2) := by decide +kernel
theorem dX6_readInto_60 : decode cX6_readInto 60 = .ok (.bipush 40, 2) := by decide +kernel
theorem dX6_readInto_62 : decode cX6_readInto 62 = .ok (.if_icmp .gt 65, 3) := by decide +kernel
theorem dX6_readInto_65 : decode cX6_readInto 65 = .ok (.aload_n 0, 1) := by decide +kernel
theorem dX6_readInto_66 : decode cX6_readInto 66 = .ok (.getfield 14, 3) := by decide +kernel
theorem dX6_readInto_69 : decode cX6_readInto 69 = .ok (.getfield 70, 3) := by decide +kernel
theorem dX6_readInto_72 : decode cX6_readInto 72 = .ok (.sipush 261, 3) := by decide +kernel
theorem dX6_readInto_75 : decode cX6_readInto 75 = .ok (.if_icmp .ne 52, 3) := by decide +kernel
theorem dX6_readInto_127 : decode cX6_readInto 127 = .ok (.aload_n 0, 1) := by decide +kernel
theorem dX6_readInto_128 : decode cX6_readInto 128 = .ok (.getfield 14, 3) := by decide +kernel
theorem dX6_readInto_131 : decode cX6_readInto 131 = .ok (.getfield 70, 3) := by decide +kernel
theorem dX6_readInto_134 : decode cX6_readInto 134 = .ok (.sipush 257, 3) := by decide +kernel
theorem dX6_readInto_137 : decode cX6_readInto 137 = .ok (.if_icmp .eq 8, 3) := by decide +kernel
theorem dX6_readInto_145 : decode cX6_readInto 145 = .ok (.aload_n 0, 1) := by decide +kernel
theorem dX6_readInto_146 : decode cX6_readInto 146 = .ok (.getfield 18, 3) := by decide +kernel
theorem dX6_readInto_149 : decode cX6_readInto 149 = .ok (.getfield 96, 3) := by decide +kernel
theorem dX6_readInto_152 : decode cX6_readInto 152 = .ok (.aload_n 0, 1) := by decide +kernel
theorem dX6_readInto_153 : decode cX6_readInto 153 = .ok (.getfield 18, 3) := by decide +kernel
theorem dX6_readInto_156 : decode cX6_readInto 156 = .ok (.getfield 99, 3) := by decide +kernel
theorem dX6_readInto_159 : decode cX6_readInto 159 = .ok (.aload_n 0, 1) := by decide +kernel
theorem dX6_readInto_160 : decode cX6_readInto 160 = .ok (.getfield 18, 3) := by decide +kernel
theorem dX6_readInto_163 : decode cX6_readInto 163 = .ok (.getfield 102, 3) := by decide +kernel
theorem dX6_readInto_166 : decode cX6_readInto 166 = .ok (.iastore, 1) := by decide +kernel
theorem dX6_readInto_167 : decode cX6_readInto 167 = .ok (.aload_n 0, 1) := by decide +kernel
theorem dX6_readInto_168 : decode cX6_readInto 168 = .ok (.getfield 18, 3) := by decide +kernel
theorem dX6_readInto_171 : decode cX6_readInto 171 = .ok (.aload_n 0, 1) := by decide +kernel
theorem dX6_readInto_172 : decode cX6_readInto 172 = .ok (.getfield 18, 3) := by decide +kernel
theorem dX6_readInto_175 : decode cX6_readInto 175 = .ok (.getfield 105, 3) := by decide +kernel
theorem dX6_readInto_178 : decode cX6_readInto 178 = .ok (.getfield 109, 3) := by decide +kernel
theorem dX6_readInto_181 : decode cX6_readInto 181 = .ok (.putfield 114, 3) := by decide +kernel
theorem dX6_readInto_184 : decode cX6_readInto 184 = .ok (.aload_n 0, 1) := by decide +kernel
theorem dX6_readInto_185 : decode cX6_readInto 185 = .ok (.getfield 26, 3) := by decide +kernel
theorem dX6_readInto_188 : decode cX6_readInto 188 = .ok (.ifCond .ne 8, 3) := by decide +kernel
theorem dX6_readInto_191 : decode cX6_readInto 191 = .ok (.aload_n 0, 1) := by decide +kernel
theorem dX6_readInto_192 : decode cX6_readInto 192 = .ok (.iload_n 3, 1) := by decide +kernel
theorem dX6_readInto_193 : decode cX6_readInto 193 = .ok (.invokevirtual 117, 3) := by decide +kernel
theorem dX6_readInto_196 : decode cX6_readInto 196 = .ok (.return_, 1) := by decide +kernel
theorem dX6_refuseAt_0 : decode cX6_refuseAt 0 = .ok (.aload_n 0, 1) := by decide +kernel
theorem dX6_refuseAt_1 : decode cX6_refuseAt 1 = .ok (.getfield 26, 3) := by decide +kernel
theorem dX6_refuseAt_4 : decode cX6_refuseAt 4 = .ok (.ifCond .ne 13, 3) := by decide +kernel
theorem dX6_refuseAt_7 : decode cX6_refuseAt 7 = .ok (.aload_n 0, 1) := by decide +kernel
theorem dX6_refuseAt_8 : decode cX6_refuseAt 8 = .ok (.iload_n 1, 1) := by decide +kernel
theorem dX6_refuseAt_9 : decode cX6_refuseAt 9 = .ok (.putfield 26, 3) := by decide +kernel
theorem dX6_refuseAt_12 : decode cX6_refuseAt 12 = .ok (.aload_n 0, 1) := by decide +kernel
theorem dX6_refuseAt_13 : decode cX6_refuseAt 13 = .ok (.iload_n 2, 1) := by decide +kernel
theorem dX6_refuseAt_14 : decode cX6_refuseAt 14 = .ok (.putfield 29, 3) := by decide +kernel
theorem dX6_refuseAt_17 : decode cX6_refuseAt 17 = .ok (.return_, 1) := by decide +kernel
theorem dX6_resolve_0 : decode cX6_resolve 0 = .ok (.iconst 0, 1) := by decide +kernel
theorem dX6_resolve_1 : decode cX6_resolve 1 = .ok (.istore_n 2, 1) := by decide +kernel
theorem dX6_resolve_2 : decode cX6_resolve 2 = .ok (.iload_n 2, 1) := by decide +kernel
theorem dX6_resolve_3 : decode cX6_resolve 3 = .ok (.aload_n 0, 1) := by decide +kernel
theorem dX6_resolve_4 : decode cX6_resolve 4 = .ok (.getfield 18, 3) := by decide +kernel
theorem dX6_resolve_7 : decode cX6_resolve 7 = .ok (.getfield 99, 3) := by decide +kernel
theorem dX6_resolve_10 : decode cX6_resolve 10 = .ok (.if_icmp .ge 83, 3) := by decide +kernel
theorem dX6_resolve_93 : decode cX6_resolve 93 = .ok (.aload_n 0, 1) := by decide +kernel
theorem dX6_resolve_94 : decode cX6_resolve 94 = .ok (.getfield 18, 3) := by decide +kernel
theorem dX6_resolve_97 : decode cX6_resolve 97 = .ok (.aload_n 0, 1) := by decide +kernel
theorem dX6_resolve_98 : decode cX6_resolve 98 = .ok (.getfield 18, 3) := by decide +kernel
theorem dX6_resolve_101 : decode cX6_resolve 101 = .ok (.ldc2_w 283, 3) := by decide +kernel
theorem dX6_resolve_104 : decode cX6_resolve 104 = .ok (.invokevirtual 277, 3) := by decide +kernel
theorem dX6_resolve_107 : decode cX6_resolve 107 = .ok (.putfield 285, 3) := by decide +kernel
theorem dX6_resolve_110 : decode cX6_resolve 110 = .ok (.aload_n 0, 1) := by decide +kernel
theorem dX6_resolve_111 : decode cX6_resolve 111 = .ok (.getfield 18, 3) := by decide +kernel
theorem dX6_resolve_114 : decode cX6_resolve 114 = .ok (.aload_n 0, 1) := by decide +kernel
theorem dX6_resolve_115 : decode cX6_resolve 115 = .ok (.getfield 18, 3) := by decide +kernel
theorem dX6_resolve_118 : decode cX6_resolve 118 = .ok (.getfield 285, 3) := by decide +kernel
theorem dX6_resolve_121 : decode cX6_resolve 121 = .ok (.invokevirtual 288, 3) := by decide +kernel
theorem dX6_resolve_124 : decode cX6_resolve 124 = .ok (.ifCond .eq 10, 3) := by decide +kernel
theorem dX6_resolve_127 : decode cX6_resolve 127 = .ok (.aload_n 0, 1) := by decide +kernel
theorem dX6_resolve_128 : decode cX6_resolve 128 = .ok (.bipush 7, 2) := by decide +kernel
theorem dX6_resolve_130 : decode cX6_resolve 130 = .ok (.iload_n 1, 1) := by decide +kernel
theorem dX6_resolve_131 : decode cX6_resolve 131 = .ok (.invokevirtual 123, 3) := by decide +kernel
theorem dX6_resolve_134 : decode cX6_resolve 134 = .ok (.return_, 1) := by decide +kernel
theorem dX9_advance_0 : decode cX9_advance 0 = .ok (.aload_n 0, 1) := by decide +kernel
theorem dX9_advance_1 : decode cX9_advance 1 = .ok (.getfield 24, 3) := by decide +kernel
theorem dX9_advance_4 : decode cX9_advance 4 = .ok (.sipush 260, 3) := by decide +kernel
theorem dX9_advance_7 : decode cX9_advance 7 = .ok (.if_icmp .ne 4, 3) := by decide +kernel
theorem dX9_advance_11 : decode cX9_advance 11 = .ok (.aload_n 0, 1) := by decide +kernel
theorem dX9_advance_12 : decode cX9_advance 12 = .ok (.getfield 19, 3) := by decide +kernel
theorem dX9_advance_15 : decode cX9_advance 15 = .ok (.istore_n 1, 1) := by decide +kernel
theorem dX9_advance_16 : decode cX9_advance 16 = .ok (.iload_n 1, 1) := by decide +kernel
theorem dX9_advance_17 : decode cX9_advance 17 = .ok (.aload_n 0, 1) := by decide +kernel
theorem dX9_advance_18 : decode cX9_advance 18 = .ok (.getfield 15, 3) := by decide +kernel
theorem dX9_advance_21 : decode cX9_advance 21 = .ok (.if_icmp .ge 29, 3) := by decide +kernel
theorem dX9_advance_50 : decode cX9_advance 50 = .ok (.aload_n 0, 1) := by decide +kernel
theorem dX9_advance_51 : decode cX9_advance 51 = .ok (.iload_n 1, 1) := by decide +kernel
theorem dX9_advance_52 : decode cX9_advance 52 = .ok (.putfield 27, 3) := by decide +kernel
theorem dX9_advance_55 : decode cX9_advance 55 = .ok (.aload_n 0, 1) := by decide +kernel
theorem dX9_advance_56 : decode cX9_advance 56 = .ok (.iload_n 1, 1) := by decide +kernel
theorem dX9_advance_57 : decode cX9_advance 57 = .ok (.iconst 1, 1) := by decide +kernel
theorem dX9_advance_58 : decode cX9_advance 58 = .ok (.iadd, 1) := by decide +kernel
theorem dX9_advance_59 : decode cX9_advance 59 = .ok (.putfield 19, 3) := by decide +kernel
theorem dX9_advance_62 : decode cX9_advance 62 = .ok (.aload_n 0, 1) := by decide +kernel
theorem dX9_advance_63 : decode cX9_advance 63 = .ok (.iload_n 1, 1) := by decide +kernel
theorem dX9_advance_64 : decode cX9_advance 64 = .ok (.invokevirtual 53, 3) := by decide +kernel
theorem dX9_advance_67 : decode cX9_advance 67 = .ok (.istore_n 2, 1) := by decide +kernel
theorem dX9_advance_68 : decode cX9_advance 68 = .ok (.iload_n 2, 1) := by decide +kernel
theorem dX9_advance_69 : decode cX9_advance 69 = .ok (.iconst (-1), 1) := by decide +kernel
theorem dX9_advance_70 : decode cX9_advance 70 = .ok (.if_icmp .ne 21, 3) := by decide +kernel
theorem dX9_advance_73 : decode cX9_advance 73 = .ok (.aload_n 0, 1) := by decide +kernel
theorem dX9_advance_74 : decode cX9_advance 74 = .ok (.sipush 257, 3) := by decide +kernel
theorem dX9_advance_77 : decode cX9_advance 77 = .ok (.putfield 24, 3) := by decide +kernel
theorem dX9_advance_80 : decode cX9_advance 80 = .ok (.aload_n 0, 1) := by decide +kernel
theorem dX9_advance_81 : decode cX9_advance 81 = .ok (.aload_n 0, 1) := by decide +kernel
theorem dX9_advance_82 : decode cX9_advance 82 = .ok (.getfield 15, 3) := by decide +kernel
theorem dX9_advance_85 : decode cX9_advance 85 = .ok (.putfield 19, 3) := by decide +kernel
theorem dX9_advance_88 : decode cX9_advance 88 = .ok (.goto 36, 3) := by decide +kernel
theorem dX9_advance_124 : decode cX9_advance 124 = .ok (.return_, 1) := by decide +kernel
theorem dX9_begin_0 : decode cX9_begin 0 = .ok (.aload_n 0, 1) := by decide +kernel
theorem dX9_begin_1 : decode cX9_begin 1 = .ok (.aload_n 1, 1) := by decide +kernel
theorem dX9_begin_2 : decode cX9_begin 2 = .ok (.putfield 9, 3) := by decide +kernel
theorem dX9_begin_5 : decode cX9_begin 5 = .ok (.aload_n 0, 1) := by decide +kernel
theorem dX9_begin_6 : decode cX9_begin 6 = .ok (.iload_n 2, 1) := by decide +kernel
theorem dX9_begin_7 : decode cX9_begin 7 = .ok (.aload_n 1, 1) := by decide +kernel
theorem dX9_begin_8 : decode cX9_begin 8 = .ok (.arraylength, 1) := by decide +kernel
theorem dX9_begin_9 : decode cX9_begin 9 = .ok (.invokestatic 40, 3) := by decide +kernel
theorem dX9_begin_12 : decode cX9_begin 12 = .ok (.putfield 15, 3) := by decide +kernel
theorem dX9_begin_15 : decode cX9_begin 15 = .ok (.aload_n 0, 1) := by decide +kernel
theorem dX9_begin_16 : decode cX9_begin 16 = .ok (.iconst 0, 1) := by decide +kernel
theorem dX9_begin_17 : decode cX9_begin 17 = .ok (.invokevirtual 46, 3) := by decide +kernel
theorem dX9_begin_20 : decode cX9_begin 20 = .ok (.return_, 1) := by decide +kernel
theorem dX9_byteAt_0 : decode cX9_byteAt 0 = .ok (.iload_n 1, 1) := by decide +kernel
theorem dX9_byteAt_1 : decode cX9_byteAt 1 = .ok (.ifCond .lt 24, 3) := by decide +kernel
theorem dX9_byteAt_4 : decode cX9_byteAt 4 = .ok (.iload_n 1, 1) := by decide +kernel
theorem dX9_byteAt_5 : decode cX9_byteAt 5 = .ok (.aload_n 0, 1) := by decide +kernel
theorem dX9_byteAt_6 : decode cX9_byteAt 6 = .ok (.getfield 15, 3) := by decide +kernel
theorem dX9_byteAt_9 : decode cX9_byteAt 9 = .ok (.if_icmp .ge 16, 3) := by decide +kernel
theorem dX9_byteAt_25 : decode cX9_byteAt 25 = .ok (.iconst (-1), 1) := by decide +kernel
theorem dX9_byteAt_26 : decode cX9_byteAt 26 = .ok (.ireturn, 1) := by decide +kernel
theorem dX9_goTo_0 : decode cX9_goTo 0 = .ok (.aload_n 0, 1) := by decide +kernel
theorem dX9_goTo_1 : decode cX9_goTo 1 = .ok (.iload_n 1, 1) := by decide +kernel
theorem dX9_goTo_2 : decode cX9_goTo 2 = .ok (.putfield 19, 3) := by decide +kernel
theorem dX9_goTo_5 : decode cX9_goTo 5 = .ok (.aload_n 0, 1) := by decide +kernel
theorem dX9_goTo_6 : decode cX9_goTo 6 = .ok (.sipush 257, 3) := by decide +kernel
theorem dX9_goTo_9 : decode cX9_goTo 9 = .ok (.putfield 24, 3) := by decide +kernel
theorem dX9_goTo_12 : decode cX9_goTo 12 = .ok (.aload_n 0, 1) := by decide +kernel
theorem dX9_goTo_13 : decode cX9_goTo 13 = .ok (.invokevirtual 50, 3) := by decide +kernel
theorem dX9_goTo_16 : decode cX9_goTo 16 = .ok (.return_, 1) := by decide +kernel
theorem k198 : Cond.initialized "java/lang/Math" ∈ gtb := gtm (in_tables_1_1 (List.mem_of_getElem? (i := 12) rfl)) rfl
theorem k258 : Cond.fieldLink "BlameCourt$Reade\x72" 109 "BlameCourt$Kinds" "count" "I" ∈ gtb := gtm (in_tables_1_1 (List.mem_of_getElem? (i := 72) rfl)) rfl
theorem k281 : Cond.fieldLink "BlameCourt$Reade\x72" 105 "BlameCourt$Program" "kinds" "LBlameCourt$Kinds;" ∈ gtb := gtm (in_tables_1_1 (List.mem_of_getElem? (i := 95) rfl)) rfl
theorem k286 : Cond.fieldLink "BlameCourt$Reade\x72" 99 "BlameCourt$Program" "parts" "I" ∈ gtb := gtm (in_tables_1_1 (List.mem_of_getElem? (i := 100) rfl)) rfl
theorem k291 : Cond.fieldLink "BlameCourt$Reade\x72" 285 "BlameCourt$Program" "mainPart" "I" ∈ gtb := gtm (in_tables_1_1 (List.mem_of_getElem? (i := 105) rfl)) rfl
theorem k314 : Cond.fieldLink "BlameCourt$Reade\x72" 96 "BlameCourt$Program" "entry" "[I" ∈ gtb := gtm (in_tables_1_1 (List.mem_of_getElem? (i := 128) rfl)) rfl
theorem k319 : Cond.fieldLink "BlameCourt$Reade\x72" 114 "BlameCourt$Program" "textKinds" "I" ∈ gtb := gtm (in_tables_1_1 (List.mem_of_getElem? (i := 133) rfl)) rfl
theorem k337 : Cond.fieldLink "BlameCourt$Reade\x72" 102 "BlameCourt$Program" "length" "I" ∈ gtb := gtm (in_tables_1_1 (List.mem_of_getElem? (i := 151) rfl)) rfl
theorem k390 : Cond.fieldLink "BlameCourt$Reade\x72" 70 "BlameCourt$Tokens" "type" "I" ∈ gtb := gtm (in_tables_1_1 (List.mem_of_getElem? (i := 204) rfl)) rfl
theorem k420 : Cond.fieldLink "BlameCourt" 79 "BlameCourt$Reade\x72" "fault" "I" ∈ gtb := gtm (in_tables_1_1 (List.mem_of_getElem? (i := 234) rfl)) rfl
theorem k422 : Cond.fieldLink "BlameCourt" 82 "BlameCourt$Reade\x72" "faultPlace" "I" ∈ gtb := gtm (in_tables_1_1 (List.mem_of_getElem? (i := 236) rfl)) rfl
theorem k723 : Cond.methodLink "BlameCourt" 71 yX10_putFour ∈ gtb := gtm (in_tables_1_3 (List.mem_of_getElem? (i := 57) rfl)) rfl
theorem k735 : Cond.methodLink "BlameCourt" 75 yX6_readInto ∈ gtb := gtm (in_tables_1_3 (List.mem_of_getElem? (i := 69) rfl)) rfl
theorem k739 : Cond.methodLink "BlameCourt$Reade\x72" 61 yX5_clear ∈ gtb := gtm (in_tables_1_3 (List.mem_of_getElem? (i := 73) rfl)) rfl
theorem k743 : Cond.methodLink "BlameCourt$Program" 70 yX3_forgetTexts ∈ gtb := gtm (in_tables_1_3 (List.mem_of_getElem? (i := 77) rfl)) rfl
theorem k747 : Cond.methodLink "BlameCourt$Kinds" 56 yX3_cutTo ∈ gtb := gtm (in_tables_1_3 (List.mem_of_getElem? (i := 81) rfl)) rfl
theorem k751 : Cond.methodLink "BlameCourt$Reade\x72" 66 yX9_begin ∈ gtb := gtm (in_tables_1_3 (List.mem_of_getElem? (i := 85) rfl)) rfl
theorem k755 : Cond.methodLink "BlameCourt$Tokens" 40 yJ9_min_7cf53 ∈ gtb := gtm (in_tables_1_3 (List.mem_of_getElem? (i := 89) rfl)) rfl
theorem k756 : Cond.static yJ9_min_7cf53 ∈ gtb := gtm (in_tables_1_3 (List.mem_of_getElem? (i := 90) rfl)) rfl
theorem k757 : Cond.code yJ9_min_7cf53 prog_14_method_69_code 2 (some .int) ∈ gtb := gtm (in_tables_1_3 (List.mem_of_getElem? (i := 91) rfl)) rfl
theorem k758 : Cond.methodLink "BlameCourt$Tokens" 46 yX9_goTo ∈ gtb := gtm (in_tables_1_3 (List.mem_of_getElem? (i := 92) rfl)) rfl
theorem k762 : Cond.methodLink "BlameCourt$Tokens" 50 yX9_advance ∈ gtb := gtm (in_tables_1_3 (List.mem_of_getElem? (i := 96) rfl)) rfl
theorem k766 : Cond.methodLink "BlameCourt$Tokens" 53 yX9_byteAt ∈ gtb := gtm (in_tables_1_3 (List.mem_of_getElem? (i := 100) rfl)) rfl
theorem k804 : Cond.methodLink "BlameCourt$Reade\x72" 123 yX6_refuseAt ∈ gtb := gtm (in_tables_1_3 (List.mem_of_getElem? (i := 138) rfl)) rfl
theorem k962 : Cond.methodLink "BlameCourt$Reade\x72" 117 yX6_resolve ∈ gtb := gtm (in_tables_1_4 (List.mem_of_getElem? (i := 56) rfl)) rfl
theorem k966 : Cond.methodLink "BlameCourt$Reade\x72" 277 yX5_partOfName ∈ gtb := gtm (in_tables_1_4 (List.mem_of_getElem? (i := 60) rfl)) rfl
theorem k975 : Cond.constantLong "BlameCourt$Reade\x72" 283 1835100526 ∈ gtb := gtm (in_tables_1_4 (List.mem_of_getElem? (i := 69) rfl)) rfl
theorem k976 : Cond.methodLink "BlameCourt$Reade\x72" 288 yX5_paramsOf ∈ gtb := gtm (in_tables_1_4 (List.mem_of_getElem? (i := 70) rfl)) rfl
theorem k988 : Cond.methodLink "BlameCourt" 88 yX10_isPart ∈ gtb := gtm (in_tables_1_4 (List.mem_of_getElem? (i := 82) rfl)) rfl
theorem k1350 : Cond.code yX10_about cX10_about 2 (some .int) ∈ gtb := gtm (in_tables_1_5 (List.mem_of_getElem? (i := 204) rfl)) rfl
theorem ka_X10_about : KA yX10_about cX10_about 2 (some .int) 1 := ⟨k1350, k187, by decide, by decide, by decide +kernel⟩
theorem k1348 : Cond.instanceMethod yX10_about ∈ gtb := gtm (in_tables_1_5 (List.mem_of_getElem? (i := 202) rfl)) rfl
theorem k1349 : Cond.selects "BlameCourt" yX10_about yX10_about ∈ gtb := gtm (in_tables_1_5 (List.mem_of_getElem? (i := 203) rfl)) rfl
theorem kv_X10_about : KV yX10_about := ⟨k1348, k1349⟩
theorem k1346 : Cond.code yX10_asked cX10_asked 3 (some .int) ∈ gtb := gtm (in_tables_1_5 (List.mem_of_getElem? (i := 200) rfl)) rfl
theorem ka_X10_asked : KA yX10_asked cX10_asked 3 (some .int) 2 := ⟨k1346, k187, by decide, by decide, by decide +kernel⟩
theorem k1344 : Cond.instanceMethod yX10_asked ∈ gtb := gtm (in_tables_1_5 (List.mem_of_getElem? (i := 198) rfl)) rfl
theorem k1345 : Cond.selects "BlameCourt" yX10_asked yX10_asked ∈ gtb := gtm (in_tables_1_5 (List.mem_of_getElem? (i := 199) rfl)) rfl
theorem kv_X10_asked : KV yX10_asked := ⟨k1344, k1345⟩
theorem k730 : Cond.code yX10_end cX10_end 2 (some .int) ∈ gtb := gtm (in_tables_1_3 (List.mem_of_getElem? (i := 64) rfl)) rfl
theorem ka_X10_end : KA yX10_end cX10_end 2 (some .int) 1 := ⟨k730, k187, by decide, by decide, by decide +kernel⟩
theorem k728 : Cond.instanceMethod yX10_end ∈ gtb := gtm (in_tables_1_3 (List.mem_of_getElem? (i := 62) rfl)) rfl
theorem k729 : Cond.selects "BlameCourt" yX10_end yX10_end ∈ gtb := gtm (in_tables_1_3 (List.mem_of_getElem? (i := 63) rfl)) rfl
theorem kv_X10_end : KV yX10_end := ⟨k728, k729⟩
theorem k983 : Cond.code yX10_fault cX10_fault 2 (some .int) ∈ gtb := gtm (in_tables_1_4 (List.mem_of_getElem? (i := 77) rfl)) rfl
theorem ka_X10_fault : KA yX10_fault cX10_fault 2 (some .int) 1 := ⟨k983, k187, by decide, by decide, by decide +kernel⟩
theorem k981 : Cond.instanceMethod yX10_fault ∈ gtb := gtm (in_tables_1_4 (List.mem_of_getElem? (i := 75) rfl)) rfl
theorem k982 : Cond.selects "BlameCourt" yX10_fault yX10_fault ∈ gtb := gtm (in_tables_1_4 (List.mem_of_getElem? (i := 76) rfl)) rfl
theorem kv_X10_fault : KV yX10_fault := ⟨k981, k982⟩
theorem k722 : Cond.code yX10_feed cX10_feed 6 (some .int) ∈ gtb := gtm (in_tables_1_3 (List.mem_of_getElem? (i := 56) rfl)) rfl
theorem ka_X10_feed : KA yX10_feed cX10_feed 6 (some .int) 5 := ⟨k722, k187, by decide, by decide, by decide +kernel⟩
theorem k720 : Cond.instanceMethod yX10_feed ∈ gtb := gtm (in_tables_1_3 (List.mem_of_getElem? (i := 54) rfl)) rfl
theorem k721 : Cond.selects "BlameCourt" yX10_feed yX10_feed ∈ gtb := gtm (in_tables_1_3 (List.mem_of_getElem? (i := 55) rfl)) rfl
theorem kv_X10_feed : KV yX10_feed := ⟨k720, k721⟩
theorem k1115 : Cond.code yX10_guard cX10_guard 3 (some .int) ∈ gtb := gtm (in_tables_1_4 (List.mem_of_getElem? (i := 209) rfl)) rfl
theorem ka_X10_guard : KA yX10_guard cX10_guard 3 (some .int) 2 := ⟨k1115, k187, by decide, by decide, by decide +kernel⟩
theorem k1113 : Cond.instanceMethod yX10_guard ∈ gtb := gtm (in_tables_1_4 (List.mem_of_getElem? (i := 207) rfl)) rfl
theorem k1114 : Cond.selects "BlameCourt" yX10_guard yX10_guard ∈ gtb := gtm (in_tables_1_4 (List.mem_of_getElem? (i := 208) rfl)) rfl
theorem kv_X10_guard : KV yX10_guard := ⟨k1113, k1114⟩
theorem k991 : Cond.code yX10_isPart cX10_isPart 2 (some .boolean) ∈ gtb := gtm (in_tables_1_4 (List.mem_of_getElem? (i := 85) rfl)) rfl
theorem ka_X10_isPart : KA yX10_isPart cX10_isPart 2 (some .boolean) 1 := ⟨k991, k187, by decide, by decide, by decide +kernel⟩
theorem k990 : Cond.instanceMethod yX10_isPart ∈ gtb := gtm (in_tables_1_4 (List.mem_of_getElem? (i := 84) rfl)) rfl
theorem k46 : Cond.selects "BlameCourt" yX10_isPart yX10_isPart ∈ gtb := gtm (in_lw_privs_3 (q := (yX10_isPart, 13)) (List.mem_of_getElem? (i := 14) rfl)) rfl
theorem kv_X10_isPart : KV yX10_isPart := ⟨k990, k46⟩
theorem k995 : Cond.code yX10_judge cX10_judge 1 (some .int) ∈ gtb := gtm (in_tables_1_4 (List.mem_of_getElem? (i := 89) rfl)) rfl
theorem ka_X10_judge : KA yX10_judge cX10_judge 1 (some .int) 0 := ⟨k995, k187, by decide, by decide, by decide +kernel⟩
theorem k993 : Cond.instanceMethod yX10_judge ∈ gtb := gtm (in_tables_1_4 (List.mem_of_getElem? (i := 87) rfl)) rfl
theorem k994 : Cond.selects "BlameCourt" yX10_judge yX10_judge ∈ gtb := gtm (in_tables_1_4 (List.mem_of_getElem? (i := 88) rfl)) rfl
theorem kv_X10_judge : KV yX10_judge := ⟨k993, k994⟩
theorem k1342 : Cond.code yX10_out cX10_out 2 (some .int) ∈ gtb := gtm (in_tables_1_5 (List.mem_of_getElem? (i := 196) rfl)) rfl
theorem ka_X10_out : KA yX10_out cX10_out 2 (some .int) 1 := ⟨k1342, k187, by decide, by decide, by decide +kernel⟩
theorem k1340 : Cond.instanceMethod yX10_out ∈ gtb := gtm (in_tables_1_5 (List.mem_of_getElem? (i := 194) rfl)) rfl
theorem k1341 : Cond.selects "BlameCourt" yX10_out yX10_out ∈ gtb := gtm (in_tables_1_5 (List.mem_of_getElem? (i := 195) rfl)) rfl
theorem kv_X10_out : KV yX10_out := ⟨k1340, k1341⟩
theorem k1120 : Cond.code yX10_part cX10_part 3 (some .int) ∈ gtb := gtm (in_tables_1_4 (List.mem_of_getElem? (i := 214) rfl)) rfl
theorem ka_X10_part : KA yX10_part cX10_part 3 (some .int) 2 := ⟨k1120, k187, by decide, by decide, by decide +kernel⟩
theorem k1118 : Cond.instanceMethod yX10_part ∈ gtb := gtm (in_tables_1_4 (List.mem_of_getElem? (i := 212) rfl)) rfl
theorem k1119 : Cond.selects "BlameCourt" yX10_part yX10_part ∈ gtb := gtm (in_tables_1_4 (List.mem_of_getElem? (i := 213) rfl)) rfl
theorem kv_X10_part : KV yX10_part := ⟨k1118, k1119⟩
theorem k726 : Cond.code yX10_putFour cX10_putFour 3 none ∈ gtb := gtm (in_tables_1_3 (List.mem_of_getElem? (i := 60) rfl)) rfl
theorem ka_X10_putFour : KA yX10_putFour cX10_putFour 3 none 1 := ⟨k726, k187, by decide, by decide, by decide +kernel⟩
theorem k725 : Cond.instanceMethod yX10_putFour ∈ gtb := gtm (in_tables_1_3 (List.mem_of_getElem? (i := 59) rfl)) rfl
theorem k2 : Cond.selects "BlameCourt" yX10_putFour yX10_putFour ∈ gtb := gtm (in_lw_privs_1 (q := (yX10_putFour, 13)) (List.mem_of_getElem? (i := 2) rfl)) rfl
theorem kv_X10_putFour : KV yX10_putFour := ⟨k725, k2⟩
theorem k734 : Cond.code yX10_read cX10_read 2 (some .int) ∈ gtb := gtm (in_tables_1_3 (List.mem_of_getElem? (i := 68) rfl)) rfl
theorem ka_X10_read : KA yX10_read cX10_read 2 (some .int) 0 := ⟨k734, k187, by decide, by decide, by decide +kernel⟩
theorem k732 : Cond.instanceMethod yX10_read ∈ gtb := gtm (in_tables_1_3 (List.mem_of_getElem? (i := 66) rfl)) rfl
theorem k733 : Cond.selects "BlameCourt" yX10_read yX10_read ∈ gtb := gtm (in_tables_1_3 (List.mem_of_getElem? (i := 67) rfl)) rfl
theorem kv_X10_read : KV yX10_read := ⟨k732, k733⟩
theorem k1128 : Cond.code yX10_run cX10_run 2 (some .int) ∈ gtb := gtm (in_tables_1_4 (List.mem_of_getElem? (i := 222) rfl)) rfl
theorem ka_X10_run : KA yX10_run cX10_run 2 (some .int) 1 := ⟨k1128, k187, by decide, by decide, by decide +kernel⟩
theorem k1126 : Cond.instanceMethod yX10_run ∈ gtb := gtm (in_tables_1_4 (List.mem_of_getElem? (i := 220) rfl)) rfl
theorem k1127 : Cond.selects "BlameCourt" yX10_run yX10_run ∈ gtb := gtm (in_tables_1_4 (List.mem_of_getElem? (i := 221) rfl)) rfl
theorem kv_X10_run : KV yX10_run := ⟨k1126, k1127⟩
theorem k1322 : Cond.code yX10_runUntold cX10_runUntold 2 (some .int) ∈ gtb := gtm (in_tables_1_5 (List.mem_of_getElem? (i := 176) rfl)) rfl
theorem ka_X10_runUntold : KA yX10_runUntold cX10_runUntold 2 (some .int) 1 := ⟨k1322, k187, by decide, by decide, by decide +kernel⟩
theorem k1320 : Cond.instanceMethod yX10_runUntold ∈ gtb := gtm (in_tables_1_5 (List.mem_of_getElem? (i := 174) rfl)) rfl
theorem k1321 : Cond.selects "BlameCourt" yX10_runUntold yX10_runUntold ∈ gtb := gtm (in_tables_1_5 (List.mem_of_getElem? (i := 175) rfl)) rfl
theorem kv_X10_runUntold : KV yX10_runUntold := ⟨k1320, k1321⟩
theorem k987 : Cond.code yX10_tell cX10_tell 3 (some .boolean) ∈ gtb := gtm (in_tables_1_4 (List.mem_of_getElem? (i := 81) rfl)) rfl
theorem ka_X10_tell : KA yX10_tell cX10_tell 3 (some .boolean) 2 := ⟨k987, k187, by decide, by decide, by decide +kernel⟩
theorem k985 : Cond.instanceMethod yX10_tell ∈ gtb := gtm (in_tables_1_4 (List.mem_of_getElem? (i := 79) rfl)) rfl
theorem k986 : Cond.selects "BlameCourt" yX10_tell yX10_tell ∈ gtb := gtm (in_tables_1_4 (List.mem_of_getElem? (i := 80) rfl)) rfl
theorem kv_X10_tell : KV yX10_tell := ⟨k985, k986⟩
theorem k1326 : Cond.code yX10_told cX10_told 2 (some .int) ∈ gtb := gtm (in_tables_1_5 (List.mem_of_getElem? (i := 180) rfl)) rfl
theorem ka_X10_told : KA yX10_told cX10_told 2 (some .int) 1 := ⟨k1326, k187, by decide, by decide, by decide +kernel⟩
theorem k1324 : Cond.instanceMethod yX10_told ∈ gtb := gtm (in_tables_1_5 (List.mem_of_getElem? (i := 178) rfl)) rfl
theorem k1325 : Cond.selects "BlameCourt" yX10_told yX10_told ∈ gtb := gtm (in_tables_1_5 (List.mem_of_getElem? (i := 179) rfl)) rfl
theorem kv_X10_told : KV yX10_told := ⟨k1324, k1325⟩
theorem k750 : Cond.code yX3_cutTo cX3_cutTo 3 none ∈ gtb := gtm (in_tables_1_3 (List.mem_of_getElem? (i := 84) rfl)) rfl
theorem ka_X3_cutTo : KA yX3_cutTo cX3_cutTo 3 none 1 := ⟨k750, k189, by decide, by decide, by decide +kernel⟩
theorem k748 : Cond.instanceMethod yX3_cutTo ∈ gtb := gtm (in_tables_1_3 (List.mem_of_getElem? (i := 82) rfl)) rfl
theorem k749 : Cond.selects "BlameCourt$Kinds" yX3_cutTo yX3_cutTo ∈ gtb := gtm (in_tables_1_3 (List.mem_of_getElem? (i := 83) rfl)) rfl
theorem kv_X3_cutTo : KV yX3_cutTo := ⟨k748, k749⟩
theorem k746 : Cond.code yX3_forgetTexts cX3_forgetTexts 1 none ∈ gtb := gtm (in_tables_1_3 (List.mem_of_getElem? (i := 80) rfl)) rfl
theorem ka_X3_forgetTexts : KA yX3_forgetTexts cX3_forgetTexts 1 none 0 := ⟨k746, k189, by decide, by decide, by decide +kernel⟩
theorem k744 : Cond.instanceMethod yX3_forgetTexts ∈ gtb := gtm (in_tables_1_3 (List.mem_of_getElem? (i := 78) rfl)) rfl
theorem k745 : Cond.selects "BlameCourt$Kinds" yX3_forgetTexts yX3_forgetTexts ∈ gtb := gtm (in_tables_1_3 (List.mem_of_getElem? (i := 79) rfl)) rfl
theorem kv_X3_forgetTexts : KV yX3_forgetTexts := ⟨k744, k745⟩
theorem k742 : Cond.code yX5_clear cX5_clear 2 none ∈ gtb := gtm (in_tables_1_3 (List.mem_of_getElem? (i := 76) rfl)) rfl
theorem ka_X5_clear : KA yX5_clear cX5_clear 2 none 0 := ⟨k742, k188, by decide, by decide, by decide +kernel⟩
theorem k740 : Cond.instanceMethod yX5_clear ∈ gtb := gtm (in_tables_1_3 (List.mem_of_getElem? (i := 74) rfl)) rfl
theorem k741 : Cond.selects "BlameCourt$Program" yX5_clear yX5_clear ∈ gtb := gtm (in_tables_1_3 (List.mem_of_getElem? (i := 75) rfl)) rfl
theorem kv_X5_clear : KV yX5_clear := ⟨k740, k741⟩
theorem k979 : Cond.code yX5_paramsOf cX5_paramsOf 2 (some .int) ∈ gtb := gtm (in_tables_1_4 (List.mem_of_getElem? (i := 73) rfl)) rfl
theorem ka_X5_paramsOf : KA yX5_paramsOf cX5_paramsOf 2 (some .int) 1 := ⟨k979, k188, by decide, by decide, by decide +kernel⟩
theorem k977 : Cond.instanceMethod yX5_paramsOf ∈ gtb := gtm (in_tables_1_4 (List.mem_of_getElem? (i := 71) rfl)) rfl
theorem k978 : Cond.selects "BlameCourt$Program" yX5_paramsOf yX5_paramsOf ∈ gtb := gtm (in_tables_1_4 (List.mem_of_getElem? (i := 72) rfl)) rfl
theorem kv_X5_paramsOf : KV yX5_paramsOf := ⟨k977, k978⟩
theorem k969 : Cond.code yX5_partOfName cX5_partOfName 4 (some .int) ∈ gtb := gtm (in_tables_1_4 (List.mem_of_getElem? (i := 63) rfl)) rfl
theorem ka_X5_partOfName : KA yX5_partOfName cX5_partOfName 4 (some .int) 1 := ⟨k969, k188, by decide, by decide, by decide +kernel⟩
theorem k967 : Cond.instanceMethod yX5_partOfName ∈ gtb := gtm (in_tables_1_4 (List.mem_of_getElem? (i := 61) rfl)) rfl
theorem k968 : Cond.selects "BlameCourt$Program" yX5_partOfName yX5_partOfName ∈ gtb := gtm (in_tables_1_4 (List.mem_of_getElem? (i := 62) rfl)) rfl
theorem kv_X5_partOfName : KV yX5_partOfName := ⟨k967, k968⟩
theorem k738 : Cond.code yX6_readInto cX6_readInto 5 none ∈ gtb := gtm (in_tables_1_3 (List.mem_of_getElem? (i := 72) rfl)) rfl
theorem ka_X6_readInto : KA yX6_readInto cX6_readInto 5 none 3 := ⟨k738, k191, by decide, by decide, by decide +kernel⟩
theorem k736 : Cond.instanceMethod yX6_readInto ∈ gtb := gtm (in_tables_1_3 (List.mem_of_getElem? (i := 70) rfl)) rfl
theorem k737 : Cond.selects "BlameCourt$Reade\x72" yX6_readInto yX6_readInto ∈ gtb := gtm (in_tables_1_3 (List.mem_of_getElem? (i := 71) rfl)) rfl
theorem kv_X6_readInto : KV yX6_readInto := ⟨k736, k737⟩
theorem k807 : Cond.code yX6_refuseAt cX6_refuseAt 3 none ∈ gtb := gtm (in_tables_1_3 (List.mem_of_getElem? (i := 141) rfl)) rfl
theorem ka_X6_refuseAt : KA yX6_refuseAt cX6_refuseAt 3 none 2 := ⟨k807, k191, by decide, by decide, by decide +kernel⟩
theorem k806 : Cond.instanceMethod yX6_refuseAt ∈ gtb := gtm (in_tables_1_3 (List.mem_of_getElem? (i := 140) rfl)) rfl
theorem k9 : Cond.selects "BlameCourt$Reade\x72" yX6_refuseAt yX6_refuseAt ∈ gtb := gtm (in_lw_privs_1 (q := (yX6_refuseAt, 14)) (List.mem_of_getElem? (i := 9) rfl)) rfl
theorem kv_X6_refuseAt : KV yX6_refuseAt := ⟨k806, k9⟩
theorem k965 : Cond.code yX6_resolve cX6_resolve 4 none ∈ gtb := gtm (in_tables_1_4 (List.mem_of_getElem? (i := 59) rfl)) rfl
theorem ka_X6_resolve : KA yX6_resolve cX6_resolve 4 none 1 := ⟨k965, k191, by decide, by decide, by decide +kernel⟩
theorem k964 : Cond.instanceMethod yX6_resolve ∈ gtb := gtm (in_tables_1_4 (List.mem_of_getElem? (i := 58) rfl)) rfl
theorem k44 : Cond.selects "BlameCourt$Reade\x72" yX6_resolve yX6_resolve ∈ gtb := gtm (in_lw_privs_3 (q := (yX6_resolve, 14)) (List.mem_of_getElem? (i := 12) rfl)) rfl
theorem kv_X6_resolve : KV yX6_resolve := ⟨k964, k44⟩
theorem k765 : Cond.code yX9_advance cX9_advance 3 none ∈ gtb := gtm (in_tables_1_3 (List.mem_of_getElem? (i := 99) rfl)) rfl
theorem ka_X9_advance : KA yX9_advance cX9_advance 3 none 0 := ⟨k765, k192, by decide, by decide, by decide +kernel⟩
theorem k763 : Cond.instanceMethod yX9_advance ∈ gtb := gtm (in_tables_1_3 (List.mem_of_getElem? (i := 97) rfl)) rfl
theorem k764 : Cond.selects "BlameCourt$Tokens" yX9_advance yX9_advance ∈ gtb := gtm (in_tables_1_3 (List.mem_of_getElem? (i := 98) rfl)) rfl
theorem kv_X9_advance : KV yX9_advance := ⟨k763, k764⟩
theorem k754 : Cond.code yX9_begin cX9_begin 3 none ∈ gtb := gtm (in_tables_1_3 (List.mem_of_getElem? (i := 88) rfl)) rfl
theorem ka_X9_begin : KA yX9_begin cX9_begin 3 none 2 := ⟨k754, k192, by decide, by decide, by decide +kernel⟩
theorem k752 : Cond.instanceMethod yX9_begin ∈ gtb := gtm (in_tables_1_3 (List.mem_of_getElem? (i := 86) rfl)) rfl
theorem k753 : Cond.selects "BlameCourt$Tokens" yX9_begin yX9_begin ∈ gtb := gtm (in_tables_1_3 (List.mem_of_getElem? (i := 87) rfl)) rfl
theorem kv_X9_begin : KV yX9_begin := ⟨k752, k753⟩
theorem k769 : Cond.code yX9_byteAt cX9_byteAt 2 (some .int) ∈ gtb := gtm (in_tables_1_3 (List.mem_of_getElem? (i := 103) rfl)) rfl
theorem ka_X9_byteAt : KA yX9_byteAt cX9_byteAt 2 (some .int) 1 := ⟨k769, k192, by decide, by decide, by decide +kernel⟩
theorem k768 : Cond.instanceMethod yX9_byteAt ∈ gtb := gtm (in_tables_1_3 (List.mem_of_getElem? (i := 102) rfl)) rfl
theorem k3 : Cond.selects "BlameCourt$Tokens" yX9_byteAt yX9_byteAt ∈ gtb := gtm (in_lw_privs_1 (q := (yX9_byteAt, 8)) (List.mem_of_getElem? (i := 3) rfl)) rfl
theorem kv_X9_byteAt : KV yX9_byteAt := ⟨k768, k3⟩
theorem k761 : Cond.code yX9_goTo cX9_goTo 2 none ∈ gtb := gtm (in_tables_1_3 (List.mem_of_getElem? (i := 95) rfl)) rfl
theorem ka_X9_goTo : KA yX9_goTo cX9_goTo 2 none 1 := ⟨k761, k192, by decide, by decide, by decide +kernel⟩
theorem k759 : Cond.instanceMethod yX9_goTo ∈ gtb := gtm (in_tables_1_3 (List.mem_of_getElem? (i := 93) rfl)) rfl
theorem k760 : Cond.selects "BlameCourt$Tokens" yX9_goTo yX9_goTo ∈ gtb := gtm (in_tables_1_3 (List.mem_of_getElem? (i := 94) rfl)) rfl
theorem kv_X9_goTo : KV yX9_goTo := ⟨k759, k760⟩
/-- what the two calls answer of a new object -/
def endV (n : Int32) : Int32 := if n = 0 then 0 else -1
def aboutV (w : Int32) : Int32 := if w = 0 then 0 else if w = 1 then 0 else if w = 2 then 0 else -1
theorem endV_neg {n : Int32} (h : n < 0) : -1 = endV n := by
  unfold endV
  rw [if_neg]
  rintro rfl
  exact absurd h (by decide)
theorem endV_pos {n : Int32} (h : ¬ n ≤ 0) : -1 = endV n := by
  unfold endV
  rw [if_neg]
  rintro rfl
  exact absurd h (by decide)
theorem endV_zero {n : Int32} (h1 : ¬ n < 0) (h2 : n ≤ 0) : n = endV n := by
  have e : n = 0 := by
    apply Int32.toInt_inj.mp
    rw [Int32.lt_iff_toInt_lt, Int32.toInt_zero] at h1
    rw [Int32.le_iff_toInt_le, Int32.toInt_zero] at h2
    rw [Int32.toInt_zero]
    omega
  subst e
  rfl
theorem swc (n : Nat) (hn : n < 2147483648) (x : Int32) : (∃ k : Nat, k < n ∧ x = nI k) ∨ (x.toInt < 0 ∨ (n : Int) - 1 < x.toInt) := by
  by_cases h : x < 0
  · rw [Int32.lt_iff_toInt_lt, Int32.toInt_zero] at h
    exact Or.inr (Or.inl h)
  · obtain ⟨k, hk, rfl⟩ := nI_of h
    rcases Nat.lt_or_ge k n with q | q
    · exact Or.inl ⟨k, q, rfl⟩
    · refine Or.inr (Or.inr ?_)
      rw [nI_toInt hk]
      omega
theorem aboutV_out {x : Int32} (h : x.toInt < 0 ∨ (4 : Int) - 1 < x.toInt) : -1 = aboutV x := by
  unfold aboutV
  rw [if_neg, if_neg, if_neg] <;> (rintro rfl; revert h; decide)
theorem cnt_lt9 {n : Nat} (h : n ≤ 9) : nI n - 1 < 9 := by
  have q : n = 0 ∨ n = 1 ∨ n = 2 ∨ n = 3 ∨ n = 4 ∨ n = 5 ∨ n = 6 ∨ n = 7 ∨ n = 8 ∨ n = 9 := by omega
  rcases q with rfl | rfl | rfl | rfl | rfl | rfl | rfl | rfl | rfl | rfl <;> decide

set_option maxHeartbeats 4000000 in
set_option maxRecDepth 100000 in
theorem b_fault (l : Launch) (dC : Nat → ClassId) (dI : Nat → Nat → Nat) (h0 tp sp rd : Nat) (tl : List Value) (w : Int32) (sz : Nat) (htl : tl.length = 4) : Met l yX10_fault (wsOf yX10_fault cX10_fault 2 (some .int)) ({ frames := 6, cells := 0, slots := 0, locals := 90 } : Room) (va_Pc [.ref h0, .int w] (PB dC dI sz [(h0, .inr (8, .ref tp :: .int 0 :: .ref sp :: .int 0 :: .int 0 :: .int 0 :: .ref rd :: .int (-1) :: .int (-1) :: tl))] [])) (va_Qi (S := Unit) (fun r _ => r = -1) (fun x t => PW dC dI (va_A [(h0, .inr (8, .ref tp :: .int 0 :: .ref sp :: .int 0 :: .int 0 :: .int 0 :: .ref rd :: .int (-1) :: .int (-1) :: tl))] sz) ([]) ([]) t) (va_A [(h0, .inr (8, .ref tp :: .int 0 :: .ref sp :: .int 0 :: .int 0 :: .int 0 :: .ref rd :: .int (-1) :: .int (-1) :: tl))] sz)) 0 0 (va_A [(h0, .inr (8, .ref tp :: .int 0 :: .ref sp :: .int 0 :: .int 0 :: .int 0 :: .ref rd :: .int (-1) :: .int (-1) :: tl))] sz) := by
  refine mbody (y := yX10_fault) (av := [.ref h0, .int w]) (b := cX10_fault) (n := 2) (ret := (some .int)) (Qc := fun A => (va_Qi (S := Unit) (fun r _ => r = -1) (fun x t => PW dC dI A ([]) ([]) t) A)) (by decide) (Nat.le_of_ble_eq_true rfl) ?_
  intro p e s m below meth c ls A H hf hr hin hlk hw hl
  have hl : lv_has ls 2 [(0, .ref h0), (1, .int w)] := hl
  refine lv_iload_n hf.1 hf.2.1 dX10_fault_0 rfl (lv_at hl 1 rfl) ?_
  refine lv_if_ne (tgt := 9) hf.1 hf.2.1 dX10_fault_1 (by decide) (fun c_1 => ?_) (fun c_1 => ?_)
  · refine lv_iload_n hf.1 hf.2.1 dX10_fault_9 rfl (lv_at hl 1 rfl) ?_
    refine lv_iconst (v := 1) hf.1 hf.2.1 dX10_fault_10 (by decide) ?_
    refine lv_icmp_ne (tgt := 21) hf.1 hf.2.1 dX10_fault_11 (by decide) (fun c_2 => ?_) (fun c_2 => ?_)
    · refine lv_iconst (v := (-1)) hf.1 hf.2.1 dX10_fault_21 (by decide) ?_
      exact mret_i (v := (-1)) hf hr hlk hw () rfl [] [] rfl rfl rfl (Nat.le_of_ble_eq_true rfl) (Nat.le_of_ble_eq_true rfl) dX10_fault_22
    · refine lv_aload_n hf.1 hf.2.1 dX10_fault_14 rfl (lv_at hl 0 rfl) ?_
      refine mget hf hw iX10 0 rfl rfl 8 (by decide) k691 rfl dX10_fault_15 ?_
      refine lv_goto (tgt := 22) hf.1 hf.2.1 dX10_fault_18 (by decide) ?_
      exact mret_i (v := (-1)) hf hr hlk hw () rfl [] [] rfl rfl rfl (Nat.le_of_ble_eq_true rfl) (Nat.le_of_ble_eq_true rfl) dX10_fault_22
  · refine lv_aload_n hf.1 hf.2.1 dX10_fault_4 rfl (lv_at hl 0 rfl) ?_
    refine mget hf hw iX10 0 rfl rfl 7 (by decide) k690 rfl dX10_fault_5 ?_
    exact mret_i (v := (-1)) hf hr hlk hw () rfl [] [] rfl rfl rfl (Nat.le_of_ble_eq_true rfl) (Nat.le_of_ble_eq_true rfl) dX10_fault_8

set_option maxHeartbeats 4000000 in
set_option maxRecDepth 100000 in
theorem b_isPart (l : Launch) (dC : Nat → ClassId) (dI : Nat → Nat → Nat) (h0 tp sp rd : Nat) (tl : List Value) (w : Int32) (sz : Nat) (htl : tl.length = 4) : Met l yX10_isPart (wsOf yX10_isPart cX10_isPart 2 (some .boolean)) ({ frames := 6, cells := 0, slots := 0, locals := 90 } : Room) (va_Pc [.ref h0, .int w] (PB dC dI sz [(h0, .inr (8, .ref tp :: .int 0 :: .ref sp :: .int 0 :: .int 0 :: .int 0 :: .ref rd :: .int (-1) :: .int (-1) :: tl))] [])) (va_Qi (S := Unit) (fun r _ => r = 0) (fun x t => PW dC dI (va_A [(h0, .inr (8, .ref tp :: .int 0 :: .ref sp :: .int 0 :: .int 0 :: .int 0 :: .ref rd :: .int (-1) :: .int (-1) :: tl))] sz) ([]) ([]) t) (va_A [(h0, .inr (8, .ref tp :: .int 0 :: .ref sp :: .int 0 :: .int 0 :: .int 0 :: .ref rd :: .int (-1) :: .int (-1) :: tl))] sz)) 0 0 (va_A [(h0, .inr (8, .ref tp :: .int 0 :: .ref sp :: .int 0 :: .int 0 :: .int 0 :: .ref rd :: .int (-1) :: .int (-1) :: tl))] sz) := by
  refine mbody (y := yX10_isPart) (av := [.ref h0, .int w]) (b := cX10_isPart) (n := 2) (ret := (some .boolean)) (Qc := fun A => (va_Qi (S := Unit) (fun r _ => r = 0) (fun x t => PW dC dI A ([]) ([]) t) A)) (by decide) (Nat.le_of_ble_eq_true rfl) ?_
  intro p e s m below meth c ls A H hf hr hin hlk hw hl
  have hl : lv_has ls 2 [(0, .ref h0), (1, .int w)] := hl
  refine lv_aload_n hf.1 hf.2.1 dX10_isPart_0 rfl (lv_at hl 0 rfl) ?_
  refine mget hf hw iX10 0 rfl rfl 3 (by decide) k683 rfl dX10_isPart_1 ?_
  refine lv_if_eq (tgt := 26) hf.1 hf.2.1 dX10_isPart_4 (by decide) (fun c_1 => ?_) (fun c_1 => absurd (by decide) c_1)
  refine lv_iconst (v := 0) hf.1 hf.2.1 dX10_isPart_26 (by decide) ?_
  exact mret_z (v := 0) hf hr hlk (by decide) hw () rfl [] [] rfl rfl rfl (Nat.le_of_ble_eq_true rfl) (Nat.le_of_ble_eq_true rfl) dX10_isPart_27

set_option maxHeartbeats 4000000 in
set_option maxRecDepth 100000 in
theorem b_tell (l : Launch) (dC : Nat → ClassId) (dI : Nat → Nat → Nat) (h0 tp sp rd : Nat) (tl : List Value) (w v : Int32) (sz : Nat) (htl : tl.length = 4) : Met l yX10_tell (wsOf yX10_tell cX10_tell 3 (some .boolean)) ({ frames := 10, cells := 0, slots := 0, locals := 150 } : Room) (va_Pc [.ref h0, .int w, .int v] (PB dC dI sz [(h0, .inr (8, .ref tp :: .int 0 :: .ref sp :: .int 0 :: .int 0 :: .int 0 :: .ref rd :: .int (-1) :: .int (-1) :: tl))] [])) (va_Qi (S := Unit) (fun r _ => r = 0) (fun x t => PW dC dI (va_A [(h0, .inr (8, .ref tp :: .int 0 :: .ref sp :: .int 0 :: .int 0 :: .int 0 :: .ref rd :: .int (-1) :: .int (-1) :: tl))] sz) ([]) ([]) t) (va_A [(h0, .inr (8, .ref tp :: .int 0 :: .ref sp :: .int 0 :: .int 0 :: .int 0 :: .ref rd :: .int (-1) :: .int (-1) :: tl))] sz)) 0 0 (va_A [(h0, .inr (8, .ref tp :: .int 0 :: .ref sp :: .int 0 :: .int 0 :: .int 0 :: .ref rd :: .int (-1) :: .int (-1) :: tl))] sz) := by
  refine mbody (y := yX10_tell) (av := [.ref h0, .int w, .int v]) (b := cX10_tell) (n := 3) (ret := (some .boolean)) (Qc := fun A => (va_Qi (S := Unit) (fun r _ => r = 0) (fun x t => PW dC dI A ([]) ([]) t) A)) (by decide) (Nat.le_of_ble_eq_true rfl) ?_
  intro p e s m below meth c ls A H hf hr hin hlk hw hl
  have hl : lv_has ls 3 [(0, .ref h0), (1, .int w), (2, .int v)] := hl
  refine lv_aload_n hf.1 hf.2.1 dX10_tell_0 rfl (lv_at hl 0 rfl) ?_
  refine lv_iload_n hf.1 hf.2.1 dX10_tell_1 rfl (lv_at hl 1 rfl) ?_
  refine mV_i (As := [.int w]) (rest := []) (wr := []) (tr := []) hf hw (b_isPart l dC dI h0 tp sp rd tl w H.size htl) ka_X10_isPart kv_X10_isPart 0 rfl rfl k988 [0] [] [] [] rfl rfl rfl rfl rfl (by decide) rfl rfl rfl hl.1 rfl rfl ⟨Nat.le_of_ble_eq_true rfl, Nat.le_of_ble_eq_true rfl⟩ (Nat.le_of_ble_eq_true rfl) (ce := 0) (sl := 0) rfl rfl ⟨Nat.le_of_ble_eq_true rfl, Nat.le_of_ble_eq_true rfl⟩ dX10_tell_2 (fun r_1 u_2 hu_2 H locs hw => ?_)
  have hw : Wd dC dI A [] [] s H locs := hw
  obtain rfl := hu_2
  refine lv_if_ne (tgt := 10) hf.1 hf.2.1 dX10_tell_5 (by decide) (fun c_3 => absurd (by decide) c_3) (fun c_3 => ?_)
  refine lv_iconst (v := 0) hf.1 hf.2.1 dX10_tell_8 (by decide) ?_
  exact mret_z (v := 0) hf hr hlk (by decide) hw () rfl [] [] rfl rfl rfl (Nat.le_of_ble_eq_true rfl) (Nat.le_of_ble_eq_true rfl) dX10_tell_9

set_option maxHeartbeats 4000000 in
set_option maxRecDepth 100000 in
theorem b_judge (l : Launch) (dC : Nat → ClassId) (dI : Nat → Nat → Nat) (h0 tp sp rd : Nat) (tl : List Value) (sz : Nat) (htl : tl.length = 4) : Met l yX10_judge (wsOf yX10_judge cX10_judge 1 (some .int)) ({ frames := 6, cells := 0, slots := 0, locals := 90 } : Room) (va_Pc [.ref h0] (PB dC dI sz [(h0, .inr (8, .ref tp :: .int 0 :: .ref sp :: .int 0 :: .int 0 :: .int 0 :: .ref rd :: .int (-1) :: .int (-1) :: tl))] [])) (va_Qi (S := Unit) (fun r _ => r = -1) (fun x t => PW dC dI (va_A [(h0, .inr (8, .ref tp :: .int 0 :: .ref sp :: .int 0 :: .int 0 :: .int 0 :: .ref rd :: .int (-1) :: .int (-1) :: tl))] sz) ([]) ([]) t) (va_A [(h0, .inr (8, .ref tp :: .int 0 :: .ref sp :: .int 0 :: .int 0 :: .int 0 :: .ref rd :: .int (-1) :: .int (-1) :: tl))] sz)) 0 0 (va_A [(h0, .inr (8, .ref tp :: .int 0 :: .ref sp :: .int 0 :: .int 0 :: .int 0 :: .ref rd :: .int (-1) :: .int (-1) :: tl))] sz) := by
  refine mbody (y := yX10_judge) (av := [.ref h0]) (b := cX10_judge) (n := 1) (ret := (some .int)) (Qc := fun A => (va_Qi (S := Unit) (fun r _ => r = -1) (fun x t => PW dC dI A ([]) ([]) t) A)) (by decide) (Nat.le_of_ble_eq_true rfl) ?_
  intro p e s m below meth c ls A H hf hr hin hlk hw hl
  have hl : lv_has ls 1 [(0, .ref h0)] := hl
  refine lv_aload_n hf.1 hf.2.1 dX10_judge_0 rfl (lv_at hl 0 rfl) ?_
  refine lv_iconst (v := 0) hf.1 hf.2.1 dX10_judge_1 (by decide) ?_
  refine mput hf hw iX10 tyX10 tyX10_ok nmX10 0 rfl rfl 4 (by decide) k684 rfl rfl rfl (lt_app (K := [.ref tp, .int 0, .ref sp, .int 0, .int 0, .int 0, .ref rd, .int (-1), .int (-1)]) htl (Nat.le_of_ble_eq_true rfl)) (ws' := [(h0, .inr (8, .ref tp :: .int 0 :: .ref sp :: .int 0 :: .int 0 :: .int 0 :: .ref rd :: .int (-1) :: .int (-1) :: tl))]) rfl dX10_judge_2 (fun H locs hw => ?_)
  refine lv_aload_n hf.1 hf.2.1 dX10_judge_5 rfl (lv_at hl 0 rfl) ?_
  refine lv_iconst (v := 0) hf.1 hf.2.1 dX10_judge_6 (by decide) ?_
  refine mput hf hw iX10 tyX10 tyX10_ok nmX10 0 rfl rfl 7 (by decide) k690 rfl rfl rfl (lt_app (K := [.ref tp, .int 0, .ref sp, .int 0, .int 0, .int 0, .ref rd, .int 0, .int (-1)]) htl (Nat.le_of_ble_eq_true rfl)) (ws' := [(h0, .inr (8, .ref tp :: .int 0 :: .ref sp :: .int 0 :: .int 0 :: .int 0 :: .ref rd :: .int 0 :: .int (-1) :: tl))]) rfl dX10_judge_7 (fun H locs hw => ?_)
  refine lv_aload_n hf.1 hf.2.1 dX10_judge_10 rfl (lv_at hl 0 rfl) ?_
  refine lv_iconst (v := (-1)) hf.1 hf.2.1 dX10_judge_11 (by decide) ?_
  refine mput hf hw iX10 tyX10 tyX10_ok nmX10 0 rfl rfl 8 (by decide) k691 rfl rfl rfl (lt_app (K := [.ref tp, .int 0, .ref sp, .int 0, .int 0, .int 0, .ref rd, .int 0, .int (-1)]) htl (Nat.le_of_ble_eq_true rfl)) (ws' := [(h0, .inr (8, .ref tp :: .int 0 :: .ref sp :: .int 0 :: .int 0 :: .int 0 :: .ref rd :: .int 0 :: .int (-1) :: tl))]) rfl dX10_judge_12 (fun H locs hw => ?_)
  refine lv_aload_n hf.1 hf.2.1 dX10_judge_15 rfl (lv_at hl 0 rfl) ?_
  refine mget hf hw iX10 0 rfl rfl 3 (by decide) k683 rfl dX10_judge_16 ?_
  refine lv_if_ne (tgt := 24) hf.1 hf.2.1 dX10_judge_19 (by decide) (fun c_1 => absurd (by decide) c_1) (fun c_1 => ?_)
  refine lv_iconst (v := (-1)) hf.1 hf.2.1 dX10_judge_22 (by decide) ?_
  exact mret_i (v := (-1)) hf hr hlk hw () rfl [] [] rfl rfl rfl (Nat.le_of_ble_eq_true rfl) (Nat.le_of_ble_eq_true rfl) dX10_judge_23

set_option maxHeartbeats 4000000 in
set_option maxRecDepth 100000 in
theorem b_guard (l : Launch) (dC : Nat → ClassId) (dI : Nat → Nat → Nat) (h0 tp sp rd : Nat) (tl : List Value) (w v : Int32) (sz : Nat) (htl : tl.length = 4) : Met l yX10_guard (wsOf yX10_guard cX10_guard 3 (some .int)) ({ frames := 6, cells := 0, slots := 0, locals := 90 } : Room) (va_Pc [.ref h0, .int w, .int v] (PB dC dI sz [(h0, .inr (8, .ref tp :: .int 0 :: .ref sp :: .int 0 :: .int 0 :: .int 0 :: .ref rd :: .int (-1) :: .int (-1) :: tl))] [])) (va_Qi (S := Unit) (fun r _ => r = -1) (fun x t => PW dC dI (va_A [(h0, .inr (8, .ref tp :: .int 0 :: .ref sp :: .int 0 :: .int 0 :: .int 0 :: .ref rd :: .int (-1) :: .int (-1) :: tl))] sz) ([]) ([]) t) (va_A [(h0, .inr (8, .ref tp :: .int 0 :: .ref sp :: .int 0 :: .int 0 :: .int 0 :: .ref rd :: .int (-1) :: .int (-1) :: tl))] sz)) 0 0 (va_A [(h0, .inr (8, .ref tp :: .int 0 :: .ref sp :: .int 0 :: .int 0 :: .int 0 :: .ref rd :: .int (-1) :: .int (-1) :: tl))] sz) := by
  refine mbody (y := yX10_guard) (av := [.ref h0, .int w, .int v]) (b := cX10_guard) (n := 3) (ret := (some .int)) (Qc := fun A => (va_Qi (S := Unit) (fun r _ => r = -1) (fun x t => PW dC dI A ([]) ([]) t) A)) (by decide) (Nat.le_of_ble_eq_true rfl) ?_
  intro p e s m below meth c ls A H hf hr hin hlk hw hl
  have hl : lv_has ls 3 [(0, .ref h0), (1, .int w), (2, .int v)] := hl
  refine lv_aload_n hf.1 hf.2.1 dX10_guard_0 rfl (lv_at hl 0 rfl) ?_
  refine mget hf hw iX10 0 rfl rfl 4 (by decide) k684 rfl dX10_guard_1 ?_
  refine lv_if_eq (tgt := 22) hf.1 hf.2.1 dX10_guard_4 (by decide) (fun c_1 => ?_) (fun c_1 => absurd (by decide) c_1)
  refine lv_iconst (v := (-1)) hf.1 hf.2.1 dX10_guard_22 (by decide) ?_
  exact mret_i (v := (-1)) hf hr hlk hw () rfl [] [] rfl rfl rfl (Nat.le_of_ble_eq_true rfl) (Nat.le_of_ble_eq_true rfl) dX10_guard_23

set_option maxHeartbeats 4000000 in
set_option maxRecDepth 100000 in
theorem b_part (l : Launch) (dC : Nat → ClassId) (dI : Nat → Nat → Nat) (h0 tp sp rd : Nat) (tl : List Value) (w v : Int32) (sz : Nat) (htl : tl.length = 4) : Met l yX10_part (wsOf yX10_part cX10_part 3 (some .int)) ({ frames := 10, cells := 0, slots := 0, locals := 150 } : Room) (va_Pc [.ref h0, .int w, .int v] (PB dC dI sz [(h0, .inr (8, .ref tp :: .int 0 :: .ref sp :: .int 0 :: .int 0 :: .int 0 :: .ref rd :: .int (-1) :: .int (-1) :: tl))] [])) (va_Qi (S := Unit) (fun r _ => r = -1) (fun x t => PW dC dI (va_A [(h0, .inr (8, .ref tp :: .int 0 :: .ref sp :: .int 0 :: .int 0 :: .int 0 :: .ref rd :: .int (-1) :: .int (-1) :: tl))] sz) ([]) ([]) t) (va_A [(h0, .inr (8, .ref tp :: .int 0 :: .ref sp :: .int 0 :: .int 0 :: .int 0 :: .ref rd :: .int (-1) :: .int (-1) :: tl))] sz)) 0 0 (va_A [(h0, .inr (8, .ref tp :: .int 0 :: .ref sp :: .int 0 :: .int 0 :: .int 0 :: .ref rd :: .int (-1) :: .int (-1) :: tl))] sz) := by
  refine mbody (y := yX10_part) (av := [.ref h0, .int w, .int v]) (b := cX10_part) (n := 3) (ret := (some .int)) (Qc := fun A => (va_Qi (S := Unit) (fun r _ => r = -1) (fun x t => PW dC dI A ([]) ([]) t) A)) (by decide) (Nat.le_of_ble_eq_true rfl) ?_
  intro p e s m below meth c ls A H hf hr hin hlk hw hl
  have hl : lv_has ls 3 [(0, .ref h0), (1, .int w), (2, .int v)] := hl
  refine lv_aload_n hf.1 hf.2.1 dX10_part_0 rfl (lv_at hl 0 rfl) ?_
  refine lv_iload_n hf.1 hf.2.1 dX10_part_1 rfl (lv_at hl 1 rfl) ?_
  refine mV_i (As := [.int w]) (rest := []) (wr := []) (tr := []) hf hw (b_isPart l dC dI h0 tp sp rd tl w H.size htl) ka_X10_isPart kv_X10_isPart 0 rfl rfl k988 [0] [] [] [] rfl rfl rfl rfl rfl (by decide) rfl rfl rfl hl.1 rfl rfl ⟨Nat.le_of_ble_eq_true rfl, Nat.le_of_ble_eq_true rfl⟩ (Nat.le_of_ble_eq_true rfl) (ce := 0) (sl := 0) rfl rfl ⟨Nat.le_of_ble_eq_true rfl, Nat.le_of_ble_eq_true rfl⟩ dX10_part_2 (fun r_1 u_2 hu_2 H locs hw => ?_)
  have hw : Wd dC dI A [] [] s H locs := hw
  obtain rfl := hu_2
  refine lv_if_ne (tgt := 10) hf.1 hf.2.1 dX10_part_5 (by decide) (fun c_3 => absurd (by decide) c_3) (fun c_3 => ?_)
  refine lv_iconst (v := (-1)) hf.1 hf.2.1 dX10_part_8 (by decide) ?_
  exact mret_i (v := (-1)) hf hr hlk hw () rfl [] [] rfl rfl rfl (Nat.le_of_ble_eq_true rfl) (Nat.le_of_ble_eq_true rfl) dX10_part_9

set_option maxHeartbeats 4000000 in
set_option maxRecDepth 100000 in
theorem b_run (l : Launch) (dC : Nat → ClassId) (dI : Nat → Nat → Nat) (h0 tp sp rd : Nat) (tl : List Value) (w : Int32) (sz : Nat) (htl : tl.length = 4) : Met l yX10_run (wsOf yX10_run cX10_run 2 (some .int)) ({ frames := 6, cells := 0, slots := 0, locals := 90 } : Room) (va_Pc [.ref h0, .int w] (PB dC dI sz [(h0, .inr (8, .ref tp :: .int 0 :: .ref sp :: .int 0 :: .int 0 :: .int 0 :: .ref rd :: .int (-1) :: .int (-1) :: tl))] [])) (va_Qi (S := Unit) (fun r _ => r = -1) (fun x t => PW dC dI (va_A [(h0, .inr (8, .ref tp :: .int 0 :: .ref sp :: .int 0 :: .int 0 :: .int 0 :: .ref rd :: .int (-1) :: .int (-1) :: tl))] sz) ([]) ([]) t) (va_A [(h0, .inr (8, .ref tp :: .int 0 :: .ref sp :: .int 0 :: .int 0 :: .int 0 :: .ref rd :: .int (-1) :: .int (-1) :: tl))] sz)) 0 0 (va_A [(h0, .inr (8, .ref tp :: .int 0 :: .ref sp :: .int 0 :: .int 0 :: .int 0 :: .ref rd :: .int (-1) :: .int (-1) :: tl))] sz) := by
  refine mbody (y := yX10_run) (av := [.ref h0, .int w]) (b := cX10_run) (n := 2) (ret := (some .int)) (Qc := fun A => (va_Qi (S := Unit) (fun r _ => r = -1) (fun x t => PW dC dI A ([]) ([]) t) A)) (by decide) (Nat.le_of_ble_eq_true rfl) ?_
  intro p e s m below meth c ls A H hf hr hin hlk hw hl
  have hl : lv_has ls 2 [(0, .ref h0), (1, .int w)] := hl
  refine lv_aload_n hf.1 hf.2.1 dX10_run_0 rfl (lv_at hl 0 rfl) ?_
  refine mget hf hw iX10 0 rfl rfl 4 (by decide) k684 rfl dX10_run_1 ?_
  refine lv_if_eq (tgt := 14) hf.1 hf.2.1 dX10_run_4 (by decide) (fun c_1 => ?_) (fun c_1 => absurd (by decide) c_1)
  refine lv_iconst (v := (-1)) hf.1 hf.2.1 dX10_run_14 (by decide) ?_
  exact mret_i (v := (-1)) hf hr hlk hw () rfl [] [] rfl rfl rfl (Nat.le_of_ble_eq_true rfl) (Nat.le_of_ble_eq_true rfl) dX10_run_15

set_option maxHeartbeats 4000000 in
set_option maxRecDepth 100000 in
theorem b_runUntold (l : Launch) (dC : Nat → ClassId) (dI : Nat → Nat → Nat) (h0 tp sp rd : Nat) (tl : List Value) (w : Int32) (sz : Nat) (htl : tl.length = 4) : Met l yX10_runUntold (wsOf yX10_runUntold cX10_runUntold 2 (some .int)) ({ frames := 6, cells := 0, slots := 0, locals := 90 } : Room) (va_Pc [.ref h0, .int w] (PB dC dI sz [(h0, .inr (8, .ref tp :: .int 0 :: .ref sp :: .int 0 :: .int 0 :: .int 0 :: .ref rd :: .int (-1) :: .int (-1) :: tl))] [])) (va_Qi (S := Unit) (fun r _ => r = -1) (fun x t => PW dC dI (va_A [(h0, .inr (8, .ref tp :: .int 0 :: .ref sp :: .int 0 :: .int 0 :: .int 0 :: .ref rd :: .int (-1) :: .int (-1) :: tl))] sz) ([]) ([]) t) (va_A [(h0, .inr (8, .ref tp :: .int 0 :: .ref sp :: .int 0 :: .int 0 :: .int 0 :: .ref rd :: .int (-1) :: .int (-1) :: tl))] sz)) 0 0 (va_A [(h0, .inr (8, .ref tp :: .int 0 :: .ref sp :: .int 0 :: .int 0 :: .int 0 :: .ref rd :: .int (-1) :: .int (-1) :: tl))] sz) := by
  refine mbody (y := yX10_runUntold) (av := [.ref h0, .int w]) (b := cX10_runUntold) (n := 2) (ret := (some .int)) (Qc := fun A => (va_Qi (S := Unit) (fun r _ => r = -1) (fun x t => PW dC dI A ([]) ([]) t) A)) (by decide) (Nat.le_of_ble_eq_true rfl) ?_
  intro p e s m below meth c ls A H hf hr hin hlk hw hl
  have hl : lv_has ls 2 [(0, .ref h0), (1, .int w)] := hl
  refine lv_aload_n hf.1 hf.2.1 dX10_runUntold_0 rfl (lv_at hl 0 rfl) ?_
  refine mget hf hw iX10 0 rfl rfl 3 (by decide) k683 rfl dX10_runUntold_1 ?_
  refine lv_if_eq (tgt := 14) hf.1 hf.2.1 dX10_runUntold_4 (by decide) (fun c_1 => ?_) (fun c_1 => absurd (by decide) c_1)
  refine lv_iconst (v := (-1)) hf.1 hf.2.1 dX10_runUntold_14 (by decide) ?_
  exact mret_i (v := (-1)) hf hr hlk hw () rfl [] [] rfl rfl rfl (Nat.le_of_ble_eq_true rfl) (Nat.le_of_ble_eq_true rfl) dX10_runUntold_15

set_option maxHeartbeats 4000000 in
set_option maxRecDepth 100000 in
theorem b_told (l : Launch) (dC : Nat → ClassId) (dI : Nat → Nat → Nat) (h0 tp sp rd : Nat) (tl : List Value) (w : Int32) (sz : Nat) (htl : tl.length = 4) : Met l yX10_told (wsOf yX10_told cX10_told 2 (some .int)) ({ frames := 6, cells := 0, slots := 0, locals := 90 } : Room) (va_Pc [.ref h0, .int w] (PB dC dI sz [(h0, .inr (8, .ref tp :: .int 0 :: .ref sp :: .int 0 :: .int 0 :: .int 0 :: .ref rd :: .int (-1) :: .int (-1) :: tl))] [])) (va_Qi (S := Unit) (fun r _ => r = -1) (fun x t => PW dC dI (va_A [(h0, .inr (8, .ref tp :: .int 0 :: .ref sp :: .int 0 :: .int 0 :: .int 0 :: .ref rd :: .int (-1) :: .int (-1) :: tl))] sz) ([]) ([]) t) (va_A [(h0, .inr (8, .ref tp :: .int 0 :: .ref sp :: .int 0 :: .int 0 :: .int 0 :: .ref rd :: .int (-1) :: .int (-1) :: tl))] sz)) 0 0 (va_A [(h0, .inr (8, .ref tp :: .int 0 :: .ref sp :: .int 0 :: .int 0 :: .int 0 :: .ref rd :: .int (-1) :: .int (-1) :: tl))] sz) := by
  refine mbody (y := yX10_told) (av := [.ref h0, .int w]) (b := cX10_told) (n := 2) (ret := (some .int)) (Qc := fun A => (va_Qi (S := Unit) (fun r _ => r = -1) (fun x t => PW dC dI A ([]) ([]) t) A)) (by decide) (Nat.le_of_ble_eq_true rfl) ?_
  intro p e s m below meth c ls A H hf hr hin hlk hw hl
  have hl : lv_has ls 2 [(0, .ref h0), (1, .int w)] := hl
  refine lv_aload_n hf.1 hf.2.1 dX10_told_0 rfl (lv_at hl 0 rfl) ?_
  refine mget hf hw iX10 0 rfl rfl 5 (by decide) k685 rfl dX10_told_1 ?_
  refine lv_if_eq (tgt := 18) hf.1 hf.2.1 dX10_told_4 (by decide) (fun c_1 => ?_) (fun c_1 => absurd (by decide) c_1)
  refine lv_iconst (v := (-1)) hf.1 hf.2.1 dX10_told_18 (by decide) ?_
  exact mret_i (v := (-1)) hf hr hlk hw () rfl [] [] rfl rfl rfl (Nat.le_of_ble_eq_true rfl) (Nat.le_of_ble_eq_true rfl) dX10_told_19

set_option maxHeartbeats 4000000 in
set_option maxRecDepth 100000 in
theorem b_out (l : Launch) (dC : Nat → ClassId) (dI : Nat → Nat → Nat) (h0 tp sp rd : Nat) (tl : List Value) (w : Int32) (sz : Nat) (htl : tl.length = 4) : Met l yX10_out (wsOf yX10_out cX10_out 2 (some .int)) ({ frames := 6, cells := 0, slots := 0, locals := 90 } : Room) (va_Pc [.ref h0, .int w] (PB dC dI sz [(h0, .inr (8, .ref tp :: .int 0 :: .ref sp :: .int 0 :: .int 0 :: .int 0 :: .ref rd :: .int (-1) :: .int (-1) :: tl))] [])) (va_Qi (S := Unit) (fun r _ => r = 0) (fun x t => PW dC dI (va_A [(h0, .inr (8, .ref tp :: .int 0 :: .ref sp :: .int 0 :: .int 0 :: .int 0 :: .ref rd :: .int (-1) :: .int (-1) :: tl))] sz) ([]) ([]) t) (va_A [(h0, .inr (8, .ref tp :: .int 0 :: .ref sp :: .int 0 :: .int 0 :: .int 0 :: .ref rd :: .int (-1) :: .int (-1) :: tl))] sz)) 0 0 (va_A [(h0, .inr (8, .ref tp :: .int 0 :: .ref sp :: .int 0 :: .int 0 :: .int 0 :: .ref rd :: .int (-1) :: .int (-1) :: tl))] sz) := by
  refine mbody (y := yX10_out) (av := [.ref h0, .int w]) (b := cX10_out) (n := 2) (ret := (some .int)) (Qc := fun A => (va_Qi (S := Unit) (fun r _ => r = 0) (fun x t => PW dC dI A ([]) ([]) t) A)) (by decide) (Nat.le_of_ble_eq_true rfl) ?_
  intro p e s m below meth c ls A H hf hr hin hlk hw hl
  have hl : lv_has ls 2 [(0, .ref h0), (1, .int w)] := hl
  refine lv_aload_n hf.1 hf.2.1 dX10_out_0 rfl (lv_at hl 0 rfl) ?_
  refine mget hf hw iX10 0 rfl rfl 5 (by decide) k685 rfl dX10_out_1 ?_
  refine lv_if_eq (tgt := 22) hf.1 hf.2.1 dX10_out_4 (by decide) (fun c_1 => ?_) (fun c_1 => absurd (by decide) c_1)
  refine lv_iconst (v := 0) hf.1 hf.2.1 dX10_out_22 (by decide) ?_
  exact mret_i (v := 0) hf hr hlk hw () rfl [] [] rfl rfl rfl (Nat.le_of_ble_eq_true rfl) (Nat.le_of_ble_eq_true rfl) dX10_out_23

set_option maxHeartbeats 4000000 in
set_option maxRecDepth 100000 in
theorem b_asked (l : Launch) (dC : Nat → ClassId) (dI : Nat → Nat → Nat) (h0 tp sp rd : Nat) (tl : List Value) (w v : Int32) (sz : Nat) (htl : tl.length = 4) : Met l yX10_asked (wsOf yX10_asked cX10_asked 3 (some .int)) ({ frames := 6, cells := 0, slots := 0, locals := 90 } : Room) (va_Pc [.ref h0, .int w, .int v] (PB dC dI sz [(h0, .inr (8, .ref tp :: .int 0 :: .ref sp :: .int 0 :: .int 0 :: .int 0 :: .ref rd :: .int (-1) :: .int (-1) :: tl))] [])) (va_Qi (S := Unit) (fun r _ => r = -1) (fun x t => PW dC dI (va_A [(h0, .inr (8, .ref tp :: .int 0 :: .ref sp :: .int 0 :: .int 0 :: .int 0 :: .ref rd :: .int (-1) :: .int (-1) :: tl))] sz) ([]) ([]) t) (va_A [(h0, .inr (8, .ref tp :: .int 0 :: .ref sp :: .int 0 :: .int 0 :: .int 0 :: .ref rd :: .int (-1) :: .int (-1) :: tl))] sz)) 0 0 (va_A [(h0, .inr (8, .ref tp :: .int 0 :: .ref sp :: .int 0 :: .int 0 :: .int 0 :: .ref rd :: .int (-1) :: .int (-1) :: tl))] sz) := by
  refine mbody (y := yX10_asked) (av := [.ref h0, .int w, .int v]) (b := cX10_asked) (n := 3) (ret := (some .int)) (Qc := fun A => (va_Qi (S := Unit) (fun r _ => r = -1) (fun x t => PW dC dI A ([]) ([]) t) A)) (by decide) (Nat.le_of_ble_eq_true rfl) ?_
  intro p e s m below meth c ls A H hf hr hin hlk hw hl
  have hl : lv_has ls 3 [(0, .ref h0), (1, .int w), (2, .int v)] := hl
  refine lv_aload_n hf.1 hf.2.1 dX10_asked_0 rfl (lv_at hl 0 rfl) ?_
  refine mget hf hw iX10 0 rfl rfl 5 (by decide) k685 rfl dX10_asked_1 ?_
  refine lv_if_eq (tgt := 23) hf.1 hf.2.1 dX10_asked_4 (by decide) (fun c_1 => ?_) (fun c_1 => absurd (by decide) c_1)
  refine lv_iconst (v := (-1)) hf.1 hf.2.1 dX10_asked_23 (by decide) ?_
  exact mret_i (v := (-1)) hf hr hlk hw () rfl [] [] rfl rfl rfl (Nat.le_of_ble_eq_true rfl) (Nat.le_of_ble_eq_true rfl) dX10_asked_24

set_option maxHeartbeats 4000000 in
set_option maxRecDepth 100000 in
theorem b_end (l : Launch) (dC : Nat → ClassId) (dI : Nat → Nat → Nat) (h0 tp sp rd : Nat) (tl : List Value) (w : Int32) (sz : Nat) (htl : tl.length = 4) : Met l yX10_end (wsOf yX10_end cX10_end 2 (some .int)) ({ frames := 6, cells := 0, slots := 0, locals := 90 } : Room) (va_Pc [.ref h0, .int w] (PB dC dI sz [(h0, .inr (8, .ref tp :: .int 0 :: .ref sp :: .int 0 :: .int 0 :: .int 0 :: .ref rd :: .int (-1) :: .int (-1) :: tl))] [])) (va_Qi (S := Unit) (fun r _ => r = endV w) (fun x t => PW dC dI (va_A [(h0, .inr (8, .ref tp :: .int 0 :: .ref sp :: .int 0 :: .int 0 :: .int 0 :: .ref rd :: .int (-1) :: .int (-1) :: tl))] sz) ([]) ([]) t) (va_A [(h0, .inr (8, .ref tp :: .int 0 :: .ref sp :: .int 0 :: .int 0 :: .int 0 :: .ref rd :: .int (-1) :: .int (-1) :: tl))] sz)) 0 0 (va_A [(h0, .inr (8, .ref tp :: .int 0 :: .ref sp :: .int 0 :: .int 0 :: .int 0 :: .ref rd :: .int (-1) :: .int (-1) :: tl))] sz) := by
  refine mbody (y := yX10_end) (av := [.ref h0, .int w]) (b := cX10_end) (n := 2) (ret := (some .int)) (Qc := fun A => (va_Qi (S := Unit) (fun r _ => r = endV w) (fun x t => PW dC dI A ([]) ([]) t) A)) (by decide) (Nat.le_of_ble_eq_true rfl) ?_
  intro p e s m below meth c ls A H hf hr hin hlk hw hl
  have hl : lv_has ls 2 [(0, .ref h0), (1, .int w)] := hl
  refine lv_iload_n hf.1 hf.2.1 dX10_end_0 rfl (lv_at hl 1 rfl) ?_
  refine lv_if_lt (tgt := 12) hf.1 hf.2.1 dX10_end_1 (by decide) (fun c_1 => ?_) (fun c_1 => ?_)
  · refine lv_iconst (v := (-1)) hf.1 hf.2.1 dX10_end_12 (by decide) ?_
    exact mret_i (v := (-1)) hf hr hlk hw () (endV_neg c_1) [] [] rfl rfl rfl (Nat.le_of_ble_eq_true rfl) (Nat.le_of_ble_eq_true rfl) dX10_end_13
  · refine lv_iload_n hf.1 hf.2.1 dX10_end_4 rfl (lv_at hl 1 rfl) ?_
    refine lv_aload_n hf.1 hf.2.1 dX10_end_5 rfl (lv_at hl 0 rfl) ?_
    refine mget hf hw iX10 0 rfl rfl 1 (by decide) k680 rfl dX10_end_6 ?_
    refine lv_icmp_le (tgt := 14) hf.1 hf.2.1 dX10_end_9 (by decide) (fun c_2 => ?_) (fun c_2 => ?_)
    · refine lv_aload_n hf.1 hf.2.1 dX10_end_14 rfl (lv_at hl 0 rfl) ?_
      refine lv_iload_n hf.1 hf.2.1 dX10_end_15 rfl (lv_at hl 1 rfl) ?_
      refine mput hf hw iX10 tyX10 tyX10_ok nmX10 0 rfl rfl 1 (by decide) k680 rfl rfl rfl (lt_app (K := [.ref tp, .int w, .ref sp, .int 0, .int 0, .int 0, .ref rd, .int (-1), .int (-1)]) htl (Nat.le_of_ble_eq_true rfl)) (ws' := [(h0, .inr (8, .ref tp :: .int w :: .ref sp :: .int 0 :: .int 0 :: .int 0 :: .ref rd :: .int (-1) :: .int (-1) :: tl))]) rfl dX10_end_16 (fun H locs hw => ?_)
      refine lv_iload_n hf.1 hf.2.1 dX10_end_19 rfl (lv_at hl 1 rfl) ?_
      exact mret_i (v := w) hf hr hlk hw () (endV_zero c_1 c_2) [] [] rfl rfl rfl (Nat.le_of_ble_eq_true rfl) (Nat.le_of_ble_eq_true rfl) dX10_end_20
    · refine lv_iconst (v := (-1)) hf.1 hf.2.1 dX10_end_12 (by decide) ?_
      exact mret_i (v := (-1)) hf hr hlk hw () (endV_pos c_2) [] [] rfl rfl rfl (Nat.le_of_ble_eq_true rfl) (Nat.le_of_ble_eq_true rfl) dX10_end_13

set_option maxHeartbeats 4000000 in
set_option maxRecDepth 100000 in
theorem b_about (l : Launch) (dC : Nat → ClassId) (dI : Nat → Nat → Nat) (h0 tp sp rd : Nat) (tl : List Value) (w : Int32) (sz : Nat) (htl : tl.length = 4) : Met l yX10_about (wsOf yX10_about cX10_about 2 (some .int)) ({ frames := 6, cells := 0, slots := 0, locals := 90 } : Room) (va_Pc [.ref h0, .int w] (PB dC dI sz [(h0, .inr (8, .ref tp :: .int 0 :: .ref sp :: .int 0 :: .int 0 :: .int 0 :: .ref rd :: .int (-1) :: .int (-1) :: tl))] [])) (va_Qi (S := Unit) (fun r _ => r = aboutV w) (fun x t => PW dC dI (va_A [(h0, .inr (8, .ref tp :: .int 0 :: .ref sp :: .int 0 :: .int 0 :: .int 0 :: .ref rd :: .int (-1) :: .int (-1) :: tl))] sz) ([]) ([]) t) (va_A [(h0, .inr (8, .ref tp :: .int 0 :: .ref sp :: .int 0 :: .int 0 :: .int 0 :: .ref rd :: .int (-1) :: .int (-1) :: tl))] sz)) 0 0 (va_A [(h0, .inr (8, .ref tp :: .int 0 :: .ref sp :: .int 0 :: .int 0 :: .int 0 :: .ref rd :: .int (-1) :: .int (-1) :: tl))] sz) := by
  refine mbody (y := yX10_about) (av := [.ref h0, .int w]) (b := cX10_about) (n := 2) (ret := (some .int)) (Qc := fun A => (va_Qi (S := Unit) (fun r _ => r = aboutV w) (fun x t => PW dC dI A ([]) ([]) t) A)) (by decide) (Nat.le_of_ble_eq_true rfl) ?_
  intro p e s m below meth c ls A H hf hr hin hlk hw hl
  have hl : lv_has ls 2 [(0, .ref h0), (1, .int w)] := hl
  refine lv_iload_n hf.1 hf.2.1 dX10_about_0 rfl (lv_at hl 1 rfl) ?_
  rcases swc 4 (by decide) w with ⟨ks, hks, eks⟩ | hsw
  · have hcs : ks = 0 ∨ ks = 1 ∨ ks = 2 ∨ ks = 3 := by omega
    rcases hcs with rfl | rfl | rfl | rfl
    · subst eks
      refine lv_tableIn (tgt := 32) hf.1 hf.2.1 dX10_about_1 (by decide) (by decide) rfl (by decide) ?_
      refine lv_aload_n hf.1 hf.2.1 dX10_about_32 rfl (lv_at hl 0 rfl) ?_
      refine mget hf hw iX10 0 rfl rfl 1 (by decide) k680 rfl dX10_about_33 ?_
      exact mret_i (v := 0) hf hr hlk hw () (by decide) [] [] rfl rfl rfl (Nat.le_of_ble_eq_true rfl) (Nat.le_of_ble_eq_true rfl) dX10_about_36
    · subst eks
      refine lv_tableIn (tgt := 37) hf.1 hf.2.1 dX10_about_1 (by decide) (by decide) rfl (by decide) ?_
      refine lv_aload_n hf.1 hf.2.1 dX10_about_37 rfl (lv_at hl 0 rfl) ?_
      refine mget hf hw iX10 0 rfl rfl 3 (by decide) k683 rfl dX10_about_38 ?_
      refine lv_if_eq (tgt := 54) hf.1 hf.2.1 dX10_about_41 (by decide) (fun c_1 => ?_) (fun c_1 => absurd (by decide) c_1)
      refine lv_iconst (v := 0) hf.1 hf.2.1 dX10_about_54 (by decide) ?_
      exact mret_i (v := 0) hf hr hlk hw () (by decide) [] [] rfl rfl rfl (Nat.le_of_ble_eq_true rfl) (Nat.le_of_ble_eq_true rfl) dX10_about_55
    · subst eks
      refine lv_tableIn (tgt := 56) hf.1 hf.2.1 dX10_about_1 (by decide) (by decide) rfl (by decide) ?_
      refine lv_aload_n hf.1 hf.2.1 dX10_about_56 rfl (lv_at hl 0 rfl) ?_
      refine mget hf hw iX10 0 rfl rfl 4 (by decide) k684 rfl dX10_about_57 ?_
      refine lv_if_eq (tgt := 67) hf.1 hf.2.1 dX10_about_60 (by decide) (fun c_2 => ?_) (fun c_2 => absurd (by decide) c_2)
      refine lv_iconst (v := 0) hf.1 hf.2.1 dX10_about_67 (by decide) ?_
      exact mret_i (v := 0) hf hr hlk hw () (by decide) [] [] rfl rfl rfl (Nat.le_of_ble_eq_true rfl) (Nat.le_of_ble_eq_true rfl) dX10_about_68
    · subst eks
      refine lv_tableIn (tgt := 69) hf.1 hf.2.1 dX10_about_1 (by decide) (by decide) rfl (by decide) ?_
      refine lv_aload_n hf.1 hf.2.1 dX10_about_69 rfl (lv_at hl 0 rfl) ?_
      refine mget hf hw iX10 0 rfl rfl 4 (by decide) k684 rfl dX10_about_70 ?_
      refine lv_if_eq (tgt := 86) hf.1 hf.2.1 dX10_about_73 (by decide) (fun c_3 => ?_) (fun c_3 => absurd (by decide) c_3)
      refine lv_iconst (v := (-1)) hf.1 hf.2.1 dX10_about_86 (by decide) ?_
      exact mret_i (v := (-1)) hf hr hlk hw () (by decide) [] [] rfl rfl rfl (Nat.le_of_ble_eq_true rfl) (Nat.le_of_ble_eq_true rfl) dX10_about_87
  · refine lv_tableOut (tgt := 88) hf.1 hf.2.1 dX10_about_1 hsw (by decide) ?_
    refine lv_iconst (v := (-1)) hf.1 hf.2.1 dX10_about_88 (by decide) ?_
    exact mret_i (v := (-1)) hf hr hlk hw () (aboutV_out hsw) [] [] rfl rfl rfl (Nat.le_of_ble_eq_true rfl) (Nat.le_of_ble_eq_true rfl) dX10_about_89

set_option maxHeartbeats 4000000 in
set_option maxRecDepth 100000 in
theorem b_putFour (l : Launch) (dC : Nat → ClassId) (dI : Nat → Nat → Nat) (h0 tp sp rd : Nat) (tl : List Value) (ct : ClassId) (tt : Nat) (f : Nat → Int32) (v : Int32) (sz : Nat) (htl : tl.length = 4) (ht : tt + 4 ≤ 3000) : Met l yX10_putFour (wsOf yX10_putFour cX10_putFour 3 none) ({ frames := 6, cells := 0, slots := 0, locals := 90 } : Room) (va_Pc [.ref h0, .int v] (PB dC dI sz [(h0, .inr (8, .ref tp :: .int (nI tt) :: .ref sp :: .int 0 :: .int 0 :: .int 0 :: .ref rd :: .int (-1) :: .int (-1) :: tl)), (tp, .inl (ct, 3000, .inl f))] [(ct, .byte)])) (va_Qv (S := (Nat → Int32)) (fun _ => True) (fun x t => PW dC dI (va_A [(h0, .inr (8, .ref tp :: .int (nI tt) :: .ref sp :: .int 0 :: .int 0 :: .int 0 :: .ref rd :: .int (-1) :: .int (-1) :: tl)), (tp, .inl (ct, 3000, .inl f))] sz) ([(h0, .inr (8, .ref tp :: .int (nI (tt + 4)) :: .ref sp :: .int 0 :: .int 0 :: .int 0 :: .ref rd :: .int (-1) :: .int (-1) :: tl)), (tp, .inl (ct, 3000, .inl x))]) ([(ct, .byte)]) t) (va_A [(h0, .inr (8, .ref tp :: .int (nI tt) :: .ref sp :: .int 0 :: .int 0 :: .int 0 :: .ref rd :: .int (-1) :: .int (-1) :: tl)), (tp, .inl (ct, 3000, .inl f))] sz)) 0 0 (va_A [(h0, .inr (8, .ref tp :: .int (nI tt) :: .ref sp :: .int 0 :: .int 0 :: .int 0 :: .ref rd :: .int (-1) :: .int (-1) :: tl)), (tp, .inl (ct, 3000, .inl f))] sz) := by
  refine mbody (y := yX10_putFour) (av := [.ref h0, .int v]) (b := cX10_putFour) (n := 3) (ret := none) (Qc := fun A => (va_Qv (S := (Nat → Int32)) (fun _ => True) (fun x t => PW dC dI A ([(h0, .inr (8, .ref tp :: .int (nI (tt + 4)) :: .ref sp :: .int 0 :: .int 0 :: .int 0 :: .ref rd :: .int (-1) :: .int (-1) :: tl)), (tp, .inl (ct, 3000, .inl x))]) ([(ct, .byte)]) t) A)) (by decide) (Nat.le_of_ble_eq_true rfl) ?_
  intro p e s m below meth c ls A H hf hr hin hlk hw hl
  have hl : lv_has ls 3 [(0, .ref h0), (1, .int v)] := hl
  refine lv_bipush (v := 24) hf.1 hf.2.1 dX10_putFour_0 (by decide) ?_
  refine lv_istore_n (lv' := [(2, .int 24), (0, .ref h0), (1, .int v)]) hf.1 hf.2.1 dX10_putFour_2 rfl hl (by decide) rfl (fun ls hl => ?_)
  refine lv_iload_n hf.1 hf.2.1 dX10_putFour_3 rfl (lv_at hl 0 rfl) ?_
  refine lv_if_lt (tgt := 46) hf.1 hf.2.1 dX10_putFour_4 (by decide) (fun c_1 => absurd c_1 (by decide)) (fun c_1 => ?_)
  refine lv_aload_n hf.1 hf.2.1 dX10_putFour_7 rfl (lv_at hl 1 rfl) ?_
  refine mget hf hw iX10 0 rfl rfl 1 (by decide) k680 rfl dX10_putFour_8 ?_
  refine lv_sipush (v := 3000) hf.1 hf.2.1 dX10_putFour_11 (by decide) ?_
  refine lv_icmp_ge (tgt := 40) hf.1 hf.2.1 dX10_putFour_14 (by decide) (fun c_2 => absurd c_2 (nI_ge (b := 3000) (by omega) (by decide))) (fun c_2 => ?_)
  refine lv_aload_n hf.1 hf.2.1 dX10_putFour_17 rfl (lv_at hl 1 rfl) ?_
  refine mget hf hw iX10 0 rfl rfl 0 (by decide) k679 rfl dX10_putFour_18 ?_
  refine lv_aload_n hf.1 hf.2.1 dX10_putFour_21 rfl (lv_at hl 1 rfl) ?_
  refine mget hf hw iX10 0 rfl rfl 1 (by decide) k680 rfl dX10_putFour_22 ?_
  refine lv_iload_n hf.1 hf.2.1 dX10_putFour_25 rfl (lv_at hl 2 rfl) ?_
  refine lv_iload_n hf.1 hf.2.1 dX10_putFour_26 rfl (lv_at hl 0 rfl) ?_
  refine lv_ishr hf.1 hf.2.1 dX10_putFour_27 ?_
  refine lv_topi (fun x_3 ex_3 => ?_)
  refine lv_i2b hf.1 hf.2.1 dX10_putFour_28 rfl ?_
  refine lv_topi (fun x_4 ex_4 => ?_)
  refine mbast hf hw 1 0 rfl rfl (vp_in_nI (by omega) (by decide)) dX10_putFour_29 (fun f_5 ef_5 H locs hw => ?_)
  have hw : Wd dC dI A [(h0, .inr (8, .ref tp :: .int (nI tt) :: .ref sp :: .int 0 :: .int 0 :: .int 0 :: .ref rd :: .int (-1) :: .int (-1) :: tl)), (tp, .inl (ct, 3000, .inl f_5))] [(ct, .byte)] s H locs := hw
  refine lv_aload_n hf.1 hf.2.1 dX10_putFour_30 rfl (lv_at hl 1 rfl) ?_
  refine lv_dup hf.1 hf.2.1 dX10_putFour_31 rfl ?_
  refine mget hf hw iX10 0 rfl rfl 1 (by decide) k680 rfl dX10_putFour_32 ?_
  refine lv_iconst (v := 1) hf.1 hf.2.1 dX10_putFour_35 (by decide) ?_
  refine lv_iadd hf.1 hf.2.1 dX10_putFour_36 ?_
  refine lv_topi (fun x_6 ex_6 => ?_)
  obtain rfl : x_6 = nI (tt + 1) := by rw [ex_6]; exact nI_add (tt) 1
  refine mput hf hw iX10 tyX10 tyX10_ok nmX10 0 rfl rfl 1 (by decide) k680 rfl rfl rfl (lt_app (K := [.ref tp, .int (nI (tt + 1)), .ref sp, .int 0, .int 0, .int 0, .ref rd, .int (-1), .int (-1)]) htl (Nat.le_of_ble_eq_true rfl)) (ws' := [(h0, .inr (8, .ref tp :: .int (nI (tt + 1)) :: .ref sp :: .int 0 :: .int 0 :: .int 0 :: .ref rd :: .int (-1) :: .int (-1) :: tl)), (tp, .inl (ct, 3000, .inl f_5))]) rfl dX10_putFour_37 (fun H locs hw => ?_)
  obtain ⟨x_7, ex_7⟩ : ∃ y : Int32, y = 24 + (-8) := ⟨_, rfl⟩
  refine lv_iinc (v := x_7) (lv' := [(2, .int x_7), (0, .ref h0), (1, .int v)]) hf.1 hf.2.1 dX10_putFour_40 hl (k := 0) rfl (by rw [ex_7]; rfl) (by decide) rfl (fun ls hl => ?_)
  obtain rfl : x_7 = 16 := by rw [ex_7]; decide
  refine lv_goto (tgt := 3) hf.1 hf.2.1 dX10_putFour_43 (by decide) ?_
  refine lv_iload_n hf.1 hf.2.1 dX10_putFour_3 rfl (lv_at hl 0 rfl) ?_
  refine lv_if_lt (tgt := 46) hf.1 hf.2.1 dX10_putFour_4 (by decide) (fun c_8 => absurd c_8 (by decide)) (fun c_8 => ?_)
  refine lv_aload_n hf.1 hf.2.1 dX10_putFour_7 rfl (lv_at hl 1 rfl) ?_
  refine mget hf hw iX10 0 rfl rfl 1 (by decide) k680 rfl dX10_putFour_8 ?_
  refine lv_sipush (v := 3000) hf.1 hf.2.1 dX10_putFour_11 (by decide) ?_
  refine lv_icmp_ge (tgt := 40) hf.1 hf.2.1 dX10_putFour_14 (by decide) (fun c_9 => absurd c_9 (nI_ge (b := 3000) (by omega) (by decide))) (fun c_9 => ?_)
  refine lv_aload_n hf.1 hf.2.1 dX10_putFour_17 rfl (lv_at hl 1 rfl) ?_
  refine mget hf hw iX10 0 rfl rfl 0 (by decide) k679 rfl dX10_putFour_18 ?_
  refine lv_aload_n hf.1 hf.2.1 dX10_putFour_21 rfl (lv_at hl 1 rfl) ?_
  refine mget hf hw iX10 0 rfl rfl 1 (by decide) k680 rfl dX10_putFour_22 ?_
  refine lv_iload_n hf.1 hf.2.1 dX10_putFour_25 rfl (lv_at hl 2 rfl) ?_
  refine lv_iload_n hf.1 hf.2.1 dX10_putFour_26 rfl (lv_at hl 0 rfl) ?_
  refine lv_ishr hf.1 hf.2.1 dX10_putFour_27 ?_
  refine lv_topi (fun x_10 ex_10 => ?_)
  refine lv_i2b hf.1 hf.2.1 dX10_putFour_28 rfl ?_
  refine lv_topi (fun x_11 ex_11 => ?_)
  refine mbast hf hw 1 0 rfl rfl (vp_in_nI (by omega) (by decide)) dX10_putFour_29 (fun f_12 ef_12 H locs hw => ?_)
  have hw : Wd dC dI A [(h0, .inr (8, .ref tp :: .int (nI (tt + 1)) :: .ref sp :: .int 0 :: .int 0 :: .int 0 :: .ref rd :: .int (-1) :: .int (-1) :: tl)), (tp, .inl (ct, 3000, .inl f_12))] [(ct, .byte)] s H locs := hw
  refine lv_aload_n hf.1 hf.2.1 dX10_putFour_30 rfl (lv_at hl 1 rfl) ?_
  refine lv_dup hf.1 hf.2.1 dX10_putFour_31 rfl ?_
  refine mget hf hw iX10 0 rfl rfl 1 (by decide) k680 rfl dX10_putFour_32 ?_
  refine lv_iconst (v := 1) hf.1 hf.2.1 dX10_putFour_35 (by decide) ?_
  refine lv_iadd hf.1 hf.2.1 dX10_putFour_36 ?_
  refine lv_topi (fun x_13 ex_13 => ?_)
  obtain rfl : x_13 = nI (tt + 2) := by rw [ex_13]; exact nI_add (tt + 1) 1
  refine mput hf hw iX10 tyX10 tyX10_ok nmX10 0 rfl rfl 1 (by decide) k680 rfl rfl rfl (lt_app (K := [.ref tp, .int (nI (tt + 2)), .ref sp, .int 0, .int 0, .int 0, .ref rd, .int (-1), .int (-1)]) htl (Nat.le_of_ble_eq_true rfl)) (ws' := [(h0, .inr (8, .ref tp :: .int (nI (tt + 2)) :: .ref sp :: .int 0 :: .int 0 :: .int 0 :: .ref rd :: .int (-1) :: .int (-1) :: tl)), (tp, .inl (ct, 3000, .inl f_12))]) rfl dX10_putFour_37 (fun H locs hw => ?_)
  obtain ⟨x_14, ex_14⟩ : ∃ y : Int32, y = 16 + (-8) := ⟨_, rfl⟩
  refine lv_iinc (v := x_14) (lv' := [(2, .int x_14), (0, .ref h0), (1, .int v)]) hf.1 hf.2.1 dX10_putFour_40 hl (k := 0) rfl (by rw [ex_14]; rfl) (by decide) rfl (fun ls hl => ?_)
  obtain rfl : x_14 = 8 := by rw [ex_14]; decide
  refine lv_goto (tgt := 3) hf.1 hf.2.1 dX10_putFour_43 (by decide) ?_
  refine lv_iload_n hf.1 hf.2.1 dX10_putFour_3 rfl (lv_at hl 0 rfl) ?_
  refine lv_if_lt (tgt := 46) hf.1 hf.2.1 dX10_putFour_4 (by decide) (fun c_15 => absurd c_15 (by decide)) (fun c_15 => ?_)
  refine lv_aload_n hf.1 hf.2.1 dX10_putFour_7 rfl (lv_at hl 1 rfl) ?_
  refine mget hf hw iX10 0 rfl rfl 1 (by decide) k680 rfl dX10_putFour_8 ?_
  refine lv_sipush (v := 3000) hf.1 hf.2.1 dX10_putFour_11 (by decide) ?_
  refine lv_icmp_ge (tgt := 40) hf.1 hf.2.1 dX10_putFour_14 (by decide) (fun c_16 => absurd c_16 (nI_ge (b := 3000) (by omega) (by decide))) (fun c_16 => ?_)
  refine lv_aload_n hf.1 hf.2.1 dX10_putFour_17 rfl (lv_at hl 1 rfl) ?_
  refine mget hf hw iX10 0 rfl rfl 0 (by decide) k679 rfl dX10_putFour_18 ?_
  refine lv_aload_n hf.1 hf.2.1 dX10_putFour_21 rfl (lv_at hl 1 rfl) ?_
  refine mget hf hw iX10 0 rfl rfl 1 (by decide) k680 rfl dX10_putFour_22 ?_
  refine lv_iload_n hf.1 hf.2.1 dX10_putFour_25 rfl (lv_at hl 2 rfl) ?_
  refine lv_iload_n hf.1 hf.2.1 dX10_putFour_26 rfl (lv_at hl 0 rfl) ?_
  refine lv_ishr hf.1 hf.2.1 dX10_putFour_27 ?_
  refine lv_topi (fun x_17 ex_17 => ?_)
  refine lv_i2b hf.1 hf.2.1 dX10_putFour_28 rfl ?_
  refine lv_topi (fun x_18 ex_18 => ?_)
  refine mbast hf hw 1 0 rfl rfl (vp_in_nI (by omega) (by decide)) dX10_putFour_29 (fun f_19 ef_19 H locs hw => ?_)
  have hw : Wd dC dI A [(h0, .inr (8, .ref tp :: .int (nI (tt + 2)) :: .ref sp :: .int 0 :: .int 0 :: .int 0 :: .ref rd :: .int (-1) :: .int (-1) :: tl)), (tp, .inl (ct, 3000, .inl f_19))] [(ct, .byte)] s H locs := hw
  refine lv_aload_n hf.1 hf.2.1 dX10_putFour_30 rfl (lv_at hl 1 rfl) ?_
  refine lv_dup hf.1 hf.2.1 dX10_putFour_31 rfl ?_
  refine mget hf hw iX10 0 rfl rfl 1 (by decide) k680 rfl dX10_putFour_32 ?_
  refine lv_iconst (v := 1) hf.1 hf.2.1 dX10_putFour_35 (by decide) ?_
  refine lv_iadd hf.1 hf.2.1 dX10_putFour_36 ?_
  refine lv_topi (fun x_20 ex_20 => ?_)
  obtain rfl : x_20 = nI (tt + 3) := by rw [ex_20]; exact nI_add (tt + 2) 1
  refine mput hf hw iX10 tyX10 tyX10_ok nmX10 0 rfl rfl 1 (by decide) k680 rfl rfl rfl (lt_app (K := [.ref tp, .int (nI (tt + 3)), .ref sp, .int 0, .int 0, .int 0, .ref rd, .int (-1), .int (-1)]) htl (Nat.le_of_ble_eq_true rfl)) (ws' := [(h0, .inr (8, .ref tp :: .int (nI (tt + 3)) :: .ref sp :: .int 0 :: .int 0 :: .int 0 :: .ref rd :: .int (-1) :: .int (-1) :: tl)), (tp, .inl (ct, 3000, .inl f_19))]) rfl dX10_putFour_37 (fun H locs hw => ?_)
  obtain ⟨x_21, ex_21⟩ : ∃ y : Int32, y = 8 + (-8) := ⟨_, rfl⟩
  refine lv_iinc (v := x_21) (lv' := [(2, .int x_21), (0, .ref h0), (1, .int v)]) hf.1 hf.2.1 dX10_putFour_40 hl (k := 0) rfl (by rw [ex_21]; rfl) (by decide) rfl (fun ls hl => ?_)
  obtain rfl : x_21 = 0 := by rw [ex_21]; decide
  refine lv_goto (tgt := 3) hf.1 hf.2.1 dX10_putFour_43 (by decide) ?_
  refine lv_iload_n hf.1 hf.2.1 dX10_putFour_3 rfl (lv_at hl 0 rfl) ?_
  refine lv_if_lt (tgt := 46) hf.1 hf.2.1 dX10_putFour_4 (by decide) (fun c_22 => absurd c_22 (by decide)) (fun c_22 => ?_)
  refine lv_aload_n hf.1 hf.2.1 dX10_putFour_7 rfl (lv_at hl 1 rfl) ?_
  refine mget hf hw iX10 0 rfl rfl 1 (by decide) k680 rfl dX10_putFour_8 ?_
  refine lv_sipush (v := 3000) hf.1 hf.2.1 dX10_putFour_11 (by decide) ?_
  refine lv_icmp_ge (tgt := 40) hf.1 hf.2.1 dX10_putFour_14 (by decide) (fun c_23 => absurd c_23 (nI_ge (b := 3000) (by omega) (by decide))) (fun c_23 => ?_)
  refine lv_aload_n hf.1 hf.2.1 dX10_putFour_17 rfl (lv_at hl 1 rfl) ?_
  refine mget hf hw iX10 0 rfl rfl 0 (by decide) k679 rfl dX10_putFour_18 ?_
  refine lv_aload_n hf.1 hf.2.1 dX10_putFour_21 rfl (lv_at hl 1 rfl) ?_
  refine mget hf hw iX10 0 rfl rfl 1 (by decide) k680 rfl dX10_putFour_22 ?_
  refine lv_iload_n hf.1 hf.2.1 dX10_putFour_25 rfl (lv_at hl 2 rfl) ?_
  refine lv_iload_n hf.1 hf.2.1 dX10_putFour_26 rfl (lv_at hl 0 rfl) ?_
  refine lv_ishr hf.1 hf.2.1 dX10_putFour_27 ?_
  refine lv_topi (fun x_24 ex_24 => ?_)
  refine lv_i2b hf.1 hf.2.1 dX10_putFour_28 rfl ?_
  refine lv_topi (fun x_25 ex_25 => ?_)
  refine mbast hf hw 1 0 rfl rfl (vp_in_nI (by omega) (by decide)) dX10_putFour_29 (fun f_26 ef_26 H locs hw => ?_)
  have hw : Wd dC dI A [(h0, .inr (8, .ref tp :: .int (nI (tt + 3)) :: .ref sp :: .int 0 :: .int 0 :: .int 0 :: .ref rd :: .int (-1) :: .int (-1) :: tl)), (tp, .inl (ct, 3000, .inl f_26))] [(ct, .byte)] s H locs := hw
  refine lv_aload_n hf.1 hf.2.1 dX10_putFour_30 rfl (lv_at hl 1 rfl) ?_
  refine lv_dup hf.1 hf.2.1 dX10_putFour_31 rfl ?_
  refine mget hf hw iX10 0 rfl rfl 1 (by decide) k680 rfl dX10_putFour_32 ?_
  refine lv_iconst (v := 1) hf.1 hf.2.1 dX10_putFour_35 (by decide) ?_
  refine lv_iadd hf.1 hf.2.1 dX10_putFour_36 ?_
  refine lv_topi (fun x_27 ex_27 => ?_)
  obtain rfl : x_27 = nI (tt + 4) := by rw [ex_27]; exact nI_add (tt + 3) 1
  refine mput hf hw iX10 tyX10 tyX10_ok nmX10 0 rfl rfl 1 (by decide) k680 rfl rfl rfl (lt_app (K := [.ref tp, .int (nI (tt + 4)), .ref sp, .int 0, .int 0, .int 0, .ref rd, .int (-1), .int (-1)]) htl (Nat.le_of_ble_eq_true rfl)) (ws' := [(h0, .inr (8, .ref tp :: .int (nI (tt + 4)) :: .ref sp :: .int 0 :: .int 0 :: .int 0 :: .ref rd :: .int (-1) :: .int (-1) :: tl)), (tp, .inl (ct, 3000, .inl f_26))]) rfl dX10_putFour_37 (fun H locs hw => ?_)
  obtain ⟨x_28, ex_28⟩ : ∃ y : Int32, y = 0 + (-8) := ⟨_, rfl⟩
  refine lv_iinc (v := x_28) (lv' := [(2, .int x_28), (0, .ref h0), (1, .int v)]) hf.1 hf.2.1 dX10_putFour_40 hl (k := 0) rfl (by rw [ex_28]; rfl) (by decide) rfl (fun ls hl => ?_)
  obtain rfl : x_28 = -8 := by rw [ex_28]; decide
  refine lv_goto (tgt := 3) hf.1 hf.2.1 dX10_putFour_43 (by decide) ?_
  refine lv_iload_n hf.1 hf.2.1 dX10_putFour_3 rfl (lv_at hl 0 rfl) ?_
  refine lv_if_lt (tgt := 46) hf.1 hf.2.1 dX10_putFour_4 (by decide) (fun c_29 => ?_) (fun c_29 => absurd (by decide) c_29)
  exact mret_v hf hr hlk hw f_26 trivial [0, 1] [0] rfl rfl rfl (Nat.le_of_ble_eq_true rfl) (Nat.le_of_ble_eq_true rfl) dX10_putFour_46

set_option maxHeartbeats 4000000 in
set_option maxRecDepth 100000 in
theorem b_feed (l : Launch) (dC : Nat → ClassId) (dI : Nat → Nat → Nat) (h0 tp sp rd : Nat) (tl : List Value) (ct : ClassId) (f : Nat → Int32) (v1 v2 v3 v4 v5 : Int32) (sz : Nat) (htl : tl.length = 4) : Met l yX10_feed (wsOf yX10_feed cX10_feed 6 (some .int)) ({ frames := 10, cells := 0, slots := 0, locals := 150 } : Room) (va_Pc [.ref h0, .int v1, .int v2, .int v3, .int v4, .int v5] (PB dC dI sz [(h0, .inr (8, .ref tp :: .int 0 :: .ref sp :: .int 0 :: .int 0 :: .int 0 :: .ref rd :: .int (-1) :: .int (-1) :: tl)), (tp, .inl (ct, 3000, .inl f))] [(ct, .byte)])) (va_Qi (S := Unit) (fun r _ => r = 20) (fun x t => PW dC dI (va_A [(h0, .inr (8, .ref tp :: .int 0 :: .ref sp :: .int 0 :: .int 0 :: .int 0 :: .ref rd :: .int (-1) :: .int (-1) :: tl)), (tp, .inl (ct, 3000, .inl f))] sz) ([]) ([]) t) (va_A [(h0, .inr (8, .ref tp :: .int 0 :: .ref sp :: .int 0 :: .int 0 :: .int 0 :: .ref rd :: .int (-1) :: .int (-1) :: tl)), (tp, .inl (ct, 3000, .inl f))] sz)) 0 0 (va_A [(h0, .inr (8, .ref tp :: .int 0 :: .ref sp :: .int 0 :: .int 0 :: .int 0 :: .ref rd :: .int (-1) :: .int (-1) :: tl)), (tp, .inl (ct, 3000, .inl f))] sz) := by
  refine mbody (y := yX10_feed) (av := [.ref h0, .int v1, .int v2, .int v3, .int v4, .int v5]) (b := cX10_feed) (n := 6) (ret := (some .int)) (Qc := fun A => (va_Qi (S := Unit) (fun r _ => r = 20) (fun x t => PW dC dI A ([]) ([]) t) A)) (by decide) (Nat.le_of_ble_eq_true rfl) ?_
  intro p e s m below meth c ls A H hf hr hin hlk hw hl
  have hl : lv_has ls 6 [(0, .ref h0), (1, .int v1), (2, .int v2), (3, .int v3), (4, .int v4), (5, .int v5)] := hl
  refine lv_aload_n hf.1 hf.2.1 dX10_feed_0 rfl (lv_at hl 0 rfl) ?_
  refine mget hf hw iX10 0 rfl rfl 1 (by decide) k680 rfl dX10_feed_1 ?_
  refine lv_bipush (v := 20) hf.1 hf.2.1 dX10_feed_4 (by decide) ?_
  refine lv_iadd hf.1 hf.2.1 dX10_feed_6 ?_
  refine lv_topi (fun x_1 ex_1 => ?_)
  obtain rfl : x_1 = 20 := by rw [ex_1]; decide
  refine lv_sipush (v := 3000) hf.1 hf.2.1 dX10_feed_7 (by decide) ?_
  refine lv_icmp_le (tgt := 15) hf.1 hf.2.1 dX10_feed_10 (by decide) (fun c_2 => ?_) (fun c_2 => absurd (by decide) c_2)
  refine lv_aload_n hf.1 hf.2.1 dX10_feed_15 rfl (lv_at hl 0 rfl) ?_
  refine lv_iload_n hf.1 hf.2.1 dX10_feed_16 rfl (lv_at hl 1 rfl) ?_
  refine mV_v (As := [.int v1]) (rest := []) (wr := []) (tr := []) hf hw (b_putFour l dC dI h0 tp sp rd tl ct 0 f v1 H.size htl (by decide)) ka_X10_putFour kv_X10_putFour 0 rfl rfl k723 [0, 1] [0] [] [] rfl rfl rfl rfl rfl (by decide) rfl rfl rfl hl.1 rfl rfl ⟨Nat.le_of_ble_eq_true rfl, Nat.le_of_ble_eq_true rfl⟩ (Nat.le_of_ble_eq_true rfl) (ce := 0) (sl := 0) rfl rfl ⟨Nat.le_of_ble_eq_true rfl, Nat.le_of_ble_eq_true rfl⟩ dX10_feed_17 (fun f_3 hu_5 H locs hw => ?_)
  have hw : Wd dC dI A [(h0, .inr (8, .ref tp :: .int (nI (0 + 4)) :: .ref sp :: .int 0 :: .int 0 :: .int 0 :: .ref rd :: .int (-1) :: .int (-1) :: tl)), (tp, .inl (ct, 3000, .inl f_3))] [(ct, .byte)] s H locs := hw
  refine lv_aload_n hf.1 hf.2.1 dX10_feed_20 rfl (lv_at hl 0 rfl) ?_
  refine lv_iload_n hf.1 hf.2.1 dX10_feed_21 rfl (lv_at hl 2 rfl) ?_
  refine mV_v (As := [.int v2]) (rest := []) (wr := []) (tr := []) hf hw (b_putFour l dC dI h0 tp sp rd tl ct (0 + 4) f_3 v2 H.size htl (by decide)) ka_X10_putFour kv_X10_putFour 0 rfl rfl k723 [0, 1] [0] [] [] rfl rfl rfl rfl rfl (by decide) rfl rfl rfl hl.1 rfl rfl ⟨Nat.le_of_ble_eq_true rfl, Nat.le_of_ble_eq_true rfl⟩ (Nat.le_of_ble_eq_true rfl) (ce := 0) (sl := 0) rfl rfl ⟨Nat.le_of_ble_eq_true rfl, Nat.le_of_ble_eq_true rfl⟩ dX10_feed_22 (fun f_6 hu_8 H locs hw => ?_)
  have hw : Wd dC dI A [(h0, .inr (8, .ref tp :: .int (nI ((0 + 4) + 4)) :: .ref sp :: .int 0 :: .int 0 :: .int 0 :: .ref rd :: .int (-1) :: .int (-1) :: tl)), (tp, .inl (ct, 3000, .inl f_6))] [(ct, .byte)] s H locs := hw
  refine lv_aload_n hf.1 hf.2.1 dX10_feed_25 rfl (lv_at hl 0 rfl) ?_
  refine lv_iload_n hf.1 hf.2.1 dX10_feed_26 rfl (lv_at hl 3 rfl) ?_
  refine mV_v (As := [.int v3]) (rest := []) (wr := []) (tr := []) hf hw (b_putFour l dC dI h0 tp sp rd tl ct (0 + 4 + 4) f_6 v3 H.size htl (by decide)) ka_X10_putFour kv_X10_putFour 0 rfl rfl k723 [0, 1] [0] [] [] rfl rfl rfl rfl rfl (by decide) rfl rfl rfl hl.1 rfl rfl ⟨Nat.le_of_ble_eq_true rfl, Nat.le_of_ble_eq_true rfl⟩ (Nat.le_of_ble_eq_true rfl) (ce := 0) (sl := 0) rfl rfl ⟨Nat.le_of_ble_eq_true rfl, Nat.le_of_ble_eq_true rfl⟩ dX10_feed_27 (fun f_9 hu_11 H locs hw => ?_)
  have hw : Wd dC dI A [(h0, .inr (8, .ref tp :: .int (nI ((0 + 4 + 4) + 4)) :: .ref sp :: .int 0 :: .int 0 :: .int 0 :: .ref rd :: .int (-1) :: .int (-1) :: tl)), (tp, .inl (ct, 3000, .inl f_9))] [(ct, .byte)] s H locs := hw
  refine lv_aload_n hf.1 hf.2.1 dX10_feed_30 rfl (lv_at hl 0 rfl) ?_
  refine lv_iload hf.1 hf.2.1 dX10_feed_31 (lv_at hl 4 rfl) ?_
  refine mV_v (As := [.int v4]) (rest := []) (wr := []) (tr := []) hf hw (b_putFour l dC dI h0 tp sp rd tl ct (0 + 4 + 4 + 4) f_9 v4 H.size htl (by decide)) ka_X10_putFour kv_X10_putFour 0 rfl rfl k723 [0, 1] [0] [] [] rfl rfl rfl rfl rfl (by decide) rfl rfl rfl hl.1 rfl rfl ⟨Nat.le_of_ble_eq_true rfl, Nat.le_of_ble_eq_true rfl⟩ (Nat.le_of_ble_eq_true rfl) (ce := 0) (sl := 0) rfl rfl ⟨Nat.le_of_ble_eq_true rfl, Nat.le_of_ble_eq_true rfl⟩ dX10_feed_33 (fun f_12 hu_14 H locs hw => ?_)
  have hw : Wd dC dI A [(h0, .inr (8, .ref tp :: .int (nI ((0 + 4 + 4 + 4) + 4)) :: .ref sp :: .int 0 :: .int 0 :: .int 0 :: .ref rd :: .int (-1) :: .int (-1) :: tl)), (tp, .inl (ct, 3000, .inl f_12))] [(ct, .byte)] s H locs := hw
  refine lv_aload_n hf.1 hf.2.1 dX10_feed_36 rfl (lv_at hl 0 rfl) ?_
  refine lv_iload hf.1 hf.2.1 dX10_feed_37 (lv_at hl 5 rfl) ?_
  refine mV_v (As := [.int v5]) (rest := []) (wr := []) (tr := []) hf hw (b_putFour l dC dI h0 tp sp rd tl ct (0 + 4 + 4 + 4 + 4) f_12 v5 H.size htl (by decide)) ka_X10_putFour kv_X10_putFour 0 rfl rfl k723 [0, 1] [0] [] [] rfl rfl rfl rfl rfl (by decide) rfl rfl rfl hl.1 rfl rfl ⟨Nat.le_of_ble_eq_true rfl, Nat.le_of_ble_eq_true rfl⟩ (Nat.le_of_ble_eq_true rfl) (ce := 0) (sl := 0) rfl rfl ⟨Nat.le_of_ble_eq_true rfl, Nat.le_of_ble_eq_true rfl⟩ dX10_feed_39 (fun f_15 hu_17 H locs hw => ?_)
  have hw : Wd dC dI A [(h0, .inr (8, .ref tp :: .int (nI ((0 + 4 + 4 + 4 + 4) + 4)) :: .ref sp :: .int 0 :: .int 0 :: .int 0 :: .ref rd :: .int (-1) :: .int (-1) :: tl)), (tp, .inl (ct, 3000, .inl f_15))] [(ct, .byte)] s H locs := hw
  refine lv_aload_n hf.1 hf.2.1 dX10_feed_42 rfl (lv_at hl 0 rfl) ?_
  refine mget hf hw iX10 0 rfl rfl 1 (by decide) k680 rfl dX10_feed_43 ?_
  exact mret_i (v := (nI ((0 + 4 + 4 + 4 + 4) + 4))) hf hr hlk hw () (by decide) [] [] rfl rfl rfl (Nat.le_of_ble_eq_true rfl) (Nat.le_of_ble_eq_true rfl) dX10_feed_46

set_option maxHeartbeats 4000000 in
set_option maxRecDepth 100000 in
theorem b_cutTo (l : Launch) (dC : Nat → ClassId) (dI : Nat → Nat → Nat) (k : Nat) (n : Nat) (tk : List Value) (sz : Nat) (hn : n ≤ 9) (htk : tk.length = 7) : Met l yX3_cutTo (wsOf yX3_cutTo cX3_cutTo 3 none) ({ frames := 6, cells := 0, slots := 0, locals := 90 } : Room) (va_Pc [.ref k, .int 9] (PB dC dI sz [(k, .inr (3, .int (nI n) :: tk))] [])) (va_Qv (S := Unit) (fun _ => True) (fun x t => PW dC dI (va_A [(k, .inr (3, .int (nI n) :: tk))] sz) ([(k, .inr (3, .int (nI n) :: tk))]) ([]) t) (va_A [(k, .inr (3, .int (nI n) :: tk))] sz)) 0 0 (va_A [(k, .inr (3, .int (nI n) :: tk))] sz) := by
  refine mbody (y := yX3_cutTo) (av := [.ref k, .int 9]) (b := cX3_cutTo) (n := 3) (ret := none) (Qc := fun A => (va_Qv (S := Unit) (fun _ => True) (fun x t => PW dC dI A ([(k, .inr (3, .int (nI n) :: tk))]) ([]) t) A)) (by decide) (Nat.le_of_ble_eq_true rfl) ?_
  intro p e s m below meth c ls A H hf hr hin hlk hw hl
  have hl : lv_has ls 3 [(0, .ref k), (1, .int 9)] := hl
  refine lv_aload_n hf.1 hf.2.1 dX3_cutTo_0 rfl (lv_at hl 0 rfl) ?_
  refine mget hf hw iX3 0 rfl rfl 0 (by decide) k257 rfl dX3_cutTo_1 ?_
  refine lv_iconst (v := 1) hf.1 hf.2.1 dX3_cutTo_4 (by decide) ?_
  refine lv_isub hf.1 hf.2.1 dX3_cutTo_5 ?_
  refine lv_topi (fun x_1 ex_1 => ?_)
  have h9 : x_1 < 9 := by rw [ex_1]; exact cnt_lt9 hn
  refine lv_istore_n (lv' := [(2, .int x_1), (0, .ref k), (1, .int 9)]) hf.1 hf.2.1 dX3_cutTo_6 rfl hl (by decide) rfl (fun ls hl => ?_)
  refine lv_iload_n hf.1 hf.2.1 dX3_cutTo_7 rfl (lv_at hl 0 rfl) ?_
  refine lv_iload_n hf.1 hf.2.1 dX3_cutTo_8 rfl (lv_at hl 2 rfl) ?_
  refine lv_icmp_lt (tgt := 49) hf.1 hf.2.1 dX3_cutTo_9 (by decide) (fun c_2 => ?_) (fun c_2 => absurd h9 c_2)
  exact mret_v hf hr hlk hw () trivial [0] [] rfl rfl rfl (Nat.le_of_ble_eq_true rfl) (Nat.le_of_ble_eq_true rfl) dX3_cutTo_49

set_option maxHeartbeats 4000000 in
set_option maxRecDepth 100000 in
theorem b_forgetTexts (l : Launch) (dC : Nat → ClassId) (dI : Nat → Nat → Nat) (k : Nat) (n : Nat) (tk : List Value) (sz : Nat) (hn : n ≤ 9) (htk : tk.length = 7) : Met l yX3_forgetTexts (wsOf yX3_forgetTexts cX3_forgetTexts 1 none) ({ frames := 10, cells := 0, slots := 0, locals := 150 } : Room) (va_Pc [.ref k] (PB dC dI sz [(k, .inr (3, .int (nI n) :: tk))] [])) (va_Qv (S := Unit) (fun _ => True) (fun x t => PW dC dI (va_A [(k, .inr (3, .int (nI n) :: tk))] sz) ([(k, .inr (3, .int (nI n) :: tk))]) ([]) t) (va_A [(k, .inr (3, .int (nI n) :: tk))] sz)) 0 0 (va_A [(k, .inr (3, .int (nI n) :: tk))] sz) := by
  refine mbody (y := yX3_forgetTexts) (av := [.ref k]) (b := cX3_forgetTexts) (n := 1) (ret := none) (Qc := fun A => (va_Qv (S := Unit) (fun _ => True) (fun x t => PW dC dI A ([(k, .inr (3, .int (nI n) :: tk))]) ([]) t) A)) (by decide) (Nat.le_of_ble_eq_true rfl) ?_
  intro p e s m below meth c ls A H hf hr hin hlk hw hl
  have hl : lv_has ls 1 [(0, .ref k)] := hl
  refine lv_aload_n hf.1 hf.2.1 dX3_forgetTexts_0 rfl (lv_at hl 0 rfl) ?_
  refine lv_bipush (v := 9) hf.1 hf.2.1 dX3_forgetTexts_1 (by decide) ?_
  refine mV_v (As := [.int 9]) (rest := []) (wr := []) (tr := []) hf hw (b_cutTo l dC dI k n tk H.size hn htk) ka_X3_cutTo kv_X3_cutTo 0 rfl rfl k747 [0] [] [] [] rfl rfl rfl rfl rfl (by decide) rfl rfl rfl hl.1 rfl rfl ⟨Nat.le_of_ble_eq_true rfl, Nat.le_of_ble_eq_true rfl⟩ (Nat.le_of_ble_eq_true rfl) (ce := 0) (sl := 0) rfl rfl ⟨Nat.le_of_ble_eq_true rfl, Nat.le_of_ble_eq_true rfl⟩ dX3_forgetTexts_3 (fun u_2 hu_2 H locs hw => ?_)
  have hw : Wd dC dI A [(k, .inr (3, .int (nI n) :: tk))] [] s H locs := hw
  exact mret_v hf hr hlk hw () trivial [0] [] rfl rfl rfl (Nat.le_of_ble_eq_true rfl) (Nat.le_of_ble_eq_true rfl) dX3_forgetTexts_6

set_option maxHeartbeats 4000000 in
set_option maxRecDepth 100000 in
theorem b_clear (l : Launch) (dC : Nat → ClassId) (dI : Nat → Nat → Nat) (sp k it en n : Nat) (tkK tlP : List Value) (ci : ClassId) (fi : Nat → Int32) (sz : Nat) (hn : n ≤ 9) (htk : tkK.length = 7) (htlP : tlP.length = 10) : Met l yX5_clear (wsOf yX5_clear cX5_clear 2 none) ({ frames := 14, cells := 0, slots := 0, locals := 210 } : Room) (va_Pc [.ref sp] (PB dC dI sz [(sp, .inr (4, .ref k :: .int 0 :: .int (-1) :: .ref it :: .ref en :: .int 0 :: .int 0 :: tlP)), (k, .inr (3, .int (nI n) :: tkK)), (it, .inl (ci, 40, .inl fi))] [(ci, .boolean)])) (va_Qv (S := (Nat → Int32)) (fun _ => True) (fun x t => PW dC dI (va_A [(sp, .inr (4, .ref k :: .int 0 :: .int (-1) :: .ref it :: .ref en :: .int 0 :: .int 0 :: tlP)), (k, .inr (3, .int (nI n) :: tkK)), (it, .inl (ci, 40, .inl fi))] sz) ([(sp, .inr (4, .ref k :: .int 0 :: .int (-1) :: .ref it :: .ref en :: .int 0 :: .int 0 :: tlP)), (k, .inr (3, .int (nI n) :: tkK)), (it, .inl (ci, 40, .inl x))]) ([(ci, .boolean)]) t) (va_A [(sp, .inr (4, .ref k :: .int 0 :: .int (-1) :: .ref it :: .ref en :: .int 0 :: .int 0 :: tlP)), (k, .inr (3, .int (nI n) :: tkK)), (it, .inl (ci, 40, .inl fi))] sz)) 0 0 (va_A [(sp, .inr (4, .ref k :: .int 0 :: .int (-1) :: .ref it :: .ref en :: .int 0 :: .int 0 :: tlP)), (k, .inr (3, .int (nI n) :: tkK)), (it, .inl (ci, 40, .inl fi))] sz) := by
  refine mbody (y := yX5_clear) (av := [.ref sp]) (b := cX5_clear) (n := 2) (ret := none) (Qc := fun A => (va_Qv (S := (Nat → Int32)) (fun _ => True) (fun x t => PW dC dI A ([(sp, .inr (4, .ref k :: .int 0 :: .int (-1) :: .ref it :: .ref en :: .int 0 :: .int 0 :: tlP)), (k, .inr (3, .int (nI n) :: tkK)), (it, .inl (ci, 40, .inl x))]) ([(ci, .boolean)]) t) A)) (by decide) (Nat.le_of_ble_eq_true rfl) ?_
  intro p e s m below meth c ls A H hf hr hin hlk hw hl
  have hl : lv_has ls 2 [(0, .ref sp)] := hl
  refine lv_aload_n hf.1 hf.2.1 dX5_clear_0 rfl (lv_at hl 0 rfl) ?_
  refine mget hf hw iX5 0 rfl rfl 0 (by decide) k279 rfl dX5_clear_1 ?_
  refine mV_v (As := []) (rest := []) (wr := [(sp, .inr (4, .ref k :: .int 0 :: .int (-1) :: .ref it :: .ref en :: .int 0 :: .int 0 :: tlP)), (it, .inl (ci, 40, .inl fi))]) (tr := [(ci, .boolean)]) hf hw (b_forgetTexts l dC dI k n tkK H.size hn htk) ka_X3_forgetTexts kv_X3_forgetTexts 1 rfl rfl k743 [1] [] [0, 2] [0] rfl rfl rfl rfl rfl (by decide) rfl rfl rfl hl.1 rfl rfl ⟨Nat.le_of_ble_eq_true rfl, Nat.le_of_ble_eq_true rfl⟩ (Nat.le_of_ble_eq_true rfl) (ce := 0) (sl := 0) rfl rfl ⟨Nat.le_of_ble_eq_true rfl, Nat.le_of_ble_eq_true rfl⟩ dX5_clear_4 (fun u_2 hu_2 H locs hw => ?_)
  have hw : Wd dC dI A [(sp, .inr (4, .ref k :: .int 0 :: .int (-1) :: .ref it :: .ref en :: .int 0 :: .int 0 :: tlP)), (it, .inl (ci, 40, .inl fi)), (k, .inr (3, .int (nI n) :: tkK))] [(ci, .boolean)] s H locs := hw
  have hw := hw.pick (ws' := [(sp, .inr (4, .ref k :: .int 0 :: .int (-1) :: .ref it :: .ref en :: .int 0 :: .int 0 :: tlP)), (k, .inr (3, .int (nI n) :: tkK)), (it, .inl (ci, 40, .inl fi))]) (tys' := [(ci, .boolean)]) [0, 2, 1] [0] rfl rfl rfl
  refine lv_aload_n hf.1 hf.2.1 dX5_clear_7 rfl (lv_at hl 0 rfl) ?_
  refine lv_iconst (v := 0) hf.1 hf.2.1 dX5_clear_8 (by decide) ?_
  refine mput hf hw iX5 tyX5 tyX5_ok nmX5 0 rfl rfl 1 (by decide) k284 rfl rfl rfl (lt_app (K := [.ref k, .int 0, .int (-1), .ref it, .ref en, .int 0, .int 0]) htlP (Nat.le_of_ble_eq_true rfl)) (ws' := [(sp, .inr (4, .ref k :: .int 0 :: .int (-1) :: .ref it :: .ref en :: .int 0 :: .int 0 :: tlP)), (k, .inr (3, .int (nI n) :: tkK)), (it, .inl (ci, 40, .inl fi))]) rfl dX5_clear_9 (fun H locs hw => ?_)
  refine lv_aload_n hf.1 hf.2.1 dX5_clear_12 rfl (lv_at hl 0 rfl) ?_
  refine lv_iconst (v := (-1)) hf.1 hf.2.1 dX5_clear_13 (by decide) ?_
  refine mput hf hw iX5 tyX5 tyX5_ok nmX5 0 rfl rfl 2 (by decide) k289 rfl rfl rfl (lt_app (K := [.ref k, .int 0, .int (-1), .ref it, .ref en, .int 0, .int 0]) htlP (Nat.le_of_ble_eq_true rfl)) (ws' := [(sp, .inr (4, .ref k :: .int 0 :: .int (-1) :: .ref it :: .ref en :: .int 0 :: .int 0 :: tlP)), (k, .inr (3, .int (nI n) :: tkK)), (it, .inl (ci, 40, .inl fi))]) rfl dX5_clear_14 (fun H locs hw => ?_)
  refine lv_aload_n hf.1 hf.2.1 dX5_clear_17 rfl (lv_at hl 0 rfl) ?_
  refine lv_iconst (v := 0) hf.1 hf.2.1 dX5_clear_18 (by decide) ?_
  refine mput hf hw iX5 tyX5 tyX5_ok nmX5 0 rfl rfl 6 (by decide) k335 rfl rfl rfl (lt_app (K := [.ref k, .int 0, .int (-1), .ref it, .ref en, .int 0, .int 0]) htlP (Nat.le_of_ble_eq_true rfl)) (ws' := [(sp, .inr (4, .ref k :: .int 0 :: .int (-1) :: .ref it :: .ref en :: .int 0 :: .int 0 :: tlP)), (k, .inr (3, .int (nI n) :: tkK)), (it, .inl (ci, 40, .inl fi))]) rfl dX5_clear_19 (fun H locs hw => ?_)
  refine lv_iconst (v := 0) hf.1 hf.2.1 dX5_clear_22 (by decide) ?_
  refine lv_istore_n (lv' := [(1, .int 0), (0, .ref sp)]) hf.1 hf.2.1 dX5_clear_23 rfl hl (by decide) rfl (fun ls hl => ?_)
  have loop : ∀ (N : Nat) (j : Nat) (g : Nat → Int32) (H : Heap) (locs : List Loc) (ls : Array Slot), 40 - j < N → j ≤ 40 → Wd dC dI A [(sp, .inr (4, .ref k :: .int 0 :: .int (-1) :: .ref it :: .ref en :: .int 0 :: .int 0 :: tlP)), (k, .inr (3, .int (nI n) :: tkK)), (it, .inl (ci, 40, .inl g))] [(ci, .boolean)] s H locs → lv_has ls 2 [(1, .int (nI j)), (0, .ref sp)] → W p l e ({ frames := 14, cells := 0, slots := 0, locals := 210 } : Room) s m [.ref sp].toArray below meth c H locs 0 0 (MQ below (va_Qv (S := (Nat → Int32)) (fun _ => True) (fun x t => PW dC dI A ([(sp, .inr (4, .ref k :: .int 0 :: .int (-1) :: .ref it :: .ref en :: .int 0 :: .int 0 :: tlP)), (k, .inr (3, .int (nI n) :: tkK)), (it, .inl (ci, 40, .inl x))]) ([(ci, .boolean)]) t) A) [.ref sp].toArray s 0 0 A) (F0 m 24 ls []) := by
    intro N
    induction N with
    | zero => intro j g H locs ls hm; exact absurd hm (Nat.not_lt_zero _)
    | succ N ih =>
      intro j g H locs ls hm hj4 hw hl
      refine lv_iload_n hf.1 hf.2.1 dX5_clear_24 rfl (lv_at hl 0 rfl) ?_
      refine lv_bipush (v := 40) hf.1 hf.2.1 dX5_clear_25 (by decide) ?_
      refine lv_icmp_ge (tgt := 43) hf.1 hf.2.1 dX5_clear_27 (by decide) (fun c_3 => ?_) (fun c_3 => ?_)
      · exact mret_v hf hr hlk hw g trivial [0, 1, 2] [0] rfl rfl rfl (Nat.le_of_ble_eq_true rfl) (Nat.le_of_ble_eq_true rfl) dX5_clear_43
      · have hj : j < 40 := (nI_ltI (by omega) (by decide)).mp (Int32.not_le.mp c_3)
        refine lv_aload_n hf.1 hf.2.1 dX5_clear_30 rfl (lv_at hl 1 rfl) ?_
        refine mget hf hw iX5 0 rfl rfl 3 (by decide) k310 rfl dX5_clear_31 ?_
        refine lv_iload_n hf.1 hf.2.1 dX5_clear_34 rfl (lv_at hl 0 rfl) ?_
        refine lv_iconst (v := 1) hf.1 hf.2.1 dX5_clear_35 (by decide) ?_
        refine mzast hf hw 2 0 rfl rfl (vp_in_nI hj (by decide)) dX5_clear_36 (fun f_4 ef_4 H locs hw => ?_)
        have hw : Wd dC dI A [(sp, .inr (4, .ref k :: .int 0 :: .int (-1) :: .ref it :: .ref en :: .int 0 :: .int 0 :: tlP)), (k, .inr (3, .int (nI n) :: tkK)), (it, .inl (ci, 40, .inl f_4))] [(ci, .boolean)] s H locs := hw
        obtain ⟨x_5, ex_5⟩ : ∃ y : Int32, y = (nI j) + 1 := ⟨_, rfl⟩
        refine lv_iinc (v := x_5) (lv' := [(1, .int x_5), (0, .ref sp)]) hf.1 hf.2.1 dX5_clear_37 hl (k := 0) rfl (by rw [ex_5]; rfl) (by decide) rfl (fun ls hl => ?_)
        obtain rfl : x_5 = nI (j + 1) := by rw [ex_5, nI_1]
        refine lv_goto (tgt := 24) hf.1 hf.2.1 dX5_clear_40 (by decide) ?_
        exact ih (j + 1) f_4 _ _ _ (by omega) (by omega) hw (lv_sub hl [0, 1] rfl)
  exact loop 41 0 _ _ _ _ (by omega) (by omega) hw (lv_sub hl [0, 1] rfl)

set_option maxHeartbeats 4000000 in
set_option maxRecDepth 100000 in
theorem b_byteAt (l : Launch) (dC : Nat → ClassId) (dI : Nat → Nat → Nat) (tk tp : Nat) (nx pl w : Int32) (sz : Nat) : Met l yX9_byteAt (wsOf yX9_byteAt cX9_byteAt 2 (some .int)) ({ frames := 6, cells := 0, slots := 0, locals := 90 } : Room) (va_Pc [.ref tk, .int w] (PB dC dI sz [(tk, .inr (7, [.ref tp, .int 0, .int nx, .int 257, .int pl, .long 0, .int 0, .long 0]))] [])) (va_Qi (S := Unit) (fun r _ => r = -1) (fun x t => PW dC dI (va_A [(tk, .inr (7, [.ref tp, .int 0, .int nx, .int 257, .int pl, .long 0, .int 0, .long 0]))] sz) ([(tk, .inr (7, [.ref tp, .int 0, .int nx, .int 257, .int pl, .long 0, .int 0, .long 0]))]) ([]) t) (va_A [(tk, .inr (7, [.ref tp, .int 0, .int nx, .int 257, .int pl, .long 0, .int 0, .long 0]))] sz)) 0 0 (va_A [(tk, .inr (7, [.ref tp, .int 0, .int nx, .int 257, .int pl, .long 0, .int 0, .long 0]))] sz) := by
  refine mbody (y := yX9_byteAt) (av := [.ref tk, .int w]) (b := cX9_byteAt) (n := 2) (ret := (some .int)) (Qc := fun A => (va_Qi (S := Unit) (fun r _ => r = -1) (fun x t => PW dC dI A ([(tk, .inr (7, [.ref tp, .int 0, .int nx, .int 257, .int pl, .long 0, .int 0, .long 0]))]) ([]) t) A)) (by decide) (Nat.le_of_ble_eq_true rfl) ?_
  intro p e s m below meth c ls A H hf hr hin hlk hw hl
  have hl : lv_has ls 2 [(0, .ref tk), (1, .int w)] := hl
  refine lv_iload_n hf.1 hf.2.1 dX9_byteAt_0 rfl (lv_at hl 1 rfl) ?_
  refine lv_if_lt (tgt := 25) hf.1 hf.2.1 dX9_byteAt_1 (by decide) (fun c_1 => ?_) (fun c_1 => ?_)
  · refine lv_iconst (v := (-1)) hf.1 hf.2.1 dX9_byteAt_25 (by decide) ?_
    exact mret_i (v := (-1)) hf hr hlk hw () rfl [0] [] rfl rfl rfl (Nat.le_of_ble_eq_true rfl) (Nat.le_of_ble_eq_true rfl) dX9_byteAt_26
  · refine lv_iload_n hf.1 hf.2.1 dX9_byteAt_4 rfl (lv_at hl 1 rfl) ?_
    refine lv_aload_n hf.1 hf.2.1 dX9_byteAt_5 rfl (lv_at hl 0 rfl) ?_
    refine mget hf hw iX9 0 rfl rfl 1 (by decide) k387 rfl dX9_byteAt_6 ?_
    refine lv_icmp_ge (tgt := 25) hf.1 hf.2.1 dX9_byteAt_9 (by decide) (fun c_2 => ?_) (fun c_2 => absurd (Int32.not_lt.mp c_1) c_2)
    refine lv_iconst (v := (-1)) hf.1 hf.2.1 dX9_byteAt_25 (by decide) ?_
    exact mret_i (v := (-1)) hf hr hlk hw () rfl [0] [] rfl rfl rfl (Nat.le_of_ble_eq_true rfl) (Nat.le_of_ble_eq_true rfl) dX9_byteAt_26

set_option maxHeartbeats 4000000 in
set_option maxRecDepth 100000 in
theorem b_advance (l : Launch) (dC : Nat → ClassId) (dI : Nat → Nat → Nat) (tk tp : Nat) (pl : Int32) (sz : Nat) : Met l yX9_advance (wsOf yX9_advance cX9_advance 3 none) ({ frames := 10, cells := 0, slots := 0, locals := 150 } : Room) (va_Pc [.ref tk] (PB dC dI sz [(tk, .inr (7, [.ref tp, .int 0, .int 0, .int 257, .int pl, .long 0, .int 0, .long 0]))] [])) (va_Qv (S := Unit) (fun _ => True) (fun x t => PW dC dI (va_A [(tk, .inr (7, [.ref tp, .int 0, .int 0, .int 257, .int pl, .long 0, .int 0, .long 0]))] sz) ([(tk, .inr (7, [.ref tp, .int 0, .int 0, .int 257, .int 0, .long 0, .int 0, .long 0]))]) ([]) t) (va_A [(tk, .inr (7, [.ref tp, .int 0, .int 0, .int 257, .int pl, .long 0, .int 0, .long 0]))] sz)) 0 0 (va_A [(tk, .inr (7, [.ref tp, .int 0, .int 0, .int 257, .int pl, .long 0, .int 0, .long 0]))] sz) := by
  refine mbody (y := yX9_advance) (av := [.ref tk]) (b := cX9_advance) (n := 3) (ret := none) (Qc := fun A => (va_Qv (S := Unit) (fun _ => True) (fun x t => PW dC dI A ([(tk, .inr (7, [.ref tp, .int 0, .int 0, .int 257, .int 0, .long 0, .int 0, .long 0]))]) ([]) t) A)) (by decide) (Nat.le_of_ble_eq_true rfl) ?_
  intro p e s m below meth c ls A H hf hr hin hlk hw hl
  have hl : lv_has ls 3 [(0, .ref tk)] := hl
  refine lv_aload_n hf.1 hf.2.1 dX9_advance_0 rfl (lv_at hl 0 rfl) ?_
  refine mget hf hw iX9 0 rfl rfl 3 (by decide) k389 rfl dX9_advance_1 ?_
  refine lv_sipush (v := 260) hf.1 hf.2.1 dX9_advance_4 (by decide) ?_
  refine lv_icmp_ne (tgt := 11) hf.1 hf.2.1 dX9_advance_7 (by decide) (fun c_1 => ?_) (fun c_1 => absurd c_1 (by decide))
  refine lv_aload_n hf.1 hf.2.1 dX9_advance_11 rfl (lv_at hl 0 rfl) ?_
  refine mget hf hw iX9 0 rfl rfl 2 (by decide) k388 rfl dX9_advance_12 ?_
  refine lv_istore_n (lv' := [(1, .int 0), (0, .ref tk)]) hf.1 hf.2.1 dX9_advance_15 rfl hl (by decide) rfl (fun ls hl => ?_)
  refine lv_iload_n hf.1 hf.2.1 dX9_advance_16 rfl (lv_at hl 0 rfl) ?_
  refine lv_aload_n hf.1 hf.2.1 dX9_advance_17 rfl (lv_at hl 1 rfl) ?_
  refine mget hf hw iX9 0 rfl rfl 1 (by decide) k387 rfl dX9_advance_18 ?_
  refine lv_icmp_ge (tgt := 50) hf.1 hf.2.1 dX9_advance_21 (by decide) (fun c_2 => ?_) (fun c_2 => absurd (by decide) c_2)
  refine lv_aload_n hf.1 hf.2.1 dX9_advance_50 rfl (lv_at hl 1 rfl) ?_
  refine lv_iload_n hf.1 hf.2.1 dX9_advance_51 rfl (lv_at hl 0 rfl) ?_
  refine mput hf hw iX9 tyX9 tyX9_ok nmX9 0 rfl rfl 4 (by decide) k391 rfl rfl rfl (Nat.le_of_ble_eq_true rfl) (ws' := [(tk, .inr (7, [.ref tp, .int 0, .int 0, .int 257, .int 0, .long 0, .int 0, .long 0]))]) rfl dX9_advance_52 (fun H locs hw => ?_)
  refine lv_aload_n hf.1 hf.2.1 dX9_advance_55 rfl (lv_at hl 1 rfl) ?_
  refine lv_iload_n hf.1 hf.2.1 dX9_advance_56 rfl (lv_at hl 0 rfl) ?_
  refine lv_iconst (v := 1) hf.1 hf.2.1 dX9_advance_57 (by decide) ?_
  refine lv_iadd hf.1 hf.2.1 dX9_advance_58 ?_
  refine lv_topi (fun x_3 ex_3 => ?_)
  obtain rfl : x_3 = 1 := by rw [ex_3]; decide
  refine mput hf hw iX9 tyX9 tyX9_ok nmX9 0 rfl rfl 2 (by decide) k388 rfl rfl rfl (Nat.le_of_ble_eq_true rfl) (ws' := [(tk, .inr (7, [.ref tp, .int 0, .int 1, .int 257, .int 0, .long 0, .int 0, .long 0]))]) rfl dX9_advance_59 (fun H locs hw => ?_)
  refine lv_aload_n hf.1 hf.2.1 dX9_advance_62 rfl (lv_at hl 1 rfl) ?_
  refine lv_iload_n hf.1 hf.2.1 dX9_advance_63 rfl (lv_at hl 0 rfl) ?_
  refine mV_i (As := [.int 0]) (rest := []) (wr := []) (tr := []) hf hw (b_byteAt l dC dI tk tp 1 0 0 H.size) ka_X9_byteAt kv_X9_byteAt 0 rfl rfl k766 [0] [] [] [] rfl rfl rfl rfl rfl (by decide) rfl rfl rfl hl.1 rfl rfl ⟨Nat.le_of_ble_eq_true rfl, Nat.le_of_ble_eq_true rfl⟩ (Nat.le_of_ble_eq_true rfl) (ce := 0) (sl := 0) rfl rfl ⟨Nat.le_of_ble_eq_true rfl, Nat.le_of_ble_eq_true rfl⟩ dX9_advance_64 (fun r_4 u_5 hu_5 H locs hw => ?_)
  have hw : Wd dC dI A [(tk, .inr (7, [.ref tp, .int 0, .int 1, .int 257, .int 0, .long 0, .int 0, .long 0]))] [] s H locs := hw
  obtain rfl := hu_5
  refine lv_istore_n (lv' := [(2, .int (-1)), (1, .int 0), (0, .ref tk)]) hf.1 hf.2.1 dX9_advance_67 rfl hl (by decide) rfl (fun ls hl => ?_)
  refine lv_iload_n hf.1 hf.2.1 dX9_advance_68 rfl (lv_at hl 0 rfl) ?_
  refine lv_iconst (v := (-1)) hf.1 hf.2.1 dX9_advance_69 (by decide) ?_
  refine lv_icmp_ne (tgt := 91) hf.1 hf.2.1 dX9_advance_70 (by decide) (fun c_6 => absurd (by decide) c_6) (fun c_6 => ?_)
  refine lv_aload_n hf.1 hf.2.1 dX9_advance_73 rfl (lv_at hl 2 rfl) ?_
  refine lv_sipush (v := 257) hf.1 hf.2.1 dX9_advance_74 (by decide) ?_
  refine mput hf hw iX9 tyX9 tyX9_ok nmX9 0 rfl rfl 3 (by decide) k389 rfl rfl rfl (Nat.le_of_ble_eq_true rfl) (ws' := [(tk, .inr (7, [.ref tp, .int 0, .int 1, .int 257, .int 0, .long 0, .int 0, .long 0]))]) rfl dX9_advance_77 (fun H locs hw => ?_)
  refine lv_aload_n hf.1 hf.2.1 dX9_advance_80 rfl (lv_at hl 2 rfl) ?_
  refine lv_aload_n hf.1 hf.2.1 dX9_advance_81 rfl (lv_at hl 2 rfl) ?_
  refine mget hf hw iX9 0 rfl rfl 1 (by decide) k387 rfl dX9_advance_82 ?_
  refine mput hf hw iX9 tyX9 tyX9_ok nmX9 0 rfl rfl 2 (by decide) k388 rfl rfl rfl (Nat.le_of_ble_eq_true rfl) (ws' := [(tk, .inr (7, [.ref tp, .int 0, .int 0, .int 257, .int 0, .long 0, .int 0, .long 0]))]) rfl dX9_advance_85 (fun H locs hw => ?_)
  refine lv_goto (tgt := 124) hf.1 hf.2.1 dX9_advance_88 (by decide) ?_
  exact mret_v hf hr hlk hw () trivial [0] [] rfl rfl rfl (Nat.le_of_ble_eq_true rfl) (Nat.le_of_ble_eq_true rfl) dX9_advance_124

set_option maxHeartbeats 4000000 in
set_option maxRecDepth 100000 in
theorem b_goTo (l : Launch) (dC : Nat → ClassId) (dI : Nat → Nat → Nat) (tk tp : Nat) (nx ty pl : Int32) (sz : Nat) : Met l yX9_goTo (wsOf yX9_goTo cX9_goTo 2 none) ({ frames := 14, cells := 0, slots := 0, locals := 210 } : Room) (va_Pc [.ref tk, .int 0] (PB dC dI sz [(tk, .inr (7, [.ref tp, .int 0, .int nx, .int ty, .int pl, .long 0, .int 0, .long 0]))] [])) (va_Qv (S := Unit) (fun _ => True) (fun x t => PW dC dI (va_A [(tk, .inr (7, [.ref tp, .int 0, .int nx, .int ty, .int pl, .long 0, .int 0, .long 0]))] sz) ([(tk, .inr (7, [.ref tp, .int 0, .int 0, .int 257, .int 0, .long 0, .int 0, .long 0]))]) ([]) t) (va_A [(tk, .inr (7, [.ref tp, .int 0, .int nx, .int ty, .int pl, .long 0, .int 0, .long 0]))] sz)) 0 0 (va_A [(tk, .inr (7, [.ref tp, .int 0, .int nx, .int ty, .int pl, .long 0, .int 0, .long 0]))] sz) := by
  refine mbody (y := yX9_goTo) (av := [.ref tk, .int 0]) (b := cX9_goTo) (n := 2) (ret := none) (Qc := fun A => (va_Qv (S := Unit) (fun _ => True) (fun x t => PW dC dI A ([(tk, .inr (7, [.ref tp, .int 0, .int 0, .int 257, .int 0, .long 0, .int 0, .long 0]))]) ([]) t) A)) (by decide) (Nat.le_of_ble_eq_true rfl) ?_
  intro p e s m below meth c ls A H hf hr hin hlk hw hl
  have hl : lv_has ls 2 [(0, .ref tk), (1, .int 0)] := hl
  refine lv_aload_n hf.1 hf.2.1 dX9_goTo_0 rfl (lv_at hl 0 rfl) ?_
  refine lv_iload_n hf.1 hf.2.1 dX9_goTo_1 rfl (lv_at hl 1 rfl) ?_
  refine mput hf hw iX9 tyX9 tyX9_ok nmX9 0 rfl rfl 2 (by decide) k388 rfl rfl rfl (Nat.le_of_ble_eq_true rfl) (ws' := [(tk, .inr (7, [.ref tp, .int 0, .int 0, .int ty, .int pl, .long 0, .int 0, .long 0]))]) rfl dX9_goTo_2 (fun H locs hw => ?_)
  refine lv_aload_n hf.1 hf.2.1 dX9_goTo_5 rfl (lv_at hl 0 rfl) ?_
  refine lv_sipush (v := 257) hf.1 hf.2.1 dX9_goTo_6 (by decide) ?_
  refine mput hf hw iX9 tyX9 tyX9_ok nmX9 0 rfl rfl 3 (by decide) k389 rfl rfl rfl (Nat.le_of_ble_eq_true rfl) (ws' := [(tk, .inr (7, [.ref tp, .int 0, .int 0, .int 257, .int pl, .long 0, .int 0, .long 0]))]) rfl dX9_goTo_9 (fun H locs hw => ?_)
  refine lv_aload_n hf.1 hf.2.1 dX9_goTo_12 rfl (lv_at hl 0 rfl) ?_
  refine mV_v (As := []) (rest := []) (wr := []) (tr := []) hf hw (b_advance l dC dI tk tp pl H.size) ka_X9_advance kv_X9_advance 0 rfl rfl k762 [0] [] [] [] rfl rfl rfl rfl rfl (by decide) rfl rfl rfl hl.1 rfl rfl ⟨Nat.le_of_ble_eq_true rfl, Nat.le_of_ble_eq_true rfl⟩ (Nat.le_of_ble_eq_true rfl) (ce := 0) (sl := 0) rfl rfl ⟨Nat.le_of_ble_eq_true rfl, Nat.le_of_ble_eq_true rfl⟩ dX9_goTo_13 (fun u_2 hu_2 H locs hw => ?_)
  have hw : Wd dC dI A [(tk, .inr (7, [.ref tp, .int 0, .int 0, .int 257, .int 0, .long 0, .int 0, .long 0]))] [] s H locs := hw
  exact mret_v hf hr hlk hw () trivial [0] [] rfl rfl rfl (Nat.le_of_ble_eq_true rfl) (Nat.le_of_ble_eq_true rfl) dX9_goTo_16

set_option maxHeartbeats 4000000 in
set_option maxRecDepth 100000 in
theorem b_begin (l : Launch) (dC : Nat → ClassId) (dI : Nat → Nat → Nat) (tk tp ut : Nat) (ct : ClassId) (f : Nat → Int32) (sz : Nat) : Met l yX9_begin (wsOf yX9_begin cX9_begin 3 none) ({ frames := 18, cells := 0, slots := 0, locals := 270 } : Room) (va_Pc [.ref tk, .ref tp, .int 0] (PB dC dI sz [(tk, .inr (7, [.ref ut, .int 0, .int 0, .int 257, .int 0, .long 0, .int 0, .long 0])), (tp, .inl (ct, 3000, .inl f))] [(ct, .byte)])) (va_Qv (S := Unit) (fun _ => True) (fun x t => PW dC dI (va_A [(tk, .inr (7, [.ref ut, .int 0, .int 0, .int 257, .int 0, .long 0, .int 0, .long 0])), (tp, .inl (ct, 3000, .inl f))] sz) ([(tk, .inr (7, [.ref tp, .int 0, .int 0, .int 257, .int 0, .long 0, .int 0, .long 0]))]) ([]) t) (va_A [(tk, .inr (7, [.ref ut, .int 0, .int 0, .int 257, .int 0, .long 0, .int 0, .long 0])), (tp, .inl (ct, 3000, .inl f))] sz)) 0 0 (va_A [(tk, .inr (7, [.ref ut, .int 0, .int 0, .int 257, .int 0, .long 0, .int 0, .long 0])), (tp, .inl (ct, 3000, .inl f))] sz) := by
  refine mbody (y := yX9_begin) (av := [.ref tk, .ref tp, .int 0]) (b := cX9_begin) (n := 3) (ret := none) (Qc := fun A => (va_Qv (S := Unit) (fun _ => True) (fun x t => PW dC dI A ([(tk, .inr (7, [.ref tp, .int 0, .int 0, .int 257, .int 0, .long 0, .int 0, .long 0]))]) ([]) t) A)) (by decide) (Nat.le_of_ble_eq_true rfl) ?_
  intro p e s m below meth c ls A H hf hr hin hlk hw hl
  have hl : lv_has ls 3 [(0, .ref tk), (1, .ref tp), (2, .int 0)] := hl
  refine lv_aload_n hf.1 hf.2.1 dX9_begin_0 rfl (lv_at hl 0 rfl) ?_
  refine lv_aload_n hf.1 hf.2.1 dX9_begin_1 rfl (lv_at hl 1 rfl) ?_
  refine mput hf hw iX9 tyX9 tyX9_ok nmX9 0 rfl rfl 0 (by decide) k386 rfl rfl rfl (Nat.le_of_ble_eq_true rfl) (ws' := [(tk, .inr (7, [.ref tp, .int 0, .int 0, .int 257, .int 0, .long 0, .int 0, .long 0])), (tp, .inl (ct, 3000, .inl f))]) rfl dX9_begin_2 (fun H locs hw => ?_)
  refine lv_aload_n hf.1 hf.2.1 dX9_begin_5 rfl (lv_at hl 0 rfl) ?_
  refine lv_iload_n hf.1 hf.2.1 dX9_begin_6 rfl (lv_at hl 2 rfl) ?_
  refine lv_aload_n hf.1 hf.2.1 dX9_begin_7 rfl (lv_at hl 1 rfl) ?_
  refine malen hf hw 1 0 rfl rfl (v := 3000) rfl dX9_begin_8 ?_
  refine va_mmin hf.1 hf.2.1 (by rw [hf.2.2.1]; exact hl.1.symm) hf.2.2.2.1 (hf.2.2.2.2.1 _ k755) (hf.2.2.2.2.1 _ k756) (hf.2.2.2.2.1 _ k198) (hf.2.2.2.2.1 _ k757) (Nat.le_of_ble_eq_true rfl) (Nat.le_of_ble_eq_true rfl) (Nat.le_of_ble_eq_true rfl) (Nat.le_of_ble_eq_true rfl) dX9_begin_9 ?_
  refine lv_topi (fun x_1 ex_1 => ?_)
  obtain rfl : x_1 = 0 := by rw [ex_1]; decide
  refine mput hf hw iX9 tyX9 tyX9_ok nmX9 0 rfl rfl 1 (by decide) k387 rfl rfl rfl (Nat.le_of_ble_eq_true rfl) (ws' := [(tk, .inr (7, [.ref tp, .int 0, .int 0, .int 257, .int 0, .long 0, .int 0, .long 0])), (tp, .inl (ct, 3000, .inl f))]) rfl dX9_begin_12 (fun H locs hw => ?_)
  refine lv_aload_n hf.1 hf.2.1 dX9_begin_15 rfl (lv_at hl 0 rfl) ?_
  refine lv_iconst (v := 0) hf.1 hf.2.1 dX9_begin_16 (by decide) ?_
  refine mV_v (As := [.int 0]) (rest := []) (wr := [(tp, .inl (ct, 3000, .inl f))]) (tr := [(ct, .byte)]) hf hw (b_goTo l dC dI tk tp 0 257 0 H.size) ka_X9_goTo kv_X9_goTo 0 rfl rfl k758 [0] [] [1] [0] rfl rfl rfl rfl rfl (by decide) rfl rfl rfl hl.1 rfl rfl ⟨Nat.le_of_ble_eq_true rfl, Nat.le_of_ble_eq_true rfl⟩ (Nat.le_of_ble_eq_true rfl) (ce := 0) (sl := 0) rfl rfl ⟨Nat.le_of_ble_eq_true rfl, Nat.le_of_ble_eq_true rfl⟩ dX9_begin_17 (fun u_3 hu_3 H locs hw => ?_)
  have hw : Wd dC dI A [(tp, .inl (ct, 3000, .inl f)), (tk, .inr (7, [.ref tp, .int 0, .int 0, .int 257, .int 0, .long 0, .int 0, .long 0]))] [(ct, .byte)] s H locs := hw
  exact mret_v hf hr hlk hw () trivial [1] [] rfl rfl rfl (Nat.le_of_ble_eq_true rfl) (Nat.le_of_ble_eq_true rfl) dX9_begin_20

set_option maxHeartbeats 4000000 in
set_option maxRecDepth 100000 in
theorem b_partOfName (l : Launch) (dC : Nat → ClassId) (dI : Nat → Nat → Nat) (sp k it en n : Nat) (tlP : List Value) (v : Int64) (sz : Nat) : Met l yX5_partOfName (wsOf yX5_partOfName cX5_partOfName 4 (some .int)) ({ frames := 6, cells := 0, slots := 0, locals := 90 } : Room) (va_Pc [.ref sp, .long v] (PB dC dI sz [(sp, .inr (4, .ref k :: .int 0 :: .int (-1) :: .ref it :: .ref en :: .int (nI n) :: .int 0 :: tlP))] [])) (va_Qi (S := Unit) (fun r _ => r = -1) (fun x t => PW dC dI (va_A [(sp, .inr (4, .ref k :: .int 0 :: .int (-1) :: .ref it :: .ref en :: .int (nI n) :: .int 0 :: tlP))] sz) ([(sp, .inr (4, .ref k :: .int 0 :: .int (-1) :: .ref it :: .ref en :: .int (nI n) :: .int 0 :: tlP))]) ([]) t) (va_A [(sp, .inr (4, .ref k :: .int 0 :: .int (-1) :: .ref it :: .ref en :: .int (nI n) :: .int 0 :: tlP))] sz)) 0 0 (va_A [(sp, .inr (4, .ref k :: .int 0 :: .int (-1) :: .ref it :: .ref en :: .int (nI n) :: .int 0 :: tlP))] sz) := by
  refine mbody (y := yX5_partOfName) (av := [.ref sp, .long v]) (b := cX5_partOfName) (n := 4) (ret := (some .int)) (Qc := fun A => (va_Qi (S := Unit) (fun r _ => r = -1) (fun x t => PW dC dI A ([(sp, .inr (4, .ref k :: .int 0 :: .int (-1) :: .ref it :: .ref en :: .int (nI n) :: .int 0 :: tlP))]) ([]) t) A)) (by decide) (Nat.le_of_ble_eq_true rfl) ?_
  intro p e s m below meth c ls A H hf hr hin hlk hw hl
  have hl : lv_has ls 4 [(0, .ref sp), (1, .long v)] := hl
  refine lv_iconst (v := 0) hf.1 hf.2.1 dX5_partOfName_0 (by decide) ?_
  refine lv_istore_n (lv' := [(3, .int 0), (0, .ref sp), (1, .long v)]) hf.1 hf.2.1 dX5_partOfName_1 rfl hl (by decide) rfl (fun ls hl => ?_)
  refine lv_iload_n hf.1 hf.2.1 dX5_partOfName_2 rfl (lv_at hl 0 rfl) ?_
  refine lv_aload_n hf.1 hf.2.1 dX5_partOfName_3 rfl (lv_at hl 1 rfl) ?_
  refine mget hf hw iX5 0 rfl rfl 1 (by decide) k284 rfl dX5_partOfName_4 ?_
  refine lv_icmp_ge (tgt := 29) hf.1 hf.2.1 dX5_partOfName_7 (by decide) (fun c_1 => ?_) (fun c_1 => absurd (by decide) c_1)
  refine lv_iconst (v := (-1)) hf.1 hf.2.1 dX5_partOfName_29 (by decide) ?_
  exact mret_i (v := (-1)) hf hr hlk hw () rfl [0] [] rfl rfl rfl (Nat.le_of_ble_eq_true rfl) (Nat.le_of_ble_eq_true rfl) dX5_partOfName_30

set_option maxHeartbeats 4000000 in
set_option maxRecDepth 100000 in
theorem b_paramsOf (l : Launch) (dC : Nat → ClassId) (dI : Nat → Nat → Nat) (sp k it en n : Nat) (tlP : List Value) (sz : Nat) : Met l yX5_paramsOf (wsOf yX5_paramsOf cX5_paramsOf 2 (some .int)) ({ frames := 6, cells := 0, slots := 0, locals := 90 } : Room) (va_Pc [.ref sp, .int (-1)] (PB dC dI sz [(sp, .inr (4, .ref k :: .int 0 :: .int (-1) :: .ref it :: .ref en :: .int (nI n) :: .int 0 :: tlP))] [])) (va_Qi (S := Unit) (fun r _ => r = -1) (fun x t => PW dC dI (va_A [(sp, .inr (4, .ref k :: .int 0 :: .int (-1) :: .ref it :: .ref en :: .int (nI n) :: .int 0 :: tlP))] sz) ([(sp, .inr (4, .ref k :: .int 0 :: .int (-1) :: .ref it :: .ref en :: .int (nI n) :: .int 0 :: tlP))]) ([]) t) (va_A [(sp, .inr (4, .ref k :: .int 0 :: .int (-1) :: .ref it :: .ref en :: .int (nI n) :: .int 0 :: tlP))] sz)) 0 0 (va_A [(sp, .inr (4, .ref k :: .int 0 :: .int (-1) :: .ref it :: .ref en :: .int (nI n) :: .int 0 :: tlP))] sz) := by
  refine mbody (y := yX5_paramsOf) (av := [.ref sp, .int (-1)]) (b := cX5_paramsOf) (n := 2) (ret := (some .int)) (Qc := fun A => (va_Qi (S := Unit) (fun r _ => r = -1) (fun x t => PW dC dI A ([(sp, .inr (4, .ref k :: .int 0 :: .int (-1) :: .ref it :: .ref en :: .int (nI n) :: .int 0 :: tlP))]) ([]) t) A)) (by decide) (Nat.le_of_ble_eq_true rfl) ?_
  intro p e s m below meth c ls A H hf hr hin hlk hw hl
  have hl : lv_has ls 2 [(0, .ref sp), (1, .int (-1))] := hl
  refine lv_iload_n hf.1 hf.2.1 dX5_paramsOf_0 rfl (lv_at hl 1 rfl) ?_
  refine lv_if_lt (tgt := 21) hf.1 hf.2.1 dX5_paramsOf_1 (by decide) (fun c_1 => ?_) (fun c_1 => absurd (by decide) c_1)
  refine lv_iconst (v := (-1)) hf.1 hf.2.1 dX5_paramsOf_21 (by decide) ?_
  exact mret_i (v := (-1)) hf hr hlk hw () rfl [0] [] rfl rfl rfl (Nat.le_of_ble_eq_true rfl) (Nat.le_of_ble_eq_true rfl) dX5_paramsOf_22

set_option maxHeartbeats 4000000 in
set_option maxRecDepth 100000 in
theorem b_refuseAt (l : Launch) (dC : Nat → ClassId) (dI : Nat → Nat → Nat) (rd tk sp : Nat) (tlR : List Value) (sz : Nat) (htlR : tlR.length = 7) : Met l yX6_refuseAt (wsOf yX6_refuseAt cX6_refuseAt 3 none) ({ frames := 6, cells := 0, slots := 0, locals := 90 } : Room) (va_Pc [.ref rd, .int 7, .int 0] (PB dC dI sz [(rd, .inr (5, .ref tk :: .ref sp :: .int 0 :: .int 0 :: .int (-1) :: .int 0 :: .int 0 :: tlR))] [])) (va_Qv (S := Unit) (fun _ => True) (fun x t => PW dC dI (va_A [(rd, .inr (5, .ref tk :: .ref sp :: .int 0 :: .int 0 :: .int (-1) :: .int 0 :: .int 0 :: tlR))] sz) ([(rd, .inr (5, .ref tk :: .ref sp :: .int 0 :: .int 7 :: .int 0 :: .int 0 :: .int 0 :: tlR))]) ([]) t) (va_A [(rd, .inr (5, .ref tk :: .ref sp :: .int 0 :: .int 0 :: .int (-1) :: .int 0 :: .int 0 :: tlR))] sz)) 0 0 (va_A [(rd, .inr (5, .ref tk :: .ref sp :: .int 0 :: .int 0 :: .int (-1) :: .int 0 :: .int 0 :: tlR))] sz) := by
  refine mbody (y := yX6_refuseAt) (av := [.ref rd, .int 7, .int 0]) (b := cX6_refuseAt) (n := 3) (ret := none) (Qc := fun A => (va_Qv (S := Unit) (fun _ => True) (fun x t => PW dC dI A ([(rd, .inr (5, .ref tk :: .ref sp :: .int 0 :: .int 7 :: .int 0 :: .int 0 :: .int 0 :: tlR))]) ([]) t) A)) (by decide) (Nat.le_of_ble_eq_true rfl) ?_
  intro p e s m below meth c ls A H hf hr hin hlk hw hl
  have hl : lv_has ls 3 [(0, .ref rd), (1, .int 7), (2, .int 0)] := hl
  refine lv_aload_n hf.1 hf.2.1 dX6_refuseAt_0 rfl (lv_at hl 0 rfl) ?_
  refine mget hf hw iX6 0 rfl rfl 3 (by decide) k419 rfl dX6_refuseAt_1 ?_
  refine lv_if_ne (tgt := 17) hf.1 hf.2.1 dX6_refuseAt_4 (by decide) (fun c_1 => absurd (by decide) c_1) (fun c_1 => ?_)
  refine lv_aload_n hf.1 hf.2.1 dX6_refuseAt_7 rfl (lv_at hl 0 rfl) ?_
  refine lv_iload_n hf.1 hf.2.1 dX6_refuseAt_8 rfl (lv_at hl 1 rfl) ?_
  refine mput hf hw iX6 tyX6 tyX6_ok nmX6 0 rfl rfl 3 (by decide) k419 rfl rfl rfl (lt_app (K := [.ref tk, .ref sp, .int 0, .int 7, .int (-1), .int 0, .int 0]) htlR (Nat.le_of_ble_eq_true rfl)) (ws' := [(rd, .inr (5, .ref tk :: .ref sp :: .int 0 :: .int 7 :: .int (-1) :: .int 0 :: .int 0 :: tlR))]) rfl dX6_refuseAt_9 (fun H locs hw => ?_)
  refine lv_aload_n hf.1 hf.2.1 dX6_refuseAt_12 rfl (lv_at hl 0 rfl) ?_
  refine lv_iload_n hf.1 hf.2.1 dX6_refuseAt_13 rfl (lv_at hl 2 rfl) ?_
  refine mput hf hw iX6 tyX6 tyX6_ok nmX6 0 rfl rfl 4 (by decide) k421 rfl rfl rfl (lt_app (K := [.ref tk, .ref sp, .int 0, .int 7, .int 0, .int 0, .int 0]) htlR (Nat.le_of_ble_eq_true rfl)) (ws' := [(rd, .inr (5, .ref tk :: .ref sp :: .int 0 :: .int 7 :: .int 0 :: .int 0 :: .int 0 :: tlR))]) rfl dX6_refuseAt_14 (fun H locs hw => ?_)
  exact mret_v hf hr hlk hw () trivial [0] [] rfl rfl rfl (Nat.le_of_ble_eq_true rfl) (Nat.le_of_ble_eq_true rfl) dX6_refuseAt_17

set_option maxHeartbeats 4000000 in
set_option maxRecDepth 100000 in
theorem b_resolve (l : Launch) (dC : Nat → ClassId) (dI : Nat → Nat → Nat) (rd tk : Nat) (tlR : List Value) (sp k it en n : Nat) (tlP : List Value) (sz : Nat) (htlR : tlR.length = 7) (htlP : tlP.length = 10) : Met l yX6_resolve (wsOf yX6_resolve cX6_resolve 4 none) ({ frames := 10, cells := 0, slots := 0, locals := 150 } : Room) (va_Pc [.ref rd, .int 0] (PB dC dI sz [(rd, .inr (5, .ref tk :: .ref sp :: .int 0 :: .int 0 :: .int (-1) :: .int 0 :: .int 0 :: tlR)), (sp, .inr (4, .ref k :: .int 0 :: .int (-1) :: .ref it :: .ref en :: .int (nI n) :: .int 0 :: tlP))] [])) (va_Qv (S := Unit) (fun _ => True) (fun x t => PW dC dI (va_A [(rd, .inr (5, .ref tk :: .ref sp :: .int 0 :: .int 0 :: .int (-1) :: .int 0 :: .int 0 :: tlR)), (sp, .inr (4, .ref k :: .int 0 :: .int (-1) :: .ref it :: .ref en :: .int (nI n) :: .int 0 :: tlP))] sz) ([(rd, .inr (5, .ref tk :: .ref sp :: .int 0 :: .int 7 :: .int 0 :: .int 0 :: .int 0 :: tlR))]) ([]) t) (va_A [(rd, .inr (5, .ref tk :: .ref sp :: .int 0 :: .int 0 :: .int (-1) :: .int 0 :: .int 0 :: tlR)), (sp, .inr (4, .ref k :: .int 0 :: .int (-1) :: .ref it :: .ref en :: .int (nI n) :: .int 0 :: tlP))] sz)) 0 0 (va_A [(rd, .inr (5, .ref tk :: .ref sp :: .int 0 :: .int 0 :: .int (-1) :: .int 0 :: .int 0 :: tlR)), (sp, .inr (4, .ref k :: .int 0 :: .int (-1) :: .ref it :: .ref en :: .int (nI n) :: .int 0 :: tlP))] sz) := by
  refine mbody (y := yX6_resolve) (av := [.ref rd, .int 0]) (b := cX6_resolve) (n := 4) (ret := none) (Qc := fun A => (va_Qv (S := Unit) (fun _ => True) (fun x t => PW dC dI A ([(rd, .inr (5, .ref tk :: .ref sp :: .int 0 :: .int 7 :: .int 0 :: .int 0 :: .int 0 :: tlR))]) ([]) t) A)) (by decide) (Nat.le_of_ble_eq_true rfl) ?_
  intro p e s m below meth c ls A H hf hr hin hlk hw hl
  have hl : lv_has ls 4 [(0, .ref rd), (1, .int 0)] := hl
  refine lv_iconst (v := 0) hf.1 hf.2.1 dX6_resolve_0 (by decide) ?_
  refine lv_istore_n (lv' := [(2, .int 0), (0, .ref rd), (1, .int 0)]) hf.1 hf.2.1 dX6_resolve_1 rfl hl (by decide) rfl (fun ls hl => ?_)
  refine lv_iload_n hf.1 hf.2.1 dX6_resolve_2 rfl (lv_at hl 0 rfl) ?_
  refine lv_aload_n hf.1 hf.2.1 dX6_resolve_3 rfl (lv_at hl 1 rfl) ?_
  refine mget hf hw iX6 0 rfl rfl 1 (by decide) k417 rfl dX6_resolve_4 ?_
  refine mget hf hw iX5 1 rfl rfl 1 (by decide) k286 rfl dX6_resolve_7 ?_
  refine lv_icmp_ge (tgt := 93) hf.1 hf.2.1 dX6_resolve_10 (by decide) (fun c_1 => ?_) (fun c_1 => absurd (by decide) c_1)
  refine lv_aload_n hf.1 hf.2.1 dX6_resolve_93 rfl (lv_at hl 1 rfl) ?_
  refine mget hf hw iX6 0 rfl rfl 1 (by decide) k417 rfl dX6_resolve_94 ?_
  refine lv_aload_n hf.1 hf.2.1 dX6_resolve_97 rfl (lv_at hl 1 rfl) ?_
  refine mget hf hw iX6 0 rfl rfl 1 (by decide) k417 rfl dX6_resolve_98 ?_
  refine lv_ldc2 (v := 1835100526) hf.1 hf.2.1 hf.2.2.2.1 (hf.2.2.2.2.1 _ k975) dX6_resolve_101 ?_
  refine mV_i (As := [.long 1835100526]) (rest := [.ref sp]) (wr := [(rd, .inr (5, .ref tk :: .ref sp :: .int 0 :: .int 0 :: .int (-1) :: .int 0 :: .int 0 :: tlR))]) (tr := []) hf hw (b_partOfName l dC dI sp k it en n tlP 1835100526 H.size) ka_X5_partOfName kv_X5_partOfName 1 rfl rfl k966 [1] [] [0] [] rfl rfl rfl rfl rfl (by decide) rfl rfl rfl hl.1 rfl rfl ⟨Nat.le_of_ble_eq_true rfl, Nat.le_of_ble_eq_true rfl⟩ (Nat.le_of_ble_eq_true rfl) (ce := 0) (sl := 0) rfl rfl ⟨Nat.le_of_ble_eq_true rfl, Nat.le_of_ble_eq_true rfl⟩ dX6_resolve_104 (fun r_2 u_3 hu_3 H locs hw => ?_)
  have hw : Wd dC dI A [(rd, .inr (5, .ref tk :: .ref sp :: .int 0 :: .int 0 :: .int (-1) :: .int 0 :: .int 0 :: tlR)), (sp, .inr (4, .ref k :: .int 0 :: .int (-1) :: .ref it :: .ref en :: .int (nI n) :: .int 0 :: tlP))] [] s H locs := hw
  obtain rfl := hu_3
  refine mput hf hw iX5 tyX5 tyX5_ok nmX5 1 rfl rfl 2 (by decide) k291 rfl rfl rfl (lt_app (K := [.ref k, .int 0, .int (-1), .ref it, .ref en, .int (nI n), .int 0]) htlP (Nat.le_of_ble_eq_true rfl)) (ws' := [(rd, .inr (5, .ref tk :: .ref sp :: .int 0 :: .int 0 :: .int (-1) :: .int 0 :: .int 0 :: tlR)), (sp, .inr (4, .ref k :: .int 0 :: .int (-1) :: .ref it :: .ref en :: .int (nI n) :: .int 0 :: tlP))]) rfl dX6_resolve_107 (fun H locs hw => ?_)
  refine lv_aload_n hf.1 hf.2.1 dX6_resolve_110 rfl (lv_at hl 1 rfl) ?_
  refine mget hf hw iX6 0 rfl rfl 1 (by decide) k417 rfl dX6_resolve_111 ?_
  refine lv_aload_n hf.1 hf.2.1 dX6_resolve_114 rfl (lv_at hl 1 rfl) ?_
  refine mget hf hw iX6 0 rfl rfl 1 (by decide) k417 rfl dX6_resolve_115 ?_
  refine mget hf hw iX5 1 rfl rfl 2 (by decide) k291 rfl dX6_resolve_118 ?_
  refine mV_i (As := [.int (-1)]) (rest := []) (wr := [(rd, .inr (5, .ref tk :: .ref sp :: .int 0 :: .int 0 :: .int (-1) :: .int 0 :: .int 0 :: tlR))]) (tr := []) hf hw (b_paramsOf l dC dI sp k it en n tlP H.size) ka_X5_paramsOf kv_X5_paramsOf 1 rfl rfl k976 [1] [] [0] [] rfl rfl rfl rfl rfl (by decide) rfl rfl rfl hl.1 rfl rfl ⟨Nat.le_of_ble_eq_true rfl, Nat.le_of_ble_eq_true rfl⟩ (Nat.le_of_ble_eq_true rfl) (ce := 0) (sl := 0) rfl rfl ⟨Nat.le_of_ble_eq_true rfl, Nat.le_of_ble_eq_true rfl⟩ dX6_resolve_121 (fun r_4 u_5 hu_5 H locs hw => ?_)
  have hw : Wd dC dI A [(rd, .inr (5, .ref tk :: .ref sp :: .int 0 :: .int 0 :: .int (-1) :: .int 0 :: .int 0 :: tlR)), (sp, .inr (4, .ref k :: .int 0 :: .int (-1) :: .ref it :: .ref en :: .int (nI n) :: .int 0 :: tlP))] [] s H locs := hw
  obtain rfl := hu_5
  refine lv_if_eq (tgt := 134) hf.1 hf.2.1 dX6_resolve_124 (by decide) (fun c_6 => absurd c_6 (by decide)) (fun c_6 => ?_)
  refine lv_aload_n hf.1 hf.2.1 dX6_resolve_127 rfl (lv_at hl 1 rfl) ?_
  refine lv_bipush (v := 7) hf.1 hf.2.1 dX6_resolve_128 (by decide) ?_
  refine lv_iload_n hf.1 hf.2.1 dX6_resolve_130 rfl (lv_at hl 2 rfl) ?_
  refine mV_v (As := [.int 7, .int 0]) (rest := []) (wr := [(sp, .inr (4, .ref k :: .int 0 :: .int (-1) :: .ref it :: .ref en :: .int (nI n) :: .int 0 :: tlP))]) (tr := []) hf hw (b_refuseAt l dC dI rd tk sp tlR H.size htlR) ka_X6_refuseAt kv_X6_refuseAt 0 rfl rfl k804 [0] [] [1] [] rfl rfl rfl rfl rfl (by decide) rfl rfl rfl hl.1 rfl rfl ⟨Nat.le_of_ble_eq_true rfl, Nat.le_of_ble_eq_true rfl⟩ (Nat.le_of_ble_eq_true rfl) (ce := 0) (sl := 0) rfl rfl ⟨Nat.le_of_ble_eq_true rfl, Nat.le_of_ble_eq_true rfl⟩ dX6_resolve_131 (fun u_8 hu_8 H locs hw => ?_)
  have hw : Wd dC dI A [(sp, .inr (4, .ref k :: .int 0 :: .int (-1) :: .ref it :: .ref en :: .int (nI n) :: .int 0 :: tlP)), (rd, .inr (5, .ref tk :: .ref sp :: .int 0 :: .int 7 :: .int 0 :: .int 0 :: .int 0 :: tlR))] [] s H locs := hw
  exact mret_v hf hr hlk hw () trivial [1] [] rfl rfl rfl (Nat.le_of_ble_eq_true rfl) (Nat.le_of_ble_eq_true rfl) dX6_resolve_134

set_option maxHeartbeats 4000000 in
set_option maxRecDepth 100000 in
theorem b_readInto (l : Launch) (dC : Nat → ClassId) (dI : Nat → Nat → Nat) (rd tk ut tp : Nat) (tlR : List Value) (sp k it en n : Nat) (tkK tlP : List Value) (ct ci ce : ClassId) (f fi fe : Nat → Int32) (sz : Nat) (hn : n ≤ 9) (htk : tkK.length = 7) (htlP : tlP.length = 10) (htlR : tlR.length = 7) : Met l yX6_readInto (wsOf yX6_readInto cX6_readInto 5 none) ({ frames := 22, cells := 0, slots := 0, locals := 330 } : Room) (va_Pc [.ref rd, .ref sp, .ref tp, .int 0] (PB dC dI sz [(rd, .inr (5, .ref tk :: .null :: .int 0 :: .int 0 :: .int (-1) :: .int 0 :: .int 0 :: tlR)), (tk, .inr (7, [.ref ut, .int 0, .int 0, .int 257, .int 0, .long 0, .int 0, .long 0])), (tp, .inl (ct, 3000, .inl f)), (sp, .inr (4, .ref k :: .int 0 :: .int (-1) :: .ref it :: .ref en :: .int 0 :: .int 0 :: tlP)), (k, .inr (3, .int (nI n) :: tkK)), (it, .inl (ci, 40, .inl fi)), (en, .inl (ce, 41, .inl fe))] [(ct, .byte), (ci, .boolean), (ce, .int)])) (va_Qv (S := Unit) (fun _ => True) (fun x t => PW dC dI (va_A [(rd, .inr (5, .ref tk :: .null :: .int 0 :: .int 0 :: .int (-1) :: .int 0 :: .int 0 :: tlR)), (tk, .inr (7, [.ref ut, .int 0, .int 0, .int 257, .int 0, .long 0, .int 0, .long 0])), (tp, .inl (ct, 3000, .inl f)), (sp, .inr (4, .ref k :: .int 0 :: .int (-1) :: .ref it :: .ref en :: .int 0 :: .int 0 :: tlP)), (k, .inr (3, .int (nI n) :: tkK)), (it, .inl (ci, 40, .inl fi)), (en, .inl (ce, 41, .inl fe))] sz) ([(rd, .inr (5, .ref tk :: .ref sp :: .int 0 :: .int 7 :: .int 0 :: .int 0 :: .int 0 :: tlR))]) ([]) t) (va_A [(rd, .inr (5, .ref tk :: .null :: .int 0 :: .int 0 :: .int (-1) :: .int 0 :: .int 0 :: tlR)), (tk, .inr (7, [.ref ut, .int 0, .int 0, .int 257, .int 0, .long 0, .int 0, .long 0])), (tp, .inl (ct, 3000, .inl f)), (sp, .inr (4, .ref k :: .int 0 :: .int (-1) :: .ref it :: .ref en :: .int 0 :: .int 0 :: tlP)), (k, .inr (3, .int (nI n) :: tkK)), (it, .inl (ci, 40, .inl fi)), (en, .inl (ce, 41, .inl fe))] sz)) 0 0 (va_A [(rd, .inr (5, .ref tk :: .null :: .int 0 :: .int 0 :: .int (-1) :: .int 0 :: .int 0 :: tlR)), (tk, .inr (7, [.ref ut, .int 0, .int 0, .int 257, .int 0, .long 0, .int 0, .long 0])), (tp, .inl (ct, 3000, .inl f)), (sp, .inr (4, .ref k :: .int 0 :: .int (-1) :: .ref it :: .ref en :: .int 0 :: .int 0 :: tlP)), (k, .inr (3, .int (nI n) :: tkK)), (it, .inl (ci, 40, .inl fi)), (en, .inl (ce, 41, .inl fe))] sz) := by
  refine mbody (y := yX6_readInto) (av := [.ref rd, .ref sp, .ref tp, .int 0]) (b := cX6_readInto) (n := 5) (ret := none) (Qc := fun A => (va_Qv (S := Unit) (fun _ => True) (fun x t => PW dC dI A ([(rd, .inr (5, .ref tk :: .ref sp :: .int 0 :: .int 7 :: .int 0 :: .int 0 :: .int 0 :: tlR))]) ([]) t) A)) (by decide) (Nat.le_of_ble_eq_true rfl) ?_
  intro p e s m below meth c ls A H hf hr hin hlk hw hl
  have hl : lv_has ls 5 [(0, .ref rd), (1, .ref sp), (2, .ref tp), (3, .int 0)] := hl
  refine lv_aload_n hf.1 hf.2.1 dX6_readInto_0 rfl (lv_at hl 1 rfl) ?_
  refine lv_ifnull hf.1 hf.2.1 dX6_readInto_1 ?_
  refine lv_aload_n hf.1 hf.2.1 dX6_readInto_4 rfl (lv_at hl 2 rfl) ?_
  refine lv_ifnonnull (tgt := 9) hf.1 hf.2.1 dX6_readInto_5 (by decide) ?_
  refine lv_aload_n hf.1 hf.2.1 dX6_readInto_9 rfl (lv_at hl 0 rfl) ?_
  refine lv_aload_n hf.1 hf.2.1 dX6_readInto_10 rfl (lv_at hl 1 rfl) ?_
  refine mput hf hw iX6 tyX6 tyX6_ok nmX6 0 rfl rfl 1 (by decide) k417 rfl rfl rfl (lt_app (K := [.ref tk, .ref sp, .int 0, .int 0, .int (-1), .int 0, .int 0]) htlR (Nat.le_of_ble_eq_true rfl)) (ws' := [(rd, .inr (5, .ref tk :: .ref sp :: .int 0 :: .int 0 :: .int (-1) :: .int 0 :: .int 0 :: tlR)), (tk, .inr (7, [.ref ut, .int 0, .int 0, .int 257, .int 0, .long 0, .int 0, .long 0])), (tp, .inl (ct, 3000, .inl f)), (sp, .inr (4, .ref k :: .int 0 :: .int (-1) :: .ref it :: .ref en :: .int 0 :: .int 0 :: tlP)), (k, .inr (3, .int (nI n) :: tkK)), (it, .inl (ci, 40, .inl fi)), (en, .inl (ce, 41, .inl fe))]) rfl dX6_readInto_11 (fun H locs hw => ?_)
  refine lv_aload_n hf.1 hf.2.1 dX6_readInto_14 rfl (lv_at hl 0 rfl) ?_
  refine mget hf hw iX6 0 rfl rfl 1 (by decide) k417 rfl dX6_readInto_15 ?_
  refine mV_v (As := []) (rest := []) (wr := [(rd, .inr (5, .ref tk :: .ref sp :: .int 0 :: .int 0 :: .int (-1) :: .int 0 :: .int 0 :: tlR)), (tk, .inr (7, [.ref ut, .int 0, .int 0, .int 257, .int 0, .long 0, .int 0, .long 0])), (tp, .inl (ct, 3000, .inl f)), (en, .inl (ce, 41, .inl fe))]) (tr := [(ct, .byte), (ce, .int)]) hf hw (b_clear l dC dI sp k it en n tkK tlP ci fi H.size hn htk htlP) ka_X5_clear kv_X5_clear 3 rfl rfl k739 [3, 4, 5] [1] [0, 1, 2, 6] [0, 2] rfl rfl rfl rfl rfl (by decide) rfl rfl rfl hl.1 rfl rfl ⟨Nat.le_of_ble_eq_true rfl, Nat.le_of_ble_eq_true rfl⟩ (Nat.le_of_ble_eq_true rfl) (ce := 0) (sl := 0) rfl rfl ⟨Nat.le_of_ble_eq_true rfl, Nat.le_of_ble_eq_true rfl⟩ dX6_readInto_18 (fun f_1 hu_3 H locs hw => ?_)
  have hw : Wd dC dI A [(rd, .inr (5, .ref tk :: .ref sp :: .int 0 :: .int 0 :: .int (-1) :: .int 0 :: .int 0 :: tlR)), (tk, .inr (7, [.ref ut, .int 0, .int 0, .int 257, .int 0, .long 0, .int 0, .long 0])), (tp, .inl (ct, 3000, .inl f)), (en, .inl (ce, 41, .inl fe)), (sp, .inr (4, .ref k :: .int 0 :: .int (-1) :: .ref it :: .ref en :: .int 0 :: .int 0 :: tlP)), (k, .inr (3, .int (nI n) :: tkK)), (it, .inl (ci, 40, .inl f_1))] [(ct, .byte), (ce, .int), (ci, .boolean)] s H locs := hw
  refine lv_aload_n hf.1 hf.2.1 dX6_readInto_21 rfl (lv_at hl 0 rfl) ?_
  refine lv_iconst (v := 0) hf.1 hf.2.1 dX6_readInto_22 (by decide) ?_
  refine mput hf hw iX6 tyX6 tyX6_ok nmX6 0 rfl rfl 3 (by decide) k419 rfl rfl rfl (lt_app (K := [.ref tk, .ref sp, .int 0, .int 0, .int (-1), .int 0, .int 0]) htlR (Nat.le_of_ble_eq_true rfl)) (ws' := [(rd, .inr (5, .ref tk :: .ref sp :: .int 0 :: .int 0 :: .int (-1) :: .int 0 :: .int 0 :: tlR)), (tk, .inr (7, [.ref ut, .int 0, .int 0, .int 257, .int 0, .long 0, .int 0, .long 0])), (tp, .inl (ct, 3000, .inl f)), (en, .inl (ce, 41, .inl fe)), (sp, .inr (4, .ref k :: .int 0 :: .int (-1) :: .ref it :: .ref en :: .int 0 :: .int 0 :: tlP)), (k, .inr (3, .int (nI n) :: tkK)), (it, .inl (ci, 40, .inl f_1))]) rfl dX6_readInto_23 (fun H locs hw => ?_)
  refine lv_aload_n hf.1 hf.2.1 dX6_readInto_26 rfl (lv_at hl 0 rfl) ?_
  refine lv_iconst (v := (-1)) hf.1 hf.2.1 dX6_readInto_27 (by decide) ?_
  refine mput hf hw iX6 tyX6 tyX6_ok nmX6 0 rfl rfl 4 (by decide) k421 rfl rfl rfl (lt_app (K := [.ref tk, .ref sp, .int 0, .int 0, .int (-1), .int 0, .int 0]) htlR (Nat.le_of_ble_eq_true rfl)) (ws' := [(rd, .inr (5, .ref tk :: .ref sp :: .int 0 :: .int 0 :: .int (-1) :: .int 0 :: .int 0 :: tlR)), (tk, .inr (7, [.ref ut, .int 0, .int 0, .int 257, .int 0, .long 0, .int 0, .long 0])), (tp, .inl (ct, 3000, .inl f)), (en, .inl (ce, 41, .inl fe)), (sp, .inr (4, .ref k :: .int 0 :: .int (-1) :: .ref it :: .ref en :: .int 0 :: .int 0 :: tlP)), (k, .inr (3, .int (nI n) :: tkK)), (it, .inl (ci, 40, .inl f_1))]) rfl dX6_readInto_28 (fun H locs hw => ?_)
  refine lv_aload_n hf.1 hf.2.1 dX6_readInto_31 rfl (lv_at hl 0 rfl) ?_
  refine lv_iconst (v := 0) hf.1 hf.2.1 dX6_readInto_32 (by decide) ?_
  refine mput hf hw iX6 tyX6 tyX6_ok nmX6 0 rfl rfl 2 (by decide) k418 rfl rfl rfl (lt_app (K := [.ref tk, .ref sp, .int 0, .int 0, .int (-1), .int 0, .int 0]) htlR (Nat.le_of_ble_eq_true rfl)) (ws' := [(rd, .inr (5, .ref tk :: .ref sp :: .int 0 :: .int 0 :: .int (-1) :: .int 0 :: .int 0 :: tlR)), (tk, .inr (7, [.ref ut, .int 0, .int 0, .int 257, .int 0, .long 0, .int 0, .long 0])), (tp, .inl (ct, 3000, .inl f)), (en, .inl (ce, 41, .inl fe)), (sp, .inr (4, .ref k :: .int 0 :: .int (-1) :: .ref it :: .ref en :: .int 0 :: .int 0 :: tlP)), (k, .inr (3, .int (nI n) :: tkK)), (it, .inl (ci, 40, .inl f_1))]) rfl dX6_readInto_33 (fun H locs hw => ?_)
  refine lv_aload_n hf.1 hf.2.1 dX6_readInto_36 rfl (lv_at hl 0 rfl) ?_
  refine lv_iconst (v := 0) hf.1 hf.2.1 dX6_readInto_37 (by decide) ?_
  refine mput hf hw iX6 tyX6 tyX6_ok nmX6 0 rfl rfl 5 (by decide) k429 rfl rfl rfl (lt_app (K := [.ref tk, .ref sp, .int 0, .int 0, .int (-1), .int 0, .int 0]) htlR (Nat.le_of_ble_eq_true rfl)) (ws' := [(rd, .inr (5, .ref tk :: .ref sp :: .int 0 :: .int 0 :: .int (-1) :: .int 0 :: .int 0 :: tlR)), (tk, .inr (7, [.ref ut, .int 0, .int 0, .int 257, .int 0, .long 0, .int 0, .long 0])), (tp, .inl (ct, 3000, .inl f)), (en, .inl (ce, 41, .inl fe)), (sp, .inr (4, .ref k :: .int 0 :: .int (-1) :: .ref it :: .ref en :: .int 0 :: .int 0 :: tlP)), (k, .inr (3, .int (nI n) :: tkK)), (it, .inl (ci, 40, .inl f_1))]) rfl dX6_readInto_38 (fun H locs hw => ?_)
  refine lv_aload_n hf.1 hf.2.1 dX6_readInto_41 rfl (lv_at hl 0 rfl) ?_
  refine lv_iconst (v := 0) hf.1 hf.2.1 dX6_readInto_42 (by decide) ?_
  refine mput hf hw iX6 tyX6 tyX6_ok nmX6 0 rfl rfl 6 (by decide) k431 rfl rfl rfl (lt_app (K := [.ref tk, .ref sp, .int 0, .int 0, .int (-1), .int 0, .int 0]) htlR (Nat.le_of_ble_eq_true rfl)) (ws' := [(rd, .inr (5, .ref tk :: .ref sp :: .int 0 :: .int 0 :: .int (-1) :: .int 0 :: .int 0 :: tlR)), (tk, .inr (7, [.ref ut, .int 0, .int 0, .int 257, .int 0, .long 0, .int 0, .long 0])), (tp, .inl (ct, 3000, .inl f)), (en, .inl (ce, 41, .inl fe)), (sp, .inr (4, .ref k :: .int 0 :: .int (-1) :: .ref it :: .ref en :: .int 0 :: .int 0 :: tlP)), (k, .inr (3, .int (nI n) :: tkK)), (it, .inl (ci, 40, .inl f_1))]) rfl dX6_readInto_43 (fun H locs hw => ?_)
  refine lv_aload_n hf.1 hf.2.1 dX6_readInto_46 rfl (lv_at hl 0 rfl) ?_
  refine mget hf hw iX6 0 rfl rfl 0 (by decide) k416 rfl dX6_readInto_47 ?_
  refine lv_aload_n hf.1 hf.2.1 dX6_readInto_50 rfl (lv_at hl 2 rfl) ?_
  refine lv_iload_n hf.1 hf.2.1 dX6_readInto_51 rfl (lv_at hl 3 rfl) ?_
  refine mV_v (As := [.ref tp, .int 0]) (rest := []) (wr := [(rd, .inr (5, .ref tk :: .ref sp :: .int 0 :: .int 0 :: .int (-1) :: .int 0 :: .int 0 :: tlR)), (en, .inl (ce, 41, .inl fe)), (sp, .inr (4, .ref k :: .int 0 :: .int (-1) :: .ref it :: .ref en :: .int 0 :: .int 0 :: tlP)), (k, .inr (3, .int (nI n) :: tkK)), (it, .inl (ci, 40, .inl f_1))]) (tr := [(ce, .int), (ci, .boolean)]) hf hw (b_begin l dC dI tk tp ut ct f H.size) ka_X9_begin kv_X9_begin 1 rfl rfl k751 [1, 2] [0] [0, 3, 4, 5, 6] [1, 2] rfl rfl rfl rfl rfl (by decide) rfl rfl rfl hl.1 rfl rfl ⟨Nat.le_of_ble_eq_true rfl, Nat.le_of_ble_eq_true rfl⟩ (Nat.le_of_ble_eq_true rfl) (ce := 0) (sl := 0) rfl rfl ⟨Nat.le_of_ble_eq_true rfl, Nat.le_of_ble_eq_true rfl⟩ dX6_readInto_52 (fun u_5 hu_5 H locs hw => ?_)
  have hw : Wd dC dI A [(rd, .inr (5, .ref tk :: .ref sp :: .int 0 :: .int 0 :: .int (-1) :: .int 0 :: .int 0 :: tlR)), (en, .inl (ce, 41, .inl fe)), (sp, .inr (4, .ref k :: .int 0 :: .int (-1) :: .ref it :: .ref en :: .int 0 :: .int 0 :: tlP)), (k, .inr (3, .int (nI n) :: tkK)), (it, .inl (ci, 40, .inl f_1)), (tk, .inr (7, [.ref tp, .int 0, .int 0, .int 257, .int 0, .long 0, .int 0, .long 0]))] [(ce, .int), (ci, .boolean)] s H locs := hw
  refine lv_iconst (v := 0) hf.1 hf.2.1 dX6_readInto_55 (by decide) ?_
  refine lv_istore (lv' := [(4, .int 0), (0, .ref rd), (1, .ref sp), (2, .ref tp), (3, .int 0)]) hf.1 hf.2.1 dX6_readInto_56 hl (by decide) rfl (fun ls hl => ?_)
  refine lv_iload hf.1 hf.2.1 dX6_readInto_58 (lv_at hl 0 rfl) ?_
  refine lv_bipush (v := 40) hf.1 hf.2.1 dX6_readInto_60 (by decide) ?_
  refine lv_icmp_gt (tgt := 127) hf.1 hf.2.1 dX6_readInto_62 (by decide) (fun c_6 => absurd c_6 (by decide)) (fun c_6 => ?_)
  refine lv_aload_n hf.1 hf.2.1 dX6_readInto_65 rfl (lv_at hl 1 rfl) ?_
  refine mget hf hw iX6 0 rfl rfl 0 (by decide) k416 rfl dX6_readInto_66 ?_
  refine mget hf hw iX9 5 rfl rfl 3 (by decide) k390 rfl dX6_readInto_69 ?_
  refine lv_sipush (v := 261) hf.1 hf.2.1 dX6_readInto_72 (by decide) ?_
  refine lv_icmp_ne (tgt := 127) hf.1 hf.2.1 dX6_readInto_75 (by decide) (fun c_7 => ?_) (fun c_7 => absurd c_7 (by decide))
  refine lv_aload_n hf.1 hf.2.1 dX6_readInto_127 rfl (lv_at hl 1 rfl) ?_
  refine mget hf hw iX6 0 rfl rfl 0 (by decide) k416 rfl dX6_readInto_128 ?_
  refine mget hf hw iX9 5 rfl rfl 3 (by decide) k390 rfl dX6_readInto_131 ?_
  refine lv_sipush (v := 257) hf.1 hf.2.1 dX6_readInto_134 (by decide) ?_
  refine lv_icmp_eq (tgt := 145) hf.1 hf.2.1 dX6_readInto_137 (by decide) (fun c_8 => ?_) (fun c_8 => absurd (by decide) c_8)
  refine lv_aload_n hf.1 hf.2.1 dX6_readInto_145 rfl (lv_at hl 1 rfl) ?_
  refine mget hf hw iX6 0 rfl rfl 1 (by decide) k417 rfl dX6_readInto_146 ?_
  refine mget hf hw iX5 2 rfl rfl 4 (by decide) k314 rfl dX6_readInto_149 ?_
  refine lv_aload_n hf.1 hf.2.1 dX6_readInto_152 rfl (lv_at hl 1 rfl) ?_
  refine mget hf hw iX6 0 rfl rfl 1 (by decide) k417 rfl dX6_readInto_153 ?_
  refine mget hf hw iX5 2 rfl rfl 1 (by decide) k286 rfl dX6_readInto_156 ?_
  refine lv_aload_n hf.1 hf.2.1 dX6_readInto_159 rfl (lv_at hl 1 rfl) ?_
  refine mget hf hw iX6 0 rfl rfl 1 (by decide) k417 rfl dX6_readInto_160 ?_
  refine mget hf hw iX5 2 rfl rfl 6 (by decide) k337 rfl dX6_readInto_163 ?_
  refine miast hf hw 1 0 rfl rfl (by unfold vp_in; decide) dX6_readInto_166 (fun f_9 ef_9 H locs hw => ?_)
  have hw : Wd dC dI A [(rd, .inr (5, .ref tk :: .ref sp :: .int 0 :: .int 0 :: .int (-1) :: .int 0 :: .int 0 :: tlR)), (en, .inl (ce, 41, .inl f_9)), (sp, .inr (4, .ref k :: .int 0 :: .int (-1) :: .ref it :: .ref en :: .int 0 :: .int 0 :: tlP)), (k, .inr (3, .int (nI n) :: tkK)), (it, .inl (ci, 40, .inl f_1)), (tk, .inr (7, [.ref tp, .int 0, .int 0, .int 257, .int 0, .long 0, .int 0, .long 0]))] [(ce, .int), (ci, .boolean)] s H locs := hw
  refine lv_aload_n hf.1 hf.2.1 dX6_readInto_167 rfl (lv_at hl 1 rfl) ?_
  refine mget hf hw iX6 0 rfl rfl 1 (by decide) k417 rfl dX6_readInto_168 ?_
  refine lv_aload_n hf.1 hf.2.1 dX6_readInto_171 rfl (lv_at hl 1 rfl) ?_
  refine mget hf hw iX6 0 rfl rfl 1 (by decide) k417 rfl dX6_readInto_172 ?_
  refine mget hf hw iX5 2 rfl rfl 0 (by decide) k281 rfl dX6_readInto_175 ?_
  refine mget hf hw iX3 3 rfl rfl 0 (by decide) k258 rfl dX6_readInto_178 ?_
  refine mput hf hw iX5 tyX5 tyX5_ok nmX5 2 rfl rfl 5 (by decide) k319 rfl rfl rfl (lt_app (K := [.ref k, .int 0, .int (-1), .ref it, .ref en, .int (nI n), .int 0]) htlP (Nat.le_of_ble_eq_true rfl)) (ws' := [(rd, .inr (5, .ref tk :: .ref sp :: .int 0 :: .int 0 :: .int (-1) :: .int 0 :: .int 0 :: tlR)), (en, .inl (ce, 41, .inl f_9)), (sp, .inr (4, .ref k :: .int 0 :: .int (-1) :: .ref it :: .ref en :: .int (nI n) :: .int 0 :: tlP)), (k, .inr (3, .int (nI n) :: tkK)), (it, .inl (ci, 40, .inl f_1)), (tk, .inr (7, [.ref tp, .int 0, .int 0, .int 257, .int 0, .long 0, .int 0, .long 0]))]) rfl dX6_readInto_181 (fun H locs hw => ?_)
  refine lv_aload_n hf.1 hf.2.1 dX6_readInto_184 rfl (lv_at hl 1 rfl) ?_
  refine mget hf hw iX6 0 rfl rfl 3 (by decide) k419 rfl dX6_readInto_185 ?_
  refine lv_if_ne (tgt := 196) hf.1 hf.2.1 dX6_readInto_188 (by decide) (fun c_10 => absurd (by decide) c_10) (fun c_10 => ?_)
  refine lv_aload_n hf.1 hf.2.1 dX6_readInto_191 rfl (lv_at hl 1 rfl) ?_
  refine lv_iload_n hf.1 hf.2.1 dX6_readInto_192 rfl (lv_at hl 4 rfl) ?_
  refine mV_v (As := [.int 0]) (rest := []) (wr := [(en, .inl (ce, 41, .inl f_9)), (k, .inr (3, .int (nI n) :: tkK)), (it, .inl (ci, 40, .inl f_1)), (tk, .inr (7, [.ref tp, .int 0, .int 0, .int 257, .int 0, .long 0, .int 0, .long 0]))]) (tr := [(ce, .int), (ci, .boolean)]) hf hw (b_resolve l dC dI rd tk tlR sp k it en n tlP H.size htlR htlP) ka_X6_resolve kv_X6_resolve 0 rfl rfl k962 [0, 2] [] [1, 3, 4, 5] [0, 1] rfl rfl rfl rfl rfl (by decide) rfl rfl rfl hl.1 rfl rfl ⟨Nat.le_of_ble_eq_true rfl, Nat.le_of_ble_eq_true rfl⟩ (Nat.le_of_ble_eq_true rfl) (ce := 0) (sl := 0) rfl rfl ⟨Nat.le_of_ble_eq_true rfl, Nat.le_of_ble_eq_true rfl⟩ dX6_readInto_193 (fun u_12 hu_12 H locs hw => ?_)
  have hw : Wd dC dI A [(en, .inl (ce, 41, .inl f_9)), (k, .inr (3, .int (nI n) :: tkK)), (it, .inl (ci, 40, .inl f_1)), (tk, .inr (7, [.ref tp, .int 0, .int 0, .int 257, .int 0, .long 0, .int 0, .long 0])), (rd, .inr (5, .ref tk :: .ref sp :: .int 0 :: .int 7 :: .int 0 :: .int 0 :: .int 0 :: tlR))] [(ce, .int), (ci, .boolean)] s H locs := hw
  exact mret_v hf hr hlk hw () trivial [4] [] rfl rfl rfl (Nat.le_of_ble_eq_true rfl) (Nat.le_of_ble_eq_true rfl) dX6_readInto_196

set_option maxHeartbeats 4000000 in
set_option maxRecDepth 100000 in
theorem b_read (l : Launch) (dC : Nat → ClassId) (dI : Nat → Nat → Nat) (h0 tp sp k it en n rd tk ut : Nat) (ct ci ce : ClassId) (tkK tlP tlR tl : List Value) (sz : Nat) (hn : n ≤ 9) (htk : tkK.length = 7) (htlP : tlP.length = 10) (htlR : tlR.length = 7) (htl : tl.length = 4) : Met l yX10_read (wsOf yX10_read cX10_read 2 (some .int)) ({ frames := 26, cells := 0, slots := 0, locals := 390 } : Room) (va_Pc [.ref h0] (PB dC dI sz [(h0, .inr (8, .ref tp :: .int 0 :: .ref sp :: .int 0 :: .int 0 :: .int 0 :: .ref rd :: .int (-1) :: .int (-1) :: tl)), (tp, .inl (ct, 3000, .inl (fun _ => 0))), (sp, .inr (4, .ref k :: .int 0 :: .int (-1) :: .ref it :: .ref en :: .int 0 :: .int 0 :: tlP)), (k, .inr (3, .int (nI n) :: tkK)), (it, .inl (ci, 40, .inl (fun _ => 0))), (en, .inl (ce, 41, .inl (fun _ => 0))), (rd, .inr (5, .ref tk :: .null :: .int 0 :: .int 0 :: .int (-1) :: .int 0 :: .int 0 :: tlR)), (tk, .inr (7, [.ref ut, .int 0, .int 0, .int 257, .int 0, .long 0, .int 0, .long 0]))] [(ct, .byte), (ci, .boolean), (ce, .int)])) (va_Qi (S := Unit) (fun r _ => r = -1) (fun x t => PW dC dI (va_A [(h0, .inr (8, .ref tp :: .int 0 :: .ref sp :: .int 0 :: .int 0 :: .int 0 :: .ref rd :: .int (-1) :: .int (-1) :: tl)), (tp, .inl (ct, 3000, .inl (fun _ => 0))), (sp, .inr (4, .ref k :: .int 0 :: .int (-1) :: .ref it :: .ref en :: .int 0 :: .int 0 :: tlP)), (k, .inr (3, .int (nI n) :: tkK)), (it, .inl (ci, 40, .inl (fun _ => 0))), (en, .inl (ce, 41, .inl (fun _ => 0))), (rd, .inr (5, .ref tk :: .null :: .int 0 :: .int 0 :: .int (-1) :: .int 0 :: .int 0 :: tlR)), (tk, .inr (7, [.ref ut, .int 0, .int 0, .int 257, .int 0, .long 0, .int 0, .long 0]))] sz) ([]) ([]) t) (va_A [(h0, .inr (8, .ref tp :: .int 0 :: .ref sp :: .int 0 :: .int 0 :: .int 0 :: .ref rd :: .int (-1) :: .int (-1) :: tl)), (tp, .inl (ct, 3000, .inl (fun _ => 0))), (sp, .inr (4, .ref k :: .int 0 :: .int (-1) :: .ref it :: .ref en :: .int 0 :: .int 0 :: tlP)), (k, .inr (3, .int (nI n) :: tkK)), (it, .inl (ci, 40, .inl (fun _ => 0))), (en, .inl (ce, 41, .inl (fun _ => 0))), (rd, .inr (5, .ref tk :: .null :: .int 0 :: .int 0 :: .int (-1) :: .int 0 :: .int 0 :: tlR)), (tk, .inr (7, [.ref ut, .int 0, .int 0, .int 257, .int 0, .long 0, .int 0, .long 0]))] sz)) 0 0 (va_A [(h0, .inr (8, .ref tp :: .int 0 :: .ref sp :: .int 0 :: .int 0 :: .int 0 :: .ref rd :: .int (-1) :: .int (-1) :: tl)), (tp, .inl (ct, 3000, .inl (fun _ => 0))), (sp, .inr (4, .ref k :: .int 0 :: .int (-1) :: .ref it :: .ref en :: .int 0 :: .int 0 :: tlP)), (k, .inr (3, .int (nI n) :: tkK)), (it, .inl (ci, 40, .inl (fun _ => 0))), (en, .inl (ce, 41, .inl (fun _ => 0))), (rd, .inr (5, .ref tk :: .null :: .int 0 :: .int 0 :: .int (-1) :: .int 0 :: .int 0 :: tlR)), (tk, .inr (7, [.ref ut, .int 0, .int 0, .int 257, .int 0, .long 0, .int 0, .long 0]))] sz) := by
  refine mbody (y := yX10_read) (av := [.ref h0]) (b := cX10_read) (n := 2) (ret := (some .int)) (Qc := fun A => (va_Qi (S := Unit) (fun r _ => r = -1) (fun x t => PW dC dI A ([]) ([]) t) A)) (by decide) (Nat.le_of_ble_eq_true rfl) ?_
  intro p e s m below meth c ls A H hf hr hin hlk hw hl
  have hl : lv_has ls 2 [(0, .ref h0)] := hl
  refine lv_aload_n hf.1 hf.2.1 dX10_read_0 rfl (lv_at hl 0 rfl) ?_
  refine mget hf hw iX10 0 rfl rfl 6 (by decide) k686 rfl dX10_read_1 ?_
  refine lv_aload_n hf.1 hf.2.1 dX10_read_4 rfl (lv_at hl 0 rfl) ?_
  refine mget hf hw iX10 0 rfl rfl 2 (by decide) k682 rfl dX10_read_5 ?_
  refine lv_aload_n hf.1 hf.2.1 dX10_read_8 rfl (lv_at hl 0 rfl) ?_
  refine mget hf hw iX10 0 rfl rfl 0 (by decide) k679 rfl dX10_read_9 ?_
  refine lv_aload_n hf.1 hf.2.1 dX10_read_12 rfl (lv_at hl 0 rfl) ?_
  refine mget hf hw iX10 0 rfl rfl 1 (by decide) k680 rfl dX10_read_13 ?_
  refine mV_v (As := [.ref sp, .ref tp, .int 0]) (rest := []) (wr := [(h0, .inr (8, .ref tp :: .int 0 :: .ref sp :: .int 0 :: .int 0 :: .int 0 :: .ref rd :: .int (-1) :: .int (-1) :: tl))]) (tr := []) hf hw (b_readInto l dC dI rd tk ut tp tlR sp k it en n tkK tlP ct ci ce (fun _ => 0) (fun _ => 0) (fun _ => 0) H.size hn htk htlP htlR) ka_X6_readInto kv_X6_readInto 6 rfl rfl k735 [6, 7, 1, 2, 3, 4, 5] [0, 1, 2] [0] [] rfl rfl rfl rfl rfl (by decide) rfl rfl rfl hl.1 rfl rfl ⟨Nat.le_of_ble_eq_true rfl, Nat.le_of_ble_eq_true rfl⟩ (Nat.le_of_ble_eq_true rfl) (ce := 0) (sl := 0) rfl rfl ⟨Nat.le_of_ble_eq_true rfl, Nat.le_of_ble_eq_true rfl⟩ dX10_read_16 (fun u_2 hu_2 H locs hw => ?_)
  have hw : Wd dC dI A [(h0, .inr (8, .ref tp :: .int 0 :: .ref sp :: .int 0 :: .int 0 :: .int 0 :: .ref rd :: .int (-1) :: .int (-1) :: tl)), (rd, .inr (5, .ref tk :: .ref sp :: .int 0 :: .int 7 :: .int 0 :: .int 0 :: .int 0 :: tlR))] [] s H locs := hw
  refine lv_aload_n hf.1 hf.2.1 dX10_read_19 rfl (lv_at hl 0 rfl) ?_
  refine lv_iconst (v := 0) hf.1 hf.2.1 dX10_read_20 (by decide) ?_
  refine mput hf hw iX10 tyX10 tyX10_ok nmX10 0 rfl rfl 1 (by decide) k680 rfl rfl rfl (lt_app (K := [.ref tp, .int 0, .ref sp, .int 0, .int 0, .int 0, .ref rd, .int (-1), .int (-1)]) htl (Nat.le_of_ble_eq_true rfl)) (ws' := [(h0, .inr (8, .ref tp :: .int 0 :: .ref sp :: .int 0 :: .int 0 :: .int 0 :: .ref rd :: .int (-1) :: .int (-1) :: tl)), (rd, .inr (5, .ref tk :: .ref sp :: .int 0 :: .int 7 :: .int 0 :: .int 0 :: .int 0 :: tlR))]) rfl dX10_read_21 (fun H locs hw => ?_)
  refine lv_aload_n hf.1 hf.2.1 dX10_read_24 rfl (lv_at hl 0 rfl) ?_
  refine lv_aload_n hf.1 hf.2.1 dX10_read_25 rfl (lv_at hl 0 rfl) ?_
  refine mget hf hw iX10 0 rfl rfl 6 (by decide) k686 rfl dX10_read_26 ?_
  refine mget hf hw iX6 1 rfl rfl 3 (by decide) k420 rfl dX10_read_29 ?_
  refine mput hf hw iX10 tyX10 tyX10_ok nmX10 0 rfl rfl 7 (by decide) k690 rfl rfl rfl (lt_app (K := [.ref tp, .int 0, .ref sp, .int 0, .int 0, .int 0, .ref rd, .int 7, .int (-1)]) htl (Nat.le_of_ble_eq_true rfl)) (ws' := [(h0, .inr (8, .ref tp :: .int 0 :: .ref sp :: .int 0 :: .int 0 :: .int 0 :: .ref rd :: .int 7 :: .int (-1) :: tl)), (rd, .inr (5, .ref tk :: .ref sp :: .int 0 :: .int 7 :: .int 0 :: .int 0 :: .int 0 :: tlR))]) rfl dX10_read_32 (fun H locs hw => ?_)
  refine lv_aload_n hf.1 hf.2.1 dX10_read_35 rfl (lv_at hl 0 rfl) ?_
  refine lv_aload_n hf.1 hf.2.1 dX10_read_36 rfl (lv_at hl 0 rfl) ?_
  refine mget hf hw iX10 0 rfl rfl 6 (by decide) k686 rfl dX10_read_37 ?_
  refine mget hf hw iX6 1 rfl rfl 4 (by decide) k422 rfl dX10_read_40 ?_
  refine mput hf hw iX10 tyX10 tyX10_ok nmX10 0 rfl rfl 8 (by decide) k691 rfl rfl rfl (lt_app (K := [.ref tp, .int 0, .ref sp, .int 0, .int 0, .int 0, .ref rd, .int 7, .int 0]) htl (Nat.le_of_ble_eq_true rfl)) (ws' := [(h0, .inr (8, .ref tp :: .int 0 :: .ref sp :: .int 0 :: .int 0 :: .int 0 :: .ref rd :: .int 7 :: .int 0 :: tl)), (rd, .inr (5, .ref tk :: .ref sp :: .int 0 :: .int 7 :: .int 0 :: .int 0 :: .int 0 :: tlR))]) rfl dX10_read_43 (fun H locs hw => ?_)
  refine lv_aload_n hf.1 hf.2.1 dX10_read_46 rfl (lv_at hl 0 rfl) ?_
  refine mget hf hw iX10 0 rfl rfl 7 (by decide) k690 rfl dX10_read_47 ?_
  refine lv_if_eq (tgt := 55) hf.1 hf.2.1 dX10_read_50 (by decide) (fun c_3 => absurd c_3 (by decide)) (fun c_3 => ?_)
  refine lv_iconst (v := (-1)) hf.1 hf.2.1 dX10_read_53 (by decide) ?_
  exact mret_i (v := (-1)) hf hr hlk hw () rfl [] [] rfl rfl rfl (Nat.le_of_ble_eq_true rfl) (Nat.le_of_ble_eq_true rfl) dX10_read_54
