theorem dX10_about_0 : decode cX10_about 0 = .ok (.iload_n 1, 1) := by decide +kernel
theorem dX10_about_1 : decode cX10_about 1 = .ok (.tableswitch 87 0 3 #[31, 36, 55, 68], 31) := by decide +kernel
theorem dX10_about_32 : decode cX10_about 32 = .ok (.aload_n 0, 1) := by decide +kernel
theorem dX10_about_33 : decode cX10_about 33 = .ok (.getfield 13, 3) := by decide +kernel
theorem dX10_about_36 : decode cX10_about 36 = .ok (.ireturn, 1) := by decide +kernel
theorem dX10_about_37 : decode cX10_about 37 = .ok (.aload_n 0, 1) := by decide +kernel
theorem dX10_about_38 : decode cX10_about 38 = .ok (.getfield 27, 3) := by decide +kernel
theorem dX10_about_41 : decode cX10_about 41 = .ok (.ifCond .eq 13, 3) := by decide +kernel
theorem dX10_about_44 : decode cX10_about 44 = .ok (.aload_n 0, 1) := by decide +kernel
theorem dX10_about_45 : decode cX10_about 45 = .ok (.getfield 20, 3) := by decide +kernel
theorem dX10_about_48 : decode cX10_about 48 = .ok (.getfield 85, 3) := by decide +kernel
theorem dX10_about_51 : decode cX10_about 51 = .ok (.goto 4, 3) := by decide +kernel
theorem dX10_about_54 : decode cX10_about 54 = .ok (.iconst 0, 1) := by decide +kernel
theorem dX10_about_55 : decode cX10_about 55 = .ok (.ireturn, 1) := by decide +kernel
theorem dX10_about_56 : decode cX10_about 56 = .ok (.aload_n 0, 1) := by decide +kernel
theorem dX10_about_57 : decode cX10_about 57 = .ok (.getfield 31, 3) := by decide +kernel
theorem dX10_about_60 : decode cX10_about 60 = .ok (.ifCond .eq 7, 3) := by decide +kernel
theorem dX10_about_63 : decode cX10_about 63 = .ok (.iconst 1, 1) := by decide +kernel
theorem dX10_about_64 : decode cX10_about 64 = .ok (.goto 4, 3) := by decide +kernel
theorem dX10_about_67 : decode cX10_about 67 = .ok (.iconst 0, 1) := by decide +kernel
theorem dX10_about_68 : decode cX10_about 68 = .ok (.ireturn, 1) := by decide +kernel
theorem dX10_about_69 : decode cX10_about 69 = .ok (.aload_n 0, 1) := by decide +kernel
theorem dX10_about_70 : decode cX10_about 70 = .ok (.getfield 31, 3) := by decide +kernel
theorem dX10_about_73 : decode cX10_about 73 = .ok (.ifCond .eq 13, 3) := by decide +kernel
theorem dX10_about_76 : decode cX10_about 76 = .ok (.aload_n 0, 1) := by decide +kernel
theorem dX10_about_77 : decode cX10_about 77 = .ok (.getfield 47, 3) := by decide +kernel
theorem dX10_about_80 : decode cX10_about 80 = .ok (.getfield 102, 3) := by decide +kernel
theorem dX10_about_83 : decode cX10_about 83 = .ok (.goto 4, 3) := by decide +kernel
theorem dX10_about_86 : decode cX10_about 86 = .ok (.iconst (-1), 1) := by decide +kernel
theorem dX10_about_87 : decode cX10_about 87 = .ok (.ireturn, 1) := by decide +kernel
theorem dX10_about_88 : decode cX10_about 88 = .ok (.iconst (-1), 1) := by decide +kernel
theorem dX10_about_89 : decode cX10_about 89 = .ok (.ireturn, 1) := by decide +kernel
theorem dX10_asked_0 : decode cX10_asked 0 = .ok (.aload_n 0, 1) := by decide +kernel
theorem dX10_asked_1 : decode cX10_asked 1 = .ok (.getfield 34, 3) := by decide +kernel
theorem dX10_asked_4 : decode cX10_asked 4 = .ok (.ifCond .eq 19, 3) := by decide +kernel
theorem dX10_asked_7 : decode cX10_asked 7 = .ok (.aload_n 0, 1) := by decide +kernel
theorem dX10_asked_8 : decode cX10_asked 8 = .ok (.iload_n 1, 1) := by decide +kernel
theorem dX10_asked_9 : decode cX10_asked 9 = .ok (.invokevirtual 88, 3) := by decide +kernel
theorem dX10_asked_12 : decode cX10_asked 12 = .ok (.ifCond .eq 11, 3) := by decide +kernel
theorem dX10_asked_15 : decode cX10_asked 15 = .ok (.aload_n 0, 1) := by decide +kernel
theorem dX10_asked_16 : decode cX10_asked 16 = .ok (.iload_n 2, 1) := by decide +kernel
theorem dX10_asked_17 : decode cX10_asked 17 = .ok (.invokevirtual 88, 3) := by decide +kernel
theorem dX10_asked_20 : decode cX10_asked 20 = .ok (.ifCond .ne 5, 3) := by decide +kernel
theorem dX10_asked_23 : decode cX10_asked 23 = .ok (.iconst (-1), 1) := by decide +kernel
theorem dX10_asked_24 : decode cX10_asked 24 = .ok (.ireturn, 1) := by decide +kernel
theorem dX10_asked_25 : decode cX10_asked 25 = .ok (.aload_n 0, 1) := by decide +kernel
theorem dX10_asked_26 : decode cX10_asked 26 = .ok (.getfield 61, 3) := by decide +kernel
theorem dX10_asked_29 : decode cX10_asked 29 = .ok (.getfield 163, 3) := by decide +kernel
theorem dX10_asked_32 : decode cX10_asked 32 = .ok (.iload_n 1, 1) := by decide +kernel
theorem dX10_asked_33 : decode cX10_asked 33 = .ok (.bipush 40, 2) := by decide +kernel
theorem dX10_asked_35 : decode cX10_asked 35 = .ok (.imul, 1) := by decide +kernel
theorem dX10_asked_36 : decode cX10_asked 36 = .ok (.iload_n 2, 1) := by decide +kernel
theorem dX10_asked_37 : decode cX10_asked 37 = .ok (.iadd, 1) := by decide +kernel
theorem dX10_asked_38 : decode cX10_asked 38 = .ok (.iaload, 1) := by decide +kernel
theorem dX10_asked_39 : decode cX10_asked 39 = .ok (.ireturn, 1) := by decide +kernel
theorem dX10_end_0 : decode cX10_end 0 = .ok (.iload_n 1, 1) := by decide +kernel
theorem dX10_end_1 : decode cX10_end 1 = .ok (.ifCond .lt 11, 3) := by decide +kernel
theorem dX10_end_4 : decode cX10_end 4 = .ok (.iload_n 1, 1) := by decide +kernel
theorem dX10_end_5 : decode cX10_end 5 = .ok (.aload_n 0, 1) := by decide +kernel
theorem dX10_end_6 : decode cX10_end 6 = .ok (.getfield 13, 3) := by decide +kernel
theorem dX10_end_9 : decode cX10_end 9 = .ok (.if_icmp .le 5, 3) := by decide +kernel
theorem dX10_end_12 : decode cX10_end 12 = .ok (.iconst (-1), 1) := by decide +kernel
theorem dX10_end_13 : decode cX10_end 13 = .ok (.ireturn, 1) := by decide +kernel
theorem dX10_end_14 : decode cX10_end 14 = .ok (.aload_n 0, 1) := by decide +kernel
theorem dX10_end_15 : decode cX10_end 15 = .ok (.iload_n 1, 1) := by decide +kernel
theorem dX10_end_16 : decode cX10_end 16 = .ok (.putfield 13, 3) := by decide +kernel
theorem dX10_end_19 : decode cX10_end 19 = .ok (.iload_n 1, 1) := by decide +kernel
theorem dX10_end_20 : decode cX10_end 20 = .ok (.ireturn, 1) := by decide +kernel
theorem dX10_fault_0 : decode cX10_fault 0 = .ok (.iload_n 1, 1) := by decide +kernel
theorem dX10_fault_1 : decode cX10_fault 1 = .ok (.ifCond .ne 8, 3) := by decide +kernel
theorem dX10_fault_4 : decode cX10_fault 4 = .ok (.aload_n 0, 1) := by decide +kernel
theorem dX10_fault_5 : decode cX10_fault 5 = .ok (.getfield 65, 3) := by decide +kernel
theorem dX10_fault_8 : decode cX10_fault 8 = .ok (.ireturn, 1) := by decide +kernel
theorem dX10_fault_9 : decode cX10_fault 9 = .ok (.iload_n 1, 1) := by decide +kernel
theorem dX10_fault_10 : decode cX10_fault 10 = .ok (.iconst 1, 1) := by decide +kernel
theorem dX10_fault_11 : decode cX10_fault 11 = .ok (.if_icmp .ne 10, 3) := by decide +kernel
theorem dX10_fault_14 : decode cX10_fault 14 = .ok (.aload_n 0, 1) := by decide +kernel
theorem dX10_fault_15 : decode cX10_fault 15 = .ok (.getfield 68, 3) := by decide +kernel
theorem dX10_fault_18 : decode cX10_fault 18 = .ok (.goto 4, 3) := by decide +kernel
theorem dX10_fault_21 : decode cX10_fault 21 = .ok (.iconst (-1), 1) := by decide +kernel
theorem dX10_fault_22 : decode cX10_fault 22 = .ok (.ireturn, 1) := by decide +kernel
theorem dX10_feed_0 : decode cX10_feed 0 = .ok (.aload_n 0, 1) := by decide +kernel
theorem dX10_feed_1 : decode cX10_feed 1 = .ok (.getfield 13, 3) := by decide +kernel
theorem dX10_feed_4 : decode cX10_feed 4 = .ok (.bipush 20, 2) := by decide +kernel
theorem dX10_feed_6 : decode cX10_feed 6 = .ok (.iadd, 1) := by decide +kernel
theorem dX10_feed_7 : decode cX10_feed 7 = .ok (.sipush 3000, 3) := by decide +kernel
theorem dX10_feed_10 : decode cX10_feed 10 = .ok (.if_icmp .le 5, 3) := by decide +kernel
theorem dX10_feed_13 : decode cX10_feed 13 = .ok (.iconst (-1), 1) := by decide +kernel
theorem dX10_feed_14 : decode cX10_feed 14 = .ok (.ireturn, 1) := by decide +kernel
theorem dX10_feed_15 : decode cX10_feed 15 = .ok (.aload_n 0, 1) := by decide +kernel
theorem dX10_feed_16 : decode cX10_feed 16 = .ok (.iload_n 1, 1) := by decide +kernel
theorem dX10_feed_17 : decode cX10_feed 17 = .ok (.invokevirtual 71, 3) := by decide +kernel
theorem dX10_feed_20 : decode cX10_feed 20 = .ok (.aload_n 0, 1) := by decide +kernel
theorem dX10_feed_21 : decode cX10_feed 21 = .ok (.iload_n 2, 1) := by decide +kernel
theorem dX10_feed_22 : decode cX10_feed 22 = .ok (.invokevirtual 71, 3) := by decide +kernel
theorem dX10_feed_25 : decode cX10_feed 25 = .ok (.aload_n 0, 1) := by decide +kernel
theorem dX10_feed_26 : decode cX10_feed 26 = .ok (.iload_n 3, 1) := by decide +kernel
theorem dX10_feed_27 : decode cX10_feed 27 = .ok (.invokevirtual 71, 3) := by decide +kernel
theorem dX10_feed_30 : decode cX10_feed 30 = .ok (.aload_n 0, 1) := by decide +kernel
theorem dX10_feed_31 : decode cX10_feed 31 = .ok (.iload 4, 2) := by decide +kernel
theorem dX10_feed_33 : decode cX10_feed 33 = .ok (.invokevirtual 71, 3) := by decide +kernel
theorem dX10_feed_36 : decode cX10_feed 36 = .ok (.aload_n 0, 1) := by decide +kernel
theorem dX10_feed_37 : decode cX10_feed 37 = .ok (.iload 5, 2) := by decide +kernel
theorem dX10_feed_39 : decode cX10_feed 39 = .ok (.invokevirtual 71, 3) := by decide +kernel
theorem dX10_feed_42 : decode cX10_feed 42 = .ok (.aload_n 0, 1) := by decide +kernel
theorem dX10_feed_43 : decode cX10_feed 43 = .ok (.getfield 13, 3) := by decide +kernel
theorem dX10_feed_46 : decode cX10_feed 46 = .ok (.ireturn, 1) := by decide +kernel
theorem dX10_guard_0 : decode cX10_guard 0 = .ok (.aload_n 0, 1) := by decide +kernel
theorem dX10_guard_1 : decode cX10_guard 1 = .ok (.getfield 31, 3) := by decide +kernel
theorem dX10_guard_4 : decode cX10_guard 4 = .ok (.ifCond .eq 18, 3) := by decide +kernel
theorem dX10_guard_7 : decode cX10_guard 7 = .ok (.iload_n 1, 1) := by decide +kernel
theorem dX10_guard_8 : decode cX10_guard 8 = .ok (.ifCond .lt 14, 3) := by decide +kernel
theorem dX10_guard_11 : decode cX10_guard 11 = .ok (.iload_n 1, 1) := by decide +kernel
theorem dX10_guard_12 : decode cX10_guard 12 = .ok (.aload_n 0, 1) := by decide +kernel
theorem dX10_guard_13 : decode cX10_guard 13 = .ok (.getfield 47, 3) := by decide +kernel
theorem dX10_guard_16 : decode cX10_guard 16 = .ok (.getfield 102, 3) := by decide +kernel
theorem dX10_guard_19 : decode cX10_guard 19 = .ok (.if_icmp .lt 5, 3) := by decide +kernel
theorem dX10_guard_22 : decode cX10_guard 22 = .ok (.iconst (-1), 1) := by decide +kernel
theorem dX10_guard_23 : decode cX10_guard 23 = .ok (.ireturn, 1) := by decide +kernel
theorem dX10_guard_24 : decode cX10_guard 24 = .ok (.iload_n 2, 1) := by decide +kernel
theorem dX10_guard_25 : decode cX10_guard 25 = .ok (.tableswitch 105 0 4 #[35, 45, 55, 65, 85], 35) := by decide +kernel
theorem dX10_guard_60 : decode cX10_guard 60 = .ok (.aload_n 0, 1) := by decide +kernel
theorem dX10_guard_61 : decode cX10_guard 61 = .ok (.getfield 47, 3) := by decide +kernel
theorem dX10_guard_64 : decode cX10_guard 64 = .ok (.getfield 105, 3) := by decide +kernel
theorem dX10_guard_67 : decode cX10_guard 67 = .ok (.iload_n 1, 1) := by decide +kernel
theorem dX10_guard_68 : decode cX10_guard 68 = .ok (.iaload, 1) := by decide +kernel
theorem dX10_guard_69 : decode cX10_guard 69 = .ok (.ireturn, 1) := by decide +kernel
theorem dX10_guard_70 : decode cX10_guard 70 = .ok (.aload_n 0, 1) := by decide +kernel
theorem dX10_guard_71 : decode cX10_guard 71 = .ok (.getfield 47, 3) := by decide +kernel
theorem dX10_guard_74 : decode cX10_guard 74 = .ok (.getfield 109, 3) := by decide +kernel
theorem dX10_guard_77 : decode cX10_guard 77 = .ok (.iload_n 1, 1) := by decide +kernel
theorem dX10_guard_78 : decode cX10_guard 78 = .ok (.iaload, 1) := by decide +kernel
theorem dX10_guard_79 : decode cX10_guard 79 = .ok (.ireturn, 1) := by decide +kernel
theorem dX10_guard_80 : decode cX10_guard 80 = .ok (.aload_n 0, 1) := by decide +kernel
theorem dX10_guard_81 : decode cX10_guard 81 = .ok (.getfield 47, 3) := by decide +kernel
theorem dX10_guard_84 : decode cX10_guard 84 = .ok (.getfield 112, 3) := by decide +kernel
theorem dX10_guard_87 : decode cX10_guard 87 = .ok (.iload_n 1, 1) := by decide +kernel
theorem dX10_guard_88 : decode cX10_guard 88 = .ok (.iaload, 1) := by decide +kernel
theorem dX10_guard_89 : decode cX10_guard 89 = .ok (.ireturn, 1) := by decide +kernel
theorem dX10_guard_90 : decode cX10_guard 90 = .ok (.aload_n 0, 1) := by decide +kernel
theorem dX10_guard_91 : decode cX10_guard 91 = .ok (.getfield 20, 3) := by decide +kernel
theorem dX10_guard_94 : decode cX10_guard 94 = .ok (.getfield 115, 3) := by decide +kernel
theorem dX10_guard_97 : decode cX10_guard 97 = .ok (.aload_n 0, 1) := by decide +kernel
theorem dX10_guard_98 : decode cX10_guard 98 = .ok (.getfield 47, 3) := by decide +kernel
theorem dX10_guard_101 : decode cX10_guard 101 = .ok (.getfield 119, 3) := by decide +kernel
theorem dX10_guard_104 : decode cX10_guard 104 = .ok (.iload_n 1, 1) := by decide +kernel
theorem dX10_guard_105 : decode cX10_guard 105 = .ok (.iaload, 1) := by decide +kernel
theorem dX10_guard_106 : decode cX10_guard 106 = .ok (.invokevirtual 122, 3) := by decide +kernel
theorem dX10_guard_109 : decode cX10_guard 109 = .ok (.ireturn, 1) := by decide +kernel
theorem dX10_guard_110 : decode cX10_guard 110 = .ok (.aload_n 0, 1) := by decide +kernel
theorem dX10_guard_111 : decode cX10_guard 111 = .ok (.getfield 20, 3) := by decide +kernel
theorem dX10_guard_114 : decode cX10_guard 114 = .ok (.getfield 115, 3) := by decide +kernel
theorem dX10_guard_117 : decode cX10_guard 117 = .ok (.aload_n 0, 1) := by decide +kernel
theorem dX10_guard_118 : decode cX10_guard 118 = .ok (.getfield 47, 3) := by decide +kernel
theorem dX10_guard_121 : decode cX10_guard 121 = .ok (.getfield 128, 3) := by decide +kernel
theorem dX10_guard_124 : decode cX10_guard 124 = .ok (.iload_n 1, 1) := by decide +kernel
theorem dX10_guard_125 : decode cX10_guard 125 = .ok (.iaload, 1) := by decide +kernel
theorem dX10_guard_126 : decode cX10_guard 126 = .ok (.invokevirtual 122, 3) := by decide +kernel
theorem dX10_guard_129 : decode cX10_guard 129 = .ok (.ireturn, 1) := by decide +kernel
theorem dX10_guard_130 : decode cX10_guard 130 = .ok (.iconst (-1), 1) := by decide +kernel
theorem dX10_guard_131 : decode cX10_guard 131 = .ok (.ireturn, 1) := by decide +kernel
theorem dX10_isFuel_0 : decode cX10_isFuel 0 = .ok (.iload_n 0, 1) := by decide +kernel
theorem dX10_isFuel_1 : decode cX10_isFuel 1 = .ok (.ifCond .lt 14, 3) := by decide +kernel
theorem dX10_isFuel_4 : decode cX10_isFuel 4 = .ok (.iload_n 0, 1) := by decide +kernel
theorem dX10_isFuel_5 : decode cX10_isFuel 5 = .ok (.sipush 20000, 3) := by decide +kernel
theorem dX10_isFuel_8 : decode cX10_isFuel 8 = .ok (.if_icmp .gt 7, 3) := by decide +kernel
theorem dX10_isFuel_11 : decode cX10_isFuel 11 = .ok (.iconst 1, 1) := by decide +kernel
theorem dX10_isFuel_12 : decode cX10_isFuel 12 = .ok (.goto 4, 3) := by decide +kernel
theorem dX10_isFuel_15 : decode cX10_isFuel 15 = .ok (.iconst 0, 1) := by decide +kernel
theorem dX10_isFuel_16 : decode cX10_isFuel 16 = .ok (.ireturn, 1) := by decide +kernel
theorem dX10_isPart_0 : decode cX10_isPart 0 = .ok (.aload_n 0, 1) := by decide +kernel
theorem dX10_isPart_1 : decode cX10_isPart 1 = .ok (.getfield 27, 3) := by decide +kernel
theorem dX10_isPart_4 : decode cX10_isPart 4 = .ok (.ifCond .eq 22, 3) := by decide +kernel
theorem dX10_isPart_7 : decode cX10_isPart 7 = .ok (.iload_n 1, 1) := by decide +kernel
theorem dX10_isPart_8 : decode cX10_isPart 8 = .ok (.ifCond .lt 18, 3) := by decide +kernel
theorem dX10_isPart_11 : decode cX10_isPart 11 = .ok (.iload_n 1, 1) := by decide +kernel
theorem dX10_isPart_12 : decode cX10_isPart 12 = .ok (.aload_n 0, 1) := by decide +kernel
theorem dX10_isPart_13 : decode cX10_isPart 13 = .ok (.getfield 20, 3) := by decide +kernel
theorem dX10_isPart_16 : decode cX10_isPart 16 = .ok (.getfield 85, 3) := by decide +kernel
theorem dX10_isPart_19 : decode cX10_isPart 19 = .ok (.if_icmp .ge 7, 3) := by decide +kernel
theorem dX10_isPart_22 : decode cX10_isPart 22 = .ok (.iconst 1, 1) := by decide +kernel
theorem dX10_isPart_23 : decode cX10_isPart 23 = .ok (.goto 4, 3) := by decide +kernel
theorem dX10_isPart_26 : decode cX10_isPart 26 = .ok (.iconst 0, 1) := by decide +kernel
theorem dX10_isPart_27 : decode cX10_isPart 27 = .ok (.ireturn, 1) := by decide +kernel
theorem dX10_judge_0 : decode cX10_judge 0 = .ok (.aload_n 0, 1) := by decide +kernel
theorem dX10_judge_1 : decode cX10_judge 1 = .ok (.iconst 0, 1) := by decide +kernel
theorem dX10_judge_2 : decode cX10_judge 2 = .ok (.putfield 31, 3) := by decide +kernel
theorem dX10_judge_5 : decode cX10_judge 5 = .ok (.aload_n 0, 1) := by decide +kernel
theorem dX10_judge_6 : decode cX10_judge 6 = .ok (.iconst 0, 1) := by decide +kernel
theorem dX10_judge_7 : decode cX10_judge 7 = .ok (.putfield 65, 3) := by decide +kernel
theorem dX10_judge_10 : decode cX10_judge 10 = .ok (.aload_n 0, 1) := by decide +kernel
theorem dX10_judge_11 : decode cX10_judge 11 = .ok (.iconst (-1), 1) := by decide +kernel
theorem dX10_judge_12 : decode cX10_judge 12 = .ok (.putfield 68, 3) := by decide +kernel
theorem dX10_judge_15 : decode cX10_judge 15 = .ok (.aload_n 0, 1) := by decide +kernel
theorem dX10_judge_16 : decode cX10_judge 16 = .ok (.getfield 27, 3) := by decide +kernel
theorem dX10_judge_19 : decode cX10_judge 19 = .ok (.ifCond .ne 5, 3) := by decide +kernel
theorem dX10_judge_22 : decode cX10_judge 22 = .ok (.iconst (-1), 1) := by decide +kernel
theorem dX10_judge_23 : decode cX10_judge 23 = .ok (.ireturn, 1) := by decide +kernel
theorem dX10_judge_24 : decode cX10_judge 24 = .ok (.aload_n 0, 1) := by decide +kernel
theorem dX10_judge_25 : decode cX10_judge 25 = .ok (.getfield 54, 3) := by decide +kernel
theorem dX10_judge_28 : decode cX10_judge 28 = .ok (.aload_n 0, 1) := by decide +kernel
theorem dX10_judge_29 : decode cX10_judge 29 = .ok (.getfield 20, 3) := by decide +kernel
theorem dX10_judge_32 : decode cX10_judge 32 = .ok (.aload_n 0, 1) := by decide +kernel
theorem dX10_judge_33 : decode cX10_judge 33 = .ok (.getfield 47, 3) := by decide +kernel
theorem dX10_judge_36 : decode cX10_judge 36 = .ok (.invokevirtual 96, 3) := by decide +kernel
theorem dX10_judge_39 : decode cX10_judge 39 = .ok (.aload_n 0, 1) := by decide +kernel
theorem dX10_judge_40 : decode cX10_judge 40 = .ok (.aload_n 0, 1) := by decide +kernel
theorem dX10_judge_41 : decode cX10_judge 41 = .ok (.getfield 54, 3) := by decide +kernel
theorem dX10_judge_44 : decode cX10_judge 44 = .ok (.getfield 100, 3) := by decide +kernel
theorem dX10_judge_47 : decode cX10_judge 47 = .ok (.putfield 65, 3) := by decide +kernel
theorem dX10_judge_50 : decode cX10_judge 50 = .ok (.aload_n 0, 1) := by decide +kernel
theorem dX10_judge_51 : decode cX10_judge 51 = .ok (.aload_n 0, 1) := by decide +kernel
theorem dX10_judge_52 : decode cX10_judge 52 = .ok (.getfield 54, 3) := by decide +kernel
theorem dX10_judge_55 : decode cX10_judge 55 = .ok (.getfield 101, 3) := by decide +kernel
theorem dX10_judge_58 : decode cX10_judge 58 = .ok (.putfield 68, 3) := by decide +kernel
theorem dX10_judge_61 : decode cX10_judge 61 = .ok (.aload_n 0, 1) := by decide +kernel
theorem dX10_judge_62 : decode cX10_judge 62 = .ok (.aload_n 0, 1) := by decide +kernel
theorem dX10_judge_63 : decode cX10_judge 63 = .ok (.getfield 65, 3) := by decide +kernel
theorem dX10_judge_66 : decode cX10_judge 66 = .ok (.ifCond .ne 7, 3) := by decide +kernel
theorem dX10_judge_69 : decode cX10_judge 69 = .ok (.iconst 1, 1) := by decide +kernel
theorem dX10_judge_70 : decode cX10_judge 70 = .ok (.goto 4, 3) := by decide +kernel
theorem dX10_judge_73 : decode cX10_judge 73 = .ok (.iconst 0, 1) := by decide +kernel
theorem dX10_judge_74 : decode cX10_judge 74 = .ok (.putfield 31, 3) := by decide +kernel
theorem dX10_judge_77 : decode cX10_judge 77 = .ok (.aload_n 0, 1) := by decide +kernel
theorem dX10_judge_78 : decode cX10_judge 78 = .ok (.getfield 31, 3) := by decide +kernel
theorem dX10_judge_81 : decode cX10_judge 81 = .ok (.ifCond .eq 13, 3) := by decide +kernel
theorem dX10_judge_84 : decode cX10_judge 84 = .ok (.aload_n 0, 1) := by decide +kernel
theorem dX10_judge_85 : decode cX10_judge 85 = .ok (.getfield 47, 3) := by decide +kernel
theorem dX10_judge_88 : decode cX10_judge 88 = .ok (.getfield 102, 3) := by decide +kernel
theorem dX10_judge_91 : decode cX10_judge 91 = .ok (.goto 4, 3) := by decide +kernel
theorem dX10_judge_94 : decode cX10_judge 94 = .ok (.iconst (-1), 1) := by decide +kernel
theorem dX10_judge_95 : decode cX10_judge 95 = .ok (.ireturn, 1) := by decide +kernel
theorem dX10_out_0 : decode cX10_out 0 = .ok (.aload_n 0, 1) := by decide +kernel
theorem dX10_out_1 : decode cX10_out 1 = .ok (.getfield 34, 3) := by decide +kernel
theorem dX10_out_4 : decode cX10_out 4 = .ok (.ifCond .eq 18, 3) := by decide +kernel
theorem dX10_out_7 : decode cX10_out 7 = .ok (.iload_n 1, 1) := by decide +kernel
theorem dX10_out_8 : decode cX10_out 8 = .ok (.ifCond .lt 14, 3) := by decide +kernel
theorem dX10_out_11 : decode cX10_out 11 = .ok (.iload_n 1, 1) := by decide +kernel
theorem dX10_out_12 : decode cX10_out 12 = .ok (.aload_n 0, 1) := by decide +kernel
theorem dX10_out_13 : decode cX10_out 13 = .ok (.getfield 61, 3) := by decide +kernel
theorem dX10_out_16 : decode cX10_out 16 = .ok (.getfield 157, 3) := by decide +kernel
theorem dX10_out_19 : decode cX10_out 19 = .ok (.if_icmp .lt 5, 3) := by decide +kernel
theorem dX10_out_22 : decode cX10_out 22 = .ok (.iconst 0, 1) := by decide +kernel
theorem dX10_out_23 : decode cX10_out 23 = .ok (.ireturn, 1) := by decide +kernel
theorem dX10_out_24 : decode cX10_out 24 = .ok (.aload_n 0, 1) := by decide +kernel
theorem dX10_out_25 : decode cX10_out 25 = .ok (.getfield 61, 3) := by decide +kernel
theorem dX10_out_28 : decode cX10_out 28 = .ok (.getfield 160, 3) := by decide +kernel
theorem dX10_out_31 : decode cX10_out 31 = .ok (.iload_n 1, 1) := by decide +kernel
theorem dX10_out_32 : decode cX10_out 32 = .ok (.iaload, 1) := by decide +kernel
theorem dX10_out_33 : decode cX10_out 33 = .ok (.ireturn, 1) := by decide +kernel
theorem dX10_part_0 : decode cX10_part 0 = .ok (.aload_n 0, 1) := by decide +kernel
theorem dX10_part_1 : decode cX10_part 1 = .ok (.iload_n 1, 1) := by decide +kernel
theorem dX10_part_2 : decode cX10_part 2 = .ok (.invokevirtual 88, 3) := by decide +kernel
theorem dX10_part_5 : decode cX10_part 5 = .ok (.ifCond .ne 5, 3) := by decide +kernel
theorem dX10_part_8 : decode cX10_part 8 = .ok (.iconst (-1), 1) := by decide +kernel
theorem dX10_part_9 : decode cX10_part 9 = .ok (.ireturn, 1) := by decide +kernel
theorem dX10_part_10 : decode cX10_part 10 = .ok (.iload_n 2, 1) := by decide +kernel
theorem dX10_part_11 : decode cX10_part 11 = .ok (.tableswitch 110 0 4 #[33, 51, 61, 71, 100], 33) := by decide +kernel
theorem dX10_part_44 : decode cX10_part 44 = .ok (.aload_n 0, 1) := by decide +kernel
theorem dX10_part_45 : decode cX10_part 45 = .ok (.getfield 20, 3) := by decide +kernel
theorem dX10_part_48 : decode cX10_part 48 = .ok (.getfield 92, 3) := by decide +kernel
theorem dX10_part_51 : decode cX10_part 51 = .ok (.iload_n 1, 1) := by decide +kernel
theorem dX10_part_52 : decode cX10_part 52 = .ok (.baload, 1) := by decide +kernel
theorem dX10_part_53 : decode cX10_part 53 = .ok (.ifCond .eq 7, 3) := by decide +kernel
theorem dX10_part_56 : decode cX10_part 56 = .ok (.iconst 1, 1) := by decide +kernel
theorem dX10_part_57 : decode cX10_part 57 = .ok (.goto 4, 3) := by decide +kernel
theorem dX10_part_60 : decode cX10_part 60 = .ok (.iconst 0, 1) := by decide +kernel
theorem dX10_part_61 : decode cX10_part 61 = .ok (.ireturn, 1) := by decide +kernel
theorem dX10_part_62 : decode cX10_part 62 = .ok (.aload_n 0, 1) := by decide +kernel
theorem dX10_part_63 : decode cX10_part 63 = .ok (.getfield 20, 3) := by decide +kernel
theorem dX10_part_66 : decode cX10_part 66 = .ok (.getfield 131, 3) := by decide +kernel
theorem dX10_part_69 : decode cX10_part 69 = .ok (.iload_n 1, 1) := by decide +kernel
theorem dX10_part_70 : decode cX10_part 70 = .ok (.iaload, 1) := by decide +kernel
theorem dX10_part_71 : decode cX10_part 71 = .ok (.ireturn, 1) := by decide +kernel
theorem dX10_part_72 : decode cX10_part 72 = .ok (.aload_n 0, 1) := by decide +kernel
theorem dX10_part_73 : decode cX10_part 73 = .ok (.getfield 20, 3) := by decide +kernel
theorem dX10_part_76 : decode cX10_part 76 = .ok (.getfield 134, 3) := by decide +kernel
theorem dX10_part_79 : decode cX10_part 79 = .ok (.iload_n 1, 1) := by decide +kernel
theorem dX10_part_80 : decode cX10_part 80 = .ok (.iaload, 1) := by decide +kernel
theorem dX10_part_81 : decode cX10_part 81 = .ok (.ireturn, 1) := by decide +kernel
theorem dX10_part_82 : decode cX10_part 82 = .ok (.aload_n 0, 1) := by decide +kernel
theorem dX10_part_83 : decode cX10_part 83 = .ok (.getfield 31, 3) := by decide +kernel
theorem dX10_part_86 : decode cX10_part 86 = .ok (.ifCond .eq 23, 3) := by decide +kernel
theorem dX10_part_89 : decode cX10_part 89 = .ok (.aload_n 0, 1) := by decide +kernel
theorem dX10_part_90 : decode cX10_part 90 = .ok (.getfield 54, 3) := by decide +kernel
theorem dX10_part_93 : decode cX10_part 93 = .ok (.getfield 137, 3) := by decide +kernel
theorem dX10_part_96 : decode cX10_part 96 = .ok (.iload_n 1, 1) := by decide +kernel
theorem dX10_part_97 : decode cX10_part 97 = .ok (.baload, 1) := by decide +kernel
theorem dX10_part_98 : decode cX10_part 98 = .ok (.ifCond .eq 7, 3) := by decide +kernel
theorem dX10_part_101 : decode cX10_part 101 = .ok (.iconst 1, 1) := by decide +kernel
theorem dX10_part_102 : decode cX10_part 102 = .ok (.goto 8, 3) := by decide +kernel
theorem dX10_part_105 : decode cX10_part 105 = .ok (.iconst 0, 1) := by decide +kernel
theorem dX10_part_106 : decode cX10_part 106 = .ok (.goto 4, 3) := by decide +kernel
theorem dX10_part_109 : decode cX10_part 109 = .ok (.iconst (-1), 1) := by decide +kernel
theorem dX10_part_110 : decode cX10_part 110 = .ok (.ireturn, 1) := by decide +kernel
theorem dX10_part_111 : decode cX10_part 111 = .ok (.aload_n 0, 1) := by decide +kernel
theorem dX10_part_112 : decode cX10_part 112 = .ok (.getfield 20, 3) := by decide +kernel
theorem dX10_part_115 : decode cX10_part 115 = .ok (.getfield 140, 3) := by decide +kernel
theorem dX10_part_118 : decode cX10_part 118 = .ok (.iload_n 1, 1) := by decide +kernel
theorem dX10_part_119 : decode cX10_part 119 = .ok (.iaload, 1) := by decide +kernel
theorem dX10_part_120 : decode cX10_part 120 = .ok (.ireturn, 1) := by decide +kernel
theorem dX10_part_121 : decode cX10_part 121 = .ok (.aload_n 0, 1) := by decide +kernel
theorem dX10_part_122 : decode cX10_part 122 = .ok (.getfield 20, 3) := by decide +kernel
theorem dX10_part_125 : decode cX10_part 125 = .ok (.iload_n 1, 1) := by decide +kernel
theorem dX10_part_126 : decode cX10_part 126 = .ok (.iload_n 2, 1) := by decide +kernel
theorem dX10_part_127 : decode cX10_part 127 = .ok (.bipush 100, 2) := by decide +kernel
theorem dX10_part_129 : decode cX10_part 129 = .ok (.isub, 1) := by decide +kernel
theorem dX10_part_130 : decode cX10_part 130 = .ok (.invokevirtual 143, 3) := by decide +kernel
theorem dX10_part_133 : decode cX10_part 133 = .ok (.ireturn, 1) := by decide +kernel
theorem dX10_putFour_0 : decode cX10_putFour 0 = .ok (.bipush 24, 2) := by decide +kernel
theorem dX10_putFour_2 : decode cX10_putFour 2 = .ok (.istore_n 2, 1) := by decide +kernel
theorem dX10_putFour_3 : decode cX10_putFour 3 = .ok (.iload_n 2, 1) := by decide +kernel
theorem dX10_putFour_4 : decode cX10_putFour 4 = .ok (.ifCond .lt 42, 3) := by decide +kernel
theorem dX10_putFour_7 : decode cX10_putFour 7 = .ok (.aload_n 0, 1) := by decide +kernel
theorem dX10_putFour_8 : decode cX10_putFour 8 = .ok (.getfield 13, 3) := by decide +kernel
theorem dX10_putFour_11 : decode cX10_putFour 11 = .ok (.sipush 3000, 3) := by decide +kernel
theorem dX10_putFour_14 : decode cX10_putFour 14 = .ok (.if_icmp .ge 26, 3) := by decide +kernel
theorem dX10_putFour_17 : decode cX10_putFour 17 = .ok (.aload_n 0, 1) := by decide +kernel
theorem dX10_putFour_18 : decode cX10_putFour 18 = .ok (.getfield 9, 3) := by decide +kernel
theorem dX10_putFour_21 : decode cX10_putFour 21 = .ok (.aload_n 0, 1) := by decide +kernel
theorem dX10_putFour_22 : decode cX10_putFour 22 = .ok (.getfield 13, 3) := by decide +kernel
theorem dX10_putFour_25 : decode cX10_putFour 25 = .ok (.iload_n 1, 1) := by decide +kernel
theorem dX10_putFour_26 : decode cX10_putFour 26 = .ok (.iload_n 2, 1) := by decide +kernel
theorem dX10_putFour_27 : decode cX10_putFour 27 = .ok (.ishr, 1) := by decide +kernel
theorem dX10_putFour_28 : decode cX10_putFour 28 = .ok (.i2b, 1) := by decide +kernel
theorem dX10_putFour_29 : decode cX10_putFour 29 = .ok (.bastore, 1) := by decide +kernel
theorem dX10_putFour_30 : decode cX10_putFour 30 = .ok (.aload_n 0, 1) := by decide +kernel
theorem dX10_putFour_31 : decode cX10_putFour 31 = .ok (.dup, 1) := by decide +kernel
theorem dX10_putFour_32 : decode cX10_putFour 32 = .ok (.getfield 13, 3) := by decide +kernel
theorem dX10_putFour_35 : decode cX10_putFour 35 = .ok (.iconst 1, 1) := by decide +kernel
theorem dX10_putFour_36 : decode cX10_putFour 36 = .ok (.iadd, 1) := by decide +kernel
theorem dX10_putFour_37 : decode cX10_putFour 37 = .ok (.putfield 13, 3) := by decide +kernel
theorem dX10_putFour_40 : decode cX10_putFour 40 = .ok (.iinc 2 (-8), 3) := by decide +kernel
theorem dX10_putFour_43 : decode cX10_putFour 43 = .ok (.goto (-40), 3) := by decide +kernel
theorem dX10_putFour_46 : decode cX10_putFour 46 = .ok (.return_, 1) := by decide +kernel
theorem dX10_read_0 : decode cX10_read 0 = .ok (.aload_n 0, 1) := by decide +kernel
theorem dX10_read_1 : decode cX10_read 1 = .ok (.getfield 40, 3) := by decide +kernel
theorem dX10_read_4 : decode cX10_read 4 = .ok (.aload_n 0, 1) := by decide +kernel
theorem dX10_read_5 : decode cX10_read 5 = .ok (.getfield 24, 3) := by decide +kernel
theorem dX10_read_8 : decode cX10_read 8 = .ok (.aload_n 0, 1) := by decide +kernel
theorem dX10_read_9 : decode cX10_read 9 = .ok (.getfield 9, 3) := by decide +kernel
theorem dX10_read_12 : decode cX10_read 12 = .ok (.aload_n 0, 1) := by decide +kernel
theorem dX10_read_13 : decode cX10_read 13 = .ok (.getfield 13, 3) := by decide +kernel
theorem dX10_read_16 : decode cX10_read 16 = .ok (.invokevirtual 75, 3) := by decide +kernel
theorem dX10_read_19 : decode cX10_read 19 = .ok (.aload_n 0, 1) := by decide +kernel
theorem dX10_read_20 : decode cX10_read 20 = .ok (.iconst 0, 1) := by decide +kernel
theorem dX10_read_21 : decode cX10_read 21 = .ok (.putfield 13, 3) := by decide +kernel
theorem dX10_read_24 : decode cX10_read 24 = .ok (.aload_n 0, 1) := by decide +kernel
theorem dX10_read_25 : decode cX10_read 25 = .ok (.aload_n 0, 1) := by decide +kernel
theorem dX10_read_26 : decode cX10_read 26 = .ok (.getfield 40, 3) := by decide +kernel
theorem dX10_read_29 : decode cX10_read 29 = .ok (.getfield 79, 3) := by decide +kernel
theorem dX10_read_32 : decode cX10_read 32 = .ok (.putfield 65, 3) := by decide +kernel
theorem dX10_read_35 : decode cX10_read 35 = .ok (.aload_n 0, 1) := by decide +kernel
theorem dX10_read_36 : decode cX10_read 36 = .ok (.aload_n 0, 1) := by decide +kernel
theorem dX10_read_37 : decode cX10_read 37 = .ok (.getfield 40, 3) := by decide +kernel
theorem dX10_read_40 : decode cX10_read 40 = .ok (.getfield 82, 3) := by decide +kernel
theorem dX10_read_43 : decode cX10_read 43 = .ok (.putfield 68, 3) := by decide +kernel
theorem dX10_read_46 : decode cX10_read 46 = .ok (.aload_n 0, 1) := by decide +kernel
theorem dX10_read_47 : decode cX10_read 47 = .ok (.getfield 65, 3) := by decide +kernel
theorem dX10_read_50 : decode cX10_read 50 = .ok (.ifCond .eq 5, 3) := by decide +kernel
theorem dX10_read_53 : decode cX10_read 53 = .ok (.iconst (-1), 1) := by decide +kernel
theorem dX10_read_54 : decode cX10_read 54 = .ok (.ireturn, 1) := by decide +kernel
theorem dX10_read_55 : decode cX10_read 55 = .ok (.aload_n 0, 1) := by decide +kernel
theorem dX10_read_56 : decode cX10_read 56 = .ok (.getfield 20, 3) := by decide +kernel
theorem dX10_read_59 : decode cX10_read 59 = .ok (.astore_n 1, 1) := by decide +kernel
theorem dX10_read_60 : decode cX10_read 60 = .ok (.aload_n 0, 1) := by decide +kernel
theorem dX10_read_61 : decode cX10_read 61 = .ok (.aload_n 0, 1) := by decide +kernel
theorem dX10_read_62 : decode cX10_read 62 = .ok (.getfield 24, 3) := by decide +kernel
theorem dX10_read_65 : decode cX10_read 65 = .ok (.putfield 20, 3) := by decide +kernel
theorem dX10_read_68 : decode cX10_read 68 = .ok (.aload_n 0, 1) := by decide +kernel
theorem dX10_read_69 : decode cX10_read 69 = .ok (.aload_n 1, 1) := by decide +kernel
theorem dX10_read_70 : decode cX10_read 70 = .ok (.putfield 24, 3) := by decide +kernel
theorem dX10_read_73 : decode cX10_read 73 = .ok (.aload_n 0, 1) := by decide +kernel
theorem dX10_read_74 : decode cX10_read 74 = .ok (.iconst 1, 1) := by decide +kernel
theorem dX10_read_75 : decode cX10_read 75 = .ok (.putfield 27, 3) := by decide +kernel
theorem dX10_read_78 : decode cX10_read 78 = .ok (.aload_n 0, 1) := by decide +kernel
theorem dX10_read_79 : decode cX10_read 79 = .ok (.iconst 0, 1) := by decide +kernel
theorem dX10_read_80 : decode cX10_read 80 = .ok (.putfield 31, 3) := by decide +kernel
theorem dX10_read_83 : decode cX10_read 83 = .ok (.aload_n 0, 1) := by decide +kernel
theorem dX10_read_84 : decode cX10_read 84 = .ok (.iconst 0, 1) := by decide +kernel
theorem dX10_read_85 : decode cX10_read 85 = .ok (.putfield 34, 3) := by decide +kernel
theorem dX10_read_88 : decode cX10_read 88 = .ok (.aload_n 0, 1) := by decide +kernel
theorem dX10_read_89 : decode cX10_read 89 = .ok (.getfield 20, 3) := by decide +kernel
theorem dX10_read_92 : decode cX10_read 92 = .ok (.getfield 85, 3) := by decide +kernel
theorem dX10_read_95 : decode cX10_read 95 = .ok (.ireturn, 1) := by decide +kernel
theorem dX10_run_0 : decode cX10_run 0 = .ok (.aload_n 0, 1) := by decide +kernel
theorem dX10_run_1 : decode cX10_run 1 = .ok (.getfield 31, 3) := by decide +kernel
theorem dX10_run_4 : decode cX10_run 4 = .ok (.ifCond .eq 10, 3) := by decide +kernel
theorem dX10_run_7 : decode cX10_run 7 = .ok (.iload_n 1, 1) := by decide +kernel
theorem dX10_run_8 : decode cX10_run 8 = .ok (.invokestatic 147, 3) := by decide +kernel
theorem dX10_run_11 : decode cX10_run 11 = .ok (.ifCond .ne 5, 3) := by decide +kernel
theorem dX10_run_14 : decode cX10_run 14 = .ok (.iconst (-1), 1) := by decide +kernel
theorem dX10_run_15 : decode cX10_run 15 = .ok (.ireturn, 1) := by decide +kernel
theorem dX10_run_16 : decode cX10_run 16 = .ok (.aload_n 0, 1) := by decide +kernel
theorem dX10_run_17 : decode cX10_run 17 = .ok (.iconst 1, 1) := by decide +kernel
theorem dX10_run_18 : decode cX10_run 18 = .ok (.putfield 34, 3) := by decide +kernel
theorem dX10_run_21 : decode cX10_run 21 = .ok (.aload_n 0, 1) := by decide +kernel
theorem dX10_run_22 : decode cX10_run 22 = .ok (.getfield 61, 3) := by decide +kernel
theorem dX10_run_25 : decode cX10_run 25 = .ok (.aload_n 0, 1) := by decide +kernel
theorem dX10_run_26 : decode cX10_run 26 = .ok (.getfield 20, 3) := by decide +kernel
theorem dX10_run_29 : decode cX10_run 29 = .ok (.aload_n 0, 1) := by decide +kernel
theorem dX10_run_30 : decode cX10_run 30 = .ok (.getfield 47, 3) := by decide +kernel
theorem dX10_run_33 : decode cX10_run 33 = .ok (.iconst 1, 1) := by decide +kernel
theorem dX10_run_34 : decode cX10_run 34 = .ok (.iload_n 1, 1) := by decide +kernel
theorem dX10_run_35 : decode cX10_run 35 = .ok (.invokevirtual 150, 3) := by decide +kernel
theorem dX10_run_38 : decode cX10_run 38 = .ok (.ireturn, 1) := by decide +kernel
theorem dX10_runUntold_0 : decode cX10_runUntold 0 = .ok (.aload_n 0, 1) := by decide +kernel
theorem dX10_runUntold_1 : decode cX10_runUntold 1 = .ok (.getfield 27, 3) := by decide +kernel
theorem dX10_runUntold_4 : decode cX10_runUntold 4 = .ok (.ifCond .eq 10, 3) := by decide +kernel
theorem dX10_runUntold_7 : decode cX10_runUntold 7 = .ok (.iload_n 1, 1) := by decide +kernel
theorem dX10_runUntold_8 : decode cX10_runUntold 8 = .ok (.invokestatic 147, 3) := by decide +kernel
theorem dX10_runUntold_11 : decode cX10_runUntold 11 = .ok (.ifCond .ne 5, 3) := by decide +kernel
theorem dX10_runUntold_14 : decode cX10_runUntold 14 = .ok (.iconst (-1), 1) := by decide +kernel
theorem dX10_runUntold_15 : decode cX10_runUntold 15 = .ok (.ireturn, 1) := by decide +kernel
theorem dX10_runUntold_16 : decode cX10_runUntold 16 = .ok (.aload_n 0, 1) := by decide +kernel
theorem dX10_runUntold_17 : decode cX10_runUntold 17 = .ok (.iconst 1, 1) := by decide +kernel
theorem dX10_runUntold_18 : decode cX10_runUntold 18 = .ok (.putfield 34, 3) := by decide +kernel
theorem dX10_runUntold_21 : decode cX10_runUntold 21 = .ok (.aload_n 0, 1) := by decide +kernel
theorem dX10_runUntold_22 : decode cX10_runUntold 22 = .ok (.getfield 61, 3) := by decide +kernel
theorem dX10_runUntold_25 : decode cX10_runUntold 25 = .ok (.aload_n 0, 1) := by decide +kernel
theorem dX10_runUntold_26 : decode cX10_runUntold 26 = .ok (.getfield 20, 3) := by decide +kernel
theorem dX10_runUntold_29 : decode cX10_runUntold 29 = .ok (.aload_n 0, 1) := by decide +kernel
theorem dX10_runUntold_30 : decode cX10_runUntold 30 = .ok (.getfield 47, 3) := by decide +kernel
theorem dX10_runUntold_33 : decode cX10_runUntold 33 = .ok (.iconst 0, 1) := by decide +kernel
theorem dX10_runUntold_34 : decode cX10_runUntold 34 = .ok (.iload_n 1, 1) := by decide +kernel
theorem dX10_runUntold_35 : decode cX10_runUntold 35 = .ok (.invokevirtual 150, 3) := by decide +kernel
theorem dX10_runUntold_38 : decode cX10_runUntold 38 = .ok (.ireturn, 1) := by decide +kernel
theorem dX10_tell_0 : decode cX10_tell 0 = .ok (.aload_n 0, 1) := by decide +kernel
theorem dX10_tell_1 : decode cX10_tell 1 = .ok (.iload_n 1, 1) := by decide +kernel
theorem dX10_tell_2 : decode cX10_tell 2 = .ok (.invokevirtual 88, 3) := by decide +kernel
theorem dX10_tell_5 : decode cX10_tell 5 = .ok (.ifCond .ne 5, 3) := by decide +kernel
theorem dX10_tell_8 : decode cX10_tell 8 = .ok (.iconst 0, 1) := by decide +kernel
theorem dX10_tell_9 : decode cX10_tell 9 = .ok (.ireturn, 1) := by decide +kernel
theorem dX10_tell_10 : decode cX10_tell 10 = .ok (.aload_n 0, 1) := by decide +kernel
theorem dX10_tell_11 : decode cX10_tell 11 = .ok (.getfield 20, 3) := by decide +kernel
theorem dX10_tell_14 : decode cX10_tell 14 = .ok (.getfield 92, 3) := by decide +kernel
theorem dX10_tell_17 : decode cX10_tell 17 = .ok (.iload_n 1, 1) := by decide +kernel
theorem dX10_tell_18 : decode cX10_tell 18 = .ok (.iload_n 2, 1) := by decide +kernel
theorem dX10_tell_19 : decode cX10_tell 19 = .ok (.bastore, 1) := by decide +kernel
theorem dX10_tell_20 : decode cX10_tell 20 = .ok (.aload_n 0, 1) := by decide +kernel
theorem dX10_tell_21 : decode cX10_tell 21 = .ok (.iconst 0, 1) := by decide +kernel
theorem dX10_tell_22 : decode cX10_tell 22 = .ok (.putfield 31, 3) := by decide +kernel
theorem dX10_tell_25 : decode cX10_tell 25 = .ok (.iconst 1, 1) := by decide +kernel
theorem dX10_tell_26 : decode cX10_tell 26 = .ok (.ireturn, 1) := by decide +kernel
theorem dX10_told_0 : decode cX10_told 0 = .ok (.aload_n 0, 1) := by decide +kernel
theorem dX10_told_1 : decode cX10_told 1 = .ok (.getfield 34, 3) := by decide +kernel
theorem dX10_told_4 : decode cX10_told 4 = .ok (.ifCond .eq 14, 3) := by decide +kernel
theorem dX10_told_7 : decode cX10_told 7 = .ok (.aload_n 0, 1) := by decide +kernel
theorem dX10_told_8 : decode cX10_told 8 = .ok (.getfield 61, 3) := by decide +kernel
theorem dX10_told_11 : decode cX10_told 11 = .ok (.iload_n 1, 1) := by decide +kernel
theorem dX10_told_12 : decode cX10_told 12 = .ok (.invokevirtual 154, 3) := by decide +kernel
theorem dX10_told_15 : decode cX10_told 15 = .ok (.goto 4, 3) := by decide +kernel
theorem dX10_told_18 : decode cX10_told 18 = .ok (.iconst (-1), 1) := by decide +kernel
theorem dX10_told_19 : decode cX10_told 19 = .ok (.ireturn, 1) := by decide +kernel
theorem dX7_contentTold_0 : decode cX7_contentTold 0 = .ok (.lload_n 1, 1) := by decide +kernel
theorem dX7_contentTold_1 : decode cX7_contentTold 1 = .ok (.invokestatic 140, 3) := by decide +kernel
theorem dX7_contentTold_4 : decode cX7_contentTold 4 = .ok (.iconst 3, 1) := by decide +kernel
theorem dX7_contentTold_5 : decode cX7_contentTold 5 = .ok (.if_icmp .ne 14, 3) := by decide +kernel
theorem dX7_contentTold_8 : decode cX7_contentTold 8 = .ok (.aload_n 0, 1) := by decide +kernel
theorem dX7_contentTold_9 : decode cX7_contentTold 9 = .ok (.getfield 18, 3) := by decide +kernel
theorem dX7_contentTold_12 : decode cX7_contentTold 12 = .ok (.lload_n 1, 1) := by decide +kernel
theorem dX7_contentTold_13 : decode cX7_contentTold 13 = .ok (.invokevirtual 156, 3) := by decide +kernel
theorem dX7_contentTold_16 : decode cX7_contentTold 16 = .ok (.goto 7, 3) := by decide +kernel
theorem dX7_contentTold_19 : decode cX7_contentTold 19 = .ok (.lload_n 1, 1) := by decide +kernel
theorem dX7_contentTold_20 : decode cX7_contentTold 20 = .ok (.invokestatic 159, 3) := by decide +kernel
theorem dX7_contentTold_23 : decode cX7_contentTold 23 = .ok (.ireturn, 1) := by decide +kernel
theorem dX7_tellOf_0 : decode cX7_tellOf 0 = .ok (.aload_n 0, 1) := by decide +kernel
theorem dX7_tellOf_1 : decode cX7_tellOf 1 = .ok (.getfield 66, 3) := by decide +kernel
theorem dX7_tellOf_4 : decode cX7_tellOf 4 = .ok (.ifCond .le 17, 3) := by decide +kernel
theorem dX7_tellOf_7 : decode cX7_tellOf 7 = .ok (.aload_n 0, 1) := by decide +kernel
theorem dX7_tellOf_8 : decode cX7_tellOf 8 = .ok (.getfield 63, 3) := by decide +kernel
theorem dX7_tellOf_11 : decode cX7_tellOf 11 = .ok (.aload_n 0, 1) := by decide +kernel
theorem dX7_tellOf_12 : decode cX7_tellOf 12 = .ok (.getfield 66, 3) := by decide +kernel
theorem dX7_tellOf_15 : decode cX7_tellOf 15 = .ok (.iconst 1, 1) := by decide +kernel
theorem dX7_tellOf_16 : decode cX7_tellOf 16 = .ok (.isub, 1) := by decide +kernel
theorem dX7_tellOf_17 : decode cX7_tellOf 17 = .ok (.laload, 1) := by decide +kernel
theorem dX7_tellOf_18 : decode cX7_tellOf 18 = .ok (.goto 4, 3) := by decide +kernel
theorem dX7_tellOf_21 : decode cX7_tellOf 21 = .ok (.lconst 0, 1) := by decide +kernel
theorem dX7_tellOf_22 : decode cX7_tellOf 22 = .ok (.lstore_n 2, 1) := by decide +kernel
theorem dX7_tellOf_23 : decode cX7_tellOf 23 = .ok (.iload_n 1, 1) := by decide +kernel
theorem dX7_tellOf_24 : decode cX7_tellOf 24 = .ok (.tableswitch 164 0 9 #[56, 61, 66, 71, 76, 99, 123, 143, 148, 156], 56) := by decide +kernel
theorem dX7_tellOf_80 : decode cX7_tellOf 80 = .ok (.aload_n 0, 1) := by decide +kernel
theorem dX7_tellOf_81 : decode cX7_tellOf 81 = .ok (.getfield 33, 3) := by decide +kernel
theorem dX7_tellOf_84 : decode cX7_tellOf 84 = .ok (.ireturn, 1) := by decide +kernel
theorem dX7_tellOf_85 : decode cX7_tellOf 85 = .ok (.aload_n 0, 1) := by decide +kernel
theorem dX7_tellOf_86 : decode cX7_tellOf 86 = .ok (.getfield 37, 3) := by decide +kernel
theorem dX7_tellOf_89 : decode cX7_tellOf 89 = .ok (.ireturn, 1) := by decide +kernel
theorem dX7_tellOf_90 : decode cX7_tellOf 90 = .ok (.aload_n 0, 1) := by decide +kernel
theorem dX7_tellOf_91 : decode cX7_tellOf 91 = .ok (.getfield 40, 3) := by decide +kernel
theorem dX7_tellOf_94 : decode cX7_tellOf 94 = .ok (.ireturn, 1) := by decide +kernel
theorem dX7_tellOf_95 : decode cX7_tellOf 95 = .ok (.aload_n 0, 1) := by decide +kernel
theorem dX7_tellOf_96 : decode cX7_tellOf 96 = .ok (.getfield 46, 3) := by decide +kernel
theorem dX7_tellOf_99 : decode cX7_tellOf 99 = .ok (.ireturn, 1) := by decide +kernel
theorem dX7_tellOf_100 : decode cX7_tellOf 100 = .ok (.aload_n 0, 1) := by decide +kernel
theorem dX7_tellOf_101 : decode cX7_tellOf 101 = .ok (.getfield 33, 3) := by decide +kernel
theorem dX7_tellOf_104 : decode cX7_tellOf 104 = .ok (.ifCond .ne 17, 3) := by decide +kernel
theorem dX7_tellOf_107 : decode cX7_tellOf 107 = .ok (.aload_n 0, 1) := by decide +kernel
theorem dX7_tellOf_108 : decode cX7_tellOf 108 = .ok (.getfield 18, 3) := by decide +kernel
theorem dX7_tellOf_111 : decode cX7_tellOf 111 = .ok (.lload_n 2, 1) := by decide +kernel
theorem dX7_tellOf_112 : decode cX7_tellOf 112 = .ok (.invokevirtual 136, 3) := by decide +kernel
theorem dX7_tellOf_115 : decode cX7_tellOf 115 = .ok (.invokestatic 140, 3) := by decide +kernel
theorem dX7_tellOf_118 : decode cX7_tellOf 118 = .ok (.goto 4, 3) := by decide +kernel
theorem dX7_tellOf_121 : decode cX7_tellOf 121 = .ok (.iconst (-1), 1) := by decide +kernel
theorem dX7_tellOf_122 : decode cX7_tellOf 122 = .ok (.ireturn, 1) := by decide +kernel
theorem dX7_tellOf_123 : decode cX7_tellOf 123 = .ok (.aload_n 0, 1) := by decide +kernel
theorem dX7_tellOf_124 : decode cX7_tellOf 124 = .ok (.getfield 33, 3) := by decide +kernel
theorem dX7_tellOf_127 : decode cX7_tellOf 127 = .ok (.ifCond .ne 18, 3) := by decide +kernel
theorem dX7_tellOf_130 : decode cX7_tellOf 130 = .ok (.aload_n 0, 1) := by decide +kernel
theorem dX7_tellOf_131 : decode cX7_tellOf 131 = .ok (.aload_n 0, 1) := by decide +kernel
theorem dX7_tellOf_132 : decode cX7_tellOf 132 = .ok (.getfield 18, 3) := by decide +kernel
theorem dX7_tellOf_135 : decode cX7_tellOf 135 = .ok (.lload_n 2, 1) := by decide +kernel
theorem dX7_tellOf_136 : decode cX7_tellOf 136 = .ok (.invokevirtual 136, 3) := by decide +kernel
theorem dX7_tellOf_139 : decode cX7_tellOf 139 = .ok (.invokevirtual 144, 3) := by decide +kernel
theorem dX7_tellOf_142 : decode cX7_tellOf 142 = .ok (.goto 4, 3) := by decide +kernel
theorem dX7_tellOf_145 : decode cX7_tellOf 145 = .ok (.iconst (-1), 1) := by decide +kernel
theorem dX7_tellOf_146 : decode cX7_tellOf 146 = .ok (.ireturn, 1) := by decide +kernel
theorem dX7_tellOf_147 : decode cX7_tellOf 147 = .ok (.aload_n 0, 1) := by decide +kernel
theorem dX7_tellOf_148 : decode cX7_tellOf 148 = .ok (.getfield 33, 3) := by decide +kernel
theorem dX7_tellOf_151 : decode cX7_tellOf 151 = .ok (.ifCond .ne 14, 3) := by decide +kernel
theorem dX7_tellOf_154 : decode cX7_tellOf 154 = .ok (.aload_n 0, 1) := by decide +kernel
theorem dX7_tellOf_155 : decode cX7_tellOf 155 = .ok (.getfield 18, 3) := by decide +kernel
theorem dX7_tellOf_158 : decode cX7_tellOf 158 = .ok (.lload_n 2, 1) := by decide +kernel
theorem dX7_tellOf_159 : decode cX7_tellOf 159 = .ok (.invokevirtual 147, 3) := by decide +kernel
theorem dX7_tellOf_162 : decode cX7_tellOf 162 = .ok (.goto 4, 3) := by decide +kernel
theorem dX7_tellOf_165 : decode cX7_tellOf 165 = .ok (.iconst (-1), 1) := by decide +kernel
theorem dX7_tellOf_166 : decode cX7_tellOf 166 = .ok (.ireturn, 1) := by decide +kernel
theorem dX7_tellOf_167 : decode cX7_tellOf 167 = .ok (.aload_n 0, 1) := by decide +kernel
theorem dX7_tellOf_168 : decode cX7_tellOf 168 = .ok (.getfield 75, 3) := by decide +kernel
theorem dX7_tellOf_171 : decode cX7_tellOf 171 = .ok (.ireturn, 1) := by decide +kernel
theorem dX7_tellOf_172 : decode cX7_tellOf 172 = .ok (.aload_n 0, 1) := by decide +kernel
theorem dX7_tellOf_173 : decode cX7_tellOf 173 = .ok (.getfield 18, 3) := by decide +kernel
theorem dX7_tellOf_176 : decode cX7_tellOf 176 = .ok (.getfield 150, 3) := by decide +kernel
theorem dX7_tellOf_179 : decode cX7_tellOf 179 = .ok (.ireturn, 1) := by decide +kernel
theorem dX7_tellOf_180 : decode cX7_tellOf 180 = .ok (.aload_n 0, 1) := by decide +kernel
theorem dX7_tellOf_181 : decode cX7_tellOf 181 = .ok (.getfield 18, 3) := by decide +kernel
theorem dX7_tellOf_184 : decode cX7_tellOf 184 = .ok (.getfield 153, 3) := by decide +kernel
theorem dX7_tellOf_187 : decode cX7_tellOf 187 = .ok (.ireturn, 1) := by decide +kernel
theorem dX7_tellOf_188 : decode cX7_tellOf 188 = .ok (.iconst (-1), 1) := by decide +kernel
theorem dX7_tellOf_189 : decode cX7_tellOf 189 = .ok (.ireturn, 1) := by decide +kernel
theorem k282 : Cond.fieldLink "BlameCourt" 115 "BlameCourt$Program" "kinds" "LBlameCourt$Kinds;" ∈ gtb := gtm (in_tables_1_1 (List.mem_of_getElem? (i := 96) rfl)) rfl
theorem k287 : Cond.fieldLink "BlameCourt" 85 "BlameCourt$Program" "parts" "I" ∈ gtb := gtm (in_tables_1_1 (List.mem_of_getElem? (i := 101) rfl)) rfl
theorem k296 : Cond.fieldLink "BlameCourt" 134 "BlameCourt$Program" "letters" "[I" ∈ gtb := gtm (in_tables_1_1 (List.mem_of_getElem? (i := 110) rfl)) rfl
theorem k299 : Cond.fieldLink "BlameCourt" 140 "BlameCourt$Program" "partPlace" "[I" ∈ gtb := gtm (in_tables_1_1 (List.mem_of_getElem? (i := 113) rfl)) rfl
theorem k302 : Cond.fieldLink "BlameCourt" 131 "BlameCourt$Program" "params" "[I" ∈ gtb := gtm (in_tables_1_1 (List.mem_of_getElem? (i := 116) rfl)) rfl
theorem k312 : Cond.fieldLink "BlameCourt" 92 "BlameCourt$Program" "isTold" "[Z" ∈ gtb := gtm (in_tables_1_1 (List.mem_of_getElem? (i := 126) rfl)) rfl
theorem k420 : Cond.fieldLink "BlameCourt" 79 "BlameCourt$Reade\x72" "fault" "I" ∈ gtb := gtm (in_tables_1_1 (List.mem_of_getElem? (i := 234) rfl)) rfl
theorem k422 : Cond.fieldLink "BlameCourt" 82 "BlameCourt$Reade\x72" "faultPlace" "I" ∈ gtb := gtm (in_tables_1_1 (List.mem_of_getElem? (i := 236) rfl)) rfl
theorem k468 : Cond.fieldLink "BlameCourt" 105 "BlameCourt$Guards" "place" "[I" ∈ gtb := gtm (in_tables_1_2 (List.mem_of_getElem? (i := 42) rfl)) rfl
theorem k471 : Cond.fieldLink "BlameCourt" 109 "BlameCourt$Guards" "give\x72" "[I" ∈ gtb := gtm (in_tables_1_2 (List.mem_of_getElem? (i := 45) rfl)) rfl
theorem k474 : Cond.fieldLink "BlameCourt" 112 "BlameCourt$Guards" "take\x72" "[I" ∈ gtb := gtm (in_tables_1_2 (List.mem_of_getElem? (i := 48) rfl)) rfl
theorem k477 : Cond.fieldLink "BlameCourt" 119 "BlameCourt$Guards" "from" "[I" ∈ gtb := gtm (in_tables_1_2 (List.mem_of_getElem? (i := 51) rfl)) rfl
theorem k480 : Cond.fieldLink "BlameCourt" 128 "BlameCourt$Guards" "to" "[I" ∈ gtb := gtm (in_tables_1_2 (List.mem_of_getElem? (i := 54) rfl)) rfl
theorem k484 : Cond.fieldLink "BlameCourt" 102 "BlameCourt$Guards" "count" "I" ∈ gtb := gtm (in_tables_1_2 (List.mem_of_getElem? (i := 58) rfl)) rfl
theorem k510 : Cond.fieldLink "BlameCourt" 100 "BlameCourt$Judging" "fault" "I" ∈ gtb := gtm (in_tables_1_2 (List.mem_of_getElem? (i := 84) rfl)) rfl
theorem k512 : Cond.fieldLink "BlameCourt" 101 "BlameCourt$Judging" "faultPlace" "I" ∈ gtb := gtm (in_tables_1_2 (List.mem_of_getElem? (i := 86) rfl)) rfl
theorem k514 : Cond.fieldLink "BlameCourt" 137 "BlameCourt$Judging" "anyStands" "[Z" ∈ gtb := gtm (in_tables_1_2 (List.mem_of_getElem? (i := 88) rfl)) rfl
theorem k567 : Cond.fieldLink "BlameCourt$Running" 153 "BlameCourt$Heap" "rows" "I" ∈ gtb := gtm (in_tables_1_2 (List.mem_of_getElem? (i := 141) rfl)) rfl
theorem k633 : Cond.fieldLink "BlameCourt" 160 "BlameCourt$Running" "outNumbers" "[I" ∈ gtb := gtm (in_tables_1_2 (List.mem_of_getElem? (i := 207) rfl)) rfl
theorem k635 : Cond.fieldLink "BlameCourt" 157 "BlameCourt$Running" "outs" "I" ∈ gtb := gtm (in_tables_1_2 (List.mem_of_getElem? (i := 209) rfl)) rfl
theorem k637 : Cond.fieldLink "BlameCourt" 163 "BlameCourt$Running" "askings" "[I" ∈ gtb := gtm (in_tables_1_2 (List.mem_of_getElem? (i := 211) rfl)) rfl
theorem k679 : Cond.fieldLink "BlameCourt" 9 "BlameCourt" "tape" "[B" ∈ gtb := gtm (in_tables_1_3 (List.mem_of_getElem? (i := 13) rfl)) rfl
theorem k680 : Cond.fieldLink "BlameCourt" 13 "BlameCourt" "tapeLength" "I" ∈ gtb := gtm (in_tables_1_3 (List.mem_of_getElem? (i := 14) rfl)) rfl
theorem k681 : Cond.fieldLink "BlameCourt" 20 "BlameCourt" "program" "LBlameCourt$Program;" ∈ gtb := gtm (in_tables_1_3 (List.mem_of_getElem? (i := 15) rfl)) rfl
theorem k682 : Cond.fieldLink "BlameCourt" 24 "BlameCourt" "spare" "LBlameCourt$Program;" ∈ gtb := gtm (in_tables_1_3 (List.mem_of_getElem? (i := 16) rfl)) rfl
theorem k683 : Cond.fieldLink "BlameCourt" 27 "BlameCourt" "hasProgram" "Z" ∈ gtb := gtm (in_tables_1_3 (List.mem_of_getElem? (i := 17) rfl)) rfl
theorem k684 : Cond.fieldLink "BlameCourt" 31 "BlameCourt" "isJudged" "Z" ∈ gtb := gtm (in_tables_1_3 (List.mem_of_getElem? (i := 18) rfl)) rfl
theorem k685 : Cond.fieldLink "BlameCourt" 34 "BlameCourt" "hasRun" "Z" ∈ gtb := gtm (in_tables_1_3 (List.mem_of_getElem? (i := 19) rfl)) rfl
theorem k686 : Cond.fieldLink "BlameCourt" 40 "BlameCourt" "reade\x72" "LBlameCourt$Reader;" ∈ gtb := gtm (in_tables_1_3 (List.mem_of_getElem? (i := 20) rfl)) rfl
theorem k687 : Cond.fieldLink "BlameCourt" 47 "BlameCourt" "guards" "LBlameCourt$Guards;" ∈ gtb := gtm (in_tables_1_3 (List.mem_of_getElem? (i := 21) rfl)) rfl
theorem k688 : Cond.fieldLink "BlameCourt" 54 "BlameCourt" "judging" "LBlameCourt$Judging;" ∈ gtb := gtm (in_tables_1_3 (List.mem_of_getElem? (i := 22) rfl)) rfl
theorem k689 : Cond.fieldLink "BlameCourt" 61 "BlameCourt" "running" "LBlameCourt$Running;" ∈ gtb := gtm (in_tables_1_3 (List.mem_of_getElem? (i := 23) rfl)) rfl
theorem k690 : Cond.fieldLink "BlameCourt" 65 "BlameCourt" "latestFault" "I" ∈ gtb := gtm (in_tables_1_3 (List.mem_of_getElem? (i := 24) rfl)) rfl
theorem k691 : Cond.fieldLink "BlameCourt" 68 "BlameCourt" "latestFaultPlace" "I" ∈ gtb := gtm (in_tables_1_3 (List.mem_of_getElem? (i := 25) rfl)) rfl
theorem k723 : Cond.methodLink "BlameCourt" 71 yX10_putFour ∈ gtb := gtm (in_tables_1_3 (List.mem_of_getElem? (i := 57) rfl)) rfl
theorem k735 : Cond.methodLink "BlameCourt" 75 yX6_readInto ∈ gtb := gtm (in_tables_1_3 (List.mem_of_getElem? (i := 69) rfl)) rfl
theorem k988 : Cond.methodLink "BlameCourt" 88 yX10_isPart ∈ gtb := gtm (in_tables_1_4 (List.mem_of_getElem? (i := 82) rfl)) rfl
theorem k996 : Cond.methodLink "BlameCourt" 96 yX2_judgeAll ∈ gtb := gtm (in_tables_1_4 (List.mem_of_getElem? (i := 90) rfl)) rfl
theorem k1116 : Cond.methodLink "BlameCourt" 122 yX3_codeOf ∈ gtb := gtm (in_tables_1_4 (List.mem_of_getElem? (i := 210) rfl)) rfl
theorem k1121 : Cond.methodLink "BlameCourt" 143 yX5_letterOf ∈ gtb := gtm (in_tables_1_4 (List.mem_of_getElem? (i := 215) rfl)) rfl
theorem k1129 : Cond.methodLink "BlameCourt" 147 yX10_isFuel ∈ gtb := gtm (in_tables_1_4 (List.mem_of_getElem? (i := 223) rfl)) rfl
theorem k1130 : Cond.static yX10_isFuel ∈ gtb := gtm (in_tables_1_4 (List.mem_of_getElem? (i := 224) rfl)) rfl
theorem k1132 : Cond.methodLink "BlameCourt" 150 yX7_runAll ∈ gtb := gtm (in_tables_1_4 (List.mem_of_getElem? (i := 226) rfl)) rfl
theorem k1327 : Cond.methodLink "BlameCourt" 154 yX7_tellOf ∈ gtb := gtm (in_tables_1_5 (List.mem_of_getElem? (i := 181) rfl)) rfl
theorem k1331 : Cond.methodLink "BlameCourt$Running" 144 yX7_contentTold ∈ gtb := gtm (in_tables_1_5 (List.mem_of_getElem? (i := 185) rfl)) rfl
theorem k1335 : Cond.methodLink "BlameCourt$Running" 147 yX1_wrappingsAround ∈ gtb := gtm (in_tables_1_5 (List.mem_of_getElem? (i := 189) rfl)) rfl
theorem k1350 : Cond.code yX10_about cX10_about 2 (some .int) ∈ gtb := gtm (in_tables_1_5 (List.mem_of_getElem? (i := 204) rfl)) rfl
theorem k187 : Cond.initialized "BlameCourt" ∈ gtb := gtm (in_tables_1_1 (List.mem_of_getElem? (i := 1) rfl)) rfl
theorem ka_X10_about : KA yX10_about cX10_about 2 (some .int) 1 := ⟨k1350, k187, by decide, by decide, by decide +kernel⟩
theorem k1348 : Cond.instanceMethod yX10_about ∈ gtb := gtm (in_tables_1_5 (List.mem_of_getElem? (i := 202) rfl)) rfl
theorem k1349 : Cond.selects "BlameCourt" yX10_about yX10_about ∈ gtb := gtm (in_tables_1_5 (List.mem_of_getElem? (i := 203) rfl)) rfl
theorem kv_X10_about : KV yX10_about := ⟨k1348, k1349⟩
theorem k1346 : Cond.code yX10_asked cX10_asked 3 (some .int) ∈ gtb := gtm (in_tables_1_5 (List.mem_of_getElem? (i := 200) rfl)) rfl
theorem ka_X10_asked : KA yX10_asked cX10_asked 3 (some .int) 2 := ⟨k1346, k187, by decide, by decide, by decide +kernel⟩
theorem k1344 : Cond.instanceMethod yX10_asked ∈ gtb := gtm (in_tables_1_5 (List.mem_of_getElem? (i := 198) rfl)) rfl
theorem k1345 : Cond.selects "BlameCourt" yX10_asked yX10_asked ∈ gtb := gtm (in_tables_1_5 (List.mem_of_getElem? (i := 199) rfl)) rfl
theorem kv_X10_asked : KV yX10_asked := ⟨k1344, k1345⟩
theorem k730 : Cond.code yX10_end cX10_end 2 (some .int) ∈ gtb := gtm (in_tables_1_3 (List.mem_of_getElem? (i := 64) rfl)) rfl
theorem ka_X10_end : KA yX10_end cX10_end 2 (some .int) 1 := ⟨k730, k187, by decide, by decide, by decide +kernel⟩
theorem k728 : Cond.instanceMethod yX10_end ∈ gtb := gtm (in_tables_1_3 (List.mem_of_getElem? (i := 62) rfl)) rfl
theorem k729 : Cond.selects "BlameCourt" yX10_end yX10_end ∈ gtb := gtm (in_tables_1_3 (List.mem_of_getElem? (i := 63) rfl)) rfl
theorem kv_X10_end : KV yX10_end := ⟨k728, k729⟩
theorem k983 : Cond.code yX10_fault cX10_fault 2 (some .int) ∈ gtb := gtm (in_tables_1_4 (List.mem_of_getElem? (i := 77) rfl)) rfl
theorem ka_X10_fault : KA yX10_fault cX10_fault 2 (some .int) 1 := ⟨k983, k187, by decide, by decide, by decide +kernel⟩
theorem k981 : Cond.instanceMethod yX10_fault ∈ gtb := gtm (in_tables_1_4 (List.mem_of_getElem? (i := 75) rfl)) rfl
theorem k982 : Cond.selects "BlameCourt" yX10_fault yX10_fault ∈ gtb := gtm (in_tables_1_4 (List.mem_of_getElem? (i := 76) rfl)) rfl
theorem kv_X10_fault : KV yX10_fault := ⟨k981, k982⟩
theorem k722 : Cond.code yX10_feed cX10_feed 6 (some .int) ∈ gtb := gtm (in_tables_1_3 (List.mem_of_getElem? (i := 56) rfl)) rfl
theorem ka_X10_feed : KA yX10_feed cX10_feed 6 (some .int) 5 := ⟨k722, k187, by decide, by decide, by decide +kernel⟩
theorem k720 : Cond.instanceMethod yX10_feed ∈ gtb := gtm (in_tables_1_3 (List.mem_of_getElem? (i := 54) rfl)) rfl
theorem k721 : Cond.selects "BlameCourt" yX10_feed yX10_feed ∈ gtb := gtm (in_tables_1_3 (List.mem_of_getElem? (i := 55) rfl)) rfl
theorem kv_X10_feed : KV yX10_feed := ⟨k720, k721⟩
theorem k1115 : Cond.code yX10_guard cX10_guard 3 (some .int) ∈ gtb := gtm (in_tables_1_4 (List.mem_of_getElem? (i := 209) rfl)) rfl
theorem ka_X10_guard : KA yX10_guard cX10_guard 3 (some .int) 2 := ⟨k1115, k187, by decide, by decide, by decide +kernel⟩
theorem k1113 : Cond.instanceMethod yX10_guard ∈ gtb := gtm (in_tables_1_4 (List.mem_of_getElem? (i := 207) rfl)) rfl
theorem k1114 : Cond.selects "BlameCourt" yX10_guard yX10_guard ∈ gtb := gtm (in_tables_1_4 (List.mem_of_getElem? (i := 208) rfl)) rfl
theorem kv_X10_guard : KV yX10_guard := ⟨k1113, k1114⟩
theorem k1131 : Cond.code yX10_isFuel cX10_isFuel 1 (some .boolean) ∈ gtb := gtm (in_tables_1_4 (List.mem_of_getElem? (i := 225) rfl)) rfl
theorem ka_X10_isFuel : KA yX10_isFuel cX10_isFuel 1 (some .boolean) 1 := ⟨k1131, k187, by decide, by decide, by decide +kernel⟩
theorem k991 : Cond.code yX10_isPart cX10_isPart 2 (some .boolean) ∈ gtb := gtm (in_tables_1_4 (List.mem_of_getElem? (i := 85) rfl)) rfl
theorem ka_X10_isPart : KA yX10_isPart cX10_isPart 2 (some .boolean) 1 := ⟨k991, k187, by decide, by decide, by decide +kernel⟩
theorem k990 : Cond.instanceMethod yX10_isPart ∈ gtb := gtm (in_tables_1_4 (List.mem_of_getElem? (i := 84) rfl)) rfl
theorem k46 : Cond.selects "BlameCourt" yX10_isPart yX10_isPart ∈ gtb := gtm (in_lw_privs_3 (q := (yX10_isPart, 13)) (List.mem_of_getElem? (i := 14) rfl)) rfl
theorem kv_X10_isPart : KV yX10_isPart := ⟨k990, k46⟩
theorem k995 : Cond.code yX10_judge cX10_judge 1 (some .int) ∈ gtb := gtm (in_tables_1_4 (List.mem_of_getElem? (i := 89) rfl)) rfl
theorem ka_X10_judge : KA yX10_judge cX10_judge 1 (some .int) 0 := ⟨k995, k187, by decide, by decide, by decide +kernel⟩
theorem k993 : Cond.instanceMethod yX10_judge ∈ gtb := gtm (in_tables_1_4 (List.mem_of_getElem? (i := 87) rfl)) rfl
theorem k994 : Cond.selects "BlameCourt" yX10_judge yX10_judge ∈ gtb := gtm (in_tables_1_4 (List.mem_of_getElem? (i := 88) rfl)) rfl
theorem kv_X10_judge : KV yX10_judge := ⟨k993, k994⟩
theorem k1342 : Cond.code yX10_out cX10_out 2 (some .int) ∈ gtb := gtm (in_tables_1_5 (List.mem_of_getElem? (i := 196) rfl)) rfl
theorem ka_X10_out : KA yX10_out cX10_out 2 (some .int) 1 := ⟨k1342, k187, by decide, by decide, by decide +kernel⟩
theorem k1340 : Cond.instanceMethod yX10_out ∈ gtb := gtm (in_tables_1_5 (List.mem_of_getElem? (i := 194) rfl)) rfl
theorem k1341 : Cond.selects "BlameCourt" yX10_out yX10_out ∈ gtb := gtm (in_tables_1_5 (List.mem_of_getElem? (i := 195) rfl)) rfl
theorem kv_X10_out : KV yX10_out := ⟨k1340, k1341⟩
theorem k1120 : Cond.code yX10_part cX10_part 3 (some .int) ∈ gtb := gtm (in_tables_1_4 (List.mem_of_getElem? (i := 214) rfl)) rfl
theorem ka_X10_part : KA yX10_part cX10_part 3 (some .int) 2 := ⟨k1120, k187, by decide, by decide, by decide +kernel⟩
theorem k1118 : Cond.instanceMethod yX10_part ∈ gtb := gtm (in_tables_1_4 (List.mem_of_getElem? (i := 212) rfl)) rfl
theorem k1119 : Cond.selects "BlameCourt" yX10_part yX10_part ∈ gtb := gtm (in_tables_1_4 (List.mem_of_getElem? (i := 213) rfl)) rfl
theorem kv_X10_part : KV yX10_part := ⟨k1118, k1119⟩
theorem k726 : Cond.code yX10_putFour cX10_putFour 3 none ∈ gtb := gtm (in_tables_1_3 (List.mem_of_getElem? (i := 60) rfl)) rfl
theorem ka_X10_putFour : KA yX10_putFour cX10_putFour 3 none 1 := ⟨k726, k187, by decide, by decide, by decide +kernel⟩
theorem k725 : Cond.instanceMethod yX10_putFour ∈ gtb := gtm (in_tables_1_3 (List.mem_of_getElem? (i := 59) rfl)) rfl
theorem k2 : Cond.selects "BlameCourt" yX10_putFour yX10_putFour ∈ gtb := gtm (in_lw_privs_1 (q := (yX10_putFour, 13)) (List.mem_of_getElem? (i := 2) rfl)) rfl
theorem kv_X10_putFour : KV yX10_putFour := ⟨k725, k2⟩
theorem k734 : Cond.code yX10_read cX10_read 2 (some .int) ∈ gtb := gtm (in_tables_1_3 (List.mem_of_getElem? (i := 68) rfl)) rfl
theorem ka_X10_read : KA yX10_read cX10_read 2 (some .int) 0 := ⟨k734, k187, by decide, by decide, by decide +kernel⟩
theorem k732 : Cond.instanceMethod yX10_read ∈ gtb := gtm (in_tables_1_3 (List.mem_of_getElem? (i := 66) rfl)) rfl
theorem k733 : Cond.selects "BlameCourt" yX10_read yX10_read ∈ gtb := gtm (in_tables_1_3 (List.mem_of_getElem? (i := 67) rfl)) rfl
theorem kv_X10_read : KV yX10_read := ⟨k732, k733⟩
theorem k1128 : Cond.code yX10_run cX10_run 2 (some .int) ∈ gtb := gtm (in_tables_1_4 (List.mem_of_getElem? (i := 222) rfl)) rfl
theorem ka_X10_run : KA yX10_run cX10_run 2 (some .int) 1 := ⟨k1128, k187, by decide, by decide, by decide +kernel⟩
theorem k1126 : Cond.instanceMethod yX10_run ∈ gtb := gtm (in_tables_1_4 (List.mem_of_getElem? (i := 220) rfl)) rfl
theorem k1127 : Cond.selects "BlameCourt" yX10_run yX10_run ∈ gtb := gtm (in_tables_1_4 (List.mem_of_getElem? (i := 221) rfl)) rfl
theorem kv_X10_run : KV yX10_run := ⟨k1126, k1127⟩
theorem k1322 : Cond.code yX10_runUntold cX10_runUntold 2 (some .int) ∈ gtb := gtm (in_tables_1_5 (List.mem_of_getElem? (i := 176) rfl)) rfl
theorem ka_X10_runUntold : KA yX10_runUntold cX10_runUntold 2 (some .int) 1 := ⟨k1322, k187, by decide, by decide, by decide +kernel⟩
theorem k1320 : Cond.instanceMethod yX10_runUntold ∈ gtb := gtm (in_tables_1_5 (List.mem_of_getElem? (i := 174) rfl)) rfl
theorem k1321 : Cond.selects "BlameCourt" yX10_runUntold yX10_runUntold ∈ gtb := gtm (in_tables_1_5 (List.mem_of_getElem? (i := 175) rfl)) rfl
theorem kv_X10_runUntold : KV yX10_runUntold := ⟨k1320, k1321⟩
theorem k987 : Cond.code yX10_tell cX10_tell 3 (some .boolean) ∈ gtb := gtm (in_tables_1_4 (List.mem_of_getElem? (i := 81) rfl)) rfl
theorem ka_X10_tell : KA yX10_tell cX10_tell 3 (some .boolean) 2 := ⟨k987, k187, by decide, by decide, by decide +kernel⟩
theorem k985 : Cond.instanceMethod yX10_tell ∈ gtb := gtm (in_tables_1_4 (List.mem_of_getElem? (i := 79) rfl)) rfl
theorem k986 : Cond.selects "BlameCourt" yX10_tell yX10_tell ∈ gtb := gtm (in_tables_1_4 (List.mem_of_getElem? (i := 80) rfl)) rfl
theorem kv_X10_tell : KV yX10_tell := ⟨k985, k986⟩
theorem k1326 : Cond.code yX10_told cX10_told 2 (some .int) ∈ gtb := gtm (in_tables_1_5 (List.mem_of_getElem? (i := 180) rfl)) rfl
theorem ka_X10_told : KA yX10_told cX10_told 2 (some .int) 1 := ⟨k1326, k187, by decide, by decide, by decide +kernel⟩
theorem k1324 : Cond.instanceMethod yX10_told ∈ gtb := gtm (in_tables_1_5 (List.mem_of_getElem? (i := 178) rfl)) rfl
theorem k1325 : Cond.selects "BlameCourt" yX10_told yX10_told ∈ gtb := gtm (in_tables_1_5 (List.mem_of_getElem? (i := 179) rfl)) rfl
theorem kv_X10_told : KV yX10_told := ⟨k1324, k1325⟩
theorem k1334 : Cond.code yX7_contentTold cX7_contentTold 3 (some .int) ∈ gtb := gtm (in_tables_1_5 (List.mem_of_getElem? (i := 188) rfl)) rfl
theorem ka_X7_contentTold : KA yX7_contentTold cX7_contentTold 3 (some .int) 1 := ⟨k1334, k195, by decide, by decide, by decide +kernel⟩
theorem k1333 : Cond.instanceMethod yX7_contentTold ∈ gtb := gtm (in_tables_1_5 (List.mem_of_getElem? (i := 187) rfl)) rfl
theorem k94 : Cond.selects "BlameCourt$Running" yX7_contentTold yX7_contentTold ∈ gtb := gtm (in_lw_privs_6 (q := (yX7_contentTold, 20)) (List.mem_of_getElem? (i := 14) rfl)) rfl
theorem kv_X7_contentTold : KV yX7_contentTold := ⟨k1333, k94⟩
theorem k1330 : Cond.code yX7_tellOf cX7_tellOf 4 (some .int) ∈ gtb := gtm (in_tables_1_5 (List.mem_of_getElem? (i := 184) rfl)) rfl
theorem ka_X7_tellOf : KA yX7_tellOf cX7_tellOf 4 (some .int) 1 := ⟨k1330, k195, by decide, by decide, by decide +kernel⟩
theorem k1328 : Cond.instanceMethod yX7_tellOf ∈ gtb := gtm (in_tables_1_5 (List.mem_of_getElem? (i := 182) rfl)) rfl
theorem k1329 : Cond.selects "BlameCourt$Running" yX7_tellOf yX7_tellOf ∈ gtb := gtm (in_tables_1_5 (List.mem_of_getElem? (i := 183) rfl)) rfl
theorem kv_X7_tellOf : KV yX7_tellOf := ⟨k1328, k1329⟩
noncomputable def g_Running_contentTold (q1 : Int64) (X : St) : Option (Int32 × St) :=
  bnd (g_Heap_sortOf q1 X) fun x1 X2 =>
  if x1.toInt = 3 then
    bnd (g_Heap_lengthOf q1 X2) fun x5 X6 =>
    some (x5, X6)
  else
    bnd (g_Heap_contentOf q1 X2) fun x3 X4 =>
    some (x3, X4)
set_option maxHeartbeats 4000000 in
set_option maxRecDepth 100000 in
theorem k_Running_contentTold (Γ : GxC) (q1 : Int64) (X : St) : TCI YC Γ yX7_contentTold cX7_contentTold 3 "BlameCourt$Running" (some .int) { frames := 4, cells := 0, slots := 0, locals := 150 } [.ref (Γ.2.2.2.1 70), .long q1] X (g_Running_contentTold q1 X) := by
  refine TCI.of (by decide) (Nat.le_of_ble_eq_true rfl) rfl ?_
  show TC YC Γ cX7_contentTold 3 "BlameCourt$Running" (some .int) { frames := 4, cells := 0, slots := 0, locals := 150 } _ kI 0 [(0, .ref (Γ.2.2.2.1 70)), (1, .long q1)] [] X (g_Running_contentTold q1 X)
  unfold g_Running_contentTold
  refine TC.lload_n dX7_contentTold_0 rfl 1 rfl ?_
  refine TC.callS_i (As1 := [.long q1]) (rest := []) (k_Heap_sortOf Γ q1 X) ka_X1_sortOf k1182 k1181 rfl rfl rfl rfl (show 2 + 1 ≤ 4 ∧ 8 + (2 + 11) + 70 ≤ 150 from ⟨by omega, by omega⟩) (Nat.le_of_ble_eq_true rfl) dX7_contentTold_1 (fun x1 X2 => ?_)
  refine TC.iconst (w := 3) dX7_contentTold_4 (by decide) ?_
  refine TC.icmp_ne (pc1 := 19) dX7_contentTold_5 (by decide) rfl ?_ ?_
  · refine TC.lload_n dX7_contentTold_19 rfl 1 rfl ?_
    refine TC.callS_i (As1 := [.long q1]) (rest := []) (k_Heap_contentOf Γ q1 X2) ka_X1_contentOf k1185 k1184 rfl rfl rfl rfl (show 2 + 1 ≤ 4 ∧ 8 + (2 + 11) + 70 ≤ 150 from ⟨by omega, by omega⟩) (Nat.le_of_ble_eq_true rfl) dX7_contentTold_20 (fun x3 X4 => ?_)
    exact TC.ret_i rfl dX7_contentTold_23
  · refine TC.aload_n dX7_contentTold_8 rfl 0 rfl ?_
    refine cC6_1 k616 dX7_contentTold_9 ?_
    refine TC.lload_n dX7_contentTold_12 rfl 1 rfl ?_
    refine TC.callV_i 71 (As1 := [.long q1]) (rest := []) (k_Heap_lengthOf Γ q1 X2) ka_X1_lengthOf kv_X1_lengthOf oC_71 rfl k1270 rfl rfl rfl rfl (show 3 + 1 ≤ 4 ∧ 8 + (4 + 11) + 110 ≤ 150 from ⟨by omega, by omega⟩) (Nat.le_of_ble_eq_true rfl) dX7_contentTold_13 (fun x5 X6 => ?_)
    refine TC.goto (pc1 := 23) dX7_contentTold_16 (by decide) ?_
    exact TC.ret_i rfl dX7_contentTold_23
noncomputable def g_Running_tellOf_22 (a_1 : Int32) (m_0 : Int64) (X : St) : Option (Int32 × St) :=
  if a_1.toInt = 0 then
    letV (X.1 70 5) fun x3 =>
    some (x3, X)
  else if a_1.toInt = 1 then
    letV (X.1 70 6) fun x5 =>
    some (x5, X)
  else if a_1.toInt = 2 then
    letV (X.1 70 7) fun x7 =>
    some (x7, X)
  else if a_1.toInt = 3 then
    letV (X.1 70 9) fun x9 =>
    some (x9, X)
  else if a_1.toInt = 4 then
    letV (X.1 70 5) fun x11 =>
    if x11.toInt = 0 then
      bnd (g_Heap_core m_0 X) fun y12 X13 =>
      bnd (g_Heap_sortOf y12 X13) fun x14 X15 =>
      some (x14, X15)
    else
      some ((-1), X)
  else if a_1.toInt = 5 then
    letV (X.1 70 5) fun x17 =>
    if x17.toInt = 0 then
      bnd (g_Heap_core m_0 X) fun y18 X19 =>
      bnd (g_Running_contentTold y18 X19) fun x20 X21 =>
      some (x20, X21)
    else
      some ((-1), X)
  else if a_1.toInt = 6 then
    letV (X.1 70 5) fun x23 =>
    if x23.toInt = 0 then
      bnd (g_Heap_wrappingsAround m_0 X) fun x24 X25 =>
      some (x24, X25)
    else
      some ((-1), X)
  else if a_1.toInt = 7 then
    letV (X.1 70 18) fun x27 =>
    some (x27, X)
  else if a_1.toInt = 8 then
    letV (X.1 71 2) fun x29 =>
    some (x29, X)
  else if a_1.toInt = 9 then
    letV (X.1 71 0) fun x31 =>
    some (x31, X)
  else some ((-1), X)
set_option maxHeartbeats 4000000 in
set_option maxRecDepth 100000 in
theorem k_Running_tellOf_22 (Γ : GxC) (As : List Value) (a_1 : Int32) (m_0 : Int64) (X : St) : TC YC Γ cX7_tellOf 4 "BlameCourt$Running" (some .int) { frames := 5, cells := 0, slots := 0, locals := 190 } As kI 22 [(0, .ref (Γ.2.2.2.1 70)), (1, .int a_1)] [.long m_0] X (g_Running_tellOf_22 a_1 m_0 X) := by
  unfold g_Running_tellOf_22
  refine TC.lstore_n (lv1 := [(2, .long m_0), (0, .ref (Γ.2.2.2.1 70)), (1, .int a_1)]) dX7_tellOf_22 rfl (by decide) rfl ?_
  refine TC.iload_n dX7_tellOf_23 rfl 2 rfl ?_
  refine TC.ite (fun s2 => ?_) (fun s2 => ?_)
  · refine TC.tbl (pc1 := 80) dX7_tellOf_24 (by decide) (off := 56) (by rw [s2]; rfl) (by decide) ?_
    refine TC.aload_n dX7_tellOf_80 rfl 1 rfl ?_
    refine gC6_5 k620 dX7_tellOf_81 (fun x3 => ?_)
    exact TC.ret_i rfl dX7_tellOf_84
  refine TC.ite (fun s4 => ?_) (fun s4 => ?_)
  · refine TC.tbl (pc1 := 85) dX7_tellOf_24 (by decide) (off := 61) (by rw [s4]; rfl) (by decide) ?_
    refine TC.aload_n dX7_tellOf_85 rfl 1 rfl ?_
    refine gC6_6 k621 dX7_tellOf_86 (fun x5 => ?_)
    exact TC.ret_i rfl dX7_tellOf_89
  refine TC.ite (fun s6 => ?_) (fun s6 => ?_)
  · refine TC.tbl (pc1 := 90) dX7_tellOf_24 (by decide) (off := 66) (by rw [s6]; rfl) (by decide) ?_
    refine TC.aload_n dX7_tellOf_90 rfl 1 rfl ?_
    refine gC6_7 k622 dX7_tellOf_91 (fun x7 => ?_)
    exact TC.ret_i rfl dX7_tellOf_94
  refine TC.ite (fun s8 => ?_) (fun s8 => ?_)
  · refine TC.tbl (pc1 := 95) dX7_tellOf_24 (by decide) (off := 71) (by rw [s8]; rfl) (by decide) ?_
    refine TC.aload_n dX7_tellOf_95 rfl 1 rfl ?_
    refine gC6_9 k624 dX7_tellOf_96 (fun x9 => ?_)
    exact TC.ret_i rfl dX7_tellOf_99
  refine TC.ite (fun s10 => ?_) (fun s10 => ?_)
  · refine TC.tbl (pc1 := 100) dX7_tellOf_24 (by decide) (off := 76) (by rw [s10]; rfl) (by decide) ?_
    refine TC.aload_n dX7_tellOf_100 rfl 1 rfl ?_
    refine gC6_5 k620 dX7_tellOf_101 (fun x11 => ?_)
    refine TC.if_ne (pc1 := 121) dX7_tellOf_104 (by decide) ?_ ?_
    · refine TC.iconst (w := (-1)) dX7_tellOf_121 (by decide) ?_
      exact TC.ret_i rfl dX7_tellOf_122
    · refine TC.aload_n dX7_tellOf_107 rfl 1 rfl ?_
      refine cC6_1 k616 dX7_tellOf_108 ?_
      refine TC.lload_n dX7_tellOf_111 rfl 0 rfl ?_
      refine TC.callV_l 71 (As1 := [.long m_0]) (rest := []) (k_Heap_core Γ m_0 X) ka_X1_core kv_X1_core oC_71 rfl k1200 rfl rfl rfl rfl (show 3 + 1 ≤ 5 ∧ 8 + (7 + 11) + 110 ≤ 190 from ⟨by omega, by omega⟩) (Nat.le_of_ble_eq_true rfl) dX7_tellOf_112 (fun y12 X13 => ?_)
      refine TC.callS_i (As1 := [.long y12]) (rest := []) (k_Heap_sortOf Γ y12 X13) ka_X1_sortOf k1182 k1181 rfl rfl rfl rfl (show 2 + 1 ≤ 5 ∧ 8 + (2 + 11) + 70 ≤ 190 from ⟨by omega, by omega⟩) (Nat.le_of_ble_eq_true rfl) dX7_tellOf_115 (fun x14 X15 => ?_)
      refine TC.goto (pc1 := 122) dX7_tellOf_118 (by decide) ?_
      exact TC.ret_i rfl dX7_tellOf_122
  refine TC.ite (fun s16 => ?_) (fun s16 => ?_)
  · refine TC.tbl (pc1 := 123) dX7_tellOf_24 (by decide) (off := 99) (by rw [s16]; rfl) (by decide) ?_
    refine TC.aload_n dX7_tellOf_123 rfl 1 rfl ?_
    refine gC6_5 k620 dX7_tellOf_124 (fun x17 => ?_)
    refine TC.if_ne (pc1 := 145) dX7_tellOf_127 (by decide) ?_ ?_
    · refine TC.iconst (w := (-1)) dX7_tellOf_145 (by decide) ?_
      exact TC.ret_i rfl dX7_tellOf_146
    · refine TC.aload_n dX7_tellOf_130 rfl 1 rfl ?_
      refine TC.aload_n dX7_tellOf_131 rfl 1 rfl ?_
      refine cC6_1 k616 dX7_tellOf_132 ?_
      refine TC.lload_n dX7_tellOf_135 rfl 0 rfl ?_
      refine TC.callV_l 71 (As1 := [.long m_0]) (rest := [.ref (Γ.2.2.2.1 70)]) (k_Heap_core Γ m_0 X) ka_X1_core kv_X1_core oC_71 rfl k1200 rfl rfl rfl rfl (show 3 + 1 ≤ 5 ∧ 8 + (7 + 11) + 110 ≤ 190 from ⟨by omega, by omega⟩) (Nat.le_of_ble_eq_true rfl) dX7_tellOf_136 (fun y18 X19 => ?_)
      refine TC.callV_i 70 (As1 := [.long y18]) (rest := []) (k_Running_contentTold Γ y18 X19) ka_X7_contentTold kv_X7_contentTold oC_70 rfl k1331 rfl rfl rfl rfl (show 4 + 1 ≤ 5 ∧ 8 + (3 + 11) + 150 ≤ 190 from ⟨by omega, by omega⟩) (Nat.le_of_ble_eq_true rfl) dX7_tellOf_139 (fun x20 X21 => ?_)
      refine TC.goto (pc1 := 146) dX7_tellOf_142 (by decide) ?_
      exact TC.ret_i rfl dX7_tellOf_146
  refine TC.ite (fun s22 => ?_) (fun s22 => ?_)
  · refine TC.tbl (pc1 := 147) dX7_tellOf_24 (by decide) (off := 123) (by rw [s22]; rfl) (by decide) ?_
    refine TC.aload_n dX7_tellOf_147 rfl 1 rfl ?_
    refine gC6_5 k620 dX7_tellOf_148 (fun x23 => ?_)
    refine TC.if_ne (pc1 := 165) dX7_tellOf_151 (by decide) ?_ ?_
    · refine TC.iconst (w := (-1)) dX7_tellOf_165 (by decide) ?_
      exact TC.ret_i rfl dX7_tellOf_166
    · refine TC.aload_n dX7_tellOf_154 rfl 1 rfl ?_
      refine cC6_1 k616 dX7_tellOf_155 ?_
      refine TC.lload_n dX7_tellOf_158 rfl 0 rfl ?_
      refine TC.callV_i 71 (As1 := [.long m_0]) (rest := []) (k_Heap_wrappingsAround Γ m_0 X) ka_X1_wrappingsAround kv_X1_wrappingsAround oC_71 rfl k1335 rfl rfl rfl rfl (show 3 + 1 ≤ 5 ∧ 8 + (4 + 11) + 110 ≤ 190 from ⟨by omega, by omega⟩) (Nat.le_of_ble_eq_true rfl) dX7_tellOf_159 (fun x24 X25 => ?_)
      refine TC.goto (pc1 := 166) dX7_tellOf_162 (by decide) ?_
      exact TC.ret_i rfl dX7_tellOf_166
  refine TC.ite (fun s26 => ?_) (fun s26 => ?_)
  · refine TC.tbl (pc1 := 167) dX7_tellOf_24 (by decide) (off := 143) (by rw [s26]; rfl) (by decide) ?_
    refine TC.aload_n dX7_tellOf_167 rfl 1 rfl ?_
    refine gC6_18 k634 dX7_tellOf_168 (fun x27 => ?_)
    exact TC.ret_i rfl dX7_tellOf_171
  refine TC.ite (fun s28 => ?_) (fun s28 => ?_)
  · refine TC.tbl (pc1 := 172) dX7_tellOf_24 (by decide) (off := 148) (by rw [s28]; rfl) (by decide) ?_
    refine TC.aload_n dX7_tellOf_172 rfl 1 rfl ?_
    refine cC6_1 k616 dX7_tellOf_173 ?_
    refine gC1_2 k570 dX7_tellOf_176 (fun x29 => ?_)
    exact TC.ret_i rfl dX7_tellOf_179
  refine TC.ite (fun s30 => ?_) (fun s30 => ?_)
  · refine TC.tbl (pc1 := 180) dX7_tellOf_24 (by decide) (off := 156) (by rw [s30]; rfl) (by decide) ?_
    refine TC.aload_n dX7_tellOf_180 rfl 1 rfl ?_
    refine cC6_1 k616 dX7_tellOf_181 ?_
    refine gC1_0 k567 dX7_tellOf_184 (fun x31 => ?_)
    exact TC.ret_i rfl dX7_tellOf_187
  refine TC.tbl (pc1 := 188) dX7_tellOf_24 (by decide) (off := 164) (tbl_d [0, 1, 2, 3, 4, 5, 6, 7, 8, 9] (by intro q; simp only [List.mem_cons, List.not_mem_nil, or_false] at q; omega) (by decide)) (by decide) ?_
  refine TC.iconst (w := (-1)) dX7_tellOf_188 (by decide) ?_
  exact TC.ret_i rfl dX7_tellOf_189
noncomputable def g_Running_tellOf (p1 : Int32) (X : St) : Option (Int32 × St) :=
  letV (X.1 70 15) fun x1 =>
  if x1.toInt ≤ 0 then
    g_Running_tellOf_22 p1 (0 : Int64) X
  else
    letV (X.1 70 15) fun x32 =>
    letV (x32 - (1 : Int32)) fun x33 =>
    chk (inR x33 20002) (letV (X.2.1 84 (ix x33)) fun y34 =>
    g_Running_tellOf_22 p1 y34 X)
set_option maxHeartbeats 4000000 in
set_option maxRecDepth 100000 in
theorem k_Running_tellOf (Γ : GxC) (p1 : Int32) (X : St) : TCI YC Γ yX7_tellOf cX7_tellOf 4 "BlameCourt$Running" (some .int) { frames := 5, cells := 0, slots := 0, locals := 190 } [.ref (Γ.2.2.2.1 70), .int p1] X (g_Running_tellOf p1 X) := by
  refine TCI.of (by decide) (Nat.le_of_ble_eq_true rfl) rfl ?_
  show TC YC Γ cX7_tellOf 4 "BlameCourt$Running" (some .int) { frames := 5, cells := 0, slots := 0, locals := 190 } _ kI 0 [(0, .ref (Γ.2.2.2.1 70)), (1, .int p1)] [] X (g_Running_tellOf p1 X)
  unfold g_Running_tellOf
  refine TC.aload_n dX7_tellOf_0 rfl 0 rfl ?_
  refine gC6_15 k630 dX7_tellOf_1 (fun x1 => ?_)
  refine TC.if_le (pc1 := 21) dX7_tellOf_4 (by decide) ?_ ?_
  · refine TC.lconst (w := 0) dX7_tellOf_21 (by decide) ?_
    exact k_Running_tellOf_22 Γ _ p1 (0 : Int64) X
  · refine TC.aload_n dX7_tellOf_7 rfl 0 rfl ?_
    refine cC6_14 k629 dX7_tellOf_8 ?_
    refine TC.aload_n dX7_tellOf_11 rfl 0 rfl ?_
    refine gC6_15 k630 dX7_tellOf_12 (fun x32 => ?_)
    refine TC.iconst (w := 1) dX7_tellOf_15 (by decide) ?_
    refine TC.isub dX7_tellOf_16 (fun x33 => ?_)
    refine alC84 dX7_tellOf_17 (fun y34 => ?_)
    refine TC.goto (pc1 := 22) dX7_tellOf_18 (by decide) ?_
    exact k_Running_tellOf_22 Γ _ p1 y34 X
noncomputable def g_Court_putFour_40 (r3 : Int32 → Int32 → St → Option (Int32 × St)) (a_1 : Int32) (a_2 : Int32) (X : St) : Option (Int32 × St) :=
  letV (a_2 + Int32.ofInt (-8)) fun x2 =>
  r3 a_1 x2 X
set_option maxHeartbeats 4000000 in
set_option maxRecDepth 100000 in
theorem k_Court_putFour_40 (Γ : GxC) (As : List Value) (r3 : Int32 → Int32 → St → Option (Int32 × St)) (hr3 : ∀ (a_1 : Int32) (a_2 : Int32) (X : St), TC YC Γ cX10_putFour 3 "BlameCourt" none { frames := 2, cells := 0, slots := 0, locals := 70 } As kV 3 [(0, .ref (Γ.2.2.2.1 0)), (1, .int a_1), (2, .int a_2)] [] X (r3 a_1 a_2 X)) (a_1 : Int32) (a_2 : Int32) (X : St) : TC YC Γ cX10_putFour 3 "BlameCourt" none { frames := 2, cells := 0, slots := 0, locals := 70 } As kV 40 [(0, .ref (Γ.2.2.2.1 0)), (1, .int a_1), (2, .int a_2)] [] X (g_Court_putFour_40 r3 a_1 a_2 X) := by
  unfold g_Court_putFour_40
  refine TC.iinc dX10_putFour_40 2 rfl (by decide) (lvf := fun x2 => [(2, .int x2), (0, .ref (Γ.2.2.2.1 0)), (1, .int a_1)]) (fun _ => rfl) (fun x2 => ?_)
  refine TC.goto (pc1 := 3) dX10_putFour_43 (by decide) ?_
  refine TC.sub [1, 2, 0] rfl ?_
  exact hr3 a_1 x2 X
noncomputable def g_Court_putFour_3_s (r3 : Int32 → Int32 → St → Option (Int32 × St)) (a_1 : Int32) (a_2 : Int32) (X : St) : Option (Int32 × St) :=
  if a_2.toInt < 0 then
    some (0, X)
  else
    letV (X.1 0 1) fun x1 =>
    if 3000 ≤ x1.toInt then
      g_Court_putFour_40 r3 a_1 a_2 X
    else
      letV (X.1 0 1) fun x3 =>
      letV (a_1 >>> (a_2 &&& 31)) fun x4 =>
      letV (x4.toInt8.toInt32) fun x5 =>
      chk (inR x3 3000) (letV (wI X 1 (ix x3) (vp_nar .byte x5)) fun X6 =>
      letV (X6.1 0 1) fun x7 =>
      letV (x7 + (1 : Int32)) fun x8 =>
      letV (wI X6 0 1 x8) fun X9 =>
      g_Court_putFour_40 r3 a_1 a_2 X9)
noncomputable def g_Court_putFour_3 (n : Nat) : Int32 → Int32 → St → Option (Int32 × St) := lp (fun _ _ _ => none) (g_Court_putFour_3_s) n
set_option maxHeartbeats 4000000 in
set_option maxRecDepth 100000 in
theorem k_Court_putFour_3 (Γ : GxC) (As : List Value) (n : Nat) : ∀ (a_1 : Int32) (a_2 : Int32) (X : St), TC YC Γ cX10_putFour 3 "BlameCourt" none { frames := 2, cells := 0, slots := 0, locals := 70 } As kV 3 [(0, .ref (Γ.2.2.2.1 0)), (1, .int a_1), (2, .int a_2)] [] X (g_Court_putFour_3 n a_1 a_2 X) := by
  unfold g_Court_putFour_3
  refine lp_ind (P := fun (r3 : Int32 → Int32 → St → Option (Int32 × St)) => ∀ (a_1 : Int32) (a_2 : Int32) (X : St), TC YC Γ cX10_putFour 3 "BlameCourt" none { frames := 2, cells := 0, slots := 0, locals := 70 } As kV 3 [(0, .ref (Γ.2.2.2.1 0)), (1, .int a_1), (2, .int a_2)] [] X (r3 a_1 a_2 X)) (fun _ _ _ => TC.no) ?_ n
  intro r3 hr3 a_1 a_2 X
  unfold g_Court_putFour_3_s
  refine TC.iload_n dX10_putFour_3 rfl 2 rfl ?_
  refine TC.if_lt (pc1 := 46) dX10_putFour_4 (by decide) ?_ ?_
  · exact TC.ret_v rfl dX10_putFour_46
  · refine TC.aload_n dX10_putFour_7 rfl 0 rfl ?_
    refine gC8_1 k680 dX10_putFour_8 (fun x1 => ?_)
    refine TC.sipush (w := 3000) dX10_putFour_11 (by decide) ?_
    refine TC.icmp_ge (pc1 := 40) dX10_putFour_14 (by decide) rfl ?_ ?_
    · exact k_Court_putFour_40 Γ _ r3 hr3 a_1 a_2 X
    · refine TC.aload_n dX10_putFour_17 rfl 0 rfl ?_
      refine cC8_0 k679 dX10_putFour_18 ?_
      refine TC.aload_n dX10_putFour_21 rfl 0 rfl ?_
      refine gC8_1 k680 dX10_putFour_22 (fun x3 => ?_)
      refine TC.iload_n dX10_putFour_25 rfl 1 rfl ?_
      refine TC.iload_n dX10_putFour_26 rfl 2 rfl ?_
      refine TC.ishr dX10_putFour_27 (fun x4 => ?_)
      refine TC.i2b dX10_putFour_28 (fun x5 => ?_)
      refine asC1 dX10_putFour_29 (fun X6 => ?_)
      refine TC.aload_n dX10_putFour_30 rfl 0 rfl ?_
      refine TC.dupr dX10_putFour_31 ?_
      refine gC8_1 k680 dX10_putFour_32 (fun x7 => ?_)
      refine TC.iconst (w := 1) dX10_putFour_35 (by decide) ?_
      refine TC.iadd dX10_putFour_36 (fun x8 => ?_)
      refine pC8_1 k680 dX10_putFour_37 (fun X9 => ?_)
      exact k_Court_putFour_40 Γ _ r3 hr3 a_1 a_2 X9
noncomputable def g_Court_putFour (p1 : Int32) (X : St) : Option (Int32 × St) :=
  g_Court_putFour_3 BIG p1 (24 : Int32) X
set_option maxHeartbeats 4000000 in
set_option maxRecDepth 100000 in
theorem k_Court_putFour (Γ : GxC) (p1 : Int32) (X : St) : TCV YC Γ yX10_putFour cX10_putFour 3 "BlameCourt" none { frames := 2, cells := 0, slots := 0, locals := 70 } [.ref (Γ.2.2.2.1 0), .int p1] X (g_Court_putFour p1 X) := by
  refine TCV.of (by decide) (Nat.le_of_ble_eq_true rfl) rfl ?_
  show TC YC Γ cX10_putFour 3 "BlameCourt" none { frames := 2, cells := 0, slots := 0, locals := 70 } _ kV 0 [(0, .ref (Γ.2.2.2.1 0)), (1, .int p1)] [] X (g_Court_putFour p1 X)
  unfold g_Court_putFour
  refine TC.bipush (w := 24) dX10_putFour_0 (by decide) ?_
  refine TC.istore_n (lv1 := [(2, .int 24), (0, .ref (Γ.2.2.2.1 0)), (1, .int p1)]) dX10_putFour_2 rfl (by decide) rfl ?_
  refine TC.sub [1, 2, 0] rfl ?_
  exact k_Court_putFour_3 Γ _ BIG p1 (24 : Int32) X
noncomputable def g_Court_feed (p1 : Int32) (p2 : Int32) (p3 : Int32) (p4 : Int32) (p5 : Int32) (X : St) : Option (Int32 × St) :=
  letV (X.1 0 1) fun x1 =>
  letV (x1 + (20 : Int32)) fun x2 =>
  if x2.toInt ≤ 3000 then
    bnd (g_Court_putFour p1 X) fun _ X3 =>
    bnd (g_Court_putFour p2 X3) fun _ X4 =>
    bnd (g_Court_putFour p3 X4) fun _ X5 =>
    bnd (g_Court_putFour p4 X5) fun _ X6 =>
    bnd (g_Court_putFour p5 X6) fun _ X7 =>
    letV (X7.1 0 1) fun x8 =>
    some (x8, X7)
  else
    some ((-1), X)
set_option maxHeartbeats 4000000 in
set_option maxRecDepth 100000 in
theorem k_Court_feed (Γ : GxC) (p1 : Int32) (p2 : Int32) (p3 : Int32) (p4 : Int32) (p5 : Int32) (X : St) : TCI YC Γ yX10_feed cX10_feed 6 "BlameCourt" (some .int) { frames := 3, cells := 0, slots := 0, locals := 110 } [.ref (Γ.2.2.2.1 0), .int p1, .int p2, .int p3, .int p4, .int p5] X (g_Court_feed p1 p2 p3 p4 p5 X) := by
  refine TCI.of (by decide) (Nat.le_of_ble_eq_true rfl) rfl ?_
  show TC YC Γ cX10_feed 6 "BlameCourt" (some .int) { frames := 3, cells := 0, slots := 0, locals := 110 } _ kI 0 [(0, .ref (Γ.2.2.2.1 0)), (1, .int p1), (2, .int p2), (3, .int p3), (4, .int p4), (5, .int p5)] [] X (g_Court_feed p1 p2 p3 p4 p5 X)
  unfold g_Court_feed
  refine TC.aload_n dX10_feed_0 rfl 0 rfl ?_
  refine gC8_1 k680 dX10_feed_1 (fun x1 => ?_)
  refine TC.bipush (w := 20) dX10_feed_4 (by decide) ?_
  refine TC.iadd dX10_feed_6 (fun x2 => ?_)
  refine TC.sipush (w := 3000) dX10_feed_7 (by decide) ?_
  refine TC.icmp_le (pc1 := 15) dX10_feed_10 (by decide) rfl ?_ ?_
  · refine TC.aload_n dX10_feed_15 rfl 0 rfl ?_
    refine TC.iload_n dX10_feed_16 rfl 1 rfl ?_
    refine TC.callV_v 0 (As1 := [.int p1]) (rest := []) (k_Court_putFour Γ p1 X) ka_X10_putFour kv_X10_putFour oC_0 rfl k723 rfl rfl rfl rfl (show 2 + 1 ≤ 3 ∧ 8 + (3 + 11) + 70 ≤ 110 from ⟨by omega, by omega⟩) (Nat.le_of_ble_eq_true rfl) dX10_feed_17 (fun _ X3 => ?_)
    refine TC.aload_n dX10_feed_20 rfl 0 rfl ?_
    refine TC.iload_n dX10_feed_21 rfl 2 rfl ?_
    refine TC.callV_v 0 (As1 := [.int p2]) (rest := []) (k_Court_putFour Γ p2 X3) ka_X10_putFour kv_X10_putFour oC_0 rfl k723 rfl rfl rfl rfl (show 2 + 1 ≤ 3 ∧ 8 + (3 + 11) + 70 ≤ 110 from ⟨by omega, by omega⟩) (Nat.le_of_ble_eq_true rfl) dX10_feed_22 (fun _ X4 => ?_)
    refine TC.aload_n dX10_feed_25 rfl 0 rfl ?_
    refine TC.iload_n dX10_feed_26 rfl 3 rfl ?_
    refine TC.callV_v 0 (As1 := [.int p3]) (rest := []) (k_Court_putFour Γ p3 X4) ka_X10_putFour kv_X10_putFour oC_0 rfl k723 rfl rfl rfl rfl (show 2 + 1 ≤ 3 ∧ 8 + (3 + 11) + 70 ≤ 110 from ⟨by omega, by omega⟩) (Nat.le_of_ble_eq_true rfl) dX10_feed_27 (fun _ X5 => ?_)
    refine TC.aload_n dX10_feed_30 rfl 0 rfl ?_
    refine TC.iload dX10_feed_31 4 rfl ?_
    refine TC.callV_v 0 (As1 := [.int p4]) (rest := []) (k_Court_putFour Γ p4 X5) ka_X10_putFour kv_X10_putFour oC_0 rfl k723 rfl rfl rfl rfl (show 2 + 1 ≤ 3 ∧ 8 + (3 + 11) + 70 ≤ 110 from ⟨by omega, by omega⟩) (Nat.le_of_ble_eq_true rfl) dX10_feed_33 (fun _ X6 => ?_)
    refine TC.aload_n dX10_feed_36 rfl 0 rfl ?_
    refine TC.iload dX10_feed_37 5 rfl ?_
    refine TC.callV_v 0 (As1 := [.int p5]) (rest := []) (k_Court_putFour Γ p5 X6) ka_X10_putFour kv_X10_putFour oC_0 rfl k723 rfl rfl rfl rfl (show 2 + 1 ≤ 3 ∧ 8 + (3 + 11) + 70 ≤ 110 from ⟨by omega, by omega⟩) (Nat.le_of_ble_eq_true rfl) dX10_feed_39 (fun _ X7 => ?_)
    refine TC.aload_n dX10_feed_42 rfl 0 rfl ?_
    refine gC8_1 k680 dX10_feed_43 (fun x8 => ?_)
    exact TC.ret_i rfl dX10_feed_46
  · refine TC.iconst (w := (-1)) dX10_feed_13 (by decide) ?_
    exact TC.ret_i rfl dX10_feed_14
noncomputable def g_Court_end (p1 : Int32) (X : St) : Option (Int32 × St) :=
  if p1.toInt < 0 then
    some ((-1), X)
  else
    letV (X.1 0 1) fun x1 =>
    if p1.toInt ≤ x1.toInt then
      letV (wI X 0 1 p1) fun X2 =>
      some (p1, X2)
    else
      some ((-1), X)
set_option maxHeartbeats 4000000 in
set_option maxRecDepth 100000 in
theorem k_Court_end (Γ : GxC) (p1 : Int32) (X : St) : TCI YC Γ yX10_end cX10_end 2 "BlameCourt" (some .int) { frames := 2, cells := 0, slots := 0, locals := 70 } [.ref (Γ.2.2.2.1 0), .int p1] X (g_Court_end p1 X) := by
  refine TCI.of (by decide) (Nat.le_of_ble_eq_true rfl) rfl ?_
  show TC YC Γ cX10_end 2 "BlameCourt" (some .int) { frames := 2, cells := 0, slots := 0, locals := 70 } _ kI 0 [(0, .ref (Γ.2.2.2.1 0)), (1, .int p1)] [] X (g_Court_end p1 X)
  unfold g_Court_end
  refine TC.iload_n dX10_end_0 rfl 1 rfl ?_
  refine TC.if_lt (pc1 := 12) dX10_end_1 (by decide) ?_ ?_
  · refine TC.iconst (w := (-1)) dX10_end_12 (by decide) ?_
    exact TC.ret_i rfl dX10_end_13
  · refine TC.iload_n dX10_end_4 rfl 1 rfl ?_
    refine TC.aload_n dX10_end_5 rfl 0 rfl ?_
    refine gC8_1 k680 dX10_end_6 (fun x1 => ?_)
    refine TC.icmp_le (pc1 := 14) dX10_end_9 (by decide) rfl ?_ ?_
    · refine TC.aload_n dX10_end_14 rfl 0 rfl ?_
      refine TC.iload_n dX10_end_15 rfl 1 rfl ?_
      refine pC8_1 k680 dX10_end_16 (fun X2 => ?_)
      refine TC.iload_n dX10_end_19 rfl 1 rfl ?_
      exact TC.ret_i rfl dX10_end_20
    · refine TC.iconst (w := (-1)) dX10_end_12 (by decide) ?_
      exact TC.ret_i rfl dX10_end_13
noncomputable def g_Court_read (X : St) : Option (Int32 × St) :=
  chk (refO YC (X.2.2 0 2) 4 17 = true) (letV (X.2.2 0 2 - 1) fun e1 =>
  letV (X.1 0 1) fun x2 =>
  bnd (g_Reader_readInto e1 1 x2 X) fun _ X3 =>
  letV (wI X3 0 1 ((0 : Int32))) fun X4 =>
  letV (X4.1 46 3) fun x5 =>
  letV (wI X4 0 7 x5) fun X6 =>
  letV (X6.1 46 4) fun x7 =>
  letV (wI X6 0 8 x7) fun X8 =>
  letV (X8.1 0 7) fun x9 =>
  if x9.toInt = 0 then
    chk (refO YC (X8.2.2 0 9) 4 17 = true) (letV (X8.2.2 0 9 - 1) fun e10 =>
    chk (refO YC (X8.2.2 0 2) 4 17 = true) (letV (X8.2.2 0 2 - 1) fun e11 =>
    letV (wR X8 0 9 ((e11 + 1))) fun X12 =>
    letV (wR X12 0 2 ((e10 + 1))) fun X13 =>
    letV (wI X13 0 3 ((1 : Int32))) fun X14 =>
    letV (wI X14 0 4 ((0 : Int32))) fun X15 =>
    letV (wI X15 0 5 ((0 : Int32))) fun X16 =>
    chk (refO YC (X16.2.2 0 9) 4 17 = true) (letV (X16.2.2 0 9 - 1) fun e17 =>
    letV (X16.1 e17 1) fun x18 =>
    some (x18, X16))))
  else
    some ((-1), X8))
set_option maxHeartbeats 4000000 in
set_option maxRecDepth 100000 in
theorem k_Court_read (Γ : GxC) (X : St) : TCI YC Γ yX10_read cX10_read 2 "BlameCourt" (some .int) { frames := 523, cells := 0, slots := 0, locals := 20910 } [.ref (Γ.2.2.2.1 0)] X (g_Court_read X) := by
  refine TCI.of (by decide) (Nat.le_of_ble_eq_true rfl) rfl ?_
  show TC YC Γ cX10_read 2 "BlameCourt" (some .int) { frames := 523, cells := 0, slots := 0, locals := 20910 } _ kI 0 [(0, .ref (Γ.2.2.2.1 0))] [] X (g_Court_read X)
  unfold g_Court_read
  refine TC.aload_n dX10_read_0 rfl 0 rfl ?_
  refine cC8_6 k686 dX10_read_1 ?_
  refine TC.aload_n dX10_read_4 rfl 0 rfl ?_
  refine mC8_2 k682 dX10_read_5 (fun e1 he1 => ?_)
  refine TC.aload_n dX10_read_8 rfl 0 rfl ?_
  refine cC8_0 k679 dX10_read_9 ?_
  refine TC.aload_n dX10_read_12 rfl 0 rfl ?_
  refine gC8_1 k680 dX10_read_13 (fun x2 => ?_)
  refine TC.callV_v 46 (As1 := [.ref (Γ.2.2.2.1 e1), .ref (Γ.2.2.2.1 1), .int x2]) (rest := []) (k_Reader_readInto Γ e1 he1 1 ⟨rfl, rfl, rfl⟩ x2 X) ka_X6_readInto kv_X6_readInto oC_46 rfl k735 rfl rfl rfl rfl (show 522 + 1 ≤ 523 ∧ 8 + (5 + 11) + 20870 ≤ 20910 from ⟨by omega, by omega⟩) (Nat.le_of_ble_eq_true rfl) dX10_read_16 (fun _ X3 => ?_)
  refine TC.aload_n dX10_read_19 rfl 0 rfl ?_
  refine TC.iconst (w := 0) dX10_read_20 (by decide) ?_
  refine pC8_1 k680 dX10_read_21 (fun X4 => ?_)
  refine TC.aload_n dX10_read_24 rfl 0 rfl ?_
  refine TC.aload_n dX10_read_25 rfl 0 rfl ?_
  refine cC8_6 k686 dX10_read_26 ?_
  refine gC5_3 k420 dX10_read_29 (fun x5 => ?_)
  refine pC8_7 k690 dX10_read_32 (fun X6 => ?_)
  refine TC.aload_n dX10_read_35 rfl 0 rfl ?_
  refine TC.aload_n dX10_read_36 rfl 0 rfl ?_
  refine cC8_6 k686 dX10_read_37 ?_
  refine gC5_4 k422 dX10_read_40 (fun x7 => ?_)
  refine pC8_8 k691 dX10_read_43 (fun X8 => ?_)
  refine TC.aload_n dX10_read_46 rfl 0 rfl ?_
  refine gC8_7 k690 dX10_read_47 (fun x9 => ?_)
  refine TC.if_eq (pc1 := 55) dX10_read_50 (by decide) ?_ ?_
  · refine TC.aload_n dX10_read_55 rfl 0 rfl ?_
    refine mC8_9 k681 dX10_read_56 (fun e10 he10 => ?_)
    refine TC.astore_n (lv1 := [(1, .ref (Γ.2.2.2.1 e10)), (0, .ref (Γ.2.2.2.1 0))]) dX10_read_59 rfl (by decide) rfl ?_
    refine TC.aload_n dX10_read_60 rfl 1 rfl ?_
    refine TC.aload_n dX10_read_61 rfl 1 rfl ?_
    refine mC8_2 k682 dX10_read_62 (fun e11 he11 => ?_)
    refine pC8_9 k681 dX10_read_65 (fun X12 => ?_)
    refine TC.aload_n dX10_read_68 rfl 1 rfl ?_
    refine TC.aload_n dX10_read_69 rfl 0 rfl ?_
    refine pC8_2 k682 dX10_read_70 (fun X13 => ?_)
    refine TC.aload_n dX10_read_73 rfl 1 rfl ?_
    refine TC.iconst (w := 1) dX10_read_74 (by decide) ?_
    refine pC8_3 k683 (by decide) dX10_read_75 (fun X14 => ?_)
    refine TC.aload_n dX10_read_78 rfl 1 rfl ?_
    refine TC.iconst (w := 0) dX10_read_79 (by decide) ?_
    refine pC8_4 k684 (by decide) dX10_read_80 (fun X15 => ?_)
    refine TC.aload_n dX10_read_83 rfl 1 rfl ?_
    refine TC.iconst (w := 0) dX10_read_84 (by decide) ?_
    refine pC8_5 k685 (by decide) dX10_read_85 (fun X16 => ?_)
    refine TC.aload_n dX10_read_88 rfl 1 rfl ?_
    refine mC8_9 k681 dX10_read_89 (fun e17 he17 => ?_)
    refine gC4_1 e17 he17 k287 dX10_read_92 (fun x18 => ?_)
    exact TC.ret_i rfl dX10_read_95
  · refine TC.iconst (w := (-1)) dX10_read_53 (by decide) ?_
    exact TC.ret_i rfl dX10_read_54
noncomputable def g_Court_fault (p1 : Int32) (X : St) : Option (Int32 × St) :=
  if p1.toInt = 0 then
    letV (X.1 0 7) fun x2 =>
    some (x2, X)
  else
    if p1.toInt = 1 then
      letV (X.1 0 8) fun x1 =>
      some (x1, X)
    else
      some ((-1), X)
set_option maxHeartbeats 4000000 in
set_option maxRecDepth 100000 in
theorem k_Court_fault (Γ : GxC) (p1 : Int32) (X : St) : TCI YC Γ yX10_fault cX10_fault 2 "BlameCourt" (some .int) { frames := 2, cells := 0, slots := 0, locals := 70 } [.ref (Γ.2.2.2.1 0), .int p1] X (g_Court_fault p1 X) := by
  refine TCI.of (by decide) (Nat.le_of_ble_eq_true rfl) rfl ?_
  show TC YC Γ cX10_fault 2 "BlameCourt" (some .int) { frames := 2, cells := 0, slots := 0, locals := 70 } _ kI 0 [(0, .ref (Γ.2.2.2.1 0)), (1, .int p1)] [] X (g_Court_fault p1 X)
  unfold g_Court_fault
  refine TC.iload_n dX10_fault_0 rfl 1 rfl ?_
  refine TC.if_ne (pc1 := 9) dX10_fault_1 (by decide) ?_ ?_
  · refine TC.iload_n dX10_fault_9 rfl 1 rfl ?_
    refine TC.iconst (w := 1) dX10_fault_10 (by decide) ?_
    refine TC.icmp_ne (pc1 := 21) dX10_fault_11 (by decide) rfl ?_ ?_
    · refine TC.iconst (w := (-1)) dX10_fault_21 (by decide) ?_
      exact TC.ret_i rfl dX10_fault_22
    · refine TC.aload_n dX10_fault_14 rfl 0 rfl ?_
      refine gC8_8 k691 dX10_fault_15 (fun x1 => ?_)
      refine TC.goto (pc1 := 22) dX10_fault_18 (by decide) ?_
      exact TC.ret_i rfl dX10_fault_22
  · refine TC.aload_n dX10_fault_4 rfl 0 rfl ?_
    refine gC8_7 k690 dX10_fault_5 (fun x2 => ?_)
    exact TC.ret_i rfl dX10_fault_8
noncomputable def g_Court_isPart (p1 : Int32) (X : St) : Option (Int32 × St) :=
  letV (X.1 0 3) fun x1 =>
  if x1.toInt = 0 then
    some (0, X)
  else
    if p1.toInt < 0 then
      some (0, X)
    else
      chk (refO YC (X.2.2 0 9) 4 17 = true) (letV (X.2.2 0 9 - 1) fun e2 =>
      letV (X.1 e2 1) fun x3 =>
      if x3.toInt ≤ p1.toInt then
        some (0, X)
      else
        some (1, X))
set_option maxHeartbeats 4000000 in
set_option maxRecDepth 100000 in
theorem k_Court_isPart (Γ : GxC) (p1 : Int32) (X : St) : TCI YC Γ yX10_isPart cX10_isPart 2 "BlameCourt" (some .boolean) { frames := 2, cells := 0, slots := 0, locals := 70 } [.ref (Γ.2.2.2.1 0), .int p1] X (g_Court_isPart p1 X) := by
  refine TCI.of (by decide) (Nat.le_of_ble_eq_true rfl) rfl ?_
  show TC YC Γ cX10_isPart 2 "BlameCourt" (some .boolean) { frames := 2, cells := 0, slots := 0, locals := 70 } _ kI 0 [(0, .ref (Γ.2.2.2.1 0)), (1, .int p1)] [] X (g_Court_isPart p1 X)
  unfold g_Court_isPart
  refine TC.aload_n dX10_isPart_0 rfl 0 rfl ?_
  refine gC8_3 k683 dX10_isPart_1 (fun x1 => ?_)
  refine TC.if_eq (pc1 := 26) dX10_isPart_4 (by decide) ?_ ?_
  · refine TC.iconst (w := 0) dX10_isPart_26 (by decide) ?_
    exact TC.ret_z rfl dX10_isPart_27 rfl
  · refine TC.iload_n dX10_isPart_7 rfl 1 rfl ?_
    refine TC.if_lt (pc1 := 26) dX10_isPart_8 (by decide) ?_ ?_
    · refine TC.iconst (w := 0) dX10_isPart_26 (by decide) ?_
      exact TC.ret_z rfl dX10_isPart_27 rfl
    · refine TC.iload_n dX10_isPart_11 rfl 1 rfl ?_
      refine TC.aload_n dX10_isPart_12 rfl 0 rfl ?_
      refine mC8_9 k681 dX10_isPart_13 (fun e2 he2 => ?_)
      refine gC4_1 e2 he2 k287 dX10_isPart_16 (fun x3 => ?_)
      refine TC.icmp_ge (pc1 := 26) dX10_isPart_19 (by decide) rfl ?_ ?_
      · refine TC.iconst (w := 0) dX10_isPart_26 (by decide) ?_
        exact TC.ret_z rfl dX10_isPart_27 rfl
      · refine TC.iconst (w := 1) dX10_isPart_22 (by decide) ?_
        refine TC.goto (pc1 := 27) dX10_isPart_23 (by decide) ?_
        exact TC.ret_z rfl dX10_isPart_27 rfl
noncomputable def g_Court_tell (p1 : Int32) (p2 : Int32) (X : St) : Option (Int32 × St) :=
  bnd (g_Court_isPart p1 X) fun x1 X2 =>
  if x1.toInt = 0 then
    some (0, X2)
  else
    chk (refO YC (X2.2.2 0 9) 4 17 = true) (letV (X2.2.2 0 9 - 1) fun e3 =>
    letV (kY YC e3 3 - 3) fun e4 =>
    chk (inR p1 40) (letV (wI X2 e4 (ix p1) (vp_nar .boolean p2)) fun X5 =>
    letV (wI X5 0 4 ((0 : Int32))) fun X6 =>
    some (1, X6)))
set_option maxHeartbeats 4000000 in
set_option maxRecDepth 100000 in
theorem k_Court_tell (Γ : GxC) (p1 : Int32) (p2 : Int32) (X : St) : TCI YC Γ yX10_tell cX10_tell 3 "BlameCourt" (some .boolean) { frames := 3, cells := 0, slots := 0, locals := 110 } [.ref (Γ.2.2.2.1 0), .int p1, .int p2] X (g_Court_tell p1 p2 X) := by
  refine TCI.of (by decide) (Nat.le_of_ble_eq_true rfl) rfl ?_
  show TC YC Γ cX10_tell 3 "BlameCourt" (some .boolean) { frames := 3, cells := 0, slots := 0, locals := 110 } _ kI 0 [(0, .ref (Γ.2.2.2.1 0)), (1, .int p1), (2, .int p2)] [] X (g_Court_tell p1 p2 X)
  unfold g_Court_tell
  refine TC.aload_n dX10_tell_0 rfl 0 rfl ?_
  refine TC.iload_n dX10_tell_1 rfl 1 rfl ?_
  refine TC.callV_i 0 (As1 := [.int p1]) (rest := []) (k_Court_isPart Γ p1 X) ka_X10_isPart kv_X10_isPart oC_0 rfl k988 rfl rfl rfl rfl (show 2 + 1 ≤ 3 ∧ 8 + (2 + 11) + 70 ≤ 110 from ⟨by omega, by omega⟩) (Nat.le_of_ble_eq_true rfl) dX10_tell_2 (fun x1 X2 => ?_)
  refine TC.if_ne (pc1 := 10) dX10_tell_5 (by decide) ?_ ?_
  · refine TC.aload_n dX10_tell_10 rfl 0 rfl ?_
    refine mC8_9 k681 dX10_tell_11 (fun e3 he3 => ?_)
    refine vC4_3 e3 he3 k312 dX10_tell_14 (fun e4 he4 => ?_)
    refine TC.iload_n dX10_tell_17 rfl 1 rfl ?_
    refine TC.iload_n dX10_tell_18 rfl 2 rfl ?_
    refine TC.zast e4 he4 dX10_tell_19 (fun X5 => ?_)
    refine TC.aload_n dX10_tell_20 rfl 0 rfl ?_
    refine TC.iconst (w := 0) dX10_tell_21 (by decide) ?_
    refine pC8_4 k684 (by decide) dX10_tell_22 (fun X6 => ?_)
    refine TC.iconst (w := 1) dX10_tell_25 (by decide) ?_
    exact TC.ret_z rfl dX10_tell_26 rfl
  · refine TC.iconst (w := 0) dX10_tell_8 (by decide) ?_
    exact TC.ret_z rfl dX10_tell_9 rfl
noncomputable def g_Court_judge_74 (b_0 : Int32) (X : St) : Option (Int32 × St) :=
  chk (b_0.toInt = 0 ∨ b_0.toInt = 1) (letV (wI X 0 4 b_0) fun X12 =>
  letV (X12.1 0 4) fun x13 =>
  if x13.toInt = 0 then
    some ((-1), X12)
  else
    letV (X12.1 55 5) fun x14 =>
    some (x14, X12))
set_option maxHeartbeats 4000000 in
set_option maxRecDepth 100000 in
theorem k_Court_judge_74 (Γ : GxC) (As : List Value) (b_0 : Int32) (X : St) : TC YC Γ cX10_judge 1 "BlameCourt" (some .int) { frames := 73, cells := 0, slots := 0, locals := 2910 } As kI 74 [(0, .ref (Γ.2.2.2.1 0))] [.int b_0, .ref (Γ.2.2.2.1 0)] X (g_Court_judge_74 b_0 X) := by
  unfold g_Court_judge_74
  refine TC.ck (fun h15 => pC8_4 k684 h15 dX10_judge_74 (fun X12 => ?_))
  refine TC.aload_n dX10_judge_77 rfl 0 rfl ?_
  refine gC8_4 k684 dX10_judge_78 (fun x13 => ?_)
  refine TC.if_eq (pc1 := 94) dX10_judge_81 (by decide) ?_ ?_
  · refine TC.iconst (w := (-1)) dX10_judge_94 (by decide) ?_
    exact TC.ret_i rfl dX10_judge_95
  · refine TC.aload_n dX10_judge_84 rfl 0 rfl ?_
    refine cC8_10 k687 dX10_judge_85 ?_
    refine gC0_5 k484 dX10_judge_88 (fun x14 => ?_)
    refine TC.goto (pc1 := 95) dX10_judge_91 (by decide) ?_
    exact TC.ret_i rfl dX10_judge_95
noncomputable def g_Court_judge (X : St) : Option (Int32 × St) :=
  letV (wI X 0 4 ((0 : Int32))) fun X1 =>
  letV (wI X1 0 7 ((0 : Int32))) fun X2 =>
  letV (wI X2 0 8 ((-1 : Int32))) fun X3 =>
  letV (X3.1 0 3) fun x4 =>
  if x4.toInt = 0 then
    some ((-1), X3)
  else
    chk (refO YC (X3.2.2 0 9) 4 17 = true) (letV (X3.2.2 0 9 - 1) fun e5 =>
    bnd (g_Judging_judgeAll e5 55 X3) fun _ X6 =>
    letV (X6.1 61 4) fun x7 =>
    letV (wI X6 0 7 x7) fun X8 =>
    letV (X8.1 61 5) fun x9 =>
    letV (wI X8 0 8 x9) fun X10 =>
    letV (X10.1 0 7) fun x11 =>
    if x11.toInt = 0 then
      g_Court_judge_74 (1 : Int32) X10
    else
      g_Court_judge_74 (0 : Int32) X10)
set_option maxHeartbeats 4000000 in
set_option maxRecDepth 100000 in
theorem k_Court_judge (Γ : GxC) (X : St) : TCI YC Γ yX10_judge cX10_judge 1 "BlameCourt" (some .int) { frames := 73, cells := 0, slots := 0, locals := 2910 } [.ref (Γ.2.2.2.1 0)] X (g_Court_judge X) := by
  refine TCI.of (by decide) (Nat.le_of_ble_eq_true rfl) rfl ?_
  show TC YC Γ cX10_judge 1 "BlameCourt" (some .int) { frames := 73, cells := 0, slots := 0, locals := 2910 } _ kI 0 [(0, .ref (Γ.2.2.2.1 0))] [] X (g_Court_judge X)
  unfold g_Court_judge
  refine TC.aload_n dX10_judge_0 rfl 0 rfl ?_
  refine TC.iconst (w := 0) dX10_judge_1 (by decide) ?_
  refine pC8_4 k684 (by decide) dX10_judge_2 (fun X1 => ?_)
  refine TC.aload_n dX10_judge_5 rfl 0 rfl ?_
  refine TC.iconst (w := 0) dX10_judge_6 (by decide) ?_
  refine pC8_7 k690 dX10_judge_7 (fun X2 => ?_)
  refine TC.aload_n dX10_judge_10 rfl 0 rfl ?_
  refine TC.iconst (w := (-1)) dX10_judge_11 (by decide) ?_
  refine pC8_8 k691 dX10_judge_12 (fun X3 => ?_)
  refine TC.aload_n dX10_judge_15 rfl 0 rfl ?_
  refine gC8_3 k683 dX10_judge_16 (fun x4 => ?_)
  refine TC.if_ne (pc1 := 24) dX10_judge_19 (by decide) ?_ ?_
  · refine TC.aload_n dX10_judge_24 rfl 0 rfl ?_
    refine cC8_11 k688 dX10_judge_25 ?_
    refine TC.aload_n dX10_judge_28 rfl 0 rfl ?_
    refine mC8_9 k681 dX10_judge_29 (fun e5 he5 => ?_)
    refine TC.aload_n dX10_judge_32 rfl 0 rfl ?_
    refine cC8_10 k687 dX10_judge_33 ?_
    refine TC.callV_v 61 (As1 := [.ref (Γ.2.2.2.1 e5), .ref (Γ.2.2.2.1 55)]) (rest := []) (k_Judging_judgeAll Γ e5 he5 55 oC_55 X3) ka_X2_judgeAll kv_X2_judgeAll oC_61 rfl k996 rfl rfl rfl rfl (show 72 + 1 ≤ 73 ∧ 8 + (4 + 11) + 2870 ≤ 2910 from ⟨by omega, by omega⟩) (Nat.le_of_ble_eq_true rfl) dX10_judge_36 (fun _ X6 => ?_)
    refine TC.aload_n dX10_judge_39 rfl 0 rfl ?_
    refine TC.aload_n dX10_judge_40 rfl 0 rfl ?_
    refine cC8_11 k688 dX10_judge_41 ?_
    refine gC2_4 k510 dX10_judge_44 (fun x7 => ?_)
    refine pC8_7 k690 dX10_judge_47 (fun X8 => ?_)
    refine TC.aload_n dX10_judge_50 rfl 0 rfl ?_
    refine TC.aload_n dX10_judge_51 rfl 0 rfl ?_
    refine cC8_11 k688 dX10_judge_52 ?_
    refine gC2_5 k512 dX10_judge_55 (fun x9 => ?_)
    refine pC8_8 k691 dX10_judge_58 (fun X10 => ?_)
    refine TC.aload_n dX10_judge_61 rfl 0 rfl ?_
    refine TC.aload_n dX10_judge_62 rfl 0 rfl ?_
    refine gC8_7 k690 dX10_judge_63 (fun x11 => ?_)
    refine TC.if_ne (pc1 := 73) dX10_judge_66 (by decide) ?_ ?_
    · refine TC.iconst (w := 0) dX10_judge_73 (by decide) ?_
      exact k_Court_judge_74 Γ _ (0 : Int32) X10
    · refine TC.iconst (w := 1) dX10_judge_69 (by decide) ?_
      refine TC.goto (pc1 := 74) dX10_judge_70 (by decide) ?_
      exact k_Court_judge_74 Γ _ (1 : Int32) X10
  · refine TC.iconst (w := (-1)) dX10_judge_22 (by decide) ?_
    exact TC.ret_i rfl dX10_judge_23
noncomputable def g_Court_guard (p1 : Int32) (p2 : Int32) (X : St) : Option (Int32 × St) :=
  letV (X.1 0 4) fun x1 =>
  if x1.toInt = 0 then
    some ((-1), X)
  else
    if p1.toInt < 0 then
      some ((-1), X)
    else
      letV (X.1 55 5) fun x2 =>
      if p1.toInt < x2.toInt then
        if p2.toInt = 0 then
          chk (inR p1 3000) (letV (X.1 56 (ix p1)) fun x4 =>
          some (x4, X))
        else if p2.toInt = 1 then
          chk (inR p1 3000) (letV (X.1 57 (ix p1)) fun x6 =>
          some (x6, X))
        else if p2.toInt = 2 then
          chk (inR p1 3000) (letV (X.1 58 (ix p1)) fun x8 =>
          some (x8, X))
        else if p2.toInt = 3 then
          chk (refO YC (X.2.2 0 9) 4 17 = true) (letV (X.2.2 0 9 - 1) fun e10 =>
          letV (kY YC e10 0 - 3) fun e11 =>
          chk (inR p1 3000) (letV (X.1 59 (ix p1)) fun x12 =>
          bnd (g_Kinds_codeOf e11 x12 X) fun x13 X14 =>
          some (x13, X14)))
        else if p2.toInt = 4 then
          chk (refO YC (X.2.2 0 9) 4 17 = true) (letV (X.2.2 0 9 - 1) fun e16 =>
          letV (kY YC e16 0 - 3) fun e17 =>
          chk (inR p1 3000) (letV (X.1 60 (ix p1)) fun x18 =>
          bnd (g_Kinds_codeOf e17 x18 X) fun x19 X20 =>
          some (x19, X20)))
        else some ((-1), X)
      else
        some ((-1), X)
set_option maxHeartbeats 4000000 in
set_option maxRecDepth 100000 in
theorem k_Court_guard (Γ : GxC) (p1 : Int32) (p2 : Int32) (X : St) : TCI YC Γ yX10_guard cX10_guard 3 "BlameCourt" (some .int) { frames := 3, cells := 0, slots := 0, locals := 110 } [.ref (Γ.2.2.2.1 0), .int p1, .int p2] X (g_Court_guard p1 p2 X) := by
  refine TCI.of (by decide) (Nat.le_of_ble_eq_true rfl) rfl ?_
  show TC YC Γ cX10_guard 3 "BlameCourt" (some .int) { frames := 3, cells := 0, slots := 0, locals := 110 } _ kI 0 [(0, .ref (Γ.2.2.2.1 0)), (1, .int p1), (2, .int p2)] [] X (g_Court_guard p1 p2 X)
  unfold g_Court_guard
  refine TC.aload_n dX10_guard_0 rfl 0 rfl ?_
  refine gC8_4 k684 dX10_guard_1 (fun x1 => ?_)
  refine TC.if_eq (pc1 := 22) dX10_guard_4 (by decide) ?_ ?_
  · refine TC.iconst (w := (-1)) dX10_guard_22 (by decide) ?_
    exact TC.ret_i rfl dX10_guard_23
  · refine TC.iload_n dX10_guard_7 rfl 1 rfl ?_
    refine TC.if_lt (pc1 := 22) dX10_guard_8 (by decide) ?_ ?_
    · refine TC.iconst (w := (-1)) dX10_guard_22 (by decide) ?_
      exact TC.ret_i rfl dX10_guard_23
    · refine TC.iload_n dX10_guard_11 rfl 1 rfl ?_
      refine TC.aload_n dX10_guard_12 rfl 0 rfl ?_
      refine cC8_10 k687 dX10_guard_13 ?_
      refine gC0_5 k484 dX10_guard_16 (fun x2 => ?_)
      refine TC.icmp_lt (pc1 := 24) dX10_guard_19 (by decide) rfl ?_ ?_
      · refine TC.iload_n dX10_guard_24 rfl 2 rfl ?_
        refine TC.ite (fun s3 => ?_) (fun s3 => ?_)
        · refine TC.tbl (pc1 := 60) dX10_guard_25 (by decide) (off := 35) (by rw [s3]; rfl) (by decide) ?_
          refine TC.aload_n dX10_guard_60 rfl 0 rfl ?_
          refine cC8_10 k687 dX10_guard_61 ?_
          refine cC0_0 k468 dX10_guard_64 ?_
          refine TC.iload_n dX10_guard_67 rfl 1 rfl ?_
          refine alC56 dX10_guard_68 (fun x4 => ?_)
          exact TC.ret_i rfl dX10_guard_69
        refine TC.ite (fun s5 => ?_) (fun s5 => ?_)
        · refine TC.tbl (pc1 := 70) dX10_guard_25 (by decide) (off := 45) (by rw [s5]; rfl) (by decide) ?_
          refine TC.aload_n dX10_guard_70 rfl 0 rfl ?_
          refine cC8_10 k687 dX10_guard_71 ?_
          refine cC0_1 k471 dX10_guard_74 ?_
          refine TC.iload_n dX10_guard_77 rfl 1 rfl ?_
          refine alC57 dX10_guard_78 (fun x6 => ?_)
          exact TC.ret_i rfl dX10_guard_79
        refine TC.ite (fun s7 => ?_) (fun s7 => ?_)
        · refine TC.tbl (pc1 := 80) dX10_guard_25 (by decide) (off := 55) (by rw [s7]; rfl) (by decide) ?_
          refine TC.aload_n dX10_guard_80 rfl 0 rfl ?_
          refine cC8_10 k687 dX10_guard_81 ?_
          refine cC0_2 k474 dX10_guard_84 ?_
          refine TC.iload_n dX10_guard_87 rfl 1 rfl ?_
          refine alC58 dX10_guard_88 (fun x8 => ?_)
          exact TC.ret_i rfl dX10_guard_89
        refine TC.ite (fun s9 => ?_) (fun s9 => ?_)
        · refine TC.tbl (pc1 := 90) dX10_guard_25 (by decide) (off := 65) (by rw [s9]; rfl) (by decide) ?_
          refine TC.aload_n dX10_guard_90 rfl 0 rfl ?_
          refine mC8_9 k681 dX10_guard_91 (fun e10 he10 => ?_)
          refine vC4_0 e10 he10 k282 dX10_guard_94 (fun e11 he11 => ?_)
          refine TC.aload_n dX10_guard_97 rfl 0 rfl ?_
          refine cC8_10 k687 dX10_guard_98 ?_
          refine cC0_3 k477 dX10_guard_101 ?_
          refine TC.iload_n dX10_guard_104 rfl 1 rfl ?_
          refine alC59 dX10_guard_105 (fun x12 => ?_)
          refine TC.callV_i e11 (As1 := [.int x12]) (rest := []) (k_Kinds_codeOf Γ e11 he11 x12 X) ka_X3_codeOf kv_X3_codeOf he11 rfl k1116 rfl rfl rfl rfl (show 2 + 1 ≤ 3 ∧ 8 + (2 + 11) + 70 ≤ 110 from ⟨by omega, by omega⟩) (Nat.le_of_ble_eq_true rfl) dX10_guard_106 (fun x13 X14 => ?_)
          exact TC.ret_i rfl dX10_guard_109
        refine TC.ite (fun s15 => ?_) (fun s15 => ?_)
        · refine TC.tbl (pc1 := 110) dX10_guard_25 (by decide) (off := 85) (by rw [s15]; rfl) (by decide) ?_
          refine TC.aload_n dX10_guard_110 rfl 0 rfl ?_
          refine mC8_9 k681 dX10_guard_111 (fun e16 he16 => ?_)
          refine vC4_0 e16 he16 k282 dX10_guard_114 (fun e17 he17 => ?_)
          refine TC.aload_n dX10_guard_117 rfl 0 rfl ?_
          refine cC8_10 k687 dX10_guard_118 ?_
          refine cC0_4 k480 dX10_guard_121 ?_
          refine TC.iload_n dX10_guard_124 rfl 1 rfl ?_
          refine alC60 dX10_guard_125 (fun x18 => ?_)
          refine TC.callV_i e17 (As1 := [.int x18]) (rest := []) (k_Kinds_codeOf Γ e17 he17 x18 X) ka_X3_codeOf kv_X3_codeOf he17 rfl k1116 rfl rfl rfl rfl (show 2 + 1 ≤ 3 ∧ 8 + (2 + 11) + 70 ≤ 110 from ⟨by omega, by omega⟩) (Nat.le_of_ble_eq_true rfl) dX10_guard_126 (fun x19 X20 => ?_)
          exact TC.ret_i rfl dX10_guard_129
        refine TC.tbl (pc1 := 130) dX10_guard_25 (by decide) (off := 105) (tbl_d [0, 1, 2, 3, 4] (by intro q; simp only [List.mem_cons, List.not_mem_nil, or_false] at q; omega) (by decide)) (by decide) ?_
        refine TC.iconst (w := (-1)) dX10_guard_130 (by decide) ?_
        exact TC.ret_i rfl dX10_guard_131
      · refine TC.iconst (w := (-1)) dX10_guard_22 (by decide) ?_
        exact TC.ret_i rfl dX10_guard_23
noncomputable def g_Court_part (p1 : Int32) (p2 : Int32) (X : St) : Option (Int32 × St) :=
  bnd (g_Court_isPart p1 X) fun x1 X2 =>
  if x1.toInt = 0 then
    some ((-1), X2)
  else
    if p2.toInt = 0 then
      chk (refO YC (X2.2.2 0 9) 4 17 = true) (letV (X2.2.2 0 9 - 1) fun e4 =>
      letV (kY YC e4 3 - 3) fun e5 =>
      chk (inR p1 40) (letV (X2.1 e5 (ix p1)) fun x6 =>
      if x6.toInt = 0 then
        some (0, X2)
      else
        some (1, X2)))
    else if p2.toInt = 1 then
      chk (refO YC (X2.2.2 0 9) 4 17 = true) (letV (X2.2.2 0 9 - 1) fun e8 =>
      letV (kY YC e8 10 - 3) fun e9 =>
      chk (inR p1 40) (letV (X2.1 e9 (ix p1)) fun x10 =>
      some (x10, X2)))
    else if p2.toInt = 2 then
      chk (refO YC (X2.2.2 0 9) 4 17 = true) (letV (X2.2.2 0 9 - 1) fun e12 =>
      letV (kY YC e12 8 - 3) fun e13 =>
      chk (inR p1 40) (letV (X2.1 e13 (ix p1)) fun x14 =>
      some (x14, X2)))
    else if p2.toInt = 3 then
      letV (X2.1 0 4) fun x16 =>
      if x16.toInt = 0 then
        some ((-1), X2)
      else
        chk (inR p1 40) (letV (X2.1 62 (ix p1)) fun x17 =>
        if x17.toInt = 0 then
          some (0, X2)
        else
          some (1, X2))
    else if p2.toInt = 4 then
      chk (refO YC (X2.2.2 0 9) 4 17 = true) (letV (X2.2.2 0 9 - 1) fun e19 =>
      letV (kY YC e19 9 - 3) fun e20 =>
      chk (inR p1 40) (letV (X2.1 e20 (ix p1)) fun x21 =>
      some (x21, X2)))
    else chk (refO YC (X2.2.2 0 9) 4 17 = true) (letV (X2.2.2 0 9 - 1) fun e22 =>
    letV (p2 - (100 : Int32)) fun x23 =>
    bnd (g_Program_letterOf e22 p1 x23 X2) fun x24 X25 =>
    some (x24, X25))
set_option maxHeartbeats 4000000 in
set_option maxRecDepth 100000 in
theorem k_Court_part (Γ : GxC) (p1 : Int32) (p2 : Int32) (X : St) : TCI YC Γ yX10_part cX10_part 3 "BlameCourt" (some .int) { frames := 3, cells := 0, slots := 0, locals := 110 } [.ref (Γ.2.2.2.1 0), .int p1, .int p2] X (g_Court_part p1 p2 X) := by
  refine TCI.of (by decide) (Nat.le_of_ble_eq_true rfl) rfl ?_
  show TC YC Γ cX10_part 3 "BlameCourt" (some .int) { frames := 3, cells := 0, slots := 0, locals := 110 } _ kI 0 [(0, .ref (Γ.2.2.2.1 0)), (1, .int p1), (2, .int p2)] [] X (g_Court_part p1 p2 X)
  unfold g_Court_part
  refine TC.aload_n dX10_part_0 rfl 0 rfl ?_
  refine TC.iload_n dX10_part_1 rfl 1 rfl ?_
  refine TC.callV_i 0 (As1 := [.int p1]) (rest := []) (k_Court_isPart Γ p1 X) ka_X10_isPart kv_X10_isPart oC_0 rfl k988 rfl rfl rfl rfl (show 2 + 1 ≤ 3 ∧ 8 + (2 + 11) + 70 ≤ 110 from ⟨by omega, by omega⟩) (Nat.le_of_ble_eq_true rfl) dX10_part_2 (fun x1 X2 => ?_)
  refine TC.if_ne (pc1 := 10) dX10_part_5 (by decide) ?_ ?_
  · refine TC.iload_n dX10_part_10 rfl 2 rfl ?_
    refine TC.ite (fun s3 => ?_) (fun s3 => ?_)
    · refine TC.tbl (pc1 := 44) dX10_part_11 (by decide) (off := 33) (by rw [s3]; rfl) (by decide) ?_
      refine TC.aload_n dX10_part_44 rfl 0 rfl ?_
      refine mC8_9 k681 dX10_part_45 (fun e4 he4 => ?_)
      refine vC4_3 e4 he4 k312 dX10_part_48 (fun e5 he5 => ?_)
      refine TC.iload_n dX10_part_51 rfl 1 rfl ?_
      refine TC.zald e5 he5 dX10_part_52 (fun x6 => ?_)
      refine TC.if_eq (pc1 := 60) dX10_part_53 (by decide) ?_ ?_
      · refine TC.iconst (w := 0) dX10_part_60 (by decide) ?_
        exact TC.ret_i rfl dX10_part_61
      · refine TC.iconst (w := 1) dX10_part_56 (by decide) ?_
        refine TC.goto (pc1 := 61) dX10_part_57 (by decide) ?_
        exact TC.ret_i rfl dX10_part_61
    refine TC.ite (fun s7 => ?_) (fun s7 => ?_)
    · refine TC.tbl (pc1 := 62) dX10_part_11 (by decide) (off := 51) (by rw [s7]; rfl) (by decide) ?_
      refine TC.aload_n dX10_part_62 rfl 0 rfl ?_
      refine mC8_9 k681 dX10_part_63 (fun e8 he8 => ?_)
      refine vC4_10 e8 he8 k302 dX10_part_66 (fun e9 he9 => ?_)
      refine TC.iload_n dX10_part_69 rfl 1 rfl ?_
      refine TC.iald e9 he9 dX10_part_70 (fun x10 => ?_)
      exact TC.ret_i rfl dX10_part_71
    refine TC.ite (fun s11 => ?_) (fun s11 => ?_)
    · refine TC.tbl (pc1 := 72) dX10_part_11 (by decide) (off := 61) (by rw [s11]; rfl) (by decide) ?_
      refine TC.aload_n dX10_part_72 rfl 0 rfl ?_
      refine mC8_9 k681 dX10_part_73 (fun e12 he12 => ?_)
      refine vC4_8 e12 he12 k296 dX10_part_76 (fun e13 he13 => ?_)
      refine TC.iload_n dX10_part_79 rfl 1 rfl ?_
      refine TC.iald e13 he13 dX10_part_80 (fun x14 => ?_)
      exact TC.ret_i rfl dX10_part_81
    refine TC.ite (fun s15 => ?_) (fun s15 => ?_)
    · refine TC.tbl (pc1 := 82) dX10_part_11 (by decide) (off := 71) (by rw [s15]; rfl) (by decide) ?_
      refine TC.aload_n dX10_part_82 rfl 0 rfl ?_
      refine gC8_4 k684 dX10_part_83 (fun x16 => ?_)
      refine TC.if_eq (pc1 := 109) dX10_part_86 (by decide) ?_ ?_
      · refine TC.iconst (w := (-1)) dX10_part_109 (by decide) ?_
        exact TC.ret_i rfl dX10_part_110
      · refine TC.aload_n dX10_part_89 rfl 0 rfl ?_
        refine cC8_11 k688 dX10_part_90 ?_
        refine cC2_6 k514 dX10_part_93 ?_
        refine TC.iload_n dX10_part_96 rfl 1 rfl ?_
        refine alC62 dX10_part_97 (fun x17 => ?_)
        refine TC.if_eq (pc1 := 105) dX10_part_98 (by decide) ?_ ?_
        · refine TC.iconst (w := 0) dX10_part_105 (by decide) ?_
          refine TC.goto (pc1 := 110) dX10_part_106 (by decide) ?_
          exact TC.ret_i rfl dX10_part_110
        · refine TC.iconst (w := 1) dX10_part_101 (by decide) ?_
          refine TC.goto (pc1 := 110) dX10_part_102 (by decide) ?_
          exact TC.ret_i rfl dX10_part_110
    refine TC.ite (fun s18 => ?_) (fun s18 => ?_)
    · refine TC.tbl (pc1 := 111) dX10_part_11 (by decide) (off := 100) (by rw [s18]; rfl) (by decide) ?_
      refine TC.aload_n dX10_part_111 rfl 0 rfl ?_
      refine mC8_9 k681 dX10_part_112 (fun e19 he19 => ?_)
      refine vC4_9 e19 he19 k299 dX10_part_115 (fun e20 he20 => ?_)
      refine TC.iload_n dX10_part_118 rfl 1 rfl ?_
      refine TC.iald e20 he20 dX10_part_119 (fun x21 => ?_)
      exact TC.ret_i rfl dX10_part_120
    refine TC.tbl (pc1 := 121) dX10_part_11 (by decide) (off := 110) (tbl_d [0, 1, 2, 3, 4] (by intro q; simp only [List.mem_cons, List.not_mem_nil, or_false] at q; omega) (by decide)) (by decide) ?_
    refine TC.aload_n dX10_part_121 rfl 0 rfl ?_
    refine mC8_9 k681 dX10_part_122 (fun e22 he22 => ?_)
    refine TC.iload_n dX10_part_125 rfl 1 rfl ?_
    refine TC.iload_n dX10_part_126 rfl 2 rfl ?_
    refine TC.bipush (w := 100) dX10_part_127 (by decide) ?_
    refine TC.isub dX10_part_129 (fun x23 => ?_)
    refine TC.callV_i e22 (As1 := [.int p1, .int x23]) (rest := []) (k_Program_letterOf Γ e22 he22 p1 x23 X2) ka_X5_letterOf kv_X5_letterOf he22 rfl k1121 rfl rfl rfl rfl (show 2 + 1 ≤ 3 ∧ 8 + (3 + 11) + 70 ≤ 110 from ⟨by omega, by omega⟩) (Nat.le_of_ble_eq_true rfl) dX10_part_130 (fun x24 X25 => ?_)
    exact TC.ret_i rfl dX10_part_133
  · refine TC.iconst (w := (-1)) dX10_part_8 (by decide) ?_
    exact TC.ret_i rfl dX10_part_9
noncomputable def g_Court_isFuel (p0 : Int32) (X : St) : Option (Int32 × St) :=
  if p0.toInt < 0 then
    some (0, X)
  else
    if 20000 < p0.toInt then
      some (0, X)
    else
      some (1, X)
set_option maxHeartbeats 4000000 in
set_option maxRecDepth 100000 in
theorem k_Court_isFuel (Γ : GxC) (p0 : Int32) (X : St) : TCI YC Γ yX10_isFuel cX10_isFuel 1 "BlameCourt" (some .boolean) { frames := 2, cells := 0, slots := 0, locals := 70 } [.int p0] X (g_Court_isFuel p0 X) := by
  refine TCI.of (by decide) (Nat.le_of_ble_eq_true rfl) rfl ?_
  show TC YC Γ cX10_isFuel 1 "BlameCourt" (some .boolean) { frames := 2, cells := 0, slots := 0, locals := 70 } _ kI 0 [(0, .int p0)] [] X (g_Court_isFuel p0 X)
  unfold g_Court_isFuel
  refine TC.iload_n dX10_isFuel_0 rfl 0 rfl ?_
  refine TC.if_lt (pc1 := 15) dX10_isFuel_1 (by decide) ?_ ?_
  · refine TC.iconst (w := 0) dX10_isFuel_15 (by decide) ?_
    exact TC.ret_z rfl dX10_isFuel_16 rfl
  · refine TC.iload_n dX10_isFuel_4 rfl 0 rfl ?_
    refine TC.sipush (w := 20000) dX10_isFuel_5 (by decide) ?_
    refine TC.icmp_gt (pc1 := 15) dX10_isFuel_8 (by decide) rfl ?_ ?_
    · refine TC.iconst (w := 0) dX10_isFuel_15 (by decide) ?_
      exact TC.ret_z rfl dX10_isFuel_16 rfl
    · refine TC.iconst (w := 1) dX10_isFuel_11 (by decide) ?_
      refine TC.goto (pc1 := 16) dX10_isFuel_12 (by decide) ?_
      exact TC.ret_z rfl dX10_isFuel_16 rfl
noncomputable def g_Court_run (p1 : Int32) (X : St) : Option (Int32 × St) :=
  letV (X.1 0 4) fun x1 =>
  if x1.toInt = 0 then
    some ((-1), X)
  else
    bnd (g_Court_isFuel p1 X) fun x2 X3 =>
    if x2.toInt = 0 then
      some ((-1), X3)
    else
      letV (wI X3 0 5 ((1 : Int32))) fun X4 =>
      chk (refO YC (X4.2.2 0 9) 4 17 = true) (letV (X4.2.2 0 9 - 1) fun e5 =>
      bnd (g_Running_runAll e5 55 (1 : Int32) p1 X4) fun x6 X7 =>
      some (x6, X7))
set_option maxHeartbeats 4000000 in
set_option maxRecDepth 100000 in
theorem k_Court_run (Γ : GxC) (p1 : Int32) (X : St) : TCI YC Γ yX10_run cX10_run 2 "BlameCourt" (some .int) { frames := 9, cells := 0, slots := 0, locals := 350 } [.ref (Γ.2.2.2.1 0), .int p1] X (g_Court_run p1 X) := by
  refine TCI.of (by decide) (Nat.le_of_ble_eq_true rfl) rfl ?_
  show TC YC Γ cX10_run 2 "BlameCourt" (some .int) { frames := 9, cells := 0, slots := 0, locals := 350 } _ kI 0 [(0, .ref (Γ.2.2.2.1 0)), (1, .int p1)] [] X (g_Court_run p1 X)
  unfold g_Court_run
  refine TC.aload_n dX10_run_0 rfl 0 rfl ?_
  refine gC8_4 k684 dX10_run_1 (fun x1 => ?_)
  refine TC.if_eq (pc1 := 14) dX10_run_4 (by decide) ?_ ?_
  · refine TC.iconst (w := (-1)) dX10_run_14 (by decide) ?_
    exact TC.ret_i rfl dX10_run_15
  · refine TC.iload_n dX10_run_7 rfl 1 rfl ?_
    refine TC.callS_i (As1 := [.int p1]) (rest := []) (k_Court_isFuel Γ p1 X) ka_X10_isFuel k1130 k1129 rfl rfl rfl rfl (show 2 + 1 ≤ 9 ∧ 8 + (1 + 11) + 70 ≤ 350 from ⟨by omega, by omega⟩) (Nat.le_of_ble_eq_true rfl) dX10_run_8 (fun x2 X3 => ?_)
    refine TC.if_ne (pc1 := 16) dX10_run_11 (by decide) ?_ ?_
    · refine TC.aload_n dX10_run_16 rfl 0 rfl ?_
      refine TC.iconst (w := 1) dX10_run_17 (by decide) ?_
      refine pC8_5 k685 (by decide) dX10_run_18 (fun X4 => ?_)
      refine TC.aload_n dX10_run_21 rfl 0 rfl ?_
      refine cC8_12 k689 dX10_run_22 ?_
      refine TC.aload_n dX10_run_25 rfl 0 rfl ?_
      refine mC8_9 k681 dX10_run_26 (fun e5 he5 => ?_)
      refine TC.aload_n dX10_run_29 rfl 0 rfl ?_
      refine cC8_10 k687 dX10_run_30 ?_
      refine TC.iconst (w := 1) dX10_run_33 (by decide) ?_
      refine TC.iload_n dX10_run_34 rfl 1 rfl ?_
      refine TC.callV_i 70 (As1 := [.ref (Γ.2.2.2.1 e5), .ref (Γ.2.2.2.1 55), .int 1, .int p1]) (rest := []) (k_Running_runAll Γ e5 he5 55 oC_55 (1 : Int32) p1 X4) ka_X7_runAll kv_X7_runAll oC_70 rfl k1132 rfl rfl rfl rfl (show 8 + 1 ≤ 9 ∧ 8 + (8 + 11) + 310 ≤ 350 from ⟨by omega, by omega⟩) (Nat.le_of_ble_eq_true rfl) dX10_run_35 (fun x6 X7 => ?_)
      exact TC.ret_i rfl dX10_run_38
    · refine TC.iconst (w := (-1)) dX10_run_14 (by decide) ?_
      exact TC.ret_i rfl dX10_run_15
noncomputable def g_Court_runUntold (p1 : Int32) (X : St) : Option (Int32 × St) :=
  letV (X.1 0 3) fun x1 =>
  if x1.toInt = 0 then
    some ((-1), X)
  else
    bnd (g_Court_isFuel p1 X) fun x2 X3 =>
    if x2.toInt = 0 then
      some ((-1), X3)
    else
      letV (wI X3 0 5 ((1 : Int32))) fun X4 =>
      chk (refO YC (X4.2.2 0 9) 4 17 = true) (letV (X4.2.2 0 9 - 1) fun e5 =>
      bnd (g_Running_runAll e5 55 (0 : Int32) p1 X4) fun x6 X7 =>
      some (x6, X7))
set_option maxHeartbeats 4000000 in
set_option maxRecDepth 100000 in
theorem k_Court_runUntold (Γ : GxC) (p1 : Int32) (X : St) : TCI YC Γ yX10_runUntold cX10_runUntold 2 "BlameCourt" (some .int) { frames := 9, cells := 0, slots := 0, locals := 350 } [.ref (Γ.2.2.2.1 0), .int p1] X (g_Court_runUntold p1 X) := by
  refine TCI.of (by decide) (Nat.le_of_ble_eq_true rfl) rfl ?_
  show TC YC Γ cX10_runUntold 2 "BlameCourt" (some .int) { frames := 9, cells := 0, slots := 0, locals := 350 } _ kI 0 [(0, .ref (Γ.2.2.2.1 0)), (1, .int p1)] [] X (g_Court_runUntold p1 X)
  unfold g_Court_runUntold
  refine TC.aload_n dX10_runUntold_0 rfl 0 rfl ?_
  refine gC8_3 k683 dX10_runUntold_1 (fun x1 => ?_)
  refine TC.if_eq (pc1 := 14) dX10_runUntold_4 (by decide) ?_ ?_
  · refine TC.iconst (w := (-1)) dX10_runUntold_14 (by decide) ?_
    exact TC.ret_i rfl dX10_runUntold_15
  · refine TC.iload_n dX10_runUntold_7 rfl 1 rfl ?_
    refine TC.callS_i (As1 := [.int p1]) (rest := []) (k_Court_isFuel Γ p1 X) ka_X10_isFuel k1130 k1129 rfl rfl rfl rfl (show 2 + 1 ≤ 9 ∧ 8 + (1 + 11) + 70 ≤ 350 from ⟨by omega, by omega⟩) (Nat.le_of_ble_eq_true rfl) dX10_runUntold_8 (fun x2 X3 => ?_)
    refine TC.if_ne (pc1 := 16) dX10_runUntold_11 (by decide) ?_ ?_
    · refine TC.aload_n dX10_runUntold_16 rfl 0 rfl ?_
      refine TC.iconst (w := 1) dX10_runUntold_17 (by decide) ?_
      refine pC8_5 k685 (by decide) dX10_runUntold_18 (fun X4 => ?_)
      refine TC.aload_n dX10_runUntold_21 rfl 0 rfl ?_
      refine cC8_12 k689 dX10_runUntold_22 ?_
      refine TC.aload_n dX10_runUntold_25 rfl 0 rfl ?_
      refine mC8_9 k681 dX10_runUntold_26 (fun e5 he5 => ?_)
      refine TC.aload_n dX10_runUntold_29 rfl 0 rfl ?_
      refine cC8_10 k687 dX10_runUntold_30 ?_
      refine TC.iconst (w := 0) dX10_runUntold_33 (by decide) ?_
      refine TC.iload_n dX10_runUntold_34 rfl 1 rfl ?_
      refine TC.callV_i 70 (As1 := [.ref (Γ.2.2.2.1 e5), .ref (Γ.2.2.2.1 55), .int 0, .int p1]) (rest := []) (k_Running_runAll Γ e5 he5 55 oC_55 (0 : Int32) p1 X4) ka_X7_runAll kv_X7_runAll oC_70 rfl k1132 rfl rfl rfl rfl (show 8 + 1 ≤ 9 ∧ 8 + (8 + 11) + 310 ≤ 350 from ⟨by omega, by omega⟩) (Nat.le_of_ble_eq_true rfl) dX10_runUntold_35 (fun x6 X7 => ?_)
      exact TC.ret_i rfl dX10_runUntold_38
    · refine TC.iconst (w := (-1)) dX10_runUntold_14 (by decide) ?_
      exact TC.ret_i rfl dX10_runUntold_15
noncomputable def g_Court_told (p1 : Int32) (X : St) : Option (Int32 × St) :=
  letV (X.1 0 5) fun x1 =>
  if x1.toInt = 0 then
    some ((-1), X)
  else
    bnd (g_Running_tellOf p1 X) fun x2 X3 =>
    some (x2, X3)
set_option maxHeartbeats 4000000 in
set_option maxRecDepth 100000 in
theorem k_Court_told (Γ : GxC) (p1 : Int32) (X : St) : TCI YC Γ yX10_told cX10_told 2 "BlameCourt" (some .int) { frames := 6, cells := 0, slots := 0, locals := 230 } [.ref (Γ.2.2.2.1 0), .int p1] X (g_Court_told p1 X) := by
  refine TCI.of (by decide) (Nat.le_of_ble_eq_true rfl) rfl ?_
  show TC YC Γ cX10_told 2 "BlameCourt" (some .int) { frames := 6, cells := 0, slots := 0, locals := 230 } _ kI 0 [(0, .ref (Γ.2.2.2.1 0)), (1, .int p1)] [] X (g_Court_told p1 X)
  unfold g_Court_told
  refine TC.aload_n dX10_told_0 rfl 0 rfl ?_
  refine gC8_5 k685 dX10_told_1 (fun x1 => ?_)
  refine TC.if_eq (pc1 := 18) dX10_told_4 (by decide) ?_ ?_
  · refine TC.iconst (w := (-1)) dX10_told_18 (by decide) ?_
    exact TC.ret_i rfl dX10_told_19
  · refine TC.aload_n dX10_told_7 rfl 0 rfl ?_
    refine cC8_12 k689 dX10_told_8 ?_
    refine TC.iload_n dX10_told_11 rfl 1 rfl ?_
    refine TC.callV_i 70 (As1 := [.int p1]) (rest := []) (k_Running_tellOf Γ p1 X) ka_X7_tellOf kv_X7_tellOf oC_70 rfl k1327 rfl rfl rfl rfl (show 5 + 1 ≤ 6 ∧ 8 + (4 + 11) + 190 ≤ 230 from ⟨by omega, by omega⟩) (Nat.le_of_ble_eq_true rfl) dX10_told_12 (fun x2 X3 => ?_)
    refine TC.goto (pc1 := 19) dX10_told_15 (by decide) ?_
    exact TC.ret_i rfl dX10_told_19
noncomputable def g_Court_out (p1 : Int32) (X : St) : Option (Int32 × St) :=
  letV (X.1 0 5) fun x1 =>
  if x1.toInt = 0 then
    some (0, X)
  else
    if p1.toInt < 0 then
      some (0, X)
    else
      letV (X.1 70 18) fun x2 =>
      if p1.toInt < x2.toInt then
        chk (inR p1 200) (letV (X.1 86 (ix p1)) fun x3 =>
        some (x3, X))
      else
        some (0, X)
set_option maxHeartbeats 4000000 in
set_option maxRecDepth 100000 in
theorem k_Court_out (Γ : GxC) (p1 : Int32) (X : St) : TCI YC Γ yX10_out cX10_out 2 "BlameCourt" (some .int) { frames := 2, cells := 0, slots := 0, locals := 70 } [.ref (Γ.2.2.2.1 0), .int p1] X (g_Court_out p1 X) := by
  refine TCI.of (by decide) (Nat.le_of_ble_eq_true rfl) rfl ?_
  show TC YC Γ cX10_out 2 "BlameCourt" (some .int) { frames := 2, cells := 0, slots := 0, locals := 70 } _ kI 0 [(0, .ref (Γ.2.2.2.1 0)), (1, .int p1)] [] X (g_Court_out p1 X)
  unfold g_Court_out
  refine TC.aload_n dX10_out_0 rfl 0 rfl ?_
  refine gC8_5 k685 dX10_out_1 (fun x1 => ?_)
  refine TC.if_eq (pc1 := 22) dX10_out_4 (by decide) ?_ ?_
  · refine TC.iconst (w := 0) dX10_out_22 (by decide) ?_
    exact TC.ret_i rfl dX10_out_23
  · refine TC.iload_n dX10_out_7 rfl 1 rfl ?_
    refine TC.if_lt (pc1 := 22) dX10_out_8 (by decide) ?_ ?_
    · refine TC.iconst (w := 0) dX10_out_22 (by decide) ?_
      exact TC.ret_i rfl dX10_out_23
    · refine TC.iload_n dX10_out_11 rfl 1 rfl ?_
      refine TC.aload_n dX10_out_12 rfl 0 rfl ?_
      refine cC8_12 k689 dX10_out_13 ?_
      refine gC6_18 k635 dX10_out_16 (fun x2 => ?_)
      refine TC.icmp_lt (pc1 := 24) dX10_out_19 (by decide) rfl ?_ ?_
      · refine TC.aload_n dX10_out_24 rfl 0 rfl ?_
        refine cC8_12 k689 dX10_out_25 ?_
        refine cC6_17 k633 dX10_out_28 ?_
        refine TC.iload_n dX10_out_31 rfl 1 rfl ?_
        refine alC86 dX10_out_32 (fun x3 => ?_)
        exact TC.ret_i rfl dX10_out_33
      · refine TC.iconst (w := 0) dX10_out_22 (by decide) ?_
        exact TC.ret_i rfl dX10_out_23
noncomputable def g_Court_asked (p1 : Int32) (p2 : Int32) (X : St) : Option (Int32 × St) :=
  letV (X.1 0 5) fun x1 =>
  if x1.toInt = 0 then
    some ((-1), X)
  else
    bnd (g_Court_isPart p1 X) fun x2 X3 =>
    if x2.toInt = 0 then
      some ((-1), X3)
    else
      bnd (g_Court_isPart p2 X3) fun x4 X5 =>
      if x4.toInt = 0 then
        some ((-1), X5)
      else
        letV (p1 * (40 : Int32)) fun x6 =>
        letV (x6 + p2) fun x7 =>
        chk (inR x7 1600) (letV (X5.1 87 (ix x7)) fun x8 =>
        some (x8, X5))
set_option maxHeartbeats 4000000 in
set_option maxRecDepth 100000 in
theorem k_Court_asked (Γ : GxC) (p1 : Int32) (p2 : Int32) (X : St) : TCI YC Γ yX10_asked cX10_asked 3 "BlameCourt" (some .int) { frames := 3, cells := 0, slots := 0, locals := 110 } [.ref (Γ.2.2.2.1 0), .int p1, .int p2] X (g_Court_asked p1 p2 X) := by
  refine TCI.of (by decide) (Nat.le_of_ble_eq_true rfl) rfl ?_
  show TC YC Γ cX10_asked 3 "BlameCourt" (some .int) { frames := 3, cells := 0, slots := 0, locals := 110 } _ kI 0 [(0, .ref (Γ.2.2.2.1 0)), (1, .int p1), (2, .int p2)] [] X (g_Court_asked p1 p2 X)
  unfold g_Court_asked
  refine TC.aload_n dX10_asked_0 rfl 0 rfl ?_
  refine gC8_5 k685 dX10_asked_1 (fun x1 => ?_)
  refine TC.if_eq (pc1 := 23) dX10_asked_4 (by decide) ?_ ?_
  · refine TC.iconst (w := (-1)) dX10_asked_23 (by decide) ?_
    exact TC.ret_i rfl dX10_asked_24
  · refine TC.aload_n dX10_asked_7 rfl 0 rfl ?_
    refine TC.iload_n dX10_asked_8 rfl 1 rfl ?_
    refine TC.callV_i 0 (As1 := [.int p1]) (rest := []) (k_Court_isPart Γ p1 X) ka_X10_isPart kv_X10_isPart oC_0 rfl k988 rfl rfl rfl rfl (show 2 + 1 ≤ 3 ∧ 8 + (2 + 11) + 70 ≤ 110 from ⟨by omega, by omega⟩) (Nat.le_of_ble_eq_true rfl) dX10_asked_9 (fun x2 X3 => ?_)
    refine TC.if_eq (pc1 := 23) dX10_asked_12 (by decide) ?_ ?_
    · refine TC.iconst (w := (-1)) dX10_asked_23 (by decide) ?_
      exact TC.ret_i rfl dX10_asked_24
    · refine TC.aload_n dX10_asked_15 rfl 0 rfl ?_
      refine TC.iload_n dX10_asked_16 rfl 2 rfl ?_
      refine TC.callV_i 0 (As1 := [.int p2]) (rest := []) (k_Court_isPart Γ p2 X3) ka_X10_isPart kv_X10_isPart oC_0 rfl k988 rfl rfl rfl rfl (show 2 + 1 ≤ 3 ∧ 8 + (2 + 11) + 70 ≤ 110 from ⟨by omega, by omega⟩) (Nat.le_of_ble_eq_true rfl) dX10_asked_17 (fun x4 X5 => ?_)
      refine TC.if_ne (pc1 := 25) dX10_asked_20 (by decide) ?_ ?_
      · refine TC.aload_n dX10_asked_25 rfl 0 rfl ?_
        refine cC8_12 k689 dX10_asked_26 ?_
        refine cC6_19 k637 dX10_asked_29 ?_
        refine TC.iload_n dX10_asked_32 rfl 1 rfl ?_
        refine TC.bipush (w := 40) dX10_asked_33 (by decide) ?_
        refine TC.imul dX10_asked_35 (fun x6 => ?_)
        refine TC.iload_n dX10_asked_36 rfl 2 rfl ?_
        refine TC.iadd dX10_asked_37 (fun x7 => ?_)
        refine alC87 dX10_asked_38 (fun x8 => ?_)
        exact TC.ret_i rfl dX10_asked_39
      · refine TC.iconst (w := (-1)) dX10_asked_23 (by decide) ?_
        exact TC.ret_i rfl dX10_asked_24
noncomputable def g_Court_about (p1 : Int32) (X : St) : Option (Int32 × St) :=
  if p1.toInt = 0 then
    letV (X.1 0 1) fun x2 =>
    some (x2, X)
  else if p1.toInt = 1 then
    letV (X.1 0 3) fun x4 =>
    if x4.toInt = 0 then
      some (0, X)
    else
      chk (refO YC (X.2.2 0 9) 4 17 = true) (letV (X.2.2 0 9 - 1) fun e5 =>
      letV (X.1 e5 1) fun x6 =>
      some (x6, X))
  else if p1.toInt = 2 then
    letV (X.1 0 4) fun x8 =>
    if x8.toInt = 0 then
      some (0, X)
    else
      some (1, X)
  else if p1.toInt = 3 then
    letV (X.1 0 4) fun x10 =>
    if x10.toInt = 0 then
      some ((-1), X)
    else
      letV (X.1 55 5) fun x11 =>
      some (x11, X)
  else some ((-1), X)
set_option maxHeartbeats 4000000 in
set_option maxRecDepth 100000 in
theorem k_Court_about (Γ : GxC) (p1 : Int32) (X : St) : TCI YC Γ yX10_about cX10_about 2 "BlameCourt" (some .int) { frames := 2, cells := 0, slots := 0, locals := 70 } [.ref (Γ.2.2.2.1 0), .int p1] X (g_Court_about p1 X) := by
  refine TCI.of (by decide) (Nat.le_of_ble_eq_true rfl) rfl ?_
  show TC YC Γ cX10_about 2 "BlameCourt" (some .int) { frames := 2, cells := 0, slots := 0, locals := 70 } _ kI 0 [(0, .ref (Γ.2.2.2.1 0)), (1, .int p1)] [] X (g_Court_about p1 X)
  unfold g_Court_about
  refine TC.iload_n dX10_about_0 rfl 1 rfl ?_
  refine TC.ite (fun s1 => ?_) (fun s1 => ?_)
  · refine TC.tbl (pc1 := 32) dX10_about_1 (by decide) (off := 31) (by rw [s1]; rfl) (by decide) ?_
    refine TC.aload_n dX10_about_32 rfl 0 rfl ?_
    refine gC8_1 k680 dX10_about_33 (fun x2 => ?_)
    exact TC.ret_i rfl dX10_about_36
  refine TC.ite (fun s3 => ?_) (fun s3 => ?_)
  · refine TC.tbl (pc1 := 37) dX10_about_1 (by decide) (off := 36) (by rw [s3]; rfl) (by decide) ?_
    refine TC.aload_n dX10_about_37 rfl 0 rfl ?_
    refine gC8_3 k683 dX10_about_38 (fun x4 => ?_)
    refine TC.if_eq (pc1 := 54) dX10_about_41 (by decide) ?_ ?_
    · refine TC.iconst (w := 0) dX10_about_54 (by decide) ?_
      exact TC.ret_i rfl dX10_about_55
    · refine TC.aload_n dX10_about_44 rfl 0 rfl ?_
      refine mC8_9 k681 dX10_about_45 (fun e5 he5 => ?_)
      refine gC4_1 e5 he5 k287 dX10_about_48 (fun x6 => ?_)
      refine TC.goto (pc1 := 55) dX10_about_51 (by decide) ?_
      exact TC.ret_i rfl dX10_about_55
  refine TC.ite (fun s7 => ?_) (fun s7 => ?_)
  · refine TC.tbl (pc1 := 56) dX10_about_1 (by decide) (off := 55) (by rw [s7]; rfl) (by decide) ?_
    refine TC.aload_n dX10_about_56 rfl 0 rfl ?_
    refine gC8_4 k684 dX10_about_57 (fun x8 => ?_)
    refine TC.if_eq (pc1 := 67) dX10_about_60 (by decide) ?_ ?_
    · refine TC.iconst (w := 0) dX10_about_67 (by decide) ?_
      exact TC.ret_i rfl dX10_about_68
    · refine TC.iconst (w := 1) dX10_about_63 (by decide) ?_
      refine TC.goto (pc1 := 68) dX10_about_64 (by decide) ?_
      exact TC.ret_i rfl dX10_about_68
  refine TC.ite (fun s9 => ?_) (fun s9 => ?_)
  · refine TC.tbl (pc1 := 69) dX10_about_1 (by decide) (off := 68) (by rw [s9]; rfl) (by decide) ?_
    refine TC.aload_n dX10_about_69 rfl 0 rfl ?_
    refine gC8_4 k684 dX10_about_70 (fun x10 => ?_)
    refine TC.if_eq (pc1 := 86) dX10_about_73 (by decide) ?_ ?_
    · refine TC.iconst (w := (-1)) dX10_about_86 (by decide) ?_
      exact TC.ret_i rfl dX10_about_87
    · refine TC.aload_n dX10_about_76 rfl 0 rfl ?_
      refine cC8_10 k687 dX10_about_77 ?_
      refine gC0_5 k484 dX10_about_80 (fun x11 => ?_)
      refine TC.goto (pc1 := 87) dX10_about_83 (by decide) ?_
      exact TC.ret_i rfl dX10_about_87
  refine TC.tbl (pc1 := 88) dX10_about_1 (by decide) (off := 87) (tbl_d [0, 1, 2, 3] (by intro q; simp only [List.mem_cons, List.not_mem_nil, or_false] at q; omega) (by decide)) (by decide) ?_
  refine TC.iconst (w := (-1)) dX10_about_88 (by decide) ?_
  exact TC.ret_i rfl dX10_about_89
