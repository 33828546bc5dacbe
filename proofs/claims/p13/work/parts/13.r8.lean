theorem dX11_about_0 : decode cX11_about 0 = .ok (.iload_n 1, 1) := by decide +kernel
theorem dX11_about_1 : decode cX11_about 1 = .ok (.tableswitch 70 0 3 #[31, 36, 41, 54], 31) := by decide +kernel
theorem dX11_about_32 : decode cX11_about 32 = .ok (.aload_n 0, 1) := by decide +kernel
theorem dX11_about_33 : decode cX11_about 33 = .ok (.getfield 276, 3) := by decide +kernel
theorem dX11_about_36 : decode cX11_about 36 = .ok (.ireturn, 1) := by decide +kernel
theorem dX11_about_37 : decode cX11_about 37 = .ok (.aload_n 0, 1) := by decide +kernel
theorem dX11_about_38 : decode cX11_about 38 = .ok (.getfield 497, 3) := by decide +kernel
theorem dX11_about_41 : decode cX11_about 41 = .ok (.ireturn, 1) := by decide +kernel
theorem dX11_about_42 : decode cX11_about 42 = .ok (.aload_n 0, 1) := by decide +kernel
theorem dX11_about_43 : decode cX11_about 43 = .ok (.getfield 509, 3) := by decide +kernel
theorem dX11_about_46 : decode cX11_about 46 = .ok (.ifCond .eq 7, 3) := by decide +kernel
theorem dX11_about_49 : decode cX11_about 49 = .ok (.iconst 1, 1) := by decide +kernel
theorem dX11_about_50 : decode cX11_about 50 = .ok (.goto 4, 3) := by decide +kernel
theorem dX11_about_53 : decode cX11_about 53 = .ok (.iconst 0, 1) := by decide +kernel
theorem dX11_about_54 : decode cX11_about 54 = .ok (.ireturn, 1) := by decide +kernel
theorem dX11_about_55 : decode cX11_about 55 = .ok (.aload_n 0, 1) := by decide +kernel
theorem dX11_about_56 : decode cX11_about 56 = .ok (.getfield 509, 3) := by decide +kernel
theorem dX11_about_59 : decode cX11_about 59 = .ok (.ifCond .eq 10, 3) := by decide +kernel
theorem dX11_about_62 : decode cX11_about 62 = .ok (.aload_n 0, 1) := by decide +kernel
theorem dX11_about_63 : decode cX11_about 63 = .ok (.getfield 588, 3) := by decide +kernel
theorem dX11_about_66 : decode cX11_about 66 = .ok (.goto 4, 3) := by decide +kernel
theorem dX11_about_69 : decode cX11_about 69 = .ok (.iconst (-1), 1) := by decide +kernel
theorem dX11_about_70 : decode cX11_about 70 = .ok (.ireturn, 1) := by decide +kernel
theorem dX11_about_71 : decode cX11_about 71 = .ok (.iconst (-1), 1) := by decide +kernel
theorem dX11_about_72 : decode cX11_about 72 = .ok (.ireturn, 1) := by decide +kernel
theorem dX11_asked_0 : decode cX11_asked 0 = .ok (.aload_n 0, 1) := by decide +kernel
theorem dX11_asked_1 : decode cX11_asked 1 = .ok (.getfield 539, 3) := by decide +kernel
theorem dX11_asked_4 : decode cX11_asked 4 = .ok (.ifCond .eq 45, 3) := by decide +kernel
theorem dX11_asked_7 : decode cX11_asked 7 = .ok (.iload_n 1, 1) := by decide +kernel
theorem dX11_asked_8 : decode cX11_asked 8 = .ok (.iconst 0, 1) := by decide +kernel
theorem dX11_asked_9 : decode cX11_asked 9 = .ok (.aload_n 0, 1) := by decide +kernel
theorem dX11_asked_10 : decode cX11_asked 10 = .ok (.getfield 497, 3) := by decide +kernel
theorem dX11_asked_13 : decode cX11_asked 13 = .ok (.iconst 1, 1) := by decide +kernel
theorem dX11_asked_14 : decode cX11_asked 14 = .ok (.isub, 1) := by decide +kernel
theorem dX11_asked_15 : decode cX11_asked 15 = .ok (.invokestatic 282, 3) := by decide +kernel
theorem dX11_asked_18 : decode cX11_asked 18 = .ok (.ifCond .eq 31, 3) := by decide +kernel
theorem dX11_asked_21 : decode cX11_asked 21 = .ok (.iload_n 2, 1) := by decide +kernel
theorem dX11_asked_22 : decode cX11_asked 22 = .ok (.iconst 0, 1) := by decide +kernel
theorem dX11_asked_23 : decode cX11_asked 23 = .ok (.aload_n 0, 1) := by decide +kernel
theorem dX11_asked_24 : decode cX11_asked 24 = .ok (.getfield 497, 3) := by decide +kernel
theorem dX11_asked_27 : decode cX11_asked 27 = .ok (.iconst 1, 1) := by decide +kernel
theorem dX11_asked_28 : decode cX11_asked 28 = .ok (.isub, 1) := by decide +kernel
theorem dX11_asked_29 : decode cX11_asked 29 = .ok (.invokestatic 282, 3) := by decide +kernel
theorem dX11_asked_32 : decode cX11_asked 32 = .ok (.ifCond .eq 17, 3) := by decide +kernel
theorem dX11_asked_35 : decode cX11_asked 35 = .ok (.aload_n 0, 1) := by decide +kernel
theorem dX11_asked_36 : decode cX11_asked 36 = .ok (.getfield 257, 3) := by decide +kernel
theorem dX11_asked_39 : decode cX11_asked 39 = .ok (.bipush 41, 2) := by decide +kernel
theorem dX11_asked_41 : decode cX11_asked 41 = .ok (.iload_n 1, 1) := by decide +kernel
theorem dX11_asked_42 : decode cX11_asked 42 = .ok (.imul, 1) := by decide +kernel
theorem dX11_asked_43 : decode cX11_asked 43 = .ok (.iload_n 2, 1) := by decide +kernel
theorem dX11_asked_44 : decode cX11_asked 44 = .ok (.iadd, 1) := by decide +kernel
theorem dX11_asked_45 : decode cX11_asked 45 = .ok (.iaload, 1) := by decide +kernel
theorem dX11_asked_46 : decode cX11_asked 46 = .ok (.goto 4, 3) := by decide +kernel
theorem dX11_asked_49 : decode cX11_asked 49 = .ok (.iconst (-1), 1) := by decide +kernel
theorem dX11_asked_50 : decode cX11_asked 50 = .ok (.ireturn, 1) := by decide +kernel
theorem dX11_out_0 : decode cX11_out 0 = .ok (.aload_n 0, 1) := by decide +kernel
theorem dX11_out_1 : decode cX11_out 1 = .ok (.getfield 539, 3) := by decide +kernel
theorem dX11_out_4 : decode cX11_out 4 = .ok (.ifCond .eq 26, 3) := by decide +kernel
theorem dX11_out_7 : decode cX11_out 7 = .ok (.iload_n 1, 1) := by decide +kernel
theorem dX11_out_8 : decode cX11_out 8 = .ok (.iconst 0, 1) := by decide +kernel
theorem dX11_out_9 : decode cX11_out 9 = .ok (.aload_n 0, 1) := by decide +kernel
theorem dX11_out_10 : decode cX11_out 10 = .ok (.getfield 690, 3) := by decide +kernel
theorem dX11_out_13 : decode cX11_out 13 = .ok (.iconst 1, 1) := by decide +kernel
theorem dX11_out_14 : decode cX11_out 14 = .ok (.isub, 1) := by decide +kernel
theorem dX11_out_15 : decode cX11_out 15 = .ok (.invokestatic 282, 3) := by decide +kernel
theorem dX11_out_18 : decode cX11_out 18 = .ok (.ifCond .eq 12, 3) := by decide +kernel
theorem dX11_out_21 : decode cX11_out 21 = .ok (.aload_n 0, 1) := by decide +kernel
theorem dX11_out_22 : decode cX11_out 22 = .ok (.getfield 254, 3) := by decide +kernel
theorem dX11_out_25 : decode cX11_out 25 = .ok (.iload_n 1, 1) := by decide +kernel
theorem dX11_out_26 : decode cX11_out 26 = .ok (.iaload, 1) := by decide +kernel
theorem dX11_out_27 : decode cX11_out 27 = .ok (.goto 4, 3) := by decide +kernel
theorem dX11_out_30 : decode cX11_out 30 = .ok (.iconst 0, 1) := by decide +kernel
theorem dX11_out_31 : decode cX11_out 31 = .ok (.ireturn, 1) := by decide +kernel
theorem dX11_run_0 : decode cX11_run 0 = .ok (.aload_n 0, 1) := by decide +kernel
theorem dX11_run_1 : decode cX11_run 1 = .ok (.getfield 509, 3) := by decide +kernel
theorem dX11_run_4 : decode cX11_run 4 = .ok (.ifCond .eq 14, 3) := by decide +kernel
theorem dX11_run_7 : decode cX11_run 7 = .ok (.iload_n 1, 1) := by decide +kernel
theorem dX11_run_8 : decode cX11_run 8 = .ok (.iconst 0, 1) := by decide +kernel
theorem dX11_run_9 : decode cX11_run 9 = .ok (.sipush 20000, 3) := by decide +kernel
theorem dX11_run_12 : decode cX11_run 12 = .ok (.invokestatic 282, 3) := by decide +kernel
theorem dX11_run_15 : decode cX11_run 15 = .ok (.ifCond .ne 5, 3) := by decide +kernel
theorem dX11_run_18 : decode cX11_run 18 = .ok (.iconst (-1), 1) := by decide +kernel
theorem dX11_run_19 : decode cX11_run 19 = .ok (.ireturn, 1) := by decide +kernel
theorem dX11_run_20 : decode cX11_run 20 = .ok (.aload_n 0, 1) := by decide +kernel
theorem dX11_run_21 : decode cX11_run 21 = .ok (.iload_n 1, 1) := by decide +kernel
theorem dX11_run_22 : decode cX11_run 22 = .ok (.putfield 703, 3) := by decide +kernel
theorem dX11_run_25 : decode cX11_run 25 = .ok (.aload_n 0, 1) := by decide +kernel
theorem dX11_run_26 : decode cX11_run 26 = .ok (.iconst 1, 1) := by decide +kernel
theorem dX11_run_27 : decode cX11_run 27 = .ok (.putfield 698, 3) := by decide +kernel
theorem dX11_run_30 : decode cX11_run 30 = .ok (.aload_n 0, 1) := by decide +kernel
theorem dX11_run_31 : decode cX11_run 31 = .ok (.aload_n 0, 1) := by decide +kernel
theorem dX11_run_32 : decode cX11_run 32 = .ok (.getfield 521, 3) := by decide +kernel
theorem dX11_run_35 : decode cX11_run 35 = .ok (.invokevirtual 739, 3) := by decide +kernel
theorem dX11_run_38 : decode cX11_run 38 = .ok (.ireturn, 1) := by decide +kernel
theorem dX11_runUntold_0 : decode cX11_runUntold 0 = .ok (.aload_n 0, 1) := by decide +kernel
theorem dX11_runUntold_1 : decode cX11_runUntold 1 = .ok (.getfield 533, 3) := by decide +kernel
theorem dX11_runUntold_4 : decode cX11_runUntold 4 = .ok (.ifCond .eq 14, 3) := by decide +kernel
theorem dX11_runUntold_7 : decode cX11_runUntold 7 = .ok (.iload_n 1, 1) := by decide +kernel
theorem dX11_runUntold_8 : decode cX11_runUntold 8 = .ok (.iconst 0, 1) := by decide +kernel
theorem dX11_runUntold_9 : decode cX11_runUntold 9 = .ok (.sipush 20000, 3) := by decide +kernel
theorem dX11_runUntold_12 : decode cX11_runUntold 12 = .ok (.invokestatic 282, 3) := by decide +kernel
theorem dX11_runUntold_15 : decode cX11_runUntold 15 = .ok (.ifCond .ne 5, 3) := by decide +kernel
theorem dX11_runUntold_18 : decode cX11_runUntold 18 = .ok (.iconst (-1), 1) := by decide +kernel
theorem dX11_runUntold_19 : decode cX11_runUntold 19 = .ok (.ireturn, 1) := by decide +kernel
theorem dX11_runUntold_20 : decode cX11_runUntold 20 = .ok (.aload_n 0, 1) := by decide +kernel
theorem dX11_runUntold_21 : decode cX11_runUntold 21 = .ok (.getfield 509, 3) := by decide +kernel
theorem dX11_runUntold_24 : decode cX11_runUntold 24 = .ok (.ifCond .ne 7, 3) := by decide +kernel
theorem dX11_runUntold_27 : decode cX11_runUntold 27 = .ok (.aload_n 0, 1) := by decide +kernel
theorem dX11_runUntold_28 : decode cX11_runUntold 28 = .ok (.invokevirtual 590, 3) := by decide +kernel
theorem dX11_runUntold_31 : decode cX11_runUntold 31 = .ok (.aload_n 0, 1) := by decide +kernel
theorem dX11_runUntold_32 : decode cX11_runUntold 32 = .ok (.iload_n 1, 1) := by decide +kernel
theorem dX11_runUntold_33 : decode cX11_runUntold 33 = .ok (.putfield 703, 3) := by decide +kernel
theorem dX11_runUntold_36 : decode cX11_runUntold 36 = .ok (.aload_n 0, 1) := by decide +kernel
theorem dX11_runUntold_37 : decode cX11_runUntold 37 = .ok (.iconst 0, 1) := by decide +kernel
theorem dX11_runUntold_38 : decode cX11_runUntold 38 = .ok (.putfield 698, 3) := by decide +kernel
theorem dX11_runUntold_41 : decode cX11_runUntold 41 = .ok (.aload_n 0, 1) := by decide +kernel
theorem dX11_runUntold_42 : decode cX11_runUntold 42 = .ok (.aload_n 0, 1) := by decide +kernel
theorem dX11_runUntold_43 : decode cX11_runUntold 43 = .ok (.getfield 521, 3) := by decide +kernel
theorem dX11_runUntold_46 : decode cX11_runUntold 46 = .ok (.invokevirtual 739, 3) := by decide +kernel
theorem dX11_runUntold_49 : decode cX11_runUntold 49 = .ok (.ireturn, 1) := by decide +kernel
theorem dX11_starts_0 : decode cX11_starts 0 = .ok (.aload_n 0, 1) := by decide +kernel
theorem dX11_starts_1 : decode cX11_starts 1 = .ok (.iconst 1, 1) := by decide +kernel
theorem dX11_starts_2 : decode cX11_starts 2 = .ok (.putfield 539, 3) := by decide +kernel
theorem dX11_starts_5 : decode cX11_starts 5 = .ok (.aload_n 0, 1) := by decide +kernel
theorem dX11_starts_6 : decode cX11_starts 6 = .ok (.iconst 0, 1) := by decide +kernel
theorem dX11_starts_7 : decode cX11_starts 7 = .ok (.putfield 642, 3) := by decide +kernel
theorem dX11_starts_10 : decode cX11_starts 10 = .ok (.aload_n 0, 1) := by decide +kernel
theorem dX11_starts_11 : decode cX11_starts 11 = .ok (.iconst 0, 1) := by decide +kernel
theorem dX11_starts_12 : decode cX11_starts 12 = .ok (.putfield 678, 3) := by decide +kernel
theorem dX11_starts_15 : decode cX11_starts 15 = .ok (.aload_n 0, 1) := by decide +kernel
theorem dX11_starts_16 : decode cX11_starts 16 = .ok (.iconst 0, 1) := by decide +kernel
theorem dX11_starts_17 : decode cX11_starts 17 = .ok (.putfield 667, 3) := by decide +kernel
theorem dX11_starts_20 : decode cX11_starts 20 = .ok (.aload_n 0, 1) := by decide +kernel
theorem dX11_starts_21 : decode cX11_starts 21 = .ok (.iconst 0, 1) := by decide +kernel
theorem dX11_starts_22 : decode cX11_starts 22 = .ok (.putfield 672, 3) := by decide +kernel
theorem dX11_starts_25 : decode cX11_starts 25 = .ok (.aload_n 0, 1) := by decide +kernel
theorem dX11_starts_26 : decode cX11_starts 26 = .ok (.iconst 0, 1) := by decide +kernel
theorem dX11_starts_27 : decode cX11_starts 27 = .ok (.putfield 675, 3) := by decide +kernel
theorem dX11_starts_30 : decode cX11_starts 30 = .ok (.aload_n 0, 1) := by decide +kernel
theorem dX11_starts_31 : decode cX11_starts 31 = .ok (.iconst 0, 1) := by decide +kernel
theorem dX11_starts_32 : decode cX11_starts 32 = .ok (.putfield 670, 3) := by decide +kernel
theorem dX11_starts_35 : decode cX11_starts 35 = .ok (.aload_n 0, 1) := by decide +kernel
theorem dX11_starts_36 : decode cX11_starts 36 = .ok (.iconst 0, 1) := by decide +kernel
theorem dX11_starts_37 : decode cX11_starts 37 = .ok (.putfield 681, 3) := by decide +kernel
theorem dX11_starts_40 : decode cX11_starts 40 = .ok (.aload_n 0, 1) := by decide +kernel
theorem dX11_starts_41 : decode cX11_starts 41 = .ok (.iconst 0, 1) := by decide +kernel
theorem dX11_starts_42 : decode cX11_starts 42 = .ok (.putfield 684, 3) := by decide +kernel
theorem dX11_starts_45 : decode cX11_starts 45 = .ok (.aload_n 0, 1) := by decide +kernel
theorem dX11_starts_46 : decode cX11_starts 46 = .ok (.iconst 0, 1) := by decide +kernel
theorem dX11_starts_47 : decode cX11_starts 47 = .ok (.putfield 687, 3) := by decide +kernel
theorem dX11_starts_50 : decode cX11_starts 50 = .ok (.aload_n 0, 1) := by decide +kernel
theorem dX11_starts_51 : decode cX11_starts 51 = .ok (.iconst (-1), 1) := by decide +kernel
theorem dX11_starts_52 : decode cX11_starts 52 = .ok (.putfield 636, 3) := by decide +kernel
theorem dX11_starts_55 : decode cX11_starts 55 = .ok (.aload_n 0, 1) := by decide +kernel
theorem dX11_starts_56 : decode cX11_starts 56 = .ok (.iconst (-1), 1) := by decide +kernel
theorem dX11_starts_57 : decode cX11_starts 57 = .ok (.putfield 639, 3) := by decide +kernel
theorem dX11_starts_60 : decode cX11_starts 60 = .ok (.aload_n 0, 1) := by decide +kernel
theorem dX11_starts_61 : decode cX11_starts 61 = .ok (.iconst (-1), 1) := by decide +kernel
theorem dX11_starts_62 : decode cX11_starts 62 = .ok (.putfield 648, 3) := by decide +kernel
theorem dX11_starts_65 : decode cX11_starts 65 = .ok (.aload_n 0, 1) := by decide +kernel
theorem dX11_starts_66 : decode cX11_starts 66 = .ok (.iconst 0, 1) := by decide +kernel
theorem dX11_starts_67 : decode cX11_starts 67 = .ok (.putfield 690, 3) := by decide +kernel
theorem dX11_starts_70 : decode cX11_starts 70 = .ok (.iconst 0, 1) := by decide +kernel
theorem dX11_starts_71 : decode cX11_starts 71 = .ok (.istore_n 2, 1) := by decide +kernel
theorem dX11_starts_72 : decode cX11_starts 72 = .ok (.iload_n 2, 1) := by decide +kernel
theorem dX11_starts_73 : decode cX11_starts 73 = .ok (.sipush 1681, 3) := by decide +kernel
theorem dX11_starts_76 : decode cX11_starts 76 = .ok (.if_icmp .ge 16, 3) := by decide +kernel
theorem dX11_starts_79 : decode cX11_starts 79 = .ok (.aload_n 0, 1) := by decide +kernel
theorem dX11_starts_80 : decode cX11_starts 80 = .ok (.getfield 257, 3) := by decide +kernel
theorem dX11_starts_83 : decode cX11_starts 83 = .ok (.iload_n 2, 1) := by decide +kernel
theorem dX11_starts_84 : decode cX11_starts 84 = .ok (.iconst 0, 1) := by decide +kernel
theorem dX11_starts_85 : decode cX11_starts 85 = .ok (.iastore, 1) := by decide +kernel
theorem dX11_starts_86 : decode cX11_starts 86 = .ok (.iinc 2 1, 3) := by decide +kernel
theorem dX11_starts_89 : decode cX11_starts 89 = .ok (.goto (-17), 3) := by decide +kernel
theorem dX11_starts_92 : decode cX11_starts 92 = .ok (.aload_n 0, 1) := by decide +kernel
theorem dX11_starts_93 : decode cX11_starts 93 = .ok (.iload_n 1, 1) := by decide +kernel
theorem dX11_starts_94 : decode cX11_starts 94 = .ok (.iconst (-1), 1) := by decide +kernel
theorem dX11_starts_95 : decode cX11_starts 95 = .ok (.iconst 0, 1) := by decide +kernel
theorem dX11_starts_96 : decode cX11_starts 96 = .ok (.invokevirtual 693, 3) := by decide +kernel
theorem dX11_starts_99 : decode cX11_starts 99 = .ok (.aload_n 0, 1) := by decide +kernel
theorem dX11_starts_100 : decode cX11_starts 100 = .ok (.getfield 149, 3) := by decide +kernel
theorem dX11_starts_103 : decode cX11_starts 103 = .ok (.iload_n 1, 1) := by decide +kernel
theorem dX11_starts_104 : decode cX11_starts 104 = .ok (.iaload, 1) := by decide +kernel
theorem dX11_starts_105 : decode cX11_starts 105 = .ok (.istore_n 2, 1) := by decide +kernel
theorem dX11_starts_106 : decode cX11_starts 106 = .ok (.aload_n 0, 1) := by decide +kernel
theorem dX11_starts_107 : decode cX11_starts 107 = .ok (.invokevirtual 654, 3) := by decide +kernel
theorem dX11_starts_110 : decode cX11_starts 110 = .ok (.ifCond .eq 22, 3) := by decide +kernel
theorem dX11_starts_113 : decode cX11_starts 113 = .ok (.iload_n 2, 1) := by decide +kernel
theorem dX11_starts_114 : decode cX11_starts 114 = .ok (.ifCond .lt 18, 3) := by decide +kernel
theorem dX11_starts_117 : decode cX11_starts 117 = .ok (.aload_n 0, 1) := by decide +kernel
theorem dX11_starts_118 : decode cX11_starts 118 = .ok (.iload_n 2, 1) := by decide +kernel
theorem dX11_starts_119 : decode cX11_starts 119 = .ok (.aload_n 0, 1) := by decide +kernel
theorem dX11_starts_120 : decode cX11_starts 120 = .ok (.getfield 140, 3) := by decide +kernel
theorem dX11_starts_123 : decode cX11_starts 123 = .ok (.iload_n 2, 1) := by decide +kernel
theorem dX11_starts_124 : decode cX11_starts 124 = .ok (.iaload, 1) := by decide +kernel
theorem dX11_starts_125 : decode cX11_starts 125 = .ok (.invokevirtual 695, 3) := by decide +kernel
theorem dX11_starts_128 : decode cX11_starts 128 = .ok (.istore_n 2, 1) := by decide +kernel
theorem dX11_starts_129 : decode cX11_starts 129 = .ok (.goto (-23), 3) := by decide +kernel
theorem dX11_starts_132 : decode cX11_starts 132 = .ok (.aload_n 0, 1) := by decide +kernel
theorem dX11_starts_133 : decode cX11_starts 133 = .ok (.invokevirtual 654, 3) := by decide +kernel
theorem dX11_starts_136 : decode cX11_starts 136 = .ok (.ifCond .eq 8, 3) := by decide +kernel
theorem dX11_starts_139 : decode cX11_starts 139 = .ok (.aload_n 0, 1) := by decide +kernel
theorem dX11_starts_140 : decode cX11_starts 140 = .ok (.iconst 0, 1) := by decide +kernel
theorem dX11_starts_141 : decode cX11_starts 141 = .ok (.putfield 636, 3) := by decide +kernel
theorem dX11_starts_144 : decode cX11_starts 144 = .ok (.aload_n 0, 1) := by decide +kernel
theorem dX11_starts_145 : decode cX11_starts 145 = .ok (.getfield 636, 3) := by decide +kernel
theorem dX11_starts_148 : decode cX11_starts 148 = .ok (.ireturn, 1) := by decide +kernel
theorem dX11_told_0 : decode cX11_told 0 = .ok (.aload_n 0, 1) := by decide +kernel
theorem dX11_told_1 : decode cX11_told 1 = .ok (.getfield 539, 3) := by decide +kernel
theorem dX11_told_4 : decode cX11_told 4 = .ok (.ifCond .ne 5, 3) := by decide +kernel
theorem dX11_told_7 : decode cX11_told 7 = .ok (.iconst (-1), 1) := by decide +kernel
theorem dX11_told_8 : decode cX11_told 8 = .ok (.ireturn, 1) := by decide +kernel
theorem dX11_told_9 : decode cX11_told 9 = .ok (.aload_n 0, 1) := by decide +kernel
theorem dX11_told_10 : decode cX11_told 10 = .ok (.getfield 636, 3) := by decide +kernel
theorem dX11_told_13 : decode cX11_told 13 = .ok (.ifCond .ne 7, 3) := by decide +kernel
theorem dX11_told_16 : decode cX11_told 16 = .ok (.iconst 1, 1) := by decide +kernel
theorem dX11_told_17 : decode cX11_told 17 = .ok (.goto 4, 3) := by decide +kernel
theorem dX11_told_20 : decode cX11_told 20 = .ok (.iconst 0, 1) := by decide +kernel
theorem dX11_told_21 : decode cX11_told 21 = .ok (.istore_n 2, 1) := by decide +kernel
theorem dX11_told_22 : decode cX11_told 22 = .ok (.iload_n 2, 1) := by decide +kernel
theorem dX11_told_23 : decode cX11_told 23 = .ok (.ifCond .eq 12, 3) := by decide +kernel
theorem dX11_told_26 : decode cX11_told 26 = .ok (.aload_n 0, 1) := by decide +kernel
theorem dX11_told_27 : decode cX11_told 27 = .ok (.getfield 197, 3) := by decide +kernel
theorem dX11_told_30 : decode cX11_told 30 = .ok (.iconst 0, 1) := by decide +kernel
theorem dX11_told_31 : decode cX11_told 31 = .ok (.iaload, 1) := by decide +kernel
theorem dX11_told_32 : decode cX11_told 32 = .ok (.goto 4, 3) := by decide +kernel
theorem dX11_told_35 : decode cX11_told 35 = .ok (.iconst (-1), 1) := by decide +kernel
theorem dX11_told_36 : decode cX11_told 36 = .ok (.istore_n 3, 1) := by decide +kernel
theorem dX11_told_37 : decode cX11_told 37 = .ok (.iload_n 2, 1) := by decide +kernel
theorem dX11_told_38 : decode cX11_told 38 = .ok (.ifCond .eq 12, 3) := by decide +kernel
theorem dX11_told_41 : decode cX11_told 41 = .ok (.aload_n 0, 1) := by decide +kernel
theorem dX11_told_42 : decode cX11_told 42 = .ok (.getfield 200, 3) := by decide +kernel
theorem dX11_told_45 : decode cX11_told 45 = .ok (.iconst 0, 1) := by decide +kernel
theorem dX11_told_46 : decode cX11_told 46 = .ok (.iaload, 1) := by decide +kernel
theorem dX11_told_47 : decode cX11_told 47 = .ok (.goto 4, 3) := by decide +kernel
theorem dX11_told_50 : decode cX11_told 50 = .ok (.iconst (-1), 1) := by decide +kernel
theorem dX11_told_51 : decode cX11_told 51 = .ok (.istore 4, 2) := by decide +kernel
theorem dX11_told_53 : decode cX11_told 53 = .ok (.iload_n 1, 1) := by decide +kernel
theorem dX11_told_54 : decode cX11_told 54 = .ok (.tableswitch 145 0 9 #[54, 59, 64, 69, 74, 76, 114, 130, 135, 140], 54) := by decide +kernel
theorem dX11_told_108 : decode cX11_told 108 = .ok (.aload_n 0, 1) := by decide +kernel
theorem dX11_told_109 : decode cX11_told 109 = .ok (.getfield 636, 3) := by decide +kernel
theorem dX11_told_112 : decode cX11_told 112 = .ok (.ireturn, 1) := by decide +kernel
theorem dX11_told_113 : decode cX11_told 113 = .ok (.aload_n 0, 1) := by decide +kernel
theorem dX11_told_114 : decode cX11_told 114 = .ok (.getfield 639, 3) := by decide +kernel
theorem dX11_told_117 : decode cX11_told 117 = .ok (.ireturn, 1) := by decide +kernel
theorem dX11_told_118 : decode cX11_told 118 = .ok (.aload_n 0, 1) := by decide +kernel
theorem dX11_told_119 : decode cX11_told 119 = .ok (.getfield 648, 3) := by decide +kernel
theorem dX11_told_122 : decode cX11_told 122 = .ok (.ireturn, 1) := by decide +kernel
theorem dX11_told_123 : decode cX11_told 123 = .ok (.aload_n 0, 1) := by decide +kernel
theorem dX11_told_124 : decode cX11_told 124 = .ok (.getfield 687, 3) := by decide +kernel
theorem dX11_told_127 : decode cX11_told 127 = .ok (.ireturn, 1) := by decide +kernel
theorem dX11_told_128 : decode cX11_told 128 = .ok (.iload_n 3, 1) := by decide +kernel
theorem dX11_told_129 : decode cX11_told 129 = .ok (.ireturn, 1) := by decide +kernel
theorem dX11_told_130 : decode cX11_told 130 = .ok (.iload_n 3, 1) := by decide +kernel
theorem dX11_told_131 : decode cX11_told 131 = .ok (.iconst 3, 1) := by decide +kernel
theorem dX11_told_132 : decode cX11_told 132 = .ok (.if_icmp .ne 18, 3) := by decide +kernel
theorem dX11_told_135 : decode cX11_told 135 = .ok (.aload_n 0, 1) := by decide +kernel
theorem dX11_told_136 : decode cX11_told 136 = .ok (.getfield 215, 3) := by decide +kernel
theorem dX11_told_139 : decode cX11_told 139 = .ok (.aload_n 0, 1) := by decide +kernel
theorem dX11_told_140 : decode cX11_told 140 = .ok (.iconst 3, 1) := by decide +kernel
theorem dX11_told_141 : decode cX11_told 141 = .ok (.iload 4, 2) := by decide +kernel
theorem dX11_told_143 : decode cX11_told 143 = .ok (.invokevirtual 661, 3) := by decide +kernel
theorem dX11_told_146 : decode cX11_told 146 = .ok (.iaload, 1) := by decide +kernel
theorem dX11_told_147 : decode cX11_told 147 = .ok (.goto 20, 3) := by decide +kernel
theorem dX11_told_150 : decode cX11_told 150 = .ok (.iload_n 3, 1) := by decide +kernel
theorem dX11_told_151 : decode cX11_told 151 = .ok (.iconst 4, 1) := by decide +kernel
theorem dX11_told_152 : decode cX11_told 152 = .ok (.if_icmp .ne 13, 3) := by decide +kernel
theorem dX11_told_155 : decode cX11_told 155 = .ok (.aload_n 0, 1) := by decide +kernel
theorem dX11_told_156 : decode cX11_told 156 = .ok (.iconst 4, 1) := by decide +kernel
theorem dX11_told_157 : decode cX11_told 157 = .ok (.iload 4, 2) := by decide +kernel
theorem dX11_told_159 : decode cX11_told 159 = .ok (.invokevirtual 661, 3) := by decide +kernel
theorem dX11_told_162 : decode cX11_told 162 = .ok (.goto 5, 3) := by decide +kernel
theorem dX11_told_165 : decode cX11_told 165 = .ok (.iload 4, 2) := by decide +kernel
theorem dX11_told_167 : decode cX11_told 167 = .ok (.ireturn, 1) := by decide +kernel
theorem dX11_told_168 : decode cX11_told 168 = .ok (.iload_n 2, 1) := by decide +kernel
theorem dX11_told_169 : decode cX11_told 169 = .ok (.ifCond .eq 13, 3) := by decide +kernel
theorem dX11_told_172 : decode cX11_told 172 = .ok (.aload_n 0, 1) := by decide +kernel
theorem dX11_told_173 : decode cX11_told 173 = .ok (.iload_n 3, 1) := by decide +kernel
theorem dX11_told_174 : decode cX11_told 174 = .ok (.iload 4, 2) := by decide +kernel
theorem dX11_told_176 : decode cX11_told 176 = .ok (.invokevirtual 664, 3) := by decide +kernel
theorem dX11_told_179 : decode cX11_told 179 = .ok (.goto 4, 3) := by decide +kernel
theorem dX11_told_182 : decode cX11_told 182 = .ok (.iconst (-1), 1) := by decide +kernel
theorem dX11_told_183 : decode cX11_told 183 = .ok (.ireturn, 1) := by decide +kernel
theorem dX11_told_184 : decode cX11_told 184 = .ok (.aload_n 0, 1) := by decide +kernel
theorem dX11_told_185 : decode cX11_told 185 = .ok (.getfield 690, 3) := by decide +kernel
theorem dX11_told_188 : decode cX11_told 188 = .ok (.ireturn, 1) := by decide +kernel
theorem dX11_told_189 : decode cX11_told 189 = .ok (.aload_n 0, 1) := by decide +kernel
theorem dX11_told_190 : decode cX11_told 190 = .ok (.getfield 670, 3) := by decide +kernel
theorem dX11_told_193 : decode cX11_told 193 = .ok (.ireturn, 1) := by decide +kernel
theorem dX11_told_194 : decode cX11_told 194 = .ok (.aload_n 0, 1) := by decide +kernel
theorem dX11_told_195 : decode cX11_told 195 = .ok (.getfield 675, 3) := by decide +kernel
theorem dX11_told_198 : decode cX11_told 198 = .ok (.ireturn, 1) := by decide +kernel
theorem dX11_told_199 : decode cX11_told 199 = .ok (.iconst (-1), 1) := by decide +kernel
theorem dX11_told_200 : decode cX11_told 200 = .ok (.ireturn, 1) := by decide +kernel
theorem k2096 : Cond.methodLink "BlameCourtModel" 739 yX11_starts ∈ gtb := gtm (in_tables_1_8 (List.mem_of_getElem? (i := 230) rfl)) rfl
theorem k2112 : Cond.methodLink "BlameCourtModel" 695 yX11_does ∈ gtb := gtm (in_tables_1_9 (List.mem_of_getElem? (i := 6) rfl)) rfl
theorem k2199 : Cond.code yX11_about cX11_about 2 (some .int) ∈ gtb := gtm (in_tables_1_9 (List.mem_of_getElem? (i := 93) rfl)) rfl
theorem ka_X11_about : KA yX11_about cX11_about 2 (some .int) 1 := ⟨k2199, k197, by decide, by decide, by decide +kernel⟩
theorem k2197 : Cond.instanceMethod yX11_about ∈ gtb := gtm (in_tables_1_9 (List.mem_of_getElem? (i := 91) rfl)) rfl
theorem k2198 : Cond.selects "BlameCourtModel" yX11_about yX11_about ∈ gtb := gtm (in_tables_1_9 (List.mem_of_getElem? (i := 92) rfl)) rfl
theorem kv_X11_about : KV yX11_about := ⟨k2197, k2198⟩
theorem k2195 : Cond.code yX11_asked cX11_asked 3 (some .int) ∈ gtb := gtm (in_tables_1_9 (List.mem_of_getElem? (i := 89) rfl)) rfl
theorem ka_X11_asked : KA yX11_asked cX11_asked 3 (some .int) 2 := ⟨k2195, k197, by decide, by decide, by decide +kernel⟩
theorem k2193 : Cond.instanceMethod yX11_asked ∈ gtb := gtm (in_tables_1_9 (List.mem_of_getElem? (i := 87) rfl)) rfl
theorem k2194 : Cond.selects "BlameCourtModel" yX11_asked yX11_asked ∈ gtb := gtm (in_tables_1_9 (List.mem_of_getElem? (i := 88) rfl)) rfl
theorem kv_X11_asked : KV yX11_asked := ⟨k2193, k2194⟩
theorem k2191 : Cond.code yX11_out cX11_out 2 (some .int) ∈ gtb := gtm (in_tables_1_9 (List.mem_of_getElem? (i := 85) rfl)) rfl
theorem ka_X11_out : KA yX11_out cX11_out 2 (some .int) 1 := ⟨k2191, k197, by decide, by decide, by decide +kernel⟩
theorem k2189 : Cond.instanceMethod yX11_out ∈ gtb := gtm (in_tables_1_9 (List.mem_of_getElem? (i := 83) rfl)) rfl
theorem k2190 : Cond.selects "BlameCourtModel" yX11_out yX11_out ∈ gtb := gtm (in_tables_1_9 (List.mem_of_getElem? (i := 84) rfl)) rfl
theorem kv_X11_out : KV yX11_out := ⟨k2189, k2190⟩
theorem k2095 : Cond.code yX11_run cX11_run 2 (some .int) ∈ gtb := gtm (in_tables_1_8 (List.mem_of_getElem? (i := 229) rfl)) rfl
theorem ka_X11_run : KA yX11_run cX11_run 2 (some .int) 1 := ⟨k2095, k197, by decide, by decide, by decide +kernel⟩
theorem k2093 : Cond.instanceMethod yX11_run ∈ gtb := gtm (in_tables_1_8 (List.mem_of_getElem? (i := 227) rfl)) rfl
theorem k2094 : Cond.selects "BlameCourtModel" yX11_run yX11_run ∈ gtb := gtm (in_tables_1_8 (List.mem_of_getElem? (i := 228) rfl)) rfl
theorem kv_X11_run : KV yX11_run := ⟨k2093, k2094⟩
theorem k2183 : Cond.code yX11_runUntold cX11_runUntold 2 (some .int) ∈ gtb := gtm (in_tables_1_9 (List.mem_of_getElem? (i := 77) rfl)) rfl
theorem ka_X11_runUntold : KA yX11_runUntold cX11_runUntold 2 (some .int) 1 := ⟨k2183, k197, by decide, by decide, by decide +kernel⟩
theorem k2181 : Cond.instanceMethod yX11_runUntold ∈ gtb := gtm (in_tables_1_9 (List.mem_of_getElem? (i := 75) rfl)) rfl
theorem k2182 : Cond.selects "BlameCourtModel" yX11_runUntold yX11_runUntold ∈ gtb := gtm (in_tables_1_9 (List.mem_of_getElem? (i := 76) rfl)) rfl
theorem kv_X11_runUntold : KV yX11_runUntold := ⟨k2181, k2182⟩
theorem k2099 : Cond.code yX11_starts cX11_starts 3 (some .int) ∈ gtb := gtm (in_tables_1_8 (List.mem_of_getElem? (i := 233) rfl)) rfl
theorem ka_X11_starts : KA yX11_starts cX11_starts 3 (some .int) 1 := ⟨k2099, k197, by decide, by decide, by decide +kernel⟩
theorem k2098 : Cond.instanceMethod yX11_starts ∈ gtb := gtm (in_tables_1_8 (List.mem_of_getElem? (i := 232) rfl)) rfl
theorem k165 : Cond.selects "BlameCourtModel" yX11_starts yX11_starts ∈ gtb := gtm (in_lw_privs_11 (q := (yX11_starts, 129)) (List.mem_of_getElem? (i := 5) rfl)) rfl
theorem kv_X11_starts : KV yX11_starts := ⟨k2098, k165⟩
theorem k2187 : Cond.code yX11_told cX11_told 5 (some .int) ∈ gtb := gtm (in_tables_1_9 (List.mem_of_getElem? (i := 81) rfl)) rfl
theorem ka_X11_told : KA yX11_told cX11_told 5 (some .int) 1 := ⟨k2187, k197, by decide, by decide, by decide +kernel⟩
theorem k2185 : Cond.instanceMethod yX11_told ∈ gtb := gtm (in_tables_1_9 (List.mem_of_getElem? (i := 79) rfl)) rfl
theorem k2186 : Cond.selects "BlameCourtModel" yX11_told yX11_told ∈ gtb := gtm (in_tables_1_9 (List.mem_of_getElem? (i := 80) rfl)) rfl
theorem kv_X11_told : KV yX11_told := ⟨k2185, k2186⟩
abbrev R_starts : Room := { frames := 30, cells := 0, slots := 0, locals := 450 }
noncomputable def f_starts_132 (X : St) : Option (Int32 × St) :=
  bnd (f_isOn X) fun x19 X20 =>
  if x19.toInt = 0 then
    letV (X20.1 0 43) fun x21 =>
    some (x21, X20)
  else
    letV (wI X20 0 43 ((0 : Int32))) fun X22 =>
    letV (X22.1 0 43) fun x23 =>
    some (x23, X22)
set_option maxHeartbeats 4000000 in
set_option maxRecDepth 100000 in
theorem c_starts_132 (Γ : Gx) (As : List Value) (X : St) : T YR Γ cX11_starts 3 "BlameCourtModel" (some .int) R_starts As qI 132 [(0, .ref (Γ.2.2.2.1 0))] [] X (f_starts_132 X) := by
  unfold f_starts_132
  refine T.aload_n dX11_starts_132 rfl 0 rfl ?_
  refine T.callV_i 0 (As1 := []) (rest := []) (c_isOn Γ X) ka_X11_isOn kv_X11_isOn oR rfl k2108 rfl rfl rfl rfl ⟨Nat.le_of_ble_eq_true rfl, Nat.le_of_ble_eq_true rfl⟩ (Nat.le_of_ble_eq_true rfl) dX11_starts_133 (fun x19 X20 => ?_)
  refine T.if_eq (pc1 := 144) dX11_starts_136 (by decide) ?_ ?_
  · refine T.aload_n dX11_starts_144 rfl 0 rfl ?_
    refine gR43 k1487 dX11_starts_145 (fun x21 => ?_)
    exact T.ret_i rfl dX11_starts_148
  · refine T.aload_n dX11_starts_139 rfl 0 rfl ?_
    refine T.iconst (w := 0) dX11_starts_140 (by decide) ?_
    refine pR43 k1487 dX11_starts_141 (fun X22 => ?_)
    refine T.aload_n dX11_starts_144 rfl 0 rfl ?_
    refine gR43 k1487 dX11_starts_145 (fun x23 => ?_)
    exact T.ret_i rfl dX11_starts_148
noncomputable def f_starts_106_s (r106 : Int32 → St → Option (Int32 × St)) (a2 : Int32) (X : St) : Option (Int32 × St) :=
  bnd (f_isOn X) fun x17 X18 =>
  if x17.toInt = 0 then
    f_starts_132 X18
  else
    if a2.toInt < 0 then
      f_starts_132 X18
    else
      chk (inR a2 24000) (letV (X18.1 41 (ix a2)) fun x24 =>
      bnd (f_does a2 x24 X18) fun x25 X26 =>
      r106 x25 X26)
noncomputable def f_starts_106 (n : Nat) : Int32 → St → Option (Int32 × St) := lp (fun _ _ => none) (f_starts_106_s) n
set_option maxHeartbeats 4000000 in
set_option maxRecDepth 100000 in
theorem c_starts_106 (Γ : Gx) (As : List Value) (n : Nat) : ∀ (a2 : Int32) (X : St), T YR Γ cX11_starts 3 "BlameCourtModel" (some .int) R_starts As qI 106 [(0, .ref (Γ.2.2.2.1 0)), (2, .int a2)] [] X (f_starts_106 n a2 X) := by
  unfold f_starts_106
  refine lp_ind (P := fun (r106 : Int32 → St → Option (Int32 × St)) => ∀ (a2 : Int32) (X : St), T YR Γ cX11_starts 3 "BlameCourtModel" (some .int) R_starts As qI 106 [(0, .ref (Γ.2.2.2.1 0)), (2, .int a2)] [] X (r106 a2 X)) (fun _ _ => T.no) ?_ n
  intro r106 hr106 a2 X
  unfold f_starts_106_s
  refine T.aload_n dX11_starts_106 rfl 0 rfl ?_
  refine T.callV_i 0 (As1 := []) (rest := []) (c_isOn Γ X) ka_X11_isOn kv_X11_isOn oR rfl k2108 rfl rfl rfl rfl ⟨Nat.le_of_ble_eq_true rfl, Nat.le_of_ble_eq_true rfl⟩ (Nat.le_of_ble_eq_true rfl) dX11_starts_107 (fun x17 X18 => ?_)
  refine T.if_eq (pc1 := 132) dX11_starts_110 (by decide) ?_ ?_
  · refine T.sub [0] rfl ?_
    exact c_starts_132 Γ _ X18
  · refine T.iload_n dX11_starts_113 rfl 1 rfl ?_
    refine T.if_lt (pc1 := 132) dX11_starts_114 (by decide) ?_ ?_
    · refine T.sub [0] rfl ?_
      exact c_starts_132 Γ _ X18
    · refine T.aload_n dX11_starts_117 rfl 0 rfl ?_
      refine T.iload_n dX11_starts_118 rfl 1 rfl ?_
      refine T.aload_n dX11_starts_119 rfl 0 rfl ?_
      refine cR88 k1433 dX11_starts_120 ?_
      refine T.iload_n dX11_starts_123 rfl 1 rfl ?_
      refine alR41 dX11_starts_124 (fun x24 => ?_)
      refine T.callV_i 0 (As1 := [.int a2, .int x24]) (rest := []) (c_does Γ a2 x24 X18) ka_X11_does kv_X11_does oR rfl k2112 rfl rfl rfl rfl ⟨Nat.le_of_ble_eq_true rfl, Nat.le_of_ble_eq_true rfl⟩ (Nat.le_of_ble_eq_true rfl) dX11_starts_125 (fun x25 X26 => ?_)
      refine T.istore_n (lv1 := [(2, .int x25), (0, .ref (Γ.2.2.2.1 0))]) dX11_starts_128 rfl (by decide) rfl ?_
      refine T.goto (pc1 := 106) dX11_starts_129 (by decide) ?_
      refine T.sub [1, 0] rfl ?_
      exact hr106 x25 X26
noncomputable def f_starts_72_s (r72 : Int32 → Int32 → St → Option (Int32 × St)) (a1 : Int32) (a2 : Int32) (X : St) : Option (Int32 × St) :=
  if 1681 ≤ a2.toInt then
    bnd (f_calls a1 (-1 : Int32) (0 : Int32) X) fun _ X15 =>
    chk (inR a1 41) (letV (X15.1 44 (ix a1)) fun x16 =>
    f_starts_106 BIG x16 X15)
  else
    chk (inR a2 1681) (letV (wI X 80 (ix a2) (0 : Int32)) fun X27 =>
    letV (a2 + Int32.ofInt (1)) fun x28 =>
    r72 a1 x28 X27)
noncomputable def f_starts_72 (n : Nat) : Int32 → Int32 → St → Option (Int32 × St) := lp (fun _ _ _ => none) (f_starts_72_s) n
set_option maxHeartbeats 4000000 in
set_option maxRecDepth 100000 in
theorem c_starts_72 (Γ : Gx) (As : List Value) (n : Nat) : ∀ (a1 : Int32) (a2 : Int32) (X : St), T YR Γ cX11_starts 3 "BlameCourtModel" (some .int) R_starts As qI 72 [(0, .ref (Γ.2.2.2.1 0)), (1, .int a1), (2, .int a2)] [] X (f_starts_72 n a1 a2 X) := by
  unfold f_starts_72
  refine lp_ind (P := fun (r72 : Int32 → Int32 → St → Option (Int32 × St)) => ∀ (a1 : Int32) (a2 : Int32) (X : St), T YR Γ cX11_starts 3 "BlameCourtModel" (some .int) R_starts As qI 72 [(0, .ref (Γ.2.2.2.1 0)), (1, .int a1), (2, .int a2)] [] X (r72 a1 a2 X)) (fun _ _ _ => T.no) ?_ n
  intro r72 hr72 a1 a2 X
  unfold f_starts_72_s
  refine T.iload_n dX11_starts_72 rfl 2 rfl ?_
  refine T.sipush (w := 1681) dX11_starts_73 (by decide) ?_
  refine T.icmp_ge (pc1 := 92) dX11_starts_76 (by decide) rfl ?_ ?_
  · refine T.aload_n dX11_starts_92 rfl 0 rfl ?_
    refine T.iload_n dX11_starts_93 rfl 1 rfl ?_
    refine T.iconst (w := (-1)) dX11_starts_94 (by decide) ?_
    refine T.iconst (w := 0) dX11_starts_95 (by decide) ?_
    refine T.callV_v 0 (As1 := [.int a1, .int (-1), .int 0]) (rest := []) (c_calls Γ a1 (-1 : Int32) (0 : Int32) X) ka_X11_calls kv_X11_calls oR rfl k2100 rfl rfl rfl rfl ⟨Nat.le_of_ble_eq_true rfl, Nat.le_of_ble_eq_true rfl⟩ (Nat.le_of_ble_eq_true rfl) dX11_starts_96 (fun _ X15 => ?_)
    refine T.aload_n dX11_starts_99 rfl 0 rfl ?_
    refine cR91 k1436 dX11_starts_100 ?_
    refine T.iload_n dX11_starts_103 rfl 1 rfl ?_
    refine alR44 dX11_starts_104 (fun x16 => ?_)
    refine T.istore_n (lv1 := [(2, .int x16), (0, .ref (Γ.2.2.2.1 0)), (1, .int a1)]) dX11_starts_105 rfl (by decide) rfl ?_
    refine T.sub [1, 0] rfl ?_
    exact c_starts_106 Γ _ BIG x16 X15
  · refine T.aload_n dX11_starts_79 rfl 0 rfl ?_
    refine cR127 k1492 dX11_starts_80 ?_
    refine T.iload_n dX11_starts_83 rfl 2 rfl ?_
    refine T.iconst (w := 0) dX11_starts_84 (by decide) ?_
    refine asR80 dX11_starts_85 (fun X27 => ?_)
    refine T.iinc dX11_starts_86 2 rfl (by decide) (lvf := fun x28 => [(2, .int x28), (0, .ref (Γ.2.2.2.1 0)), (1, .int a1)]) (fun _ => rfl) (fun x28 => ?_)
    refine T.goto (pc1 := 72) dX11_starts_89 (by decide) ?_
    refine T.sub [1, 2, 0] rfl ?_
    exact hr72 a1 x28 X27
noncomputable def f_starts (p1 : Int32) (X : St) : Option (Int32 × St) :=
  letV (wI X 0 41 ((1 : Int32))) fun X1 =>
  letV (wI X1 0 31 ((0 : Int32))) fun X2 =>
  letV (wI X2 0 32 ((0 : Int32))) fun X3 =>
  letV (wI X3 0 33 ((0 : Int32))) fun X4 =>
  letV (wI X4 0 34 ((0 : Int32))) fun X5 =>
  letV (wI X5 0 35 ((0 : Int32))) fun X6 =>
  letV (wI X6 0 36 ((0 : Int32))) fun X7 =>
  letV (wI X7 0 37 ((0 : Int32))) fun X8 =>
  letV (wI X8 0 38 ((0 : Int32))) fun X9 =>
  letV (wI X9 0 40 ((0 : Int32))) fun X10 =>
  letV (wI X10 0 43 ((-1 : Int32))) fun X11 =>
  letV (wI X11 0 44 ((-1 : Int32))) fun X12 =>
  letV (wI X12 0 45 ((-1 : Int32))) fun X13 =>
  letV (wI X13 0 46 ((0 : Int32))) fun X14 =>
  f_starts_72 BIG p1 (0 : Int32) X14
set_option maxHeartbeats 4000000 in
set_option maxRecDepth 100000 in
theorem c_starts (Γ : Gx) (p1 : Int32) (X : St) : TMI YR Γ yX11_starts cX11_starts 3 "BlameCourtModel" (some .int) R_starts [.ref (Γ.2.2.2.1 0), .int p1] X (f_starts p1 X) := by
  refine TMI.of (by decide) (Nat.le_of_ble_eq_true rfl) rfl ?_
  show T YR Γ cX11_starts 3 "BlameCourtModel" (some .int) R_starts _ qI 0 [(0, .ref (Γ.2.2.2.1 0)), (1, .int p1)] [] X (f_starts p1 X)
  unfold f_starts
  refine T.aload_n dX11_starts_0 rfl 0 rfl ?_
  refine T.iconst (w := 1) dX11_starts_1 (by decide) ?_
  refine pR41 k1485 (by decide) dX11_starts_2 (fun X1 => ?_)
  refine T.aload_n dX11_starts_5 rfl 0 rfl ?_
  refine T.iconst (w := 0) dX11_starts_6 (by decide) ?_
  refine pR31 k1456 dX11_starts_7 (fun X2 => ?_)
  refine T.aload_n dX11_starts_10 rfl 0 rfl ?_
  refine T.iconst (w := 0) dX11_starts_11 (by decide) ?_
  refine pR32 k1459 dX11_starts_12 (fun X3 => ?_)
  refine T.aload_n dX11_starts_15 rfl 0 rfl ?_
  refine T.iconst (w := 0) dX11_starts_16 (by decide) ?_
  refine pR33 k1462 dX11_starts_17 (fun X4 => ?_)
  refine T.aload_n dX11_starts_20 rfl 0 rfl ?_
  refine T.iconst (w := 0) dX11_starts_21 (by decide) ?_
  refine pR34 k1473 dX11_starts_22 (fun X5 => ?_)
  refine T.aload_n dX11_starts_25 rfl 0 rfl ?_
  refine T.iconst (w := 0) dX11_starts_26 (by decide) ?_
  refine pR35 k1476 dX11_starts_27 (fun X6 => ?_)
  refine T.aload_n dX11_starts_30 rfl 0 rfl ?_
  refine T.iconst (w := 0) dX11_starts_31 (by decide) ?_
  refine pR36 k1477 dX11_starts_32 (fun X7 => ?_)
  refine T.aload_n dX11_starts_35 rfl 0 rfl ?_
  refine T.iconst (w := 0) dX11_starts_36 (by decide) ?_
  refine pR37 k1478 dX11_starts_37 (fun X8 => ?_)
  refine T.aload_n dX11_starts_40 rfl 0 rfl ?_
  refine T.iconst (w := 0) dX11_starts_41 (by decide) ?_
  refine pR38 k1479 dX11_starts_42 (fun X9 => ?_)
  refine T.aload_n dX11_starts_45 rfl 0 rfl ?_
  refine T.iconst (w := 0) dX11_starts_46 (by decide) ?_
  refine pR40 k1484 dX11_starts_47 (fun X10 => ?_)
  refine T.aload_n dX11_starts_50 rfl 0 rfl ?_
  refine T.iconst (w := (-1)) dX11_starts_51 (by decide) ?_
  refine pR43 k1487 dX11_starts_52 (fun X11 => ?_)
  refine T.aload_n dX11_starts_55 rfl 0 rfl ?_
  refine T.iconst (w := (-1)) dX11_starts_56 (by decide) ?_
  refine pR44 k1488 dX11_starts_57 (fun X12 => ?_)
  refine T.aload_n dX11_starts_60 rfl 0 rfl ?_
  refine T.iconst (w := (-1)) dX11_starts_61 (by decide) ?_
  refine pR45 k1489 dX11_starts_62 (fun X13 => ?_)
  refine T.aload_n dX11_starts_65 rfl 0 rfl ?_
  refine T.iconst (w := 0) dX11_starts_66 (by decide) ?_
  refine pR46 k1490 dX11_starts_67 (fun X14 => ?_)
  refine T.iconst (w := 0) dX11_starts_70 (by decide) ?_
  refine T.istore_n (lv1 := [(2, .int 0), (0, .ref (Γ.2.2.2.1 0)), (1, .int p1)]) dX11_starts_71 rfl (by decide) rfl ?_
  refine T.sub [1, 2, 0] rfl ?_
  exact c_starts_72 Γ _ BIG p1 (0 : Int32) X14
abbrev R_run : Room := { frames := 34, cells := 0, slots := 0, locals := 510 }
noncomputable def f_run (p1 : Int32) (X : St) : Option (Int32 × St) :=
  letV (X.1 0 4) fun x1 =>
  if x1.toInt = 0 then
    some ((-1), X)
  else
    bnd (f_in p1 (0 : Int32) (20000 : Int32) X) fun x2 X3 =>
    if x2.toInt = 0 then
      some ((-1), X3)
    else
      letV (wI X3 0 39 p1) fun X4 =>
      letV (wI X4 0 42 ((1 : Int32))) fun X5 =>
      letV (X5.1 0 25) fun x6 =>
      bnd (f_starts x6 X5) fun x7 X8 =>
      some (x7, X8)
set_option maxHeartbeats 4000000 in
set_option maxRecDepth 100000 in
theorem c_run (Γ : Gx) (p1 : Int32) (X : St) : TMI YR Γ yX11_run cX11_run 2 "BlameCourtModel" (some .int) R_run [.ref (Γ.2.2.2.1 0), .int p1] X (f_run p1 X) := by
  refine TMI.of (by decide) (Nat.le_of_ble_eq_true rfl) rfl ?_
  show T YR Γ cX11_run 2 "BlameCourtModel" (some .int) R_run _ qI 0 [(0, .ref (Γ.2.2.2.1 0)), (1, .int p1)] [] X (f_run p1 X)
  unfold f_run
  refine T.aload_n dX11_run_0 rfl 0 rfl ?_
  refine gR4 k1372 dX11_run_1 (fun x1 => ?_)
  refine T.if_eq (pc1 := 18) dX11_run_4 (by decide) ?_ ?_
  · refine T.iconst (w := (-1)) dX11_run_18 (by decide) ?_
    exact T.ret_i rfl dX11_run_19
  · refine T.iload_n dX11_run_7 rfl 1 rfl ?_
    refine T.iconst (w := 0) dX11_run_8 (by decide) ?_
    refine T.sipush (w := 20000) dX11_run_9 (by decide) ?_
    refine T.callS_i (As1 := [.int p1, .int 0, .int 20000]) (rest := []) (c_in Γ p1 (0 : Int32) (20000 : Int32) X) ka_X11_in k1766 k1765 rfl rfl rfl rfl ⟨Nat.le_of_ble_eq_true rfl, Nat.le_of_ble_eq_true rfl⟩ (Nat.le_of_ble_eq_true rfl) dX11_run_12 (fun x2 X3 => ?_)
    refine T.if_ne (pc1 := 20) dX11_run_15 (by decide) ?_ ?_
    · refine T.aload_n dX11_run_20 rfl 0 rfl ?_
      refine T.iload_n dX11_run_21 rfl 1 rfl ?_
      refine pR39 k1483 dX11_run_22 (fun X4 => ?_)
      refine T.aload_n dX11_run_25 rfl 0 rfl ?_
      refine T.iconst (w := 1) dX11_run_26 (by decide) ?_
      refine pR42 k1486 (by decide) dX11_run_27 (fun X5 => ?_)
      refine T.aload_n dX11_run_30 rfl 0 rfl ?_
      refine T.aload_n dX11_run_31 rfl 0 rfl ?_
      refine gR25 k1430 dX11_run_32 (fun x6 => ?_)
      refine T.callV_i 0 (As1 := [.int x6]) (rest := []) (c_starts Γ x6 X5) ka_X11_starts kv_X11_starts oR rfl k2096 rfl rfl rfl rfl ⟨Nat.le_of_ble_eq_true rfl, Nat.le_of_ble_eq_true rfl⟩ (Nat.le_of_ble_eq_true rfl) dX11_run_35 (fun x7 X8 => ?_)
      exact T.ret_i rfl dX11_run_38
    · refine T.iconst (w := (-1)) dX11_run_18 (by decide) ?_
      exact T.ret_i rfl dX11_run_19
abbrev R_runUntold : Room := { frames := 34, cells := 0, slots := 0, locals := 510 }
noncomputable def f_runUntold_31 (a1 : Int32) (X : St) : Option (Int32 × St) :=
  letV (wI X 0 39 a1) fun X5 =>
  letV (wI X5 0 42 ((0 : Int32))) fun X6 =>
  letV (X6.1 0 25) fun x7 =>
  bnd (f_starts x7 X6) fun x8 X9 =>
  some (x8, X9)
set_option maxHeartbeats 4000000 in
set_option maxRecDepth 100000 in
theorem c_runUntold_31 (Γ : Gx) (As : List Value) (a1 : Int32) (X : St) : T YR Γ cX11_runUntold 2 "BlameCourtModel" (some .int) R_runUntold As qI 31 [(0, .ref (Γ.2.2.2.1 0)), (1, .int a1)] [] X (f_runUntold_31 a1 X) := by
  unfold f_runUntold_31
  refine T.aload_n dX11_runUntold_31 rfl 0 rfl ?_
  refine T.iload_n dX11_runUntold_32 rfl 1 rfl ?_
  refine pR39 k1483 dX11_runUntold_33 (fun X5 => ?_)
  refine T.aload_n dX11_runUntold_36 rfl 0 rfl ?_
  refine T.iconst (w := 0) dX11_runUntold_37 (by decide) ?_
  refine pR42 k1486 (by decide) dX11_runUntold_38 (fun X6 => ?_)
  refine T.aload_n dX11_runUntold_41 rfl 0 rfl ?_
  refine T.aload_n dX11_runUntold_42 rfl 0 rfl ?_
  refine gR25 k1430 dX11_runUntold_43 (fun x7 => ?_)
  refine T.callV_i 0 (As1 := [.int x7]) (rest := []) (c_starts Γ x7 X6) ka_X11_starts kv_X11_starts oR rfl k2096 rfl rfl rfl rfl ⟨Nat.le_of_ble_eq_true rfl, Nat.le_of_ble_eq_true rfl⟩ (Nat.le_of_ble_eq_true rfl) dX11_runUntold_46 (fun x8 X9 => ?_)
  exact T.ret_i rfl dX11_runUntold_49
noncomputable def f_runUntold (p1 : Int32) (X : St) : Option (Int32 × St) :=
  letV (X.1 0 3) fun x1 =>
  if x1.toInt = 0 then
    some ((-1), X)
  else
    bnd (f_in p1 (0 : Int32) (20000 : Int32) X) fun x2 X3 =>
    if x2.toInt = 0 then
      some ((-1), X3)
    else
      letV (X3.1 0 4) fun x4 =>
      if x4.toInt = 0 then
        bnd (f_compiles X3) fun _ X10 =>
        f_runUntold_31 p1 X10
      else
        f_runUntold_31 p1 X3
set_option maxHeartbeats 4000000 in
set_option maxRecDepth 100000 in
theorem c_runUntold (Γ : Gx) (p1 : Int32) (X : St) : TMI YR Γ yX11_runUntold cX11_runUntold 2 "BlameCourtModel" (some .int) R_runUntold [.ref (Γ.2.2.2.1 0), .int p1] X (f_runUntold p1 X) := by
  refine TMI.of (by decide) (Nat.le_of_ble_eq_true rfl) rfl ?_
  show T YR Γ cX11_runUntold 2 "BlameCourtModel" (some .int) R_runUntold _ qI 0 [(0, .ref (Γ.2.2.2.1 0)), (1, .int p1)] [] X (f_runUntold p1 X)
  unfold f_runUntold
  refine T.aload_n dX11_runUntold_0 rfl 0 rfl ?_
  refine gR3 k1371 dX11_runUntold_1 (fun x1 => ?_)
  refine T.if_eq (pc1 := 18) dX11_runUntold_4 (by decide) ?_ ?_
  · refine T.iconst (w := (-1)) dX11_runUntold_18 (by decide) ?_
    exact T.ret_i rfl dX11_runUntold_19
  · refine T.iload_n dX11_runUntold_7 rfl 1 rfl ?_
    refine T.iconst (w := 0) dX11_runUntold_8 (by decide) ?_
    refine T.sipush (w := 20000) dX11_runUntold_9 (by decide) ?_
    refine T.callS_i (As1 := [.int p1, .int 0, .int 20000]) (rest := []) (c_in Γ p1 (0 : Int32) (20000 : Int32) X) ka_X11_in k1766 k1765 rfl rfl rfl rfl ⟨Nat.le_of_ble_eq_true rfl, Nat.le_of_ble_eq_true rfl⟩ (Nat.le_of_ble_eq_true rfl) dX11_runUntold_12 (fun x2 X3 => ?_)
    refine T.if_ne (pc1 := 20) dX11_runUntold_15 (by decide) ?_ ?_
    · refine T.aload_n dX11_runUntold_20 rfl 0 rfl ?_
      refine gR4 k1372 dX11_runUntold_21 (fun x4 => ?_)
      refine T.if_ne (pc1 := 31) dX11_runUntold_24 (by decide) ?_ ?_
      · exact c_runUntold_31 Γ _ p1 X3
      · refine T.aload_n dX11_runUntold_27 rfl 0 rfl ?_
        refine T.callV_v 0 (As1 := []) (rest := []) (c_compiles Γ X3) ka_X11_compiles kv_X11_compiles oR rfl k1972 rfl rfl rfl rfl ⟨Nat.le_of_ble_eq_true rfl, Nat.le_of_ble_eq_true rfl⟩ (Nat.le_of_ble_eq_true rfl) dX11_runUntold_28 (fun _ X10 => ?_)
        exact c_runUntold_31 Γ _ p1 X10
    · refine T.iconst (w := (-1)) dX11_runUntold_18 (by decide) ?_
      exact T.ret_i rfl dX11_runUntold_19
abbrev R_told : Room := { frames := 10, cells := 0, slots := 0, locals := 150 }
noncomputable def f_told_51 (a1 : Int32) (a2 : Int32) (a3 : Int32) (b0 : Int32) (X : St) : Option (Int32 × St) :=
  if a1.toInt = 0 then
    letV (X.1 0 43) fun x4 =>
    some (x4, X)
  else if a1.toInt = 1 then
    letV (X.1 0 44) fun x6 =>
    some (x6, X)
  else if a1.toInt = 2 then
    letV (X.1 0 45) fun x8 =>
    some (x8, X)
  else if a1.toInt = 3 then
    letV (X.1 0 40) fun x10 =>
    some (x10, X)
  else if a1.toInt = 4 then
    some (a3, X)
  else if a1.toInt = 5 then
    if a3.toInt = 3 then
      bnd (f_within (3 : Int32) b0 X) fun x15 X16 =>
      chk (inR x15 1000) (letV (X16.1 66 (ix x15)) fun x17 =>
      some (x17, X16))
    else
      if a3.toInt = 4 then
        bnd (f_within (4 : Int32) b0 X) fun x13 X14 =>
        some (x13, X14)
      else
        some (b0, X)
  else if a1.toInt = 6 then
    if a2.toInt = 0 then
      some ((-1), X)
    else
      bnd (f_deep a3 b0 X) fun x19 X20 =>
      some (x19, X20)
  else if a1.toInt = 7 then
    letV (X.1 0 46) fun x22 =>
    some (x22, X)
  else if a1.toInt = 8 then
    letV (X.1 0 36) fun x24 =>
    some (x24, X)
  else if a1.toInt = 9 then
    letV (X.1 0 35) fun x26 =>
    some (x26, X)
  else some ((-1), X)
set_option maxHeartbeats 4000000 in
set_option maxRecDepth 100000 in
theorem c_told_51 (Γ : Gx) (As : List Value) (a1 : Int32) (a2 : Int32) (a3 : Int32) (b0 : Int32) (X : St) : T YR Γ cX11_told 5 "BlameCourtModel" (some .int) R_told As qI 51 [(0, .ref (Γ.2.2.2.1 0)), (1, .int a1), (2, .int a2), (3, .int a3)] [.int b0] X (f_told_51 a1 a2 a3 b0 X) := by
  unfold f_told_51
  refine T.istore (lv1 := [(4, .int b0), (0, .ref (Γ.2.2.2.1 0)), (1, .int a1), (2, .int a2), (3, .int a3)]) dX11_told_51 (by decide) rfl ?_
  refine T.iload_n dX11_told_53 rfl 2 rfl ?_
  refine T.ite (fun s3 => ?_) (fun s3 => ?_)
  · refine T.tbl (pc1 := 108) dX11_told_54 (by decide) (off := 54) (by rw [s3]; rfl) (by decide) ?_
    refine T.aload_n dX11_told_108 rfl 1 rfl ?_
    refine gR43 k1487 dX11_told_109 (fun x4 => ?_)
    exact T.ret_i rfl dX11_told_112
  refine T.ite (fun s5 => ?_) (fun s5 => ?_)
  · refine T.tbl (pc1 := 113) dX11_told_54 (by decide) (off := 59) (by rw [s5]; rfl) (by decide) ?_
    refine T.aload_n dX11_told_113 rfl 1 rfl ?_
    refine gR44 k1488 dX11_told_114 (fun x6 => ?_)
    exact T.ret_i rfl dX11_told_117
  refine T.ite (fun s7 => ?_) (fun s7 => ?_)
  · refine T.tbl (pc1 := 118) dX11_told_54 (by decide) (off := 64) (by rw [s7]; rfl) (by decide) ?_
    refine T.aload_n dX11_told_118 rfl 1 rfl ?_
    refine gR45 k1489 dX11_told_119 (fun x8 => ?_)
    exact T.ret_i rfl dX11_told_122
  refine T.ite (fun s9 => ?_) (fun s9 => ?_)
  · refine T.tbl (pc1 := 123) dX11_told_54 (by decide) (off := 69) (by rw [s9]; rfl) (by decide) ?_
    refine T.aload_n dX11_told_123 rfl 1 rfl ?_
    refine gR40 k1484 dX11_told_124 (fun x10 => ?_)
    exact T.ret_i rfl dX11_told_127
  refine T.ite (fun s11 => ?_) (fun s11 => ?_)
  · refine T.tbl (pc1 := 128) dX11_told_54 (by decide) (off := 74) (by rw [s11]; rfl) (by decide) ?_
    refine T.iload_n dX11_told_128 rfl 4 rfl ?_
    exact T.ret_i rfl dX11_told_129
  refine T.ite (fun s12 => ?_) (fun s12 => ?_)
  · refine T.tbl (pc1 := 130) dX11_told_54 (by decide) (off := 76) (by rw [s12]; rfl) (by decide) ?_
    refine T.iload_n dX11_told_130 rfl 4 rfl ?_
    refine T.iconst (w := 3) dX11_told_131 (by decide) ?_
    refine T.icmp_ne (pc1 := 150) dX11_told_132 (by decide) rfl ?_ ?_
    · refine T.iload_n dX11_told_150 rfl 4 rfl ?_
      refine T.iconst (w := 4) dX11_told_151 (by decide) ?_
      refine T.icmp_ne (pc1 := 165) dX11_told_152 (by decide) rfl ?_ ?_
      · refine T.iload dX11_told_165 0 rfl ?_
        exact T.ret_i rfl dX11_told_167
      · refine T.aload_n dX11_told_155 rfl 1 rfl ?_
        refine T.iconst (w := 4) dX11_told_156 (by decide) ?_
        refine T.iload dX11_told_157 0 rfl ?_
        refine T.callV_i 0 (As1 := [.int 4, .int b0]) (rest := []) (c_within Γ (4 : Int32) b0 X) ka_X11_within kv_X11_within oR rfl k2132 rfl rfl rfl rfl ⟨Nat.le_of_ble_eq_true rfl, Nat.le_of_ble_eq_true rfl⟩ (Nat.le_of_ble_eq_true rfl) dX11_told_159 (fun x13 X14 => ?_)
        refine T.goto (pc1 := 167) dX11_told_162 (by decide) ?_
        exact T.ret_i rfl dX11_told_167
    · refine T.aload_n dX11_told_135 rfl 1 rfl ?_
      refine cR113 k1465 dX11_told_136 ?_
      refine T.aload_n dX11_told_139 rfl 1 rfl ?_
      refine T.iconst (w := 3) dX11_told_140 (by decide) ?_
      refine T.iload dX11_told_141 0 rfl ?_
      refine T.callV_i 0 (As1 := [.int 3, .int b0]) (rest := [.ref (Γ.2.2.2.1 66)]) (c_within Γ (3 : Int32) b0 X) ka_X11_within kv_X11_within oR rfl k2132 rfl rfl rfl rfl ⟨Nat.le_of_ble_eq_true rfl, Nat.le_of_ble_eq_true rfl⟩ (Nat.le_of_ble_eq_true rfl) dX11_told_143 (fun x15 X16 => ?_)
      refine alR66 dX11_told_146 (fun x17 => ?_)
      refine T.goto (pc1 := 167) dX11_told_147 (by decide) ?_
      exact T.ret_i rfl dX11_told_167
  refine T.ite (fun s18 => ?_) (fun s18 => ?_)
  · refine T.tbl (pc1 := 168) dX11_told_54 (by decide) (off := 114) (by rw [s18]; rfl) (by decide) ?_
    refine T.iload_n dX11_told_168 rfl 3 rfl ?_
    refine T.if_eq (pc1 := 182) dX11_told_169 (by decide) ?_ ?_
    · refine T.iconst (w := (-1)) dX11_told_182 (by decide) ?_
      exact T.ret_i rfl dX11_told_183
    · refine T.aload_n dX11_told_172 rfl 1 rfl ?_
      refine T.iload_n dX11_told_173 rfl 4 rfl ?_
      refine T.iload dX11_told_174 0 rfl ?_
      refine T.callV_i 0 (As1 := [.int a3, .int b0]) (rest := []) (c_deep Γ a3 b0 X) ka_X11_deep kv_X11_deep oR rfl k2140 rfl rfl rfl rfl ⟨Nat.le_of_ble_eq_true rfl, Nat.le_of_ble_eq_true rfl⟩ (Nat.le_of_ble_eq_true rfl) dX11_told_176 (fun x19 X20 => ?_)
      refine T.goto (pc1 := 183) dX11_told_179 (by decide) ?_
      exact T.ret_i rfl dX11_told_183
  refine T.ite (fun s21 => ?_) (fun s21 => ?_)
  · refine T.tbl (pc1 := 184) dX11_told_54 (by decide) (off := 130) (by rw [s21]; rfl) (by decide) ?_
    refine T.aload_n dX11_told_184 rfl 1 rfl ?_
    refine gR46 k1490 dX11_told_185 (fun x22 => ?_)
    exact T.ret_i rfl dX11_told_188
  refine T.ite (fun s23 => ?_) (fun s23 => ?_)
  · refine T.tbl (pc1 := 189) dX11_told_54 (by decide) (off := 135) (by rw [s23]; rfl) (by decide) ?_
    refine T.aload_n dX11_told_189 rfl 1 rfl ?_
    refine gR36 k1477 dX11_told_190 (fun x24 => ?_)
    exact T.ret_i rfl dX11_told_193
  refine T.ite (fun s25 => ?_) (fun s25 => ?_)
  · refine T.tbl (pc1 := 194) dX11_told_54 (by decide) (off := 140) (by rw [s25]; rfl) (by decide) ?_
    refine T.aload_n dX11_told_194 rfl 1 rfl ?_
    refine gR35 k1476 dX11_told_195 (fun x26 => ?_)
    exact T.ret_i rfl dX11_told_198
  refine T.tbl (pc1 := 199) dX11_told_54 (by decide) (off := 145) (tbl_d [0, 1, 2, 3, 4, 5, 6, 7, 8, 9] (by intro q; simp only [List.mem_cons, List.not_mem_nil, or_false] at q; omega) (by decide)) (by decide) ?_
  refine T.iconst (w := (-1)) dX11_told_199 (by decide) ?_
  exact T.ret_i rfl dX11_told_200
noncomputable def f_told_36 (a1 : Int32) (a2 : Int32) (b0 : Int32) (X : St) : Option (Int32 × St) :=
  if a2.toInt = 0 then
    f_told_51 a1 a2 b0 (-1 : Int32) X
  else
    chk (inR (0 : Int32) 20400) (letV (X.1 61 (ix (0 : Int32))) fun x27 =>
    f_told_51 a1 a2 b0 x27 X)
set_option maxHeartbeats 4000000 in
set_option maxRecDepth 100000 in
theorem c_told_36 (Γ : Gx) (As : List Value) (a1 : Int32) (a2 : Int32) (b0 : Int32) (X : St) : T YR Γ cX11_told 5 "BlameCourtModel" (some .int) R_told As qI 36 [(0, .ref (Γ.2.2.2.1 0)), (1, .int a1), (2, .int a2)] [.int b0] X (f_told_36 a1 a2 b0 X) := by
  unfold f_told_36
  refine T.istore_n (lv1 := [(3, .int b0), (0, .ref (Γ.2.2.2.1 0)), (1, .int a1), (2, .int a2)]) dX11_told_36 rfl (by decide) rfl ?_
  refine T.iload_n dX11_told_37 rfl 3 rfl ?_
  refine T.if_eq (pc1 := 50) dX11_told_38 (by decide) ?_ ?_
  · refine T.iconst (w := (-1)) dX11_told_50 (by decide) ?_
    refine T.sub [1, 2, 3, 0] rfl ?_
    exact c_told_51 Γ _ a1 a2 b0 (-1 : Int32) X
  · refine T.aload_n dX11_told_41 rfl 1 rfl ?_
    refine cR108 k1458 dX11_told_42 ?_
    refine T.iconst (w := 0) dX11_told_45 (by decide) ?_
    refine alR61 dX11_told_46 (fun x27 => ?_)
    refine T.goto (pc1 := 51) dX11_told_47 (by decide) ?_
    refine T.sub [1, 2, 3, 0] rfl ?_
    exact c_told_51 Γ _ a1 a2 b0 x27 X
noncomputable def f_told_21 (a1 : Int32) (b0 : Int32) (X : St) : Option (Int32 × St) :=
  if b0.toInt = 0 then
    f_told_36 a1 b0 (-1 : Int32) X
  else
    chk (inR (0 : Int32) 20400) (letV (X.1 60 (ix (0 : Int32))) fun x28 =>
    f_told_36 a1 b0 x28 X)
set_option maxHeartbeats 4000000 in
set_option maxRecDepth 100000 in
theorem c_told_21 (Γ : Gx) (As : List Value) (a1 : Int32) (b0 : Int32) (X : St) : T YR Γ cX11_told 5 "BlameCourtModel" (some .int) R_told As qI 21 [(0, .ref (Γ.2.2.2.1 0)), (1, .int a1)] [.int b0] X (f_told_21 a1 b0 X) := by
  unfold f_told_21
  refine T.istore_n (lv1 := [(2, .int b0), (0, .ref (Γ.2.2.2.1 0)), (1, .int a1)]) dX11_told_21 rfl (by decide) rfl ?_
  refine T.iload_n dX11_told_22 rfl 0 rfl ?_
  refine T.if_eq (pc1 := 35) dX11_told_23 (by decide) ?_ ?_
  · refine T.iconst (w := (-1)) dX11_told_35 (by decide) ?_
    refine T.sub [1, 2, 0] rfl ?_
    exact c_told_36 Γ _ a1 b0 (-1 : Int32) X
  · refine T.aload_n dX11_told_26 rfl 1 rfl ?_
    refine cR107 k1457 dX11_told_27 ?_
    refine T.iconst (w := 0) dX11_told_30 (by decide) ?_
    refine alR60 dX11_told_31 (fun x28 => ?_)
    refine T.goto (pc1 := 36) dX11_told_32 (by decide) ?_
    refine T.sub [1, 2, 0] rfl ?_
    exact c_told_36 Γ _ a1 b0 x28 X
noncomputable def f_told (p1 : Int32) (X : St) : Option (Int32 × St) :=
  letV (X.1 0 41) fun x1 =>
  if x1.toInt = 0 then
    some ((-1), X)
  else
    letV (X.1 0 43) fun x2 =>
    if x2.toInt = 0 then
      f_told_21 p1 (1 : Int32) X
    else
      f_told_21 p1 (0 : Int32) X
set_option maxHeartbeats 4000000 in
set_option maxRecDepth 100000 in
theorem c_told (Γ : Gx) (p1 : Int32) (X : St) : TMI YR Γ yX11_told cX11_told 5 "BlameCourtModel" (some .int) R_told [.ref (Γ.2.2.2.1 0), .int p1] X (f_told p1 X) := by
  refine TMI.of (by decide) (Nat.le_of_ble_eq_true rfl) rfl ?_
  show T YR Γ cX11_told 5 "BlameCourtModel" (some .int) R_told _ qI 0 [(0, .ref (Γ.2.2.2.1 0)), (1, .int p1)] [] X (f_told p1 X)
  unfold f_told
  refine T.aload_n dX11_told_0 rfl 0 rfl ?_
  refine gR41 k1485 dX11_told_1 (fun x1 => ?_)
  refine T.if_ne (pc1 := 9) dX11_told_4 (by decide) ?_ ?_
  · refine T.aload_n dX11_told_9 rfl 0 rfl ?_
    refine gR43 k1487 dX11_told_10 (fun x2 => ?_)
    refine T.if_ne (pc1 := 20) dX11_told_13 (by decide) ?_ ?_
    · refine T.iconst (w := 0) dX11_told_20 (by decide) ?_
      exact c_told_21 Γ _ p1 (0 : Int32) X
    · refine T.iconst (w := 1) dX11_told_16 (by decide) ?_
      refine T.goto (pc1 := 21) dX11_told_17 (by decide) ?_
      exact c_told_21 Γ _ p1 (1 : Int32) X
  · refine T.iconst (w := (-1)) dX11_told_7 (by decide) ?_
    exact T.ret_i rfl dX11_told_8
abbrev R_out : Room := { frames := 10, cells := 0, slots := 0, locals := 150 }
noncomputable def f_out (p1 : Int32) (X : St) : Option (Int32 × St) :=
  letV (X.1 0 41) fun x1 =>
  if x1.toInt = 0 then
    some (0, X)
  else
    letV (X.1 0 46) fun x2 =>
    letV (x2 - (1 : Int32)) fun x3 =>
    bnd (f_in p1 (0 : Int32) x3 X) fun x4 X5 =>
    if x4.toInt = 0 then
      some (0, X5)
    else
      chk (inR p1 200) (letV (X5.1 79 (ix p1)) fun x6 =>
      some (x6, X5))
set_option maxHeartbeats 4000000 in
set_option maxRecDepth 100000 in
theorem c_out (Γ : Gx) (p1 : Int32) (X : St) : TMI YR Γ yX11_out cX11_out 2 "BlameCourtModel" (some .int) R_out [.ref (Γ.2.2.2.1 0), .int p1] X (f_out p1 X) := by
  refine TMI.of (by decide) (Nat.le_of_ble_eq_true rfl) rfl ?_
  show T YR Γ cX11_out 2 "BlameCourtModel" (some .int) R_out _ qI 0 [(0, .ref (Γ.2.2.2.1 0)), (1, .int p1)] [] X (f_out p1 X)
  unfold f_out
  refine T.aload_n dX11_out_0 rfl 0 rfl ?_
  refine gR41 k1485 dX11_out_1 (fun x1 => ?_)
  refine T.if_eq (pc1 := 30) dX11_out_4 (by decide) ?_ ?_
  · refine T.iconst (w := 0) dX11_out_30 (by decide) ?_
    exact T.ret_i rfl dX11_out_31
  · refine T.iload_n dX11_out_7 rfl 1 rfl ?_
    refine T.iconst (w := 0) dX11_out_8 (by decide) ?_
    refine T.aload_n dX11_out_9 rfl 0 rfl ?_
    refine gR46 k1490 dX11_out_10 (fun x2 => ?_)
    refine T.iconst (w := 1) dX11_out_13 (by decide) ?_
    refine T.isub dX11_out_14 (fun x3 => ?_)
    refine T.callS_i (As1 := [.int p1, .int 0, .int x3]) (rest := []) (c_in Γ p1 (0 : Int32) x3 X) ka_X11_in k1766 k1765 rfl rfl rfl rfl ⟨Nat.le_of_ble_eq_true rfl, Nat.le_of_ble_eq_true rfl⟩ (Nat.le_of_ble_eq_true rfl) dX11_out_15 (fun x4 X5 => ?_)
    refine T.if_eq (pc1 := 30) dX11_out_18 (by decide) ?_ ?_
    · refine T.iconst (w := 0) dX11_out_30 (by decide) ?_
      exact T.ret_i rfl dX11_out_31
    · refine T.aload_n dX11_out_21 rfl 0 rfl ?_
      refine cR126 k1491 dX11_out_22 ?_
      refine T.iload_n dX11_out_25 rfl 1 rfl ?_
      refine alR79 dX11_out_26 (fun x6 => ?_)
      refine T.goto (pc1 := 31) dX11_out_27 (by decide) ?_
      exact T.ret_i rfl dX11_out_31
abbrev R_asked : Room := { frames := 10, cells := 0, slots := 0, locals := 150 }
noncomputable def f_asked (p1 : Int32) (p2 : Int32) (X : St) : Option (Int32 × St) :=
  letV (X.1 0 41) fun x1 =>
  if x1.toInt = 0 then
    some ((-1), X)
  else
    letV (X.1 0 18) fun x2 =>
    letV (x2 - (1 : Int32)) fun x3 =>
    bnd (f_in p1 (0 : Int32) x3 X) fun x4 X5 =>
    if x4.toInt = 0 then
      some ((-1), X5)
    else
      letV (X5.1 0 18) fun x6 =>
      letV (x6 - (1 : Int32)) fun x7 =>
      bnd (f_in p2 (0 : Int32) x7 X5) fun x8 X9 =>
      if x8.toInt = 0 then
        some ((-1), X9)
      else
        letV ((41 : Int32) * p1) fun x10 =>
        letV (x10 + p2) fun x11 =>
        chk (inR x11 1681) (letV (X9.1 80 (ix x11)) fun x12 =>
        some (x12, X9))
set_option maxHeartbeats 4000000 in
set_option maxRecDepth 100000 in
theorem c_asked (Γ : Gx) (p1 : Int32) (p2 : Int32) (X : St) : TMI YR Γ yX11_asked cX11_asked 3 "BlameCourtModel" (some .int) R_asked [.ref (Γ.2.2.2.1 0), .int p1, .int p2] X (f_asked p1 p2 X) := by
  refine TMI.of (by decide) (Nat.le_of_ble_eq_true rfl) rfl ?_
  show T YR Γ cX11_asked 3 "BlameCourtModel" (some .int) R_asked _ qI 0 [(0, .ref (Γ.2.2.2.1 0)), (1, .int p1), (2, .int p2)] [] X (f_asked p1 p2 X)
  unfold f_asked
  refine T.aload_n dX11_asked_0 rfl 0 rfl ?_
  refine gR41 k1485 dX11_asked_1 (fun x1 => ?_)
  refine T.if_eq (pc1 := 49) dX11_asked_4 (by decide) ?_ ?_
  · refine T.iconst (w := (-1)) dX11_asked_49 (by decide) ?_
    exact T.ret_i rfl dX11_asked_50
  · refine T.iload_n dX11_asked_7 rfl 1 rfl ?_
    refine T.iconst (w := 0) dX11_asked_8 (by decide) ?_
    refine T.aload_n dX11_asked_9 rfl 0 rfl ?_
    refine gR18 k1394 dX11_asked_10 (fun x2 => ?_)
    refine T.iconst (w := 1) dX11_asked_13 (by decide) ?_
    refine T.isub dX11_asked_14 (fun x3 => ?_)
    refine T.callS_i (As1 := [.int p1, .int 0, .int x3]) (rest := []) (c_in Γ p1 (0 : Int32) x3 X) ka_X11_in k1766 k1765 rfl rfl rfl rfl ⟨Nat.le_of_ble_eq_true rfl, Nat.le_of_ble_eq_true rfl⟩ (Nat.le_of_ble_eq_true rfl) dX11_asked_15 (fun x4 X5 => ?_)
    refine T.if_eq (pc1 := 49) dX11_asked_18 (by decide) ?_ ?_
    · refine T.iconst (w := (-1)) dX11_asked_49 (by decide) ?_
      exact T.ret_i rfl dX11_asked_50
    · refine T.iload_n dX11_asked_21 rfl 2 rfl ?_
      refine T.iconst (w := 0) dX11_asked_22 (by decide) ?_
      refine T.aload_n dX11_asked_23 rfl 0 rfl ?_
      refine gR18 k1394 dX11_asked_24 (fun x6 => ?_)
      refine T.iconst (w := 1) dX11_asked_27 (by decide) ?_
      refine T.isub dX11_asked_28 (fun x7 => ?_)
      refine T.callS_i (As1 := [.int p2, .int 0, .int x7]) (rest := []) (c_in Γ p2 (0 : Int32) x7 X5) ka_X11_in k1766 k1765 rfl rfl rfl rfl ⟨Nat.le_of_ble_eq_true rfl, Nat.le_of_ble_eq_true rfl⟩ (Nat.le_of_ble_eq_true rfl) dX11_asked_29 (fun x8 X9 => ?_)
      refine T.if_eq (pc1 := 49) dX11_asked_32 (by decide) ?_ ?_
      · refine T.iconst (w := (-1)) dX11_asked_49 (by decide) ?_
        exact T.ret_i rfl dX11_asked_50
      · refine T.aload_n dX11_asked_35 rfl 0 rfl ?_
        refine cR127 k1492 dX11_asked_36 ?_
        refine T.bipush (w := 41) dX11_asked_39 (by decide) ?_
        refine T.iload_n dX11_asked_41 rfl 1 rfl ?_
        refine T.imul dX11_asked_42 (fun x10 => ?_)
        refine T.iload_n dX11_asked_43 rfl 2 rfl ?_
        refine T.iadd dX11_asked_44 (fun x11 => ?_)
        refine alR80 dX11_asked_45 (fun x12 => ?_)
        refine T.goto (pc1 := 50) dX11_asked_46 (by decide) ?_
        exact T.ret_i rfl dX11_asked_50
abbrev R_about : Room := { frames := 6, cells := 0, slots := 0, locals := 90 }
noncomputable def f_about (p1 : Int32) (X : St) : Option (Int32 × St) :=
  if p1.toInt = 0 then
    letV (X.1 0 0) fun x2 =>
    some (x2, X)
  else if p1.toInt = 1 then
    letV (X.1 0 18) fun x4 =>
    some (x4, X)
  else if p1.toInt = 2 then
    letV (X.1 0 4) fun x6 =>
    if x6.toInt = 0 then
      some (0, X)
    else
      some (1, X)
  else if p1.toInt = 3 then
    letV (X.1 0 4) fun x8 =>
    if x8.toInt = 0 then
      some ((-1), X)
    else
      letV (X.1 0 28) fun x9 =>
      some (x9, X)
  else some ((-1), X)
set_option maxHeartbeats 4000000 in
set_option maxRecDepth 100000 in
theorem c_about (Γ : Gx) (p1 : Int32) (X : St) : TMI YR Γ yX11_about cX11_about 2 "BlameCourtModel" (some .int) R_about [.ref (Γ.2.2.2.1 0), .int p1] X (f_about p1 X) := by
  refine TMI.of (by decide) (Nat.le_of_ble_eq_true rfl) rfl ?_
  show T YR Γ cX11_about 2 "BlameCourtModel" (some .int) R_about _ qI 0 [(0, .ref (Γ.2.2.2.1 0)), (1, .int p1)] [] X (f_about p1 X)
  unfold f_about
  refine T.iload_n dX11_about_0 rfl 1 rfl ?_
  refine T.ite (fun s1 => ?_) (fun s1 => ?_)
  · refine T.tbl (pc1 := 32) dX11_about_1 (by decide) (off := 31) (by rw [s1]; rfl) (by decide) ?_
    refine T.aload_n dX11_about_32 rfl 0 rfl ?_
    refine gR0 k1366 dX11_about_33 (fun x2 => ?_)
    exact T.ret_i rfl dX11_about_36
  refine T.ite (fun s3 => ?_) (fun s3 => ?_)
  · refine T.tbl (pc1 := 37) dX11_about_1 (by decide) (off := 36) (by rw [s3]; rfl) (by decide) ?_
    refine T.aload_n dX11_about_37 rfl 0 rfl ?_
    refine gR18 k1394 dX11_about_38 (fun x4 => ?_)
    exact T.ret_i rfl dX11_about_41
  refine T.ite (fun s5 => ?_) (fun s5 => ?_)
  · refine T.tbl (pc1 := 42) dX11_about_1 (by decide) (off := 41) (by rw [s5]; rfl) (by decide) ?_
    refine T.aload_n dX11_about_42 rfl 0 rfl ?_
    refine gR4 k1372 dX11_about_43 (fun x6 => ?_)
    refine T.if_eq (pc1 := 53) dX11_about_46 (by decide) ?_ ?_
    · refine T.iconst (w := 0) dX11_about_53 (by decide) ?_
      exact T.ret_i rfl dX11_about_54
    · refine T.iconst (w := 1) dX11_about_49 (by decide) ?_
      refine T.goto (pc1 := 54) dX11_about_50 (by decide) ?_
      exact T.ret_i rfl dX11_about_54
  refine T.ite (fun s7 => ?_) (fun s7 => ?_)
  · refine T.tbl (pc1 := 55) dX11_about_1 (by decide) (off := 54) (by rw [s7]; rfl) (by decide) ?_
    refine T.aload_n dX11_about_55 rfl 0 rfl ?_
    refine gR4 k1372 dX11_about_56 (fun x8 => ?_)
    refine T.if_eq (pc1 := 69) dX11_about_59 (by decide) ?_ ?_
    · refine T.iconst (w := (-1)) dX11_about_69 (by decide) ?_
      exact T.ret_i rfl dX11_about_70
    · refine T.aload_n dX11_about_62 rfl 0 rfl ?_
      refine gR28 k1445 dX11_about_63 (fun x9 => ?_)
      refine T.goto (pc1 := 70) dX11_about_66 (by decide) ?_
      exact T.ret_i rfl dX11_about_70
  refine T.tbl (pc1 := 71) dX11_about_1 (by decide) (off := 70) (tbl_d [0, 1, 2, 3] (by intro q; simp only [List.mem_cons, List.not_mem_nil, or_false] at q; omega) (by decide)) (by decide) ?_
  refine T.iconst (w := (-1)) dX11_about_71 (by decide) ?_
  exact T.ret_i rfl dX11_about_72
