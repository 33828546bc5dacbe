theorem dX7_askInto_0 : decode cX7_askInto 0 = .ok (.aload_n 0, 1) := by decide +kernel
theorem dX7_askInto_1 : decode cX7_askInto 1 = .ok (.getfield 22, 3) := by decide +kernel
theorem dX7_askInto_4 : decode cX7_askInto 4 = .ok (.getfield 249, 3) := by decide +kernel
theorem dX7_askInto_7 : decode cX7_askInto 7 = .ok (.astore 5, 2) := by decide +kernel
theorem dX7_askInto_9 : decode cX7_askInto 9 = .ok (.iload_n 2, 1) := by decide +kernel
theorem dX7_askInto_10 : decode cX7_askInto 10 = .ok (.iconst (-1), 1) := by decide +kernel
theorem dX7_askInto_11 : decode cX7_askInto 11 = .ok (.if_icmp .ne 20, 3) := by decide +kernel
theorem dX7_askInto_14 : decode cX7_askInto 14 = .ok (.aload 5, 2) := by decide +kernel
theorem dX7_askInto_16 : decode cX7_askInto 16 = .ok (.aload_n 0, 1) := by decide +kernel
theorem dX7_askInto_17 : decode cX7_askInto 17 = .ok (.getfield 18, 3) := by decide +kernel
theorem dX7_askInto_20 : decode cX7_askInto 20 = .ok (.getfield 261, 3) := by decide +kernel
theorem dX7_askInto_23 : decode cX7_askInto 23 = .ok (.iload_n 1, 1) := by decide +kernel
theorem dX7_askInto_24 : decode cX7_askInto 24 = .ok (.iaload, 1) := by decide +kernel
theorem dX7_askInto_25 : decode cX7_askInto 25 = .ok (.invokevirtual 256, 3) := by decide +kernel
theorem dX7_askInto_28 : decode cX7_askInto 28 = .ok (.goto 18, 3) := by decide +kernel
theorem dX7_askInto_31 : decode cX7_askInto 31 = .ok (.aload 5, 2) := by decide +kernel
theorem dX7_askInto_33 : decode cX7_askInto 33 = .ok (.aload_n 0, 1) := by decide +kernel
theorem dX7_askInto_34 : decode cX7_askInto 34 = .ok (.getfield 18, 3) := by decide +kernel
theorem dX7_askInto_37 : decode cX7_askInto 37 = .ok (.getfield 261, 3) := by decide +kernel
theorem dX7_askInto_40 : decode cX7_askInto 40 = .ok (.iload_n 1, 1) := by decide +kernel
theorem dX7_askInto_41 : decode cX7_askInto 41 = .ok (.iaload, 1) := by decide +kernel
theorem dX7_askInto_42 : decode cX7_askInto 42 = .ok (.iload_n 2, 1) := by decide +kernel
theorem dX7_askInto_43 : decode cX7_askInto 43 = .ok (.invokevirtual 275, 3) := by decide +kernel
theorem dX7_askInto_46 : decode cX7_askInto 46 = .ok (.istore 6, 2) := by decide +kernel
theorem dX7_askInto_48 : decode cX7_askInto 48 = .ok (.iload_n 2, 1) := by decide +kernel
theorem dX7_askInto_49 : decode cX7_askInto 49 = .ok (.iconst (-1), 1) := by decide +kernel
theorem dX7_askInto_50 : decode cX7_askInto 50 = .ok (.if_icmp .ne 20, 3) := by decide +kernel
theorem dX7_askInto_53 : decode cX7_askInto 53 = .ok (.aload 5, 2) := by decide +kernel
theorem dX7_askInto_55 : decode cX7_askInto 55 = .ok (.aload_n 0, 1) := by decide +kernel
theorem dX7_askInto_56 : decode cX7_askInto 56 = .ok (.getfield 18, 3) := by decide +kernel
theorem dX7_askInto_59 : decode cX7_askInto 59 = .ok (.getfield 253, 3) := by decide +kernel
theorem dX7_askInto_62 : decode cX7_askInto 62 = .ok (.iload_n 1, 1) := by decide +kernel
theorem dX7_askInto_63 : decode cX7_askInto 63 = .ok (.iaload, 1) := by decide +kernel
theorem dX7_askInto_64 : decode cX7_askInto 64 = .ok (.invokevirtual 256, 3) := by decide +kernel
theorem dX7_askInto_67 : decode cX7_askInto 67 = .ok (.goto 18, 3) := by decide +kernel
theorem dX7_askInto_70 : decode cX7_askInto 70 = .ok (.aload 5, 2) := by decide +kernel
theorem dX7_askInto_72 : decode cX7_askInto 72 = .ok (.aload_n 0, 1) := by decide +kernel
theorem dX7_askInto_73 : decode cX7_askInto 73 = .ok (.getfield 18, 3) := by decide +kernel
theorem dX7_askInto_76 : decode cX7_askInto 76 = .ok (.getfield 253, 3) := by decide +kernel
theorem dX7_askInto_79 : decode cX7_askInto 79 = .ok (.iload_n 1, 1) := by decide +kernel
theorem dX7_askInto_80 : decode cX7_askInto 80 = .ok (.iaload, 1) := by decide +kernel
theorem dX7_askInto_81 : decode cX7_askInto 81 = .ok (.iload_n 2, 1) := by decide +kernel
theorem dX7_askInto_82 : decode cX7_askInto 82 = .ok (.invokevirtual 275, 3) := by decide +kernel
theorem dX7_askInto_85 : decode cX7_askInto 85 = .ok (.istore 7, 2) := by decide +kernel
theorem dX7_askInto_87 : decode cX7_askInto 87 = .ok (.aload_n 0, 1) := by decide +kernel
theorem dX7_askInto_88 : decode cX7_askInto 88 = .ok (.lload_n 3, 1) := by decide +kernel
theorem dX7_askInto_89 : decode cX7_askInto 89 = .ok (.iload 6, 2) := by decide +kernel
theorem dX7_askInto_91 : decode cX7_askInto 91 = .ok (.iload 7, 2) := by decide +kernel
theorem dX7_askInto_93 : decode cX7_askInto 93 = .ok (.aload_n 0, 1) := by decide +kernel
theorem dX7_askInto_94 : decode cX7_askInto 94 = .ok (.getfield 18, 3) := by decide +kernel
theorem dX7_askInto_97 : decode cX7_askInto 97 = .ok (.getfield 267, 3) := by decide +kernel
theorem dX7_askInto_100 : decode cX7_askInto 100 = .ok (.iload_n 1, 1) := by decide +kernel
theorem dX7_askInto_101 : decode cX7_askInto 101 = .ok (.iaload, 1) := by decide +kernel
theorem dX7_askInto_102 : decode cX7_askInto 102 = .ok (.aload_n 0, 1) := by decide +kernel
theorem dX7_askInto_103 : decode cX7_askInto 103 = .ok (.getfield 18, 3) := by decide +kernel
theorem dX7_askInto_106 : decode cX7_askInto 106 = .ok (.getfield 264, 3) := by decide +kernel
theorem dX7_askInto_109 : decode cX7_askInto 109 = .ok (.iload_n 1, 1) := by decide +kernel
theorem dX7_askInto_110 : decode cX7_askInto 110 = .ok (.iaload, 1) := by decide +kernel
theorem dX7_askInto_111 : decode cX7_askInto 111 = .ok (.aload_n 0, 1) := by decide +kernel
theorem dX7_askInto_112 : decode cX7_askInto 112 = .ok (.getfield 18, 3) := by decide +kernel
theorem dX7_askInto_115 : decode cX7_askInto 115 = .ok (.getfield 270, 3) := by decide +kernel
theorem dX7_askInto_118 : decode cX7_askInto 118 = .ok (.iload_n 1, 1) := by decide +kernel
theorem dX7_askInto_119 : decode cX7_askInto 119 = .ok (.iaload, 1) := by decide +kernel
theorem dX7_askInto_120 : decode cX7_askInto 120 = .ok (.invokevirtual 271, 3) := by decide +kernel
theorem dX7_askInto_123 : decode cX7_askInto 123 = .ok (.lreturn, 1) := by decide +kernel
theorem dX7_askOutward_0 : decode cX7_askOutward 0 = .ok (.lload_n 3, 1) := by decide +kernel
theorem dX7_askOutward_1 : decode cX7_askOutward 1 = .ok (.lstore 5, 2) := by decide +kernel
theorem dX7_askOutward_3 : decode cX7_askOutward 3 = .ok (.aload_n 0, 1) := by decide +kernel
theorem dX7_askOutward_4 : decode cX7_askOutward 4 = .ok (.lload_n 1, 1) := by decide +kernel
theorem dX7_askOutward_5 : decode cX7_askOutward 5 = .ok (.invokevirtual 236, 3) := by decide +kernel
theorem dX7_askOutward_8 : decode cX7_askOutward 8 = .ok (.iconst 1, 1) := by decide +kernel
theorem dX7_askOutward_9 : decode cX7_askOutward 9 = .ok (.isub, 1) := by decide +kernel
theorem dX7_askOutward_10 : decode cX7_askOutward 10 = .ok (.istore 7, 2) := by decide +kernel
theorem dX7_askOutward_12 : decode cX7_askOutward 12 = .ok (.iload 7, 2) := by decide +kernel
theorem dX7_askOutward_14 : decode cX7_askOutward 14 = .ok (.ifCond .lt 104, 3) := by decide +kernel
theorem dX7_askOutward_17 : decode cX7_askOutward 17 = .ok (.aload_n 0, 1) := by decide +kernel
theorem dX7_askOutward_18 : decode cX7_askOutward 18 = .ok (.getfield 69, 3) := by decide +kernel
theorem dX7_askOutward_21 : decode cX7_askOutward 21 = .ok (.iload 7, 2) := by decide +kernel
theorem dX7_askOutward_23 : decode cX7_askOutward 23 = .ok (.iaload, 1) := by decide +kernel
theorem dX7_askOutward_24 : decode cX7_askOutward 24 = .ok (.istore 8, 2) := by decide +kernel
theorem dX7_askOutward_26 : decode cX7_askOutward 26 = .ok (.aload_n 0, 1) := by decide +kernel
theorem dX7_askOutward_27 : decode cX7_askOutward 27 = .ok (.getfield 22, 3) := by decide +kernel
theorem dX7_askOutward_30 : decode cX7_askOutward 30 = .ok (.getfield 249, 3) := by decide +kernel
theorem dX7_askOutward_33 : decode cX7_askOutward 33 = .ok (.aload_n 0, 1) := by decide +kernel
theorem dX7_askOutward_34 : decode cX7_askOutward 34 = .ok (.getfield 18, 3) := by decide +kernel
theorem dX7_askOutward_37 : decode cX7_askOutward 37 = .ok (.getfield 253, 3) := by decide +kernel
theorem dX7_askOutward_40 : decode cX7_askOutward 40 = .ok (.iload 8, 2) := by decide +kernel
theorem dX7_askOutward_42 : decode cX7_askOutward 42 = .ok (.iaload, 1) := by decide +kernel
theorem dX7_askOutward_43 : decode cX7_askOutward 43 = .ok (.invokevirtual 256, 3) := by decide +kernel
theorem dX7_askOutward_46 : decode cX7_askOutward 46 = .ok (.istore 9, 2) := by decide +kernel
theorem dX7_askOutward_48 : decode cX7_askOutward 48 = .ok (.aload_n 0, 1) := by decide +kernel
theorem dX7_askOutward_49 : decode cX7_askOutward 49 = .ok (.getfield 22, 3) := by decide +kernel
theorem dX7_askOutward_52 : decode cX7_askOutward 52 = .ok (.getfield 249, 3) := by decide +kernel
theorem dX7_askOutward_55 : decode cX7_askOutward 55 = .ok (.aload_n 0, 1) := by decide +kernel
theorem dX7_askOutward_56 : decode cX7_askOutward 56 = .ok (.getfield 18, 3) := by decide +kernel
theorem dX7_askOutward_59 : decode cX7_askOutward 59 = .ok (.getfield 261, 3) := by decide +kernel
theorem dX7_askOutward_62 : decode cX7_askOutward 62 = .ok (.iload 8, 2) := by decide +kernel
theorem dX7_askOutward_64 : decode cX7_askOutward 64 = .ok (.iaload, 1) := by decide +kernel
theorem dX7_askOutward_65 : decode cX7_askOutward 65 = .ok (.invokevirtual 256, 3) := by decide +kernel
theorem dX7_askOutward_68 : decode cX7_askOutward 68 = .ok (.istore 10, 2) := by decide +kernel
theorem dX7_askOutward_70 : decode cX7_askOutward 70 = .ok (.aload_n 0, 1) := by decide +kernel
theorem dX7_askOutward_71 : decode cX7_askOutward 71 = .ok (.lload 5, 2) := by decide +kernel
theorem dX7_askOutward_73 : decode cX7_askOutward 73 = .ok (.iload 9, 2) := by decide +kernel
theorem dX7_askOutward_75 : decode cX7_askOutward 75 = .ok (.iload 10, 2) := by decide +kernel
theorem dX7_askOutward_77 : decode cX7_askOutward 77 = .ok (.aload_n 0, 1) := by decide +kernel
theorem dX7_askOutward_78 : decode cX7_askOutward 78 = .ok (.getfield 18, 3) := by decide +kernel
theorem dX7_askOutward_81 : decode cX7_askOutward 81 = .ok (.getfield 264, 3) := by decide +kernel
theorem dX7_askOutward_84 : decode cX7_askOutward 84 = .ok (.iload 8, 2) := by decide +kernel
theorem dX7_askOutward_86 : decode cX7_askOutward 86 = .ok (.iaload, 1) := by decide +kernel
theorem dX7_askOutward_87 : decode cX7_askOutward 87 = .ok (.aload_n 0, 1) := by decide +kernel
theorem dX7_askOutward_88 : decode cX7_askOutward 88 = .ok (.getfield 18, 3) := by decide +kernel
theorem dX7_askOutward_91 : decode cX7_askOutward 91 = .ok (.getfield 267, 3) := by decide +kernel
theorem dX7_askOutward_94 : decode cX7_askOutward 94 = .ok (.iload 8, 2) := by decide +kernel
theorem dX7_askOutward_96 : decode cX7_askOutward 96 = .ok (.iaload, 1) := by decide +kernel
theorem dX7_askOutward_97 : decode cX7_askOutward 97 = .ok (.aload_n 0, 1) := by decide +kernel
theorem dX7_askOutward_98 : decode cX7_askOutward 98 = .ok (.getfield 18, 3) := by decide +kernel
theorem dX7_askOutward_101 : decode cX7_askOutward 101 = .ok (.getfield 270, 3) := by decide +kernel
theorem dX7_askOutward_104 : decode cX7_askOutward 104 = .ok (.iload 8, 2) := by decide +kernel
theorem dX7_askOutward_106 : decode cX7_askOutward 106 = .ok (.iaload, 1) := by decide +kernel
theorem dX7_askOutward_107 : decode cX7_askOutward 107 = .ok (.invokevirtual 271, 3) := by decide +kernel
theorem dX7_askOutward_110 : decode cX7_askOutward 110 = .ok (.lstore 5, 2) := by decide +kernel
theorem dX7_askOutward_112 : decode cX7_askOutward 112 = .ok (.iinc 7 (-1), 3) := by decide +kernel
theorem dX7_askOutward_115 : decode cX7_askOutward 115 = .ok (.goto (-103), 3) := by decide +kernel
theorem dX7_askOutward_118 : decode cX7_askOutward 118 = .ok (.lload 5, 2) := by decide +kernel
theorem dX7_askOutward_120 : decode cX7_askOutward 120 = .ok (.lreturn, 1) := by decide +kernel
theorem dX7_callWith_0 : decode cX7_callWith 0 = .ok (.aload_n 0, 1) := by decide +kernel
theorem dX7_callWith_1 : decode cX7_callWith 1 = .ok (.getfield 66, 3) := by decide +kernel
theorem dX7_callWith_4 : decode cX7_callWith 4 = .ok (.iconst 1, 1) := by decide +kernel
theorem dX7_callWith_5 : decode cX7_callWith 5 = .ok (.isub, 1) := by decide +kernel
theorem dX7_callWith_6 : decode cX7_callWith 6 = .ok (.iload_n 1, 1) := by decide +kernel
theorem dX7_callWith_7 : decode cX7_callWith 7 = .ok (.isub, 1) := by decide +kernel
theorem dX7_callWith_8 : decode cX7_callWith 8 = .ok (.istore_n 3, 1) := by decide +kernel
theorem dX7_callWith_9 : decode cX7_callWith 9 = .ok (.iload_n 3, 1) := by decide +kernel
theorem dX7_callWith_10 : decode cX7_callWith 10 = .ok (.ifCond .ge 9, 3) := by decide +kernel
theorem dX7_callWith_13 : decode cX7_callWith 13 = .ok (.aload_n 0, 1) := by decide +kernel
theorem dX7_callWith_14 : decode cX7_callWith 14 = .ok (.iconst 0, 1) := by decide +kernel
theorem dX7_callWith_15 : decode cX7_callWith 15 = .ok (.putfield 30, 3) := by decide +kernel
theorem dX7_callWith_18 : decode cX7_callWith 18 = .ok (.return_, 1) := by decide +kernel
theorem dX7_callWith_19 : decode cX7_callWith 19 = .ok (.aload_n 0, 1) := by decide +kernel
theorem dX7_callWith_20 : decode cX7_callWith 20 = .ok (.aload_n 0, 1) := by decide +kernel
theorem dX7_callWith_21 : decode cX7_callWith 21 = .ok (.getfield 63, 3) := by decide +kernel
theorem dX7_callWith_24 : decode cX7_callWith 24 = .ok (.iload_n 3, 1) := by decide +kernel
theorem dX7_callWith_25 : decode cX7_callWith 25 = .ok (.laload, 1) := by decide +kernel
theorem dX7_callWith_26 : decode cX7_callWith 26 = .ok (.invokevirtual 236, 3) := by decide +kernel
theorem dX7_callWith_29 : decode cX7_callWith 29 = .ok (.istore 4, 2) := by decide +kernel
theorem dX7_callWith_31 : decode cX7_callWith 31 = .ok (.iconst 0, 1) := by decide +kernel
theorem dX7_callWith_32 : decode cX7_callWith 32 = .ok (.istore 5, 2) := by decide +kernel
theorem dX7_callWith_34 : decode cX7_callWith 34 = .ok (.iload 5, 2) := by decide +kernel
theorem dX7_callWith_36 : decode cX7_callWith 36 = .ok (.iload 4, 2) := by decide +kernel
theorem dX7_callWith_38 : decode cX7_callWith 38 = .ok (.if_icmp .ge 59, 3) := by decide +kernel
theorem dX7_callWith_41 : decode cX7_callWith 41 = .ok (.iconst 0, 1) := by decide +kernel
theorem dX7_callWith_42 : decode cX7_callWith 42 = .ok (.istore 6, 2) := by decide +kernel
theorem dX7_callWith_44 : decode cX7_callWith 44 = .ok (.iload 6, 2) := by decide +kernel
theorem dX7_callWith_46 : decode cX7_callWith 46 = .ok (.iload_n 1, 1) := by decide +kernel
theorem dX7_callWith_47 : decode cX7_callWith 47 = .ok (.if_icmp .ge 44, 3) := by decide +kernel
theorem dX7_callWith_50 : decode cX7_callWith 50 = .ok (.aload_n 0, 1) := by decide +kernel
theorem dX7_callWith_51 : decode cX7_callWith 51 = .ok (.getfield 63, 3) := by decide +kernel
theorem dX7_callWith_54 : decode cX7_callWith 54 = .ok (.iload_n 3, 1) := by decide +kernel
theorem dX7_callWith_55 : decode cX7_callWith 55 = .ok (.iconst 1, 1) := by decide +kernel
theorem dX7_callWith_56 : decode cX7_callWith 56 = .ok (.iadd, 1) := by decide +kernel
theorem dX7_callWith_57 : decode cX7_callWith 57 = .ok (.iload 6, 2) := by decide +kernel
theorem dX7_callWith_59 : decode cX7_callWith 59 = .ok (.iadd, 1) := by decide +kernel
theorem dX7_callWith_60 : decode cX7_callWith 60 = .ok (.aload_n 0, 1) := by decide +kernel
theorem dX7_callWith_61 : decode cX7_callWith 61 = .ok (.aload_n 0, 1) := by decide +kernel
theorem dX7_callWith_62 : decode cX7_callWith 62 = .ok (.getfield 69, 3) := by decide +kernel
theorem dX7_callWith_65 : decode cX7_callWith 65 = .ok (.iload 5, 2) := by decide +kernel
theorem dX7_callWith_67 : decode cX7_callWith 67 = .ok (.iaload, 1) := by decide +kernel
theorem dX7_callWith_68 : decode cX7_callWith 68 = .ok (.iload 6, 2) := by decide +kernel
theorem dX7_callWith_70 : decode cX7_callWith 70 = .ok (.aload_n 0, 1) := by decide +kernel
theorem dX7_callWith_71 : decode cX7_callWith 71 = .ok (.getfield 63, 3) := by decide +kernel
theorem dX7_callWith_74 : decode cX7_callWith 74 = .ok (.iload_n 3, 1) := by decide +kernel
theorem dX7_callWith_75 : decode cX7_callWith 75 = .ok (.iconst 1, 1) := by decide +kernel
theorem dX7_callWith_76 : decode cX7_callWith 76 = .ok (.iadd, 1) := by decide +kernel
theorem dX7_callWith_77 : decode cX7_callWith 77 = .ok (.iload 6, 2) := by decide +kernel
theorem dX7_callWith_79 : decode cX7_callWith 79 = .ok (.iadd, 1) := by decide +kernel
theorem dX7_callWith_80 : decode cX7_callWith 80 = .ok (.laload, 1) := by decide +kernel
theorem dX7_callWith_81 : decode cX7_callWith 81 = .ok (.invokevirtual 239, 3) := by decide +kernel
theorem dX7_callWith_84 : decode cX7_callWith 84 = .ok (.lastore, 1) := by decide +kernel
theorem dX7_callWith_85 : decode cX7_callWith 85 = .ok (.iinc 6 1, 3) := by decide +kernel
theorem dX7_callWith_88 : decode cX7_callWith 88 = .ok (.goto (-44), 3) := by decide +kernel
theorem dX7_callWith_91 : decode cX7_callWith 91 = .ok (.iinc 5 1, 3) := by decide +kernel
theorem dX7_callWith_94 : decode cX7_callWith 94 = .ok (.goto (-60), 3) := by decide +kernel
theorem dX7_callWith_97 : decode cX7_callWith 97 = .ok (.aload_n 0, 1) := by decide +kernel
theorem dX7_callWith_98 : decode cX7_callWith 98 = .ok (.getfield 30, 3) := by decide +kernel
theorem dX7_callWith_101 : decode cX7_callWith 101 = .ok (.ifCond .eq 25, 3) := by decide +kernel
theorem dX7_callWith_104 : decode cX7_callWith 104 = .ok (.aload_n 0, 1) := by decide +kernel
theorem dX7_callWith_105 : decode cX7_callWith 105 = .ok (.aload_n 0, 1) := by decide +kernel
theorem dX7_callWith_106 : decode cX7_callWith 106 = .ok (.getfield 18, 3) := by decide +kernel
theorem dX7_callWith_109 : decode cX7_callWith 109 = .ok (.aload_n 0, 1) := by decide +kernel
theorem dX7_callWith_110 : decode cX7_callWith 110 = .ok (.getfield 63, 3) := by decide +kernel
theorem dX7_callWith_113 : decode cX7_callWith 113 = .ok (.iload_n 3, 1) := by decide +kernel
theorem dX7_callWith_114 : decode cX7_callWith 114 = .ok (.laload, 1) := by decide +kernel
theorem dX7_callWith_115 : decode cX7_callWith 115 = .ok (.invokevirtual 136, 3) := by decide +kernel
theorem dX7_callWith_118 : decode cX7_callWith 118 = .ok (.invokestatic 159, 3) := by decide +kernel
theorem dX7_callWith_121 : decode cX7_callWith 121 = .ok (.iload_n 1, 1) := by decide +kernel
theorem dX7_callWith_122 : decode cX7_callWith 122 = .ok (.iload_n 2, 1) := by decide +kernel
theorem dX7_callWith_123 : decode cX7_callWith 123 = .ok (.invokevirtual 103, 3) := by decide +kernel
theorem dX7_callWith_126 : decode cX7_callWith 126 = .ok (.return_, 1) := by decide +kernel
theorem dX7_fetch_0 : decode cX7_fetch 0 = .ok (.aload_n 0, 1) := by decide +kernel
theorem dX7_fetch_1 : decode cX7_fetch 1 = .ok (.invokevirtual 180, 3) := by decide +kernel
theorem dX7_fetch_4 : decode cX7_fetch 4 = .ok (.istore_n 2, 1) := by decide +kernel
theorem dX7_fetch_5 : decode cX7_fetch 5 = .ok (.aload_n 0, 1) := by decide +kernel
theorem dX7_fetch_6 : decode cX7_fetch 6 = .ok (.invokevirtual 162, 3) := by decide +kernel
theorem dX7_fetch_9 : decode cX7_fetch 9 = .ok (.lstore_n 3, 1) := by decide +kernel
theorem dX7_fetch_10 : decode cX7_fetch 10 = .ok (.aload_n 0, 1) := by decide +kernel
theorem dX7_fetch_11 : decode cX7_fetch 11 = .ok (.getfield 18, 3) := by decide +kernel
theorem dX7_fetch_14 : decode cX7_fetch 14 = .ok (.lload_n 3, 1) := by decide +kernel
theorem dX7_fetch_15 : decode cX7_fetch 15 = .ok (.invokevirtual 136, 3) := by decide +kernel
theorem dX7_fetch_18 : decode cX7_fetch 18 = .ok (.lstore 5, 2) := by decide +kernel
theorem dX7_fetch_20 : decode cX7_fetch 20 = .ok (.aload_n 0, 1) := by decide +kernel
theorem dX7_fetch_21 : decode cX7_fetch 21 = .ok (.getfield 18, 3) := by decide +kernel
theorem dX7_fetch_24 : decode cX7_fetch 24 = .ok (.lload 5, 2) := by decide +kernel
theorem dX7_fetch_26 : decode cX7_fetch 26 = .ok (.iload_n 2, 1) := by decide +kernel
theorem dX7_fetch_27 : decode cX7_fetch 27 = .ok (.invokevirtual 225, 3) := by decide +kernel
theorem dX7_fetch_30 : decode cX7_fetch 30 = .ok (.ifCond .ne 10, 3) := by decide +kernel
theorem dX7_fetch_33 : decode cX7_fetch 33 = .ok (.aload_n 0, 1) := by decide +kernel
theorem dX7_fetch_34 : decode cX7_fetch 34 = .ok (.iconst 1, 1) := by decide +kernel
theorem dX7_fetch_35 : decode cX7_fetch 35 = .ok (.iload_n 1, 1) := by decide +kernel
theorem dX7_fetch_36 : decode cX7_fetch 36 = .ok (.invokevirtual 184, 3) := by decide +kernel
theorem dX7_fetch_39 : decode cX7_fetch 39 = .ok (.return_, 1) := by decide +kernel
theorem dX7_fetch_40 : decode cX7_fetch 40 = .ok (.aload_n 0, 1) := by decide +kernel
theorem dX7_fetch_41 : decode cX7_fetch 41 = .ok (.getfield 18, 3) := by decide +kernel
theorem dX7_fetch_44 : decode cX7_fetch 44 = .ok (.lload 5, 2) := by decide +kernel
theorem dX7_fetch_46 : decode cX7_fetch 46 = .ok (.iload_n 2, 1) := by decide +kernel
theorem dX7_fetch_47 : decode cX7_fetch 47 = .ok (.invokevirtual 229, 3) := by decide +kernel
theorem dX7_fetch_50 : decode cX7_fetch 50 = .ok (.lstore 7, 2) := by decide +kernel
theorem dX7_fetch_52 : decode cX7_fetch 52 = .ok (.aload_n 0, 1) := by decide +kernel
theorem dX7_fetch_53 : decode cX7_fetch 53 = .ok (.aload_n 0, 1) := by decide +kernel
theorem dX7_fetch_54 : decode cX7_fetch 54 = .ok (.lload_n 3, 1) := by decide +kernel
theorem dX7_fetch_55 : decode cX7_fetch 55 = .ok (.lload 7, 2) := by decide +kernel
theorem dX7_fetch_57 : decode cX7_fetch 57 = .ok (.invokevirtual 232, 3) := by decide +kernel
theorem dX7_fetch_60 : decode cX7_fetch 60 = .ok (.invokevirtual 99, 3) := by decide +kernel
theorem dX7_fetch_63 : decode cX7_fetch 63 = .ok (.return_, 1) := by decide +kernel
theorem dX7_leavePart_0 : decode cX7_leavePart 0 = .ok (.aload_n 0, 1) := by decide +kernel
theorem dX7_leavePart_1 : decode cX7_leavePart 1 = .ok (.invokevirtual 162, 3) := by decide +kernel
theorem dX7_leavePart_4 : decode cX7_leavePart 4 = .ok (.lstore_n 1, 1) := by decide +kernel
theorem dX7_leavePart_5 : decode cX7_leavePart 5 = .ok (.aload_n 0, 1) := by decide +kernel
theorem dX7_leavePart_6 : decode cX7_leavePart 6 = .ok (.invokevirtual 162, 3) := by decide +kernel
theorem dX7_leavePart_9 : decode cX7_leavePart 9 = .ok (.lstore_n 3, 1) := by decide +kernel
theorem dX7_leavePart_10 : decode cX7_leavePart 10 = .ok (.aload_n 0, 1) := by decide +kernel
theorem dX7_leavePart_11 : decode cX7_leavePart 11 = .ok (.aload_n 0, 1) := by decide +kernel
theorem dX7_leavePart_12 : decode cX7_leavePart 12 = .ok (.lload_n 3, 1) := by decide +kernel
theorem dX7_leavePart_13 : decode cX7_leavePart 13 = .ok (.lload_n 1, 1) := by decide +kernel
theorem dX7_leavePart_14 : decode cX7_leavePart 14 = .ok (.invokevirtual 232, 3) := by decide +kernel
theorem dX7_leavePart_17 : decode cX7_leavePart 17 = .ok (.invokevirtual 99, 3) := by decide +kernel
theorem dX7_leavePart_20 : decode cX7_leavePart 20 = .ok (.aload_n 0, 1) := by decide +kernel
theorem dX7_leavePart_21 : decode cX7_leavePart 21 = .ok (.iconst 0, 1) := by decide +kernel
theorem dX7_leavePart_22 : decode cX7_leavePart 22 = .ok (.aload_n 0, 1) := by decide +kernel
theorem dX7_leavePart_23 : decode cX7_leavePart 23 = .ok (.getfield 52, 3) := by decide +kernel
theorem dX7_leavePart_26 : decode cX7_leavePart 26 = .ok (.iconst 1, 1) := by decide +kernel
theorem dX7_leavePart_27 : decode cX7_leavePart 27 = .ok (.isub, 1) := by decide +kernel
theorem dX7_leavePart_28 : decode cX7_leavePart 28 = .ok (.invokestatic 193, 3) := by decide +kernel
theorem dX7_leavePart_31 : decode cX7_leavePart 31 = .ok (.putfield 52, 3) := by decide +kernel
theorem dX7_leavePart_34 : decode cX7_leavePart 34 = .ok (.aload_n 0, 1) := by decide +kernel
theorem dX7_leavePart_35 : decode cX7_leavePart 35 = .ok (.aload_n 0, 1) := by decide +kernel
theorem dX7_leavePart_36 : decode cX7_leavePart 36 = .ok (.getfield 55, 3) := by decide +kernel
theorem dX7_leavePart_39 : decode cX7_leavePart 39 = .ok (.aload_n 0, 1) := by decide +kernel
theorem dX7_leavePart_40 : decode cX7_leavePart 40 = .ok (.getfield 52, 3) := by decide +kernel
theorem dX7_leavePart_43 : decode cX7_leavePart 43 = .ok (.iaload, 1) := by decide +kernel
theorem dX7_leavePart_44 : decode cX7_leavePart 44 = .ok (.putfield 49, 3) := by decide +kernel
theorem dX7_leavePart_47 : decode cX7_leavePart 47 = .ok (.aload_n 0, 1) := by decide +kernel
theorem dX7_leavePart_48 : decode cX7_leavePart 48 = .ok (.getfield 52, 3) := by decide +kernel
theorem dX7_leavePart_51 : decode cX7_leavePart 51 = .ok (.ifCond .ne 8, 3) := by decide +kernel
theorem dX7_leavePart_54 : decode cX7_leavePart 54 = .ok (.aload_n 0, 1) := by decide +kernel
theorem dX7_leavePart_55 : decode cX7_leavePart 55 = .ok (.iconst 0, 1) := by decide +kernel
theorem dX7_leavePart_56 : decode cX7_leavePart 56 = .ok (.putfield 30, 3) := by decide +kernel
theorem dX7_leavePart_59 : decode cX7_leavePart 59 = .ok (.return_, 1) := by decide +kernel
theorem dX7_makeNew_0 : decode cX7_makeNew 0 = .ok (.aload_n 0, 1) := by decide +kernel
theorem dX7_makeNew_1 : decode cX7_makeNew 1 = .ok (.invokevirtual 162, 3) := by decide +kernel
theorem dX7_makeNew_4 : decode cX7_makeNew 4 = .ok (.lstore_n 2, 1) := by decide +kernel
theorem dX7_makeNew_5 : decode cX7_makeNew 5 = .ok (.aload_n 0, 1) := by decide +kernel
theorem dX7_makeNew_6 : decode cX7_makeNew 6 = .ok (.invokevirtual 180, 3) := by decide +kernel
theorem dX7_makeNew_9 : decode cX7_makeNew 9 = .ok (.istore 4, 2) := by decide +kernel
theorem dX7_makeNew_11 : decode cX7_makeNew 11 = .ok (.iload 4, 2) := by decide +kernel
theorem dX7_makeNew_13 : decode cX7_makeNew 13 = .ok (.ifCond .lt 11, 3) := by decide +kernel
theorem dX7_makeNew_16 : decode cX7_makeNew 16 = .ok (.iload 4, 2) := by decide +kernel
theorem dX7_makeNew_18 : decode cX7_makeNew 18 = .ok (.sipush 1000, 3) := by decide +kernel
theorem dX7_makeNew_21 : decode cX7_makeNew 21 = .ok (.if_icmp .le 12, 3) := by decide +kernel
theorem dX7_makeNew_24 : decode cX7_makeNew 24 = .ok (.aload_n 0, 1) := by decide +kernel
theorem dX7_makeNew_25 : decode cX7_makeNew 25 = .ok (.iconst 1, 1) := by decide +kernel
theorem dX7_makeNew_26 : decode cX7_makeNew 26 = .ok (.iload_n 1, 1) := by decide +kernel
theorem dX7_makeNew_27 : decode cX7_makeNew 27 = .ok (.invokevirtual 184, 3) := by decide +kernel
theorem dX7_makeNew_30 : decode cX7_makeNew 30 = .ok (.goto 39, 3) := by decide +kernel
theorem dX7_makeNew_33 : decode cX7_makeNew 33 = .ok (.aload_n 0, 1) := by decide +kernel
theorem dX7_makeNew_34 : decode cX7_makeNew 34 = .ok (.getfield 18, 3) := by decide +kernel
theorem dX7_makeNew_37 : decode cX7_makeNew 37 = .ok (.iload 4, 2) := by decide +kernel
theorem dX7_makeNew_39 : decode cX7_makeNew 39 = .ok (.invokevirtual 214, 3) := by decide +kernel
theorem dX7_makeNew_42 : decode cX7_makeNew 42 = .ok (.ifCond .ne 13, 3) := by decide +kernel
theorem dX7_makeNew_45 : decode cX7_makeNew 45 = .ok (.aload_n 0, 1) := by decide +kernel
theorem dX7_makeNew_46 : decode cX7_makeNew 46 = .ok (.bipush 6, 2) := by decide +kernel
theorem dX7_makeNew_48 : decode cX7_makeNew 48 = .ok (.iload_n 1, 1) := by decide +kernel
theorem dX7_makeNew_49 : decode cX7_makeNew 49 = .ok (.invokevirtual 184, 3) := by decide +kernel
theorem dX7_makeNew_52 : decode cX7_makeNew 52 = .ok (.goto 17, 3) := by decide +kernel
theorem dX7_makeNew_55 : decode cX7_makeNew 55 = .ok (.aload_n 0, 1) := by decide +kernel
theorem dX7_makeNew_56 : decode cX7_makeNew 56 = .ok (.aload_n 0, 1) := by decide +kernel
theorem dX7_makeNew_57 : decode cX7_makeNew 57 = .ok (.getfield 18, 3) := by decide +kernel
theorem dX7_makeNew_60 : decode cX7_makeNew 60 = .ok (.iload 4, 2) := by decide +kernel
theorem dX7_makeNew_62 : decode cX7_makeNew 62 = .ok (.lload_n 2, 1) := by decide +kernel
theorem dX7_makeNew_63 : decode cX7_makeNew 63 = .ok (.invokevirtual 218, 3) := by decide +kernel
theorem dX7_makeNew_66 : decode cX7_makeNew 66 = .ok (.invokevirtual 99, 3) := by decide +kernel
theorem dX7_makeNew_69 : decode cX7_makeNew 69 = .ok (.return_, 1) := by decide +kernel
theorem dX7_makeRow_0 : decode cX7_makeRow 0 = .ok (.aload_n 0, 1) := by decide +kernel
theorem dX7_makeRow_1 : decode cX7_makeRow 1 = .ok (.getfield 18, 3) := by decide +kernel
theorem dX7_makeRow_4 : decode cX7_makeRow 4 = .ok (.iload_n 1, 1) := by decide +kernel
theorem dX7_makeRow_5 : decode cX7_makeRow 5 = .ok (.invokevirtual 214, 3) := by decide +kernel
theorem dX7_makeRow_8 : decode cX7_makeRow 8 = .ok (.ifCond .ne 11, 3) := by decide +kernel
theorem dX7_makeRow_11 : decode cX7_makeRow 11 = .ok (.aload_n 0, 1) := by decide +kernel
theorem dX7_makeRow_12 : decode cX7_makeRow 12 = .ok (.bipush 6, 2) := by decide +kernel
theorem dX7_makeRow_14 : decode cX7_makeRow 14 = .ok (.iload_n 2, 1) := by decide +kernel
theorem dX7_makeRow_15 : decode cX7_makeRow 15 = .ok (.invokevirtual 184, 3) := by decide +kernel
theorem dX7_makeRow_18 : decode cX7_makeRow 18 = .ok (.return_, 1) := by decide +kernel
theorem dX7_makeRow_19 : decode cX7_makeRow 19 = .ok (.aload_n 0, 1) := by decide +kernel
theorem dX7_makeRow_20 : decode cX7_makeRow 20 = .ok (.getfield 18, 3) := by decide +kernel
theorem dX7_makeRow_23 : decode cX7_makeRow 23 = .ok (.iload_n 1, 1) := by decide +kernel
theorem dX7_makeRow_24 : decode cX7_makeRow 24 = .ok (.lconst 0, 1) := by decide +kernel
theorem dX7_makeRow_25 : decode cX7_makeRow 25 = .ok (.invokevirtual 218, 3) := by decide +kernel
theorem dX7_makeRow_28 : decode cX7_makeRow 28 = .ok (.lstore_n 3, 1) := by decide +kernel
theorem dX7_makeRow_29 : decode cX7_makeRow 29 = .ok (.iload_n 1, 1) := by decide +kernel
theorem dX7_makeRow_30 : decode cX7_makeRow 30 = .ok (.iconst 1, 1) := by decide +kernel
theorem dX7_makeRow_31 : decode cX7_makeRow 31 = .ok (.isub, 1) := by decide +kernel
theorem dX7_makeRow_32 : decode cX7_makeRow 32 = .ok (.istore 5, 2) := by decide +kernel
theorem dX7_makeRow_34 : decode cX7_makeRow 34 = .ok (.iload 5, 2) := by decide +kernel
theorem dX7_makeRow_36 : decode cX7_makeRow 36 = .ok (.ifCond .lt 23, 3) := by decide +kernel
theorem dX7_makeRow_39 : decode cX7_makeRow 39 = .ok (.aload_n 0, 1) := by decide +kernel
theorem dX7_makeRow_40 : decode cX7_makeRow 40 = .ok (.getfield 18, 3) := by decide +kernel
theorem dX7_makeRow_43 : decode cX7_makeRow 43 = .ok (.lload_n 3, 1) := by decide +kernel
theorem dX7_makeRow_44 : decode cX7_makeRow 44 = .ok (.iload 5, 2) := by decide +kernel
theorem dX7_makeRow_46 : decode cX7_makeRow 46 = .ok (.aload_n 0, 1) := by decide +kernel
theorem dX7_makeRow_47 : decode cX7_makeRow 47 = .ok (.invokevirtual 162, 3) := by decide +kernel
theorem dX7_makeRow_50 : decode cX7_makeRow 50 = .ok (.invokevirtual 222, 3) := by decide +kernel
theorem dX7_makeRow_53 : decode cX7_makeRow 53 = .ok (.iinc 5 (-1), 3) := by decide +kernel
theorem dX7_makeRow_56 : decode cX7_makeRow 56 = .ok (.goto (-22), 3) := by decide +kernel
theorem dX7_makeRow_59 : decode cX7_makeRow 59 = .ok (.aload_n 0, 1) := by decide +kernel
theorem dX7_makeRow_60 : decode cX7_makeRow 60 = .ok (.lload_n 3, 1) := by decide +kernel
theorem dX7_makeRow_61 : decode cX7_makeRow 61 = .ok (.invokevirtual 99, 3) := by decide +kernel
theorem dX7_makeRow_64 : decode cX7_makeRow 64 = .ok (.return_, 1) := by decide +kernel
theorem dX7_makeSteps_0 : decode cX7_makeSteps 0 = .ok (.iload_n 1, 1) := by decide +kernel
theorem dX7_makeSteps_1 : decode cX7_makeSteps 1 = .ok (.aload_n 0, 1) := by decide +kernel
theorem dX7_makeSteps_2 : decode cX7_makeSteps 2 = .ok (.getfield 43, 3) := by decide +kernel
theorem dX7_makeSteps_5 : decode cX7_makeSteps 5 = .ok (.aload_n 0, 1) := by decide +kernel
theorem dX7_makeSteps_6 : decode cX7_makeSteps 6 = .ok (.getfield 46, 3) := by decide +kernel
theorem dX7_makeSteps_9 : decode cX7_makeSteps 9 = .ok (.isub, 1) := by decide +kernel
theorem dX7_makeSteps_10 : decode cX7_makeSteps 10 = .ok (.if_icmp .le 21, 3) := by decide +kernel
theorem dX7_makeSteps_13 : decode cX7_makeSteps 13 = .ok (.aload_n 0, 1) := by decide +kernel
theorem dX7_makeSteps_14 : decode cX7_makeSteps 14 = .ok (.aload_n 0, 1) := by decide +kernel
theorem dX7_makeSteps_15 : decode cX7_makeSteps 15 = .ok (.getfield 43, 3) := by decide +kernel
theorem dX7_makeSteps_18 : decode cX7_makeSteps 18 = .ok (.putfield 46, 3) := by decide +kernel
theorem dX7_makeSteps_21 : decode cX7_makeSteps 21 = .ok (.aload_n 0, 1) := by decide +kernel
theorem dX7_makeSteps_22 : decode cX7_makeSteps 22 = .ok (.bipush 7, 2) := by decide +kernel
theorem dX7_makeSteps_24 : decode cX7_makeSteps 24 = .ok (.iload_n 2, 1) := by decide +kernel
theorem dX7_makeSteps_25 : decode cX7_makeSteps 25 = .ok (.invokevirtual 184, 3) := by decide +kernel
theorem dX7_makeSteps_28 : decode cX7_makeSteps 28 = .ok (.goto 13, 3) := by decide +kernel
theorem dX7_makeSteps_31 : decode cX7_makeSteps 31 = .ok (.aload_n 0, 1) := by decide +kernel
theorem dX7_makeSteps_32 : decode cX7_makeSteps 32 = .ok (.dup, 1) := by decide +kernel
theorem dX7_makeSteps_33 : decode cX7_makeSteps 33 = .ok (.getfield 46, 3) := by decide +kernel
theorem dX7_makeSteps_36 : decode cX7_makeSteps 36 = .ok (.iload_n 1, 1) := by decide +kernel
theorem dX7_makeSteps_37 : decode cX7_makeSteps 37 = .ok (.iadd, 1) := by decide +kernel
theorem dX7_makeSteps_38 : decode cX7_makeSteps 38 = .ok (.putfield 46, 3) := by decide +kernel
theorem dX7_makeSteps_41 : decode cX7_makeSteps 41 = .ok (.return_, 1) := by decide +kernel
theorem dX7_print_0 : decode cX7_print 0 = .ok (.aload_n 0, 1) := by decide +kernel
theorem dX7_print_1 : decode cX7_print 1 = .ok (.getfield 75, 3) := by decide +kernel
theorem dX7_print_4 : decode cX7_print 4 = .ok (.sipush 200, 3) := by decide +kernel
theorem dX7_print_7 : decode cX7_print 7 = .ok (.if_icmp .lt 11, 3) := by decide +kernel
theorem dX7_print_10 : decode cX7_print 10 = .ok (.aload_n 0, 1) := by decide +kernel
theorem dX7_print_11 : decode cX7_print 11 = .ok (.bipush 6, 2) := by decide +kernel
theorem dX7_print_13 : decode cX7_print 13 = .ok (.iload_n 1, 1) := by decide +kernel
theorem dX7_print_14 : decode cX7_print 14 = .ok (.invokevirtual 184, 3) := by decide +kernel
theorem dX7_print_17 : decode cX7_print 17 = .ok (.return_, 1) := by decide +kernel
theorem dX7_print_18 : decode cX7_print 18 = .ok (.aload_n 0, 1) := by decide +kernel
theorem dX7_print_19 : decode cX7_print 19 = .ok (.getfield 72, 3) := by decide +kernel
theorem dX7_print_22 : decode cX7_print 22 = .ok (.aload_n 0, 1) := by decide +kernel
theorem dX7_print_23 : decode cX7_print 23 = .ok (.getfield 75, 3) := by decide +kernel
theorem dX7_print_26 : decode cX7_print 26 = .ok (.aload_n 0, 1) := by decide +kernel
theorem dX7_print_27 : decode cX7_print 27 = .ok (.invokevirtual 180, 3) := by decide +kernel
theorem dX7_print_30 : decode cX7_print 30 = .ok (.iastore, 1) := by decide +kernel
theorem dX7_print_31 : decode cX7_print 31 = .ok (.aload_n 0, 1) := by decide +kernel
theorem dX7_print_32 : decode cX7_print 32 = .ok (.aload_n 0, 1) := by decide +kernel
theorem dX7_print_33 : decode cX7_print 33 = .ok (.getfield 72, 3) := by decide +kernel
theorem dX7_print_36 : decode cX7_print 36 = .ok (.aload_n 0, 1) := by decide +kernel
theorem dX7_print_37 : decode cX7_print 37 = .ok (.getfield 75, 3) := by decide +kernel
theorem dX7_print_40 : decode cX7_print 40 = .ok (.iaload, 1) := by decide +kernel
theorem dX7_print_41 : decode cX7_print 41 = .ok (.invokevirtual 169, 3) := by decide +kernel
theorem dX7_print_44 : decode cX7_print 44 = .ok (.aload_n 0, 1) := by decide +kernel
theorem dX7_print_45 : decode cX7_print 45 = .ok (.dup, 1) := by decide +kernel
theorem dX7_print_46 : decode cX7_print 46 = .ok (.getfield 75, 3) := by decide +kernel
theorem dX7_print_49 : decode cX7_print 49 = .ok (.iconst 1, 1) := by decide +kernel
theorem dX7_print_50 : decode cX7_print 50 = .ok (.iadd, 1) := by decide +kernel
theorem dX7_print_51 : decode cX7_print 51 = .ok (.putfield 75, 3) := by decide +kernel
theorem dX7_print_54 : decode cX7_print 54 = .ok (.return_, 1) := by decide +kernel
theorem dX7_resultOf_0 : decode cX7_resultOf 0 = .ok (.iload_n 0, 1) := by decide +kernel
theorem dX7_resultOf_1 : decode cX7_resultOf 1 = .ok (.tableswitch 55 22 25 #[31, 35, 39, 43], 31) := by decide +kernel
theorem dX7_resultOf_32 : decode cX7_resultOf 32 = .ok (.iload_n 1, 1) := by decide +kernel
theorem dX7_resultOf_33 : decode cX7_resultOf 33 = .ok (.iload_n 2, 1) := by decide +kernel
theorem dX7_resultOf_34 : decode cX7_resultOf 34 = .ok (.iadd, 1) := by decide +kernel
theorem dX7_resultOf_35 : decode cX7_resultOf 35 = .ok (.ireturn, 1) := by decide +kernel
theorem dX7_resultOf_36 : decode cX7_resultOf 36 = .ok (.iload_n 1, 1) := by decide +kernel
theorem dX7_resultOf_37 : decode cX7_resultOf 37 = .ok (.iload_n 2, 1) := by decide +kernel
theorem dX7_resultOf_38 : decode cX7_resultOf 38 = .ok (.isub, 1) := by decide +kernel
theorem dX7_resultOf_39 : decode cX7_resultOf 39 = .ok (.ireturn, 1) := by decide +kernel
theorem dX7_resultOf_40 : decode cX7_resultOf 40 = .ok (.iload_n 1, 1) := by decide +kernel
theorem dX7_resultOf_41 : decode cX7_resultOf 41 = .ok (.iload_n 2, 1) := by decide +kernel
theorem dX7_resultOf_42 : decode cX7_resultOf 42 = .ok (.imul, 1) := by decide +kernel
theorem dX7_resultOf_43 : decode cX7_resultOf 43 = .ok (.ireturn, 1) := by decide +kernel
theorem dX7_resultOf_44 : decode cX7_resultOf 44 = .ok (.iload_n 2, 1) := by decide +kernel
theorem dX7_resultOf_45 : decode cX7_resultOf 45 = .ok (.ifCond .ne 7, 3) := by decide +kernel
theorem dX7_resultOf_48 : decode cX7_resultOf 48 = .ok (.iconst 0, 1) := by decide +kernel
theorem dX7_resultOf_49 : decode cX7_resultOf 49 = .ok (.goto 6, 3) := by decide +kernel
theorem dX7_resultOf_52 : decode cX7_resultOf 52 = .ok (.iload_n 1, 1) := by decide +kernel
theorem dX7_resultOf_53 : decode cX7_resultOf 53 = .ok (.iload_n 2, 1) := by decide +kernel
theorem dX7_resultOf_54 : decode cX7_resultOf 54 = .ok (.idiv, 1) := by decide +kernel
theorem dX7_resultOf_55 : decode cX7_resultOf 55 = .ok (.ireturn, 1) := by decide +kernel
theorem dX7_resultOf_56 : decode cX7_resultOf 56 = .ok (.iload_n 2, 1) := by decide +kernel
theorem dX7_resultOf_57 : decode cX7_resultOf 57 = .ok (.ifCond .ne 7, 3) := by decide +kernel
theorem dX7_resultOf_60 : decode cX7_resultOf 60 = .ok (.iconst 0, 1) := by decide +kernel
theorem dX7_resultOf_61 : decode cX7_resultOf 61 = .ok (.goto 6, 3) := by decide +kernel
theorem dX7_resultOf_64 : decode cX7_resultOf 64 = .ok (.iload_n 1, 1) := by decide +kernel
theorem dX7_resultOf_65 : decode cX7_resultOf 65 = .ok (.iload_n 2, 1) := by decide +kernel
theorem dX7_resultOf_66 : decode cX7_resultOf 66 = .ok (.irem, 1) := by decide +kernel
theorem dX7_resultOf_67 : decode cX7_resultOf 67 = .ok (.ireturn, 1) := by decide +kernel
theorem dX7_runAll_0 : decode cX7_runAll 0 = .ok (.aload_n 1, 1) := by decide +kernel
theorem dX7_runAll_1 : decode cX7_runAll 1 = .ok (.ifnull 7, 3) := by decide +kernel
theorem dX7_runAll_4 : decode cX7_runAll 4 = .ok (.aload_n 2, 1) := by decide +kernel
theorem dX7_runAll_5 : decode cX7_runAll 5 = .ok (.ifnonnull 5, 3) := by decide +kernel
theorem dX7_runAll_10 : decode cX7_runAll 10 = .ok (.aload_n 0, 1) := by decide +kernel
theorem dX7_runAll_11 : decode cX7_runAll 11 = .ok (.aload_n 1, 1) := by decide +kernel
theorem dX7_runAll_12 : decode cX7_runAll 12 = .ok (.putfield 22, 3) := by decide +kernel
theorem dX7_runAll_15 : decode cX7_runAll 15 = .ok (.aload_n 0, 1) := by decide +kernel
theorem dX7_runAll_16 : decode cX7_runAll 16 = .ok (.aload_n 2, 1) := by decide +kernel
theorem dX7_runAll_17 : decode cX7_runAll 17 = .ok (.putfield 9, 3) := by decide +kernel
theorem dX7_runAll_20 : decode cX7_runAll 20 = .ok (.aload_n 0, 1) := by decide +kernel
theorem dX7_runAll_21 : decode cX7_runAll 21 = .ok (.iload_n 3, 1) := by decide +kernel
theorem dX7_runAll_22 : decode cX7_runAll 22 = .ok (.putfield 26, 3) := by decide +kernel
theorem dX7_runAll_25 : decode cX7_runAll 25 = .ok (.aload_n 0, 1) := by decide +kernel
theorem dX7_runAll_26 : decode cX7_runAll 26 = .ok (.iload 4, 2) := by decide +kernel
theorem dX7_runAll_28 : decode cX7_runAll 28 = .ok (.putfield 43, 3) := by decide +kernel
theorem dX7_runAll_31 : decode cX7_runAll 31 = .ok (.aload_n 0, 1) := by decide +kernel
theorem dX7_runAll_32 : decode cX7_runAll 32 = .ok (.getfield 18, 3) := by decide +kernel
theorem dX7_runAll_35 : decode cX7_runAll 35 = .ok (.invokevirtual 81, 3) := by decide +kernel
theorem dX7_runAll_38 : decode cX7_runAll 38 = .ok (.aload_n 0, 1) := by decide +kernel
theorem dX7_runAll_39 : decode cX7_runAll 39 = .ok (.getfield 78, 3) := by decide +kernel
theorem dX7_runAll_42 : decode cX7_runAll 42 = .ok (.iconst 0, 1) := by decide +kernel
theorem dX7_runAll_43 : decode cX7_runAll 43 = .ok (.invokestatic 84, 3) := by decide +kernel
theorem dX7_runAll_46 : decode cX7_runAll 46 = .ok (.aload_n 0, 1) := by decide +kernel
theorem dX7_runAll_47 : decode cX7_runAll 47 = .ok (.iconst 0, 1) := by decide +kernel
theorem dX7_runAll_48 : decode cX7_runAll 48 = .ok (.putfield 33, 3) := by decide +kernel
theorem dX7_runAll_51 : decode cX7_runAll 51 = .ok (.aload_n 0, 1) := by decide +kernel
theorem dX7_runAll_52 : decode cX7_runAll 52 = .ok (.iconst (-1), 1) := by decide +kernel
theorem dX7_runAll_53 : decode cX7_runAll 53 = .ok (.putfield 37, 3) := by decide +kernel
theorem dX7_runAll_56 : decode cX7_runAll 56 = .ok (.aload_n 0, 1) := by decide +kernel
theorem dX7_runAll_57 : decode cX7_runAll 57 = .ok (.iconst (-1), 1) := by decide +kernel
theorem dX7_runAll_58 : decode cX7_runAll 58 = .ok (.putfield 40, 3) := by decide +kernel
theorem dX7_runAll_61 : decode cX7_runAll 61 = .ok (.aload_n 0, 1) := by decide +kernel
theorem dX7_runAll_62 : decode cX7_runAll 62 = .ok (.iconst 0, 1) := by decide +kernel
theorem dX7_runAll_63 : decode cX7_runAll 63 = .ok (.putfield 46, 3) := by decide +kernel
theorem dX7_runAll_66 : decode cX7_runAll 66 = .ok (.aload_n 0, 1) := by decide +kernel
theorem dX7_runAll_67 : decode cX7_runAll 67 = .ok (.iconst 0, 1) := by decide +kernel
theorem dX7_runAll_68 : decode cX7_runAll 68 = .ok (.putfield 52, 3) := by decide +kernel
theorem dX7_runAll_71 : decode cX7_runAll 71 = .ok (.aload_n 0, 1) := by decide +kernel
theorem dX7_runAll_72 : decode cX7_runAll 72 = .ok (.iconst 0, 1) := by decide +kernel
theorem dX7_runAll_73 : decode cX7_runAll 73 = .ok (.putfield 66, 3) := by decide +kernel
theorem dX7_runAll_76 : decode cX7_runAll 76 = .ok (.aload_n 0, 1) := by decide +kernel
theorem dX7_runAll_77 : decode cX7_runAll 77 = .ok (.iconst 0, 1) := by decide +kernel
theorem dX7_runAll_78 : decode cX7_runAll 78 = .ok (.putfield 75, 3) := by decide +kernel
theorem dX7_runAll_81 : decode cX7_runAll 81 = .ok (.aload_n 0, 1) := by decide +kernel
theorem dX7_runAll_82 : decode cX7_runAll 82 = .ok (.iconst 0, 1) := by decide +kernel
theorem dX7_runAll_83 : decode cX7_runAll 83 = .ok (.putfield 49, 3) := by decide +kernel
theorem dX7_runAll_86 : decode cX7_runAll 86 = .ok (.aload_n 0, 1) := by decide +kernel
theorem dX7_runAll_87 : decode cX7_runAll 87 = .ok (.iconst 1, 1) := by decide +kernel
theorem dX7_runAll_88 : decode cX7_runAll 88 = .ok (.putfield 30, 3) := by decide +kernel
theorem dX7_runAll_91 : decode cX7_runAll 91 = .ok (.aload_n 0, 1) := by decide +kernel
theorem dX7_runAll_92 : decode cX7_runAll 92 = .ok (.iconst 4, 1) := by decide +kernel
theorem dX7_runAll_93 : decode cX7_runAll 93 = .ok (.aload_n 0, 1) := by decide +kernel
theorem dX7_runAll_94 : decode cX7_runAll 94 = .ok (.getfield 22, 3) := by decide +kernel
theorem dX7_runAll_97 : decode cX7_runAll 97 = .ok (.getfield 90, 3) := by decide +kernel
theorem dX7_runAll_100 : decode cX7_runAll 100 = .ok (.invokestatic 95, 3) := by decide +kernel
theorem dX7_runAll_103 : decode cX7_runAll 103 = .ok (.invokevirtual 99, 3) := by decide +kernel
theorem dX7_runAll_106 : decode cX7_runAll 106 = .ok (.aload_n 0, 1) := by decide +kernel
theorem dX7_runAll_107 : decode cX7_runAll 107 = .ok (.aload_n 0, 1) := by decide +kernel
theorem dX7_runAll_108 : decode cX7_runAll 108 = .ok (.getfield 22, 3) := by decide +kernel
theorem dX7_runAll_111 : decode cX7_runAll 111 = .ok (.getfield 90, 3) := by decide +kernel
theorem dX7_runAll_114 : decode cX7_runAll 114 = .ok (.iconst 0, 1) := by decide +kernel
theorem dX7_runAll_115 : decode cX7_runAll 115 = .ok (.iconst 0, 1) := by decide +kernel
theorem dX7_runAll_116 : decode cX7_runAll 116 = .ok (.invokevirtual 103, 3) := by decide +kernel
theorem dX7_runAll_119 : decode cX7_runAll 119 = .ok (.iconst 0, 1) := by decide +kernel
theorem dX7_runAll_120 : decode cX7_runAll 120 = .ok (.istore 5, 2) := by decide +kernel
theorem dX7_runAll_122 : decode cX7_runAll 122 = .ok (.iload 5, 2) := by decide +kernel
theorem dX7_runAll_124 : decode cX7_runAll 124 = .ok (.ldc 107, 2) := by decide +kernel
theorem dX7_runAll_126 : decode cX7_runAll 126 = .ok (.if_icmp .ge 169, 3) := by decide +kernel
theorem dX7_runAll_129 : decode cX7_runAll 129 = .ok (.aload_n 0, 1) := by decide +kernel
theorem dX7_runAll_130 : decode cX7_runAll 130 = .ok (.getfield 30, 3) := by decide +kernel
theorem dX7_runAll_133 : decode cX7_runAll 133 = .ok (.ifCond .eq 162, 3) := by decide +kernel
theorem dX7_runAll_136 : decode cX7_runAll 136 = .ok (.aload_n 0, 1) := by decide +kernel
theorem dX7_runAll_137 : decode cX7_runAll 137 = .ok (.getfield 49, 3) := by decide +kernel
theorem dX7_runAll_140 : decode cX7_runAll 140 = .ok (.ifCond .lt 155, 3) := by decide +kernel
theorem dX7_runAll_143 : decode cX7_runAll 143 = .ok (.aload_n 0, 1) := by decide +kernel
theorem dX7_runAll_144 : decode cX7_runAll 144 = .ok (.getfield 49, 3) := by decide +kernel
theorem dX7_runAll_147 : decode cX7_runAll 147 = .ok (.aload_n 0, 1) := by decide +kernel
theorem dX7_runAll_148 : decode cX7_runAll 148 = .ok (.getfield 22, 3) := by decide +kernel
theorem dX7_runAll_151 : decode cX7_runAll 151 = .ok (.getfield 108, 3) := by decide +kernel
theorem dX7_runAll_154 : decode cX7_runAll 154 = .ok (.if_icmp .ge 141, 3) := by decide +kernel
theorem dX7_runAll_157 : decode cX7_runAll 157 = .ok (.aload_n 0, 1) := by decide +kernel
theorem dX7_runAll_158 : decode cX7_runAll 158 = .ok (.getfield 49, 3) := by decide +kernel
theorem dX7_runAll_161 : decode cX7_runAll 161 = .ok (.istore 6, 2) := by decide +kernel
theorem dX7_runAll_163 : decode cX7_runAll 163 = .ok (.aload_n 0, 1) := by decide +kernel
theorem dX7_runAll_164 : decode cX7_runAll 164 = .ok (.dup, 1) := by decide +kernel
theorem dX7_runAll_165 : decode cX7_runAll 165 = .ok (.getfield 49, 3) := by decide +kernel
theorem dX7_runAll_168 : decode cX7_runAll 168 = .ok (.iconst 1, 1) := by decide +kernel
theorem dX7_runAll_169 : decode cX7_runAll 169 = .ok (.iadd, 1) := by decide +kernel
theorem dX7_runAll_170 : decode cX7_runAll 170 = .ok (.putfield 49, 3) := by decide +kernel
theorem dX7_runAll_173 : decode cX7_runAll 173 = .ok (.aload_n 0, 1) := by decide +kernel
theorem dX7_runAll_174 : decode cX7_runAll 174 = .ok (.getfield 22, 3) := by decide +kernel
theorem dX7_runAll_177 : decode cX7_runAll 177 = .ok (.getfield 111, 3) := by decide +kernel
theorem dX7_runAll_180 : decode cX7_runAll 180 = .ok (.iload 6, 2) := by decide +kernel
theorem dX7_runAll_182 : decode cX7_runAll 182 = .ok (.iaload, 1) := by decide +kernel
theorem dX7_runAll_183 : decode cX7_runAll 183 = .ok (.istore 7, 2) := by decide +kernel
theorem dX7_runAll_185 : decode cX7_runAll 185 = .ok (.iload 7, 2) := by decide +kernel
theorem dX7_runAll_187 : decode cX7_runAll 187 = .ok (.bipush 27, 2) := by decide +kernel
theorem dX7_runAll_189 : decode cX7_runAll 189 = .ok (.if_icmp .lt 12, 3) := by decide +kernel
theorem dX7_runAll_192 : decode cX7_runAll 192 = .ok (.aload_n 0, 1) := by decide +kernel
theorem dX7_runAll_193 : decode cX7_runAll 193 = .ok (.iload 6, 2) := by decide +kernel
theorem dX7_runAll_195 : decode cX7_runAll 195 = .ok (.invokevirtual 116, 3) := by decide +kernel
theorem dX7_runAll_198 : decode cX7_runAll 198 = .ok (.goto 91, 3) := by decide +kernel
theorem dX7_runAll_201 : decode cX7_runAll 201 = .ok (.iload 7, 2) := by decide +kernel
theorem dX7_runAll_203 : decode cX7_runAll 203 = .ok (.bipush 18, 2) := by decide +kernel
theorem dX7_runAll_205 : decode cX7_runAll 205 = .ok (.if_icmp .lt 22, 3) := by decide +kernel
theorem dX7_runAll_208 : decode cX7_runAll 208 = .ok (.aload_n 0, 1) := by decide +kernel
theorem dX7_runAll_209 : decode cX7_runAll 209 = .ok (.iload 7, 2) := by decide +kernel
theorem dX7_runAll_211 : decode cX7_runAll 211 = .ok (.aload_n 0, 1) := by decide +kernel
theorem dX7_runAll_212 : decode cX7_runAll 212 = .ok (.getfield 22, 3) := by decide +kernel
theorem dX7_runAll_215 : decode cX7_runAll 215 = .ok (.getfield 120, 3) := by decide +kernel
theorem dX7_runAll_218 : decode cX7_runAll 218 = .ok (.iload 6, 2) := by decide +kernel
theorem dX7_runAll_220 : decode cX7_runAll 220 = .ok (.iaload, 1) := by decide +kernel
theorem dX7_runAll_221 : decode cX7_runAll 221 = .ok (.invokevirtual 123, 3) := by decide +kernel
theorem dX7_runAll_224 : decode cX7_runAll 224 = .ok (.goto 65, 3) := by decide +kernel
theorem dX7_runAll_227 : decode cX7_runAll 227 = .ok (.iload 7, 2) := by decide +kernel
theorem dX7_runAll_229 : decode cX7_runAll 229 = .ok (.bipush 10, 2) := by decide +kernel
theorem dX7_runAll_231 : decode cX7_runAll 231 = .ok (.if_icmp .lt 32, 3) := by decide +kernel
theorem dX7_runAll_234 : decode cX7_runAll 234 = .ok (.aload_n 0, 1) := by decide +kernel
theorem dX7_runAll_235 : decode cX7_runAll 235 = .ok (.iload 7, 2) := by decide +kernel
theorem dX7_runAll_237 : decode cX7_runAll 237 = .ok (.aload_n 0, 1) := by decide +kernel
theorem dX7_runAll_238 : decode cX7_runAll 238 = .ok (.getfield 22, 3) := by decide +kernel
theorem dX7_runAll_241 : decode cX7_runAll 241 = .ok (.getfield 127, 3) := by decide +kernel
theorem dX7_runAll_244 : decode cX7_runAll 244 = .ok (.iload 6, 2) := by decide +kernel
theorem dX7_runAll_246 : decode cX7_runAll 246 = .ok (.iaload, 1) := by decide +kernel
theorem dX7_runAll_247 : decode cX7_runAll 247 = .ok (.aload_n 0, 1) := by decide +kernel
theorem dX7_runAll_248 : decode cX7_runAll 248 = .ok (.getfield 22, 3) := by decide +kernel
theorem dX7_runAll_251 : decode cX7_runAll 251 = .ok (.getfield 120, 3) := by decide +kernel
theorem dX7_runAll_254 : decode cX7_runAll 254 = .ok (.iload 6, 2) := by decide +kernel
theorem dX7_runAll_256 : decode cX7_runAll 256 = .ok (.iaload, 1) := by decide +kernel
theorem dX7_runAll_257 : decode cX7_runAll 257 = .ok (.invokevirtual 130, 3) := by decide +kernel
theorem dX7_runAll_260 : decode cX7_runAll 260 = .ok (.goto 29, 3) := by decide +kernel
theorem dX7_runAll_263 : decode cX7_runAll 263 = .ok (.aload_n 0, 1) := by decide +kernel
theorem dX7_runAll_264 : decode cX7_runAll 264 = .ok (.iload 7, 2) := by decide +kernel
theorem dX7_runAll_266 : decode cX7_runAll 266 = .ok (.aload_n 0, 1) := by decide +kernel
theorem dX7_runAll_267 : decode cX7_runAll 267 = .ok (.getfield 22, 3) := by decide +kernel
theorem dX7_runAll_270 : decode cX7_runAll 270 = .ok (.getfield 127, 3) := by decide +kernel
theorem dX7_runAll_273 : decode cX7_runAll 273 = .ok (.iload 6, 2) := by decide +kernel
theorem dX7_runAll_275 : decode cX7_runAll 275 = .ok (.iaload, 1) := by decide +kernel
theorem dX7_runAll_276 : decode cX7_runAll 276 = .ok (.aload_n 0, 1) := by decide +kernel
theorem dX7_runAll_277 : decode cX7_runAll 277 = .ok (.getfield 22, 3) := by decide +kernel
theorem dX7_runAll_280 : decode cX7_runAll 280 = .ok (.getfield 120, 3) := by decide +kernel
theorem dX7_runAll_283 : decode cX7_runAll 283 = .ok (.iload 6, 2) := by decide +kernel
theorem dX7_runAll_285 : decode cX7_runAll 285 = .ok (.iaload, 1) := by decide +kernel
theorem dX7_runAll_286 : decode cX7_runAll 286 = .ok (.invokevirtual 133, 3) := by decide +kernel
theorem dX7_runAll_289 : decode cX7_runAll 289 = .ok (.iinc 5 1, 3) := by decide +kernel
theorem dX7_runAll_292 : decode cX7_runAll 292 = .ok (.goto (-170), 3) := by decide +kernel
theorem dX7_runAll_295 : decode cX7_runAll 295 = .ok (.aload_n 0, 1) := by decide +kernel
theorem dX7_runAll_296 : decode cX7_runAll 296 = .ok (.getfield 33, 3) := by decide +kernel
theorem dX7_runAll_299 : decode cX7_runAll 299 = .ok (.ireturn, 1) := by decide +kernel
theorem dX7_store_0 : decode cX7_store 0 = .ok (.aload_n 0, 1) := by decide +kernel
theorem dX7_store_1 : decode cX7_store 1 = .ok (.invokevirtual 162, 3) := by decide +kernel
theorem dX7_store_4 : decode cX7_store 4 = .ok (.lstore_n 2, 1) := by decide +kernel
theorem dX7_store_5 : decode cX7_store 5 = .ok (.aload_n 0, 1) := by decide +kernel
theorem dX7_store_6 : decode cX7_store 6 = .ok (.invokevirtual 180, 3) := by decide +kernel
theorem dX7_store_9 : decode cX7_store 9 = .ok (.istore 4, 2) := by decide +kernel
theorem dX7_store_11 : decode cX7_store 11 = .ok (.aload_n 0, 1) := by decide +kernel
theorem dX7_store_12 : decode cX7_store 12 = .ok (.invokevirtual 162, 3) := by decide +kernel
theorem dX7_store_15 : decode cX7_store 15 = .ok (.lstore 5, 2) := by decide +kernel
theorem dX7_store_17 : decode cX7_store 17 = .ok (.aload_n 0, 1) := by decide +kernel
theorem dX7_store_18 : decode cX7_store 18 = .ok (.getfield 18, 3) := by decide +kernel
theorem dX7_store_21 : decode cX7_store 21 = .ok (.lload 5, 2) := by decide +kernel
theorem dX7_store_23 : decode cX7_store 23 = .ok (.invokevirtual 136, 3) := by decide +kernel
theorem dX7_store_26 : decode cX7_store 26 = .ok (.lstore 7, 2) := by decide +kernel
theorem dX7_store_28 : decode cX7_store 28 = .ok (.aload_n 0, 1) := by decide +kernel
theorem dX7_store_29 : decode cX7_store 29 = .ok (.getfield 18, 3) := by decide +kernel
theorem dX7_store_32 : decode cX7_store 32 = .ok (.lload 7, 2) := by decide +kernel
theorem dX7_store_34 : decode cX7_store 34 = .ok (.iload 4, 2) := by decide +kernel
theorem dX7_store_36 : decode cX7_store 36 = .ok (.invokevirtual 225, 3) := by decide +kernel
theorem dX7_store_39 : decode cX7_store 39 = .ok (.ifCond .ne 10, 3) := by decide +kernel
theorem dX7_store_42 : decode cX7_store 42 = .ok (.aload_n 0, 1) := by decide +kernel
theorem dX7_store_43 : decode cX7_store 43 = .ok (.iconst 1, 1) := by decide +kernel
theorem dX7_store_44 : decode cX7_store 44 = .ok (.iload_n 1, 1) := by decide +kernel
theorem dX7_store_45 : decode cX7_store 45 = .ok (.invokevirtual 184, 3) := by decide +kernel
theorem dX7_store_48 : decode cX7_store 48 = .ok (.return_, 1) := by decide +kernel
theorem dX7_store_49 : decode cX7_store 49 = .ok (.aload_n 0, 1) := by decide +kernel
theorem dX7_store_50 : decode cX7_store 50 = .ok (.lload 5, 2) := by decide +kernel
theorem dX7_store_52 : decode cX7_store 52 = .ok (.invokevirtual 236, 3) := by decide +kernel
theorem dX7_store_55 : decode cX7_store 55 = .ok (.istore 9, 2) := by decide +kernel
theorem dX7_store_57 : decode cX7_store 57 = .ok (.lload_n 2, 1) := by decide +kernel
theorem dX7_store_58 : decode cX7_store 58 = .ok (.lstore 10, 2) := by decide +kernel
theorem dX7_store_60 : decode cX7_store 60 = .ok (.iconst 0, 1) := by decide +kernel
theorem dX7_store_61 : decode cX7_store 61 = .ok (.istore 12, 2) := by decide +kernel
theorem dX7_store_63 : decode cX7_store 63 = .ok (.iload 12, 2) := by decide +kernel
theorem dX7_store_65 : decode cX7_store 65 = .ok (.iload 9, 2) := by decide +kernel
theorem dX7_store_67 : decode cX7_store 67 = .ok (.if_icmp .ge 25, 3) := by decide +kernel
theorem dX7_store_70 : decode cX7_store 70 = .ok (.aload_n 0, 1) := by decide +kernel
theorem dX7_store_71 : decode cX7_store 71 = .ok (.aload_n 0, 1) := by decide +kernel
theorem dX7_store_72 : decode cX7_store 72 = .ok (.getfield 69, 3) := by decide +kernel
theorem dX7_store_75 : decode cX7_store 75 = .ok (.iload 12, 2) := by decide +kernel
theorem dX7_store_77 : decode cX7_store 77 = .ok (.iaload, 1) := by decide +kernel
theorem dX7_store_78 : decode cX7_store 78 = .ok (.iconst (-1), 1) := by decide +kernel
theorem dX7_store_79 : decode cX7_store 79 = .ok (.lload 10, 2) := by decide +kernel
theorem dX7_store_81 : decode cX7_store 81 = .ok (.invokevirtual 239, 3) := by decide +kernel
theorem dX7_store_84 : decode cX7_store 84 = .ok (.lstore 10, 2) := by decide +kernel
theorem dX7_store_86 : decode cX7_store 86 = .ok (.iinc 12 1, 3) := by decide +kernel
theorem dX7_store_89 : decode cX7_store 89 = .ok (.goto (-26), 3) := by decide +kernel
theorem dX7_store_92 : decode cX7_store 92 = .ok (.aload_n 0, 1) := by decide +kernel
theorem dX7_store_93 : decode cX7_store 93 = .ok (.getfield 30, 3) := by decide +kernel
theorem dX7_store_96 : decode cX7_store 96 = .ok (.ifCond .eq 21, 3) := by decide +kernel
theorem dX7_store_99 : decode cX7_store 99 = .ok (.aload_n 0, 1) := by decide +kernel
theorem dX7_store_100 : decode cX7_store 100 = .ok (.getfield 18, 3) := by decide +kernel
theorem dX7_store_103 : decode cX7_store 103 = .ok (.lload 7, 2) := by decide +kernel
theorem dX7_store_105 : decode cX7_store 105 = .ok (.iload 4, 2) := by decide +kernel
theorem dX7_store_107 : decode cX7_store 107 = .ok (.lload 10, 2) := by decide +kernel
theorem dX7_store_109 : decode cX7_store 109 = .ok (.invokevirtual 222, 3) := by decide +kernel
theorem dX7_store_112 : decode cX7_store 112 = .ok (.aload_n 0, 1) := by decide +kernel
theorem dX7_store_113 : decode cX7_store 113 = .ok (.lload_n 2, 1) := by decide +kernel
theorem dX7_store_114 : decode cX7_store 114 = .ok (.invokevirtual 99, 3) := by decide +kernel
theorem dX7_store_117 : decode cX7_store 117 = .ok (.return_, 1) := by decide +kernel
theorem dX7_unwrap_0 : decode cX7_unwrap 0 = .ok (.iconst 0, 1) := by decide +kernel
theorem dX7_unwrap_1 : decode cX7_unwrap 1 = .ok (.istore_n 3, 1) := by decide +kernel
theorem dX7_unwrap_2 : decode cX7_unwrap 2 = .ok (.aload_n 0, 1) := by decide +kernel
theorem dX7_unwrap_3 : decode cX7_unwrap 3 = .ok (.getfield 18, 3) := by decide +kernel
theorem dX7_unwrap_6 : decode cX7_unwrap 6 = .ok (.lload_n 1, 1) := by decide +kernel
theorem dX7_unwrap_7 : decode cX7_unwrap 7 = .ok (.invokevirtual 243, 3) := by decide +kernel
theorem dX7_unwrap_10 : decode cX7_unwrap 10 = .ok (.istore 4, 2) := by decide +kernel
theorem dX7_unwrap_12 : decode cX7_unwrap 12 = .ok (.iconst 0, 1) := by decide +kernel
theorem dX7_unwrap_13 : decode cX7_unwrap 13 = .ok (.istore 5, 2) := by decide +kernel
theorem dX7_unwrap_15 : decode cX7_unwrap 15 = .ok (.iload 5, 2) := by decide +kernel
theorem dX7_unwrap_17 : decode cX7_unwrap 17 = .ok (.bipush 20, 2) := by decide +kernel
theorem dX7_unwrap_19 : decode cX7_unwrap 19 = .ok (.if_icmp .ge 46, 3) := by decide +kernel
theorem dX7_unwrap_22 : decode cX7_unwrap 22 = .ok (.iload 4, 2) := by decide +kernel
theorem dX7_unwrap_24 : decode cX7_unwrap 24 = .ok (.iconst (-1), 1) := by decide +kernel
theorem dX7_unwrap_25 : decode cX7_unwrap 25 = .ok (.if_icmp .eq 40, 3) := by decide +kernel
theorem dX7_unwrap_28 : decode cX7_unwrap 28 = .ok (.aload_n 0, 1) := by decide +kernel
theorem dX7_unwrap_29 : decode cX7_unwrap 29 = .ok (.getfield 69, 3) := by decide +kernel
theorem dX7_unwrap_32 : decode cX7_unwrap 32 = .ok (.iload 5, 2) := by decide +kernel
theorem dX7_unwrap_34 : decode cX7_unwrap 34 = .ok (.iload 4, 2) := by decide +kernel
theorem dX7_unwrap_36 : decode cX7_unwrap 36 = .ok (.iastore, 1) := by decide +kernel
theorem dX7_unwrap_37 : decode cX7_unwrap 37 = .ok (.iinc 3 1, 3) := by decide +kernel
theorem dX7_unwrap_40 : decode cX7_unwrap 40 = .ok (.aload_n 0, 1) := by decide +kernel
theorem dX7_unwrap_41 : decode cX7_unwrap 41 = .ok (.getfield 18, 3) := by decide +kernel
theorem dX7_unwrap_44 : decode cX7_unwrap 44 = .ok (.aload_n 0, 1) := by decide +kernel
theorem dX7_unwrap_45 : decode cX7_unwrap 45 = .ok (.getfield 18, 3) := by decide +kernel
theorem dX7_unwrap_48 : decode cX7_unwrap 48 = .ok (.getfield 246, 3) := by decide +kernel
theorem dX7_unwrap_51 : decode cX7_unwrap 51 = .ok (.iload 4, 2) := by decide +kernel
theorem dX7_unwrap_53 : decode cX7_unwrap 53 = .ok (.laload, 1) := by decide +kernel
theorem dX7_unwrap_54 : decode cX7_unwrap 54 = .ok (.invokevirtual 243, 3) := by decide +kernel
theorem dX7_unwrap_57 : decode cX7_unwrap 57 = .ok (.istore 4, 2) := by decide +kernel
theorem dX7_unwrap_59 : decode cX7_unwrap 59 = .ok (.iinc 5 1, 3) := by decide +kernel
theorem dX7_unwrap_62 : decode cX7_unwrap 62 = .ok (.goto (-47), 3) := by decide +kernel
theorem dX7_unwrap_65 : decode cX7_unwrap 65 = .ok (.iload_n 3, 1) := by decide +kernel
theorem dX7_unwrap_66 : decode cX7_unwrap 66 = .ok (.ireturn, 1) := by decide +kernel
theorem dX7_workNumbers_0 : decode cX7_workNumbers 0 = .ok (.aload_n 0, 1) := by decide +kernel
theorem dX7_workNumbers_1 : decode cX7_workNumbers 1 = .ok (.invokevirtual 180, 3) := by decide +kernel
theorem dX7_workNumbers_4 : decode cX7_workNumbers 4 = .ok (.istore_n 3, 1) := by decide +kernel
theorem dX7_workNumbers_5 : decode cX7_workNumbers 5 = .ok (.iload_n 1, 1) := by decide +kernel
theorem dX7_workNumbers_6 : decode cX7_workNumbers 6 = .ok (.bipush 18, 2) := by decide +kernel
theorem dX7_workNumbers_8 : decode cX7_workNumbers 8 = .ok (.if_icmp .ne 10, 3) := by decide +kernel
theorem dX7_workNumbers_11 : decode cX7_workNumbers 11 = .ok (.aload_n 0, 1) := by decide +kernel
theorem dX7_workNumbers_12 : decode cX7_workNumbers 12 = .ok (.iload_n 3, 1) := by decide +kernel
theorem dX7_workNumbers_13 : decode cX7_workNumbers 13 = .ok (.ineg, 1) := by decide +kernel
theorem dX7_workNumbers_14 : decode cX7_workNumbers 14 = .ok (.invokevirtual 169, 3) := by decide +kernel
theorem dX7_workNumbers_17 : decode cX7_workNumbers 17 = .ok (.return_, 1) := by decide +kernel
theorem dX7_workNumbers_18 : decode cX7_workNumbers 18 = .ok (.iload_n 1, 1) := by decide +kernel
theorem dX7_workNumbers_19 : decode cX7_workNumbers 19 = .ok (.bipush 19, 2) := by decide +kernel
theorem dX7_workNumbers_21 : decode cX7_workNumbers 21 = .ok (.if_icmp .ne 17, 3) := by decide +kernel
theorem dX7_workNumbers_24 : decode cX7_workNumbers 24 = .ok (.aload_n 0, 1) := by decide +kernel
theorem dX7_workNumbers_25 : decode cX7_workNumbers 25 = .ok (.iload_n 3, 1) := by decide +kernel
theorem dX7_workNumbers_26 : decode cX7_workNumbers 26 = .ok (.ifCond .ne 7, 3) := by decide +kernel
theorem dX7_workNumbers_29 : decode cX7_workNumbers 29 = .ok (.iconst 1, 1) := by decide +kernel
theorem dX7_workNumbers_30 : decode cX7_workNumbers 30 = .ok (.goto 4, 3) := by decide +kernel
theorem dX7_workNumbers_33 : decode cX7_workNumbers 33 = .ok (.iconst 0, 1) := by decide +kernel
theorem dX7_workNumbers_34 : decode cX7_workNumbers 34 = .ok (.invokevirtual 172, 3) := by decide +kernel
theorem dX7_workNumbers_37 : decode cX7_workNumbers 37 = .ok (.return_, 1) := by decide +kernel
theorem dX7_workNumbers_38 : decode cX7_workNumbers 38 = .ok (.aload_n 0, 1) := by decide +kernel
theorem dX7_workNumbers_39 : decode cX7_workNumbers 39 = .ok (.invokevirtual 180, 3) := by decide +kernel
theorem dX7_workNumbers_42 : decode cX7_workNumbers 42 = .ok (.istore 4, 2) := by decide +kernel
theorem dX7_workNumbers_44 : decode cX7_workNumbers 44 = .ok (.iload_n 1, 1) := by decide +kernel
theorem dX7_workNumbers_45 : decode cX7_workNumbers 45 = .ok (.bipush 20, 2) := by decide +kernel
theorem dX7_workNumbers_47 : decode cX7_workNumbers 47 = .ok (.if_icmp .eq 9, 3) := by decide +kernel
theorem dX7_workNumbers_50 : decode cX7_workNumbers 50 = .ok (.iload_n 1, 1) := by decide +kernel
theorem dX7_workNumbers_51 : decode cX7_workNumbers 51 = .ok (.bipush 21, 2) := by decide +kernel
theorem dX7_workNumbers_53 : decode cX7_workNumbers 53 = .ok (.if_icmp .ne 41, 3) := by decide +kernel
theorem dX7_workNumbers_56 : decode cX7_workNumbers 56 = .ok (.aload_n 0, 1) := by decide +kernel
theorem dX7_workNumbers_57 : decode cX7_workNumbers 57 = .ok (.iload_n 1, 1) := by decide +kernel
theorem dX7_workNumbers_58 : decode cX7_workNumbers 58 = .ok (.bipush 20, 2) := by decide +kernel
theorem dX7_workNumbers_60 : decode cX7_workNumbers 60 = .ok (.if_icmp .ne 17, 3) := by decide +kernel
theorem dX7_workNumbers_63 : decode cX7_workNumbers 63 = .ok (.iload 4, 2) := by decide +kernel
theorem dX7_workNumbers_65 : decode cX7_workNumbers 65 = .ok (.iload_n 3, 1) := by decide +kernel
theorem dX7_workNumbers_66 : decode cX7_workNumbers 66 = .ok (.if_icmp .ge 7, 3) := by decide +kernel
theorem dX7_workNumbers_69 : decode cX7_workNumbers 69 = .ok (.iconst 1, 1) := by decide +kernel
theorem dX7_workNumbers_70 : decode cX7_workNumbers 70 = .ok (.goto 18, 3) := by decide +kernel
theorem dX7_workNumbers_73 : decode cX7_workNumbers 73 = .ok (.iconst 0, 1) := by decide +kernel
theorem dX7_workNumbers_74 : decode cX7_workNumbers 74 = .ok (.goto 14, 3) := by decide +kernel
theorem dX7_workNumbers_77 : decode cX7_workNumbers 77 = .ok (.iload 4, 2) := by decide +kernel
theorem dX7_workNumbers_79 : decode cX7_workNumbers 79 = .ok (.iload_n 3, 1) := by decide +kernel
theorem dX7_workNumbers_80 : decode cX7_workNumbers 80 = .ok (.if_icmp .ne 7, 3) := by decide +kernel
theorem dX7_workNumbers_83 : decode cX7_workNumbers 83 = .ok (.iconst 1, 1) := by decide +kernel
theorem dX7_workNumbers_84 : decode cX7_workNumbers 84 = .ok (.goto 4, 3) := by decide +kernel
theorem dX7_workNumbers_87 : decode cX7_workNumbers 87 = .ok (.iconst 0, 1) := by decide +kernel
theorem dX7_workNumbers_88 : decode cX7_workNumbers 88 = .ok (.invokevirtual 172, 3) := by decide +kernel
theorem dX7_workNumbers_91 : decode cX7_workNumbers 91 = .ok (.goto 33, 3) := by decide +kernel
theorem dX7_workNumbers_94 : decode cX7_workNumbers 94 = .ok (.iload_n 3, 1) := by decide +kernel
theorem dX7_workNumbers_95 : decode cX7_workNumbers 95 = .ok (.ifCond .ne 18, 3) := by decide +kernel
theorem dX7_workNumbers_98 : decode cX7_workNumbers 98 = .ok (.iload_n 1, 1) := by decide +kernel
theorem dX7_workNumbers_99 : decode cX7_workNumbers 99 = .ok (.bipush 25, 2) := by decide +kernel
theorem dX7_workNumbers_101 : decode cX7_workNumbers 101 = .ok (.if_icmp .lt 12, 3) := by decide +kernel
theorem dX7_workNumbers_104 : decode cX7_workNumbers 104 = .ok (.aload_n 0, 1) := by decide +kernel
theorem dX7_workNumbers_105 : decode cX7_workNumbers 105 = .ok (.iconst 2, 1) := by decide +kernel
theorem dX7_workNumbers_106 : decode cX7_workNumbers 106 = .ok (.iload_n 2, 1) := by decide +kernel
theorem dX7_workNumbers_107 : decode cX7_workNumbers 107 = .ok (.invokevirtual 184, 3) := by decide +kernel
theorem dX7_workNumbers_110 : decode cX7_workNumbers 110 = .ok (.goto 14, 3) := by decide +kernel
theorem dX7_workNumbers_113 : decode cX7_workNumbers 113 = .ok (.aload_n 0, 1) := by decide +kernel
theorem dX7_workNumbers_114 : decode cX7_workNumbers 114 = .ok (.iload_n 1, 1) := by decide +kernel
theorem dX7_workNumbers_115 : decode cX7_workNumbers 115 = .ok (.iload 4, 2) := by decide +kernel
theorem dX7_workNumbers_117 : decode cX7_workNumbers 117 = .ok (.iload_n 3, 1) := by decide +kernel
theorem dX7_workNumbers_118 : decode cX7_workNumbers 118 = .ok (.invokestatic 284, 3) := by decide +kernel
theorem dX7_workNumbers_121 : decode cX7_workNumbers 121 = .ok (.invokevirtual 169, 3) := by decide +kernel
theorem dX7_workNumbers_124 : decode cX7_workNumbers 124 = .ok (.return_, 1) := by decide +kernel
theorem dX7_workPlain_0 : decode cX7_workPlain 0 = .ok (.iload_n 1, 1) := by decide +kernel
theorem dX7_workPlain_1 : decode cX7_workPlain 1 = .ok (.tableswitch 165 0 9 #[55, 64, 72, 88, 105, 117, 134, 149, 165, 157], 55) := by decide +kernel
theorem dX7_workPlain_56 : decode cX7_workPlain 56 = .ok (.aload_n 0, 1) := by decide +kernel
theorem dX7_workPlain_57 : decode cX7_workPlain 57 = .ok (.iload_n 2, 1) := by decide +kernel
theorem dX7_workPlain_58 : decode cX7_workPlain 58 = .ok (.iload_n 3, 1) := by decide +kernel
theorem dX7_workPlain_59 : decode cX7_workPlain 59 = .ok (.invokevirtual 166, 3) := by decide +kernel
theorem dX7_workPlain_62 : decode cX7_workPlain 62 = .ok (.goto 104, 3) := by decide +kernel
theorem dX7_workPlain_65 : decode cX7_workPlain 65 = .ok (.aload_n 0, 1) := by decide +kernel
theorem dX7_workPlain_66 : decode cX7_workPlain 66 = .ok (.iload_n 2, 1) := by decide +kernel
theorem dX7_workPlain_67 : decode cX7_workPlain 67 = .ok (.invokevirtual 169, 3) := by decide +kernel
theorem dX7_workPlain_70 : decode cX7_workPlain 70 = .ok (.goto 96, 3) := by decide +kernel
theorem dX7_workPlain_73 : decode cX7_workPlain 73 = .ok (.aload_n 0, 1) := by decide +kernel
theorem dX7_workPlain_74 : decode cX7_workPlain 74 = .ok (.iload_n 2, 1) := by decide +kernel
theorem dX7_workPlain_75 : decode cX7_workPlain 75 = .ok (.ifCond .eq 7, 3) := by decide +kernel
theorem dX7_workPlain_78 : decode cX7_workPlain 78 = .ok (.iconst 1, 1) := by decide +kernel
theorem dX7_workPlain_79 : decode cX7_workPlain 79 = .ok (.goto 4, 3) := by decide +kernel
theorem dX7_workPlain_82 : decode cX7_workPlain 82 = .ok (.iconst 0, 1) := by decide +kernel
theorem dX7_workPlain_83 : decode cX7_workPlain 83 = .ok (.invokevirtual 172, 3) := by decide +kernel
theorem dX7_workPlain_86 : decode cX7_workPlain 86 = .ok (.goto 80, 3) := by decide +kernel
theorem dX7_workPlain_89 : decode cX7_workPlain 89 = .ok (.aload_n 0, 1) := by decide +kernel
theorem dX7_workPlain_90 : decode cX7_workPlain 90 = .ok (.aload_n 0, 1) := by decide +kernel
theorem dX7_workPlain_91 : decode cX7_workPlain 91 = .ok (.getfield 59, 3) := by decide +kernel
theorem dX7_workPlain_94 : decode cX7_workPlain 94 = .ok (.aload_n 0, 1) := by decide +kernel
theorem dX7_workPlain_95 : decode cX7_workPlain 95 = .ok (.iload_n 2, 1) := by decide +kernel
theorem dX7_workPlain_96 : decode cX7_workPlain 96 = .ok (.invokevirtual 176, 3) := by decide +kernel
theorem dX7_workPlain_99 : decode cX7_workPlain 99 = .ok (.laload, 1) := by decide +kernel
theorem dX7_workPlain_100 : decode cX7_workPlain 100 = .ok (.invokevirtual 99, 3) := by decide +kernel
theorem dX7_workPlain_103 : decode cX7_workPlain 103 = .ok (.goto 63, 3) := by decide +kernel
theorem dX7_workPlain_106 : decode cX7_workPlain 106 = .ok (.aload_n 0, 1) := by decide +kernel
theorem dX7_workPlain_107 : decode cX7_workPlain 107 = .ok (.iconst 4, 1) := by decide +kernel
theorem dX7_workPlain_108 : decode cX7_workPlain 108 = .ok (.iload_n 2, 1) := by decide +kernel
theorem dX7_workPlain_109 : decode cX7_workPlain 109 = .ok (.invokestatic 95, 3) := by decide +kernel
theorem dX7_workPlain_112 : decode cX7_workPlain 112 = .ok (.invokevirtual 99, 3) := by decide +kernel
theorem dX7_workPlain_115 : decode cX7_workPlain 115 = .ok (.goto 51, 3) := by decide +kernel
theorem dX7_workPlain_118 : decode cX7_workPlain 118 = .ok (.aload_n 0, 1) := by decide +kernel
theorem dX7_workPlain_119 : decode cX7_workPlain 119 = .ok (.getfield 59, 3) := by decide +kernel
theorem dX7_workPlain_122 : decode cX7_workPlain 122 = .ok (.aload_n 0, 1) := by decide +kernel
theorem dX7_workPlain_123 : decode cX7_workPlain 123 = .ok (.iload_n 2, 1) := by decide +kernel
theorem dX7_workPlain_124 : decode cX7_workPlain 124 = .ok (.invokevirtual 176, 3) := by decide +kernel
theorem dX7_workPlain_127 : decode cX7_workPlain 127 = .ok (.aload_n 0, 1) := by decide +kernel
theorem dX7_workPlain_128 : decode cX7_workPlain 128 = .ok (.invokevirtual 162, 3) := by decide +kernel
theorem dX7_workPlain_131 : decode cX7_workPlain 131 = .ok (.lastore, 1) := by decide +kernel
theorem dX7_workPlain_132 : decode cX7_workPlain 132 = .ok (.goto 34, 3) := by decide +kernel
theorem dX7_workPlain_135 : decode cX7_workPlain 135 = .ok (.aload_n 0, 1) := by decide +kernel
theorem dX7_workPlain_136 : decode cX7_workPlain 136 = .ok (.invokevirtual 180, 3) := by decide +kernel
theorem dX7_workPlain_139 : decode cX7_workPlain 139 = .ok (.ifCond .ne 27, 3) := by decide +kernel
theorem dX7_workPlain_142 : decode cX7_workPlain 142 = .ok (.aload_n 0, 1) := by decide +kernel
theorem dX7_workPlain_143 : decode cX7_workPlain 143 = .ok (.iload_n 2, 1) := by decide +kernel
theorem dX7_workPlain_144 : decode cX7_workPlain 144 = .ok (.putfield 49, 3) := by decide +kernel
theorem dX7_workPlain_147 : decode cX7_workPlain 147 = .ok (.goto 19, 3) := by decide +kernel
theorem dX7_workPlain_150 : decode cX7_workPlain 150 = .ok (.aload_n 0, 1) := by decide +kernel
theorem dX7_workPlain_151 : decode cX7_workPlain 151 = .ok (.iload_n 2, 1) := by decide +kernel
theorem dX7_workPlain_152 : decode cX7_workPlain 152 = .ok (.putfield 49, 3) := by decide +kernel
theorem dX7_workPlain_155 : decode cX7_workPlain 155 = .ok (.goto 11, 3) := by decide +kernel
theorem dX7_workPlain_158 : decode cX7_workPlain 158 = .ok (.aload_n 0, 1) := by decide +kernel
theorem dX7_workPlain_159 : decode cX7_workPlain 159 = .ok (.invokevirtual 162, 3) := by decide +kernel
theorem dX7_workPlain_162 : decode cX7_workPlain 162 = .ok (.pop2, 1) := by decide +kernel
theorem dX7_workPlain_163 : decode cX7_workPlain 163 = .ok (.goto 3, 3) := by decide +kernel
theorem dX7_workPlain_166 : decode cX7_workPlain 166 = .ok (.return_, 1) := by decide +kernel
theorem dX7_workRowOrCall_0 : decode cX7_workRowOrCall 0 = .ok (.iload_n 1, 1) := by decide +kernel
theorem dX7_workRowOrCall_1 : decode cX7_workRowOrCall 1 = .ok (.tableswitch 122 10 16 #[43, 52, 60, 89, 97, 105, 113], 43) := by decide +kernel
theorem dX7_workRowOrCall_44 : decode cX7_workRowOrCall 44 = .ok (.aload_n 0, 1) := by decide +kernel
theorem dX7_workRowOrCall_45 : decode cX7_workRowOrCall 45 = .ok (.iload_n 2, 1) := by decide +kernel
theorem dX7_workRowOrCall_46 : decode cX7_workRowOrCall 46 = .ok (.iload_n 3, 1) := by decide +kernel
theorem dX7_workRowOrCall_47 : decode cX7_workRowOrCall 47 = .ok (.invokevirtual 187, 3) := by decide +kernel
theorem dX7_workRowOrCall_50 : decode cX7_workRowOrCall 50 = .ok (.goto 77, 3) := by decide +kernel
theorem dX7_workRowOrCall_53 : decode cX7_workRowOrCall 53 = .ok (.aload_n 0, 1) := by decide +kernel
theorem dX7_workRowOrCall_54 : decode cX7_workRowOrCall 54 = .ok (.iload_n 3, 1) := by decide +kernel
theorem dX7_workRowOrCall_55 : decode cX7_workRowOrCall 55 = .ok (.invokevirtual 190, 3) := by decide +kernel
theorem dX7_workRowOrCall_58 : decode cX7_workRowOrCall 58 = .ok (.goto 69, 3) := by decide +kernel
theorem dX7_workRowOrCall_61 : decode cX7_workRowOrCall 61 = .ok (.aload_n 0, 1) := by decide +kernel
theorem dX7_workRowOrCall_62 : decode cX7_workRowOrCall 62 = .ok (.iconst 0, 1) := by decide +kernel
theorem dX7_workRowOrCall_63 : decode cX7_workRowOrCall 63 = .ok (.aload_n 0, 1) := by decide +kernel
theorem dX7_workRowOrCall_64 : decode cX7_workRowOrCall 64 = .ok (.getfield 18, 3) := by decide +kernel
theorem dX7_workRowOrCall_67 : decode cX7_workRowOrCall 67 = .ok (.aload_n 0, 1) := by decide +kernel
theorem dX7_workRowOrCall_68 : decode cX7_workRowOrCall 68 = .ok (.getfield 18, 3) := by decide +kernel
theorem dX7_workRowOrCall_71 : decode cX7_workRowOrCall 71 = .ok (.aload_n 0, 1) := by decide +kernel
theorem dX7_workRowOrCall_72 : decode cX7_workRowOrCall 72 = .ok (.invokevirtual 162, 3) := by decide +kernel
theorem dX7_workRowOrCall_75 : decode cX7_workRowOrCall 75 = .ok (.invokevirtual 136, 3) := by decide +kernel
theorem dX7_workRowOrCall_78 : decode cX7_workRowOrCall 78 = .ok (.invokevirtual 156, 3) := by decide +kernel
theorem dX7_workRowOrCall_81 : decode cX7_workRowOrCall 81 = .ok (.invokestatic 193, 3) := by decide +kernel
theorem dX7_workRowOrCall_84 : decode cX7_workRowOrCall 84 = .ok (.invokevirtual 169, 3) := by decide +kernel
theorem dX7_workRowOrCall_87 : decode cX7_workRowOrCall 87 = .ok (.goto 40, 3) := by decide +kernel
theorem dX7_workRowOrCall_90 : decode cX7_workRowOrCall 90 = .ok (.aload_n 0, 1) := by decide +kernel
theorem dX7_workRowOrCall_91 : decode cX7_workRowOrCall 91 = .ok (.iload_n 3, 1) := by decide +kernel
theorem dX7_workRowOrCall_92 : decode cX7_workRowOrCall 92 = .ok (.invokevirtual 199, 3) := by decide +kernel
theorem dX7_workRowOrCall_95 : decode cX7_workRowOrCall 95 = .ok (.goto 32, 3) := by decide +kernel
theorem dX7_workRowOrCall_98 : decode cX7_workRowOrCall 98 = .ok (.aload_n 0, 1) := by decide +kernel
theorem dX7_workRowOrCall_99 : decode cX7_workRowOrCall 99 = .ok (.iload_n 3, 1) := by decide +kernel
theorem dX7_workRowOrCall_100 : decode cX7_workRowOrCall 100 = .ok (.invokevirtual 202, 3) := by decide +kernel
theorem dX7_workRowOrCall_103 : decode cX7_workRowOrCall 103 = .ok (.goto 24, 3) := by decide +kernel
theorem dX7_workRowOrCall_106 : decode cX7_workRowOrCall 106 = .ok (.aload_n 0, 1) := by decide +kernel
theorem dX7_workRowOrCall_107 : decode cX7_workRowOrCall 107 = .ok (.iload_n 3, 1) := by decide +kernel
theorem dX7_workRowOrCall_108 : decode cX7_workRowOrCall 108 = .ok (.invokevirtual 205, 3) := by decide +kernel
theorem dX7_workRowOrCall_111 : decode cX7_workRowOrCall 111 = .ok (.goto 16, 3) := by decide +kernel
theorem dX7_workRowOrCall_114 : decode cX7_workRowOrCall 114 = .ok (.aload_n 0, 1) := by decide +kernel
theorem dX7_workRowOrCall_115 : decode cX7_workRowOrCall 115 = .ok (.iload_n 2, 1) := by decide +kernel
theorem dX7_workRowOrCall_116 : decode cX7_workRowOrCall 116 = .ok (.iload_n 3, 1) := by decide +kernel
theorem dX7_workRowOrCall_117 : decode cX7_workRowOrCall 117 = .ok (.invokevirtual 208, 3) := by decide +kernel
theorem dX7_workRowOrCall_120 : decode cX7_workRowOrCall 120 = .ok (.goto 7, 3) := by decide +kernel
theorem dX7_workRowOrCall_123 : decode cX7_workRowOrCall 123 = .ok (.aload_n 0, 1) := by decide +kernel
theorem dX7_workRowOrCall_124 : decode cX7_workRowOrCall 124 = .ok (.invokevirtual 211, 3) := by decide +kernel
theorem dX7_workRowOrCall_127 : decode cX7_workRowOrCall 127 = .ok (.return_, 1) := by decide +kernel
theorem k290 : Cond.fieldLink "BlameCourt$Running" 90 "BlameCourt$Program" "mainPart" "I" ∈ gtb := gtm (in_tables_1_1 (List.mem_of_getElem? (i := 104) rfl)) rfl
theorem k336 : Cond.fieldLink "BlameCourt$Running" 108 "BlameCourt$Program" "length" "I" ∈ gtb := gtm (in_tables_1_1 (List.mem_of_getElem? (i := 150) rfl)) rfl
theorem k623 : Cond.fieldLink "BlameCourt$Running" 43 "BlameCourt$Running" "fuel" "I" ∈ gtb := gtm (in_tables_1_2 (List.mem_of_getElem? (i := 197) rfl)) rfl
theorem k624 : Cond.fieldLink "BlameCourt$Running" 46 "BlameCourt$Running" "steps" "I" ∈ gtb := gtm (in_tables_1_2 (List.mem_of_getElem? (i := 198) rfl)) rfl
theorem k631 : Cond.fieldLink "BlameCourt$Running" 69 "BlameCourt$Running" "wrapping" "[I" ∈ gtb := gtm (in_tables_1_2 (List.mem_of_getElem? (i := 205) rfl)) rfl
theorem k632 : Cond.fieldLink "BlameCourt$Running" 72 "BlameCourt$Running" "outNumbers" "[I" ∈ gtb := gtm (in_tables_1_2 (List.mem_of_getElem? (i := 206) rfl)) rfl
theorem k634 : Cond.fieldLink "BlameCourt$Running" 75 "BlameCourt$Running" "outs" "I" ∈ gtb := gtm (in_tables_1_2 (List.mem_of_getElem? (i := 208) rfl)) rfl
theorem k1136 : Cond.methodLink "BlameCourt$Running" 81 yX1_clear ∈ gtb := gtm (in_tables_1_4 (List.mem_of_getElem? (i := 230) rfl)) rfl
theorem k1140 : Cond.methodLink "BlameCourt$Running" 84 yJ7_fill_53178 ∈ gtb := gtm (in_tables_1_4 (List.mem_of_getElem? (i := 234) rfl)) rfl
theorem k1149 : Cond.methodLink "BlameCourt$Running" 103 yX7_enterPart ∈ gtb := gtm (in_tables_1_5 (List.mem_of_getElem? (i := 3) rfl)) rfl
theorem k1165 : Cond.constant "BlameCourt$Running" 107 1000000 ∈ gtb := gtm (in_tables_1_5 (List.mem_of_getElem? (i := 19) rfl)) rfl
theorem k1166 : Cond.methodLink "BlameCourt$Running" 116 yX7_workAsking ∈ gtb := gtm (in_tables_1_5 (List.mem_of_getElem? (i := 20) rfl)) rfl
theorem k1220 : Cond.methodLink "BlameCourt$Running" 123 yX7_workNumbers ∈ gtb := gtm (in_tables_1_5 (List.mem_of_getElem? (i := 74) rfl)) rfl
theorem k1224 : Cond.methodLink "BlameCourt$Running" 180 yX7_popContent ∈ gtb := gtm (in_tables_1_5 (List.mem_of_getElem? (i := 78) rfl)) rfl
theorem k1228 : Cond.methodLink "BlameCourt$Running" 169 yX7_pushNumber ∈ gtb := gtm (in_tables_1_5 (List.mem_of_getElem? (i := 82) rfl)) rfl
theorem k1232 : Cond.methodLink "BlameCourt$Running" 172 yX7_pushTruth ∈ gtb := gtm (in_tables_1_5 (List.mem_of_getElem? (i := 86) rfl)) rfl
theorem k1236 : Cond.methodLink "BlameCourt$Running" 284 yX7_resultOf ∈ gtb := gtm (in_tables_1_5 (List.mem_of_getElem? (i := 90) rfl)) rfl
theorem k1237 : Cond.static yX7_resultOf ∈ gtb := gtm (in_tables_1_5 (List.mem_of_getElem? (i := 91) rfl)) rfl
theorem k1239 : Cond.methodLink "BlameCourt$Running" 130 yX7_workRowOrCall ∈ gtb := gtm (in_tables_1_5 (List.mem_of_getElem? (i := 93) rfl)) rfl
theorem k1243 : Cond.methodLink "BlameCourt$Running" 187 yX7_makeRow ∈ gtb := gtm (in_tables_1_5 (List.mem_of_getElem? (i := 97) rfl)) rfl
theorem k1247 : Cond.methodLink "BlameCourt$Running" 218 yX1_newRow ∈ gtb := gtm (in_tables_1_5 (List.mem_of_getElem? (i := 101) rfl)) rfl
theorem k1252 : Cond.methodLink "BlameCourt$Running" 222 yX1_store ∈ gtb := gtm (in_tables_1_5 (List.mem_of_getElem? (i := 106) rfl)) rfl
theorem k1266 : Cond.methodLink "BlameCourt$Running" 190 yX7_makeNew ∈ gtb := gtm (in_tables_1_5 (List.mem_of_getElem? (i := 120) rfl)) rfl
theorem k1270 : Cond.methodLink "BlameCourt$Running" 156 yX1_lengthOf ∈ gtb := gtm (in_tables_1_5 (List.mem_of_getElem? (i := 124) rfl)) rfl
theorem k1271 : Cond.methodLink "BlameCourt$Running" 193 yJ9_max_7cf53 ∈ gtb := gtm (in_tables_1_5 (List.mem_of_getElem? (i := 125) rfl)) rfl
theorem k1272 : Cond.methodLink "BlameCourt$Running" 199 yX7_print ∈ gtb := gtm (in_tables_1_5 (List.mem_of_getElem? (i := 126) rfl)) rfl
theorem k1276 : Cond.methodLink "BlameCourt$Running" 202 yX7_fetch ∈ gtb := gtm (in_tables_1_5 (List.mem_of_getElem? (i := 130) rfl)) rfl
theorem k1280 : Cond.methodLink "BlameCourt$Running" 225 yX1_hasPlace ∈ gtb := gtm (in_tables_1_5 (List.mem_of_getElem? (i := 134) rfl)) rfl
theorem k1281 : Cond.methodLink "BlameCourt$Running" 229 yX1_fetch ∈ gtb := gtm (in_tables_1_5 (List.mem_of_getElem? (i := 135) rfl)) rfl
theorem k1285 : Cond.methodLink "BlameCourt$Running" 232 yX7_askOutward ∈ gtb := gtm (in_tables_1_5 (List.mem_of_getElem? (i := 139) rfl)) rfl
theorem k1289 : Cond.methodLink "BlameCourt$Running" 236 yX7_unwrap ∈ gtb := gtm (in_tables_1_5 (List.mem_of_getElem? (i := 143) rfl)) rfl
theorem k1293 : Cond.methodLink "BlameCourt$Running" 256 yX3_givesOf ∈ gtb := gtm (in_tables_1_5 (List.mem_of_getElem? (i := 147) rfl)) rfl
theorem k1294 : Cond.methodLink "BlameCourt$Running" 205 yX7_store ∈ gtb := gtm (in_tables_1_5 (List.mem_of_getElem? (i := 148) rfl)) rfl
theorem k1298 : Cond.methodLink "BlameCourt$Running" 239 yX7_askInto ∈ gtb := gtm (in_tables_1_5 (List.mem_of_getElem? (i := 152) rfl)) rfl
theorem k1302 : Cond.methodLink "BlameCourt$Running" 275 yX3_paramOf ∈ gtb := gtm (in_tables_1_5 (List.mem_of_getElem? (i := 156) rfl)) rfl
theorem k1303 : Cond.methodLink "BlameCourt$Running" 208 yX7_callWith ∈ gtb := gtm (in_tables_1_5 (List.mem_of_getElem? (i := 157) rfl)) rfl
theorem k1307 : Cond.methodLink "BlameCourt$Running" 211 yX7_leavePart ∈ gtb := gtm (in_tables_1_5 (List.mem_of_getElem? (i := 161) rfl)) rfl
theorem k1311 : Cond.methodLink "BlameCourt$Running" 133 yX7_workPlain ∈ gtb := gtm (in_tables_1_5 (List.mem_of_getElem? (i := 165) rfl)) rfl
theorem k1315 : Cond.methodLink "BlameCourt$Running" 166 yX7_makeSteps ∈ gtb := gtm (in_tables_1_5 (List.mem_of_getElem? (i := 169) rfl)) rfl
theorem k1301 : Cond.code yX7_askInto cX7_askInto 8 (some .long) ∈ gtb := gtm (in_tables_1_5 (List.mem_of_getElem? (i := 155) rfl)) rfl
theorem ka_X7_askInto : KA yX7_askInto cX7_askInto 8 (some .long) 3 := ⟨k1301, k195, by decide, by decide, by decide +kernel⟩
theorem k1300 : Cond.instanceMethod yX7_askInto ∈ gtb := gtm (in_tables_1_5 (List.mem_of_getElem? (i := 154) rfl)) rfl
theorem k89 : Cond.selects "BlameCourt$Running" yX7_askInto yX7_askInto ∈ gtb := gtm (in_lw_privs_6 (q := (yX7_askInto, 20)) (List.mem_of_getElem? (i := 9) rfl)) rfl
theorem kv_X7_askInto : KV yX7_askInto := ⟨k1300, k89⟩
theorem k1288 : Cond.code yX7_askOutward cX7_askOutward 11 (some .long) ∈ gtb := gtm (in_tables_1_5 (List.mem_of_getElem? (i := 142) rfl)) rfl
theorem ka_X7_askOutward : KA yX7_askOutward cX7_askOutward 11 (some .long) 2 := ⟨k1288, k195, by decide, by decide, by decide +kernel⟩
theorem k1287 : Cond.instanceMethod yX7_askOutward ∈ gtb := gtm (in_tables_1_5 (List.mem_of_getElem? (i := 141) rfl)) rfl
theorem k86 : Cond.selects "BlameCourt$Running" yX7_askOutward yX7_askOutward ∈ gtb := gtm (in_lw_privs_6 (q := (yX7_askOutward, 20)) (List.mem_of_getElem? (i := 6) rfl)) rfl
theorem kv_X7_askOutward : KV yX7_askOutward := ⟨k1287, k86⟩
theorem k1306 : Cond.code yX7_callWith cX7_callWith 7 none ∈ gtb := gtm (in_tables_1_5 (List.mem_of_getElem? (i := 160) rfl)) rfl
theorem ka_X7_callWith : KA yX7_callWith cX7_callWith 7 none 2 := ⟨k1306, k195, by decide, by decide, by decide +kernel⟩
theorem k1305 : Cond.instanceMethod yX7_callWith ∈ gtb := gtm (in_tables_1_5 (List.mem_of_getElem? (i := 159) rfl)) rfl
theorem k90 : Cond.selects "BlameCourt$Running" yX7_callWith yX7_callWith ∈ gtb := gtm (in_lw_privs_6 (q := (yX7_callWith, 20)) (List.mem_of_getElem? (i := 10) rfl)) rfl
theorem kv_X7_callWith : KV yX7_callWith := ⟨k1305, k90⟩
theorem k1279 : Cond.code yX7_fetch cX7_fetch 9 none ∈ gtb := gtm (in_tables_1_5 (List.mem_of_getElem? (i := 133) rfl)) rfl
theorem ka_X7_fetch : KA yX7_fetch cX7_fetch 9 none 1 := ⟨k1279, k195, by decide, by decide, by decide +kernel⟩
theorem k1278 : Cond.instanceMethod yX7_fetch ∈ gtb := gtm (in_tables_1_5 (List.mem_of_getElem? (i := 132) rfl)) rfl
theorem k85 : Cond.selects "BlameCourt$Running" yX7_fetch yX7_fetch ∈ gtb := gtm (in_lw_privs_6 (q := (yX7_fetch, 20)) (List.mem_of_getElem? (i := 5) rfl)) rfl
theorem kv_X7_fetch : KV yX7_fetch := ⟨k1278, k85⟩
theorem k1310 : Cond.code yX7_leavePart cX7_leavePart 5 none ∈ gtb := gtm (in_tables_1_5 (List.mem_of_getElem? (i := 164) rfl)) rfl
theorem ka_X7_leavePart : KA yX7_leavePart cX7_leavePart 5 none 0 := ⟨k1310, k195, by decide, by decide, by decide +kernel⟩
theorem k1309 : Cond.instanceMethod yX7_leavePart ∈ gtb := gtm (in_tables_1_5 (List.mem_of_getElem? (i := 163) rfl)) rfl
theorem k91 : Cond.selects "BlameCourt$Running" yX7_leavePart yX7_leavePart ∈ gtb := gtm (in_lw_privs_6 (q := (yX7_leavePart, 20)) (List.mem_of_getElem? (i := 11) rfl)) rfl
theorem kv_X7_leavePart : KV yX7_leavePart := ⟨k1309, k91⟩
theorem k1269 : Cond.code yX7_makeNew cX7_makeNew 5 none ∈ gtb := gtm (in_tables_1_5 (List.mem_of_getElem? (i := 123) rfl)) rfl
theorem ka_X7_makeNew : KA yX7_makeNew cX7_makeNew 5 none 1 := ⟨k1269, k195, by decide, by decide, by decide +kernel⟩
theorem k1268 : Cond.instanceMethod yX7_makeNew ∈ gtb := gtm (in_tables_1_5 (List.mem_of_getElem? (i := 122) rfl)) rfl
theorem k83 : Cond.selects "BlameCourt$Running" yX7_makeNew yX7_makeNew ∈ gtb := gtm (in_lw_privs_6 (q := (yX7_makeNew, 20)) (List.mem_of_getElem? (i := 3) rfl)) rfl
theorem kv_X7_makeNew : KV yX7_makeNew := ⟨k1268, k83⟩
theorem k1246 : Cond.code yX7_makeRow cX7_makeRow 6 none ∈ gtb := gtm (in_tables_1_5 (List.mem_of_getElem? (i := 100) rfl)) rfl
theorem ka_X7_makeRow : KA yX7_makeRow cX7_makeRow 6 none 2 := ⟨k1246, k195, by decide, by decide, by decide +kernel⟩
theorem k1245 : Cond.instanceMethod yX7_makeRow ∈ gtb := gtm (in_tables_1_5 (List.mem_of_getElem? (i := 99) rfl)) rfl
theorem k82 : Cond.selects "BlameCourt$Running" yX7_makeRow yX7_makeRow ∈ gtb := gtm (in_lw_privs_6 (q := (yX7_makeRow, 20)) (List.mem_of_getElem? (i := 2) rfl)) rfl
theorem kv_X7_makeRow : KV yX7_makeRow := ⟨k1245, k82⟩
theorem k1318 : Cond.code yX7_makeSteps cX7_makeSteps 3 none ∈ gtb := gtm (in_tables_1_5 (List.mem_of_getElem? (i := 172) rfl)) rfl
theorem ka_X7_makeSteps : KA yX7_makeSteps cX7_makeSteps 3 none 2 := ⟨k1318, k195, by decide, by decide, by decide +kernel⟩
theorem k1317 : Cond.instanceMethod yX7_makeSteps ∈ gtb := gtm (in_tables_1_5 (List.mem_of_getElem? (i := 171) rfl)) rfl
theorem k93 : Cond.selects "BlameCourt$Running" yX7_makeSteps yX7_makeSteps ∈ gtb := gtm (in_lw_privs_6 (q := (yX7_makeSteps, 20)) (List.mem_of_getElem? (i := 13) rfl)) rfl
theorem kv_X7_makeSteps : KV yX7_makeSteps := ⟨k1317, k93⟩
theorem k1275 : Cond.code yX7_print cX7_print 2 none ∈ gtb := gtm (in_tables_1_5 (List.mem_of_getElem? (i := 129) rfl)) rfl
theorem ka_X7_print : KA yX7_print cX7_print 2 none 1 := ⟨k1275, k195, by decide, by decide, by decide +kernel⟩
theorem k1274 : Cond.instanceMethod yX7_print ∈ gtb := gtm (in_tables_1_5 (List.mem_of_getElem? (i := 128) rfl)) rfl
theorem k84 : Cond.selects "BlameCourt$Running" yX7_print yX7_print ∈ gtb := gtm (in_lw_privs_6 (q := (yX7_print, 20)) (List.mem_of_getElem? (i := 4) rfl)) rfl
theorem kv_X7_print : KV yX7_print := ⟨k1274, k84⟩
theorem k1238 : Cond.code yX7_resultOf cX7_resultOf 3 (some .int) ∈ gtb := gtm (in_tables_1_5 (List.mem_of_getElem? (i := 92) rfl)) rfl
theorem ka_X7_resultOf : KA yX7_resultOf cX7_resultOf 3 (some .int) 3 := ⟨k1238, k195, by decide, by decide, by decide +kernel⟩
theorem k1135 : Cond.code yX7_runAll cX7_runAll 8 (some .int) ∈ gtb := gtm (in_tables_1_4 (List.mem_of_getElem? (i := 229) rfl)) rfl
theorem ka_X7_runAll : KA yX7_runAll cX7_runAll 8 (some .int) 4 := ⟨k1135, k195, by decide, by decide, by decide +kernel⟩
theorem k1133 : Cond.instanceMethod yX7_runAll ∈ gtb := gtm (in_tables_1_4 (List.mem_of_getElem? (i := 227) rfl)) rfl
theorem k1134 : Cond.selects "BlameCourt$Running" yX7_runAll yX7_runAll ∈ gtb := gtm (in_tables_1_4 (List.mem_of_getElem? (i := 228) rfl)) rfl
theorem kv_X7_runAll : KV yX7_runAll := ⟨k1133, k1134⟩
theorem k1297 : Cond.code yX7_store cX7_store 13 none ∈ gtb := gtm (in_tables_1_5 (List.mem_of_getElem? (i := 151) rfl)) rfl
theorem ka_X7_store : KA yX7_store cX7_store 13 none 1 := ⟨k1297, k195, by decide, by decide, by decide +kernel⟩
theorem k1296 : Cond.instanceMethod yX7_store ∈ gtb := gtm (in_tables_1_5 (List.mem_of_getElem? (i := 150) rfl)) rfl
theorem k88 : Cond.selects "BlameCourt$Running" yX7_store yX7_store ∈ gtb := gtm (in_lw_privs_6 (q := (yX7_store, 20)) (List.mem_of_getElem? (i := 8) rfl)) rfl
theorem kv_X7_store : KV yX7_store := ⟨k1296, k88⟩
theorem k1292 : Cond.code yX7_unwrap cX7_unwrap 6 (some .int) ∈ gtb := gtm (in_tables_1_5 (List.mem_of_getElem? (i := 146) rfl)) rfl
theorem ka_X7_unwrap : KA yX7_unwrap cX7_unwrap 6 (some .int) 1 := ⟨k1292, k195, by decide, by decide, by decide +kernel⟩
theorem k1291 : Cond.instanceMethod yX7_unwrap ∈ gtb := gtm (in_tables_1_5 (List.mem_of_getElem? (i := 145) rfl)) rfl
theorem k87 : Cond.selects "BlameCourt$Running" yX7_unwrap yX7_unwrap ∈ gtb := gtm (in_lw_privs_6 (q := (yX7_unwrap, 20)) (List.mem_of_getElem? (i := 7) rfl)) rfl
theorem kv_X7_unwrap : KV yX7_unwrap := ⟨k1291, k87⟩
theorem k1223 : Cond.code yX7_workNumbers cX7_workNumbers 5 none ∈ gtb := gtm (in_tables_1_5 (List.mem_of_getElem? (i := 77) rfl)) rfl
theorem ka_X7_workNumbers : KA yX7_workNumbers cX7_workNumbers 5 none 2 := ⟨k1223, k195, by decide, by decide, by decide +kernel⟩
theorem k1222 : Cond.instanceMethod yX7_workNumbers ∈ gtb := gtm (in_tables_1_5 (List.mem_of_getElem? (i := 76) rfl)) rfl
theorem k77 : Cond.selects "BlameCourt$Running" yX7_workNumbers yX7_workNumbers ∈ gtb := gtm (in_lw_privs_5 (q := (yX7_workNumbers, 20)) (List.mem_of_getElem? (i := 13) rfl)) rfl
theorem kv_X7_workNumbers : KV yX7_workNumbers := ⟨k1222, k77⟩
theorem k1314 : Cond.code yX7_workPlain cX7_workPlain 4 none ∈ gtb := gtm (in_tables_1_5 (List.mem_of_getElem? (i := 168) rfl)) rfl
theorem ka_X7_workPlain : KA yX7_workPlain cX7_workPlain 4 none 3 := ⟨k1314, k195, by decide, by decide, by decide +kernel⟩
theorem k1313 : Cond.instanceMethod yX7_workPlain ∈ gtb := gtm (in_tables_1_5 (List.mem_of_getElem? (i := 167) rfl)) rfl
theorem k92 : Cond.selects "BlameCourt$Running" yX7_workPlain yX7_workPlain ∈ gtb := gtm (in_lw_privs_6 (q := (yX7_workPlain, 20)) (List.mem_of_getElem? (i := 12) rfl)) rfl
theorem kv_X7_workPlain : KV yX7_workPlain := ⟨k1313, k92⟩
theorem k1242 : Cond.code yX7_workRowOrCall cX7_workRowOrCall 4 none ∈ gtb := gtm (in_tables_1_5 (List.mem_of_getElem? (i := 96) rfl)) rfl
theorem ka_X7_workRowOrCall : KA yX7_workRowOrCall cX7_workRowOrCall 4 none 3 := ⟨k1242, k195, by decide, by decide, by decide +kernel⟩
theorem k1241 : Cond.instanceMethod yX7_workRowOrCall ∈ gtb := gtm (in_tables_1_5 (List.mem_of_getElem? (i := 95) rfl)) rfl
theorem k81 : Cond.selects "BlameCourt$Running" yX7_workRowOrCall yX7_workRowOrCall ∈ gtb := gtm (in_lw_privs_6 (q := (yX7_workRowOrCall, 20)) (List.mem_of_getElem? (i := 1) rfl)) rfl
theorem kv_X7_workRowOrCall : KV yX7_workRowOrCall := ⟨k1241, k81⟩
noncomputable def g_Running_resultOf (p0 : Int32) (p1 : Int32) (p2 : Int32) (X : St) : Option (Int32 × St) :=
  if p0.toInt = 22 then
    letV (p1 + p2) fun x2 =>
    some (x2, X)
  else if p0.toInt = 23 then
    letV (p1 - p2) fun x4 =>
    some (x4, X)
  else if p0.toInt = 24 then
    letV (p1 * p2) fun x6 =>
    some (x6, X)
  else if p0.toInt = 25 then
    if p2.toInt = 0 then
      some (0, X)
    else
      chk (¬ p2.toInt = 0) (letV (p1 / p2) fun x8 =>
      some (x8, X))
  else if p2.toInt = 0 then
    some (0, X)
  else
    chk (¬ p2.toInt = 0) (letV (p1 - p1 / p2 * p2) fun x10 =>
    some (x10, X))
set_option maxHeartbeats 4000000 in
set_option maxRecDepth 100000 in
theorem k_Running_resultOf (Γ : GxC) (p0 : Int32) (p1 : Int32) (p2 : Int32) (X : St) : TCI YC Γ yX7_resultOf cX7_resultOf 3 "BlameCourt$Running" (some .int) { frames := 2, cells := 0, slots := 0, locals := 70 } [.int p0, .int p1, .int p2] X (g_Running_resultOf p0 p1 p2 X) := by
  refine TCI.of (by decide) (Nat.le_of_ble_eq_true rfl) rfl ?_
  show TC YC Γ cX7_resultOf 3 "BlameCourt$Running" (some .int) { frames := 2, cells := 0, slots := 0, locals := 70 } _ kI 0 [(0, .int p0), (1, .int p1), (2, .int p2)] [] X (g_Running_resultOf p0 p1 p2 X)
  unfold g_Running_resultOf
  refine TC.iload_n dX7_resultOf_0 rfl 0 rfl ?_
  refine TC.ite (fun s1 => ?_) (fun s1 => ?_)
  · refine TC.tbl (pc1 := 32) dX7_resultOf_1 (by decide) (off := 31) (by rw [s1]; rfl) (by decide) ?_
    refine TC.iload_n dX7_resultOf_32 rfl 1 rfl ?_
    refine TC.iload_n dX7_resultOf_33 rfl 2 rfl ?_
    refine TC.iadd dX7_resultOf_34 (fun x2 => ?_)
    exact TC.ret_i rfl dX7_resultOf_35
  refine TC.ite (fun s3 => ?_) (fun s3 => ?_)
  · refine TC.tbl (pc1 := 36) dX7_resultOf_1 (by decide) (off := 35) (by rw [s3]; rfl) (by decide) ?_
    refine TC.iload_n dX7_resultOf_36 rfl 1 rfl ?_
    refine TC.iload_n dX7_resultOf_37 rfl 2 rfl ?_
    refine TC.isub dX7_resultOf_38 (fun x4 => ?_)
    exact TC.ret_i rfl dX7_resultOf_39
  refine TC.ite (fun s5 => ?_) (fun s5 => ?_)
  · refine TC.tbl (pc1 := 40) dX7_resultOf_1 (by decide) (off := 39) (by rw [s5]; rfl) (by decide) ?_
    refine TC.iload_n dX7_resultOf_40 rfl 1 rfl ?_
    refine TC.iload_n dX7_resultOf_41 rfl 2 rfl ?_
    refine TC.imul dX7_resultOf_42 (fun x6 => ?_)
    exact TC.ret_i rfl dX7_resultOf_43
  refine TC.ite (fun s7 => ?_) (fun s7 => ?_)
  · refine TC.tbl (pc1 := 44) dX7_resultOf_1 (by decide) (off := 43) (by rw [s7]; rfl) (by decide) ?_
    refine TC.iload_n dX7_resultOf_44 rfl 2 rfl ?_
    refine TC.if_ne (pc1 := 52) dX7_resultOf_45 (by decide) ?_ ?_
    · refine TC.iload_n dX7_resultOf_52 rfl 1 rfl ?_
      refine TC.iload_n dX7_resultOf_53 rfl 2 rfl ?_
      refine TC.ck (fun h9 => TC.idiv dX7_resultOf_54 h9 (fun x8 => ?_))
      exact TC.ret_i rfl dX7_resultOf_55
    · refine TC.iconst (w := 0) dX7_resultOf_48 (by decide) ?_
      refine TC.goto (pc1 := 55) dX7_resultOf_49 (by decide) ?_
      exact TC.ret_i rfl dX7_resultOf_55
  refine TC.tbl (pc1 := 56) dX7_resultOf_1 (by decide) (off := 55) (tbl_d [22, 23, 24, 25] (by intro q; simp only [List.mem_cons, List.not_mem_nil, or_false] at q; omega) (by decide)) (by decide) ?_
  refine TC.iload_n dX7_resultOf_56 rfl 2 rfl ?_
  refine TC.if_ne (pc1 := 64) dX7_resultOf_57 (by decide) ?_ ?_
  · refine TC.iload_n dX7_resultOf_64 rfl 1 rfl ?_
    refine TC.iload_n dX7_resultOf_65 rfl 2 rfl ?_
    refine TC.ck (fun h11 => TC.irem dX7_resultOf_66 h11 (fun x10 => ?_))
    exact TC.ret_i rfl dX7_resultOf_67
  · refine TC.iconst (w := 0) dX7_resultOf_60 (by decide) ?_
    refine TC.goto (pc1 := 67) dX7_resultOf_61 (by decide) ?_
    exact TC.ret_i rfl dX7_resultOf_67
noncomputable def g_Running_workNumbers_88 (b_0 : Int32) (X : St) : Option (Int32 × St) :=
  bnd (g_Running_pushTruth b_0 X) fun _ X5 =>
  some (0, X5)
set_option maxHeartbeats 4000000 in
set_option maxRecDepth 100000 in
theorem k_Running_workNumbers_88 (Γ : GxC) (As : List Value) (b_0 : Int32) (X : St) : TC YC Γ cX7_workNumbers 5 "BlameCourt$Running" none { frames := 4, cells := 0, slots := 0, locals := 150 } As kV 88 [] [.int b_0, .ref (Γ.2.2.2.1 70)] X (g_Running_workNumbers_88 b_0 X) := by
  unfold g_Running_workNumbers_88
  refine TC.callV_v 70 (As1 := [.int b_0]) (rest := []) (k_Running_pushTruth Γ b_0 X) ka_X7_pushTruth kv_X7_pushTruth oC_70 rfl k1232 rfl rfl rfl rfl (show 3 + 1 ≤ 4 ∧ 8 + (2 + 11) + 110 ≤ 150 from ⟨by omega, by omega⟩) (Nat.le_of_ble_eq_true rfl) dX7_workNumbers_88 (fun _ X5 => ?_)
  refine TC.goto (pc1 := 124) dX7_workNumbers_91 (by decide) ?_
  exact TC.ret_v rfl dX7_workNumbers_124
noncomputable def g_Running_workNumbers_56 (a_1 : Int32) (a_3 : Int32) (a_4 : Int32) (X : St) : Option (Int32 × St) :=
  if a_1.toInt = 20 then
    if a_3.toInt ≤ a_4.toInt then
      g_Running_workNumbers_88 (0 : Int32) X
    else
      g_Running_workNumbers_88 (1 : Int32) X
  else
    if a_4.toInt = a_3.toInt then
      g_Running_workNumbers_88 (1 : Int32) X
    else
      g_Running_workNumbers_88 (0 : Int32) X
set_option maxHeartbeats 4000000 in
set_option maxRecDepth 100000 in
theorem k_Running_workNumbers_56 (Γ : GxC) (As : List Value) (a_1 : Int32) (a_3 : Int32) (a_4 : Int32) (X : St) : TC YC Γ cX7_workNumbers 5 "BlameCourt$Running" none { frames := 4, cells := 0, slots := 0, locals := 150 } As kV 56 [(0, .ref (Γ.2.2.2.1 70)), (1, .int a_1), (3, .int a_3), (4, .int a_4)] [] X (g_Running_workNumbers_56 a_1 a_3 a_4 X) := by
  unfold g_Running_workNumbers_56
  refine TC.aload_n dX7_workNumbers_56 rfl 0 rfl ?_
  refine TC.iload_n dX7_workNumbers_57 rfl 1 rfl ?_
  refine TC.bipush (w := 20) dX7_workNumbers_58 (by decide) ?_
  refine TC.icmp_ne (pc1 := 77) dX7_workNumbers_60 (by decide) rfl ?_ ?_
  · refine TC.iload dX7_workNumbers_77 3 rfl ?_
    refine TC.iload_n dX7_workNumbers_79 rfl 2 rfl ?_
    refine TC.icmp_ne (pc1 := 87) dX7_workNumbers_80 (by decide) rfl ?_ ?_
    · refine TC.iconst (w := 0) dX7_workNumbers_87 (by decide) ?_
      refine TC.sub [] rfl ?_
      exact k_Running_workNumbers_88 Γ _ (0 : Int32) X
    · refine TC.iconst (w := 1) dX7_workNumbers_83 (by decide) ?_
      refine TC.goto (pc1 := 88) dX7_workNumbers_84 (by decide) ?_
      refine TC.sub [] rfl ?_
      exact k_Running_workNumbers_88 Γ _ (1 : Int32) X
  · refine TC.iload dX7_workNumbers_63 3 rfl ?_
    refine TC.iload_n dX7_workNumbers_65 rfl 2 rfl ?_
    refine TC.icmp_ge (pc1 := 73) dX7_workNumbers_66 (by decide) rfl ?_ ?_
    · refine TC.iconst (w := 0) dX7_workNumbers_73 (by decide) ?_
      refine TC.goto (pc1 := 88) dX7_workNumbers_74 (by decide) ?_
      refine TC.sub [] rfl ?_
      exact k_Running_workNumbers_88 Γ _ (0 : Int32) X
    · refine TC.iconst (w := 1) dX7_workNumbers_69 (by decide) ?_
      refine TC.goto (pc1 := 88) dX7_workNumbers_70 (by decide) ?_
      refine TC.sub [] rfl ?_
      exact k_Running_workNumbers_88 Γ _ (1 : Int32) X
noncomputable def g_Running_workNumbers_113 (a_1 : Int32) (a_3 : Int32) (a_4 : Int32) (X : St) : Option (Int32 × St) :=
  bnd (g_Running_resultOf a_1 a_4 a_3 X) fun x6 X7 =>
  bnd (g_Running_pushNumber x6 X7) fun _ X8 =>
  some (0, X8)
set_option maxHeartbeats 4000000 in
set_option maxRecDepth 100000 in
theorem k_Running_workNumbers_113 (Γ : GxC) (As : List Value) (a_1 : Int32) (a_3 : Int32) (a_4 : Int32) (X : St) : TC YC Γ cX7_workNumbers 5 "BlameCourt$Running" none { frames := 4, cells := 0, slots := 0, locals := 150 } As kV 113 [(0, .ref (Γ.2.2.2.1 70)), (1, .int a_1), (3, .int a_3), (4, .int a_4)] [] X (g_Running_workNumbers_113 a_1 a_3 a_4 X) := by
  unfold g_Running_workNumbers_113
  refine TC.aload_n dX7_workNumbers_113 rfl 0 rfl ?_
  refine TC.iload_n dX7_workNumbers_114 rfl 1 rfl ?_
  refine TC.iload dX7_workNumbers_115 3 rfl ?_
  refine TC.iload_n dX7_workNumbers_117 rfl 2 rfl ?_
  refine TC.callS_i (As1 := [.int a_1, .int a_4, .int a_3]) (rest := [.ref (Γ.2.2.2.1 70)]) (k_Running_resultOf Γ a_1 a_4 a_3 X) ka_X7_resultOf k1237 k1236 rfl rfl rfl rfl (show 2 + 1 ≤ 4 ∧ 8 + (3 + 11) + 70 ≤ 150 from ⟨by omega, by omega⟩) (Nat.le_of_ble_eq_true rfl) dX7_workNumbers_118 (fun x6 X7 => ?_)
  refine TC.callV_v 70 (As1 := [.int x6]) (rest := []) (k_Running_pushNumber Γ x6 X7) ka_X7_pushNumber kv_X7_pushNumber oC_70 rfl k1228 rfl rfl rfl rfl (show 3 + 1 ≤ 4 ∧ 8 + (2 + 11) + 110 ≤ 150 from ⟨by omega, by omega⟩) (Nat.le_of_ble_eq_true rfl) dX7_workNumbers_121 (fun _ X8 => ?_)
  exact TC.ret_v rfl dX7_workNumbers_124
noncomputable def g_Running_workNumbers_34 (b_0 : Int32) (X : St) : Option (Int32 × St) :=
  bnd (g_Running_pushTruth b_0 X) fun _ X10 =>
  some (0, X10)
set_option maxHeartbeats 4000000 in
set_option maxRecDepth 100000 in
theorem k_Running_workNumbers_34 (Γ : GxC) (As : List Value) (b_0 : Int32) (X : St) : TC YC Γ cX7_workNumbers 5 "BlameCourt$Running" none { frames := 4, cells := 0, slots := 0, locals := 150 } As kV 34 [] [.int b_0, .ref (Γ.2.2.2.1 70)] X (g_Running_workNumbers_34 b_0 X) := by
  unfold g_Running_workNumbers_34
  refine TC.callV_v 70 (As1 := [.int b_0]) (rest := []) (k_Running_pushTruth Γ b_0 X) ka_X7_pushTruth kv_X7_pushTruth oC_70 rfl k1232 rfl rfl rfl rfl (show 3 + 1 ≤ 4 ∧ 8 + (2 + 11) + 110 ≤ 150 from ⟨by omega, by omega⟩) (Nat.le_of_ble_eq_true rfl) dX7_workNumbers_34 (fun _ X10 => ?_)
  exact TC.ret_v rfl dX7_workNumbers_37
noncomputable def g_Running_workNumbers (p1 : Int32) (p2 : Int32) (X : St) : Option (Int32 × St) :=
  bnd (g_Running_popContent X) fun x1 X2 =>
  if p1.toInt = 18 then
    letV (-x1) fun x11 =>
    bnd (g_Running_pushNumber x11 X2) fun _ X12 =>
    some (0, X12)
  else
    if p1.toInt = 19 then
      if x1.toInt = 0 then
        g_Running_workNumbers_34 (1 : Int32) X2
      else
        g_Running_workNumbers_34 (0 : Int32) X2
    else
      bnd (g_Running_popContent X2) fun x3 X4 =>
      if p1.toInt = 20 then
        g_Running_workNumbers_56 p1 x1 x3 X4
      else
        if p1.toInt = 21 then
          g_Running_workNumbers_56 p1 x1 x3 X4
        else
          if x1.toInt = 0 then
            if p1.toInt < 25 then
              g_Running_workNumbers_113 p1 x1 x3 X4
            else
              bnd (g_Running_failWith (2 : Int32) p2 X4) fun _ X9 =>
              some (0, X9)
          else
            g_Running_workNumbers_113 p1 x1 x3 X4
set_option maxHeartbeats 4000000 in
set_option maxRecDepth 100000 in
theorem k_Running_workNumbers (Γ : GxC) (p1 : Int32) (p2 : Int32) (X : St) : TCV YC Γ yX7_workNumbers cX7_workNumbers 5 "BlameCourt$Running" none { frames := 4, cells := 0, slots := 0, locals := 150 } [.ref (Γ.2.2.2.1 70), .int p1, .int p2] X (g_Running_workNumbers p1 p2 X) := by
  refine TCV.of (by decide) (Nat.le_of_ble_eq_true rfl) rfl ?_
  show TC YC Γ cX7_workNumbers 5 "BlameCourt$Running" none { frames := 4, cells := 0, slots := 0, locals := 150 } _ kV 0 [(0, .ref (Γ.2.2.2.1 70)), (1, .int p1), (2, .int p2)] [] X (g_Running_workNumbers p1 p2 X)
  unfold g_Running_workNumbers
  refine TC.aload_n dX7_workNumbers_0 rfl 0 rfl ?_
  refine TC.callV_i 70 (As1 := []) (rest := []) (k_Running_popContent Γ X) ka_X7_popContent kv_X7_popContent oC_70 rfl k1224 rfl rfl rfl rfl (show 3 + 1 ≤ 4 ∧ 8 + (1 + 11) + 110 ≤ 150 from ⟨by omega, by omega⟩) (Nat.le_of_ble_eq_true rfl) dX7_workNumbers_1 (fun x1 X2 => ?_)
  refine TC.istore_n (lv1 := [(3, .int x1), (0, .ref (Γ.2.2.2.1 70)), (1, .int p1), (2, .int p2)]) dX7_workNumbers_4 rfl (by decide) rfl ?_
  refine TC.iload_n dX7_workNumbers_5 rfl 2 rfl ?_
  refine TC.bipush (w := 18) dX7_workNumbers_6 (by decide) ?_
  refine TC.icmp_ne (pc1 := 18) dX7_workNumbers_8 (by decide) rfl ?_ ?_
  · refine TC.iload_n dX7_workNumbers_18 rfl 2 rfl ?_
    refine TC.bipush (w := 19) dX7_workNumbers_19 (by decide) ?_
    refine TC.icmp_ne (pc1 := 38) dX7_workNumbers_21 (by decide) rfl ?_ ?_
    · refine TC.aload_n dX7_workNumbers_38 rfl 1 rfl ?_
      refine TC.callV_i 70 (As1 := []) (rest := []) (k_Running_popContent Γ X2) ka_X7_popContent kv_X7_popContent oC_70 rfl k1224 rfl rfl rfl rfl (show 3 + 1 ≤ 4 ∧ 8 + (1 + 11) + 110 ≤ 150 from ⟨by omega, by omega⟩) (Nat.le_of_ble_eq_true rfl) dX7_workNumbers_39 (fun x3 X4 => ?_)
      refine TC.istore (lv1 := [(4, .int x3), (3, .int x1), (0, .ref (Γ.2.2.2.1 70)), (1, .int p1), (2, .int p2)]) dX7_workNumbers_42 (by decide) rfl ?_
      refine TC.iload_n dX7_workNumbers_44 rfl 3 rfl ?_
      refine TC.bipush (w := 20) dX7_workNumbers_45 (by decide) ?_
      refine TC.icmp_eq (pc1 := 56) dX7_workNumbers_47 (by decide) rfl ?_ ?_
      · refine TC.sub [2, 3, 1, 0] rfl ?_
        exact k_Running_workNumbers_56 Γ _ p1 x1 x3 X4
      · refine TC.iload_n dX7_workNumbers_50 rfl 3 rfl ?_
        refine TC.bipush (w := 21) dX7_workNumbers_51 (by decide) ?_
        refine TC.icmp_ne (pc1 := 94) dX7_workNumbers_53 (by decide) rfl ?_ ?_
        · refine TC.iload_n dX7_workNumbers_94 rfl 1 rfl ?_
          refine TC.if_ne (pc1 := 113) dX7_workNumbers_95 (by decide) ?_ ?_
          · refine TC.sub [2, 3, 1, 0] rfl ?_
            exact k_Running_workNumbers_113 Γ _ p1 x1 x3 X4
          · refine TC.iload_n dX7_workNumbers_98 rfl 3 rfl ?_
            refine TC.bipush (w := 25) dX7_workNumbers_99 (by decide) ?_
            refine TC.icmp_lt (pc1 := 113) dX7_workNumbers_101 (by decide) rfl ?_ ?_
            · refine TC.sub [2, 3, 1, 0] rfl ?_
              exact k_Running_workNumbers_113 Γ _ p1 x1 x3 X4
            · refine TC.aload_n dX7_workNumbers_104 rfl 2 rfl ?_
              refine TC.iconst (w := 2) dX7_workNumbers_105 (by decide) ?_
              refine TC.iload_n dX7_workNumbers_106 rfl 4 rfl ?_
              refine TC.callV_v 70 (As1 := [.int 2, .int p2]) (rest := []) (k_Running_failWith Γ (2 : Int32) p2 X4) ka_X7_failWith kv_X7_failWith oC_70 rfl k1153 rfl rfl rfl rfl (show 2 + 1 ≤ 4 ∧ 8 + (3 + 11) + 70 ≤ 150 from ⟨by omega, by omega⟩) (Nat.le_of_ble_eq_true rfl) dX7_workNumbers_107 (fun _ X9 => ?_)
              refine TC.goto (pc1 := 124) dX7_workNumbers_110 (by decide) ?_
              exact TC.ret_v rfl dX7_workNumbers_124
        · refine TC.sub [2, 3, 1, 0] rfl ?_
          exact k_Running_workNumbers_56 Γ _ p1 x1 x3 X4
    · refine TC.aload_n dX7_workNumbers_24 rfl 1 rfl ?_
      refine TC.iload_n dX7_workNumbers_25 rfl 0 rfl ?_
      refine TC.if_ne (pc1 := 33) dX7_workNumbers_26 (by decide) ?_ ?_
      · refine TC.iconst (w := 0) dX7_workNumbers_33 (by decide) ?_
        refine TC.sub [] rfl ?_
        exact k_Running_workNumbers_34 Γ _ (0 : Int32) X2
      · refine TC.iconst (w := 1) dX7_workNumbers_29 (by decide) ?_
        refine TC.goto (pc1 := 34) dX7_workNumbers_30 (by decide) ?_
        refine TC.sub [] rfl ?_
        exact k_Running_workNumbers_34 Γ _ (1 : Int32) X2
  · refine TC.aload_n dX7_workNumbers_11 rfl 1 rfl ?_
    refine TC.iload_n dX7_workNumbers_12 rfl 0 rfl ?_
    refine TC.ineg dX7_workNumbers_13 (fun x11 => ?_)
    refine TC.callV_v 70 (As1 := [.int x11]) (rest := []) (k_Running_pushNumber Γ x11 X2) ka_X7_pushNumber kv_X7_pushNumber oC_70 rfl k1228 rfl rfl rfl rfl (show 3 + 1 ≤ 4 ∧ 8 + (2 + 11) + 110 ≤ 150 from ⟨by omega, by omega⟩) (Nat.le_of_ble_eq_true rfl) dX7_workNumbers_14 (fun _ X12 => ?_)
    exact TC.ret_v rfl dX7_workNumbers_17
noncomputable def g_Running_makeRow_34_s (r34 : Int64 → Int32 → St → Option (Int32 × St)) (l_3 : Int64) (a_5 : Int32) (X : St) : Option (Int32 × St) :=
  if a_5.toInt < 0 then
    bnd (g_Running_push l_3 X) fun _ X6 =>
    some (0, X6)
  else
    bnd (g_Running_pop X) fun y7 X8 =>
    bnd (g_Heap_store l_3 a_5 y7 X8) fun _ X9 =>
    letV (a_5 + Int32.ofInt (-1)) fun x10 =>
    r34 l_3 x10 X9
noncomputable def g_Running_makeRow_34 (n : Nat) : Int64 → Int32 → St → Option (Int32 × St) := lp (fun _ _ _ => none) (g_Running_makeRow_34_s) n
set_option maxHeartbeats 4000000 in
set_option maxRecDepth 100000 in
theorem k_Running_makeRow_34 (Γ : GxC) (As : List Value) (n : Nat) : ∀ (l_3 : Int64) (a_5 : Int32) (X : St), TC YC Γ cX7_makeRow 6 "BlameCourt$Running" none { frames := 6, cells := 0, slots := 0, locals := 230 } As kV 34 [(0, .ref (Γ.2.2.2.1 70)), (3, .long l_3), (5, .int a_5)] [] X (g_Running_makeRow_34 n l_3 a_5 X) := by
  unfold g_Running_makeRow_34
  refine lp_ind (P := fun (r34 : Int64 → Int32 → St → Option (Int32 × St)) => ∀ (l_3 : Int64) (a_5 : Int32) (X : St), TC YC Γ cX7_makeRow 6 "BlameCourt$Running" none { frames := 6, cells := 0, slots := 0, locals := 230 } As kV 34 [(0, .ref (Γ.2.2.2.1 70)), (3, .long l_3), (5, .int a_5)] [] X (r34 l_3 a_5 X)) (fun _ _ _ => TC.no) ?_ n
  intro r34 hr34 l_3 a_5 X
  unfold g_Running_makeRow_34_s
  refine TC.iload dX7_makeRow_34 2 rfl ?_
  refine TC.if_lt (pc1 := 59) dX7_makeRow_36 (by decide) ?_ ?_
  · refine TC.aload_n dX7_makeRow_59 rfl 0 rfl ?_
    refine TC.lload_n dX7_makeRow_60 rfl 1 rfl ?_
    refine TC.callV_v 70 (As1 := [.long l_3]) (rest := []) (k_Running_push Γ l_3 X) ka_X7_push kv_X7_push oC_70 rfl k1145 rfl rfl rfl rfl (show 2 + 1 ≤ 6 ∧ 8 + (3 + 11) + 70 ≤ 230 from ⟨by omega, by omega⟩) (Nat.le_of_ble_eq_true rfl) dX7_makeRow_61 (fun _ X6 => ?_)
    exact TC.ret_v rfl dX7_makeRow_64
  · refine TC.aload_n dX7_makeRow_39 rfl 0 rfl ?_
    refine cC6_1 k616 dX7_makeRow_40 ?_
    refine TC.lload_n dX7_makeRow_43 rfl 1 rfl ?_
    refine TC.iload dX7_makeRow_44 2 rfl ?_
    refine TC.aload_n dX7_makeRow_46 rfl 0 rfl ?_
    refine TC.callV_l 70 (As1 := []) (rest := [.int a_5, .long l_3, .ref (Γ.2.2.2.1 71)]) (k_Running_pop Γ X) ka_X7_pop kv_X7_pop oC_70 rfl k1161 rfl rfl rfl rfl (show 2 + 1 ≤ 6 ∧ 8 + (1 + 11) + 70 ≤ 230 from ⟨by omega, by omega⟩) (Nat.le_of_ble_eq_true rfl) dX7_makeRow_47 (fun y7 X8 => ?_)
    refine TC.callV_v 71 (As1 := [.long l_3, .int a_5, .long y7]) (rest := []) (k_Heap_store Γ l_3 a_5 y7 X8) ka_X1_store kv_X1_store oC_71 rfl k1252 rfl rfl rfl rfl (show 5 + 1 ≤ 6 ∧ 8 + (6 + 11) + 190 ≤ 230 from ⟨by omega, by omega⟩) (Nat.le_of_ble_eq_true rfl) dX7_makeRow_50 (fun _ X9 => ?_)
    refine TC.iinc dX7_makeRow_53 2 rfl (by decide) (lvf := fun x10 => [(5, .int x10), (0, .ref (Γ.2.2.2.1 70)), (3, .long l_3)]) (fun _ => rfl) (fun x10 => ?_)
    refine TC.goto (pc1 := 34) dX7_makeRow_56 (by decide) ?_
    refine TC.sub [1, 2, 0] rfl ?_
    exact hr34 l_3 x10 X9
noncomputable def g_Running_makeRow (p1 : Int32) (p2 : Int32) (X : St) : Option (Int32 × St) :=
  bnd (g_Heap_hasRoom p1 X) fun x1 X2 =>
  if x1.toInt = 0 then
    bnd (g_Running_failWith (6 : Int32) p2 X2) fun _ X11 =>
    some (0, X11)
  else
    bnd (g_Heap_newRow p1 (0 : Int64) X2) fun y3 X4 =>
    letV (p1 - (1 : Int32)) fun x5 =>
    g_Running_makeRow_34 BIG y3 x5 X4
set_option maxHeartbeats 4000000 in
set_option maxRecDepth 100000 in
theorem k_Running_makeRow (Γ : GxC) (p1 : Int32) (p2 : Int32) (X : St) : TCV YC Γ yX7_makeRow cX7_makeRow 6 "BlameCourt$Running" none { frames := 6, cells := 0, slots := 0, locals := 230 } [.ref (Γ.2.2.2.1 70), .int p1, .int p2] X (g_Running_makeRow p1 p2 X) := by
  refine TCV.of (by decide) (Nat.le_of_ble_eq_true rfl) rfl ?_
  show TC YC Γ cX7_makeRow 6 "BlameCourt$Running" none { frames := 6, cells := 0, slots := 0, locals := 230 } _ kV 0 [(0, .ref (Γ.2.2.2.1 70)), (1, .int p1), (2, .int p2)] [] X (g_Running_makeRow p1 p2 X)
  unfold g_Running_makeRow
  refine TC.aload_n dX7_makeRow_0 rfl 0 rfl ?_
  refine cC6_1 k616 dX7_makeRow_1 ?_
  refine TC.iload_n dX7_makeRow_4 rfl 1 rfl ?_
  refine TC.callV_i 71 (As1 := [.int p1]) (rest := []) (k_Heap_hasRoom Γ p1 X) ka_X1_hasRoom kv_X1_hasRoom oC_71 rfl k1216 rfl rfl rfl rfl (show 2 + 1 ≤ 6 ∧ 8 + (2 + 11) + 70 ≤ 230 from ⟨by omega, by omega⟩) (Nat.le_of_ble_eq_true rfl) dX7_makeRow_5 (fun x1 X2 => ?_)
  refine TC.if_ne (pc1 := 19) dX7_makeRow_8 (by decide) ?_ ?_
  · refine TC.aload_n dX7_makeRow_19 rfl 0 rfl ?_
    refine cC6_1 k616 dX7_makeRow_20 ?_
    refine TC.iload_n dX7_makeRow_23 rfl 1 rfl ?_
    refine TC.lconst (w := 0) dX7_makeRow_24 (by decide) ?_
    refine TC.callV_l 71 (As1 := [.int p1, .long 0]) (rest := []) (k_Heap_newRow Γ p1 (0 : Int64) X2) ka_X1_newRow kv_X1_newRow oC_71 rfl k1247 rfl rfl rfl rfl (show 3 + 1 ≤ 6 ∧ 8 + (6 + 11) + 110 ≤ 230 from ⟨by omega, by omega⟩) (Nat.le_of_ble_eq_true rfl) dX7_makeRow_25 (fun y3 X4 => ?_)
    refine TC.lstore_n (lv1 := [(3, .long y3), (0, .ref (Γ.2.2.2.1 70)), (1, .int p1), (2, .int p2)]) dX7_makeRow_28 rfl (by decide) rfl ?_
    refine TC.iload_n dX7_makeRow_29 rfl 2 rfl ?_
    refine TC.iconst (w := 1) dX7_makeRow_30 (by decide) ?_
    refine TC.isub dX7_makeRow_31 (fun x5 => ?_)
    refine TC.istore (lv1 := [(5, .int x5), (3, .long y3), (0, .ref (Γ.2.2.2.1 70)), (1, .int p1), (2, .int p2)]) dX7_makeRow_32 (by decide) rfl ?_
    refine TC.sub [2, 1, 0] rfl ?_
    exact k_Running_makeRow_34 Γ _ BIG y3 x5 X4
  · refine TC.aload_n dX7_makeRow_11 rfl 0 rfl ?_
    refine TC.bipush (w := 6) dX7_makeRow_12 (by decide) ?_
    refine TC.iload_n dX7_makeRow_14 rfl 2 rfl ?_
    refine TC.callV_v 70 (As1 := [.int 6, .int p2]) (rest := []) (k_Running_failWith Γ (6 : Int32) p2 X2) ka_X7_failWith kv_X7_failWith oC_70 rfl k1153 rfl rfl rfl rfl (show 2 + 1 ≤ 6 ∧ 8 + (3 + 11) + 70 ≤ 230 from ⟨by omega, by omega⟩) (Nat.le_of_ble_eq_true rfl) dX7_makeRow_15 (fun _ X11 => ?_)
    exact TC.ret_v rfl dX7_makeRow_18
noncomputable def g_Running_makeNew_24 (a_1 : Int32) (X : St) : Option (Int32 × St) :=
  bnd (g_Running_failWith (1 : Int32) a_1 X) fun _ X5 =>
  some (0, X5)
set_option maxHeartbeats 4000000 in
set_option maxRecDepth 100000 in
theorem k_Running_makeNew_24 (Γ : GxC) (As : List Value) (a_1 : Int32) (X : St) : TC YC Γ cX7_makeNew 5 "BlameCourt$Running" none { frames := 4, cells := 0, slots := 0, locals := 150 } As kV 24 [(0, .ref (Γ.2.2.2.1 70)), (1, .int a_1)] [] X (g_Running_makeNew_24 a_1 X) := by
  unfold g_Running_makeNew_24
  refine TC.aload_n dX7_makeNew_24 rfl 0 rfl ?_
  refine TC.iconst (w := 1) dX7_makeNew_25 (by decide) ?_
  refine TC.iload_n dX7_makeNew_26 rfl 1 rfl ?_
  refine TC.callV_v 70 (As1 := [.int 1, .int a_1]) (rest := []) (k_Running_failWith Γ (1 : Int32) a_1 X) ka_X7_failWith kv_X7_failWith oC_70 rfl k1153 rfl rfl rfl rfl (show 2 + 1 ≤ 4 ∧ 8 + (3 + 11) + 70 ≤ 150 from ⟨by omega, by omega⟩) (Nat.le_of_ble_eq_true rfl) dX7_makeNew_27 (fun _ X5 => ?_)
  refine TC.goto (pc1 := 69) dX7_makeNew_30 (by decide) ?_
  exact TC.ret_v rfl dX7_makeNew_69
noncomputable def g_Running_makeNew (p1 : Int32) (X : St) : Option (Int32 × St) :=
  bnd (g_Running_pop X) fun y1 X2 =>
  bnd (g_Running_popContent X2) fun x3 X4 =>
  if x3.toInt < 0 then
    g_Running_makeNew_24 p1 X4
  else
    if x3.toInt ≤ 1000 then
      bnd (g_Heap_hasRoom x3 X4) fun x6 X7 =>
      if x6.toInt = 0 then
        bnd (g_Running_failWith (6 : Int32) p1 X7) fun _ X11 =>
        some (0, X11)
      else
        bnd (g_Heap_newRow x3 y1 X7) fun y8 X9 =>
        bnd (g_Running_push y8 X9) fun _ X10 =>
        some (0, X10)
    else
      g_Running_makeNew_24 p1 X4
set_option maxHeartbeats 4000000 in
set_option maxRecDepth 100000 in
theorem k_Running_makeNew (Γ : GxC) (p1 : Int32) (X : St) : TCV YC Γ yX7_makeNew cX7_makeNew 5 "BlameCourt$Running" none { frames := 4, cells := 0, slots := 0, locals := 150 } [.ref (Γ.2.2.2.1 70), .int p1] X (g_Running_makeNew p1 X) := by
  refine TCV.of (by decide) (Nat.le_of_ble_eq_true rfl) rfl ?_
  show TC YC Γ cX7_makeNew 5 "BlameCourt$Running" none { frames := 4, cells := 0, slots := 0, locals := 150 } _ kV 0 [(0, .ref (Γ.2.2.2.1 70)), (1, .int p1)] [] X (g_Running_makeNew p1 X)
  unfold g_Running_makeNew
  refine TC.aload_n dX7_makeNew_0 rfl 0 rfl ?_
  refine TC.callV_l 70 (As1 := []) (rest := []) (k_Running_pop Γ X) ka_X7_pop kv_X7_pop oC_70 rfl k1161 rfl rfl rfl rfl (show 2 + 1 ≤ 4 ∧ 8 + (1 + 11) + 70 ≤ 150 from ⟨by omega, by omega⟩) (Nat.le_of_ble_eq_true rfl) dX7_makeNew_1 (fun y1 X2 => ?_)
  refine TC.lstore_n (lv1 := [(2, .long y1), (0, .ref (Γ.2.2.2.1 70)), (1, .int p1)]) dX7_makeNew_4 rfl (by decide) rfl ?_
  refine TC.aload_n dX7_makeNew_5 rfl 1 rfl ?_
  refine TC.callV_i 70 (As1 := []) (rest := []) (k_Running_popContent Γ X2) ka_X7_popContent kv_X7_popContent oC_70 rfl k1224 rfl rfl rfl rfl (show 3 + 1 ≤ 4 ∧ 8 + (1 + 11) + 110 ≤ 150 from ⟨by omega, by omega⟩) (Nat.le_of_ble_eq_true rfl) dX7_makeNew_6 (fun x3 X4 => ?_)
  refine TC.istore (lv1 := [(4, .int x3), (2, .long y1), (0, .ref (Γ.2.2.2.1 70)), (1, .int p1)]) dX7_makeNew_9 (by decide) rfl ?_
  refine TC.iload dX7_makeNew_11 0 rfl ?_
  refine TC.if_lt (pc1 := 24) dX7_makeNew_13 (by decide) ?_ ?_
  · refine TC.sub [2, 3] rfl ?_
    exact k_Running_makeNew_24 Γ _ p1 X4
  · refine TC.iload dX7_makeNew_16 0 rfl ?_
    refine TC.sipush (w := 1000) dX7_makeNew_18 (by decide) ?_
    refine TC.icmp_le (pc1 := 33) dX7_makeNew_21 (by decide) rfl ?_ ?_
    · refine TC.aload_n dX7_makeNew_33 rfl 2 rfl ?_
      refine cC6_1 k616 dX7_makeNew_34 ?_
      refine TC.iload dX7_makeNew_37 0 rfl ?_
      refine TC.callV_i 71 (As1 := [.int x3]) (rest := []) (k_Heap_hasRoom Γ x3 X4) ka_X1_hasRoom kv_X1_hasRoom oC_71 rfl k1216 rfl rfl rfl rfl (show 2 + 1 ≤ 4 ∧ 8 + (2 + 11) + 70 ≤ 150 from ⟨by omega, by omega⟩) (Nat.le_of_ble_eq_true rfl) dX7_makeNew_39 (fun x6 X7 => ?_)
      refine TC.if_ne (pc1 := 55) dX7_makeNew_42 (by decide) ?_ ?_
      · refine TC.aload_n dX7_makeNew_55 rfl 2 rfl ?_
        refine TC.aload_n dX7_makeNew_56 rfl 2 rfl ?_
        refine cC6_1 k616 dX7_makeNew_57 ?_
        refine TC.iload dX7_makeNew_60 0 rfl ?_
        refine TC.lload_n dX7_makeNew_62 rfl 1 rfl ?_
        refine TC.callV_l 71 (As1 := [.int x3, .long y1]) (rest := [.ref (Γ.2.2.2.1 70)]) (k_Heap_newRow Γ x3 y1 X7) ka_X1_newRow kv_X1_newRow oC_71 rfl k1247 rfl rfl rfl rfl (show 3 + 1 ≤ 4 ∧ 8 + (6 + 11) + 110 ≤ 150 from ⟨by omega, by omega⟩) (Nat.le_of_ble_eq_true rfl) dX7_makeNew_63 (fun y8 X9 => ?_)
        refine TC.callV_v 70 (As1 := [.long y8]) (rest := []) (k_Running_push Γ y8 X9) ka_X7_push kv_X7_push oC_70 rfl k1145 rfl rfl rfl rfl (show 2 + 1 ≤ 4 ∧ 8 + (3 + 11) + 70 ≤ 150 from ⟨by omega, by omega⟩) (Nat.le_of_ble_eq_true rfl) dX7_makeNew_66 (fun _ X10 => ?_)
        exact TC.ret_v rfl dX7_makeNew_69
      · refine TC.aload_n dX7_makeNew_45 rfl 2 rfl ?_
        refine TC.bipush (w := 6) dX7_makeNew_46 (by decide) ?_
        refine TC.iload_n dX7_makeNew_48 rfl 3 rfl ?_
        refine TC.callV_v 70 (As1 := [.int 6, .int p1]) (rest := []) (k_Running_failWith Γ (6 : Int32) p1 X7) ka_X7_failWith kv_X7_failWith oC_70 rfl k1153 rfl rfl rfl rfl (show 2 + 1 ≤ 4 ∧ 8 + (3 + 11) + 70 ≤ 150 from ⟨by omega, by omega⟩) (Nat.le_of_ble_eq_true rfl) dX7_makeNew_49 (fun _ X11 => ?_)
        refine TC.goto (pc1 := 69) dX7_makeNew_52 (by decide) ?_
        exact TC.ret_v rfl dX7_makeNew_69
    · refine TC.sub [2, 3] rfl ?_
      exact k_Running_makeNew_24 Γ _ p1 X4
noncomputable def g_Running_print (p1 : Int32) (X : St) : Option (Int32 × St) :=
  letV (X.1 70 18) fun x1 =>
  if x1.toInt < 200 then
    letV (X.1 70 18) fun x2 =>
    bnd (g_Running_popContent X) fun x3 X4 =>
    chk (inR x2 200) (letV (wI X4 86 (ix x2) x3) fun X5 =>
    letV (X5.1 70 18) fun x6 =>
    chk (inR x6 200) (letV (X5.1 86 (ix x6)) fun x7 =>
    bnd (g_Running_pushNumber x7 X5) fun _ X8 =>
    letV (X8.1 70 18) fun x9 =>
    letV (x9 + (1 : Int32)) fun x10 =>
    letV (wI X8 70 18 x10) fun X11 =>
    some (0, X11)))
  else
    bnd (g_Running_failWith (6 : Int32) p1 X) fun _ X12 =>
    some (0, X12)
set_option maxHeartbeats 4000000 in
set_option maxRecDepth 100000 in
theorem k_Running_print (Γ : GxC) (p1 : Int32) (X : St) : TCV YC Γ yX7_print cX7_print 2 "BlameCourt$Running" none { frames := 4, cells := 0, slots := 0, locals := 150 } [.ref (Γ.2.2.2.1 70), .int p1] X (g_Running_print p1 X) := by
  refine TCV.of (by decide) (Nat.le_of_ble_eq_true rfl) rfl ?_
  show TC YC Γ cX7_print 2 "BlameCourt$Running" none { frames := 4, cells := 0, slots := 0, locals := 150 } _ kV 0 [(0, .ref (Γ.2.2.2.1 70)), (1, .int p1)] [] X (g_Running_print p1 X)
  unfold g_Running_print
  refine TC.aload_n dX7_print_0 rfl 0 rfl ?_
  refine gC6_18 k634 dX7_print_1 (fun x1 => ?_)
  refine TC.sipush (w := 200) dX7_print_4 (by decide) ?_
  refine TC.icmp_lt (pc1 := 18) dX7_print_7 (by decide) rfl ?_ ?_
  · refine TC.aload_n dX7_print_18 rfl 0 rfl ?_
    refine cC6_17 k632 dX7_print_19 ?_
    refine TC.aload_n dX7_print_22 rfl 0 rfl ?_
    refine gC6_18 k634 dX7_print_23 (fun x2 => ?_)
    refine TC.aload_n dX7_print_26 rfl 0 rfl ?_
    refine TC.callV_i 70 (As1 := []) (rest := [.int x2, .ref (Γ.2.2.2.1 86)]) (k_Running_popContent Γ X) ka_X7_popContent kv_X7_popContent oC_70 rfl k1224 rfl rfl rfl rfl (show 3 + 1 ≤ 4 ∧ 8 + (1 + 11) + 110 ≤ 150 from ⟨by omega, by omega⟩) (Nat.le_of_ble_eq_true rfl) dX7_print_27 (fun x3 X4 => ?_)
    refine asC86 dX7_print_30 (fun X5 => ?_)
    refine TC.aload_n dX7_print_31 rfl 0 rfl ?_
    refine TC.aload_n dX7_print_32 rfl 0 rfl ?_
    refine cC6_17 k632 dX7_print_33 ?_
    refine TC.aload_n dX7_print_36 rfl 0 rfl ?_
    refine gC6_18 k634 dX7_print_37 (fun x6 => ?_)
    refine alC86 dX7_print_40 (fun x7 => ?_)
    refine TC.callV_v 70 (As1 := [.int x7]) (rest := []) (k_Running_pushNumber Γ x7 X5) ka_X7_pushNumber kv_X7_pushNumber oC_70 rfl k1228 rfl rfl rfl rfl (show 3 + 1 ≤ 4 ∧ 8 + (2 + 11) + 110 ≤ 150 from ⟨by omega, by omega⟩) (Nat.le_of_ble_eq_true rfl) dX7_print_41 (fun _ X8 => ?_)
    refine TC.aload_n dX7_print_44 rfl 0 rfl ?_
    refine TC.dupr dX7_print_45 ?_
    refine gC6_18 k634 dX7_print_46 (fun x9 => ?_)
    refine TC.iconst (w := 1) dX7_print_49 (by decide) ?_
    refine TC.iadd dX7_print_50 (fun x10 => ?_)
    refine pC6_18 k634 dX7_print_51 (fun X11 => ?_)
    exact TC.ret_v rfl dX7_print_54
  · refine TC.aload_n dX7_print_10 rfl 0 rfl ?_
    refine TC.bipush (w := 6) dX7_print_11 (by decide) ?_
    refine TC.iload_n dX7_print_13 rfl 1 rfl ?_
    refine TC.callV_v 70 (As1 := [.int 6, .int p1]) (rest := []) (k_Running_failWith Γ (6 : Int32) p1 X) ka_X7_failWith kv_X7_failWith oC_70 rfl k1153 rfl rfl rfl rfl (show 2 + 1 ≤ 4 ∧ 8 + (3 + 11) + 70 ≤ 150 from ⟨by omega, by omega⟩) (Nat.le_of_ble_eq_true rfl) dX7_print_14 (fun _ X12 => ?_)
    exact TC.ret_v rfl dX7_print_17
noncomputable def g_Running_unwrap_15_s (r15 : Int32 → Int32 → Int32 → St → Option (Int32 × St)) (a_3 : Int32) (a_4 : Int32) (a_5 : Int32) (X : St) : Option (Int32 × St) :=
  if 20 ≤ a_5.toInt then
    some (a_3, X)
  else
    if a_4.toInt = -1 then
      some (a_3, X)
    else
      chk (inR a_5 20) (letV (wI X 85 (ix a_5) a_4) fun X3 =>
      letV (a_3 + Int32.ofInt (1)) fun x4 =>
      chk (inR a_4 1000) (letV (X3.2.1 75 (ix a_4)) fun y5 =>
      bnd (g_Heap_wrappingOf y5 X3) fun x6 X7 =>
      letV (a_5 + Int32.ofInt (1)) fun x8 =>
      r15 x4 x6 x8 X7))
noncomputable def g_Running_unwrap_15 (n : Nat) : Int32 → Int32 → Int32 → St → Option (Int32 × St) := lp (fun _ _ _ _ => none) (g_Running_unwrap_15_s) n
set_option maxHeartbeats 4000000 in
set_option maxRecDepth 100000 in
theorem k_Running_unwrap_15 (Γ : GxC) (As : List Value) (n : Nat) : ∀ (a_3 : Int32) (a_4 : Int32) (a_5 : Int32) (X : St), TC YC Γ cX7_unwrap 6 "BlameCourt$Running" (some .int) { frames := 3, cells := 0, slots := 0, locals := 110 } As kI 15 [(0, .ref (Γ.2.2.2.1 70)), (3, .int a_3), (4, .int a_4), (5, .int a_5)] [] X (g_Running_unwrap_15 n a_3 a_4 a_5 X) := by
  unfold g_Running_unwrap_15
  refine lp_ind (P := fun (r15 : Int32 → Int32 → Int32 → St → Option (Int32 × St)) => ∀ (a_3 : Int32) (a_4 : Int32) (a_5 : Int32) (X : St), TC YC Γ cX7_unwrap 6 "BlameCourt$Running" (some .int) { frames := 3, cells := 0, slots := 0, locals := 110 } As kI 15 [(0, .ref (Γ.2.2.2.1 70)), (3, .int a_3), (4, .int a_4), (5, .int a_5)] [] X (r15 a_3 a_4 a_5 X)) (fun _ _ _ _ => TC.no) ?_ n
  intro r15 hr15 a_3 a_4 a_5 X
  unfold g_Running_unwrap_15_s
  refine TC.iload dX7_unwrap_15 3 rfl ?_
  refine TC.bipush (w := 20) dX7_unwrap_17 (by decide) ?_
  refine TC.icmp_ge (pc1 := 65) dX7_unwrap_19 (by decide) rfl ?_ ?_
  · refine TC.iload_n dX7_unwrap_65 rfl 1 rfl ?_
    exact TC.ret_i rfl dX7_unwrap_66
  · refine TC.iload dX7_unwrap_22 2 rfl ?_
    refine TC.iconst (w := (-1)) dX7_unwrap_24 (by decide) ?_
    refine TC.icmp_eq (pc1 := 65) dX7_unwrap_25 (by decide) rfl ?_ ?_
    · refine TC.iload_n dX7_unwrap_65 rfl 1 rfl ?_
      exact TC.ret_i rfl dX7_unwrap_66
    · refine TC.aload_n dX7_unwrap_28 rfl 0 rfl ?_
      refine cC6_16 k631 dX7_unwrap_29 ?_
      refine TC.iload dX7_unwrap_32 3 rfl ?_
      refine TC.iload dX7_unwrap_34 2 rfl ?_
      refine asC85 dX7_unwrap_36 (fun X3 => ?_)
      refine TC.iinc dX7_unwrap_37 1 rfl (by decide) (lvf := fun x4 => [(3, .int x4), (0, .ref (Γ.2.2.2.1 70)), (4, .int a_4), (5, .int a_5)]) (fun _ => rfl) (fun x4 => ?_)
      refine TC.aload_n dX7_unwrap_40 rfl 1 rfl ?_
      refine cC6_1 k616 dX7_unwrap_41 ?_
      refine TC.aload_n dX7_unwrap_44 rfl 1 rfl ?_
      refine cC6_1 k616 dX7_unwrap_45 ?_
      refine cC1_6 k575 dX7_unwrap_48 ?_
      refine TC.iload dX7_unwrap_51 2 rfl ?_
      refine alC75 dX7_unwrap_53 (fun y5 => ?_)
      refine TC.callV_i 71 (As1 := [.long y5]) (rest := []) (k_Heap_wrappingOf Γ y5 X3) ka_X1_wrappingOf kv_X1_wrappingOf oC_71 rfl k1215 rfl rfl rfl rfl (show 2 + 1 ≤ 3 ∧ 8 + (4 + 11) + 70 ≤ 110 from ⟨by omega, by omega⟩) (Nat.le_of_ble_eq_true rfl) dX7_unwrap_54 (fun x6 X7 => ?_)
      refine TC.istore (lv1 := [(4, .int x6), (3, .int x4), (0, .ref (Γ.2.2.2.1 70)), (5, .int a_5)]) dX7_unwrap_57 (by decide) rfl ?_
      refine TC.iinc dX7_unwrap_59 3 rfl (by decide) (lvf := fun x8 => [(5, .int x8), (4, .int x6), (3, .int x4), (0, .ref (Γ.2.2.2.1 70))]) (fun _ => rfl) (fun x8 => ?_)
      refine TC.goto (pc1 := 15) dX7_unwrap_62 (by decide) ?_
      refine TC.sub [3, 2, 1, 0] rfl ?_
      exact hr15 x4 x6 x8 X7
noncomputable def g_Running_unwrap (q1 : Int64) (X : St) : Option (Int32 × St) :=
  bnd (g_Heap_wrappingOf q1 X) fun x1 X2 =>
  g_Running_unwrap_15 BIG (0 : Int32) x1 (0 : Int32) X2
set_option maxHeartbeats 4000000 in
set_option maxRecDepth 100000 in
theorem k_Running_unwrap (Γ : GxC) (q1 : Int64) (X : St) : TCI YC Γ yX7_unwrap cX7_unwrap 6 "BlameCourt$Running" (some .int) { frames := 3, cells := 0, slots := 0, locals := 110 } [.ref (Γ.2.2.2.1 70), .long q1] X (g_Running_unwrap q1 X) := by
  refine TCI.of (by decide) (Nat.le_of_ble_eq_true rfl) rfl ?_
  show TC YC Γ cX7_unwrap 6 "BlameCourt$Running" (some .int) { frames := 3, cells := 0, slots := 0, locals := 110 } _ kI 0 [(0, .ref (Γ.2.2.2.1 70)), (1, .long q1)] [] X (g_Running_unwrap q1 X)
  unfold g_Running_unwrap
  refine TC.iconst (w := 0) dX7_unwrap_0 (by decide) ?_
  refine TC.istore_n (lv1 := [(3, .int 0), (0, .ref (Γ.2.2.2.1 70)), (1, .long q1)]) dX7_unwrap_1 rfl (by decide) rfl ?_
  refine TC.aload_n dX7_unwrap_2 rfl 1 rfl ?_
  refine cC6_1 k616 dX7_unwrap_3 ?_
  refine TC.lload_n dX7_unwrap_6 rfl 2 rfl ?_
  refine TC.callV_i 71 (As1 := [.long q1]) (rest := []) (k_Heap_wrappingOf Γ q1 X) ka_X1_wrappingOf kv_X1_wrappingOf oC_71 rfl k1215 rfl rfl rfl rfl (show 2 + 1 ≤ 3 ∧ 8 + (4 + 11) + 70 ≤ 110 from ⟨by omega, by omega⟩) (Nat.le_of_ble_eq_true rfl) dX7_unwrap_7 (fun x1 X2 => ?_)
  refine TC.istore (lv1 := [(4, .int x1), (3, .int 0), (0, .ref (Γ.2.2.2.1 70)), (1, .long q1)]) dX7_unwrap_10 (by decide) rfl ?_
  refine TC.iconst (w := 0) dX7_unwrap_12 (by decide) ?_
  refine TC.istore (lv1 := [(5, .int 0), (4, .int x1), (3, .int 0), (0, .ref (Γ.2.2.2.1 70)), (1, .long q1)]) dX7_unwrap_13 (by decide) rfl ?_
  refine TC.sub [3, 2, 1, 0] rfl ?_
  exact k_Running_unwrap_15 Γ _ BIG (0 : Int32) x1 (0 : Int32) X2
noncomputable def g_Running_askOutward_12_s (r12 : Int64 → Int32 → St → Option (Int64 × St)) (l_5 : Int64) (a_7 : Int32) (X : St) : Option (Int64 × St) :=
  if a_7.toInt < 0 then
    some (l_5, X)
  else
    chk (inR a_7 20) (letV (X.1 85 (ix a_7)) fun x4 =>
    chk (refO YC (X.2.2 70 2) 4 17 = true) (letV (X.2.2 70 2 - 1) fun e5 =>
    letV (kY YC e5 0 - 3) fun e6 =>
    chk (inR x4 1000) (letV (X.1 76 (ix x4)) fun x7 =>
    bnd (g_Kinds_givesOf e6 x7 X) fun x8 X9 =>
    chk (refO YC (X9.2.2 70 2) 4 17 = true) (letV (X9.2.2 70 2 - 1) fun e10 =>
    letV (kY YC e10 0 - 3) fun e11 =>
    chk (inR x4 1000) (letV (X9.1 77 (ix x4)) fun x12 =>
    bnd (g_Kinds_givesOf e11 x12 X9) fun x13 X14 =>
    chk (inR x4 1000) (letV (X14.1 78 (ix x4)) fun x15 =>
    chk (inR x4 1000) (letV (X14.1 79 (ix x4)) fun x16 =>
    chk (inR x4 1000) (letV (X14.1 80 (ix x4)) fun x17 =>
    bnd (g_Running_ask l_5 x8 x13 x15 x16 x17 X14) fun y18 X19 =>
    letV (a_7 + Int32.ofInt (-1)) fun x20 =>
    r12 y18 x20 X19))))))))
noncomputable def g_Running_askOutward_12 (n : Nat) : Int64 → Int32 → St → Option (Int64 × St) := lp (fun _ _ _ => none) (g_Running_askOutward_12_s) n
set_option maxHeartbeats 4000000 in
set_option maxRecDepth 100000 in
theorem k_Running_askOutward_12 (Γ : GxC) (As : List Value) (n : Nat) : ∀ (l_5 : Int64) (a_7 : Int32) (X : St), TC YC Γ cX7_askOutward 11 "BlameCourt$Running" (some .long) { frames := 5, cells := 0, slots := 0, locals := 190 } As kL 12 [(0, .ref (Γ.2.2.2.1 70)), (5, .long l_5), (7, .int a_7)] [] X (g_Running_askOutward_12 n l_5 a_7 X) := by
  unfold g_Running_askOutward_12
  refine lp_ind (P := fun (r12 : Int64 → Int32 → St → Option (Int64 × St)) => ∀ (l_5 : Int64) (a_7 : Int32) (X : St), TC YC Γ cX7_askOutward 11 "BlameCourt$Running" (some .long) { frames := 5, cells := 0, slots := 0, locals := 190 } As kL 12 [(0, .ref (Γ.2.2.2.1 70)), (5, .long l_5), (7, .int a_7)] [] X (r12 l_5 a_7 X)) (fun _ _ _ => TC.no) ?_ n
  intro r12 hr12 l_5 a_7 X
  unfold g_Running_askOutward_12_s
  refine TC.iload dX7_askOutward_12 2 rfl ?_
  refine TC.if_lt (pc1 := 118) dX7_askOutward_14 (by decide) ?_ ?_
  · refine TC.lload dX7_askOutward_118 1 rfl ?_
    exact TC.ret_l rfl dX7_askOutward_120
  · refine TC.aload_n dX7_askOutward_17 rfl 0 rfl ?_
    refine cC6_16 k631 dX7_askOutward_18 ?_
    refine TC.iload dX7_askOutward_21 2 rfl ?_
    refine alC85 dX7_askOutward_23 (fun x4 => ?_)
    refine TC.istore (lv1 := [(8, .int x4), (0, .ref (Γ.2.2.2.1 70)), (5, .long l_5), (7, .int a_7)]) dX7_askOutward_24 (by decide) rfl ?_
    refine TC.aload_n dX7_askOutward_26 rfl 1 rfl ?_
    refine mC6_2 k617 dX7_askOutward_27 (fun e5 he5 => ?_)
    refine vC4_0 e5 he5 k283 dX7_askOutward_30 (fun e6 he6 => ?_)
    refine TC.aload_n dX7_askOutward_33 rfl 1 rfl ?_
    refine cC6_1 k616 dX7_askOutward_34 ?_
    refine cC1_7 k577 dX7_askOutward_37 ?_
    refine TC.iload dX7_askOutward_40 0 rfl ?_
    refine alC76 dX7_askOutward_42 (fun x7 => ?_)
    refine TC.callV_i e6 (As1 := [.int x7]) (rest := []) (k_Kinds_givesOf Γ e6 he6 x7 X) ka_X3_givesOf kv_X3_givesOf he6 rfl k1293 rfl rfl rfl rfl (show 2 + 1 ≤ 5 ∧ 8 + (2 + 11) + 70 ≤ 190 from ⟨by omega, by omega⟩) (Nat.le_of_ble_eq_true rfl) dX7_askOutward_43 (fun x8 X9 => ?_)
    refine TC.istore (lv1 := [(9, .int x8), (8, .int x4), (0, .ref (Γ.2.2.2.1 70)), (5, .long l_5), (7, .int a_7)]) dX7_askOutward_46 (by decide) rfl ?_
    refine TC.aload_n dX7_askOutward_48 rfl 2 rfl ?_
    refine mC6_2 k617 dX7_askOutward_49 (fun e10 he10 => ?_)
    refine vC4_0 e10 he10 k283 dX7_askOutward_52 (fun e11 he11 => ?_)
    refine TC.aload_n dX7_askOutward_55 rfl 2 rfl ?_
    refine cC6_1 k616 dX7_askOutward_56 ?_
    refine cC1_8 k579 dX7_askOutward_59 ?_
    refine TC.iload dX7_askOutward_62 1 rfl ?_
    refine alC77 dX7_askOutward_64 (fun x12 => ?_)
    refine TC.callV_i e11 (As1 := [.int x12]) (rest := []) (k_Kinds_givesOf Γ e11 he11 x12 X9) ka_X3_givesOf kv_X3_givesOf he11 rfl k1293 rfl rfl rfl rfl (show 2 + 1 ≤ 5 ∧ 8 + (2 + 11) + 70 ≤ 190 from ⟨by omega, by omega⟩) (Nat.le_of_ble_eq_true rfl) dX7_askOutward_65 (fun x13 X14 => ?_)
    refine TC.istore (lv1 := [(10, .int x13), (9, .int x8), (8, .int x4), (0, .ref (Γ.2.2.2.1 70)), (5, .long l_5), (7, .int a_7)]) dX7_askOutward_68 (by decide) rfl ?_
    refine TC.aload_n dX7_askOutward_70 rfl 3 rfl ?_
    refine TC.lload dX7_askOutward_71 4 rfl ?_
    refine TC.iload dX7_askOutward_73 1 rfl ?_
    refine TC.iload dX7_askOutward_75 0 rfl ?_
    refine TC.aload_n dX7_askOutward_77 rfl 3 rfl ?_
    refine cC6_1 k616 dX7_askOutward_78 ?_
    refine cC1_9 k581 dX7_askOutward_81 ?_
    refine TC.iload dX7_askOutward_84 2 rfl ?_
    refine alC78 dX7_askOutward_86 (fun x15 => ?_)
    refine TC.aload_n dX7_askOutward_87 rfl 3 rfl ?_
    refine cC6_1 k616 dX7_askOutward_88 ?_
    refine cC1_10 k583 dX7_askOutward_91 ?_
    refine TC.iload dX7_askOutward_94 2 rfl ?_
    refine alC79 dX7_askOutward_96 (fun x16 => ?_)
    refine TC.aload_n dX7_askOutward_97 rfl 3 rfl ?_
    refine cC6_1 k616 dX7_askOutward_98 ?_
    refine cC1_11 k585 dX7_askOutward_101 ?_
    refine TC.iload dX7_askOutward_104 2 rfl ?_
    refine alC80 dX7_askOutward_106 (fun x17 => ?_)
    refine TC.callV_l 70 (As1 := [.long l_5, .int x8, .int x13, .int x15, .int x16, .int x17]) (rest := []) (k_Running_ask Γ l_5 x8 x13 x15 x16 x17 X14) ka_X7_ask kv_X7_ask oC_70 rfl k1188 rfl rfl rfl rfl (show 4 + 1 ≤ 5 ∧ 8 + (11 + 11) + 150 ≤ 190 from ⟨by omega, by omega⟩) (Nat.le_of_ble_eq_true rfl) dX7_askOutward_107 (fun y18 X19 => ?_)
    refine TC.lstore (lv1 := [(5, .long y18), (10, .int x13), (9, .int x8), (8, .int x4), (0, .ref (Γ.2.2.2.1 70)), (7, .int a_7)]) dX7_askOutward_110 (by decide) rfl ?_
    refine TC.iinc dX7_askOutward_112 5 rfl (by decide) (lvf := fun x20 => [(7, .int x20), (5, .long y18), (10, .int x13), (9, .int x8), (8, .int x4), (0, .ref (Γ.2.2.2.1 70))]) (fun _ => rfl) (fun x20 => ?_)
    refine TC.goto (pc1 := 12) dX7_askOutward_115 (by decide) ?_
    refine TC.sub [5, 1, 0] rfl ?_
    exact hr12 y18 x20 X19
noncomputable def g_Running_askOutward (q1 : Int64) (q3 : Int64) (X : St) : Option (Int64 × St) :=
  bnd (g_Running_unwrap q1 X) fun x1 X2 =>
  letV (x1 - (1 : Int32)) fun x3 =>
  g_Running_askOutward_12 BIG q3 x3 X2
set_option maxHeartbeats 4000000 in
set_option maxRecDepth 100000 in
theorem k_Running_askOutward (Γ : GxC) (q1 : Int64) (q3 : Int64) (X : St) : TCL YC Γ yX7_askOutward cX7_askOutward 11 "BlameCourt$Running" (some .long) { frames := 5, cells := 0, slots := 0, locals := 190 } [.ref (Γ.2.2.2.1 70), .long q1, .long q3] X (g_Running_askOutward q1 q3 X) := by
  refine TCL.of (by decide) (Nat.le_of_ble_eq_true rfl) rfl ?_
  show TC YC Γ cX7_askOutward 11 "BlameCourt$Running" (some .long) { frames := 5, cells := 0, slots := 0, locals := 190 } _ kL 0 [(0, .ref (Γ.2.2.2.1 70)), (1, .long q1), (3, .long q3)] [] X (g_Running_askOutward q1 q3 X)
  unfold g_Running_askOutward
  refine TC.lload_n dX7_askOutward_0 rfl 2 rfl ?_
  refine TC.lstore (lv1 := [(5, .long q3), (0, .ref (Γ.2.2.2.1 70)), (1, .long q1), (3, .long q3)]) dX7_askOutward_1 (by decide) rfl ?_
  refine TC.aload_n dX7_askOutward_3 rfl 1 rfl ?_
  refine TC.lload_n dX7_askOutward_4 rfl 2 rfl ?_
  refine TC.callV_i 70 (As1 := [.long q1]) (rest := []) (k_Running_unwrap Γ q1 X) ka_X7_unwrap kv_X7_unwrap oC_70 rfl k1289 rfl rfl rfl rfl (show 3 + 1 ≤ 5 ∧ 8 + (6 + 11) + 110 ≤ 190 from ⟨by omega, by omega⟩) (Nat.le_of_ble_eq_true rfl) dX7_askOutward_5 (fun x1 X2 => ?_)
  refine TC.iconst (w := 1) dX7_askOutward_8 (by decide) ?_
  refine TC.isub dX7_askOutward_9 (fun x3 => ?_)
  refine TC.istore (lv1 := [(7, .int x3), (5, .long q3), (0, .ref (Γ.2.2.2.1 70)), (1, .long q1), (3, .long q3)]) dX7_askOutward_10 (by decide) rfl ?_
  refine TC.sub [2, 1, 0] rfl ?_
  exact k_Running_askOutward_12 Γ _ BIG q3 x3 X2
noncomputable def g_Running_fetch (p1 : Int32) (X : St) : Option (Int32 × St) :=
  bnd (g_Running_popContent X) fun x1 X2 =>
  bnd (g_Running_pop X2) fun y3 X4 =>
  bnd (g_Heap_core y3 X4) fun y5 X6 =>
  bnd (g_Heap_hasPlace y5 x1 X6) fun x7 X8 =>
  if x7.toInt = 0 then
    bnd (g_Running_failWith (1 : Int32) p1 X8) fun _ X14 =>
    some (0, X14)
  else
    bnd (g_Heap_fetch y5 x1 X8) fun y9 X10 =>
    bnd (g_Running_askOutward y3 y9 X10) fun y11 X12 =>
    bnd (g_Running_push y11 X12) fun _ X13 =>
    some (0, X13)
set_option maxHeartbeats 4000000 in
set_option maxRecDepth 100000 in
theorem k_Running_fetch (Γ : GxC) (p1 : Int32) (X : St) : TCV YC Γ yX7_fetch cX7_fetch 9 "BlameCourt$Running" none { frames := 6, cells := 0, slots := 0, locals := 230 } [.ref (Γ.2.2.2.1 70), .int p1] X (g_Running_fetch p1 X) := by
  refine TCV.of (by decide) (Nat.le_of_ble_eq_true rfl) rfl ?_
  show TC YC Γ cX7_fetch 9 "BlameCourt$Running" none { frames := 6, cells := 0, slots := 0, locals := 230 } _ kV 0 [(0, .ref (Γ.2.2.2.1 70)), (1, .int p1)] [] X (g_Running_fetch p1 X)
  unfold g_Running_fetch
  refine TC.aload_n dX7_fetch_0 rfl 0 rfl ?_
  refine TC.callV_i 70 (As1 := []) (rest := []) (k_Running_popContent Γ X) ka_X7_popContent kv_X7_popContent oC_70 rfl k1224 rfl rfl rfl rfl (show 3 + 1 ≤ 6 ∧ 8 + (1 + 11) + 110 ≤ 230 from ⟨by omega, by omega⟩) (Nat.le_of_ble_eq_true rfl) dX7_fetch_1 (fun x1 X2 => ?_)
  refine TC.istore_n (lv1 := [(2, .int x1), (0, .ref (Γ.2.2.2.1 70)), (1, .int p1)]) dX7_fetch_4 rfl (by decide) rfl ?_
  refine TC.aload_n dX7_fetch_5 rfl 1 rfl ?_
  refine TC.callV_l 70 (As1 := []) (rest := []) (k_Running_pop Γ X2) ka_X7_pop kv_X7_pop oC_70 rfl k1161 rfl rfl rfl rfl (show 2 + 1 ≤ 6 ∧ 8 + (1 + 11) + 70 ≤ 230 from ⟨by omega, by omega⟩) (Nat.le_of_ble_eq_true rfl) dX7_fetch_6 (fun y3 X4 => ?_)
  refine TC.lstore_n (lv1 := [(3, .long y3), (2, .int x1), (0, .ref (Γ.2.2.2.1 70)), (1, .int p1)]) dX7_fetch_9 rfl (by decide) rfl ?_
  refine TC.aload_n dX7_fetch_10 rfl 2 rfl ?_
  refine cC6_1 k616 dX7_fetch_11 ?_
  refine TC.lload_n dX7_fetch_14 rfl 0 rfl ?_
  refine TC.callV_l 71 (As1 := [.long y3]) (rest := []) (k_Heap_core Γ y3 X4) ka_X1_core kv_X1_core oC_71 rfl k1200 rfl rfl rfl rfl (show 3 + 1 ≤ 6 ∧ 8 + (7 + 11) + 110 ≤ 230 from ⟨by omega, by omega⟩) (Nat.le_of_ble_eq_true rfl) dX7_fetch_15 (fun y5 X6 => ?_)
  refine TC.lstore (lv1 := [(5, .long y5), (3, .long y3), (2, .int x1), (0, .ref (Γ.2.2.2.1 70)), (1, .int p1)]) dX7_fetch_18 (by decide) rfl ?_
  refine TC.aload_n dX7_fetch_20 rfl 3 rfl ?_
  refine cC6_1 k616 dX7_fetch_21 ?_
  refine TC.lload dX7_fetch_24 0 rfl ?_
  refine TC.iload_n dX7_fetch_26 rfl 2 rfl ?_
  refine TC.callV_i 71 (As1 := [.long y5, .int x1]) (rest := []) (k_Heap_hasPlace Γ y5 x1 X6) ka_X1_hasPlace kv_X1_hasPlace oC_71 rfl k1280 rfl rfl rfl rfl (show 4 + 1 ≤ 6 ∧ 8 + (4 + 11) + 150 ≤ 230 from ⟨by omega, by omega⟩) (Nat.le_of_ble_eq_true rfl) dX7_fetch_27 (fun x7 X8 => ?_)
  refine TC.if_ne (pc1 := 40) dX7_fetch_30 (by decide) ?_ ?_
  · refine TC.aload_n dX7_fetch_40 rfl 3 rfl ?_
    refine cC6_1 k616 dX7_fetch_41 ?_
    refine TC.lload dX7_fetch_44 0 rfl ?_
    refine TC.iload_n dX7_fetch_46 rfl 2 rfl ?_
    refine TC.callV_l 71 (As1 := [.long y5, .int x1]) (rest := []) (k_Heap_fetch Γ y5 x1 X8) ka_X1_fetch kv_X1_fetch oC_71 rfl k1281 rfl rfl rfl rfl (show 5 + 1 ≤ 6 ∧ 8 + (4 + 11) + 190 ≤ 230 from ⟨by omega, by omega⟩) (Nat.le_of_ble_eq_true rfl) dX7_fetch_47 (fun y9 X10 => ?_)
    refine TC.lstore (lv1 := [(7, .long y9), (5, .long y5), (3, .long y3), (2, .int x1), (0, .ref (Γ.2.2.2.1 70)), (1, .int p1)]) dX7_fetch_50 (by decide) rfl ?_
    refine TC.aload_n dX7_fetch_52 rfl 4 rfl ?_
    refine TC.aload_n dX7_fetch_53 rfl 4 rfl ?_
    refine TC.lload_n dX7_fetch_54 rfl 2 rfl ?_
    refine TC.lload dX7_fetch_55 0 rfl ?_
    refine TC.callV_l 70 (As1 := [.long y3, .long y9]) (rest := [.ref (Γ.2.2.2.1 70)]) (k_Running_askOutward Γ y3 y9 X10) ka_X7_askOutward kv_X7_askOutward oC_70 rfl k1285 rfl rfl rfl rfl (show 5 + 1 ≤ 6 ∧ 8 + (11 + 11) + 190 ≤ 230 from ⟨by omega, by omega⟩) (Nat.le_of_ble_eq_true rfl) dX7_fetch_57 (fun y11 X12 => ?_)
    refine TC.callV_v 70 (As1 := [.long y11]) (rest := []) (k_Running_push Γ y11 X12) ka_X7_push kv_X7_push oC_70 rfl k1145 rfl rfl rfl rfl (show 2 + 1 ≤ 6 ∧ 8 + (3 + 11) + 70 ≤ 230 from ⟨by omega, by omega⟩) (Nat.le_of_ble_eq_true rfl) dX7_fetch_60 (fun _ X13 => ?_)
    exact TC.ret_v rfl dX7_fetch_63
  · refine TC.aload_n dX7_fetch_33 rfl 3 rfl ?_
    refine TC.iconst (w := 1) dX7_fetch_34 (by decide) ?_
    refine TC.iload_n dX7_fetch_35 rfl 4 rfl ?_
    refine TC.callV_v 70 (As1 := [.int 1, .int p1]) (rest := []) (k_Running_failWith Γ (1 : Int32) p1 X8) ka_X7_failWith kv_X7_failWith oC_70 rfl k1153 rfl rfl rfl rfl (show 2 + 1 ≤ 6 ∧ 8 + (3 + 11) + 70 ≤ 230 from ⟨by omega, by omega⟩) (Nat.le_of_ble_eq_true rfl) dX7_fetch_36 (fun _ X14 => ?_)
    exact TC.ret_v rfl dX7_fetch_39
noncomputable def g_Running_askInto_85 (a_1 : Int32) (l_3 : Int64) (a_6 : Int32) (b_0 : Int32) (X : St) : Option (Int64 × St) :=
  chk (inR a_1 1000) (letV (X.1 79 (ix a_1)) fun x9 =>
  chk (inR a_1 1000) (letV (X.1 78 (ix a_1)) fun x10 =>
  chk (inR a_1 1000) (letV (X.1 80 (ix a_1)) fun x11 =>
  bnd (g_Running_ask l_3 a_6 b_0 x9 x10 x11 X) fun y12 X13 =>
  some (y12, X13))))
set_option maxHeartbeats 4000000 in
set_option maxRecDepth 100000 in
theorem k_Running_askInto_85 (Γ : GxC) (As : List Value) (a_1 : Int32) (l_3 : Int64) (a_6 : Int32) (b_0 : Int32) (X : St) : TC YC Γ cX7_askInto 8 "BlameCourt$Running" (some .long) { frames := 5, cells := 0, slots := 0, locals := 190 } As kL 85 [(0, .ref (Γ.2.2.2.1 70)), (1, .int a_1), (3, .long l_3), (6, .int a_6)] [.int b_0] X (g_Running_askInto_85 a_1 l_3 a_6 b_0 X) := by
  unfold g_Running_askInto_85
  refine TC.istore (lv1 := [(7, .int b_0), (0, .ref (Γ.2.2.2.1 70)), (1, .int a_1), (3, .long l_3), (6, .int a_6)]) dX7_askInto_85 (by decide) rfl ?_
  refine TC.aload_n dX7_askInto_87 rfl 1 rfl ?_
  refine TC.lload_n dX7_askInto_88 rfl 3 rfl ?_
  refine TC.iload dX7_askInto_89 4 rfl ?_
  refine TC.iload dX7_askInto_91 0 rfl ?_
  refine TC.aload_n dX7_askInto_93 rfl 1 rfl ?_
  refine cC6_1 k616 dX7_askInto_94 ?_
  refine cC1_10 k583 dX7_askInto_97 ?_
  refine TC.iload_n dX7_askInto_100 rfl 2 rfl ?_
  refine alC79 dX7_askInto_101 (fun x9 => ?_)
  refine TC.aload_n dX7_askInto_102 rfl 1 rfl ?_
  refine cC6_1 k616 dX7_askInto_103 ?_
  refine cC1_9 k581 dX7_askInto_106 ?_
  refine TC.iload_n dX7_askInto_109 rfl 2 rfl ?_
  refine alC78 dX7_askInto_110 (fun x10 => ?_)
  refine TC.aload_n dX7_askInto_111 rfl 1 rfl ?_
  refine cC6_1 k616 dX7_askInto_112 ?_
  refine cC1_11 k585 dX7_askInto_115 ?_
  refine TC.iload_n dX7_askInto_118 rfl 2 rfl ?_
  refine alC80 dX7_askInto_119 (fun x11 => ?_)
  refine TC.callV_l 70 (As1 := [.long l_3, .int a_6, .int b_0, .int x9, .int x10, .int x11]) (rest := []) (k_Running_ask Γ l_3 a_6 b_0 x9 x10 x11 X) ka_X7_ask kv_X7_ask oC_70 rfl k1188 rfl rfl rfl rfl (show 4 + 1 ≤ 5 ∧ 8 + (11 + 11) + 150 ≤ 190 from ⟨by omega, by omega⟩) (Nat.le_of_ble_eq_true rfl) dX7_askInto_120 (fun y12 X13 => ?_)
  exact TC.ret_l rfl dX7_askInto_123
noncomputable def g_Running_askInto_46 (a_1 : Int32) (a_2 : Int32) (l_3 : Int64) (e_5 : Nat) (b_0 : Int32) (X : St) : Option (Int64 × St) :=
  if a_2.toInt = -1 then
    chk (inR a_1 1000) (letV (X.1 76 (ix a_1)) fun x14 =>
    bnd (g_Kinds_givesOf e_5 x14 X) fun x15 X16 =>
    g_Running_askInto_85 a_1 l_3 b_0 x15 X16)
  else
    chk (inR a_1 1000) (letV (X.1 76 (ix a_1)) fun x6 =>
    bnd (g_Kinds_paramOf e_5 x6 a_2 X) fun x7 X8 =>
    g_Running_askInto_85 a_1 l_3 b_0 x7 X8)
set_option maxHeartbeats 4000000 in
set_option maxRecDepth 100000 in
theorem k_Running_askInto_46 (Γ : GxC) (As : List Value) (a_1 : Int32) (a_2 : Int32) (l_3 : Int64) (e_5 : Nat) (he_5 : isO YC e_5 3 8) (b_0 : Int32) (X : St) : TC YC Γ cX7_askInto 8 "BlameCourt$Running" (some .long) { frames := 5, cells := 0, slots := 0, locals := 190 } As kL 46 [(0, .ref (Γ.2.2.2.1 70)), (1, .int a_1), (2, .int a_2), (3, .long l_3), (5, .ref (Γ.2.2.2.1 e_5))] [.int b_0] X (g_Running_askInto_46 a_1 a_2 l_3 e_5 b_0 X) := by
  unfold g_Running_askInto_46
  refine TC.istore (lv1 := [(6, .int b_0), (0, .ref (Γ.2.2.2.1 70)), (1, .int a_1), (2, .int a_2), (3, .long l_3), (5, .ref (Γ.2.2.2.1 e_5))]) dX7_askInto_46 (by decide) rfl ?_
  refine TC.iload_n dX7_askInto_48 rfl 3 rfl ?_
  refine TC.iconst (w := (-1)) dX7_askInto_49 (by decide) ?_
  refine TC.icmp_ne (pc1 := 70) dX7_askInto_50 (by decide) rfl ?_ ?_
  · refine TC.aload dX7_askInto_70 5 rfl ?_
    refine TC.aload_n dX7_askInto_72 rfl 1 rfl ?_
    refine cC6_1 k616 dX7_askInto_73 ?_
    refine cC1_7 k577 dX7_askInto_76 ?_
    refine TC.iload_n dX7_askInto_79 rfl 2 rfl ?_
    refine alC76 dX7_askInto_80 (fun x6 => ?_)
    refine TC.iload_n dX7_askInto_81 rfl 3 rfl ?_
    refine TC.callV_i e_5 (As1 := [.int x6, .int a_2]) (rest := []) (k_Kinds_paramOf Γ e_5 he_5 x6 a_2 X) ka_X3_paramOf kv_X3_paramOf he_5 rfl k1302 rfl rfl rfl rfl (show 2 + 1 ≤ 5 ∧ 8 + (3 + 11) + 70 ≤ 190 from ⟨by omega, by omega⟩) (Nat.le_of_ble_eq_true rfl) dX7_askInto_82 (fun x7 X8 => ?_)
    refine TC.sub [1, 2, 4, 0] rfl ?_
    exact k_Running_askInto_85 Γ _ a_1 l_3 b_0 x7 X8
  · refine TC.aload dX7_askInto_53 5 rfl ?_
    refine TC.aload_n dX7_askInto_55 rfl 1 rfl ?_
    refine cC6_1 k616 dX7_askInto_56 ?_
    refine cC1_7 k577 dX7_askInto_59 ?_
    refine TC.iload_n dX7_askInto_62 rfl 2 rfl ?_
    refine alC76 dX7_askInto_63 (fun x14 => ?_)
    refine TC.callV_i e_5 (As1 := [.int x14]) (rest := []) (k_Kinds_givesOf Γ e_5 he_5 x14 X) ka_X3_givesOf kv_X3_givesOf he_5 rfl k1293 rfl rfl rfl rfl (show 2 + 1 ≤ 5 ∧ 8 + (2 + 11) + 70 ≤ 190 from ⟨by omega, by omega⟩) (Nat.le_of_ble_eq_true rfl) dX7_askInto_64 (fun x15 X16 => ?_)
    refine TC.goto (pc1 := 85) dX7_askInto_67 (by decide) ?_
    refine TC.sub [1, 2, 4, 0] rfl ?_
    exact k_Running_askInto_85 Γ _ a_1 l_3 b_0 x15 X16
noncomputable def g_Running_askInto (p1 : Int32) (p2 : Int32) (q3 : Int64) (X : St) : Option (Int64 × St) :=
  chk (refO YC (X.2.2 70 2) 4 17 = true) (letV (X.2.2 70 2 - 1) fun e1 =>
  letV (kY YC e1 0 - 3) fun e2 =>
  if p2.toInt = -1 then
    chk (inR p1 1000) (letV (X.1 77 (ix p1)) fun x17 =>
    bnd (g_Kinds_givesOf e2 x17 X) fun x18 X19 =>
    g_Running_askInto_46 p1 p2 q3 e2 x18 X19)
  else
    chk (inR p1 1000) (letV (X.1 77 (ix p1)) fun x3 =>
    bnd (g_Kinds_paramOf e2 x3 p2 X) fun x4 X5 =>
    g_Running_askInto_46 p1 p2 q3 e2 x4 X5))
set_option maxHeartbeats 4000000 in
set_option maxRecDepth 100000 in
theorem k_Running_askInto (Γ : GxC) (p1 : Int32) (p2 : Int32) (q3 : Int64) (X : St) : TCL YC Γ yX7_askInto cX7_askInto 8 "BlameCourt$Running" (some .long) { frames := 5, cells := 0, slots := 0, locals := 190 } [.ref (Γ.2.2.2.1 70), .int p1, .int p2, .long q3] X (g_Running_askInto p1 p2 q3 X) := by
  refine TCL.of (by decide) (Nat.le_of_ble_eq_true rfl) rfl ?_
  show TC YC Γ cX7_askInto 8 "BlameCourt$Running" (some .long) { frames := 5, cells := 0, slots := 0, locals := 190 } _ kL 0 [(0, .ref (Γ.2.2.2.1 70)), (1, .int p1), (2, .int p2), (3, .long q3)] [] X (g_Running_askInto p1 p2 q3 X)
  unfold g_Running_askInto
  refine TC.aload_n dX7_askInto_0 rfl 0 rfl ?_
  refine mC6_2 k617 dX7_askInto_1 (fun e1 he1 => ?_)
  refine vC4_0 e1 he1 k283 dX7_askInto_4 (fun e2 he2 => ?_)
  refine TC.astore (lv1 := [(5, .ref (Γ.2.2.2.1 e2)), (0, .ref (Γ.2.2.2.1 70)), (1, .int p1), (2, .int p2), (3, .long q3)]) dX7_askInto_7 (by decide) rfl ?_
  refine TC.iload_n dX7_askInto_9 rfl 3 rfl ?_
  refine TC.iconst (w := (-1)) dX7_askInto_10 (by decide) ?_
  refine TC.icmp_ne (pc1 := 31) dX7_askInto_11 (by decide) rfl ?_ ?_
  · refine TC.aload dX7_askInto_31 0 rfl ?_
    refine TC.aload_n dX7_askInto_33 rfl 1 rfl ?_
    refine cC6_1 k616 dX7_askInto_34 ?_
    refine cC1_8 k579 dX7_askInto_37 ?_
    refine TC.iload_n dX7_askInto_40 rfl 2 rfl ?_
    refine alC77 dX7_askInto_41 (fun x3 => ?_)
    refine TC.iload_n dX7_askInto_42 rfl 3 rfl ?_
    refine TC.callV_i e2 (As1 := [.int x3, .int p2]) (rest := []) (k_Kinds_paramOf Γ e2 he2 x3 p2 X) ka_X3_paramOf kv_X3_paramOf he2 rfl k1302 rfl rfl rfl rfl (show 2 + 1 ≤ 5 ∧ 8 + (3 + 11) + 70 ≤ 190 from ⟨by omega, by omega⟩) (Nat.le_of_ble_eq_true rfl) dX7_askInto_43 (fun x4 X5 => ?_)
    refine TC.sub [1, 2, 3, 4, 0] rfl ?_
    exact k_Running_askInto_46 Γ _ p1 p2 q3 e2 he2 x4 X5
  · refine TC.aload dX7_askInto_14 0 rfl ?_
    refine TC.aload_n dX7_askInto_16 rfl 1 rfl ?_
    refine cC6_1 k616 dX7_askInto_17 ?_
    refine cC1_8 k579 dX7_askInto_20 ?_
    refine TC.iload_n dX7_askInto_23 rfl 2 rfl ?_
    refine alC77 dX7_askInto_24 (fun x17 => ?_)
    refine TC.callV_i e2 (As1 := [.int x17]) (rest := []) (k_Kinds_givesOf Γ e2 he2 x17 X) ka_X3_givesOf kv_X3_givesOf he2 rfl k1293 rfl rfl rfl rfl (show 2 + 1 ≤ 5 ∧ 8 + (2 + 11) + 70 ≤ 190 from ⟨by omega, by omega⟩) (Nat.le_of_ble_eq_true rfl) dX7_askInto_25 (fun x18 X19 => ?_)
    refine TC.goto (pc1 := 46) dX7_askInto_28 (by decide) ?_
    refine TC.sub [1, 2, 3, 4, 0] rfl ?_
    exact k_Running_askInto_46 Γ _ p1 p2 q3 e2 he2 x18 X19
noncomputable def g_Running_store_63_s (r63 : Int64 → Int32 → Int64 → Int32 → Int64 → Int32 → St → Option (Int32 × St)) (l_2 : Int64) (a_4 : Int32) (l_7 : Int64) (a_9 : Int32) (l_10 : Int64) (a_12 : Int32) (X : St) : Option (Int32 × St) :=
  if a_9.toInt ≤ a_12.toInt then
    letV (X.1 70 4) fun x13 =>
    if x13.toInt = 0 then
      some (0, X)
    else
      bnd (g_Heap_store l_7 a_4 l_10 X) fun _ X14 =>
      bnd (g_Running_push l_2 X14) fun _ X15 =>
      some (0, X15)
  else
    chk (inR a_12 20) (letV (X.1 85 (ix a_12)) fun x16 =>
    bnd (g_Running_askInto x16 (-1 : Int32) l_10 X) fun y17 X18 =>
    letV (a_12 + Int32.ofInt (1)) fun x19 =>
    r63 l_2 a_4 l_7 a_9 y17 x19 X18)
noncomputable def g_Running_store_63 (n : Nat) : Int64 → Int32 → Int64 → Int32 → Int64 → Int32 → St → Option (Int32 × St) := lp (fun _ _ _ _ _ _ _ => none) (g_Running_store_63_s) n
set_option maxHeartbeats 4000000 in
set_option maxRecDepth 100000 in
theorem k_Running_store_63 (Γ : GxC) (As : List Value) (n : Nat) : ∀ (l_2 : Int64) (a_4 : Int32) (l_7 : Int64) (a_9 : Int32) (l_10 : Int64) (a_12 : Int32) (X : St), TC YC Γ cX7_store 13 "BlameCourt$Running" none { frames := 6, cells := 0, slots := 0, locals := 230 } As kV 63 [(0, .ref (Γ.2.2.2.1 70)), (2, .long l_2), (4, .int a_4), (7, .long l_7), (9, .int a_9), (10, .long l_10), (12, .int a_12)] [] X (g_Running_store_63 n l_2 a_4 l_7 a_9 l_10 a_12 X) := by
  unfold g_Running_store_63
  refine lp_ind (P := fun (r63 : Int64 → Int32 → Int64 → Int32 → Int64 → Int32 → St → Option (Int32 × St)) => ∀ (l_2 : Int64) (a_4 : Int32) (l_7 : Int64) (a_9 : Int32) (l_10 : Int64) (a_12 : Int32) (X : St), TC YC Γ cX7_store 13 "BlameCourt$Running" none { frames := 6, cells := 0, slots := 0, locals := 230 } As kV 63 [(0, .ref (Γ.2.2.2.1 70)), (2, .long l_2), (4, .int a_4), (7, .long l_7), (9, .int a_9), (10, .long l_10), (12, .int a_12)] [] X (r63 l_2 a_4 l_7 a_9 l_10 a_12 X)) (fun _ _ _ _ _ _ _ => TC.no) ?_ n
  intro r63 hr63 l_2 a_4 l_7 a_9 l_10 a_12 X
  unfold g_Running_store_63_s
  refine TC.iload dX7_store_63 6 rfl ?_
  refine TC.iload dX7_store_65 4 rfl ?_
  refine TC.icmp_ge (pc1 := 92) dX7_store_67 (by decide) rfl ?_ ?_
  · refine TC.aload_n dX7_store_92 rfl 0 rfl ?_
    refine gC6_4 k619 dX7_store_93 (fun x13 => ?_)
    refine TC.if_eq (pc1 := 117) dX7_store_96 (by decide) ?_ ?_
    · exact TC.ret_v rfl dX7_store_117
    · refine TC.aload_n dX7_store_99 rfl 0 rfl ?_
      refine cC6_1 k616 dX7_store_100 ?_
      refine TC.lload dX7_store_103 3 rfl ?_
      refine TC.iload dX7_store_105 2 rfl ?_
      refine TC.lload dX7_store_107 5 rfl ?_
      refine TC.callV_v 71 (As1 := [.long l_7, .int a_4, .long l_10]) (rest := []) (k_Heap_store Γ l_7 a_4 l_10 X) ka_X1_store kv_X1_store oC_71 rfl k1252 rfl rfl rfl rfl (show 5 + 1 ≤ 6 ∧ 8 + (6 + 11) + 190 ≤ 230 from ⟨by omega, by omega⟩) (Nat.le_of_ble_eq_true rfl) dX7_store_109 (fun _ X14 => ?_)
      refine TC.aload_n dX7_store_112 rfl 0 rfl ?_
      refine TC.lload_n dX7_store_113 rfl 1 rfl ?_
      refine TC.callV_v 70 (As1 := [.long l_2]) (rest := []) (k_Running_push Γ l_2 X14) ka_X7_push kv_X7_push oC_70 rfl k1145 rfl rfl rfl rfl (show 2 + 1 ≤ 6 ∧ 8 + (3 + 11) + 70 ≤ 230 from ⟨by omega, by omega⟩) (Nat.le_of_ble_eq_true rfl) dX7_store_114 (fun _ X15 => ?_)
      exact TC.ret_v rfl dX7_store_117
  · refine TC.aload_n dX7_store_70 rfl 0 rfl ?_
    refine TC.aload_n dX7_store_71 rfl 0 rfl ?_
    refine cC6_16 k631 dX7_store_72 ?_
    refine TC.iload dX7_store_75 6 rfl ?_
    refine alC85 dX7_store_77 (fun x16 => ?_)
    refine TC.iconst (w := (-1)) dX7_store_78 (by decide) ?_
    refine TC.lload dX7_store_79 5 rfl ?_
    refine TC.callV_l 70 (As1 := [.int x16, .int (-1), .long l_10]) (rest := []) (k_Running_askInto Γ x16 (-1 : Int32) l_10 X) ka_X7_askInto kv_X7_askInto oC_70 rfl k1298 rfl rfl rfl rfl (show 5 + 1 ≤ 6 ∧ 8 + (8 + 11) + 190 ≤ 230 from ⟨by omega, by omega⟩) (Nat.le_of_ble_eq_true rfl) dX7_store_81 (fun y17 X18 => ?_)
    refine TC.lstore (lv1 := [(10, .long y17), (0, .ref (Γ.2.2.2.1 70)), (2, .long l_2), (4, .int a_4), (7, .long l_7), (9, .int a_9), (12, .int a_12)]) dX7_store_84 (by decide) rfl ?_
    refine TC.iinc dX7_store_86 6 rfl (by decide) (lvf := fun x19 => [(12, .int x19), (10, .long y17), (0, .ref (Γ.2.2.2.1 70)), (2, .long l_2), (4, .int a_4), (7, .long l_7), (9, .int a_9)]) (fun _ => rfl) (fun x19 => ?_)
    refine TC.goto (pc1 := 63) dX7_store_89 (by decide) ?_
    refine TC.sub [2, 3, 4, 5, 6, 1, 0] rfl ?_
    exact hr63 l_2 a_4 l_7 a_9 y17 x19 X18
noncomputable def g_Running_store (p1 : Int32) (X : St) : Option (Int32 × St) :=
  bnd (g_Running_pop X) fun y1 X2 =>
  bnd (g_Running_popContent X2) fun x3 X4 =>
  bnd (g_Running_pop X4) fun y5 X6 =>
  bnd (g_Heap_core y5 X6) fun y7 X8 =>
  bnd (g_Heap_hasPlace y7 x3 X8) fun x9 X10 =>
  if x9.toInt = 0 then
    bnd (g_Running_failWith (1 : Int32) p1 X10) fun _ X20 =>
    some (0, X20)
  else
    bnd (g_Running_unwrap y5 X10) fun x11 X12 =>
    g_Running_store_63 BIG y1 x3 y7 x11 y1 (0 : Int32) X12
set_option maxHeartbeats 4000000 in
set_option maxRecDepth 100000 in
theorem k_Running_store (Γ : GxC) (p1 : Int32) (X : St) : TCV YC Γ yX7_store cX7_store 13 "BlameCourt$Running" none { frames := 6, cells := 0, slots := 0, locals := 230 } [.ref (Γ.2.2.2.1 70), .int p1] X (g_Running_store p1 X) := by
  refine TCV.of (by decide) (Nat.le_of_ble_eq_true rfl) rfl ?_
  show TC YC Γ cX7_store 13 "BlameCourt$Running" none { frames := 6, cells := 0, slots := 0, locals := 230 } _ kV 0 [(0, .ref (Γ.2.2.2.1 70)), (1, .int p1)] [] X (g_Running_store p1 X)
  unfold g_Running_store
  refine TC.aload_n dX7_store_0 rfl 0 rfl ?_
  refine TC.callV_l 70 (As1 := []) (rest := []) (k_Running_pop Γ X) ka_X7_pop kv_X7_pop oC_70 rfl k1161 rfl rfl rfl rfl (show 2 + 1 ≤ 6 ∧ 8 + (1 + 11) + 70 ≤ 230 from ⟨by omega, by omega⟩) (Nat.le_of_ble_eq_true rfl) dX7_store_1 (fun y1 X2 => ?_)
  refine TC.lstore_n (lv1 := [(2, .long y1), (0, .ref (Γ.2.2.2.1 70)), (1, .int p1)]) dX7_store_4 rfl (by decide) rfl ?_
  refine TC.aload_n dX7_store_5 rfl 1 rfl ?_
  refine TC.callV_i 70 (As1 := []) (rest := []) (k_Running_popContent Γ X2) ka_X7_popContent kv_X7_popContent oC_70 rfl k1224 rfl rfl rfl rfl (show 3 + 1 ≤ 6 ∧ 8 + (1 + 11) + 110 ≤ 230 from ⟨by omega, by omega⟩) (Nat.le_of_ble_eq_true rfl) dX7_store_6 (fun x3 X4 => ?_)
  refine TC.istore (lv1 := [(4, .int x3), (2, .long y1), (0, .ref (Γ.2.2.2.1 70)), (1, .int p1)]) dX7_store_9 (by decide) rfl ?_
  refine TC.aload_n dX7_store_11 rfl 2 rfl ?_
  refine TC.callV_l 70 (As1 := []) (rest := []) (k_Running_pop Γ X4) ka_X7_pop kv_X7_pop oC_70 rfl k1161 rfl rfl rfl rfl (show 2 + 1 ≤ 6 ∧ 8 + (1 + 11) + 70 ≤ 230 from ⟨by omega, by omega⟩) (Nat.le_of_ble_eq_true rfl) dX7_store_12 (fun y5 X6 => ?_)
  refine TC.lstore (lv1 := [(5, .long y5), (4, .int x3), (2, .long y1), (0, .ref (Γ.2.2.2.1 70)), (1, .int p1)]) dX7_store_15 (by decide) rfl ?_
  refine TC.aload_n dX7_store_17 rfl 3 rfl ?_
  refine cC6_1 k616 dX7_store_18 ?_
  refine TC.lload dX7_store_21 0 rfl ?_
  refine TC.callV_l 71 (As1 := [.long y5]) (rest := []) (k_Heap_core Γ y5 X6) ka_X1_core kv_X1_core oC_71 rfl k1200 rfl rfl rfl rfl (show 3 + 1 ≤ 6 ∧ 8 + (7 + 11) + 110 ≤ 230 from ⟨by omega, by omega⟩) (Nat.le_of_ble_eq_true rfl) dX7_store_23 (fun y7 X8 => ?_)
  refine TC.lstore (lv1 := [(7, .long y7), (5, .long y5), (4, .int x3), (2, .long y1), (0, .ref (Γ.2.2.2.1 70)), (1, .int p1)]) dX7_store_26 (by decide) rfl ?_
  refine TC.aload_n dX7_store_28 rfl 4 rfl ?_
  refine cC6_1 k616 dX7_store_29 ?_
  refine TC.lload dX7_store_32 0 rfl ?_
  refine TC.iload dX7_store_34 2 rfl ?_
  refine TC.callV_i 71 (As1 := [.long y7, .int x3]) (rest := []) (k_Heap_hasPlace Γ y7 x3 X8) ka_X1_hasPlace kv_X1_hasPlace oC_71 rfl k1280 rfl rfl rfl rfl (show 4 + 1 ≤ 6 ∧ 8 + (4 + 11) + 150 ≤ 230 from ⟨by omega, by omega⟩) (Nat.le_of_ble_eq_true rfl) dX7_store_36 (fun x9 X10 => ?_)
  refine TC.if_ne (pc1 := 49) dX7_store_39 (by decide) ?_ ?_
  · refine TC.aload_n dX7_store_49 rfl 4 rfl ?_
    refine TC.lload dX7_store_50 1 rfl ?_
    refine TC.callV_i 70 (As1 := [.long y5]) (rest := []) (k_Running_unwrap Γ y5 X10) ka_X7_unwrap kv_X7_unwrap oC_70 rfl k1289 rfl rfl rfl rfl (show 3 + 1 ≤ 6 ∧ 8 + (6 + 11) + 110 ≤ 230 from ⟨by omega, by omega⟩) (Nat.le_of_ble_eq_true rfl) dX7_store_52 (fun x11 X12 => ?_)
    refine TC.istore (lv1 := [(9, .int x11), (7, .long y7), (5, .long y5), (4, .int x3), (2, .long y1), (0, .ref (Γ.2.2.2.1 70)), (1, .int p1)]) dX7_store_55 (by decide) rfl ?_
    refine TC.lload_n dX7_store_57 rfl 4 rfl ?_
    refine TC.lstore (lv1 := [(10, .long y1), (9, .int x11), (7, .long y7), (5, .long y5), (4, .int x3), (2, .long y1), (0, .ref (Γ.2.2.2.1 70)), (1, .int p1)]) dX7_store_58 (by decide) rfl ?_
    refine TC.iconst (w := 0) dX7_store_60 (by decide) ?_
    refine TC.istore (lv1 := [(12, .int 0), (10, .long y1), (9, .int x11), (7, .long y7), (5, .long y5), (4, .int x3), (2, .long y1), (0, .ref (Γ.2.2.2.1 70)), (1, .int p1)]) dX7_store_61 (by decide) rfl ?_
    refine TC.sub [7, 6, 5, 3, 2, 1, 0] rfl ?_
    exact k_Running_store_63 Γ _ BIG y1 x3 y7 x11 y1 (0 : Int32) X12
  · refine TC.aload_n dX7_store_42 rfl 4 rfl ?_
    refine TC.iconst (w := 1) dX7_store_43 (by decide) ?_
    refine TC.iload_n dX7_store_44 rfl 5 rfl ?_
    refine TC.callV_v 70 (As1 := [.int 1, .int p1]) (rest := []) (k_Running_failWith Γ (1 : Int32) p1 X10) ka_X7_failWith kv_X7_failWith oC_70 rfl k1153 rfl rfl rfl rfl (show 2 + 1 ≤ 6 ∧ 8 + (3 + 11) + 70 ≤ 230 from ⟨by omega, by omega⟩) (Nat.le_of_ble_eq_true rfl) dX7_store_45 (fun _ X20 => ?_)
    exact TC.ret_v rfl dX7_store_48
noncomputable def g_Running_callWith_44_s (r34 : Int32 → Int32 → Int32 → Int32 → Int32 → St → Option (Int32 × St)) (r44 : Int32 → Int32 → Int32 → Int32 → Int32 → Int32 → St → Option (Int32 × St)) (a_1 : Int32) (a_2 : Int32) (a_3 : Int32) (a_4 : Int32) (a_5 : Int32) (a_6 : Int32) (X : St) : Option (Int32 × St) :=
  if a_1.toInt ≤ a_6.toInt then
    letV (a_5 + Int32.ofInt (1)) fun x14 =>
    r34 a_1 a_2 a_3 a_4 x14 X
  else
    letV (a_3 + (1 : Int32)) fun x15 =>
    letV (x15 + a_6) fun x16 =>
    chk (inR a_5 20) (letV (X.1 85 (ix a_5)) fun x17 =>
    letV (a_3 + (1 : Int32)) fun x18 =>
    letV (x18 + a_6) fun x19 =>
    chk (inR x19 20002) (letV (X.2.1 84 (ix x19)) fun y20 =>
    bnd (g_Running_askInto x17 a_6 y20 X) fun y21 X22 =>
    chk (inR x16 20002) (letV (wL X22 84 (ix x16) y21) fun X23 =>
    letV (a_6 + Int32.ofInt (1)) fun x24 =>
    r44 a_1 a_2 a_3 a_4 a_5 x24 X23)))
noncomputable def g_Running_callWith_44 (r34 : Int32 → Int32 → Int32 → Int32 → Int32 → St → Option (Int32 × St)) (n : Nat) : Int32 → Int32 → Int32 → Int32 → Int32 → Int32 → St → Option (Int32 × St) := lp (fun _ _ _ _ _ _ _ => none) (g_Running_callWith_44_s r34) n
set_option maxHeartbeats 4000000 in
set_option maxRecDepth 100000 in
theorem k_Running_callWith_44 (Γ : GxC) (As : List Value) (r34 : Int32 → Int32 → Int32 → Int32 → Int32 → St → Option (Int32 × St)) (hr34 : ∀ (a_1 : Int32) (a_2 : Int32) (a_3 : Int32) (a_4 : Int32) (a_5 : Int32) (X : St), TC YC Γ cX7_callWith 7 "BlameCourt$Running" none { frames := 6, cells := 0, slots := 0, locals := 230 } As kV 34 [(0, .ref (Γ.2.2.2.1 70)), (1, .int a_1), (2, .int a_2), (3, .int a_3), (4, .int a_4), (5, .int a_5)] [] X (r34 a_1 a_2 a_3 a_4 a_5 X)) (n : Nat) : ∀ (a_1 : Int32) (a_2 : Int32) (a_3 : Int32) (a_4 : Int32) (a_5 : Int32) (a_6 : Int32) (X : St), TC YC Γ cX7_callWith 7 "BlameCourt$Running" none { frames := 6, cells := 0, slots := 0, locals := 230 } As kV 44 [(0, .ref (Γ.2.2.2.1 70)), (1, .int a_1), (2, .int a_2), (3, .int a_3), (4, .int a_4), (5, .int a_5), (6, .int a_6)] [] X (g_Running_callWith_44 r34 n a_1 a_2 a_3 a_4 a_5 a_6 X) := by
  unfold g_Running_callWith_44
  refine lp_ind (P := fun (r44 : Int32 → Int32 → Int32 → Int32 → Int32 → Int32 → St → Option (Int32 × St)) => ∀ (a_1 : Int32) (a_2 : Int32) (a_3 : Int32) (a_4 : Int32) (a_5 : Int32) (a_6 : Int32) (X : St), TC YC Γ cX7_callWith 7 "BlameCourt$Running" none { frames := 6, cells := 0, slots := 0, locals := 230 } As kV 44 [(0, .ref (Γ.2.2.2.1 70)), (1, .int a_1), (2, .int a_2), (3, .int a_3), (4, .int a_4), (5, .int a_5), (6, .int a_6)] [] X (r44 a_1 a_2 a_3 a_4 a_5 a_6 X)) (fun _ _ _ _ _ _ _ => TC.no) ?_ n
  intro r44 hr44 a_1 a_2 a_3 a_4 a_5 a_6 X
  unfold g_Running_callWith_44_s
  refine TC.iload dX7_callWith_44 6 rfl ?_
  refine TC.iload_n dX7_callWith_46 rfl 1 rfl ?_
  refine TC.icmp_ge (pc1 := 91) dX7_callWith_47 (by decide) rfl ?_ ?_
  · refine TC.iinc dX7_callWith_91 5 rfl (by decide) (lvf := fun x14 => [(5, .int x14), (0, .ref (Γ.2.2.2.1 70)), (1, .int a_1), (2, .int a_2), (3, .int a_3), (4, .int a_4), (6, .int a_6)]) (fun _ => rfl) (fun x14 => ?_)
    refine TC.goto (pc1 := 34) dX7_callWith_94 (by decide) ?_
    refine TC.sub [1, 2, 3, 4, 5, 0] rfl ?_
    exact hr34 a_1 a_2 a_3 a_4 x14 X
  · refine TC.aload_n dX7_callWith_50 rfl 0 rfl ?_
    refine cC6_14 k629 dX7_callWith_51 ?_
    refine TC.iload_n dX7_callWith_54 rfl 3 rfl ?_
    refine TC.iconst (w := 1) dX7_callWith_55 (by decide) ?_
    refine TC.iadd dX7_callWith_56 (fun x15 => ?_)
    refine TC.iload dX7_callWith_57 6 rfl ?_
    refine TC.iadd dX7_callWith_59 (fun x16 => ?_)
    refine TC.aload_n dX7_callWith_60 rfl 0 rfl ?_
    refine TC.aload_n dX7_callWith_61 rfl 0 rfl ?_
    refine cC6_16 k631 dX7_callWith_62 ?_
    refine TC.iload dX7_callWith_65 5 rfl ?_
    refine alC85 dX7_callWith_67 (fun x17 => ?_)
    refine TC.iload dX7_callWith_68 6 rfl ?_
    refine TC.aload_n dX7_callWith_70 rfl 0 rfl ?_
    refine cC6_14 k629 dX7_callWith_71 ?_
    refine TC.iload_n dX7_callWith_74 rfl 3 rfl ?_
    refine TC.iconst (w := 1) dX7_callWith_75 (by decide) ?_
    refine TC.iadd dX7_callWith_76 (fun x18 => ?_)
    refine TC.iload dX7_callWith_77 6 rfl ?_
    refine TC.iadd dX7_callWith_79 (fun x19 => ?_)
    refine alC84 dX7_callWith_80 (fun y20 => ?_)
    refine TC.callV_l 70 (As1 := [.int x17, .int a_6, .long y20]) (rest := [.int x16, .ref (Γ.2.2.2.1 84)]) (k_Running_askInto Γ x17 a_6 y20 X) ka_X7_askInto kv_X7_askInto oC_70 rfl k1298 rfl rfl rfl rfl (show 5 + 1 ≤ 6 ∧ 8 + (8 + 11) + 190 ≤ 230 from ⟨by omega, by omega⟩) (Nat.le_of_ble_eq_true rfl) dX7_callWith_81 (fun y21 X22 => ?_)
    refine asC84 dX7_callWith_84 (fun X23 => ?_)
    refine TC.iinc dX7_callWith_85 6 rfl (by decide) (lvf := fun x24 => [(6, .int x24), (0, .ref (Γ.2.2.2.1 70)), (1, .int a_1), (2, .int a_2), (3, .int a_3), (4, .int a_4), (5, .int a_5)]) (fun _ => rfl) (fun x24 => ?_)
    refine TC.goto (pc1 := 44) dX7_callWith_88 (by decide) ?_
    refine TC.sub [1, 2, 3, 4, 5, 6, 0] rfl ?_
    exact hr44 a_1 a_2 a_3 a_4 a_5 x24 X23
noncomputable def g_Running_callWith_34_s (r34 : Int32 → Int32 → Int32 → Int32 → Int32 → St → Option (Int32 × St)) (a_1 : Int32) (a_2 : Int32) (a_3 : Int32) (a_4 : Int32) (a_5 : Int32) (X : St) : Option (Int32 × St) :=
  if a_4.toInt ≤ a_5.toInt then
    letV (X.1 70 4) fun x7 =>
    if x7.toInt = 0 then
      some (0, X)
    else
      chk (inR a_3 20002) (letV (X.2.1 84 (ix a_3)) fun y8 =>
      bnd (g_Heap_core y8 X) fun y9 X10 =>
      bnd (g_Heap_contentOf y9 X10) fun x11 X12 =>
      bnd (g_Running_enterPart x11 a_1 a_2 X12) fun _ X13 =>
      some (0, X13))
  else
    g_Running_callWith_44 r34 BIG a_1 a_2 a_3 a_4 a_5 (0 : Int32) X
noncomputable def g_Running_callWith_34 (n : Nat) : Int32 → Int32 → Int32 → Int32 → Int32 → St → Option (Int32 × St) := lp (fun _ _ _ _ _ _ => none) (g_Running_callWith_34_s) n
set_option maxHeartbeats 4000000 in
set_option maxRecDepth 100000 in
theorem k_Running_callWith_34 (Γ : GxC) (As : List Value) (n : Nat) : ∀ (a_1 : Int32) (a_2 : Int32) (a_3 : Int32) (a_4 : Int32) (a_5 : Int32) (X : St), TC YC Γ cX7_callWith 7 "BlameCourt$Running" none { frames := 6, cells := 0, slots := 0, locals := 230 } As kV 34 [(0, .ref (Γ.2.2.2.1 70)), (1, .int a_1), (2, .int a_2), (3, .int a_3), (4, .int a_4), (5, .int a_5)] [] X (g_Running_callWith_34 n a_1 a_2 a_3 a_4 a_5 X) := by
  unfold g_Running_callWith_34
  refine lp_ind (P := fun (r34 : Int32 → Int32 → Int32 → Int32 → Int32 → St → Option (Int32 × St)) => ∀ (a_1 : Int32) (a_2 : Int32) (a_3 : Int32) (a_4 : Int32) (a_5 : Int32) (X : St), TC YC Γ cX7_callWith 7 "BlameCourt$Running" none { frames := 6, cells := 0, slots := 0, locals := 230 } As kV 34 [(0, .ref (Γ.2.2.2.1 70)), (1, .int a_1), (2, .int a_2), (3, .int a_3), (4, .int a_4), (5, .int a_5)] [] X (r34 a_1 a_2 a_3 a_4 a_5 X)) (fun _ _ _ _ _ _ => TC.no) ?_ n
  intro r34 hr34 a_1 a_2 a_3 a_4 a_5 X
  unfold g_Running_callWith_34_s
  refine TC.iload dX7_callWith_34 5 rfl ?_
  refine TC.iload dX7_callWith_36 4 rfl ?_
  refine TC.icmp_ge (pc1 := 97) dX7_callWith_38 (by decide) rfl ?_ ?_
  · refine TC.aload_n dX7_callWith_97 rfl 0 rfl ?_
    refine gC6_4 k619 dX7_callWith_98 (fun x7 => ?_)
    refine TC.if_eq (pc1 := 126) dX7_callWith_101 (by decide) ?_ ?_
    · exact TC.ret_v rfl dX7_callWith_126
    · refine TC.aload_n dX7_callWith_104 rfl 0 rfl ?_
      refine TC.aload_n dX7_callWith_105 rfl 0 rfl ?_
      refine cC6_1 k616 dX7_callWith_106 ?_
      refine TC.aload_n dX7_callWith_109 rfl 0 rfl ?_
      refine cC6_14 k629 dX7_callWith_110 ?_
      refine TC.iload_n dX7_callWith_113 rfl 3 rfl ?_
      refine alC84 dX7_callWith_114 (fun y8 => ?_)
      refine TC.callV_l 71 (As1 := [.long y8]) (rest := [.ref (Γ.2.2.2.1 70)]) (k_Heap_core Γ y8 X) ka_X1_core kv_X1_core oC_71 rfl k1200 rfl rfl rfl rfl (show 3 + 1 ≤ 6 ∧ 8 + (7 + 11) + 110 ≤ 230 from ⟨by omega, by omega⟩) (Nat.le_of_ble_eq_true rfl) dX7_callWith_115 (fun y9 X10 => ?_)
      refine TC.callS_i (As1 := [.long y9]) (rest := [.ref (Γ.2.2.2.1 70)]) (k_Heap_contentOf Γ y9 X10) ka_X1_contentOf k1185 k1184 rfl rfl rfl rfl (show 2 + 1 ≤ 6 ∧ 8 + (2 + 11) + 70 ≤ 230 from ⟨by omega, by omega⟩) (Nat.le_of_ble_eq_true rfl) dX7_callWith_118 (fun x11 X12 => ?_)
      refine TC.iload_n dX7_callWith_121 rfl 1 rfl ?_
      refine TC.iload_n dX7_callWith_122 rfl 2 rfl ?_
      refine TC.callV_v 70 (As1 := [.int x11, .int a_1, .int a_2]) (rest := []) (k_Running_enterPart Γ x11 a_1 a_2 X12) ka_X7_enterPart kv_X7_enterPart oC_70 rfl k1149 rfl rfl rfl rfl (show 3 + 1 ≤ 6 ∧ 8 + (5 + 11) + 110 ≤ 230 from ⟨by omega, by omega⟩) (Nat.le_of_ble_eq_true rfl) dX7_callWith_123 (fun _ X13 => ?_)
      exact TC.ret_v rfl dX7_callWith_126
  · refine TC.iconst (w := 0) dX7_callWith_41 (by decide) ?_
    refine TC.istore (lv1 := [(6, .int 0), (0, .ref (Γ.2.2.2.1 70)), (1, .int a_1), (2, .int a_2), (3, .int a_3), (4, .int a_4), (5, .int a_5)]) dX7_callWith_42 (by decide) rfl ?_
    refine TC.sub [1, 2, 3, 4, 5, 6, 0] rfl ?_
    exact k_Running_callWith_44 Γ _ r34 hr34 BIG a_1 a_2 a_3 a_4 a_5 (0 : Int32) X
noncomputable def g_Running_callWith (p1 : Int32) (p2 : Int32) (X : St) : Option (Int32 × St) :=
  letV (X.1 70 15) fun x1 =>
  letV (x1 - (1 : Int32)) fun x2 =>
  letV (x2 - p1) fun x3 =>
  if 0 ≤ x3.toInt then
    chk (inR x3 20002) (letV (X.2.1 84 (ix x3)) fun y4 =>
    bnd (g_Running_unwrap y4 X) fun x5 X6 =>
    g_Running_callWith_34 BIG p1 p2 x3 x5 (0 : Int32) X6)
  else
    letV (wI X 70 4 ((0 : Int32))) fun X25 =>
    some (0, X25)
set_option maxHeartbeats 4000000 in
set_option maxRecDepth 100000 in
theorem k_Running_callWith (Γ : GxC) (p1 : Int32) (p2 : Int32) (X : St) : TCV YC Γ yX7_callWith cX7_callWith 7 "BlameCourt$Running" none { frames := 6, cells := 0, slots := 0, locals := 230 } [.ref (Γ.2.2.2.1 70), .int p1, .int p2] X (g_Running_callWith p1 p2 X) := by
  refine TCV.of (by decide) (Nat.le_of_ble_eq_true rfl) rfl ?_
  show TC YC Γ cX7_callWith 7 "BlameCourt$Running" none { frames := 6, cells := 0, slots := 0, locals := 230 } _ kV 0 [(0, .ref (Γ.2.2.2.1 70)), (1, .int p1), (2, .int p2)] [] X (g_Running_callWith p1 p2 X)
  unfold g_Running_callWith
  refine TC.aload_n dX7_callWith_0 rfl 0 rfl ?_
  refine gC6_15 k630 dX7_callWith_1 (fun x1 => ?_)
  refine TC.iconst (w := 1) dX7_callWith_4 (by decide) ?_
  refine TC.isub dX7_callWith_5 (fun x2 => ?_)
  refine TC.iload_n dX7_callWith_6 rfl 1 rfl ?_
  refine TC.isub dX7_callWith_7 (fun x3 => ?_)
  refine TC.istore_n (lv1 := [(3, .int x3), (0, .ref (Γ.2.2.2.1 70)), (1, .int p1), (2, .int p2)]) dX7_callWith_8 rfl (by decide) rfl ?_
  refine TC.iload_n dX7_callWith_9 rfl 0 rfl ?_
  refine TC.if_ge (pc1 := 19) dX7_callWith_10 (by decide) ?_ ?_
  · refine TC.aload_n dX7_callWith_19 rfl 1 rfl ?_
    refine TC.aload_n dX7_callWith_20 rfl 1 rfl ?_
    refine cC6_14 k629 dX7_callWith_21 ?_
    refine TC.iload_n dX7_callWith_24 rfl 0 rfl ?_
    refine alC84 dX7_callWith_25 (fun y4 => ?_)
    refine TC.callV_i 70 (As1 := [.long y4]) (rest := []) (k_Running_unwrap Γ y4 X) ka_X7_unwrap kv_X7_unwrap oC_70 rfl k1289 rfl rfl rfl rfl (show 3 + 1 ≤ 6 ∧ 8 + (6 + 11) + 110 ≤ 230 from ⟨by omega, by omega⟩) (Nat.le_of_ble_eq_true rfl) dX7_callWith_26 (fun x5 X6 => ?_)
    refine TC.istore (lv1 := [(4, .int x5), (3, .int x3), (0, .ref (Γ.2.2.2.1 70)), (1, .int p1), (2, .int p2)]) dX7_callWith_29 (by decide) rfl ?_
    refine TC.iconst (w := 0) dX7_callWith_31 (by decide) ?_
    refine TC.istore (lv1 := [(5, .int 0), (4, .int x5), (3, .int x3), (0, .ref (Γ.2.2.2.1 70)), (1, .int p1), (2, .int p2)]) dX7_callWith_32 (by decide) rfl ?_
    refine TC.sub [3, 4, 5, 2, 1, 0] rfl ?_
    exact k_Running_callWith_34 Γ _ BIG p1 p2 x3 x5 (0 : Int32) X6
  · refine TC.aload_n dX7_callWith_13 rfl 1 rfl ?_
    refine TC.iconst (w := 0) dX7_callWith_14 (by decide) ?_
    refine pC6_4 k619 (by decide) dX7_callWith_15 (fun X25 => ?_)
    exact TC.ret_v rfl dX7_callWith_18
noncomputable def g_Running_leavePart (X : St) : Option (Int32 × St) :=
  bnd (g_Running_pop X) fun y1 X2 =>
  bnd (g_Running_pop X2) fun y3 X4 =>
  bnd (g_Running_askOutward y3 y1 X4) fun y5 X6 =>
  bnd (g_Running_push y5 X6) fun _ X7 =>
  letV (X7.1 70 11) fun x8 =>
  letV (x8 - (1 : Int32)) fun x9 =>
  letV (if (0 : Int32) < x9 then x9 else (0 : Int32)) fun x10 =>
  letV (wI X7 70 11 x10) fun X11 =>
  letV (X11.1 70 11) fun x12 =>
  chk (inR x12 100) (letV (X11.1 82 (ix x12)) fun x13 =>
  letV (wI X11 70 10 x13) fun X14 =>
  letV (X14.1 70 11) fun x15 =>
  if x15.toInt = 0 then
    letV (wI X14 70 4 ((0 : Int32))) fun X16 =>
    some (0, X16)
  else
    some (0, X14))
set_option maxHeartbeats 4000000 in
set_option maxRecDepth 100000 in
theorem k_Running_leavePart (Γ : GxC) (X : St) : TCV YC Γ yX7_leavePart cX7_leavePart 5 "BlameCourt$Running" none { frames := 6, cells := 0, slots := 0, locals := 230 } [.ref (Γ.2.2.2.1 70)] X (g_Running_leavePart X) := by
  refine TCV.of (by decide) (Nat.le_of_ble_eq_true rfl) rfl ?_
  show TC YC Γ cX7_leavePart 5 "BlameCourt$Running" none { frames := 6, cells := 0, slots := 0, locals := 230 } _ kV 0 [(0, .ref (Γ.2.2.2.1 70))] [] X (g_Running_leavePart X)
  unfold g_Running_leavePart
  refine TC.aload_n dX7_leavePart_0 rfl 0 rfl ?_
  refine TC.callV_l 70 (As1 := []) (rest := []) (k_Running_pop Γ X) ka_X7_pop kv_X7_pop oC_70 rfl k1161 rfl rfl rfl rfl (show 2 + 1 ≤ 6 ∧ 8 + (1 + 11) + 70 ≤ 230 from ⟨by omega, by omega⟩) (Nat.le_of_ble_eq_true rfl) dX7_leavePart_1 (fun y1 X2 => ?_)
  refine TC.lstore_n (lv1 := [(1, .long y1), (0, .ref (Γ.2.2.2.1 70))]) dX7_leavePart_4 rfl (by decide) rfl ?_
  refine TC.aload_n dX7_leavePart_5 rfl 1 rfl ?_
  refine TC.callV_l 70 (As1 := []) (rest := []) (k_Running_pop Γ X2) ka_X7_pop kv_X7_pop oC_70 rfl k1161 rfl rfl rfl rfl (show 2 + 1 ≤ 6 ∧ 8 + (1 + 11) + 70 ≤ 230 from ⟨by omega, by omega⟩) (Nat.le_of_ble_eq_true rfl) dX7_leavePart_6 (fun y3 X4 => ?_)
  refine TC.lstore_n (lv1 := [(3, .long y3), (1, .long y1), (0, .ref (Γ.2.2.2.1 70))]) dX7_leavePart_9 rfl (by decide) rfl ?_
  refine TC.aload_n dX7_leavePart_10 rfl 2 rfl ?_
  refine TC.aload_n dX7_leavePart_11 rfl 2 rfl ?_
  refine TC.lload_n dX7_leavePart_12 rfl 0 rfl ?_
  refine TC.lload_n dX7_leavePart_13 rfl 1 rfl ?_
  refine TC.callV_l 70 (As1 := [.long y3, .long y1]) (rest := [.ref (Γ.2.2.2.1 70)]) (k_Running_askOutward Γ y3 y1 X4) ka_X7_askOutward kv_X7_askOutward oC_70 rfl k1285 rfl rfl rfl rfl (show 5 + 1 ≤ 6 ∧ 8 + (11 + 11) + 190 ≤ 230 from ⟨by omega, by omega⟩) (Nat.le_of_ble_eq_true rfl) dX7_leavePart_14 (fun y5 X6 => ?_)
  refine TC.callV_v 70 (As1 := [.long y5]) (rest := []) (k_Running_push Γ y5 X6) ka_X7_push kv_X7_push oC_70 rfl k1145 rfl rfl rfl rfl (show 2 + 1 ≤ 6 ∧ 8 + (3 + 11) + 70 ≤ 230 from ⟨by omega, by omega⟩) (Nat.le_of_ble_eq_true rfl) dX7_leavePart_17 (fun _ X7 => ?_)
  refine TC.aload_n dX7_leavePart_20 rfl 2 rfl ?_
  refine TC.iconst (w := 0) dX7_leavePart_21 (by decide) ?_
  refine TC.aload_n dX7_leavePart_22 rfl 2 rfl ?_
  refine gC6_11 k626 dX7_leavePart_23 (fun x8 => ?_)
  refine TC.iconst (w := 1) dX7_leavePart_26 (by decide) ?_
  refine TC.isub dX7_leavePart_27 (fun x9 => ?_)
  refine TC.mmax k1271 k1065 k198 k1066 rfl dX7_leavePart_28 (show 1 ≤ 6 ∧ 8 + 13 ≤ 230 from ⟨by omega, by omega⟩) (Nat.le_of_ble_eq_true rfl) (fun x10 => ?_)
  refine pC6_11 k626 dX7_leavePart_31 (fun X11 => ?_)
  refine TC.aload_n dX7_leavePart_34 rfl 2 rfl ?_
  refine TC.aload_n dX7_leavePart_35 rfl 2 rfl ?_
  refine cC6_12 k627 dX7_leavePart_36 ?_
  refine TC.aload_n dX7_leavePart_39 rfl 2 rfl ?_
  refine gC6_11 k626 dX7_leavePart_40 (fun x12 => ?_)
  refine alC82 dX7_leavePart_43 (fun x13 => ?_)
  refine pC6_10 k625 dX7_leavePart_44 (fun X14 => ?_)
  refine TC.aload_n dX7_leavePart_47 rfl 2 rfl ?_
  refine gC6_11 k626 dX7_leavePart_48 (fun x15 => ?_)
  refine TC.if_ne (pc1 := 59) dX7_leavePart_51 (by decide) ?_ ?_
  · exact TC.ret_v rfl dX7_leavePart_59
  · refine TC.aload_n dX7_leavePart_54 rfl 2 rfl ?_
    refine TC.iconst (w := 0) dX7_leavePart_55 (by decide) ?_
    refine pC6_4 k619 (by decide) dX7_leavePart_56 (fun X16 => ?_)
    exact TC.ret_v rfl dX7_leavePart_59
noncomputable def g_Running_workRowOrCall (p1 : Int32) (p2 : Int32) (p3 : Int32) (X : St) : Option (Int32 × St) :=
  if p1.toInt = 10 then
    bnd (g_Running_makeRow p2 p3 X) fun _ X2 =>
    some (0, X2)
  else if p1.toInt = 11 then
    bnd (g_Running_makeNew p3 X) fun _ X4 =>
    some (0, X4)
  else if p1.toInt = 12 then
    bnd (g_Running_pop X) fun y6 X7 =>
    bnd (g_Heap_core y6 X7) fun y8 X9 =>
    bnd (g_Heap_lengthOf y8 X9) fun x10 X11 =>
    letV (if (0 : Int32) < x10 then x10 else (0 : Int32)) fun x12 =>
    bnd (g_Running_pushNumber x12 X11) fun _ X13 =>
    some (0, X13)
  else if p1.toInt = 13 then
    bnd (g_Running_print p3 X) fun _ X15 =>
    some (0, X15)
  else if p1.toInt = 14 then
    bnd (g_Running_fetch p3 X) fun _ X17 =>
    some (0, X17)
  else if p1.toInt = 15 then
    bnd (g_Running_store p3 X) fun _ X19 =>
    some (0, X19)
  else if p1.toInt = 16 then
    bnd (g_Running_callWith p2 p3 X) fun _ X21 =>
    some (0, X21)
  else bnd (g_Running_leavePart X) fun _ X22 =>
  some (0, X22)
set_option maxHeartbeats 4000000 in
set_option maxRecDepth 100000 in
theorem k_Running_workRowOrCall (Γ : GxC) (p1 : Int32) (p2 : Int32) (p3 : Int32) (X : St) : TCV YC Γ yX7_workRowOrCall cX7_workRowOrCall 4 "BlameCourt$Running" none { frames := 7, cells := 0, slots := 0, locals := 270 } [.ref (Γ.2.2.2.1 70), .int p1, .int p2, .int p3] X (g_Running_workRowOrCall p1 p2 p3 X) := by
  refine TCV.of (by decide) (Nat.le_of_ble_eq_true rfl) rfl ?_
  show TC YC Γ cX7_workRowOrCall 4 "BlameCourt$Running" none { frames := 7, cells := 0, slots := 0, locals := 270 } _ kV 0 [(0, .ref (Γ.2.2.2.1 70)), (1, .int p1), (2, .int p2), (3, .int p3)] [] X (g_Running_workRowOrCall p1 p2 p3 X)
  unfold g_Running_workRowOrCall
  refine TC.iload_n dX7_workRowOrCall_0 rfl 1 rfl ?_
  refine TC.ite (fun s1 => ?_) (fun s1 => ?_)
  · refine TC.tbl (pc1 := 44) dX7_workRowOrCall_1 (by decide) (off := 43) (by rw [s1]; rfl) (by decide) ?_
    refine TC.aload_n dX7_workRowOrCall_44 rfl 0 rfl ?_
    refine TC.iload_n dX7_workRowOrCall_45 rfl 2 rfl ?_
    refine TC.iload_n dX7_workRowOrCall_46 rfl 3 rfl ?_
    refine TC.callV_v 70 (As1 := [.int p2, .int p3]) (rest := []) (k_Running_makeRow Γ p2 p3 X) ka_X7_makeRow kv_X7_makeRow oC_70 rfl k1243 rfl rfl rfl rfl (show 6 + 1 ≤ 7 ∧ 8 + (6 + 11) + 230 ≤ 270 from ⟨by omega, by omega⟩) (Nat.le_of_ble_eq_true rfl) dX7_workRowOrCall_47 (fun _ X2 => ?_)
    refine TC.goto (pc1 := 127) dX7_workRowOrCall_50 (by decide) ?_
    exact TC.ret_v rfl dX7_workRowOrCall_127
  refine TC.ite (fun s3 => ?_) (fun s3 => ?_)
  · refine TC.tbl (pc1 := 53) dX7_workRowOrCall_1 (by decide) (off := 52) (by rw [s3]; rfl) (by decide) ?_
    refine TC.aload_n dX7_workRowOrCall_53 rfl 0 rfl ?_
    refine TC.iload_n dX7_workRowOrCall_54 rfl 3 rfl ?_
    refine TC.callV_v 70 (As1 := [.int p3]) (rest := []) (k_Running_makeNew Γ p3 X) ka_X7_makeNew kv_X7_makeNew oC_70 rfl k1266 rfl rfl rfl rfl (show 4 + 1 ≤ 7 ∧ 8 + (5 + 11) + 150 ≤ 270 from ⟨by omega, by omega⟩) (Nat.le_of_ble_eq_true rfl) dX7_workRowOrCall_55 (fun _ X4 => ?_)
    refine TC.goto (pc1 := 127) dX7_workRowOrCall_58 (by decide) ?_
    exact TC.ret_v rfl dX7_workRowOrCall_127
  refine TC.ite (fun s5 => ?_) (fun s5 => ?_)
  · refine TC.tbl (pc1 := 61) dX7_workRowOrCall_1 (by decide) (off := 60) (by rw [s5]; rfl) (by decide) ?_
    refine TC.aload_n dX7_workRowOrCall_61 rfl 0 rfl ?_
    refine TC.iconst (w := 0) dX7_workRowOrCall_62 (by decide) ?_
    refine TC.aload_n dX7_workRowOrCall_63 rfl 0 rfl ?_
    refine cC6_1 k616 dX7_workRowOrCall_64 ?_
    refine TC.aload_n dX7_workRowOrCall_67 rfl 0 rfl ?_
    refine cC6_1 k616 dX7_workRowOrCall_68 ?_
    refine TC.aload_n dX7_workRowOrCall_71 rfl 0 rfl ?_
    refine TC.callV_l 70 (As1 := []) (rest := [.ref (Γ.2.2.2.1 71), .ref (Γ.2.2.2.1 71), .int 0, .ref (Γ.2.2.2.1 70)]) (k_Running_pop Γ X) ka_X7_pop kv_X7_pop oC_70 rfl k1161 rfl rfl rfl rfl (show 2 + 1 ≤ 7 ∧ 8 + (1 + 11) + 70 ≤ 270 from ⟨by omega, by omega⟩) (Nat.le_of_ble_eq_true rfl) dX7_workRowOrCall_72 (fun y6 X7 => ?_)
    refine TC.callV_l 71 (As1 := [.long y6]) (rest := [.ref (Γ.2.2.2.1 71), .int 0, .ref (Γ.2.2.2.1 70)]) (k_Heap_core Γ y6 X7) ka_X1_core kv_X1_core oC_71 rfl k1200 rfl rfl rfl rfl (show 3 + 1 ≤ 7 ∧ 8 + (7 + 11) + 110 ≤ 270 from ⟨by omega, by omega⟩) (Nat.le_of_ble_eq_true rfl) dX7_workRowOrCall_75 (fun y8 X9 => ?_)
    refine TC.callV_i 71 (As1 := [.long y8]) (rest := [.int 0, .ref (Γ.2.2.2.1 70)]) (k_Heap_lengthOf Γ y8 X9) ka_X1_lengthOf kv_X1_lengthOf oC_71 rfl k1270 rfl rfl rfl rfl (show 3 + 1 ≤ 7 ∧ 8 + (4 + 11) + 110 ≤ 270 from ⟨by omega, by omega⟩) (Nat.le_of_ble_eq_true rfl) dX7_workRowOrCall_78 (fun x10 X11 => ?_)
    refine TC.mmax k1271 k1065 k198 k1066 rfl dX7_workRowOrCall_81 (show 1 ≤ 7 ∧ 8 + 13 ≤ 270 from ⟨by omega, by omega⟩) (Nat.le_of_ble_eq_true rfl) (fun x12 => ?_)
    refine TC.callV_v 70 (As1 := [.int x12]) (rest := []) (k_Running_pushNumber Γ x12 X11) ka_X7_pushNumber kv_X7_pushNumber oC_70 rfl k1228 rfl rfl rfl rfl (show 3 + 1 ≤ 7 ∧ 8 + (2 + 11) + 110 ≤ 270 from ⟨by omega, by omega⟩) (Nat.le_of_ble_eq_true rfl) dX7_workRowOrCall_84 (fun _ X13 => ?_)
    refine TC.goto (pc1 := 127) dX7_workRowOrCall_87 (by decide) ?_
    exact TC.ret_v rfl dX7_workRowOrCall_127
  refine TC.ite (fun s14 => ?_) (fun s14 => ?_)
  · refine TC.tbl (pc1 := 90) dX7_workRowOrCall_1 (by decide) (off := 89) (by rw [s14]; rfl) (by decide) ?_
    refine TC.aload_n dX7_workRowOrCall_90 rfl 0 rfl ?_
    refine TC.iload_n dX7_workRowOrCall_91 rfl 3 rfl ?_
    refine TC.callV_v 70 (As1 := [.int p3]) (rest := []) (k_Running_print Γ p3 X) ka_X7_print kv_X7_print oC_70 rfl k1272 rfl rfl rfl rfl (show 4 + 1 ≤ 7 ∧ 8 + (2 + 11) + 150 ≤ 270 from ⟨by omega, by omega⟩) (Nat.le_of_ble_eq_true rfl) dX7_workRowOrCall_92 (fun _ X15 => ?_)
    refine TC.goto (pc1 := 127) dX7_workRowOrCall_95 (by decide) ?_
    exact TC.ret_v rfl dX7_workRowOrCall_127
  refine TC.ite (fun s16 => ?_) (fun s16 => ?_)
  · refine TC.tbl (pc1 := 98) dX7_workRowOrCall_1 (by decide) (off := 97) (by rw [s16]; rfl) (by decide) ?_
    refine TC.aload_n dX7_workRowOrCall_98 rfl 0 rfl ?_
    refine TC.iload_n dX7_workRowOrCall_99 rfl 3 rfl ?_
    refine TC.callV_v 70 (As1 := [.int p3]) (rest := []) (k_Running_fetch Γ p3 X) ka_X7_fetch kv_X7_fetch oC_70 rfl k1276 rfl rfl rfl rfl (show 6 + 1 ≤ 7 ∧ 8 + (9 + 11) + 230 ≤ 270 from ⟨by omega, by omega⟩) (Nat.le_of_ble_eq_true rfl) dX7_workRowOrCall_100 (fun _ X17 => ?_)
    refine TC.goto (pc1 := 127) dX7_workRowOrCall_103 (by decide) ?_
    exact TC.ret_v rfl dX7_workRowOrCall_127
  refine TC.ite (fun s18 => ?_) (fun s18 => ?_)
  · refine TC.tbl (pc1 := 106) dX7_workRowOrCall_1 (by decide) (off := 105) (by rw [s18]; rfl) (by decide) ?_
    refine TC.aload_n dX7_workRowOrCall_106 rfl 0 rfl ?_
    refine TC.iload_n dX7_workRowOrCall_107 rfl 3 rfl ?_
    refine TC.callV_v 70 (As1 := [.int p3]) (rest := []) (k_Running_store Γ p3 X) ka_X7_store kv_X7_store oC_70 rfl k1294 rfl rfl rfl rfl (show 6 + 1 ≤ 7 ∧ 8 + (13 + 11) + 230 ≤ 270 from ⟨by omega, by omega⟩) (Nat.le_of_ble_eq_true rfl) dX7_workRowOrCall_108 (fun _ X19 => ?_)
    refine TC.goto (pc1 := 127) dX7_workRowOrCall_111 (by decide) ?_
    exact TC.ret_v rfl dX7_workRowOrCall_127
  refine TC.ite (fun s20 => ?_) (fun s20 => ?_)
  · refine TC.tbl (pc1 := 114) dX7_workRowOrCall_1 (by decide) (off := 113) (by rw [s20]; rfl) (by decide) ?_
    refine TC.aload_n dX7_workRowOrCall_114 rfl 0 rfl ?_
    refine TC.iload_n dX7_workRowOrCall_115 rfl 2 rfl ?_
    refine TC.iload_n dX7_workRowOrCall_116 rfl 3 rfl ?_
    refine TC.callV_v 70 (As1 := [.int p2, .int p3]) (rest := []) (k_Running_callWith Γ p2 p3 X) ka_X7_callWith kv_X7_callWith oC_70 rfl k1303 rfl rfl rfl rfl (show 6 + 1 ≤ 7 ∧ 8 + (7 + 11) + 230 ≤ 270 from ⟨by omega, by omega⟩) (Nat.le_of_ble_eq_true rfl) dX7_workRowOrCall_117 (fun _ X21 => ?_)
    refine TC.goto (pc1 := 127) dX7_workRowOrCall_120 (by decide) ?_
    exact TC.ret_v rfl dX7_workRowOrCall_127
  refine TC.tbl (pc1 := 123) dX7_workRowOrCall_1 (by decide) (off := 122) (tbl_d [10, 11, 12, 13, 14, 15, 16] (by intro q; simp only [List.mem_cons, List.not_mem_nil, or_false] at q; omega) (by decide)) (by decide) ?_
  refine TC.aload_n dX7_workRowOrCall_123 rfl 0 rfl ?_
  refine TC.callV_v 70 (As1 := []) (rest := []) (k_Running_leavePart Γ X) ka_X7_leavePart kv_X7_leavePart oC_70 rfl k1307 rfl rfl rfl rfl (show 6 + 1 ≤ 7 ∧ 8 + (5 + 11) + 230 ≤ 270 from ⟨by omega, by omega⟩) (Nat.le_of_ble_eq_true rfl) dX7_workRowOrCall_124 (fun _ X22 => ?_)
  exact TC.ret_v rfl dX7_workRowOrCall_127
noncomputable def g_Running_makeSteps (p1 : Int32) (p2 : Int32) (X : St) : Option (Int32 × St) :=
  letV (X.1 70 8) fun x1 =>
  letV (X.1 70 9) fun x2 =>
  letV (x1 - x2) fun x3 =>
  if p1.toInt ≤ x3.toInt then
    letV (X.1 70 9) fun x4 =>
    letV (x4 + p1) fun x5 =>
    letV (wI X 70 9 x5) fun X6 =>
    some (0, X6)
  else
    letV (X.1 70 8) fun x7 =>
    letV (wI X 70 9 x7) fun X8 =>
    bnd (g_Running_failWith (7 : Int32) p2 X8) fun _ X9 =>
    some (0, X9)
set_option maxHeartbeats 4000000 in
set_option maxRecDepth 100000 in
theorem k_Running_makeSteps (Γ : GxC) (p1 : Int32) (p2 : Int32) (X : St) : TCV YC Γ yX7_makeSteps cX7_makeSteps 3 "BlameCourt$Running" none { frames := 3, cells := 0, slots := 0, locals := 110 } [.ref (Γ.2.2.2.1 70), .int p1, .int p2] X (g_Running_makeSteps p1 p2 X) := by
  refine TCV.of (by decide) (Nat.le_of_ble_eq_true rfl) rfl ?_
  show TC YC Γ cX7_makeSteps 3 "BlameCourt$Running" none { frames := 3, cells := 0, slots := 0, locals := 110 } _ kV 0 [(0, .ref (Γ.2.2.2.1 70)), (1, .int p1), (2, .int p2)] [] X (g_Running_makeSteps p1 p2 X)
  unfold g_Running_makeSteps
  refine TC.iload_n dX7_makeSteps_0 rfl 1 rfl ?_
  refine TC.aload_n dX7_makeSteps_1 rfl 0 rfl ?_
  refine gC6_8 k623 dX7_makeSteps_2 (fun x1 => ?_)
  refine TC.aload_n dX7_makeSteps_5 rfl 0 rfl ?_
  refine gC6_9 k624 dX7_makeSteps_6 (fun x2 => ?_)
  refine TC.isub dX7_makeSteps_9 (fun x3 => ?_)
  refine TC.icmp_le (pc1 := 31) dX7_makeSteps_10 (by decide) rfl ?_ ?_
  · refine TC.aload_n dX7_makeSteps_31 rfl 0 rfl ?_
    refine TC.dupr dX7_makeSteps_32 ?_
    refine gC6_9 k624 dX7_makeSteps_33 (fun x4 => ?_)
    refine TC.iload_n dX7_makeSteps_36 rfl 1 rfl ?_
    refine TC.iadd dX7_makeSteps_37 (fun x5 => ?_)
    refine pC6_9 k624 dX7_makeSteps_38 (fun X6 => ?_)
    exact TC.ret_v rfl dX7_makeSteps_41
  · refine TC.aload_n dX7_makeSteps_13 rfl 0 rfl ?_
    refine TC.aload_n dX7_makeSteps_14 rfl 0 rfl ?_
    refine gC6_8 k623 dX7_makeSteps_15 (fun x7 => ?_)
    refine pC6_9 k624 dX7_makeSteps_18 (fun X8 => ?_)
    refine TC.aload_n dX7_makeSteps_21 rfl 0 rfl ?_
    refine TC.bipush (w := 7) dX7_makeSteps_22 (by decide) ?_
    refine TC.iload_n dX7_makeSteps_24 rfl 2 rfl ?_
    refine TC.callV_v 70 (As1 := [.int 7, .int p2]) (rest := []) (k_Running_failWith Γ (7 : Int32) p2 X8) ka_X7_failWith kv_X7_failWith oC_70 rfl k1153 rfl rfl rfl rfl (show 2 + 1 ≤ 3 ∧ 8 + (3 + 11) + 70 ≤ 110 from ⟨by omega, by omega⟩) (Nat.le_of_ble_eq_true rfl) dX7_makeSteps_25 (fun _ X9 => ?_)
    refine TC.goto (pc1 := 41) dX7_makeSteps_28 (by decide) ?_
    exact TC.ret_v rfl dX7_makeSteps_41
noncomputable def g_Running_workPlain_83 (b_0 : Int32) (X : St) : Option (Int32 × St) :=
  bnd (g_Running_pushTruth b_0 X) fun _ X6 =>
  some (0, X6)
set_option maxHeartbeats 4000000 in
set_option maxRecDepth 100000 in
theorem k_Running_workPlain_83 (Γ : GxC) (As : List Value) (b_0 : Int32) (X : St) : TC YC Γ cX7_workPlain 4 "BlameCourt$Running" none { frames := 4, cells := 0, slots := 0, locals := 150 } As kV 83 [] [.int b_0, .ref (Γ.2.2.2.1 70)] X (g_Running_workPlain_83 b_0 X) := by
  unfold g_Running_workPlain_83
  refine TC.callV_v 70 (As1 := [.int b_0]) (rest := []) (k_Running_pushTruth Γ b_0 X) ka_X7_pushTruth kv_X7_pushTruth oC_70 rfl k1232 rfl rfl rfl rfl (show 3 + 1 ≤ 4 ∧ 8 + (2 + 11) + 110 ≤ 150 from ⟨by omega, by omega⟩) (Nat.le_of_ble_eq_true rfl) dX7_workPlain_83 (fun _ X6 => ?_)
  refine TC.goto (pc1 := 166) dX7_workPlain_86 (by decide) ?_
  exact TC.ret_v rfl dX7_workPlain_166
noncomputable def g_Running_workPlain (p1 : Int32) (p2 : Int32) (p3 : Int32) (X : St) : Option (Int32 × St) :=
  if p1.toInt = 0 then
    bnd (g_Running_makeSteps p2 p3 X) fun _ X2 =>
    some (0, X2)
  else if p1.toInt = 1 then
    bnd (g_Running_pushNumber p2 X) fun _ X4 =>
    some (0, X4)
  else if p1.toInt = 2 then
    if p2.toInt = 0 then
      g_Running_workPlain_83 (0 : Int32) X
    else
      g_Running_workPlain_83 (1 : Int32) X
  else if p1.toInt = 3 then
    bnd (g_Running_slotAt p2 X) fun x8 X9 =>
    chk (inR x8 4400) (letV (X9.2.1 83 (ix x8)) fun y10 =>
    bnd (g_Running_push y10 X9) fun _ X11 =>
    some (0, X11))
  else if p1.toInt = 4 then
    bnd (g_Heap_valueOf (4 : Int32) p2 X) fun y13 X14 =>
    bnd (g_Running_push y13 X14) fun _ X15 =>
    some (0, X15)
  else if p1.toInt = 5 then
    bnd (g_Running_slotAt p2 X) fun x17 X18 =>
    bnd (g_Running_pop X18) fun y19 X20 =>
    chk (inR x17 4400) (letV (wL X20 83 (ix x17) y19) fun X21 =>
    some (0, X21))
  else if p1.toInt = 6 then
    bnd (g_Running_popContent X) fun x23 X24 =>
    if x23.toInt = 0 then
      letV (wI X24 70 10 p2) fun X25 =>
      some (0, X25)
    else
      some (0, X24)
  else if p1.toInt = 7 then
    letV (wI X 70 10 p2) fun X27 =>
    some (0, X27)
  else if p1.toInt = 9 then
    bnd (g_Running_pop X) fun y29 X30 =>
    some (0, X30)
  else some (0, X)
set_option maxHeartbeats 4000000 in
set_option maxRecDepth 100000 in
theorem k_Running_workPlain (Γ : GxC) (p1 : Int32) (p2 : Int32) (p3 : Int32) (X : St) : TCV YC Γ yX7_workPlain cX7_workPlain 4 "BlameCourt$Running" none { frames := 4, cells := 0, slots := 0, locals := 150 } [.ref (Γ.2.2.2.1 70), .int p1, .int p2, .int p3] X (g_Running_workPlain p1 p2 p3 X) := by
  refine TCV.of (by decide) (Nat.le_of_ble_eq_true rfl) rfl ?_
  show TC YC Γ cX7_workPlain 4 "BlameCourt$Running" none { frames := 4, cells := 0, slots := 0, locals := 150 } _ kV 0 [(0, .ref (Γ.2.2.2.1 70)), (1, .int p1), (2, .int p2), (3, .int p3)] [] X (g_Running_workPlain p1 p2 p3 X)
  unfold g_Running_workPlain
  refine TC.iload_n dX7_workPlain_0 rfl 1 rfl ?_
  refine TC.ite (fun s1 => ?_) (fun s1 => ?_)
  · refine TC.tbl (pc1 := 56) dX7_workPlain_1 (by decide) (off := 55) (by rw [s1]; rfl) (by decide) ?_
    refine TC.aload_n dX7_workPlain_56 rfl 0 rfl ?_
    refine TC.iload_n dX7_workPlain_57 rfl 2 rfl ?_
    refine TC.iload_n dX7_workPlain_58 rfl 3 rfl ?_
    refine TC.callV_v 70 (As1 := [.int p2, .int p3]) (rest := []) (k_Running_makeSteps Γ p2 p3 X) ka_X7_makeSteps kv_X7_makeSteps oC_70 rfl k1315 rfl rfl rfl rfl (show 3 + 1 ≤ 4 ∧ 8 + (3 + 11) + 110 ≤ 150 from ⟨by omega, by omega⟩) (Nat.le_of_ble_eq_true rfl) dX7_workPlain_59 (fun _ X2 => ?_)
    refine TC.goto (pc1 := 166) dX7_workPlain_62 (by decide) ?_
    exact TC.ret_v rfl dX7_workPlain_166
  refine TC.ite (fun s3 => ?_) (fun s3 => ?_)
  · refine TC.tbl (pc1 := 65) dX7_workPlain_1 (by decide) (off := 64) (by rw [s3]; rfl) (by decide) ?_
    refine TC.aload_n dX7_workPlain_65 rfl 0 rfl ?_
    refine TC.iload_n dX7_workPlain_66 rfl 2 rfl ?_
    refine TC.callV_v 70 (As1 := [.int p2]) (rest := []) (k_Running_pushNumber Γ p2 X) ka_X7_pushNumber kv_X7_pushNumber oC_70 rfl k1228 rfl rfl rfl rfl (show 3 + 1 ≤ 4 ∧ 8 + (2 + 11) + 110 ≤ 150 from ⟨by omega, by omega⟩) (Nat.le_of_ble_eq_true rfl) dX7_workPlain_67 (fun _ X4 => ?_)
    refine TC.goto (pc1 := 166) dX7_workPlain_70 (by decide) ?_
    exact TC.ret_v rfl dX7_workPlain_166
  refine TC.ite (fun s5 => ?_) (fun s5 => ?_)
  · refine TC.tbl (pc1 := 73) dX7_workPlain_1 (by decide) (off := 72) (by rw [s5]; rfl) (by decide) ?_
    refine TC.aload_n dX7_workPlain_73 rfl 0 rfl ?_
    refine TC.iload_n dX7_workPlain_74 rfl 2 rfl ?_
    refine TC.if_eq (pc1 := 82) dX7_workPlain_75 (by decide) ?_ ?_
    · refine TC.iconst (w := 0) dX7_workPlain_82 (by decide) ?_
      refine TC.sub [] rfl ?_
      exact k_Running_workPlain_83 Γ _ (0 : Int32) X
    · refine TC.iconst (w := 1) dX7_workPlain_78 (by decide) ?_
      refine TC.goto (pc1 := 83) dX7_workPlain_79 (by decide) ?_
      refine TC.sub [] rfl ?_
      exact k_Running_workPlain_83 Γ _ (1 : Int32) X
  refine TC.ite (fun s7 => ?_) (fun s7 => ?_)
  · refine TC.tbl (pc1 := 89) dX7_workPlain_1 (by decide) (off := 88) (by rw [s7]; rfl) (by decide) ?_
    refine TC.aload_n dX7_workPlain_89 rfl 0 rfl ?_
    refine TC.aload_n dX7_workPlain_90 rfl 0 rfl ?_
    refine cC6_13 k628 dX7_workPlain_91 ?_
    refine TC.aload_n dX7_workPlain_94 rfl 0 rfl ?_
    refine TC.iload_n dX7_workPlain_95 rfl 2 rfl ?_
    refine TC.callV_i 70 (As1 := [.int p2]) (rest := [.ref (Γ.2.2.2.1 83), .ref (Γ.2.2.2.1 70)]) (k_Running_slotAt Γ p2 X) ka_X7_slotAt kv_X7_slotAt oC_70 rfl k1157 rfl rfl rfl rfl (show 2 + 1 ≤ 4 ∧ 8 + (3 + 11) + 70 ≤ 150 from ⟨by omega, by omega⟩) (Nat.le_of_ble_eq_true rfl) dX7_workPlain_96 (fun x8 X9 => ?_)
    refine alC83 dX7_workPlain_99 (fun y10 => ?_)
    refine TC.callV_v 70 (As1 := [.long y10]) (rest := []) (k_Running_push Γ y10 X9) ka_X7_push kv_X7_push oC_70 rfl k1145 rfl rfl rfl rfl (show 2 + 1 ≤ 4 ∧ 8 + (3 + 11) + 70 ≤ 150 from ⟨by omega, by omega⟩) (Nat.le_of_ble_eq_true rfl) dX7_workPlain_100 (fun _ X11 => ?_)
    refine TC.goto (pc1 := 166) dX7_workPlain_103 (by decide) ?_
    exact TC.ret_v rfl dX7_workPlain_166
  refine TC.ite (fun s12 => ?_) (fun s12 => ?_)
  · refine TC.tbl (pc1 := 106) dX7_workPlain_1 (by decide) (off := 105) (by rw [s12]; rfl) (by decide) ?_
    refine TC.aload_n dX7_workPlain_106 rfl 0 rfl ?_
    refine TC.iconst (w := 4) dX7_workPlain_107 (by decide) ?_
    refine TC.iload_n dX7_workPlain_108 rfl 2 rfl ?_
    refine TC.callS_l (As1 := [.int 4, .int p2]) (rest := [.ref (Γ.2.2.2.1 70)]) (k_Heap_valueOf Γ (4 : Int32) p2 X) ka_X1_valueOf k1142 k1141 rfl rfl rfl rfl (show 2 + 1 ≤ 4 ∧ 8 + (2 + 11) + 70 ≤ 150 from ⟨by omega, by omega⟩) (Nat.le_of_ble_eq_true rfl) dX7_workPlain_109 (fun y13 X14 => ?_)
    refine TC.callV_v 70 (As1 := [.long y13]) (rest := []) (k_Running_push Γ y13 X14) ka_X7_push kv_X7_push oC_70 rfl k1145 rfl rfl rfl rfl (show 2 + 1 ≤ 4 ∧ 8 + (3 + 11) + 70 ≤ 150 from ⟨by omega, by omega⟩) (Nat.le_of_ble_eq_true rfl) dX7_workPlain_112 (fun _ X15 => ?_)
    refine TC.goto (pc1 := 166) dX7_workPlain_115 (by decide) ?_
    exact TC.ret_v rfl dX7_workPlain_166
  refine TC.ite (fun s16 => ?_) (fun s16 => ?_)
  · refine TC.tbl (pc1 := 118) dX7_workPlain_1 (by decide) (off := 117) (by rw [s16]; rfl) (by decide) ?_
    refine TC.aload_n dX7_workPlain_118 rfl 0 rfl ?_
    refine cC6_13 k628 dX7_workPlain_119 ?_
    refine TC.aload_n dX7_workPlain_122 rfl 0 rfl ?_
    refine TC.iload_n dX7_workPlain_123 rfl 2 rfl ?_
    refine TC.callV_i 70 (As1 := [.int p2]) (rest := [.ref (Γ.2.2.2.1 83)]) (k_Running_slotAt Γ p2 X) ka_X7_slotAt kv_X7_slotAt oC_70 rfl k1157 rfl rfl rfl rfl (show 2 + 1 ≤ 4 ∧ 8 + (3 + 11) + 70 ≤ 150 from ⟨by omega, by omega⟩) (Nat.le_of_ble_eq_true rfl) dX7_workPlain_124 (fun x17 X18 => ?_)
    refine TC.aload_n dX7_workPlain_127 rfl 0 rfl ?_
    refine TC.callV_l 70 (As1 := []) (rest := [.int x17, .ref (Γ.2.2.2.1 83)]) (k_Running_pop Γ X18) ka_X7_pop kv_X7_pop oC_70 rfl k1161 rfl rfl rfl rfl (show 2 + 1 ≤ 4 ∧ 8 + (1 + 11) + 70 ≤ 150 from ⟨by omega, by omega⟩) (Nat.le_of_ble_eq_true rfl) dX7_workPlain_128 (fun y19 X20 => ?_)
    refine asC83 dX7_workPlain_131 (fun X21 => ?_)
    refine TC.goto (pc1 := 166) dX7_workPlain_132 (by decide) ?_
    exact TC.ret_v rfl dX7_workPlain_166
  refine TC.ite (fun s22 => ?_) (fun s22 => ?_)
  · refine TC.tbl (pc1 := 135) dX7_workPlain_1 (by decide) (off := 134) (by rw [s22]; rfl) (by decide) ?_
    refine TC.aload_n dX7_workPlain_135 rfl 0 rfl ?_
    refine TC.callV_i 70 (As1 := []) (rest := []) (k_Running_popContent Γ X) ka_X7_popContent kv_X7_popContent oC_70 rfl k1224 rfl rfl rfl rfl (show 3 + 1 ≤ 4 ∧ 8 + (1 + 11) + 110 ≤ 150 from ⟨by omega, by omega⟩) (Nat.le_of_ble_eq_true rfl) dX7_workPlain_136 (fun x23 X24 => ?_)
    refine TC.if_ne (pc1 := 166) dX7_workPlain_139 (by decide) ?_ ?_
    · exact TC.ret_v rfl dX7_workPlain_166
    · refine TC.aload_n dX7_workPlain_142 rfl 0 rfl ?_
      refine TC.iload_n dX7_workPlain_143 rfl 2 rfl ?_
      refine pC6_10 k625 dX7_workPlain_144 (fun X25 => ?_)
      refine TC.goto (pc1 := 166) dX7_workPlain_147 (by decide) ?_
      exact TC.ret_v rfl dX7_workPlain_166
  refine TC.ite (fun s26 => ?_) (fun s26 => ?_)
  · refine TC.tbl (pc1 := 150) dX7_workPlain_1 (by decide) (off := 149) (by rw [s26]; rfl) (by decide) ?_
    refine TC.aload_n dX7_workPlain_150 rfl 0 rfl ?_
    refine TC.iload_n dX7_workPlain_151 rfl 2 rfl ?_
    refine pC6_10 k625 dX7_workPlain_152 (fun X27 => ?_)
    refine TC.goto (pc1 := 166) dX7_workPlain_155 (by decide) ?_
    exact TC.ret_v rfl dX7_workPlain_166
  refine TC.ite (fun s28 => ?_) (fun s28 => ?_)
  · refine TC.tbl (pc1 := 158) dX7_workPlain_1 (by decide) (off := 157) (by rw [s28]; rfl) (by decide) ?_
    refine TC.aload_n dX7_workPlain_158 rfl 0 rfl ?_
    refine TC.callV_l 70 (As1 := []) (rest := []) (k_Running_pop Γ X) ka_X7_pop kv_X7_pop oC_70 rfl k1161 rfl rfl rfl rfl (show 2 + 1 ≤ 4 ∧ 8 + (1 + 11) + 70 ≤ 150 from ⟨by omega, by omega⟩) (Nat.le_of_ble_eq_true rfl) dX7_workPlain_159 (fun y29 X30 => ?_)
    refine TC.pop2 dX7_workPlain_162 ?_
    refine TC.goto (pc1 := 166) dX7_workPlain_163 (by decide) ?_
    exact TC.ret_v rfl dX7_workPlain_166
  refine TC.tbl (pc1 := 166) dX7_workPlain_1 (by decide) (off := 165) (tbl_d [0, 1, 2, 3, 4, 5, 6, 7, 9] (by intro q; simp only [List.mem_cons, List.not_mem_nil, or_false] at q; omega) (by decide)) (by decide) ?_
  exact TC.ret_v rfl dX7_workPlain_166
noncomputable def g_Running_runAll_289 (r122 : Int32 → St → Option (Int32 × St)) (a_5 : Int32) (X : St) : Option (Int32 × St) :=
  letV (a_5 + Int32.ofInt (1)) fun x47 =>
  r122 x47 X
set_option maxHeartbeats 4000000 in
set_option maxRecDepth 100000 in
theorem k_Running_runAll_289 (Γ : GxC) (As : List Value) (r122 : Int32 → St → Option (Int32 × St)) (hr122 : ∀ (a_5 : Int32) (X : St), TC YC Γ cX7_runAll 8 "BlameCourt$Running" (some .int) { frames := 8, cells := 0, slots := 0, locals := 310 } As kI 122 [(0, .ref (Γ.2.2.2.1 70)), (5, .int a_5)] [] X (r122 a_5 X)) (a_5 : Int32) (X : St) : TC YC Γ cX7_runAll 8 "BlameCourt$Running" (some .int) { frames := 8, cells := 0, slots := 0, locals := 310 } As kI 289 [(0, .ref (Γ.2.2.2.1 70)), (5, .int a_5)] [] X (g_Running_runAll_289 r122 a_5 X) := by
  unfold g_Running_runAll_289
  refine TC.iinc dX7_runAll_289 1 rfl (by decide) (lvf := fun x47 => [(5, .int x47), (0, .ref (Γ.2.2.2.1 70))]) (fun _ => rfl) (fun x47 => ?_)
  refine TC.goto (pc1 := 122) dX7_runAll_292 (by decide) ?_
  refine TC.sub [1, 0] rfl ?_
  exact hr122 x47 X
noncomputable def g_Running_runAll_122_s (r122 : Int32 → St → Option (Int32 × St)) (a_5 : Int32) (X : St) : Option (Int32 × St) :=
  if 1000000 ≤ a_5.toInt then
    letV (X.1 70 5) fun x24 =>
    some (x24, X)
  else
    letV (X.1 70 4) fun x25 =>
    if x25.toInt = 0 then
      letV (X.1 70 5) fun x26 =>
      some (x26, X)
    else
      letV (X.1 70 10) fun x27 =>
      if x27.toInt < 0 then
        letV (X.1 70 5) fun x28 =>
        some (x28, X)
      else
        letV (X.1 70 10) fun x29 =>
        chk (refO YC (X.2.2 70 2) 4 17 = true) (letV (X.2.2 70 2 - 1) fun e30 =>
        letV (X.1 e30 6) fun x31 =>
        if x31.toInt ≤ x29.toInt then
          letV (X.1 70 5) fun x32 =>
          some (x32, X)
        else
          letV (X.1 70 10) fun x33 =>
          letV (X.1 70 10) fun x34 =>
          letV (x34 + (1 : Int32)) fun x35 =>
          letV (wI X 70 10 x35) fun X36 =>
          chk (refO YC (X36.2.2 70 2) 4 17 = true) (letV (X36.2.2 70 2 - 1) fun e37 =>
          letV (kY YC e37 13 - 3) fun e38 =>
          chk (inR x33 9080) (letV (X36.1 e38 (ix x33)) fun x39 =>
          if x39.toInt < 27 then
            if x39.toInt < 18 then
              if x39.toInt < 10 then
                chk (refO YC (X36.2.2 70 2) 4 17 = true) (letV (X36.2.2 70 2 - 1) fun e40 =>
                letV (kY YC e40 14 - 3) fun e41 =>
                chk (inR x33 9080) (letV (X36.1 e41 (ix x33)) fun x42 =>
                chk (refO YC (X36.2.2 70 2) 4 17 = true) (letV (X36.2.2 70 2 - 1) fun e43 =>
                letV (kY YC e43 16 - 3) fun e44 =>
                chk (inR x33 9080) (letV (X36.1 e44 (ix x33)) fun x45 =>
                bnd (g_Running_workPlain x39 x42 x45 X36) fun _ X46 =>
                g_Running_runAll_289 r122 a_5 X46))))
              else
                chk (refO YC (X36.2.2 70 2) 4 17 = true) (letV (X36.2.2 70 2 - 1) fun e48 =>
                letV (kY YC e48 14 - 3) fun e49 =>
                chk (inR x33 9080) (letV (X36.1 e49 (ix x33)) fun x50 =>
                chk (refO YC (X36.2.2 70 2) 4 17 = true) (letV (X36.2.2 70 2 - 1) fun e51 =>
                letV (kY YC e51 16 - 3) fun e52 =>
                chk (inR x33 9080) (letV (X36.1 e52 (ix x33)) fun x53 =>
                bnd (g_Running_workRowOrCall x39 x50 x53 X36) fun _ X54 =>
                g_Running_runAll_289 r122 a_5 X54))))
            else
              chk (refO YC (X36.2.2 70 2) 4 17 = true) (letV (X36.2.2 70 2 - 1) fun e55 =>
              letV (kY YC e55 16 - 3) fun e56 =>
              chk (inR x33 9080) (letV (X36.1 e56 (ix x33)) fun x57 =>
              bnd (g_Running_workNumbers x39 x57 X36) fun _ X58 =>
              g_Running_runAll_289 r122 a_5 X58))
          else
            bnd (g_Running_workAsking x33 X36) fun _ X59 =>
            g_Running_runAll_289 r122 a_5 X59)))
noncomputable def g_Running_runAll_122 (n : Nat) : Int32 → St → Option (Int32 × St) := lp (fun _ _ => none) (g_Running_runAll_122_s) n
set_option maxHeartbeats 4000000 in
set_option maxRecDepth 100000 in
theorem k_Running_runAll_122 (Γ : GxC) (As : List Value) (n : Nat) : ∀ (a_5 : Int32) (X : St), TC YC Γ cX7_runAll 8 "BlameCourt$Running" (some .int) { frames := 8, cells := 0, slots := 0, locals := 310 } As kI 122 [(0, .ref (Γ.2.2.2.1 70)), (5, .int a_5)] [] X (g_Running_runAll_122 n a_5 X) := by
  unfold g_Running_runAll_122
  refine lp_ind (P := fun (r122 : Int32 → St → Option (Int32 × St)) => ∀ (a_5 : Int32) (X : St), TC YC Γ cX7_runAll 8 "BlameCourt$Running" (some .int) { frames := 8, cells := 0, slots := 0, locals := 310 } As kI 122 [(0, .ref (Γ.2.2.2.1 70)), (5, .int a_5)] [] X (r122 a_5 X)) (fun _ _ => TC.no) ?_ n
  intro r122 hr122 a_5 X
  unfold g_Running_runAll_122_s
  refine TC.iload dX7_runAll_122 1 rfl ?_
  refine TC.ldc (w := 1000000) dX7_runAll_124 k1165 ?_
  refine TC.icmp_ge (pc1 := 295) dX7_runAll_126 (by decide) rfl ?_ ?_
  · refine TC.aload_n dX7_runAll_295 rfl 0 rfl ?_
    refine gC6_5 k620 dX7_runAll_296 (fun x24 => ?_)
    exact TC.ret_i rfl dX7_runAll_299
  · refine TC.aload_n dX7_runAll_129 rfl 0 rfl ?_
    refine gC6_4 k619 dX7_runAll_130 (fun x25 => ?_)
    refine TC.if_eq (pc1 := 295) dX7_runAll_133 (by decide) ?_ ?_
    · refine TC.aload_n dX7_runAll_295 rfl 0 rfl ?_
      refine gC6_5 k620 dX7_runAll_296 (fun x26 => ?_)
      exact TC.ret_i rfl dX7_runAll_299
    · refine TC.aload_n dX7_runAll_136 rfl 0 rfl ?_
      refine gC6_10 k625 dX7_runAll_137 (fun x27 => ?_)
      refine TC.if_lt (pc1 := 295) dX7_runAll_140 (by decide) ?_ ?_
      · refine TC.aload_n dX7_runAll_295 rfl 0 rfl ?_
        refine gC6_5 k620 dX7_runAll_296 (fun x28 => ?_)
        exact TC.ret_i rfl dX7_runAll_299
      · refine TC.aload_n dX7_runAll_143 rfl 0 rfl ?_
        refine gC6_10 k625 dX7_runAll_144 (fun x29 => ?_)
        refine TC.aload_n dX7_runAll_147 rfl 0 rfl ?_
        refine mC6_2 k617 dX7_runAll_148 (fun e30 he30 => ?_)
        refine gC4_6 e30 he30 k336 dX7_runAll_151 (fun x31 => ?_)
        refine TC.icmp_ge (pc1 := 295) dX7_runAll_154 (by decide) rfl ?_ ?_
        · refine TC.aload_n dX7_runAll_295 rfl 0 rfl ?_
          refine gC6_5 k620 dX7_runAll_296 (fun x32 => ?_)
          exact TC.ret_i rfl dX7_runAll_299
        · refine TC.aload_n dX7_runAll_157 rfl 0 rfl ?_
          refine gC6_10 k625 dX7_runAll_158 (fun x33 => ?_)
          refine TC.istore (lv1 := [(6, .int x33), (0, .ref (Γ.2.2.2.1 70)), (5, .int a_5)]) dX7_runAll_161 (by decide) rfl ?_
          refine TC.aload_n dX7_runAll_163 rfl 1 rfl ?_
          refine TC.dupr dX7_runAll_164 ?_
          refine gC6_10 k625 dX7_runAll_165 (fun x34 => ?_)
          refine TC.iconst (w := 1) dX7_runAll_168 (by decide) ?_
          refine TC.iadd dX7_runAll_169 (fun x35 => ?_)
          refine pC6_10 k625 dX7_runAll_170 (fun X36 => ?_)
          refine TC.aload_n dX7_runAll_173 rfl 1 rfl ?_
          refine mC6_2 k617 dX7_runAll_174 (fun e37 he37 => ?_)
          refine vC4_13 e37 he37 k321 dX7_runAll_177 (fun e38 he38 => ?_)
          refine TC.iload dX7_runAll_180 0 rfl ?_
          refine TC.iald e38 he38 dX7_runAll_182 (fun x39 => ?_)
          refine TC.istore (lv1 := [(7, .int x39), (6, .int x33), (0, .ref (Γ.2.2.2.1 70)), (5, .int a_5)]) dX7_runAll_183 (by decide) rfl ?_
          refine TC.iload dX7_runAll_185 0 rfl ?_
          refine TC.bipush (w := 27) dX7_runAll_187 (by decide) ?_
          refine TC.icmp_lt (pc1 := 201) dX7_runAll_189 (by decide) rfl ?_ ?_
          · refine TC.iload dX7_runAll_201 0 rfl ?_
            refine TC.bipush (w := 18) dX7_runAll_203 (by decide) ?_
            refine TC.icmp_lt (pc1 := 227) dX7_runAll_205 (by decide) rfl ?_ ?_
            · refine TC.iload dX7_runAll_227 0 rfl ?_
              refine TC.bipush (w := 10) dX7_runAll_229 (by decide) ?_
              refine TC.icmp_lt (pc1 := 263) dX7_runAll_231 (by decide) rfl ?_ ?_
              · refine TC.aload_n dX7_runAll_263 rfl 2 rfl ?_
                refine TC.iload dX7_runAll_264 0 rfl ?_
                refine TC.aload_n dX7_runAll_266 rfl 2 rfl ?_
                refine mC6_2 k617 dX7_runAll_267 (fun e40 he40 => ?_)
                refine vC4_14 e40 he40 k325 dX7_runAll_270 (fun e41 he41 => ?_)
                refine TC.iload dX7_runAll_273 1 rfl ?_
                refine TC.iald e41 he41 dX7_runAll_275 (fun x42 => ?_)
                refine TC.aload_n dX7_runAll_276 rfl 2 rfl ?_
                refine mC6_2 k617 dX7_runAll_277 (fun e43 he43 => ?_)
                refine vC4_16 e43 he43 k332 dX7_runAll_280 (fun e44 he44 => ?_)
                refine TC.iload dX7_runAll_283 1 rfl ?_
                refine TC.iald e44 he44 dX7_runAll_285 (fun x45 => ?_)
                refine TC.callV_v 70 (As1 := [.int x39, .int x42, .int x45]) (rest := []) (k_Running_workPlain Γ x39 x42 x45 X36) ka_X7_workPlain kv_X7_workPlain oC_70 rfl k1311 rfl rfl rfl rfl (show 4 + 1 ≤ 8 ∧ 8 + (4 + 11) + 150 ≤ 310 from ⟨by omega, by omega⟩) (Nat.le_of_ble_eq_true rfl) dX7_runAll_286 (fun _ X46 => ?_)
                refine TC.sub [2, 3] rfl ?_
                exact k_Running_runAll_289 Γ _ r122 hr122 a_5 X46
              · refine TC.aload_n dX7_runAll_234 rfl 2 rfl ?_
                refine TC.iload dX7_runAll_235 0 rfl ?_
                refine TC.aload_n dX7_runAll_237 rfl 2 rfl ?_
                refine mC6_2 k617 dX7_runAll_238 (fun e48 he48 => ?_)
                refine vC4_14 e48 he48 k325 dX7_runAll_241 (fun e49 he49 => ?_)
                refine TC.iload dX7_runAll_244 1 rfl ?_
                refine TC.iald e49 he49 dX7_runAll_246 (fun x50 => ?_)
                refine TC.aload_n dX7_runAll_247 rfl 2 rfl ?_
                refine mC6_2 k617 dX7_runAll_248 (fun e51 he51 => ?_)
                refine vC4_16 e51 he51 k332 dX7_runAll_251 (fun e52 he52 => ?_)
                refine TC.iload dX7_runAll_254 1 rfl ?_
                refine TC.iald e52 he52 dX7_runAll_256 (fun x53 => ?_)
                refine TC.callV_v 70 (As1 := [.int x39, .int x50, .int x53]) (rest := []) (k_Running_workRowOrCall Γ x39 x50 x53 X36) ka_X7_workRowOrCall kv_X7_workRowOrCall oC_70 rfl k1239 rfl rfl rfl rfl (show 7 + 1 ≤ 8 ∧ 8 + (4 + 11) + 270 ≤ 310 from ⟨by omega, by omega⟩) (Nat.le_of_ble_eq_true rfl) dX7_runAll_257 (fun _ X54 => ?_)
                refine TC.goto (pc1 := 289) dX7_runAll_260 (by decide) ?_
                refine TC.sub [2, 3] rfl ?_
                exact k_Running_runAll_289 Γ _ r122 hr122 a_5 X54
            · refine TC.aload_n dX7_runAll_208 rfl 2 rfl ?_
              refine TC.iload dX7_runAll_209 0 rfl ?_
              refine TC.aload_n dX7_runAll_211 rfl 2 rfl ?_
              refine mC6_2 k617 dX7_runAll_212 (fun e55 he55 => ?_)
              refine vC4_16 e55 he55 k332 dX7_runAll_215 (fun e56 he56 => ?_)
              refine TC.iload dX7_runAll_218 1 rfl ?_
              refine TC.iald e56 he56 dX7_runAll_220 (fun x57 => ?_)
              refine TC.callV_v 70 (As1 := [.int x39, .int x57]) (rest := []) (k_Running_workNumbers Γ x39 x57 X36) ka_X7_workNumbers kv_X7_workNumbers oC_70 rfl k1220 rfl rfl rfl rfl (show 4 + 1 ≤ 8 ∧ 8 + (5 + 11) + 150 ≤ 310 from ⟨by omega, by omega⟩) (Nat.le_of_ble_eq_true rfl) dX7_runAll_221 (fun _ X58 => ?_)
              refine TC.goto (pc1 := 289) dX7_runAll_224 (by decide) ?_
              refine TC.sub [2, 3] rfl ?_
              exact k_Running_runAll_289 Γ _ r122 hr122 a_5 X58
          · refine TC.aload_n dX7_runAll_192 rfl 2 rfl ?_
            refine TC.iload dX7_runAll_193 1 rfl ?_
            refine TC.callV_v 70 (As1 := [.int x33]) (rest := []) (k_Running_workAsking Γ x33 X36) ka_X7_workAsking kv_X7_workAsking oC_70 rfl k1166 rfl rfl rfl rfl (show 5 + 1 ≤ 8 ∧ 8 + (3 + 11) + 190 ≤ 310 from ⟨by omega, by omega⟩) (Nat.le_of_ble_eq_true rfl) dX7_runAll_195 (fun _ X59 => ?_)
            refine TC.goto (pc1 := 289) dX7_runAll_198 (by decide) ?_
            refine TC.sub [2, 3] rfl ?_
            exact k_Running_runAll_289 Γ _ r122 hr122 a_5 X59
noncomputable def g_Running_runAll (o1 : Nat) (o2 : Nat) (p3 : Int32) (p4 : Int32) (X : St) : Option (Int32 × St) :=
  letV (wR X 70 2 ((o1 + 1))) fun X1 =>
  letV (wR X1 70 0 ((o2 + 1))) fun X2 =>
  chk (p3.toInt = 0 ∨ p3.toInt = 1) (letV (wI X2 70 3 p3) fun X3 =>
  letV (wI X3 70 8 p4) fun X4 =>
  bnd (g_Heap_clear X4) fun _ X5 =>
  bnd (g_JArrays_fill 87 (0 : Int32) X5) fun _ X6 =>
  letV (wI X6 70 5 ((0 : Int32))) fun X7 =>
  letV (wI X7 70 6 ((-1 : Int32))) fun X8 =>
  letV (wI X8 70 7 ((-1 : Int32))) fun X9 =>
  letV (wI X9 70 9 ((0 : Int32))) fun X10 =>
  letV (wI X10 70 11 ((0 : Int32))) fun X11 =>
  letV (wI X11 70 15 ((0 : Int32))) fun X12 =>
  letV (wI X12 70 18 ((0 : Int32))) fun X13 =>
  letV (wI X13 70 10 ((0 : Int32))) fun X14 =>
  letV (wI X14 70 4 ((1 : Int32))) fun X15 =>
  chk (refO YC (X15.2.2 70 2) 4 17 = true) (letV (X15.2.2 70 2 - 1) fun e16 =>
  letV (X15.1 e16 2) fun x17 =>
  bnd (g_Heap_valueOf (4 : Int32) x17 X15) fun y18 X19 =>
  bnd (g_Running_push y18 X19) fun _ X20 =>
  chk (refO YC (X20.2.2 70 2) 4 17 = true) (letV (X20.2.2 70 2 - 1) fun e21 =>
  letV (X20.1 e21 2) fun x22 =>
  bnd (g_Running_enterPart x22 (0 : Int32) (0 : Int32) X20) fun _ X23 =>
  g_Running_runAll_122 BIG (0 : Int32) X23)))
set_option maxHeartbeats 4000000 in
set_option maxRecDepth 100000 in
theorem k_Running_runAll (Γ : GxC) (o1 : Nat) (ho1 : isO YC o1 4 17) (o2 : Nat) (ho2 : isO YC o2 0 6) (p3 : Int32) (p4 : Int32) (X : St) : TCI YC Γ yX7_runAll cX7_runAll 8 "BlameCourt$Running" (some .int) { frames := 8, cells := 0, slots := 0, locals := 310 } [.ref (Γ.2.2.2.1 70), .ref (Γ.2.2.2.1 o1), .ref (Γ.2.2.2.1 o2), .int p3, .int p4] X (g_Running_runAll o1 o2 p3 p4 X) := by
  refine TCI.of (by decide) (Nat.le_of_ble_eq_true rfl) rfl ?_
  show TC YC Γ cX7_runAll 8 "BlameCourt$Running" (some .int) { frames := 8, cells := 0, slots := 0, locals := 310 } _ kI 0 [(0, .ref (Γ.2.2.2.1 70)), (1, .ref (Γ.2.2.2.1 o1)), (2, .ref (Γ.2.2.2.1 o2)), (3, .int p3), (4, .int p4)] [] X (g_Running_runAll o1 o2 p3 p4 X)
  unfold g_Running_runAll
  refine TC.aload_n dX7_runAll_0 rfl 1 rfl ?_
  refine TC.ifnull dX7_runAll_1 ?_
  refine TC.aload_n dX7_runAll_4 rfl 2 rfl ?_
  refine TC.ifnonnull (pc1 := 10) dX7_runAll_5 (by decide) ?_
  refine TC.aload_n dX7_runAll_10 rfl 0 rfl ?_
  refine TC.aload_n dX7_runAll_11 rfl 1 rfl ?_
  refine pC6_2 k617 dX7_runAll_12 (fun X1 => ?_)
  refine TC.aload_n dX7_runAll_15 rfl 0 rfl ?_
  refine TC.aload_n dX7_runAll_16 rfl 2 rfl ?_
  refine pC6_0 k615 dX7_runAll_17 (fun X2 => ?_)
  refine TC.aload_n dX7_runAll_20 rfl 0 rfl ?_
  refine TC.iload_n dX7_runAll_21 rfl 3 rfl ?_
  refine TC.ck (fun h60 => pC6_3 k618 h60 dX7_runAll_22 (fun X3 => ?_))
  refine TC.aload_n dX7_runAll_25 rfl 0 rfl ?_
  refine TC.iload dX7_runAll_26 4 rfl ?_
  refine pC6_8 k623 dX7_runAll_28 (fun X4 => ?_)
  refine TC.aload_n dX7_runAll_31 rfl 0 rfl ?_
  refine cC6_1 k616 dX7_runAll_32 ?_
  refine TC.callV_v 71 (As1 := []) (rest := []) (k_Heap_clear Γ X4) ka_X1_clear kv_X1_clear oC_71 rfl k1136 rfl rfl rfl rfl (show 2 + 1 ≤ 8 ∧ 8 + (1 + 11) + 70 ≤ 310 from ⟨by omega, by omega⟩) (Nat.le_of_ble_eq_true rfl) dX7_runAll_35 (fun _ X5 => ?_)
  refine TC.aload_n dX7_runAll_38 rfl 0 rfl ?_
  refine cC6_19 k636 dX7_runAll_39 ?_
  refine TC.iconst (w := 0) dX7_runAll_42 (by decide) ?_
  refine TC.callS_v (As1 := [.ref (Γ.2.2.2.1 87), .int 0]) (rest := []) (k_JArrays_fill Γ 87 ⟨rfl, rfl, rfl⟩ (0 : Int32) X5) ka_J7_fill_53178 k221 k1140 rfl rfl rfl rfl (show 2 + 1 ≤ 8 ∧ 8 + (4 + 11) + 70 ≤ 310 from ⟨by omega, by omega⟩) (Nat.le_of_ble_eq_true rfl) dX7_runAll_43 (fun _ X6 => ?_)
  refine TC.aload_n dX7_runAll_46 rfl 0 rfl ?_
  refine TC.iconst (w := 0) dX7_runAll_47 (by decide) ?_
  refine pC6_5 k620 dX7_runAll_48 (fun X7 => ?_)
  refine TC.aload_n dX7_runAll_51 rfl 0 rfl ?_
  refine TC.iconst (w := (-1)) dX7_runAll_52 (by decide) ?_
  refine pC6_6 k621 dX7_runAll_53 (fun X8 => ?_)
  refine TC.aload_n dX7_runAll_56 rfl 0 rfl ?_
  refine TC.iconst (w := (-1)) dX7_runAll_57 (by decide) ?_
  refine pC6_7 k622 dX7_runAll_58 (fun X9 => ?_)
  refine TC.aload_n dX7_runAll_61 rfl 0 rfl ?_
  refine TC.iconst (w := 0) dX7_runAll_62 (by decide) ?_
  refine pC6_9 k624 dX7_runAll_63 (fun X10 => ?_)
  refine TC.aload_n dX7_runAll_66 rfl 0 rfl ?_
  refine TC.iconst (w := 0) dX7_runAll_67 (by decide) ?_
  refine pC6_11 k626 dX7_runAll_68 (fun X11 => ?_)
  refine TC.aload_n dX7_runAll_71 rfl 0 rfl ?_
  refine TC.iconst (w := 0) dX7_runAll_72 (by decide) ?_
  refine pC6_15 k630 dX7_runAll_73 (fun X12 => ?_)
  refine TC.aload_n dX7_runAll_76 rfl 0 rfl ?_
  refine TC.iconst (w := 0) dX7_runAll_77 (by decide) ?_
  refine pC6_18 k634 dX7_runAll_78 (fun X13 => ?_)
  refine TC.aload_n dX7_runAll_81 rfl 0 rfl ?_
  refine TC.iconst (w := 0) dX7_runAll_82 (by decide) ?_
  refine pC6_10 k625 dX7_runAll_83 (fun X14 => ?_)
  refine TC.aload_n dX7_runAll_86 rfl 0 rfl ?_
  refine TC.iconst (w := 1) dX7_runAll_87 (by decide) ?_
  refine pC6_4 k619 (by decide) dX7_runAll_88 (fun X15 => ?_)
  refine TC.aload_n dX7_runAll_91 rfl 0 rfl ?_
  refine TC.iconst (w := 4) dX7_runAll_92 (by decide) ?_
  refine TC.aload_n dX7_runAll_93 rfl 0 rfl ?_
  refine mC6_2 k617 dX7_runAll_94 (fun e16 he16 => ?_)
  refine gC4_2 e16 he16 k290 dX7_runAll_97 (fun x17 => ?_)
  refine TC.callS_l (As1 := [.int 4, .int x17]) (rest := [.ref (Γ.2.2.2.1 70)]) (k_Heap_valueOf Γ (4 : Int32) x17 X15) ka_X1_valueOf k1142 k1141 rfl rfl rfl rfl (show 2 + 1 ≤ 8 ∧ 8 + (2 + 11) + 70 ≤ 310 from ⟨by omega, by omega⟩) (Nat.le_of_ble_eq_true rfl) dX7_runAll_100 (fun y18 X19 => ?_)
  refine TC.callV_v 70 (As1 := [.long y18]) (rest := []) (k_Running_push Γ y18 X19) ka_X7_push kv_X7_push oC_70 rfl k1145 rfl rfl rfl rfl (show 2 + 1 ≤ 8 ∧ 8 + (3 + 11) + 70 ≤ 310 from ⟨by omega, by omega⟩) (Nat.le_of_ble_eq_true rfl) dX7_runAll_103 (fun _ X20 => ?_)
  refine TC.aload_n dX7_runAll_106 rfl 0 rfl ?_
  refine TC.aload_n dX7_runAll_107 rfl 0 rfl ?_
  refine mC6_2 k617 dX7_runAll_108 (fun e21 he21 => ?_)
  refine gC4_2 e21 he21 k290 dX7_runAll_111 (fun x22 => ?_)
  refine TC.iconst (w := 0) dX7_runAll_114 (by decide) ?_
  refine TC.iconst (w := 0) dX7_runAll_115 (by decide) ?_
  refine TC.callV_v 70 (As1 := [.int x22, .int 0, .int 0]) (rest := []) (k_Running_enterPart Γ x22 (0 : Int32) (0 : Int32) X20) ka_X7_enterPart kv_X7_enterPart oC_70 rfl k1149 rfl rfl rfl rfl (show 3 + 1 ≤ 8 ∧ 8 + (5 + 11) + 110 ≤ 310 from ⟨by omega, by omega⟩) (Nat.le_of_ble_eq_true rfl) dX7_runAll_116 (fun _ X23 => ?_)
  refine TC.iconst (w := 0) dX7_runAll_119 (by decide) ?_
  refine TC.istore (lv1 := [(5, .int 0), (0, .ref (Γ.2.2.2.1 70)), (1, .ref (Γ.2.2.2.1 o1)), (2, .ref (Γ.2.2.2.1 o2)), (3, .int p3), (4, .int p4)]) dX7_runAll_120 (by decide) rfl ?_
  refine TC.sub [1, 0] rfl ?_
  exact k_Running_runAll_122 Γ _ BIG (0 : Int32) X23
