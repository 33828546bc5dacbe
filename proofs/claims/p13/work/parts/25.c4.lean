theorem dX6_addStep_0 : decode cX6_addStep 0 = .ok (.aload_n 0, 1) := by decide +kernel
theorem dX6_addStep_1 : decode cX6_addStep 1 = .ok (.getfield 18, 3) := by decide +kernel
theorem dX6_addStep_4 : decode cX6_addStep 4 = .ok (.getfield 205, 3) := by decide +kernel
theorem dX6_addStep_7 : decode cX6_addStep 7 = .ok (.iload_n 1, 1) := by decide +kernel
theorem dX6_addStep_8 : decode cX6_addStep 8 = .ok (.dup2, 1) := by decide +kernel
theorem dX6_addStep_9 : decode cX6_addStep 9 = .ok (.iaload, 1) := by decide +kernel
theorem dX6_addStep_10 : decode cX6_addStep 10 = .ok (.iconst 1, 1) := by decide +kernel
theorem dX6_addStep_11 : decode cX6_addStep 11 = .ok (.iadd, 1) := by decide +kernel
theorem dX6_addStep_12 : decode cX6_addStep 12 = .ok (.iastore, 1) := by decide +kernel
theorem dX6_addStep_13 : decode cX6_addStep 13 = .ok (.return_, 1) := by decide +kernel
theorem dX6_applyWaiting_0 : decode cX6_applyWaiting 0 = .ok (.iload_n 3, 1) := by decide +kernel
theorem dX6_applyWaiting_1 : decode cX6_applyWaiting 1 = .ok (.istore 4, 2) := by decide +kernel
theorem dX6_applyWaiting_3 : decode cX6_applyWaiting 3 = .ok (.aload_n 0, 1) := by decide +kernel
theorem dX6_applyWaiting_4 : decode cX6_applyWaiting 4 = .ok (.getfield 52, 3) := by decide +kernel
theorem dX6_applyWaiting_7 : decode cX6_applyWaiting 7 = .ok (.iconst 1, 1) := by decide +kernel
theorem dX6_applyWaiting_8 : decode cX6_applyWaiting 8 = .ok (.isub, 1) := by decide +kernel
theorem dX6_applyWaiting_9 : decode cX6_applyWaiting 9 = .ok (.istore 5, 2) := by decide +kernel
theorem dX6_applyWaiting_11 : decode cX6_applyWaiting 11 = .ok (.iload 5, 2) := by decide +kernel
theorem dX6_applyWaiting_13 : decode cX6_applyWaiting 13 = .ok (.iload_n 1, 1) := by decide +kernel
theorem dX6_applyWaiting_14 : decode cX6_applyWaiting 14 = .ok (.if_icmp .lt 87, 3) := by decide +kernel
theorem dX6_applyWaiting_17 : decode cX6_applyWaiting 17 = .ok (.aload_n 0, 1) := by decide +kernel
theorem dX6_applyWaiting_18 : decode cX6_applyWaiting 18 = .ok (.getfield 43, 3) := by decide +kernel
theorem dX6_applyWaiting_21 : decode cX6_applyWaiting 21 = .ok (.iload 5, 2) := by decide +kernel
theorem dX6_applyWaiting_23 : decode cX6_applyWaiting 23 = .ok (.iaload, 1) := by decide +kernel
theorem dX6_applyWaiting_24 : decode cX6_applyWaiting 24 = .ok (.invokestatic 223, 3) := by decide +kernel
theorem dX6_applyWaiting_27 : decode cX6_applyWaiting 27 = .ok (.iload_n 2, 1) := by decide +kernel
theorem dX6_applyWaiting_28 : decode cX6_applyWaiting 28 = .ok (.if_icmp .lt 73, 3) := by decide +kernel
theorem dX6_applyWaiting_31 : decode cX6_applyWaiting 31 = .ok (.aload_n 0, 1) := by decide +kernel
theorem dX6_applyWaiting_32 : decode cX6_applyWaiting 32 = .ok (.getfield 18, 3) := by decide +kernel
theorem dX6_applyWaiting_35 : decode cX6_applyWaiting 35 = .ok (.bipush 27, 2) := by decide +kernel
theorem dX6_applyWaiting_37 : decode cX6_applyWaiting 37 = .ok (.iconst 0, 1) := by decide +kernel
theorem dX6_applyWaiting_38 : decode cX6_applyWaiting 38 = .ok (.aload_n 0, 1) := by decide +kernel
theorem dX6_applyWaiting_39 : decode cX6_applyWaiting 39 = .ok (.iload 4, 2) := by decide +kernel
theorem dX6_applyWaiting_41 : decode cX6_applyWaiting 41 = .ok (.invokevirtual 162, 3) := by decide +kernel
theorem dX6_applyWaiting_44 : decode cX6_applyWaiting 44 = .ok (.invokevirtual 166, 3) := by decide +kernel
theorem dX6_applyWaiting_47 : decode cX6_applyWaiting 47 = .ok (.pop, 1) := by decide +kernel
theorem dX6_applyWaiting_48 : decode cX6_applyWaiting 48 = .ok (.aload_n 0, 1) := by decide +kernel
theorem dX6_applyWaiting_49 : decode cX6_applyWaiting 49 = .ok (.getfield 18, 3) := by decide +kernel
theorem dX6_applyWaiting_52 : decode cX6_applyWaiting 52 = .ok (.aload_n 0, 1) := by decide +kernel
theorem dX6_applyWaiting_53 : decode cX6_applyWaiting 53 = .ok (.getfield 43, 3) := by decide +kernel
theorem dX6_applyWaiting_56 : decode cX6_applyWaiting 56 = .ok (.iload 5, 2) := by decide +kernel
theorem dX6_applyWaiting_58 : decode cX6_applyWaiting 58 = .ok (.iaload, 1) := by decide +kernel
theorem dX6_applyWaiting_59 : decode cX6_applyWaiting 59 = .ok (.invokestatic 232, 3) := by decide +kernel
theorem dX6_applyWaiting_62 : decode cX6_applyWaiting 62 = .ok (.iconst 0, 1) := by decide +kernel
theorem dX6_applyWaiting_63 : decode cX6_applyWaiting 63 = .ok (.aload_n 0, 1) := by decide +kernel
theorem dX6_applyWaiting_64 : decode cX6_applyWaiting 64 = .ok (.getfield 46, 3) := by decide +kernel
theorem dX6_applyWaiting_67 : decode cX6_applyWaiting 67 = .ok (.iload 5, 2) := by decide +kernel
theorem dX6_applyWaiting_69 : decode cX6_applyWaiting 69 = .ok (.iaload, 1) := by decide +kernel
theorem dX6_applyWaiting_70 : decode cX6_applyWaiting 70 = .ok (.invokevirtual 166, 3) := by decide +kernel
theorem dX6_applyWaiting_73 : decode cX6_applyWaiting 73 = .ok (.pop, 1) := by decide +kernel
theorem dX6_applyWaiting_74 : decode cX6_applyWaiting 74 = .ok (.aload_n 0, 1) := by decide +kernel
theorem dX6_applyWaiting_75 : decode cX6_applyWaiting 75 = .ok (.getfield 49, 3) := by decide +kernel
theorem dX6_applyWaiting_78 : decode cX6_applyWaiting 78 = .ok (.iload 5, 2) := by decide +kernel
theorem dX6_applyWaiting_80 : decode cX6_applyWaiting 80 = .ok (.iaload, 1) := by decide +kernel
theorem dX6_applyWaiting_81 : decode cX6_applyWaiting 81 = .ok (.istore 4, 2) := by decide +kernel
theorem dX6_applyWaiting_83 : decode cX6_applyWaiting 83 = .ok (.aload_n 0, 1) := by decide +kernel
theorem dX6_applyWaiting_84 : decode cX6_applyWaiting 84 = .ok (.iload 4, 2) := by decide +kernel
theorem dX6_applyWaiting_86 : decode cX6_applyWaiting 86 = .ok (.invokevirtual 235, 3) := by decide +kernel
theorem dX6_applyWaiting_89 : decode cX6_applyWaiting 89 = .ok (.aload_n 0, 1) := by decide +kernel
theorem dX6_applyWaiting_90 : decode cX6_applyWaiting 90 = .ok (.iload 5, 2) := by decide +kernel
theorem dX6_applyWaiting_92 : decode cX6_applyWaiting 92 = .ok (.putfield 52, 3) := by decide +kernel
theorem dX6_applyWaiting_95 : decode cX6_applyWaiting 95 = .ok (.iinc 5 (-1), 3) := by decide +kernel
theorem dX6_applyWaiting_98 : decode cX6_applyWaiting 98 = .ok (.goto (-87), 3) := by decide +kernel
theorem dX6_applyWaiting_101 : decode cX6_applyWaiting 101 = .ok (.iload 4, 2) := by decide +kernel
theorem dX6_applyWaiting_103 : decode cX6_applyWaiting 103 = .ok (.ireturn, 1) := by decide +kernel
theorem dX6_beginsE_0 : decode cX6_beginsE 0 = .ok (.aload_n 0, 1) := by decide +kernel
theorem dX6_beginsE_1 : decode cX6_beginsE 1 = .ok (.getfield 14, 3) := by decide +kernel
theorem dX6_beginsE_4 : decode cX6_beginsE 4 = .ok (.getfield 70, 3) := by decide +kernel
theorem dX6_beginsE_7 : decode cX6_beginsE 7 = .ok (.lookupswitch 123 #[(33, 121), (40, 121), (45, 121), (91, 121), (123, 121), (258, 121), (259, 121), (262, 121), (264, 121), (267, 121), (268, 121), (269, 121), (270, 121), (271, 121)], 121) := by decide +kernel
theorem dX6_beginsE_128 : decode cX6_beginsE 128 = .ok (.iconst 1, 1) := by decide +kernel
theorem dX6_beginsE_129 : decode cX6_beginsE 129 = .ok (.ireturn, 1) := by decide +kernel
theorem dX6_beginsE_130 : decode cX6_beginsE 130 = .ok (.iconst 0, 1) := by decide +kernel
theorem dX6_beginsE_131 : decode cX6_beginsE 131 = .ok (.ireturn, 1) := by decide +kernel
theorem dX6_beginsKind_0 : decode cX6_beginsKind 0 = .ok (.aload_n 0, 1) := by decide +kernel
theorem dX6_beginsKind_1 : decode cX6_beginsKind 1 = .ok (.getfield 14, 3) := by decide +kernel
theorem dX6_beginsKind_4 : decode cX6_beginsKind 4 = .ok (.getfield 70, 3) := by decide +kernel
theorem dX6_beginsKind_7 : decode cX6_beginsKind 7 = .ok (.bipush 91, 2) := by decide +kernel
theorem dX6_beginsKind_9 : decode cX6_beginsKind 9 = .ok (.if_icmp .eq 29, 3) := by decide +kernel
theorem dX6_beginsKind_12 : decode cX6_beginsKind 12 = .ok (.aload_n 0, 1) := by decide +kernel
theorem dX6_beginsKind_13 : decode cX6_beginsKind 13 = .ok (.getfield 14, 3) := by decide +kernel
theorem dX6_beginsKind_16 : decode cX6_beginsKind 16 = .ok (.getfield 70, 3) := by decide +kernel
theorem dX6_beginsKind_19 : decode cX6_beginsKind 19 = .ok (.sipush 272, 3) := by decide +kernel
theorem dX6_beginsKind_22 : decode cX6_beginsKind 22 = .ok (.if_icmp .lt 20, 3) := by decide +kernel
theorem dX6_beginsKind_25 : decode cX6_beginsKind 25 = .ok (.aload_n 0, 1) := by decide +kernel
theorem dX6_beginsKind_26 : decode cX6_beginsKind 26 = .ok (.getfield 14, 3) := by decide +kernel
theorem dX6_beginsKind_29 : decode cX6_beginsKind 29 = .ok (.getfield 70, 3) := by decide +kernel
theorem dX6_beginsKind_32 : decode cX6_beginsKind 32 = .ok (.sipush 275, 3) := by decide +kernel
theorem dX6_beginsKind_35 : decode cX6_beginsKind 35 = .ok (.if_icmp .gt 7, 3) := by decide +kernel
theorem dX6_beginsKind_38 : decode cX6_beginsKind 38 = .ok (.iconst 1, 1) := by decide +kernel
theorem dX6_beginsKind_39 : decode cX6_beginsKind 39 = .ok (.goto 4, 3) := by decide +kernel
theorem dX6_beginsKind_42 : decode cX6_beginsKind 42 = .ok (.iconst 0, 1) := by decide +kernel
theorem dX6_beginsKind_43 : decode cX6_beginsKind 43 = .ok (.ireturn, 1) := by decide +kernel
theorem dX6_emitStep_0 : decode cX6_emitStep 0 = .ok (.aload_n 0, 1) := by decide +kernel
theorem dX6_emitStep_1 : decode cX6_emitStep 1 = .ok (.getfield 18, 3) := by decide +kernel
theorem dX6_emitStep_4 : decode cX6_emitStep 4 = .ok (.iconst 0, 1) := by decide +kernel
theorem dX6_emitStep_5 : decode cX6_emitStep 5 = .ok (.iconst 1, 1) := by decide +kernel
theorem dX6_emitStep_6 : decode cX6_emitStep 6 = .ok (.aload_n 0, 1) := by decide +kernel
theorem dX6_emitStep_7 : decode cX6_emitStep 7 = .ok (.getfield 14, 3) := by decide +kernel
theorem dX6_emitStep_10 : decode cX6_emitStep 10 = .ok (.getfield 120, 3) := by decide +kernel
theorem dX6_emitStep_13 : decode cX6_emitStep 13 = .ok (.invokevirtual 166, 3) := by decide +kernel
theorem dX6_emitStep_16 : decode cX6_emitStep 16 = .ok (.ireturn, 1) := by decide +kernel
theorem dX6_levelOf_0 : decode cX6_levelOf 0 = .ok (.iload_n 0, 1) := by decide +kernel
theorem dX6_levelOf_1 : decode cX6_levelOf 1 = .ok (.tableswitch 121 37 61 #[119, 121, 121, 121, 121, 119, 117, 121, 117, 121, 119, 121, 121, 121, 121, 121, 121, 121, 121, 121, 121, 121, 121, 115, 115], 115) := by decide +kernel
theorem dX6_levelOf_116 : decode cX6_levelOf 116 = .ok (.iconst 1, 1) := by decide +kernel
theorem dX6_levelOf_117 : decode cX6_levelOf 117 = .ok (.ireturn, 1) := by decide +kernel
theorem dX6_levelOf_118 : decode cX6_levelOf 118 = .ok (.iconst 2, 1) := by decide +kernel
theorem dX6_levelOf_119 : decode cX6_levelOf 119 = .ok (.ireturn, 1) := by decide +kernel
theorem dX6_levelOf_120 : decode cX6_levelOf 120 = .ok (.iconst 3, 1) := by decide +kernel
theorem dX6_levelOf_121 : decode cX6_levelOf 121 = .ok (.ireturn, 1) := by decide +kernel
theorem dX6_levelOf_122 : decode cX6_levelOf 122 = .ok (.iconst 0, 1) := by decide +kernel
theorem dX6_levelOf_123 : decode cX6_levelOf 123 = .ok (.ireturn, 1) := by decide +kernel
theorem dX6_opOf_0 : decode cX6_opOf 0 = .ok (.iload_n 0, 1) := by decide +kernel
theorem dX6_opOf_1 : decode cX6_opOf 1 = .ok (.tableswitch 113 42 61 #[107, 101, 113, 104, 113, 110, 113, 113, 113, 113, 113, 113, 113, 113, 113, 113, 113, 113, 95, 98], 95) := by decide +kernel
theorem dX6_opOf_96 : decode cX6_opOf 96 = .ok (.bipush 20, 2) := by decide +kernel
theorem dX6_opOf_98 : decode cX6_opOf 98 = .ok (.ireturn, 1) := by decide +kernel
theorem dX6_opOf_99 : decode cX6_opOf 99 = .ok (.bipush 21, 2) := by decide +kernel
theorem dX6_opOf_101 : decode cX6_opOf 101 = .ok (.ireturn, 1) := by decide +kernel
theorem dX6_opOf_102 : decode cX6_opOf 102 = .ok (.bipush 22, 2) := by decide +kernel
theorem dX6_opOf_104 : decode cX6_opOf 104 = .ok (.ireturn, 1) := by decide +kernel
theorem dX6_opOf_105 : decode cX6_opOf 105 = .ok (.bipush 23, 2) := by decide +kernel
theorem dX6_opOf_107 : decode cX6_opOf 107 = .ok (.ireturn, 1) := by decide +kernel
theorem dX6_opOf_108 : decode cX6_opOf 108 = .ok (.bipush 24, 2) := by decide +kernel
theorem dX6_opOf_110 : decode cX6_opOf 110 = .ok (.ireturn, 1) := by decide +kernel
theorem dX6_opOf_111 : decode cX6_opOf 111 = .ok (.bipush 25, 2) := by decide +kernel
theorem dX6_opOf_113 : decode cX6_opOf 113 = .ok (.ireturn, 1) := by decide +kernel
theorem dX6_opOf_114 : decode cX6_opOf 114 = .ok (.bipush 26, 2) := by decide +kernel
theorem dX6_opOf_116 : decode cX6_opOf 116 = .ok (.ireturn, 1) := by decide +kernel
theorem dX6_placeOf_0 : decode cX6_placeOf 0 = .ok (.aload_n 0, 1) := by decide +kernel
theorem dX6_placeOf_1 : decode cX6_placeOf 1 = .ok (.getfield 18, 3) := by decide +kernel
theorem dX6_placeOf_4 : decode cX6_placeOf 4 = .ok (.getfield 203, 3) := by decide +kernel
theorem dX6_placeOf_7 : decode cX6_placeOf 7 = .ok (.iload_n 1, 1) := by decide +kernel
theorem dX6_placeOf_8 : decode cX6_placeOf 8 = .ok (.iaload, 1) := by decide +kernel
theorem dX6_placeOf_9 : decode cX6_placeOf 9 = .ok (.ireturn, 1) := by decide +kernel
theorem dX6_pushLocal_0 : decode cX6_pushLocal 0 = .ok (.aload_n 0, 1) := by decide +kernel
theorem dX6_pushLocal_1 : decode cX6_pushLocal 1 = .ok (.getfield 40, 3) := by decide +kernel
theorem dX6_pushLocal_4 : decode cX6_pushLocal 4 = .ok (.bipush 44, 2) := by decide +kernel
theorem dX6_pushLocal_6 : decode cX6_pushLocal 6 = .ok (.if_icmp .ge 23, 3) := by decide +kernel
theorem dX6_pushLocal_9 : decode cX6_pushLocal 9 = .ok (.aload_n 0, 1) := by decide +kernel
theorem dX6_pushLocal_10 : decode cX6_pushLocal 10 = .ok (.getfield 36, 3) := by decide +kernel
theorem dX6_pushLocal_13 : decode cX6_pushLocal 13 = .ok (.aload_n 0, 1) := by decide +kernel
theorem dX6_pushLocal_14 : decode cX6_pushLocal 14 = .ok (.getfield 40, 3) := by decide +kernel
theorem dX6_pushLocal_17 : decode cX6_pushLocal 17 = .ok (.lload_n 1, 1) := by decide +kernel
theorem dX6_pushLocal_18 : decode cX6_pushLocal 18 = .ok (.lastore, 1) := by decide +kernel
theorem dX6_pushLocal_19 : decode cX6_pushLocal 19 = .ok (.aload_n 0, 1) := by decide +kernel
theorem dX6_pushLocal_20 : decode cX6_pushLocal 20 = .ok (.dup, 1) := by decide +kernel
theorem dX6_pushLocal_21 : decode cX6_pushLocal 21 = .ok (.getfield 40, 3) := by decide +kernel
theorem dX6_pushLocal_24 : decode cX6_pushLocal 24 = .ok (.iconst 1, 1) := by decide +kernel
theorem dX6_pushLocal_25 : decode cX6_pushLocal 25 = .ok (.iadd, 1) := by decide +kernel
theorem dX6_pushLocal_26 : decode cX6_pushLocal 26 = .ok (.putfield 40, 3) := by decide +kernel
theorem dX6_pushLocal_29 : decode cX6_pushLocal 29 = .ok (.return_, 1) := by decide +kernel
theorem dX6_pushWaiting_0 : decode cX6_pushWaiting 0 = .ok (.aload_n 0, 1) := by decide +kernel
theorem dX6_pushWaiting_1 : decode cX6_pushWaiting 1 = .ok (.getfield 18, 3) := by decide +kernel
theorem dX6_pushWaiting_4 : decode cX6_pushWaiting 4 = .ok (.bipush 27, 2) := by decide +kernel
theorem dX6_pushWaiting_6 : decode cX6_pushWaiting 6 = .ok (.iconst 0, 1) := by decide +kernel
theorem dX6_pushWaiting_7 : decode cX6_pushWaiting 7 = .ok (.aload_n 0, 1) := by decide +kernel
theorem dX6_pushWaiting_8 : decode cX6_pushWaiting 8 = .ok (.iload_n 1, 1) := by decide +kernel
theorem dX6_pushWaiting_9 : decode cX6_pushWaiting 9 = .ok (.invokevirtual 162, 3) := by decide +kernel
theorem dX6_pushWaiting_12 : decode cX6_pushWaiting 12 = .ok (.invokevirtual 166, 3) := by decide +kernel
theorem dX6_pushWaiting_15 : decode cX6_pushWaiting 15 = .ok (.pop, 1) := by decide +kernel
theorem dX6_pushWaiting_16 : decode cX6_pushWaiting 16 = .ok (.aload_n 0, 1) := by decide +kernel
theorem dX6_pushWaiting_17 : decode cX6_pushWaiting 17 = .ok (.getfield 52, 3) := by decide +kernel
theorem dX6_pushWaiting_20 : decode cX6_pushWaiting 20 = .ok (.bipush 126, 2) := by decide +kernel
theorem dX6_pushWaiting_22 : decode cX6_pushWaiting 22 = .ok (.if_icmp .ge 55, 3) := by decide +kernel
theorem dX6_pushWaiting_25 : decode cX6_pushWaiting 25 = .ok (.aload_n 0, 1) := by decide +kernel
theorem dX6_pushWaiting_26 : decode cX6_pushWaiting 26 = .ok (.getfield 43, 3) := by decide +kernel
theorem dX6_pushWaiting_29 : decode cX6_pushWaiting 29 = .ok (.aload_n 0, 1) := by decide +kernel
theorem dX6_pushWaiting_30 : decode cX6_pushWaiting 30 = .ok (.getfield 52, 3) := by decide +kernel
theorem dX6_pushWaiting_33 : decode cX6_pushWaiting 33 = .ok (.aload_n 0, 1) := by decide +kernel
theorem dX6_pushWaiting_34 : decode cX6_pushWaiting 34 = .ok (.getfield 14, 3) := by decide +kernel
theorem dX6_pushWaiting_37 : decode cX6_pushWaiting 37 = .ok (.getfield 70, 3) := by decide +kernel
theorem dX6_pushWaiting_40 : decode cX6_pushWaiting 40 = .ok (.iastore, 1) := by decide +kernel
theorem dX6_pushWaiting_41 : decode cX6_pushWaiting 41 = .ok (.aload_n 0, 1) := by decide +kernel
theorem dX6_pushWaiting_42 : decode cX6_pushWaiting 42 = .ok (.getfield 46, 3) := by decide +kernel
theorem dX6_pushWaiting_45 : decode cX6_pushWaiting 45 = .ok (.aload_n 0, 1) := by decide +kernel
theorem dX6_pushWaiting_46 : decode cX6_pushWaiting 46 = .ok (.getfield 52, 3) := by decide +kernel
theorem dX6_pushWaiting_49 : decode cX6_pushWaiting 49 = .ok (.aload_n 0, 1) := by decide +kernel
theorem dX6_pushWaiting_50 : decode cX6_pushWaiting 50 = .ok (.getfield 14, 3) := by decide +kernel
theorem dX6_pushWaiting_53 : decode cX6_pushWaiting 53 = .ok (.getfield 120, 3) := by decide +kernel
theorem dX6_pushWaiting_56 : decode cX6_pushWaiting 56 = .ok (.iastore, 1) := by decide +kernel
theorem dX6_pushWaiting_57 : decode cX6_pushWaiting 57 = .ok (.aload_n 0, 1) := by decide +kernel
theorem dX6_pushWaiting_58 : decode cX6_pushWaiting 58 = .ok (.getfield 49, 3) := by decide +kernel
theorem dX6_pushWaiting_61 : decode cX6_pushWaiting 61 = .ok (.aload_n 0, 1) := by decide +kernel
theorem dX6_pushWaiting_62 : decode cX6_pushWaiting 62 = .ok (.getfield 52, 3) := by decide +kernel
theorem dX6_pushWaiting_65 : decode cX6_pushWaiting 65 = .ok (.iload_n 1, 1) := by decide +kernel
theorem dX6_pushWaiting_66 : decode cX6_pushWaiting 66 = .ok (.iastore, 1) := by decide +kernel
theorem dX6_pushWaiting_67 : decode cX6_pushWaiting 67 = .ok (.aload_n 0, 1) := by decide +kernel
theorem dX6_pushWaiting_68 : decode cX6_pushWaiting 68 = .ok (.dup, 1) := by decide +kernel
theorem dX6_pushWaiting_69 : decode cX6_pushWaiting 69 = .ok (.getfield 52, 3) := by decide +kernel
theorem dX6_pushWaiting_72 : decode cX6_pushWaiting 72 = .ok (.iconst 1, 1) := by decide +kernel
theorem dX6_pushWaiting_73 : decode cX6_pushWaiting 73 = .ok (.iadd, 1) := by decide +kernel
theorem dX6_pushWaiting_74 : decode cX6_pushWaiting 74 = .ok (.putfield 52, 3) := by decide +kernel
theorem dX6_pushWaiting_77 : decode cX6_pushWaiting 77 = .ok (.return_, 1) := by decide +kernel
theorem dX6_takeB_0 : decode cX6_takeB 0 = .ok (.aload_n 0, 1) := by decide +kernel
theorem dX6_takeB_1 : decode cX6_takeB 1 = .ok (.invokevirtual 217, 3) := by decide +kernel
theorem dX6_takeB_4 : decode cX6_takeB 4 = .ok (.istore_n 1, 1) := by decide +kernel
theorem dX6_takeB_5 : decode cX6_takeB 5 = .ok (.aload_n 0, 1) := by decide +kernel
theorem dX6_takeB_6 : decode cX6_takeB 6 = .ok (.getfield 14, 3) := by decide +kernel
theorem dX6_takeB_9 : decode cX6_takeB 9 = .ok (.getfield 70, 3) := by decide +kernel
theorem dX6_takeB_12 : decode cX6_takeB 12 = .ok (.lookupswitch 244 #[(40, 207), (91, 179), (123, 237), (258, 143), (259, 92), (267, 99), (268, 99), (269, 150), (270, 157), (271, 168)], 92) := by decide +kernel
theorem dX6_takeB_104 : decode cX6_takeB 104 = .ok (.aload_n 0, 1) := by decide +kernel
theorem dX6_takeB_105 : decode cX6_takeB 105 = .ok (.invokevirtual 257, 3) := by decide +kernel
theorem dX6_takeB_108 : decode cX6_takeB 108 = .ok (.goto 153, 3) := by decide +kernel
theorem dX6_takeB_111 : decode cX6_takeB 111 = .ok (.aload_n 0, 1) := by decide +kernel
theorem dX6_takeB_112 : decode cX6_takeB 112 = .ok (.getfield 18, 3) := by decide +kernel
theorem dX6_takeB_115 : decode cX6_takeB 115 = .ok (.iconst 2, 1) := by decide +kernel
theorem dX6_takeB_116 : decode cX6_takeB 116 = .ok (.aload_n 0, 1) := by decide +kernel
theorem dX6_takeB_117 : decode cX6_takeB 117 = .ok (.getfield 14, 3) := by decide +kernel
theorem dX6_takeB_120 : decode cX6_takeB 120 = .ok (.getfield 70, 3) := by decide +kernel
theorem dX6_takeB_123 : decode cX6_takeB 123 = .ok (.sipush 267, 3) := by decide +kernel
theorem dX6_takeB_126 : decode cX6_takeB 126 = .ok (.if_icmp .ne 7, 3) := by decide +kernel
theorem dX6_takeB_129 : decode cX6_takeB 129 = .ok (.iconst 1, 1) := by decide +kernel
theorem dX6_takeB_130 : decode cX6_takeB 130 = .ok (.goto 4, 3) := by decide +kernel
theorem dX6_takeB_133 : decode cX6_takeB 133 = .ok (.iconst 0, 1) := by decide +kernel
theorem dX6_takeB_134 : decode cX6_takeB 134 = .ok (.aload_n 0, 1) := by decide +kernel
theorem dX6_takeB_135 : decode cX6_takeB 135 = .ok (.getfield 14, 3) := by decide +kernel
theorem dX6_takeB_138 : decode cX6_takeB 138 = .ok (.getfield 120, 3) := by decide +kernel
theorem dX6_takeB_141 : decode cX6_takeB 141 = .ok (.invokevirtual 166, 3) := by decide +kernel
theorem dX6_takeB_144 : decode cX6_takeB 144 = .ok (.pop, 1) := by decide +kernel
theorem dX6_takeB_145 : decode cX6_takeB 145 = .ok (.aload_n 0, 1) := by decide +kernel
theorem dX6_takeB_146 : decode cX6_takeB 146 = .ok (.getfield 14, 3) := by decide +kernel
theorem dX6_takeB_149 : decode cX6_takeB 149 = .ok (.invokevirtual 129, 3) := by decide +kernel
theorem dX6_takeB_152 : decode cX6_takeB 152 = .ok (.goto 109, 3) := by decide +kernel
theorem dX6_takeB_155 : decode cX6_takeB 155 = .ok (.aload_n 0, 1) := by decide +kernel
theorem dX6_takeB_156 : decode cX6_takeB 156 = .ok (.invokevirtual 260, 3) := by decide +kernel
theorem dX6_takeB_159 : decode cX6_takeB 159 = .ok (.goto 102, 3) := by decide +kernel
theorem dX6_takeB_162 : decode cX6_takeB 162 = .ok (.aload_n 0, 1) := by decide +kernel
theorem dX6_takeB_163 : decode cX6_takeB 163 = .ok (.invokevirtual 263, 3) := by decide +kernel
theorem dX6_takeB_166 : decode cX6_takeB 166 = .ok (.goto 95, 3) := by decide +kernel
theorem dX6_takeB_169 : decode cX6_takeB 169 = .ok (.aload_n 0, 1) := by decide +kernel
theorem dX6_takeB_170 : decode cX6_takeB 170 = .ok (.bipush 29, 2) := by decide +kernel
theorem dX6_takeB_172 : decode cX6_takeB 172 = .ok (.bipush 12, 2) := by decide +kernel
theorem dX6_takeB_174 : decode cX6_takeB 174 = .ok (.invokevirtual 266, 3) := by decide +kernel
theorem dX6_takeB_177 : decode cX6_takeB 177 = .ok (.goto 84, 3) := by decide +kernel
theorem dX6_takeB_180 : decode cX6_takeB 180 = .ok (.aload_n 0, 1) := by decide +kernel
theorem dX6_takeB_181 : decode cX6_takeB 181 = .ok (.bipush 27, 2) := by decide +kernel
theorem dX6_takeB_183 : decode cX6_takeB 183 = .ok (.bipush 13, 2) := by decide +kernel
theorem dX6_takeB_185 : decode cX6_takeB 185 = .ok (.invokevirtual 266, 3) := by decide +kernel
theorem dX6_takeB_188 : decode cX6_takeB 188 = .ok (.goto 73, 3) := by decide +kernel
theorem dX6_takeB_191 : decode cX6_takeB 191 = .ok (.aload_n 0, 1) := by decide +kernel
theorem dX6_takeB_192 : decode cX6_takeB 192 = .ok (.getfield 18, 3) := by decide +kernel
theorem dX6_takeB_195 : decode cX6_takeB 195 = .ok (.bipush 10, 2) := by decide +kernel
theorem dX6_takeB_197 : decode cX6_takeB 197 = .ok (.aload_n 0, 1) := by decide +kernel
theorem dX6_takeB_198 : decode cX6_takeB 198 = .ok (.bipush 93, 2) := by decide +kernel
theorem dX6_takeB_200 : decode cX6_takeB 200 = .ok (.bipush 20, 2) := by decide +kernel
theorem dX6_takeB_202 : decode cX6_takeB 202 = .ok (.bipush 36, 2) := by decide +kernel
theorem dX6_takeB_204 : decode cX6_takeB 204 = .ok (.invokevirtual 251, 3) := by decide +kernel
theorem dX6_takeB_207 : decode cX6_takeB 207 = .ok (.aload_n 0, 1) := by decide +kernel
theorem dX6_takeB_208 : decode cX6_takeB 208 = .ok (.iload_n 1, 1) := by decide +kernel
theorem dX6_takeB_209 : decode cX6_takeB 209 = .ok (.invokevirtual 162, 3) := by decide +kernel
theorem dX6_takeB_212 : decode cX6_takeB 212 = .ok (.invokevirtual 166, 3) := by decide +kernel
theorem dX6_takeB_215 : decode cX6_takeB 215 = .ok (.pop, 1) := by decide +kernel
theorem dX6_takeB_216 : decode cX6_takeB 216 = .ok (.goto 45, 3) := by decide +kernel
theorem dX6_takeB_219 : decode cX6_takeB 219 = .ok (.aload_n 0, 1) := by decide +kernel
theorem dX6_takeB_220 : decode cX6_takeB 220 = .ok (.bipush 40, 2) := by decide +kernel
theorem dX6_takeB_222 : decode cX6_takeB 222 = .ok (.invokevirtual 170, 3) := by decide +kernel
theorem dX6_takeB_225 : decode cX6_takeB 225 = .ok (.aload_n 0, 1) := by decide +kernel
theorem dX6_takeB_226 : decode cX6_takeB 226 = .ok (.invokevirtual 88, 3) := by decide +kernel
theorem dX6_takeB_229 : decode cX6_takeB 229 = .ok (.pop, 1) := by decide +kernel
theorem dX6_takeB_230 : decode cX6_takeB 230 = .ok (.aload_n 0, 1) := by decide +kernel
theorem dX6_takeB_231 : decode cX6_takeB 231 = .ok (.bipush 41, 2) := by decide +kernel
theorem dX6_takeB_233 : decode cX6_takeB 233 = .ok (.invokevirtual 147, 3) := by decide +kernel
theorem dX6_takeB_236 : decode cX6_takeB 236 = .ok (.aload_n 0, 1) := by decide +kernel
theorem dX6_takeB_237 : decode cX6_takeB 237 = .ok (.dup, 1) := by decide +kernel
theorem dX6_takeB_238 : decode cX6_takeB 238 = .ok (.getfield 22, 3) := by decide +kernel
theorem dX6_takeB_241 : decode cX6_takeB 241 = .ok (.iconst 1, 1) := by decide +kernel
theorem dX6_takeB_242 : decode cX6_takeB 242 = .ok (.isub, 1) := by decide +kernel
theorem dX6_takeB_243 : decode cX6_takeB 243 = .ok (.putfield 22, 3) := by decide +kernel
theorem dX6_takeB_246 : decode cX6_takeB 246 = .ok (.goto 15, 3) := by decide +kernel
theorem dX6_takeB_249 : decode cX6_takeB 249 = .ok (.aload_n 0, 1) := by decide +kernel
theorem dX6_takeB_250 : decode cX6_takeB 250 = .ok (.invokevirtual 269, 3) := by decide +kernel
theorem dX6_takeB_253 : decode cX6_takeB 253 = .ok (.goto 8, 3) := by decide +kernel
theorem dX6_takeB_256 : decode cX6_takeB 256 = .ok (.aload_n 0, 1) := by decide +kernel
theorem dX6_takeB_257 : decode cX6_takeB 257 = .ok (.iconst 1, 1) := by decide +kernel
theorem dX6_takeB_258 : decode cX6_takeB 258 = .ok (.invokevirtual 75, 3) := by decide +kernel
theorem dX6_takeB_261 : decode cX6_takeB 261 = .ok (.iload_n 1, 1) := by decide +kernel
theorem dX6_takeB_262 : decode cX6_takeB 262 = .ok (.ireturn, 1) := by decide +kernel
theorem dX6_takeBlock_0 : decode cX6_takeBlock 0 = .ok (.aload_n 0, 1) := by decide +kernel
theorem dX6_takeBlock_1 : decode cX6_takeBlock 1 = .ok (.bipush 123, 2) := by decide +kernel
theorem dX6_takeBlock_3 : decode cX6_takeBlock 3 = .ok (.invokevirtual 170, 3) := by decide +kernel
theorem dX6_takeBlock_6 : decode cX6_takeBlock 6 = .ok (.aload_n 0, 1) := by decide +kernel
theorem dX6_takeBlock_7 : decode cX6_takeBlock 7 = .ok (.invokevirtual 88, 3) := by decide +kernel
theorem dX6_takeBlock_10 : decode cX6_takeBlock 10 = .ok (.pop, 1) := by decide +kernel
theorem dX6_takeBlock_11 : decode cX6_takeBlock 11 = .ok (.iconst 0, 1) := by decide +kernel
theorem dX6_takeBlock_12 : decode cX6_takeBlock 12 = .ok (.istore_n 1, 1) := by decide +kernel
theorem dX6_takeBlock_13 : decode cX6_takeBlock 13 = .ok (.iload_n 1, 1) := by decide +kernel
theorem dX6_takeBlock_14 : decode cX6_takeBlock 14 = .ok (.sipush 3000, 3) := by decide +kernel
theorem dX6_takeBlock_17 : decode cX6_takeBlock 17 = .ok (.if_icmp .ge 51, 3) := by decide +kernel
theorem dX6_takeBlock_20 : decode cX6_takeBlock 20 = .ok (.aload_n 0, 1) := by decide +kernel
theorem dX6_takeBlock_21 : decode cX6_takeBlock 21 = .ok (.getfield 14, 3) := by decide +kernel
theorem dX6_takeBlock_24 : decode cX6_takeBlock 24 = .ok (.getfield 70, 3) := by decide +kernel
theorem dX6_takeBlock_27 : decode cX6_takeBlock 27 = .ok (.bipush 59, 2) := by decide +kernel
theorem dX6_takeBlock_29 : decode cX6_takeBlock 29 = .ok (.if_icmp .ne 39, 3) := by decide +kernel
theorem dX6_takeBlock_32 : decode cX6_takeBlock 32 = .ok (.aload_n 0, 1) := by decide +kernel
theorem dX6_takeBlock_33 : decode cX6_takeBlock 33 = .ok (.getfield 18, 3) := by decide +kernel
theorem dX6_takeBlock_36 : decode cX6_takeBlock 36 = .ok (.bipush 9, 2) := by decide +kernel
theorem dX6_takeBlock_38 : decode cX6_takeBlock 38 = .ok (.iconst 0, 1) := by decide +kernel
theorem dX6_takeBlock_39 : decode cX6_takeBlock 39 = .ok (.aload_n 0, 1) := by decide +kernel
theorem dX6_takeBlock_40 : decode cX6_takeBlock 40 = .ok (.getfield 14, 3) := by decide +kernel
theorem dX6_takeBlock_43 : decode cX6_takeBlock 43 = .ok (.getfield 120, 3) := by decide +kernel
theorem dX6_takeBlock_46 : decode cX6_takeBlock 46 = .ok (.invokevirtual 166, 3) := by decide +kernel
theorem dX6_takeBlock_49 : decode cX6_takeBlock 49 = .ok (.pop, 1) := by decide +kernel
theorem dX6_takeBlock_50 : decode cX6_takeBlock 50 = .ok (.aload_n 0, 1) := by decide +kernel
theorem dX6_takeBlock_51 : decode cX6_takeBlock 51 = .ok (.getfield 14, 3) := by decide +kernel
theorem dX6_takeBlock_54 : decode cX6_takeBlock 54 = .ok (.invokevirtual 129, 3) := by decide +kernel
theorem dX6_takeBlock_57 : decode cX6_takeBlock 57 = .ok (.aload_n 0, 1) := by decide +kernel
theorem dX6_takeBlock_58 : decode cX6_takeBlock 58 = .ok (.invokevirtual 88, 3) := by decide +kernel
theorem dX6_takeBlock_61 : decode cX6_takeBlock 61 = .ok (.pop, 1) := by decide +kernel
theorem dX6_takeBlock_62 : decode cX6_takeBlock 62 = .ok (.iinc 1 1, 3) := by decide +kernel
theorem dX6_takeBlock_65 : decode cX6_takeBlock 65 = .ok (.goto (-52), 3) := by decide +kernel
theorem dX6_takeBlock_68 : decode cX6_takeBlock 68 = .ok (.aload_n 0, 1) := by decide +kernel
theorem dX6_takeBlock_69 : decode cX6_takeBlock 69 = .ok (.bipush 125, 2) := by decide +kernel
theorem dX6_takeBlock_71 : decode cX6_takeBlock 71 = .ok (.invokevirtual 147, 3) := by decide +kernel
theorem dX6_takeBlock_74 : decode cX6_takeBlock 74 = .ok (.aload_n 0, 1) := by decide +kernel
theorem dX6_takeBlock_75 : decode cX6_takeBlock 75 = .ok (.dup, 1) := by decide +kernel
theorem dX6_takeBlock_76 : decode cX6_takeBlock 76 = .ok (.getfield 22, 3) := by decide +kernel
theorem dX6_takeBlock_79 : decode cX6_takeBlock 79 = .ok (.iconst 1, 1) := by decide +kernel
theorem dX6_takeBlock_80 : decode cX6_takeBlock 80 = .ok (.isub, 1) := by decide +kernel
theorem dX6_takeBlock_81 : decode cX6_takeBlock 81 = .ok (.putfield 22, 3) := by decide +kernel
theorem dX6_takeBlock_84 : decode cX6_takeBlock 84 = .ok (.return_, 1) := by decide +kernel
theorem dX6_takeC_0 : decode cX6_takeC 0 = .ok (.aload_n 0, 1) := by decide +kernel
theorem dX6_takeC_1 : decode cX6_takeC 1 = .ok (.getfield 52, 3) := by decide +kernel
theorem dX6_takeC_4 : decode cX6_takeC 4 = .ok (.istore_n 1, 1) := by decide +kernel
theorem dX6_takeC_5 : decode cX6_takeC 5 = .ok (.iconst 0, 1) := by decide +kernel
theorem dX6_takeC_6 : decode cX6_takeC 6 = .ok (.istore_n 2, 1) := by decide +kernel
theorem dX6_takeC_7 : decode cX6_takeC 7 = .ok (.iconst 0, 1) := by decide +kernel
theorem dX6_takeC_8 : decode cX6_takeC 8 = .ok (.istore_n 3, 1) := by decide +kernel
theorem dX6_takeC_9 : decode cX6_takeC 9 = .ok (.iconst 0, 1) := by decide +kernel
theorem dX6_takeC_10 : decode cX6_takeC 10 = .ok (.istore 4, 2) := by decide +kernel
theorem dX6_takeC_12 : decode cX6_takeC 12 = .ok (.aload_n 0, 1) := by decide +kernel
theorem dX6_takeC_13 : decode cX6_takeC 13 = .ok (.invokevirtual 220, 3) := by decide +kernel
theorem dX6_takeC_16 : decode cX6_takeC 16 = .ok (.istore 5, 2) := by decide +kernel
theorem dX6_takeC_18 : decode cX6_takeC 18 = .ok (.iconst 0, 1) := by decide +kernel
theorem dX6_takeC_19 : decode cX6_takeC 19 = .ok (.istore 6, 2) := by decide +kernel
theorem dX6_takeC_21 : decode cX6_takeC 21 = .ok (.iload 6, 2) := by decide +kernel
theorem dX6_takeC_23 : decode cX6_takeC 23 = .ok (.sipush 3000, 3) := by decide +kernel
theorem dX6_takeC_26 : decode cX6_takeC 26 = .ok (.if_icmp .ge 143, 3) := by decide +kernel
theorem dX6_takeC_29 : decode cX6_takeC 29 = .ok (.aload_n 0, 1) := by decide +kernel
theorem dX6_takeC_30 : decode cX6_takeC 30 = .ok (.getfield 14, 3) := by decide +kernel
theorem dX6_takeC_33 : decode cX6_takeC 33 = .ok (.getfield 70, 3) := by decide +kernel
theorem dX6_takeC_36 : decode cX6_takeC 36 = .ok (.invokestatic 223, 3) := by decide +kernel
theorem dX6_takeC_39 : decode cX6_takeC 39 = .ok (.istore 7, 2) := by decide +kernel
theorem dX6_takeC_41 : decode cX6_takeC 41 = .ok (.iload 7, 2) := by decide +kernel
theorem dX6_takeC_43 : decode cX6_takeC 43 = .ok (.ifCond .eq 126, 3) := by decide +kernel
theorem dX6_takeC_46 : decode cX6_takeC 46 = .ok (.iload 7, 2) := by decide +kernel
theorem dX6_takeC_48 : decode cX6_takeC 48 = .ok (.iconst 1, 1) := by decide +kernel
theorem dX6_takeC_49 : decode cX6_takeC 49 = .ok (.if_icmp .ne 11, 3) := by decide +kernel
theorem dX6_takeC_52 : decode cX6_takeC 52 = .ok (.iload 4, 2) := by decide +kernel
theorem dX6_takeC_54 : decode cX6_takeC 54 = .ok (.ifCond .eq 6, 3) := by decide +kernel
theorem dX6_takeC_57 : decode cX6_takeC 57 = .ok (.goto 112, 3) := by decide +kernel
theorem dX6_takeC_60 : decode cX6_takeC 60 = .ok (.aload_n 0, 1) := by decide +kernel
theorem dX6_takeC_61 : decode cX6_takeC 61 = .ok (.iload_n 1, 1) := by decide +kernel
theorem dX6_takeC_62 : decode cX6_takeC 62 = .ok (.iload 7, 2) := by decide +kernel
theorem dX6_takeC_64 : decode cX6_takeC 64 = .ok (.iload 5, 2) := by decide +kernel
theorem dX6_takeC_66 : decode cX6_takeC 66 = .ok (.invokevirtual 226, 3) := by decide +kernel
theorem dX6_takeC_69 : decode cX6_takeC 69 = .ok (.istore 5, 2) := by decide +kernel
theorem dX6_takeC_71 : decode cX6_takeC 71 = .ok (.iload 4, 2) := by decide +kernel
theorem dX6_takeC_73 : decode cX6_takeC 73 = .ok (.ifCond .ne 9, 3) := by decide +kernel
theorem dX6_takeC_76 : decode cX6_takeC 76 = .ok (.iload 7, 2) := by decide +kernel
theorem dX6_takeC_78 : decode cX6_takeC 78 = .ok (.iconst 1, 1) := by decide +kernel
theorem dX6_takeC_79 : decode cX6_takeC 79 = .ok (.if_icmp .ne 7, 3) := by decide +kernel
theorem dX6_takeC_82 : decode cX6_takeC 82 = .ok (.iconst 1, 1) := by decide +kernel
theorem dX6_takeC_83 : decode cX6_takeC 83 = .ok (.goto 4, 3) := by decide +kernel
theorem dX6_takeC_86 : decode cX6_takeC 86 = .ok (.iconst 0, 1) := by decide +kernel
theorem dX6_takeC_87 : decode cX6_takeC 87 = .ok (.istore 4, 2) := by decide +kernel
theorem dX6_takeC_89 : decode cX6_takeC 89 = .ok (.iload 7, 2) := by decide +kernel
theorem dX6_takeC_91 : decode cX6_takeC 91 = .ok (.iconst 3, 1) := by decide +kernel
theorem dX6_takeC_92 : decode cX6_takeC 92 = .ok (.if_icmp .ne 9, 3) := by decide +kernel
theorem dX6_takeC_95 : decode cX6_takeC 95 = .ok (.iload_n 3, 1) := by decide +kernel
theorem dX6_takeC_96 : decode cX6_takeC 96 = .ok (.iconst 1, 1) := by decide +kernel
theorem dX6_takeC_97 : decode cX6_takeC 97 = .ok (.iadd, 1) := by decide +kernel
theorem dX6_takeC_98 : decode cX6_takeC 98 = .ok (.goto 4, 3) := by decide +kernel
theorem dX6_takeC_101 : decode cX6_takeC 101 = .ok (.iconst 0, 1) := by decide +kernel
theorem dX6_takeC_102 : decode cX6_takeC 102 = .ok (.istore_n 3, 1) := by decide +kernel
theorem dX6_takeC_103 : decode cX6_takeC 103 = .ok (.iload 7, 2) := by decide +kernel
theorem dX6_takeC_105 : decode cX6_takeC 105 = .ok (.iconst 2, 1) := by decide +kernel
theorem dX6_takeC_106 : decode cX6_takeC 106 = .ok (.if_icmp .ne 9, 3) := by decide +kernel
theorem dX6_takeC_109 : decode cX6_takeC 109 = .ok (.iload_n 2, 1) := by decide +kernel
theorem dX6_takeC_110 : decode cX6_takeC 110 = .ok (.iconst 1, 1) := by decide +kernel
theorem dX6_takeC_111 : decode cX6_takeC 111 = .ok (.iadd, 1) := by decide +kernel
theorem dX6_takeC_112 : decode cX6_takeC 112 = .ok (.goto 14, 3) := by decide +kernel
theorem dX6_takeC_115 : decode cX6_takeC 115 = .ok (.iload 7, 2) := by decide +kernel
theorem dX6_takeC_117 : decode cX6_takeC 117 = .ok (.iconst 1, 1) := by decide +kernel
theorem dX6_takeC_118 : decode cX6_takeC 118 = .ok (.if_icmp .ne 7, 3) := by decide +kernel
theorem dX6_takeC_121 : decode cX6_takeC 121 = .ok (.iconst 0, 1) := by decide +kernel
theorem dX6_takeC_122 : decode cX6_takeC 122 = .ok (.goto 4, 3) := by decide +kernel
theorem dX6_takeC_125 : decode cX6_takeC 125 = .ok (.iload_n 2, 1) := by decide +kernel
theorem dX6_takeC_126 : decode cX6_takeC 126 = .ok (.istore_n 2, 1) := by decide +kernel
theorem dX6_takeC_127 : decode cX6_takeC 127 = .ok (.iload_n 2, 1) := by decide +kernel
theorem dX6_takeC_128 : decode cX6_takeC 128 = .ok (.bipush 40, 2) := by decide +kernel
theorem dX6_takeC_130 : decode cX6_takeC 130 = .ok (.if_icmp .gt 9, 3) := by decide +kernel
theorem dX6_takeC_133 : decode cX6_takeC 133 = .ok (.iload_n 3, 1) := by decide +kernel
theorem dX6_takeC_134 : decode cX6_takeC 134 = .ok (.bipush 40, 2) := by decide +kernel
theorem dX6_takeC_136 : decode cX6_takeC 136 = .ok (.if_icmp .le 8, 3) := by decide +kernel
theorem dX6_takeC_139 : decode cX6_takeC 139 = .ok (.aload_n 0, 1) := by decide +kernel
theorem dX6_takeC_140 : decode cX6_takeC 140 = .ok (.iconst 3, 1) := by decide +kernel
theorem dX6_takeC_141 : decode cX6_takeC 141 = .ok (.invokevirtual 75, 3) := by decide +kernel
theorem dX6_takeC_144 : decode cX6_takeC 144 = .ok (.aload_n 0, 1) := by decide +kernel
theorem dX6_takeC_145 : decode cX6_takeC 145 = .ok (.iload 5, 2) := by decide +kernel
theorem dX6_takeC_147 : decode cX6_takeC 147 = .ok (.invokevirtual 229, 3) := by decide +kernel
theorem dX6_takeC_150 : decode cX6_takeC 150 = .ok (.aload_n 0, 1) := by decide +kernel
theorem dX6_takeC_151 : decode cX6_takeC 151 = .ok (.getfield 14, 3) := by decide +kernel
theorem dX6_takeC_154 : decode cX6_takeC 154 = .ok (.invokevirtual 129, 3) := by decide +kernel
theorem dX6_takeC_157 : decode cX6_takeC 157 = .ok (.aload_n 0, 1) := by decide +kernel
theorem dX6_takeC_158 : decode cX6_takeC 158 = .ok (.invokevirtual 220, 3) := by decide +kernel
theorem dX6_takeC_161 : decode cX6_takeC 161 = .ok (.istore 5, 2) := by decide +kernel
theorem dX6_takeC_163 : decode cX6_takeC 163 = .ok (.iinc 6 1, 3) := by decide +kernel
theorem dX6_takeC_166 : decode cX6_takeC 166 = .ok (.goto (-145), 3) := by decide +kernel
theorem dX6_takeC_169 : decode cX6_takeC 169 = .ok (.aload_n 0, 1) := by decide +kernel
theorem dX6_takeC_170 : decode cX6_takeC 170 = .ok (.iload_n 1, 1) := by decide +kernel
theorem dX6_takeC_171 : decode cX6_takeC 171 = .ok (.iconst 1, 1) := by decide +kernel
theorem dX6_takeC_172 : decode cX6_takeC 172 = .ok (.iload 5, 2) := by decide +kernel
theorem dX6_takeC_174 : decode cX6_takeC 174 = .ok (.invokevirtual 226, 3) := by decide +kernel
theorem dX6_takeC_177 : decode cX6_takeC 177 = .ok (.ireturn, 1) := by decide +kernel
theorem dX6_takeCall_0 : decode cX6_takeCall 0 = .ok (.aload_n 0, 1) := by decide +kernel
theorem dX6_takeCall_1 : decode cX6_takeCall 1 = .ok (.getfield 14, 3) := by decide +kernel
theorem dX6_takeCall_4 : decode cX6_takeCall 4 = .ok (.getfield 120, 3) := by decide +kernel
theorem dX6_takeCall_7 : decode cX6_takeCall 7 = .ok (.istore_n 2, 1) := by decide +kernel
theorem dX6_takeCall_8 : decode cX6_takeCall 8 = .ok (.aload_n 0, 1) := by decide +kernel
theorem dX6_takeCall_9 : decode cX6_takeCall 9 = .ok (.getfield 18, 3) := by decide +kernel
theorem dX6_takeCall_12 : decode cX6_takeCall 12 = .ok (.iload_n 1, 1) := by decide +kernel
theorem dX6_takeCall_13 : decode cX6_takeCall 13 = .ok (.iconst 0, 1) := by decide +kernel
theorem dX6_takeCall_14 : decode cX6_takeCall 14 = .ok (.iload_n 2, 1) := by decide +kernel
theorem dX6_takeCall_15 : decode cX6_takeCall 15 = .ok (.invokevirtual 166, 3) := by decide +kernel
theorem dX6_takeCall_18 : decode cX6_takeCall 18 = .ok (.istore_n 3, 1) := by decide +kernel
theorem dX6_takeCall_19 : decode cX6_takeCall 19 = .ok (.aload_n 0, 1) := by decide +kernel
theorem dX6_takeCall_20 : decode cX6_takeCall 20 = .ok (.bipush 41, 2) := by decide +kernel
theorem dX6_takeCall_22 : decode cX6_takeCall 22 = .ok (.iconst 4, 1) := by decide +kernel
theorem dX6_takeCall_23 : decode cX6_takeCall 23 = .ok (.bipush 32, 2) := by decide +kernel
theorem dX6_takeCall_25 : decode cX6_takeCall 25 = .ok (.invokevirtual 251, 3) := by decide +kernel
theorem dX6_takeCall_28 : decode cX6_takeCall 28 = .ok (.istore 4, 2) := by decide +kernel
theorem dX6_takeCall_30 : decode cX6_takeCall 30 = .ok (.aload_n 0, 1) := by decide +kernel
theorem dX6_takeCall_31 : decode cX6_takeCall 31 = .ok (.getfield 18, 3) := by decide +kernel
theorem dX6_takeCall_34 : decode cX6_takeCall 34 = .ok (.getfield 205, 3) := by decide +kernel
theorem dX6_takeCall_37 : decode cX6_takeCall 37 = .ok (.iload_n 3, 1) := by decide +kernel
theorem dX6_takeCall_38 : decode cX6_takeCall 38 = .ok (.iload 4, 2) := by decide +kernel
theorem dX6_takeCall_40 : decode cX6_takeCall 40 = .ok (.iastore, 1) := by decide +kernel
theorem dX6_takeCall_41 : decode cX6_takeCall 41 = .ok (.aload_n 0, 1) := by decide +kernel
theorem dX6_takeCall_42 : decode cX6_takeCall 42 = .ok (.getfield 18, 3) := by decide +kernel
theorem dX6_takeCall_45 : decode cX6_takeCall 45 = .ok (.bipush 16, 2) := by decide +kernel
theorem dX6_takeCall_47 : decode cX6_takeCall 47 = .ok (.iload 4, 2) := by decide +kernel
theorem dX6_takeCall_49 : decode cX6_takeCall 49 = .ok (.iload_n 2, 1) := by decide +kernel
theorem dX6_takeCall_50 : decode cX6_takeCall 50 = .ok (.invokevirtual 166, 3) := by decide +kernel
theorem dX6_takeCall_53 : decode cX6_takeCall 53 = .ok (.pop, 1) := by decide +kernel
theorem dX6_takeCall_54 : decode cX6_takeCall 54 = .ok (.return_, 1) := by decide +kernel
theorem dX6_takeDigits_0 : decode cX6_takeDigits 0 = .ok (.aload_n 0, 1) := by decide +kernel
theorem dX6_takeDigits_1 : decode cX6_takeDigits 1 = .ok (.getfield 14, 3) := by decide +kernel
theorem dX6_takeDigits_4 : decode cX6_takeDigits 4 = .ok (.getfield 272, 3) := by decide +kernel
theorem dX6_takeDigits_7 : decode cX6_takeDigits 7 = .ok (.ldc2_w 275, 3) := by decide +kernel
theorem dX6_takeDigits_10 : decode cX6_takeDigits 10 = .ok (.lcmp, 1) := by decide +kernel
theorem dX6_takeDigits_11 : decode cX6_takeDigits 11 = .ok (.ifCond .lt 9, 3) := by decide +kernel
theorem dX6_takeDigits_14 : decode cX6_takeDigits 14 = .ok (.aload_n 0, 1) := by decide +kernel
theorem dX6_takeDigits_15 : decode cX6_takeDigits 15 = .ok (.iconst 4, 1) := by decide +kernel
theorem dX6_takeDigits_16 : decode cX6_takeDigits 16 = .ok (.invokevirtual 75, 3) := by decide +kernel
theorem dX6_takeDigits_19 : decode cX6_takeDigits 19 = .ok (.return_, 1) := by decide +kernel
theorem dX6_takeDigits_20 : decode cX6_takeDigits 20 = .ok (.aload_n 0, 1) := by decide +kernel
theorem dX6_takeDigits_21 : decode cX6_takeDigits 21 = .ok (.getfield 18, 3) := by decide +kernel
theorem dX6_takeDigits_24 : decode cX6_takeDigits 24 = .ok (.iconst 1, 1) := by decide +kernel
theorem dX6_takeDigits_25 : decode cX6_takeDigits 25 = .ok (.aload_n 0, 1) := by decide +kernel
theorem dX6_takeDigits_26 : decode cX6_takeDigits 26 = .ok (.getfield 14, 3) := by decide +kernel
theorem dX6_takeDigits_29 : decode cX6_takeDigits 29 = .ok (.getfield 272, 3) := by decide +kernel
theorem dX6_takeDigits_32 : decode cX6_takeDigits 32 = .ok (.l2i, 1) := by decide +kernel
theorem dX6_takeDigits_33 : decode cX6_takeDigits 33 = .ok (.aload_n 0, 1) := by decide +kernel
theorem dX6_takeDigits_34 : decode cX6_takeDigits 34 = .ok (.getfield 14, 3) := by decide +kernel
theorem dX6_takeDigits_37 : decode cX6_takeDigits 37 = .ok (.getfield 120, 3) := by decide +kernel
theorem dX6_takeDigits_40 : decode cX6_takeDigits 40 = .ok (.invokevirtual 166, 3) := by decide +kernel
theorem dX6_takeDigits_43 : decode cX6_takeDigits 43 = .ok (.pop, 1) := by decide +kernel
theorem dX6_takeDigits_44 : decode cX6_takeDigits 44 = .ok (.aload_n 0, 1) := by decide +kernel
theorem dX6_takeDigits_45 : decode cX6_takeDigits 45 = .ok (.getfield 14, 3) := by decide +kernel
theorem dX6_takeDigits_48 : decode cX6_takeDigits 48 = .ok (.invokevirtual 129, 3) := by decide +kernel
theorem dX6_takeDigits_51 : decode cX6_takeDigits 51 = .ok (.return_, 1) := by decide +kernel
theorem dX6_takeE_0 : decode cX6_takeE 0 = .ok (.aload_n 0, 1) := by decide +kernel
theorem dX6_takeE_1 : decode cX6_takeE 1 = .ok (.getfield 14, 3) := by decide +kernel
theorem dX6_takeE_4 : decode cX6_takeE 4 = .ok (.getfield 70, 3) := by decide +kernel
theorem dX6_takeE_7 : decode cX6_takeE 7 = .ok (.sipush 262, 3) := by decide +kernel
theorem dX6_takeE_10 : decode cX6_takeE 10 = .ok (.if_icmp .ne 8, 3) := by decide +kernel
theorem dX6_takeE_13 : decode cX6_takeE 13 = .ok (.aload_n 0, 1) := by decide +kernel
theorem dX6_takeE_14 : decode cX6_takeE 14 = .ok (.invokevirtual 208, 3) := by decide +kernel
theorem dX6_takeE_17 : decode cX6_takeE 17 = .ok (.ireturn, 1) := by decide +kernel
theorem dX6_takeE_18 : decode cX6_takeE 18 = .ok (.aload_n 0, 1) := by decide +kernel
theorem dX6_takeE_19 : decode cX6_takeE 19 = .ok (.getfield 14, 3) := by decide +kernel
theorem dX6_takeE_22 : decode cX6_takeE 22 = .ok (.getfield 70, 3) := by decide +kernel
theorem dX6_takeE_25 : decode cX6_takeE 25 = .ok (.sipush 264, 3) := by decide +kernel
theorem dX6_takeE_28 : decode cX6_takeE 28 = .ok (.if_icmp .ne 10, 3) := by decide +kernel
theorem dX6_takeE_31 : decode cX6_takeE 31 = .ok (.aload_n 0, 1) := by decide +kernel
theorem dX6_takeE_32 : decode cX6_takeE 32 = .ok (.invokevirtual 211, 3) := by decide +kernel
theorem dX6_takeE_35 : decode cX6_takeE 35 = .ok (.goto 7, 3) := by decide +kernel
theorem dX6_takeE_38 : decode cX6_takeE 38 = .ok (.aload_n 0, 1) := by decide +kernel
theorem dX6_takeE_39 : decode cX6_takeE 39 = .ok (.invokevirtual 214, 3) := by decide +kernel
theorem dX6_takeE_42 : decode cX6_takeE 42 = .ok (.ireturn, 1) := by decide +kernel
theorem dX6_takeFunctionKind_0 : decode cX6_takeFunctionKind 0 = .ok (.aload_n 0, 1) := by decide +kernel
theorem dX6_takeFunctionKind_1 : decode cX6_takeFunctionKind 1 = .ok (.getfield 58, 3) := by decide +kernel
theorem dX6_takeFunctionKind_4 : decode cX6_takeFunctionKind 4 = .ok (.istore_n 1, 1) := by decide +kernel
theorem dX6_takeFunctionKind_5 : decode cX6_takeFunctionKind 5 = .ok (.aload_n 0, 1) := by decide +kernel
theorem dX6_takeFunctionKind_6 : decode cX6_takeFunctionKind 6 = .ok (.sipush 275, 3) := by decide +kernel
theorem dX6_takeFunctionKind_9 : decode cX6_takeFunctionKind 9 = .ok (.invokevirtual 170, 3) := by decide +kernel
theorem dX6_takeFunctionKind_12 : decode cX6_takeFunctionKind 12 = .ok (.aload_n 0, 1) := by decide +kernel
theorem dX6_takeFunctionKind_13 : decode cX6_takeFunctionKind 13 = .ok (.bipush 40, 2) := by decide +kernel
theorem dX6_takeFunctionKind_15 : decode cX6_takeFunctionKind 15 = .ok (.invokevirtual 170, 3) := by decide +kernel
theorem dX6_takeFunctionKind_18 : decode cX6_takeFunctionKind 18 = .ok (.aload_n 0, 1) := by decide +kernel
theorem dX6_takeFunctionKind_19 : decode cX6_takeFunctionKind 19 = .ok (.getfield 14, 3) := by decide +kernel
theorem dX6_takeFunctionKind_22 : decode cX6_takeFunctionKind 22 = .ok (.getfield 70, 3) := by decide +kernel
theorem dX6_takeFunctionKind_25 : decode cX6_takeFunctionKind 25 = .ok (.bipush 41, 2) := by decide +kernel
theorem dX6_takeFunctionKind_27 : decode cX6_takeFunctionKind 27 = .ok (.if_icmp .eq 7, 3) := by decide +kernel
theorem dX6_takeFunctionKind_30 : decode cX6_takeFunctionKind 30 = .ok (.aload_n 0, 1) := by decide +kernel
theorem dX6_takeFunctionKind_31 : decode cX6_takeFunctionKind 31 = .ok (.invokevirtual 196, 3) := by decide +kernel
theorem dX6_takeFunctionKind_34 : decode cX6_takeFunctionKind 34 = .ok (.aload_n 0, 1) := by decide +kernel
theorem dX6_takeFunctionKind_35 : decode cX6_takeFunctionKind 35 = .ok (.bipush 41, 2) := by decide +kernel
theorem dX6_takeFunctionKind_37 : decode cX6_takeFunctionKind 37 = .ok (.invokevirtual 147, 3) := by decide +kernel
theorem dX6_takeFunctionKind_40 : decode cX6_takeFunctionKind 40 = .ok (.aload_n 0, 1) := by decide +kernel
theorem dX6_takeFunctionKind_41 : decode cX6_takeFunctionKind 41 = .ok (.dup, 1) := by decide +kernel
theorem dX6_takeFunctionKind_42 : decode cX6_takeFunctionKind 42 = .ok (.getfield 22, 3) := by decide +kernel
theorem dX6_takeFunctionKind_45 : decode cX6_takeFunctionKind 45 = .ok (.iconst 1, 1) := by decide +kernel
theorem dX6_takeFunctionKind_46 : decode cX6_takeFunctionKind 46 = .ok (.isub, 1) := by decide +kernel
theorem dX6_takeFunctionKind_47 : decode cX6_takeFunctionKind 47 = .ok (.putfield 22, 3) := by decide +kernel
theorem dX6_takeFunctionKind_50 : decode cX6_takeFunctionKind 50 = .ok (.aload_n 0, 1) := by decide +kernel
theorem dX6_takeFunctionKind_51 : decode cX6_takeFunctionKind 51 = .ok (.invokevirtual 157, 3) := by decide +kernel
theorem dX6_takeFunctionKind_54 : decode cX6_takeFunctionKind 54 = .ok (.istore_n 2, 1) := by decide +kernel
theorem dX6_takeFunctionKind_55 : decode cX6_takeFunctionKind 55 = .ok (.aload_n 0, 1) := by decide +kernel
theorem dX6_takeFunctionKind_56 : decode cX6_takeFunctionKind 56 = .ok (.getfield 18, 3) := by decide +kernel
theorem dX6_takeFunctionKind_59 : decode cX6_takeFunctionKind 59 = .ok (.getfield 105, 3) := by decide +kernel
theorem dX6_takeFunctionKind_62 : decode cX6_takeFunctionKind 62 = .ok (.aload_n 0, 1) := by decide +kernel
theorem dX6_takeFunctionKind_63 : decode cX6_takeFunctionKind 63 = .ok (.getfield 55, 3) := by decide +kernel
theorem dX6_takeFunctionKind_66 : decode cX6_takeFunctionKind 66 = .ok (.iload_n 1, 1) := by decide +kernel
theorem dX6_takeFunctionKind_67 : decode cX6_takeFunctionKind 67 = .ok (.aload_n 0, 1) := by decide +kernel
theorem dX6_takeFunctionKind_68 : decode cX6_takeFunctionKind 68 = .ok (.getfield 58, 3) := by decide +kernel
theorem dX6_takeFunctionKind_71 : decode cX6_takeFunctionKind 71 = .ok (.iload_n 1, 1) := by decide +kernel
theorem dX6_takeFunctionKind_72 : decode cX6_takeFunctionKind 72 = .ok (.isub, 1) := by decide +kernel
theorem dX6_takeFunctionKind_73 : decode cX6_takeFunctionKind 73 = .ok (.iload_n 2, 1) := by decide +kernel
theorem dX6_takeFunctionKind_74 : decode cX6_takeFunctionKind 74 = .ok (.invokevirtual 199, 3) := by decide +kernel
theorem dX6_takeFunctionKind_77 : decode cX6_takeFunctionKind 77 = .ok (.istore_n 3, 1) := by decide +kernel
theorem dX6_takeFunctionKind_78 : decode cX6_takeFunctionKind 78 = .ok (.aload_n 0, 1) := by decide +kernel
theorem dX6_takeFunctionKind_79 : decode cX6_takeFunctionKind 79 = .ok (.iload_n 1, 1) := by decide +kernel
theorem dX6_takeFunctionKind_80 : decode cX6_takeFunctionKind 80 = .ok (.putfield 58, 3) := by decide +kernel
theorem dX6_takeFunctionKind_83 : decode cX6_takeFunctionKind 83 = .ok (.aload_n 0, 1) := by decide +kernel
theorem dX6_takeFunctionKind_84 : decode cX6_takeFunctionKind 84 = .ok (.dup, 1) := by decide +kernel
theorem dX6_takeFunctionKind_85 : decode cX6_takeFunctionKind 85 = .ok (.getfield 22, 3) := by decide +kernel
theorem dX6_takeFunctionKind_88 : decode cX6_takeFunctionKind 88 = .ok (.iconst 1, 1) := by decide +kernel
theorem dX6_takeFunctionKind_89 : decode cX6_takeFunctionKind 89 = .ok (.isub, 1) := by decide +kernel
theorem dX6_takeFunctionKind_90 : decode cX6_takeFunctionKind 90 = .ok (.putfield 22, 3) := by decide +kernel
theorem dX6_takeFunctionKind_93 : decode cX6_takeFunctionKind 93 = .ok (.iload_n 3, 1) := by decide +kernel
theorem dX6_takeFunctionKind_94 : decode cX6_takeFunctionKind 94 = .ok (.ireturn, 1) := by decide +kernel
theorem dX6_takeIf_0 : decode cX6_takeIf 0 = .ok (.aload_n 0, 1) := by decide +kernel
theorem dX6_takeIf_1 : decode cX6_takeIf 1 = .ok (.invokevirtual 217, 3) := by decide +kernel
theorem dX6_takeIf_4 : decode cX6_takeIf 4 = .ok (.istore_n 1, 1) := by decide +kernel
theorem dX6_takeIf_5 : decode cX6_takeIf 5 = .ok (.aload_n 0, 1) := by decide +kernel
theorem dX6_takeIf_6 : decode cX6_takeIf 6 = .ok (.sipush 264, 3) := by decide +kernel
theorem dX6_takeIf_9 : decode cX6_takeIf 9 = .ok (.invokevirtual 170, 3) := by decide +kernel
theorem dX6_takeIf_12 : decode cX6_takeIf 12 = .ok (.aload_n 0, 1) := by decide +kernel
theorem dX6_takeIf_13 : decode cX6_takeIf 13 = .ok (.invokevirtual 88, 3) := by decide +kernel
theorem dX6_takeIf_16 : decode cX6_takeIf 16 = .ok (.istore_n 2, 1) := by decide +kernel
theorem dX6_takeIf_17 : decode cX6_takeIf 17 = .ok (.aload_n 0, 1) := by decide +kernel
theorem dX6_takeIf_18 : decode cX6_takeIf 18 = .ok (.getfield 18, 3) := by decide +kernel
theorem dX6_takeIf_21 : decode cX6_takeIf 21 = .ok (.bipush 28, 2) := by decide +kernel
theorem dX6_takeIf_23 : decode cX6_takeIf 23 = .ok (.iconst 0, 1) := by decide +kernel
theorem dX6_takeIf_24 : decode cX6_takeIf 24 = .ok (.aload_n 0, 1) := by decide +kernel
theorem dX6_takeIf_25 : decode cX6_takeIf 25 = .ok (.iload_n 2, 1) := by decide +kernel
theorem dX6_takeIf_26 : decode cX6_takeIf 26 = .ok (.invokevirtual 162, 3) := by decide +kernel
theorem dX6_takeIf_29 : decode cX6_takeIf 29 = .ok (.invokevirtual 166, 3) := by decide +kernel
theorem dX6_takeIf_32 : decode cX6_takeIf 32 = .ok (.pop, 1) := by decide +kernel
theorem dX6_takeIf_33 : decode cX6_takeIf 33 = .ok (.aload_n 0, 1) := by decide +kernel
theorem dX6_takeIf_34 : decode cX6_takeIf 34 = .ok (.getfield 18, 3) := by decide +kernel
theorem dX6_takeIf_37 : decode cX6_takeIf 37 = .ok (.bipush 6, 2) := by decide +kernel
theorem dX6_takeIf_39 : decode cX6_takeIf 39 = .ok (.iconst 0, 1) := by decide +kernel
theorem dX6_takeIf_40 : decode cX6_takeIf 40 = .ok (.aload_n 0, 1) := by decide +kernel
theorem dX6_takeIf_41 : decode cX6_takeIf 41 = .ok (.iload_n 2, 1) := by decide +kernel
theorem dX6_takeIf_42 : decode cX6_takeIf 42 = .ok (.invokevirtual 162, 3) := by decide +kernel
theorem dX6_takeIf_45 : decode cX6_takeIf 45 = .ok (.invokevirtual 166, 3) := by decide +kernel
theorem dX6_takeIf_48 : decode cX6_takeIf 48 = .ok (.istore_n 3, 1) := by decide +kernel
theorem dX6_takeIf_49 : decode cX6_takeIf 49 = .ok (.aload_n 0, 1) := by decide +kernel
theorem dX6_takeIf_50 : decode cX6_takeIf 50 = .ok (.sipush 265, 3) := by decide +kernel
theorem dX6_takeIf_53 : decode cX6_takeIf 53 = .ok (.invokevirtual 147, 3) := by decide +kernel
theorem dX6_takeIf_56 : decode cX6_takeIf 56 = .ok (.aload_n 0, 1) := by decide +kernel
theorem dX6_takeIf_57 : decode cX6_takeIf 57 = .ok (.invokevirtual 88, 3) := by decide +kernel
theorem dX6_takeIf_60 : decode cX6_takeIf 60 = .ok (.istore 4, 2) := by decide +kernel
theorem dX6_takeIf_62 : decode cX6_takeIf 62 = .ok (.aload_n 0, 1) := by decide +kernel
theorem dX6_takeIf_63 : decode cX6_takeIf 63 = .ok (.getfield 18, 3) := by decide +kernel
theorem dX6_takeIf_66 : decode cX6_takeIf 66 = .ok (.bipush 36, 2) := by decide +kernel
theorem dX6_takeIf_68 : decode cX6_takeIf 68 = .ok (.iconst 0, 1) := by decide +kernel
theorem dX6_takeIf_69 : decode cX6_takeIf 69 = .ok (.aload_n 0, 1) := by decide +kernel
theorem dX6_takeIf_70 : decode cX6_takeIf 70 = .ok (.iload 4, 2) := by decide +kernel
theorem dX6_takeIf_72 : decode cX6_takeIf 72 = .ok (.invokevirtual 162, 3) := by decide +kernel
theorem dX6_takeIf_75 : decode cX6_takeIf 75 = .ok (.invokevirtual 166, 3) := by decide +kernel
theorem dX6_takeIf_78 : decode cX6_takeIf 78 = .ok (.pop, 1) := by decide +kernel
theorem dX6_takeIf_79 : decode cX6_takeIf 79 = .ok (.aload_n 0, 1) := by decide +kernel
theorem dX6_takeIf_80 : decode cX6_takeIf 80 = .ok (.getfield 18, 3) := by decide +kernel
theorem dX6_takeIf_83 : decode cX6_takeIf 83 = .ok (.bipush 7, 2) := by decide +kernel
theorem dX6_takeIf_85 : decode cX6_takeIf 85 = .ok (.iconst 0, 1) := by decide +kernel
theorem dX6_takeIf_86 : decode cX6_takeIf 86 = .ok (.aload_n 0, 1) := by decide +kernel
theorem dX6_takeIf_87 : decode cX6_takeIf 87 = .ok (.iload 4, 2) := by decide +kernel
theorem dX6_takeIf_89 : decode cX6_takeIf 89 = .ok (.invokevirtual 162, 3) := by decide +kernel
theorem dX6_takeIf_92 : decode cX6_takeIf 92 = .ok (.invokevirtual 166, 3) := by decide +kernel
theorem dX6_takeIf_95 : decode cX6_takeIf 95 = .ok (.istore 5, 2) := by decide +kernel
theorem dX6_takeIf_97 : decode cX6_takeIf 97 = .ok (.aload_n 0, 1) := by decide +kernel
theorem dX6_takeIf_98 : decode cX6_takeIf 98 = .ok (.sipush 266, 3) := by decide +kernel
theorem dX6_takeIf_101 : decode cX6_takeIf 101 = .ok (.invokevirtual 147, 3) := by decide +kernel
theorem dX6_takeIf_104 : decode cX6_takeIf 104 = .ok (.aload_n 0, 1) := by decide +kernel
theorem dX6_takeIf_105 : decode cX6_takeIf 105 = .ok (.getfield 18, 3) := by decide +kernel
theorem dX6_takeIf_108 : decode cX6_takeIf 108 = .ok (.getfield 205, 3) := by decide +kernel
theorem dX6_takeIf_111 : decode cX6_takeIf 111 = .ok (.iload_n 3, 1) := by decide +kernel
theorem dX6_takeIf_112 : decode cX6_takeIf 112 = .ok (.aload_n 0, 1) := by decide +kernel
theorem dX6_takeIf_113 : decode cX6_takeIf 113 = .ok (.getfield 18, 3) := by decide +kernel
theorem dX6_takeIf_116 : decode cX6_takeIf 116 = .ok (.getfield 102, 3) := by decide +kernel
theorem dX6_takeIf_119 : decode cX6_takeIf 119 = .ok (.iastore, 1) := by decide +kernel
theorem dX6_takeIf_120 : decode cX6_takeIf 120 = .ok (.aload_n 0, 1) := by decide +kernel
theorem dX6_takeIf_121 : decode cX6_takeIf 121 = .ok (.invokevirtual 88, 3) := by decide +kernel
theorem dX6_takeIf_124 : decode cX6_takeIf 124 = .ok (.istore 6, 2) := by decide +kernel
theorem dX6_takeIf_126 : decode cX6_takeIf 126 = .ok (.aload_n 0, 1) := by decide +kernel
theorem dX6_takeIf_127 : decode cX6_takeIf 127 = .ok (.getfield 18, 3) := by decide +kernel
theorem dX6_takeIf_130 : decode cX6_takeIf 130 = .ok (.bipush 36, 2) := by decide +kernel
theorem dX6_takeIf_132 : decode cX6_takeIf 132 = .ok (.iconst 0, 1) := by decide +kernel
theorem dX6_takeIf_133 : decode cX6_takeIf 133 = .ok (.aload_n 0, 1) := by decide +kernel
theorem dX6_takeIf_134 : decode cX6_takeIf 134 = .ok (.iload 6, 2) := by decide +kernel
theorem dX6_takeIf_136 : decode cX6_takeIf 136 = .ok (.invokevirtual 162, 3) := by decide +kernel
theorem dX6_takeIf_139 : decode cX6_takeIf 139 = .ok (.invokevirtual 166, 3) := by decide +kernel
theorem dX6_takeIf_142 : decode cX6_takeIf 142 = .ok (.pop, 1) := by decide +kernel
theorem dX6_takeIf_143 : decode cX6_takeIf 143 = .ok (.aload_n 0, 1) := by decide +kernel
theorem dX6_takeIf_144 : decode cX6_takeIf 144 = .ok (.getfield 18, 3) := by decide +kernel
theorem dX6_takeIf_147 : decode cX6_takeIf 147 = .ok (.getfield 205, 3) := by decide +kernel
theorem dX6_takeIf_150 : decode cX6_takeIf 150 = .ok (.iload 5, 2) := by decide +kernel
theorem dX6_takeIf_152 : decode cX6_takeIf 152 = .ok (.aload_n 0, 1) := by decide +kernel
theorem dX6_takeIf_153 : decode cX6_takeIf 153 = .ok (.getfield 18, 3) := by decide +kernel
theorem dX6_takeIf_156 : decode cX6_takeIf 156 = .ok (.bipush 8, 2) := by decide +kernel
theorem dX6_takeIf_158 : decode cX6_takeIf 158 = .ok (.iconst 0, 1) := by decide +kernel
theorem dX6_takeIf_159 : decode cX6_takeIf 159 = .ok (.aload_n 0, 1) := by decide +kernel
theorem dX6_takeIf_160 : decode cX6_takeIf 160 = .ok (.iload_n 1, 1) := by decide +kernel
theorem dX6_takeIf_161 : decode cX6_takeIf 161 = .ok (.invokevirtual 162, 3) := by decide +kernel
theorem dX6_takeIf_164 : decode cX6_takeIf 164 = .ok (.invokevirtual 166, 3) := by decide +kernel
theorem dX6_takeIf_167 : decode cX6_takeIf 167 = .ok (.iastore, 1) := by decide +kernel
theorem dX6_takeIf_168 : decode cX6_takeIf 168 = .ok (.aload_n 0, 1) := by decide +kernel
theorem dX6_takeIf_169 : decode cX6_takeIf 169 = .ok (.dup, 1) := by decide +kernel
theorem dX6_takeIf_170 : decode cX6_takeIf 170 = .ok (.getfield 22, 3) := by decide +kernel
theorem dX6_takeIf_173 : decode cX6_takeIf 173 = .ok (.iconst 1, 1) := by decide +kernel
theorem dX6_takeIf_174 : decode cX6_takeIf 174 = .ok (.isub, 1) := by decide +kernel
theorem dX6_takeIf_175 : decode cX6_takeIf 175 = .ok (.putfield 22, 3) := by decide +kernel
theorem dX6_takeIf_178 : decode cX6_takeIf 178 = .ok (.iload_n 1, 1) := by decide +kernel
theorem dX6_takeIf_179 : decode cX6_takeIf 179 = .ok (.ireturn, 1) := by decide +kernel
theorem dX6_takeKind_0 : decode cX6_takeKind 0 = .ok (.aload_n 0, 1) := by decide +kernel
theorem dX6_takeKind_1 : decode cX6_takeKind 1 = .ok (.invokevirtual 187, 3) := by decide +kernel
theorem dX6_takeKind_4 : decode cX6_takeKind 4 = .ok (.ifCond .ne 10, 3) := by decide +kernel
theorem dX6_takeKind_7 : decode cX6_takeKind 7 = .ok (.aload_n 0, 1) := by decide +kernel
theorem dX6_takeKind_8 : decode cX6_takeKind 8 = .ok (.iconst 1, 1) := by decide +kernel
theorem dX6_takeKind_9 : decode cX6_takeKind 9 = .ok (.invokevirtual 75, 3) := by decide +kernel
theorem dX6_takeKind_12 : decode cX6_takeKind 12 = .ok (.iconst 2, 1) := by decide +kernel
theorem dX6_takeKind_13 : decode cX6_takeKind 13 = .ok (.ireturn, 1) := by decide +kernel
theorem dX6_takeKind_14 : decode cX6_takeKind 14 = .ok (.aload_n 0, 1) := by decide +kernel
theorem dX6_takeKind_15 : decode cX6_takeKind 15 = .ok (.getfield 14, 3) := by decide +kernel
theorem dX6_takeKind_18 : decode cX6_takeKind 18 = .ok (.getfield 70, 3) := by decide +kernel
theorem dX6_takeKind_21 : decode cX6_takeKind 21 = .ok (.sipush 275, 3) := by decide +kernel
theorem dX6_takeKind_24 : decode cX6_takeKind 24 = .ok (.if_icmp .ne 8, 3) := by decide +kernel
theorem dX6_takeKind_27 : decode cX6_takeKind 27 = .ok (.aload_n 0, 1) := by decide +kernel
theorem dX6_takeKind_28 : decode cX6_takeKind 28 = .ok (.invokevirtual 190, 3) := by decide +kernel
theorem dX6_takeKind_31 : decode cX6_takeKind 31 = .ok (.ireturn, 1) := by decide +kernel
theorem dX6_takeKind_32 : decode cX6_takeKind 32 = .ok (.aload_n 0, 1) := by decide +kernel
theorem dX6_takeKind_33 : decode cX6_takeKind 33 = .ok (.getfield 14, 3) := by decide +kernel
theorem dX6_takeKind_36 : decode cX6_takeKind 36 = .ok (.getfield 70, 3) := by decide +kernel
theorem dX6_takeKind_39 : decode cX6_takeKind 39 = .ok (.bipush 91, 2) := by decide +kernel
theorem dX6_takeKind_41 : decode cX6_takeKind 41 = .ok (.if_icmp .ne 42, 3) := by decide +kernel
theorem dX6_takeKind_44 : decode cX6_takeKind 44 = .ok (.aload_n 0, 1) := by decide +kernel
theorem dX6_takeKind_45 : decode cX6_takeKind 45 = .ok (.bipush 91, 2) := by decide +kernel
theorem dX6_takeKind_47 : decode cX6_takeKind 47 = .ok (.invokevirtual 170, 3) := by decide +kernel
theorem dX6_takeKind_50 : decode cX6_takeKind 50 = .ok (.aload_n 0, 1) := by decide +kernel
theorem dX6_takeKind_51 : decode cX6_takeKind 51 = .ok (.invokevirtual 157, 3) := by decide +kernel
theorem dX6_takeKind_54 : decode cX6_takeKind 54 = .ok (.istore_n 1, 1) := by decide +kernel
theorem dX6_takeKind_55 : decode cX6_takeKind 55 = .ok (.aload_n 0, 1) := by decide +kernel
theorem dX6_takeKind_56 : decode cX6_takeKind 56 = .ok (.bipush 93, 2) := by decide +kernel
theorem dX6_takeKind_58 : decode cX6_takeKind 58 = .ok (.invokevirtual 147, 3) := by decide +kernel
theorem dX6_takeKind_61 : decode cX6_takeKind 61 = .ok (.aload_n 0, 1) := by decide +kernel
theorem dX6_takeKind_62 : decode cX6_takeKind 62 = .ok (.dup, 1) := by decide +kernel
theorem dX6_takeKind_63 : decode cX6_takeKind 63 = .ok (.getfield 22, 3) := by decide +kernel
theorem dX6_takeKind_66 : decode cX6_takeKind 66 = .ok (.iconst 1, 1) := by decide +kernel
theorem dX6_takeKind_67 : decode cX6_takeKind 67 = .ok (.isub, 1) := by decide +kernel
theorem dX6_takeKind_68 : decode cX6_takeKind 68 = .ok (.putfield 22, 3) := by decide +kernel
theorem dX6_takeKind_71 : decode cX6_takeKind 71 = .ok (.aload_n 0, 1) := by decide +kernel
theorem dX6_takeKind_72 : decode cX6_takeKind 72 = .ok (.getfield 18, 3) := by decide +kernel
theorem dX6_takeKind_75 : decode cX6_takeKind 75 = .ok (.getfield 105, 3) := by decide +kernel
theorem dX6_takeKind_78 : decode cX6_takeKind 78 = .ok (.iload_n 1, 1) := by decide +kernel
theorem dX6_takeKind_79 : decode cX6_takeKind 79 = .ok (.invokevirtual 193, 3) := by decide +kernel
theorem dX6_takeKind_82 : decode cX6_takeKind 82 = .ok (.ireturn, 1) := by decide +kernel
theorem dX6_takeKind_83 : decode cX6_takeKind 83 = .ok (.iconst 0, 1) := by decide +kernel
theorem dX6_takeKind_84 : decode cX6_takeKind 84 = .ok (.aload_n 0, 1) := by decide +kernel
theorem dX6_takeKind_85 : decode cX6_takeKind 85 = .ok (.getfield 14, 3) := by decide +kernel
theorem dX6_takeKind_88 : decode cX6_takeKind 88 = .ok (.getfield 70, 3) := by decide +kernel
theorem dX6_takeKind_91 : decode cX6_takeKind 91 = .ok (.iadd, 1) := by decide +kernel
theorem dX6_takeKind_92 : decode cX6_takeKind 92 = .ok (.sipush 272, 3) := by decide +kernel
theorem dX6_takeKind_95 : decode cX6_takeKind 95 = .ok (.isub, 1) := by decide +kernel
theorem dX6_takeKind_96 : decode cX6_takeKind 96 = .ok (.istore_n 1, 1) := by decide +kernel
theorem dX6_takeKind_97 : decode cX6_takeKind 97 = .ok (.aload_n 0, 1) := by decide +kernel
theorem dX6_takeKind_98 : decode cX6_takeKind 98 = .ok (.getfield 14, 3) := by decide +kernel
theorem dX6_takeKind_101 : decode cX6_takeKind 101 = .ok (.invokevirtual 129, 3) := by decide +kernel
theorem dX6_takeKind_104 : decode cX6_takeKind 104 = .ok (.iload_n 1, 1) := by decide +kernel
theorem dX6_takeKind_105 : decode cX6_takeKind 105 = .ok (.ireturn, 1) := by decide +kernel
theorem dX6_takeKindList_0 : decode cX6_takeKindList 0 = .ok (.iconst 0, 1) := by decide +kernel
theorem dX6_takeKindList_1 : decode cX6_takeKindList 1 = .ok (.istore_n 1, 1) := by decide +kernel
theorem dX6_takeKindList_2 : decode cX6_takeKindList 2 = .ok (.iload_n 1, 1) := by decide +kernel
theorem dX6_takeKindList_3 : decode cX6_takeKindList 3 = .ok (.iconst 4, 1) := by decide +kernel
theorem dX6_takeKindList_4 : decode cX6_takeKindList 4 = .ok (.if_icmp .gt 91, 3) := by decide +kernel
theorem dX6_takeKindList_7 : decode cX6_takeKindList 7 = .ok (.iload_n 1, 1) := by decide +kernel
theorem dX6_takeKindList_8 : decode cX6_takeKindList 8 = .ok (.iconst 4, 1) := by decide +kernel
theorem dX6_takeKindList_9 : decode cX6_takeKindList 9 = .ok (.if_icmp .lt 15, 3) := by decide +kernel
theorem dX6_takeKindList_12 : decode cX6_takeKindList 12 = .ok (.aload_n 0, 1) := by decide +kernel
theorem dX6_takeKindList_13 : decode cX6_takeKindList 13 = .ok (.invokevirtual 187, 3) := by decide +kernel
theorem dX6_takeKindList_16 : decode cX6_takeKindList 16 = .ok (.ifCond .eq 8, 3) := by decide +kernel
theorem dX6_takeKindList_19 : decode cX6_takeKindList 19 = .ok (.aload_n 0, 1) := by decide +kernel
theorem dX6_takeKindList_20 : decode cX6_takeKindList 20 = .ok (.iconst 3, 1) := by decide +kernel
theorem dX6_takeKindList_21 : decode cX6_takeKindList 21 = .ok (.invokevirtual 75, 3) := by decide +kernel
theorem dX6_takeKindList_24 : decode cX6_takeKindList 24 = .ok (.aload_n 0, 1) := by decide +kernel
theorem dX6_takeKindList_25 : decode cX6_takeKindList 25 = .ok (.invokevirtual 157, 3) := by decide +kernel
theorem dX6_takeKindList_28 : decode cX6_takeKindList 28 = .ok (.istore_n 2, 1) := by decide +kernel
theorem dX6_takeKindList_29 : decode cX6_takeKindList 29 = .ok (.aload_n 0, 1) := by decide +kernel
theorem dX6_takeKindList_30 : decode cX6_takeKindList 30 = .ok (.getfield 26, 3) := by decide +kernel
theorem dX6_takeKindList_33 : decode cX6_takeKindList 33 = .ok (.ifCond .ne 15, 3) := by decide +kernel
theorem dX6_takeKindList_36 : decode cX6_takeKindList 36 = .ok (.aload_n 0, 1) := by decide +kernel
theorem dX6_takeKindList_37 : decode cX6_takeKindList 37 = .ok (.getfield 58, 3) := by decide +kernel
theorem dX6_takeKindList_40 : decode cX6_takeKindList 40 = .ok (.aload_n 0, 1) := by decide +kernel
theorem dX6_takeKindList_41 : decode cX6_takeKindList 41 = .ok (.getfield 55, 3) := by decide +kernel
theorem dX6_takeKindList_44 : decode cX6_takeKindList 44 = .ok (.arraylength, 1) := by decide +kernel
theorem dX6_takeKindList_45 : decode cX6_takeKindList 45 = .ok (.if_icmp .lt 4, 3) := by decide +kernel
theorem dX6_takeKindList_48 : decode cX6_takeKindList 48 = .ok (.return_, 1) := by decide +kernel
theorem dX6_takeKindList_49 : decode cX6_takeKindList 49 = .ok (.aload_n 0, 1) := by decide +kernel
theorem dX6_takeKindList_50 : decode cX6_takeKindList 50 = .ok (.getfield 55, 3) := by decide +kernel
theorem dX6_takeKindList_53 : decode cX6_takeKindList 53 = .ok (.aload_n 0, 1) := by decide +kernel
theorem dX6_takeKindList_54 : decode cX6_takeKindList 54 = .ok (.getfield 58, 3) := by decide +kernel
theorem dX6_takeKindList_57 : decode cX6_takeKindList 57 = .ok (.iload_n 2, 1) := by decide +kernel
theorem dX6_takeKindList_58 : decode cX6_takeKindList 58 = .ok (.iastore, 1) := by decide +kernel
theorem dX6_takeKindList_59 : decode cX6_takeKindList 59 = .ok (.aload_n 0, 1) := by decide +kernel
theorem dX6_takeKindList_60 : decode cX6_takeKindList 60 = .ok (.dup, 1) := by decide +kernel
theorem dX6_takeKindList_61 : decode cX6_takeKindList 61 = .ok (.getfield 58, 3) := by decide +kernel
theorem dX6_takeKindList_64 : decode cX6_takeKindList 64 = .ok (.iconst 1, 1) := by decide +kernel
theorem dX6_takeKindList_65 : decode cX6_takeKindList 65 = .ok (.iadd, 1) := by decide +kernel
theorem dX6_takeKindList_66 : decode cX6_takeKindList 66 = .ok (.putfield 58, 3) := by decide +kernel
theorem dX6_takeKindList_69 : decode cX6_takeKindList 69 = .ok (.aload_n 0, 1) := by decide +kernel
theorem dX6_takeKindList_70 : decode cX6_takeKindList 70 = .ok (.getfield 14, 3) := by decide +kernel
theorem dX6_takeKindList_73 : decode cX6_takeKindList 73 = .ok (.getfield 70, 3) := by decide +kernel
theorem dX6_takeKindList_76 : decode cX6_takeKindList 76 = .ok (.bipush 44, 2) := by decide +kernel
theorem dX6_takeKindList_78 : decode cX6_takeKindList 78 = .ok (.if_icmp .eq 4, 3) := by decide +kernel
theorem dX6_takeKindList_81 : decode cX6_takeKindList 81 = .ok (.return_, 1) := by decide +kernel
theorem dX6_takeKindList_82 : decode cX6_takeKindList 82 = .ok (.aload_n 0, 1) := by decide +kernel
theorem dX6_takeKindList_83 : decode cX6_takeKindList 83 = .ok (.getfield 14, 3) := by decide +kernel
theorem dX6_takeKindList_86 : decode cX6_takeKindList 86 = .ok (.invokevirtual 129, 3) := by decide +kernel
theorem dX6_takeKindList_89 : decode cX6_takeKindList 89 = .ok (.iinc 1 1, 3) := by decide +kernel
theorem dX6_takeKindList_92 : decode cX6_takeKindList 92 = .ok (.goto (-90), 3) := by decide +kernel
theorem dX6_takeKindList_95 : decode cX6_takeKindList 95 = .ok (.return_, 1) := by decide +kernel
theorem dX6_takeLet_0 : decode cX6_takeLet 0 = .ok (.aload_n 0, 1) := by decide +kernel
theorem dX6_takeLet_1 : decode cX6_takeLet 1 = .ok (.invokevirtual 217, 3) := by decide +kernel
theorem dX6_takeLet_4 : decode cX6_takeLet 4 = .ok (.istore_n 1, 1) := by decide +kernel
theorem dX6_takeLet_5 : decode cX6_takeLet 5 = .ok (.aload_n 0, 1) := by decide +kernel
theorem dX6_takeLet_6 : decode cX6_takeLet 6 = .ok (.sipush 262, 3) := by decide +kernel
theorem dX6_takeLet_9 : decode cX6_takeLet 9 = .ok (.invokevirtual 170, 3) := by decide +kernel
theorem dX6_takeLet_12 : decode cX6_takeLet 12 = .ok (.aload_n 0, 1) := by decide +kernel
theorem dX6_takeLet_13 : decode cX6_takeLet 13 = .ok (.getfield 14, 3) := by decide +kernel
theorem dX6_takeLet_16 : decode cX6_takeLet 16 = .ok (.getfield 138, 3) := by decide +kernel
theorem dX6_takeLet_19 : decode cX6_takeLet 19 = .ok (.lstore_n 2, 1) := by decide +kernel
theorem dX6_takeLet_20 : decode cX6_takeLet 20 = .ok (.aload_n 0, 1) := by decide +kernel
theorem dX6_takeLet_21 : decode cX6_takeLet 21 = .ok (.sipush 258, 3) := by decide +kernel
theorem dX6_takeLet_24 : decode cX6_takeLet 24 = .ok (.invokevirtual 147, 3) := by decide +kernel
theorem dX6_takeLet_27 : decode cX6_takeLet 27 = .ok (.aload_n 0, 1) := by decide +kernel
theorem dX6_takeLet_28 : decode cX6_takeLet 28 = .ok (.invokevirtual 153, 3) := by decide +kernel
theorem dX6_takeLet_31 : decode cX6_takeLet 31 = .ok (.ifCond .eq 10, 3) := by decide +kernel
theorem dX6_takeLet_34 : decode cX6_takeLet 34 = .ok (.aload_n 0, 1) := by decide +kernel
theorem dX6_takeLet_35 : decode cX6_takeLet 35 = .ok (.invokevirtual 157, 3) := by decide +kernel
theorem dX6_takeLet_38 : decode cX6_takeLet 38 = .ok (.goto 4, 3) := by decide +kernel
theorem dX6_takeLet_41 : decode cX6_takeLet 41 = .ok (.iconst (-1), 1) := by decide +kernel
theorem dX6_takeLet_42 : decode cX6_takeLet 42 = .ok (.istore 4, 2) := by decide +kernel
theorem dX6_takeLet_44 : decode cX6_takeLet 44 = .ok (.aload_n 0, 1) := by decide +kernel
theorem dX6_takeLet_45 : decode cX6_takeLet 45 = .ok (.bipush 61, 2) := by decide +kernel
theorem dX6_takeLet_47 : decode cX6_takeLet 47 = .ok (.invokevirtual 147, 3) := by decide +kernel
theorem dX6_takeLet_50 : decode cX6_takeLet 50 = .ok (.aload_n 0, 1) := by decide +kernel
theorem dX6_takeLet_51 : decode cX6_takeLet 51 = .ok (.invokevirtual 88, 3) := by decide +kernel
theorem dX6_takeLet_54 : decode cX6_takeLet 54 = .ok (.istore 5, 2) := by decide +kernel
theorem dX6_takeLet_56 : decode cX6_takeLet 56 = .ok (.iload 4, 2) := by decide +kernel
theorem dX6_takeLet_58 : decode cX6_takeLet 58 = .ok (.iconst (-1), 1) := by decide +kernel
theorem dX6_takeLet_59 : decode cX6_takeLet 59 = .ok (.if_icmp .eq 21, 3) := by decide +kernel
theorem dX6_takeLet_62 : decode cX6_takeLet 62 = .ok (.aload_n 0, 1) := by decide +kernel
theorem dX6_takeLet_63 : decode cX6_takeLet 63 = .ok (.getfield 18, 3) := by decide +kernel
theorem dX6_takeLet_66 : decode cX6_takeLet 66 = .ok (.bipush 34, 2) := by decide +kernel
theorem dX6_takeLet_68 : decode cX6_takeLet 68 = .ok (.iload 4, 2) := by decide +kernel
theorem dX6_takeLet_70 : decode cX6_takeLet 70 = .ok (.aload_n 0, 1) := by decide +kernel
theorem dX6_takeLet_71 : decode cX6_takeLet 71 = .ok (.iload 5, 2) := by decide +kernel
theorem dX6_takeLet_73 : decode cX6_takeLet 73 = .ok (.invokevirtual 162, 3) := by decide +kernel
theorem dX6_takeLet_76 : decode cX6_takeLet 76 = .ok (.invokevirtual 166, 3) := by decide +kernel
theorem dX6_takeLet_79 : decode cX6_takeLet 79 = .ok (.pop, 1) := by decide +kernel
theorem dX6_takeLet_80 : decode cX6_takeLet 80 = .ok (.aload_n 0, 1) := by decide +kernel
theorem dX6_takeLet_81 : decode cX6_takeLet 81 = .ok (.sipush 263, 3) := by decide +kernel
theorem dX6_takeLet_84 : decode cX6_takeLet 84 = .ok (.invokevirtual 147, 3) := by decide +kernel
theorem dX6_takeLet_87 : decode cX6_takeLet 87 = .ok (.aload_n 0, 1) := by decide +kernel
theorem dX6_takeLet_88 : decode cX6_takeLet 88 = .ok (.getfield 40, 3) := by decide +kernel
theorem dX6_takeLet_91 : decode cX6_takeLet 91 = .ok (.istore 6, 2) := by decide +kernel
theorem dX6_takeLet_93 : decode cX6_takeLet 93 = .ok (.aload_n 0, 1) := by decide +kernel
theorem dX6_takeLet_94 : decode cX6_takeLet 94 = .ok (.getfield 18, 3) := by decide +kernel
theorem dX6_takeLet_97 : decode cX6_takeLet 97 = .ok (.iconst 5, 1) := by decide +kernel
theorem dX6_takeLet_98 : decode cX6_takeLet 98 = .ok (.iload 6, 2) := by decide +kernel
theorem dX6_takeLet_100 : decode cX6_takeLet 100 = .ok (.aload_n 0, 1) := by decide +kernel
theorem dX6_takeLet_101 : decode cX6_takeLet 101 = .ok (.iload 5, 2) := by decide +kernel
theorem dX6_takeLet_103 : decode cX6_takeLet 103 = .ok (.invokevirtual 162, 3) := by decide +kernel
theorem dX6_takeLet_106 : decode cX6_takeLet 106 = .ok (.invokevirtual 166, 3) := by decide +kernel
theorem dX6_takeLet_109 : decode cX6_takeLet 109 = .ok (.pop, 1) := by decide +kernel
theorem dX6_takeLet_110 : decode cX6_takeLet 110 = .ok (.aload_n 0, 1) := by decide +kernel
theorem dX6_takeLet_111 : decode cX6_takeLet 111 = .ok (.lload_n 2, 1) := by decide +kernel
theorem dX6_takeLet_112 : decode cX6_takeLet 112 = .ok (.invokevirtual 177, 3) := by decide +kernel
theorem dX6_takeLet_115 : decode cX6_takeLet 115 = .ok (.aload_n 0, 1) := by decide +kernel
theorem dX6_takeLet_116 : decode cX6_takeLet 116 = .ok (.invokevirtual 88, 3) := by decide +kernel
theorem dX6_takeLet_119 : decode cX6_takeLet 119 = .ok (.pop, 1) := by decide +kernel
theorem dX6_takeLet_120 : decode cX6_takeLet 120 = .ok (.aload_n 0, 1) := by decide +kernel
theorem dX6_takeLet_121 : decode cX6_takeLet 121 = .ok (.iload 6, 2) := by decide +kernel
theorem dX6_takeLet_123 : decode cX6_takeLet 123 = .ok (.putfield 40, 3) := by decide +kernel
theorem dX6_takeLet_126 : decode cX6_takeLet 126 = .ok (.aload_n 0, 1) := by decide +kernel
theorem dX6_takeLet_127 : decode cX6_takeLet 127 = .ok (.dup, 1) := by decide +kernel
theorem dX6_takeLet_128 : decode cX6_takeLet 128 = .ok (.getfield 22, 3) := by decide +kernel
theorem dX6_takeLet_131 : decode cX6_takeLet 131 = .ok (.iconst 1, 1) := by decide +kernel
theorem dX6_takeLet_132 : decode cX6_takeLet 132 = .ok (.isub, 1) := by decide +kernel
theorem dX6_takeLet_133 : decode cX6_takeLet 133 = .ok (.putfield 22, 3) := by decide +kernel
theorem dX6_takeLet_136 : decode cX6_takeLet 136 = .ok (.iload_n 1, 1) := by decide +kernel
theorem dX6_takeLet_137 : decode cX6_takeLet 137 = .ok (.ireturn, 1) := by decide +kernel
theorem dX6_takeList_0 : decode cX6_takeList 0 = .ok (.iconst 0, 1) := by decide +kernel
theorem dX6_takeList_1 : decode cX6_takeList 1 = .ok (.istore 4, 2) := by decide +kernel
theorem dX6_takeList_3 : decode cX6_takeList 3 = .ok (.aload_n 0, 1) := by decide +kernel
theorem dX6_takeList_4 : decode cX6_takeList 4 = .ok (.aload_n 0, 1) := by decide +kernel
theorem dX6_takeList_5 : decode cX6_takeList 5 = .ok (.getfield 14, 3) := by decide +kernel
theorem dX6_takeList_8 : decode cX6_takeList 8 = .ok (.getfield 70, 3) := by decide +kernel
theorem dX6_takeList_11 : decode cX6_takeList 11 = .ok (.invokevirtual 170, 3) := by decide +kernel
theorem dX6_takeList_14 : decode cX6_takeList 14 = .ok (.iconst 0, 1) := by decide +kernel
theorem dX6_takeList_15 : decode cX6_takeList 15 = .ok (.istore 5, 2) := by decide +kernel
theorem dX6_takeList_17 : decode cX6_takeList 17 = .ok (.iload 5, 2) := by decide +kernel
theorem dX6_takeList_19 : decode cX6_takeList 19 = .ok (.iload_n 2, 1) := by decide +kernel
theorem dX6_takeList_20 : decode cX6_takeList 20 = .ok (.if_icmp .gt 91, 3) := by decide +kernel
theorem dX6_takeList_23 : decode cX6_takeList 23 = .ok (.iload 4, 2) := by decide +kernel
theorem dX6_takeList_25 : decode cX6_takeList 25 = .ok (.ifCond .gt 14, 3) := by decide +kernel
theorem dX6_takeList_28 : decode cX6_takeList 28 = .ok (.aload_n 0, 1) := by decide +kernel
theorem dX6_takeList_29 : decode cX6_takeList 29 = .ok (.getfield 14, 3) := by decide +kernel
theorem dX6_takeList_32 : decode cX6_takeList 32 = .ok (.getfield 70, 3) := by decide +kernel
theorem dX6_takeList_35 : decode cX6_takeList 35 = .ok (.iload_n 1, 1) := by decide +kernel
theorem dX6_takeList_36 : decode cX6_takeList 36 = .ok (.if_icmp .eq 75, 3) := by decide +kernel
theorem dX6_takeList_39 : decode cX6_takeList 39 = .ok (.iload 5, 2) := by decide +kernel
theorem dX6_takeList_41 : decode cX6_takeList 41 = .ok (.iload_n 2, 1) := by decide +kernel
theorem dX6_takeList_42 : decode cX6_takeList 42 = .ok (.if_icmp .lt 15, 3) := by decide +kernel
theorem dX6_takeList_45 : decode cX6_takeList 45 = .ok (.aload_n 0, 1) := by decide +kernel
theorem dX6_takeList_46 : decode cX6_takeList 46 = .ok (.invokevirtual 254, 3) := by decide +kernel
theorem dX6_takeList_49 : decode cX6_takeList 49 = .ok (.ifCond .eq 8, 3) := by decide +kernel
theorem dX6_takeList_52 : decode cX6_takeList 52 = .ok (.aload_n 0, 1) := by decide +kernel
theorem dX6_takeList_53 : decode cX6_takeList 53 = .ok (.iconst 3, 1) := by decide +kernel
theorem dX6_takeList_54 : decode cX6_takeList 54 = .ok (.invokevirtual 75, 3) := by decide +kernel
theorem dX6_takeList_57 : decode cX6_takeList 57 = .ok (.aload_n 0, 1) := by decide +kernel
theorem dX6_takeList_58 : decode cX6_takeList 58 = .ok (.invokevirtual 88, 3) := by decide +kernel
theorem dX6_takeList_61 : decode cX6_takeList 61 = .ok (.istore 6, 2) := by decide +kernel
theorem dX6_takeList_63 : decode cX6_takeList 63 = .ok (.aload_n 0, 1) := by decide +kernel
theorem dX6_takeList_64 : decode cX6_takeList 64 = .ok (.getfield 18, 3) := by decide +kernel
theorem dX6_takeList_67 : decode cX6_takeList 67 = .ok (.iload_n 3, 1) := by decide +kernel
theorem dX6_takeList_68 : decode cX6_takeList 68 = .ok (.iload 5, 2) := by decide +kernel
theorem dX6_takeList_70 : decode cX6_takeList 70 = .ok (.aload_n 0, 1) := by decide +kernel
theorem dX6_takeList_71 : decode cX6_takeList 71 = .ok (.iload 6, 2) := by decide +kernel
theorem dX6_takeList_73 : decode cX6_takeList 73 = .ok (.invokevirtual 162, 3) := by decide +kernel
theorem dX6_takeList_76 : decode cX6_takeList 76 = .ok (.invokevirtual 166, 3) := by decide +kernel
theorem dX6_takeList_79 : decode cX6_takeList 79 = .ok (.pop, 1) := by decide +kernel
theorem dX6_takeList_80 : decode cX6_takeList 80 = .ok (.iinc 4 1, 3) := by decide +kernel
theorem dX6_takeList_83 : decode cX6_takeList 83 = .ok (.aload_n 0, 1) := by decide +kernel
theorem dX6_takeList_84 : decode cX6_takeList 84 = .ok (.getfield 14, 3) := by decide +kernel
theorem dX6_takeList_87 : decode cX6_takeList 87 = .ok (.getfield 70, 3) := by decide +kernel
theorem dX6_takeList_90 : decode cX6_takeList 90 = .ok (.bipush 44, 2) := by decide +kernel
theorem dX6_takeList_92 : decode cX6_takeList 92 = .ok (.if_icmp .eq 6, 3) := by decide +kernel
theorem dX6_takeList_95 : decode cX6_takeList 95 = .ok (.goto 16, 3) := by decide +kernel
theorem dX6_takeList_98 : decode cX6_takeList 98 = .ok (.aload_n 0, 1) := by decide +kernel
theorem dX6_takeList_99 : decode cX6_takeList 99 = .ok (.getfield 14, 3) := by decide +kernel
theorem dX6_takeList_102 : decode cX6_takeList 102 = .ok (.invokevirtual 129, 3) := by decide +kernel
theorem dX6_takeList_105 : decode cX6_takeList 105 = .ok (.iinc 5 1, 3) := by decide +kernel
theorem dX6_takeList_108 : decode cX6_takeList 108 = .ok (.goto (-91), 3) := by decide +kernel
theorem dX6_takeList_111 : decode cX6_takeList 111 = .ok (.aload_n 0, 1) := by decide +kernel
theorem dX6_takeList_112 : decode cX6_takeList 112 = .ok (.iload_n 1, 1) := by decide +kernel
theorem dX6_takeList_113 : decode cX6_takeList 113 = .ok (.invokevirtual 147, 3) := by decide +kernel
theorem dX6_takeList_116 : decode cX6_takeList 116 = .ok (.aload_n 0, 1) := by decide +kernel
theorem dX6_takeList_117 : decode cX6_takeList 117 = .ok (.dup, 1) := by decide +kernel
theorem dX6_takeList_118 : decode cX6_takeList 118 = .ok (.getfield 22, 3) := by decide +kernel
theorem dX6_takeList_121 : decode cX6_takeList 121 = .ok (.iconst 1, 1) := by decide +kernel
theorem dX6_takeList_122 : decode cX6_takeList 122 = .ok (.isub, 1) := by decide +kernel
theorem dX6_takeList_123 : decode cX6_takeList 123 = .ok (.putfield 22, 3) := by decide +kernel
theorem dX6_takeList_126 : decode cX6_takeList 126 = .ok (.iload 4, 2) := by decide +kernel
theorem dX6_takeList_128 : decode cX6_takeList 128 = .ok (.ireturn, 1) := by decide +kernel
theorem dX6_takeName_0 : decode cX6_takeName 0 = .ok (.aload_n 0, 1) := by decide +kernel
theorem dX6_takeName_1 : decode cX6_takeName 1 = .ok (.aload_n 0, 1) := by decide +kernel
theorem dX6_takeName_2 : decode cX6_takeName 2 = .ok (.getfield 14, 3) := by decide +kernel
theorem dX6_takeName_5 : decode cX6_takeName 5 = .ok (.getfield 138, 3) := by decide +kernel
theorem dX6_takeName_8 : decode cX6_takeName 8 = .ok (.invokevirtual 173, 3) := by decide +kernel
theorem dX6_takeName_11 : decode cX6_takeName 11 = .ok (.istore_n 1, 1) := by decide +kernel
theorem dX6_takeName_12 : decode cX6_takeName 12 = .ok (.aload_n 0, 1) := by decide +kernel
theorem dX6_takeName_13 : decode cX6_takeName 13 = .ok (.getfield 18, 3) := by decide +kernel
theorem dX6_takeName_16 : decode cX6_takeName 16 = .ok (.iload_n 1, 1) := by decide +kernel
theorem dX6_takeName_17 : decode cX6_takeName 17 = .ok (.iconst (-1), 1) := by decide +kernel
theorem dX6_takeName_18 : decode cX6_takeName 18 = .ok (.if_icmp .ne 7, 3) := by decide +kernel
theorem dX6_takeName_21 : decode cX6_takeName 21 = .ok (.iconst 4, 1) := by decide +kernel
theorem dX6_takeName_22 : decode cX6_takeName 22 = .ok (.goto 4, 3) := by decide +kernel
theorem dX6_takeName_25 : decode cX6_takeName 25 = .ok (.iconst 3, 1) := by decide +kernel
theorem dX6_takeName_26 : decode cX6_takeName 26 = .ok (.iload_n 1, 1) := by decide +kernel
theorem dX6_takeName_27 : decode cX6_takeName 27 = .ok (.aload_n 0, 1) := by decide +kernel
theorem dX6_takeName_28 : decode cX6_takeName 28 = .ok (.getfield 14, 3) := by decide +kernel
theorem dX6_takeName_31 : decode cX6_takeName 31 = .ok (.getfield 120, 3) := by decide +kernel
theorem dX6_takeName_34 : decode cX6_takeName 34 = .ok (.invokevirtual 166, 3) := by decide +kernel
theorem dX6_takeName_37 : decode cX6_takeName 37 = .ok (.pop, 1) := by decide +kernel
theorem dX6_takeName_38 : decode cX6_takeName 38 = .ok (.aload_n 0, 1) := by decide +kernel
theorem dX6_takeName_39 : decode cX6_takeName 39 = .ok (.getfield 14, 3) := by decide +kernel
theorem dX6_takeName_42 : decode cX6_takeName 42 = .ok (.invokevirtual 129, 3) := by decide +kernel
theorem dX6_takeName_45 : decode cX6_takeName 45 = .ok (.return_, 1) := by decide +kernel
theorem dX6_takeNew_0 : decode cX6_takeNew 0 = .ok (.aload_n 0, 1) := by decide +kernel
theorem dX6_takeNew_1 : decode cX6_takeNew 1 = .ok (.getfield 14, 3) := by decide +kernel
theorem dX6_takeNew_4 : decode cX6_takeNew 4 = .ok (.getfield 120, 3) := by decide +kernel
theorem dX6_takeNew_7 : decode cX6_takeNew 7 = .ok (.istore_n 1, 1) := by decide +kernel
theorem dX6_takeNew_8 : decode cX6_takeNew 8 = .ok (.aload_n 0, 1) := by decide +kernel
theorem dX6_takeNew_9 : decode cX6_takeNew 9 = .ok (.getfield 14, 3) := by decide +kernel
theorem dX6_takeNew_12 : decode cX6_takeNew 12 = .ok (.invokevirtual 129, 3) := by decide +kernel
theorem dX6_takeNew_15 : decode cX6_takeNew 15 = .ok (.aload_n 0, 1) := by decide +kernel
theorem dX6_takeNew_16 : decode cX6_takeNew 16 = .ok (.bipush 40, 2) := by decide +kernel
theorem dX6_takeNew_18 : decode cX6_takeNew 18 = .ok (.invokevirtual 170, 3) := by decide +kernel
theorem dX6_takeNew_21 : decode cX6_takeNew 21 = .ok (.aload_n 0, 1) := by decide +kernel
theorem dX6_takeNew_22 : decode cX6_takeNew 22 = .ok (.invokevirtual 88, 3) := by decide +kernel
theorem dX6_takeNew_25 : decode cX6_takeNew 25 = .ok (.istore_n 2, 1) := by decide +kernel
theorem dX6_takeNew_26 : decode cX6_takeNew 26 = .ok (.aload_n 0, 1) := by decide +kernel
theorem dX6_takeNew_27 : decode cX6_takeNew 27 = .ok (.getfield 18, 3) := by decide +kernel
theorem dX6_takeNew_30 : decode cX6_takeNew 30 = .ok (.bipush 27, 2) := by decide +kernel
theorem dX6_takeNew_32 : decode cX6_takeNew 32 = .ok (.iconst 0, 1) := by decide +kernel
theorem dX6_takeNew_33 : decode cX6_takeNew 33 = .ok (.aload_n 0, 1) := by decide +kernel
theorem dX6_takeNew_34 : decode cX6_takeNew 34 = .ok (.iload_n 2, 1) := by decide +kernel
theorem dX6_takeNew_35 : decode cX6_takeNew 35 = .ok (.invokevirtual 162, 3) := by decide +kernel
theorem dX6_takeNew_38 : decode cX6_takeNew 38 = .ok (.invokevirtual 166, 3) := by decide +kernel
theorem dX6_takeNew_41 : decode cX6_takeNew 41 = .ok (.pop, 1) := by decide +kernel
theorem dX6_takeNew_42 : decode cX6_takeNew 42 = .ok (.aload_n 0, 1) := by decide +kernel
theorem dX6_takeNew_43 : decode cX6_takeNew 43 = .ok (.bipush 44, 2) := by decide +kernel
theorem dX6_takeNew_45 : decode cX6_takeNew 45 = .ok (.invokevirtual 147, 3) := by decide +kernel
theorem dX6_takeNew_48 : decode cX6_takeNew 48 = .ok (.aload_n 0, 1) := by decide +kernel
theorem dX6_takeNew_49 : decode cX6_takeNew 49 = .ok (.invokevirtual 88, 3) := by decide +kernel
theorem dX6_takeNew_52 : decode cX6_takeNew 52 = .ok (.pop, 1) := by decide +kernel
theorem dX6_takeNew_53 : decode cX6_takeNew 53 = .ok (.aload_n 0, 1) := by decide +kernel
theorem dX6_takeNew_54 : decode cX6_takeNew 54 = .ok (.bipush 41, 2) := by decide +kernel
theorem dX6_takeNew_56 : decode cX6_takeNew 56 = .ok (.invokevirtual 147, 3) := by decide +kernel
theorem dX6_takeNew_59 : decode cX6_takeNew 59 = .ok (.aload_n 0, 1) := by decide +kernel
theorem dX6_takeNew_60 : decode cX6_takeNew 60 = .ok (.dup, 1) := by decide +kernel
theorem dX6_takeNew_61 : decode cX6_takeNew 61 = .ok (.getfield 22, 3) := by decide +kernel
theorem dX6_takeNew_64 : decode cX6_takeNew 64 = .ok (.iconst 1, 1) := by decide +kernel
theorem dX6_takeNew_65 : decode cX6_takeNew 65 = .ok (.isub, 1) := by decide +kernel
theorem dX6_takeNew_66 : decode cX6_takeNew 66 = .ok (.putfield 22, 3) := by decide +kernel
theorem dX6_takeNew_69 : decode cX6_takeNew 69 = .ok (.aload_n 0, 1) := by decide +kernel
theorem dX6_takeNew_70 : decode cX6_takeNew 70 = .ok (.getfield 18, 3) := by decide +kernel
theorem dX6_takeNew_73 : decode cX6_takeNew 73 = .ok (.bipush 11, 2) := by decide +kernel
theorem dX6_takeNew_75 : decode cX6_takeNew 75 = .ok (.iconst 0, 1) := by decide +kernel
theorem dX6_takeNew_76 : decode cX6_takeNew 76 = .ok (.iload_n 1, 1) := by decide +kernel
theorem dX6_takeNew_77 : decode cX6_takeNew 77 = .ok (.invokevirtual 166, 3) := by decide +kernel
theorem dX6_takeNew_80 : decode cX6_takeNew 80 = .ok (.pop, 1) := by decide +kernel
theorem dX6_takeNew_81 : decode cX6_takeNew 81 = .ok (.return_, 1) := by decide +kernel
theorem dX6_takeOwnKind_0 : decode cX6_takeOwnKind 0 = .ok (.aload_n 0, 1) := by decide +kernel
theorem dX6_takeOwnKind_1 : decode cX6_takeOwnKind 1 = .ok (.getfield 18, 3) := by decide +kernel
theorem dX6_takeOwnKind_4 : decode cX6_takeOwnKind 4 = .ok (.getfield 150, 3) := by decide +kernel
theorem dX6_takeOwnKind_7 : decode cX6_takeOwnKind 7 = .ok (.iload_n 1, 1) := by decide +kernel
theorem dX6_takeOwnKind_8 : decode cX6_takeOwnKind 8 = .ok (.aload_n 0, 1) := by decide +kernel
theorem dX6_takeOwnKind_9 : decode cX6_takeOwnKind 9 = .ok (.invokevirtual 153, 3) := by decide +kernel
theorem dX6_takeOwnKind_12 : decode cX6_takeOwnKind 12 = .ok (.ifCond .eq 10, 3) := by decide +kernel
theorem dX6_takeOwnKind_15 : decode cX6_takeOwnKind 15 = .ok (.aload_n 0, 1) := by decide +kernel
theorem dX6_takeOwnKind_16 : decode cX6_takeOwnKind 16 = .ok (.invokevirtual 157, 3) := by decide +kernel
theorem dX6_takeOwnKind_19 : decode cX6_takeOwnKind 19 = .ok (.goto 4, 3) := by decide +kernel
theorem dX6_takeOwnKind_22 : decode cX6_takeOwnKind 22 = .ok (.iconst 2, 1) := by decide +kernel
theorem dX6_takeOwnKind_23 : decode cX6_takeOwnKind 23 = .ok (.iastore, 1) := by decide +kernel
theorem dX6_takeOwnKind_24 : decode cX6_takeOwnKind 24 = .ok (.aload_n 0, 1) := by decide +kernel
theorem dX6_takeOwnKind_25 : decode cX6_takeOwnKind 25 = .ok (.bipush 61, 2) := by decide +kernel
theorem dX6_takeOwnKind_27 : decode cX6_takeOwnKind 27 = .ok (.invokevirtual 147, 3) := by decide +kernel
theorem dX6_takeOwnKind_30 : decode cX6_takeOwnKind 30 = .ok (.aload_n 0, 1) := by decide +kernel
theorem dX6_takeOwnKind_31 : decode cX6_takeOwnKind 31 = .ok (.getfield 18, 3) := by decide +kernel
theorem dX6_takeOwnKind_34 : decode cX6_takeOwnKind 34 = .ok (.getfield 96, 3) := by decide +kernel
theorem dX6_takeOwnKind_37 : decode cX6_takeOwnKind 37 = .ok (.iload_n 1, 1) := by decide +kernel
theorem dX6_takeOwnKind_38 : decode cX6_takeOwnKind 38 = .ok (.aload_n 0, 1) := by decide +kernel
theorem dX6_takeOwnKind_39 : decode cX6_takeOwnKind 39 = .ok (.getfield 18, 3) := by decide +kernel
theorem dX6_takeOwnKind_42 : decode cX6_takeOwnKind 42 = .ok (.getfield 102, 3) := by decide +kernel
theorem dX6_takeOwnKind_45 : decode cX6_takeOwnKind 45 = .ok (.iastore, 1) := by decide +kernel
theorem dX6_takeOwnKind_46 : decode cX6_takeOwnKind 46 = .ok (.return_, 1) := by decide +kernel
theorem dX6_takeParams_0 : decode cX6_takeParams 0 = .ok (.aload_n 0, 1) := by decide +kernel
theorem dX6_takeParams_1 : decode cX6_takeParams 1 = .ok (.iconst 0, 1) := by decide +kernel
theorem dX6_takeParams_2 : decode cX6_takeParams 2 = .ok (.putfield 40, 3) := by decide +kernel
theorem dX6_takeParams_5 : decode cX6_takeParams 5 = .ok (.aload_n 0, 1) := by decide +kernel
theorem dX6_takeParams_6 : decode cX6_takeParams 6 = .ok (.bipush 40, 2) := by decide +kernel
theorem dX6_takeParams_8 : decode cX6_takeParams 8 = .ok (.invokevirtual 170, 3) := by decide +kernel
theorem dX6_takeParams_11 : decode cX6_takeParams 11 = .ok (.iconst 0, 1) := by decide +kernel
theorem dX6_takeParams_12 : decode cX6_takeParams 12 = .ok (.istore_n 2, 1) := by decide +kernel
theorem dX6_takeParams_13 : decode cX6_takeParams 13 = .ok (.iload_n 2, 1) := by decide +kernel
theorem dX6_takeParams_14 : decode cX6_takeParams 14 = .ok (.iconst 4, 1) := by decide +kernel
theorem dX6_takeParams_15 : decode cX6_takeParams 15 = .ok (.if_icmp .gt 158, 3) := by decide +kernel
theorem dX6_takeParams_18 : decode cX6_takeParams 18 = .ok (.iload_n 2, 1) := by decide +kernel
theorem dX6_takeParams_19 : decode cX6_takeParams 19 = .ok (.ifCond .gt 15, 3) := by decide +kernel
theorem dX6_takeParams_22 : decode cX6_takeParams 22 = .ok (.aload_n 0, 1) := by decide +kernel
theorem dX6_takeParams_23 : decode cX6_takeParams 23 = .ok (.getfield 14, 3) := by decide +kernel
theorem dX6_takeParams_26 : decode cX6_takeParams 26 = .ok (.getfield 70, 3) := by decide +kernel
theorem dX6_takeParams_29 : decode cX6_takeParams 29 = .ok (.bipush 41, 2) := by decide +kernel
theorem dX6_takeParams_31 : decode cX6_takeParams 31 = .ok (.if_icmp .eq 142, 3) := by decide +kernel
theorem dX6_takeParams_34 : decode cX6_takeParams 34 = .ok (.aload_n 0, 1) := by decide +kernel
theorem dX6_takeParams_35 : decode cX6_takeParams 35 = .ok (.getfield 14, 3) := by decide +kernel
theorem dX6_takeParams_38 : decode cX6_takeParams 38 = .ok (.getfield 138, 3) := by decide +kernel
theorem dX6_takeParams_41 : decode cX6_takeParams 41 = .ok (.lstore_n 3, 1) := by decide +kernel
theorem dX6_takeParams_42 : decode cX6_takeParams 42 = .ok (.aload_n 0, 1) := by decide +kernel
theorem dX6_takeParams_43 : decode cX6_takeParams 43 = .ok (.getfield 14, 3) := by decide +kernel
theorem dX6_takeParams_46 : decode cX6_takeParams 46 = .ok (.getfield 70, 3) := by decide +kernel
theorem dX6_takeParams_49 : decode cX6_takeParams 49 = .ok (.sipush 258, 3) := by decide +kernel
theorem dX6_takeParams_52 : decode cX6_takeParams 52 = .ok (.if_icmp .ne 20, 3) := by decide +kernel
theorem dX6_takeParams_55 : decode cX6_takeParams 55 = .ok (.aload_n 0, 1) := by decide +kernel
theorem dX6_takeParams_56 : decode cX6_takeParams 56 = .ok (.lload_n 3, 1) := by decide +kernel
theorem dX6_takeParams_57 : decode cX6_takeParams 57 = .ok (.invokevirtual 173, 3) := by decide +kernel
theorem dX6_takeParams_60 : decode cX6_takeParams 60 = .ok (.iconst (-1), 1) := by decide +kernel
theorem dX6_takeParams_61 : decode cX6_takeParams 61 = .ok (.if_icmp .eq 11, 3) := by decide +kernel
theorem dX6_takeParams_64 : decode cX6_takeParams 64 = .ok (.aload_n 0, 1) := by decide +kernel
theorem dX6_takeParams_65 : decode cX6_takeParams 65 = .ok (.iconst 2, 1) := by decide +kernel
theorem dX6_takeParams_66 : decode cX6_takeParams 66 = .ok (.invokevirtual 75, 3) := by decide +kernel
theorem dX6_takeParams_69 : decode cX6_takeParams 69 = .ok (.goto 26, 3) := by decide +kernel
theorem dX6_takeParams_72 : decode cX6_takeParams 72 = .ok (.aload_n 0, 1) := by decide +kernel
theorem dX6_takeParams_73 : decode cX6_takeParams 73 = .ok (.getfield 14, 3) := by decide +kernel
theorem dX6_takeParams_76 : decode cX6_takeParams 76 = .ok (.getfield 70, 3) := by decide +kernel
theorem dX6_takeParams_79 : decode cX6_takeParams 79 = .ok (.sipush 258, 3) := by decide +kernel
theorem dX6_takeParams_82 : decode cX6_takeParams 82 = .ok (.if_icmp .ne 13, 3) := by decide +kernel
theorem dX6_takeParams_85 : decode cX6_takeParams 85 = .ok (.iload_n 2, 1) := by decide +kernel
theorem dX6_takeParams_86 : decode cX6_takeParams 86 = .ok (.iconst 4, 1) := by decide +kernel
theorem dX6_takeParams_87 : decode cX6_takeParams 87 = .ok (.if_icmp .lt 8, 3) := by decide +kernel
theorem dX6_takeParams_90 : decode cX6_takeParams 90 = .ok (.aload_n 0, 1) := by decide +kernel
theorem dX6_takeParams_91 : decode cX6_takeParams 91 = .ok (.iconst 3, 1) := by decide +kernel
theorem dX6_takeParams_92 : decode cX6_takeParams 92 = .ok (.invokevirtual 75, 3) := by decide +kernel
theorem dX6_takeParams_95 : decode cX6_takeParams 95 = .ok (.aload_n 0, 1) := by decide +kernel
theorem dX6_takeParams_96 : decode cX6_takeParams 96 = .ok (.sipush 258, 3) := by decide +kernel
theorem dX6_takeParams_99 : decode cX6_takeParams 99 = .ok (.invokevirtual 147, 3) := by decide +kernel
theorem dX6_takeParams_102 : decode cX6_takeParams 102 = .ok (.aload_n 0, 1) := by decide +kernel
theorem dX6_takeParams_103 : decode cX6_takeParams 103 = .ok (.getfield 26, 3) := by decide +kernel
theorem dX6_takeParams_106 : decode cX6_takeParams 106 = .ok (.ifCond .eq 6, 3) := by decide +kernel
theorem dX6_takeParams_109 : decode cX6_takeParams 109 = .ok (.goto 64, 3) := by decide +kernel
theorem dX6_takeParams_112 : decode cX6_takeParams 112 = .ok (.aload_n 0, 1) := by decide +kernel
theorem dX6_takeParams_113 : decode cX6_takeParams 113 = .ok (.lload_n 3, 1) := by decide +kernel
theorem dX6_takeParams_114 : decode cX6_takeParams 114 = .ok (.invokevirtual 177, 3) := by decide +kernel
theorem dX6_takeParams_117 : decode cX6_takeParams 117 = .ok (.aload_n 0, 1) := by decide +kernel
theorem dX6_takeParams_118 : decode cX6_takeParams 118 = .ok (.getfield 18, 3) := by decide +kernel
theorem dX6_takeParams_121 : decode cX6_takeParams 121 = .ok (.getfield 181, 3) := by decide +kernel
theorem dX6_takeParams_124 : decode cX6_takeParams 124 = .ok (.iload_n 1, 1) := by decide +kernel
theorem dX6_takeParams_125 : decode cX6_takeParams 125 = .ok (.iconst 4, 1) := by decide +kernel
theorem dX6_takeParams_126 : decode cX6_takeParams 126 = .ok (.imul, 1) := by decide +kernel
theorem dX6_takeParams_127 : decode cX6_takeParams 127 = .ok (.iload_n 2, 1) := by decide +kernel
theorem dX6_takeParams_128 : decode cX6_takeParams 128 = .ok (.iadd, 1) := by decide +kernel
theorem dX6_takeParams_129 : decode cX6_takeParams 129 = .ok (.aload_n 0, 1) := by decide +kernel
theorem dX6_takeParams_130 : decode cX6_takeParams 130 = .ok (.invokevirtual 153, 3) := by decide +kernel
theorem dX6_takeParams_133 : decode cX6_takeParams 133 = .ok (.ifCond .eq 10, 3) := by decide +kernel
theorem dX6_takeParams_136 : decode cX6_takeParams 136 = .ok (.aload_n 0, 1) := by decide +kernel
theorem dX6_takeParams_137 : decode cX6_takeParams 137 = .ok (.invokevirtual 157, 3) := by decide +kernel
theorem dX6_takeParams_140 : decode cX6_takeParams 140 = .ok (.goto 4, 3) := by decide +kernel
theorem dX6_takeParams_143 : decode cX6_takeParams 143 = .ok (.iconst 2, 1) := by decide +kernel
theorem dX6_takeParams_144 : decode cX6_takeParams 144 = .ok (.iastore, 1) := by decide +kernel
theorem dX6_takeParams_145 : decode cX6_takeParams 145 = .ok (.aload_n 0, 1) := by decide +kernel
theorem dX6_takeParams_146 : decode cX6_takeParams 146 = .ok (.getfield 14, 3) := by decide +kernel
theorem dX6_takeParams_149 : decode cX6_takeParams 149 = .ok (.getfield 70, 3) := by decide +kernel
theorem dX6_takeParams_152 : decode cX6_takeParams 152 = .ok (.bipush 44, 2) := by decide +kernel
theorem dX6_takeParams_154 : decode cX6_takeParams 154 = .ok (.if_icmp .eq 6, 3) := by decide +kernel
theorem dX6_takeParams_157 : decode cX6_takeParams 157 = .ok (.goto 16, 3) := by decide +kernel
theorem dX6_takeParams_160 : decode cX6_takeParams 160 = .ok (.aload_n 0, 1) := by decide +kernel
theorem dX6_takeParams_161 : decode cX6_takeParams 161 = .ok (.getfield 14, 3) := by decide +kernel
theorem dX6_takeParams_164 : decode cX6_takeParams 164 = .ok (.invokevirtual 129, 3) := by decide +kernel
theorem dX6_takeParams_167 : decode cX6_takeParams 167 = .ok (.iinc 2 1, 3) := by decide +kernel
theorem dX6_takeParams_170 : decode cX6_takeParams 170 = .ok (.goto (-157), 3) := by decide +kernel
theorem dX6_takeParams_173 : decode cX6_takeParams 173 = .ok (.aload_n 0, 1) := by decide +kernel
theorem dX6_takeParams_174 : decode cX6_takeParams 174 = .ok (.getfield 18, 3) := by decide +kernel
theorem dX6_takeParams_177 : decode cX6_takeParams 177 = .ok (.getfield 184, 3) := by decide +kernel
theorem dX6_takeParams_180 : decode cX6_takeParams 180 = .ok (.iload_n 1, 1) := by decide +kernel
theorem dX6_takeParams_181 : decode cX6_takeParams 181 = .ok (.aload_n 0, 1) := by decide +kernel
theorem dX6_takeParams_182 : decode cX6_takeParams 182 = .ok (.getfield 40, 3) := by decide +kernel
theorem dX6_takeParams_185 : decode cX6_takeParams 185 = .ok (.iastore, 1) := by decide +kernel
theorem dX6_takeParams_186 : decode cX6_takeParams 186 = .ok (.aload_n 0, 1) := by decide +kernel
theorem dX6_takeParams_187 : decode cX6_takeParams 187 = .ok (.bipush 41, 2) := by decide +kernel
theorem dX6_takeParams_189 : decode cX6_takeParams 189 = .ok (.invokevirtual 147, 3) := by decide +kernel
theorem dX6_takeParams_192 : decode cX6_takeParams 192 = .ok (.aload_n 0, 1) := by decide +kernel
theorem dX6_takeParams_193 : decode cX6_takeParams 193 = .ok (.dup, 1) := by decide +kernel
theorem dX6_takeParams_194 : decode cX6_takeParams 194 = .ok (.getfield 22, 3) := by decide +kernel
theorem dX6_takeParams_197 : decode cX6_takeParams 197 = .ok (.iconst 1, 1) := by decide +kernel
theorem dX6_takeParams_198 : decode cX6_takeParams 198 = .ok (.isub, 1) := by decide +kernel
theorem dX6_takeParams_199 : decode cX6_takeParams 199 = .ok (.putfield 22, 3) := by decide +kernel
theorem dX6_takeParams_202 : decode cX6_takeParams 202 = .ok (.return_, 1) := by decide +kernel
theorem dX6_takePlace_0 : decode cX6_takePlace 0 = .ok (.aload_n 0, 1) := by decide +kernel
theorem dX6_takePlace_1 : decode cX6_takePlace 1 = .ok (.getfield 14, 3) := by decide +kernel
theorem dX6_takePlace_4 : decode cX6_takePlace 4 = .ok (.getfield 120, 3) := by decide +kernel
theorem dX6_takePlace_7 : decode cX6_takePlace 7 = .ok (.istore_n 1, 1) := by decide +kernel
theorem dX6_takePlace_8 : decode cX6_takePlace 8 = .ok (.aload_n 0, 1) := by decide +kernel
theorem dX6_takePlace_9 : decode cX6_takePlace 9 = .ok (.getfield 18, 3) := by decide +kernel
theorem dX6_takePlace_12 : decode cX6_takePlace 12 = .ok (.bipush 29, 2) := by decide +kernel
theorem dX6_takePlace_14 : decode cX6_takePlace 14 = .ok (.iconst 0, 1) := by decide +kernel
theorem dX6_takePlace_15 : decode cX6_takePlace 15 = .ok (.iload_n 1, 1) := by decide +kernel
theorem dX6_takePlace_16 : decode cX6_takePlace 16 = .ok (.invokevirtual 166, 3) := by decide +kernel
theorem dX6_takePlace_19 : decode cX6_takePlace 19 = .ok (.pop, 1) := by decide +kernel
theorem dX6_takePlace_20 : decode cX6_takePlace 20 = .ok (.aload_n 0, 1) := by decide +kernel
theorem dX6_takePlace_21 : decode cX6_takePlace 21 = .ok (.bipush 91, 2) := by decide +kernel
theorem dX6_takePlace_23 : decode cX6_takePlace 23 = .ok (.invokevirtual 170, 3) := by decide +kernel
theorem dX6_takePlace_26 : decode cX6_takePlace 26 = .ok (.aload_n 0, 1) := by decide +kernel
theorem dX6_takePlace_27 : decode cX6_takePlace 27 = .ok (.invokevirtual 88, 3) := by decide +kernel
theorem dX6_takePlace_30 : decode cX6_takePlace 30 = .ok (.istore_n 2, 1) := by decide +kernel
theorem dX6_takePlace_31 : decode cX6_takePlace 31 = .ok (.aload_n 0, 1) := by decide +kernel
theorem dX6_takePlace_32 : decode cX6_takePlace 32 = .ok (.getfield 18, 3) := by decide +kernel
theorem dX6_takePlace_35 : decode cX6_takePlace 35 = .ok (.bipush 27, 2) := by decide +kernel
theorem dX6_takePlace_37 : decode cX6_takePlace 37 = .ok (.iconst 0, 1) := by decide +kernel
theorem dX6_takePlace_38 : decode cX6_takePlace 38 = .ok (.aload_n 0, 1) := by decide +kernel
theorem dX6_takePlace_39 : decode cX6_takePlace 39 = .ok (.iload_n 2, 1) := by decide +kernel
theorem dX6_takePlace_40 : decode cX6_takePlace 40 = .ok (.invokevirtual 162, 3) := by decide +kernel
theorem dX6_takePlace_43 : decode cX6_takePlace 43 = .ok (.invokevirtual 166, 3) := by decide +kernel
theorem dX6_takePlace_46 : decode cX6_takePlace 46 = .ok (.pop, 1) := by decide +kernel
theorem dX6_takePlace_47 : decode cX6_takePlace 47 = .ok (.aload_n 0, 1) := by decide +kernel
theorem dX6_takePlace_48 : decode cX6_takePlace 48 = .ok (.bipush 93, 2) := by decide +kernel
theorem dX6_takePlace_50 : decode cX6_takePlace 50 = .ok (.invokevirtual 147, 3) := by decide +kernel
theorem dX6_takePlace_53 : decode cX6_takePlace 53 = .ok (.aload_n 0, 1) := by decide +kernel
theorem dX6_takePlace_54 : decode cX6_takePlace 54 = .ok (.dup, 1) := by decide +kernel
theorem dX6_takePlace_55 : decode cX6_takePlace 55 = .ok (.getfield 22, 3) := by decide +kernel
theorem dX6_takePlace_58 : decode cX6_takePlace 58 = .ok (.iconst 1, 1) := by decide +kernel
theorem dX6_takePlace_59 : decode cX6_takePlace 59 = .ok (.isub, 1) := by decide +kernel
theorem dX6_takePlace_60 : decode cX6_takePlace 60 = .ok (.putfield 22, 3) := by decide +kernel
theorem dX6_takePlace_63 : decode cX6_takePlace 63 = .ok (.aload_n 0, 1) := by decide +kernel
theorem dX6_takePlace_64 : decode cX6_takePlace 64 = .ok (.getfield 14, 3) := by decide +kernel
theorem dX6_takePlace_67 : decode cX6_takePlace 67 = .ok (.getfield 70, 3) := by decide +kernel
theorem dX6_takePlace_70 : decode cX6_takePlace 70 = .ok (.sipush 256, 3) := by decide +kernel
theorem dX6_takePlace_73 : decode cX6_takePlace 73 = .ok (.if_icmp .eq 17, 3) := by decide +kernel
theorem dX6_takePlace_76 : decode cX6_takePlace 76 = .ok (.aload_n 0, 1) := by decide +kernel
theorem dX6_takePlace_77 : decode cX6_takePlace 77 = .ok (.getfield 18, 3) := by decide +kernel
theorem dX6_takePlace_80 : decode cX6_takePlace 80 = .ok (.bipush 14, 2) := by decide +kernel
theorem dX6_takePlace_82 : decode cX6_takePlace 82 = .ok (.iconst 0, 1) := by decide +kernel
theorem dX6_takePlace_83 : decode cX6_takePlace 83 = .ok (.iload_n 1, 1) := by decide +kernel
theorem dX6_takePlace_84 : decode cX6_takePlace 84 = .ok (.invokevirtual 166, 3) := by decide +kernel
theorem dX6_takePlace_87 : decode cX6_takePlace 87 = .ok (.pop, 1) := by decide +kernel
theorem dX6_takePlace_88 : decode cX6_takePlace 88 = .ok (.iconst 0, 1) := by decide +kernel
theorem dX6_takePlace_89 : decode cX6_takePlace 89 = .ok (.ireturn, 1) := by decide +kernel
theorem dX6_takePlace_90 : decode cX6_takePlace 90 = .ok (.aload_n 0, 1) := by decide +kernel
theorem dX6_takePlace_91 : decode cX6_takePlace 91 = .ok (.sipush 256, 3) := by decide +kernel
theorem dX6_takePlace_94 : decode cX6_takePlace 94 = .ok (.invokevirtual 170, 3) := by decide +kernel
theorem dX6_takePlace_97 : decode cX6_takePlace 97 = .ok (.aload_n 0, 1) := by decide +kernel
theorem dX6_takePlace_98 : decode cX6_takePlace 98 = .ok (.invokevirtual 88, 3) := by decide +kernel
theorem dX6_takePlace_101 : decode cX6_takePlace 101 = .ok (.istore_n 3, 1) := by decide +kernel
theorem dX6_takePlace_102 : decode cX6_takePlace 102 = .ok (.aload_n 0, 1) := by decide +kernel
theorem dX6_takePlace_103 : decode cX6_takePlace 103 = .ok (.getfield 18, 3) := by decide +kernel
theorem dX6_takePlace_106 : decode cX6_takePlace 106 = .ok (.bipush 33, 2) := by decide +kernel
theorem dX6_takePlace_108 : decode cX6_takePlace 108 = .ok (.iconst 0, 1) := by decide +kernel
theorem dX6_takePlace_109 : decode cX6_takePlace 109 = .ok (.aload_n 0, 1) := by decide +kernel
theorem dX6_takePlace_110 : decode cX6_takePlace 110 = .ok (.iload_n 3, 1) := by decide +kernel
theorem dX6_takePlace_111 : decode cX6_takePlace 111 = .ok (.invokevirtual 162, 3) := by decide +kernel
theorem dX6_takePlace_114 : decode cX6_takePlace 114 = .ok (.invokevirtual 166, 3) := by decide +kernel
theorem dX6_takePlace_117 : decode cX6_takePlace 117 = .ok (.pop, 1) := by decide +kernel
theorem dX6_takePlace_118 : decode cX6_takePlace 118 = .ok (.aload_n 0, 1) := by decide +kernel
theorem dX6_takePlace_119 : decode cX6_takePlace 119 = .ok (.getfield 18, 3) := by decide +kernel
theorem dX6_takePlace_122 : decode cX6_takePlace 122 = .ok (.bipush 15, 2) := by decide +kernel
theorem dX6_takePlace_124 : decode cX6_takePlace 124 = .ok (.iconst 0, 1) := by decide +kernel
theorem dX6_takePlace_125 : decode cX6_takePlace 125 = .ok (.iload_n 1, 1) := by decide +kernel
theorem dX6_takePlace_126 : decode cX6_takePlace 126 = .ok (.invokevirtual 166, 3) := by decide +kernel
theorem dX6_takePlace_129 : decode cX6_takePlace 129 = .ok (.pop, 1) := by decide +kernel
theorem dX6_takePlace_130 : decode cX6_takePlace 130 = .ok (.aload_n 0, 1) := by decide +kernel
theorem dX6_takePlace_131 : decode cX6_takePlace 131 = .ok (.dup, 1) := by decide +kernel
theorem dX6_takePlace_132 : decode cX6_takePlace 132 = .ok (.getfield 22, 3) := by decide +kernel
theorem dX6_takePlace_135 : decode cX6_takePlace 135 = .ok (.iconst 1, 1) := by decide +kernel
theorem dX6_takePlace_136 : decode cX6_takePlace 136 = .ok (.isub, 1) := by decide +kernel
theorem dX6_takePlace_137 : decode cX6_takePlace 137 = .ok (.putfield 22, 3) := by decide +kernel
theorem dX6_takePlace_140 : decode cX6_takePlace 140 = .ok (.iconst 1, 1) := by decide +kernel
theorem dX6_takePlace_141 : decode cX6_takePlace 141 = .ok (.ireturn, 1) := by decide +kernel
theorem dX6_takePrefix_0 : decode cX6_takePrefix 0 = .ok (.aload_n 0, 1) := by decide +kernel
theorem dX6_takePrefix_1 : decode cX6_takePrefix 1 = .ok (.invokevirtual 217, 3) := by decide +kernel
theorem dX6_takePrefix_4 : decode cX6_takePrefix 4 = .ok (.istore_n 3, 1) := by decide +kernel
theorem dX6_takePrefix_5 : decode cX6_takePrefix 5 = .ok (.aload_n 0, 1) := by decide +kernel
theorem dX6_takePrefix_6 : decode cX6_takePrefix 6 = .ok (.aload_n 0, 1) := by decide +kernel
theorem dX6_takePrefix_7 : decode cX6_takePrefix 7 = .ok (.getfield 14, 3) := by decide +kernel
theorem dX6_takePrefix_10 : decode cX6_takePrefix 10 = .ok (.getfield 70, 3) := by decide +kernel
theorem dX6_takePrefix_13 : decode cX6_takePrefix 13 = .ok (.invokevirtual 170, 3) := by decide +kernel
theorem dX6_takePrefix_16 : decode cX6_takePrefix 16 = .ok (.aload_n 0, 1) := by decide +kernel
theorem dX6_takePrefix_17 : decode cX6_takePrefix 17 = .ok (.invokevirtual 220, 3) := by decide +kernel
theorem dX6_takePrefix_20 : decode cX6_takePrefix 20 = .ok (.istore 4, 2) := by decide +kernel
theorem dX6_takePrefix_22 : decode cX6_takePrefix 22 = .ok (.aload_n 0, 1) := by decide +kernel
theorem dX6_takePrefix_23 : decode cX6_takePrefix 23 = .ok (.getfield 18, 3) := by decide +kernel
theorem dX6_takePrefix_26 : decode cX6_takePrefix 26 = .ok (.iload_n 1, 1) := by decide +kernel
theorem dX6_takePrefix_27 : decode cX6_takePrefix 27 = .ok (.iconst 0, 1) := by decide +kernel
theorem dX6_takePrefix_28 : decode cX6_takePrefix 28 = .ok (.aload_n 0, 1) := by decide +kernel
theorem dX6_takePrefix_29 : decode cX6_takePrefix 29 = .ok (.iload 4, 2) := by decide +kernel
theorem dX6_takePrefix_31 : decode cX6_takePrefix 31 = .ok (.invokevirtual 162, 3) := by decide +kernel
theorem dX6_takePrefix_34 : decode cX6_takePrefix 34 = .ok (.invokevirtual 166, 3) := by decide +kernel
theorem dX6_takePrefix_37 : decode cX6_takePrefix 37 = .ok (.pop, 1) := by decide +kernel
theorem dX6_takePrefix_38 : decode cX6_takePrefix 38 = .ok (.aload_n 0, 1) := by decide +kernel
theorem dX6_takePrefix_39 : decode cX6_takePrefix 39 = .ok (.getfield 18, 3) := by decide +kernel
theorem dX6_takePrefix_42 : decode cX6_takePrefix 42 = .ok (.iload_n 2, 1) := by decide +kernel
theorem dX6_takePrefix_43 : decode cX6_takePrefix 43 = .ok (.iconst 0, 1) := by decide +kernel
theorem dX6_takePrefix_44 : decode cX6_takePrefix 44 = .ok (.aload_n 0, 1) := by decide +kernel
theorem dX6_takePrefix_45 : decode cX6_takePrefix 45 = .ok (.iload_n 3, 1) := by decide +kernel
theorem dX6_takePrefix_46 : decode cX6_takePrefix 46 = .ok (.invokevirtual 162, 3) := by decide +kernel
theorem dX6_takePrefix_49 : decode cX6_takePrefix 49 = .ok (.invokevirtual 166, 3) := by decide +kernel
theorem dX6_takePrefix_52 : decode cX6_takePrefix 52 = .ok (.pop, 1) := by decide +kernel
theorem dX6_takePrefix_53 : decode cX6_takePrefix 53 = .ok (.aload_n 0, 1) := by decide +kernel
theorem dX6_takePrefix_54 : decode cX6_takePrefix 54 = .ok (.dup, 1) := by decide +kernel
theorem dX6_takePrefix_55 : decode cX6_takePrefix 55 = .ok (.getfield 22, 3) := by decide +kernel
theorem dX6_takePrefix_58 : decode cX6_takePrefix 58 = .ok (.iconst 1, 1) := by decide +kernel
theorem dX6_takePrefix_59 : decode cX6_takePrefix 59 = .ok (.isub, 1) := by decide +kernel
theorem dX6_takePrefix_60 : decode cX6_takePrefix 60 = .ok (.putfield 22, 3) := by decide +kernel
theorem dX6_takePrefix_63 : decode cX6_takePrefix 63 = .ok (.iload_n 3, 1) := by decide +kernel
theorem dX6_takePrefix_64 : decode cX6_takePrefix 64 = .ok (.ireturn, 1) := by decide +kernel
theorem dX6_takeU_0 : decode cX6_takeU 0 = .ok (.aload_n 0, 1) := by decide +kernel
theorem dX6_takeU_1 : decode cX6_takeU 1 = .ok (.getfield 14, 3) := by decide +kernel
theorem dX6_takeU_4 : decode cX6_takeU 4 = .ok (.getfield 70, 3) := by decide +kernel
theorem dX6_takeU_7 : decode cX6_takeU 7 = .ok (.bipush 45, 2) := by decide +kernel
theorem dX6_takeU_9 : decode cX6_takeU 9 = .ok (.if_icmp .ne 12, 3) := by decide +kernel
theorem dX6_takeU_12 : decode cX6_takeU 12 = .ok (.aload_n 0, 1) := by decide +kernel
theorem dX6_takeU_13 : decode cX6_takeU 13 = .ok (.bipush 27, 2) := by decide +kernel
theorem dX6_takeU_15 : decode cX6_takeU 15 = .ok (.bipush 18, 2) := by decide +kernel
theorem dX6_takeU_17 : decode cX6_takeU 17 = .ok (.invokevirtual 238, 3) := by decide +kernel
theorem dX6_takeU_20 : decode cX6_takeU 20 = .ok (.ireturn, 1) := by decide +kernel
theorem dX6_takeU_21 : decode cX6_takeU 21 = .ok (.aload_n 0, 1) := by decide +kernel
theorem dX6_takeU_22 : decode cX6_takeU 22 = .ok (.getfield 14, 3) := by decide +kernel
theorem dX6_takeU_25 : decode cX6_takeU 25 = .ok (.getfield 70, 3) := by decide +kernel
theorem dX6_takeU_28 : decode cX6_takeU 28 = .ok (.bipush 33, 2) := by decide +kernel
theorem dX6_takeU_30 : decode cX6_takeU 30 = .ok (.if_icmp .ne 12, 3) := by decide +kernel
theorem dX6_takeU_33 : decode cX6_takeU 33 = .ok (.aload_n 0, 1) := by decide +kernel
theorem dX6_takeU_34 : decode cX6_takeU 34 = .ok (.bipush 28, 2) := by decide +kernel
theorem dX6_takeU_36 : decode cX6_takeU 36 = .ok (.bipush 19, 2) := by decide +kernel
theorem dX6_takeU_38 : decode cX6_takeU 38 = .ok (.invokevirtual 238, 3) := by decide +kernel
theorem dX6_takeU_41 : decode cX6_takeU 41 = .ok (.ireturn, 1) := by decide +kernel
theorem dX6_takeU_42 : decode cX6_takeU 42 = .ok (.aload_n 0, 1) := by decide +kernel
theorem dX6_takeU_43 : decode cX6_takeU 43 = .ok (.getfield 14, 3) := by decide +kernel
theorem dX6_takeU_46 : decode cX6_takeU 46 = .ok (.getfield 70, 3) := by decide +kernel
theorem dX6_takeU_49 : decode cX6_takeU 49 = .ok (.sipush 258, 3) := by decide +kernel
theorem dX6_takeU_52 : decode cX6_takeU 52 = .ok (.if_icmp .ne 22, 3) := by decide +kernel
theorem dX6_takeU_55 : decode cX6_takeU 55 = .ok (.aload_n 0, 1) := by decide +kernel
theorem dX6_takeU_56 : decode cX6_takeU 56 = .ok (.aload_n 0, 1) := by decide +kernel
theorem dX6_takeU_57 : decode cX6_takeU 57 = .ok (.getfield 14, 3) := by decide +kernel
theorem dX6_takeU_60 : decode cX6_takeU 60 = .ok (.getfield 138, 3) := by decide +kernel
theorem dX6_takeU_63 : decode cX6_takeU 63 = .ok (.invokevirtual 173, 3) := by decide +kernel
theorem dX6_takeU_66 : decode cX6_takeU 66 = .ok (.iconst (-1), 1) := by decide +kernel
theorem dX6_takeU_67 : decode cX6_takeU 67 = .ok (.if_icmp .ne 7, 3) := by decide +kernel
theorem dX6_takeU_70 : decode cX6_takeU 70 = .ok (.iconst 1, 1) := by decide +kernel
theorem dX6_takeU_71 : decode cX6_takeU 71 = .ok (.goto 4, 3) := by decide +kernel
theorem dX6_takeU_74 : decode cX6_takeU 74 = .ok (.iconst 0, 1) := by decide +kernel
theorem dX6_takeU_75 : decode cX6_takeU 75 = .ok (.istore_n 1, 1) := by decide +kernel
theorem dX6_takeU_76 : decode cX6_takeU 76 = .ok (.iconst 0, 1) := by decide +kernel
theorem dX6_takeU_77 : decode cX6_takeU 77 = .ok (.istore_n 2, 1) := by decide +kernel
theorem dX6_takeU_78 : decode cX6_takeU 78 = .ok (.aload_n 0, 1) := by decide +kernel
theorem dX6_takeU_79 : decode cX6_takeU 79 = .ok (.invokevirtual 242, 3) := by decide +kernel
theorem dX6_takeU_82 : decode cX6_takeU 82 = .ok (.istore_n 3, 1) := by decide +kernel
theorem dX6_takeU_83 : decode cX6_takeU 83 = .ok (.iconst 0, 1) := by decide +kernel
theorem dX6_takeU_84 : decode cX6_takeU 84 = .ok (.istore 4, 2) := by decide +kernel
theorem dX6_takeU_86 : decode cX6_takeU 86 = .ok (.iload 4, 2) := by decide +kernel
theorem dX6_takeU_88 : decode cX6_takeU 88 = .ok (.bipush 40, 2) := by decide +kernel
theorem dX6_takeU_90 : decode cX6_takeU 90 = .ok (.if_icmp .gt 97, 3) := by decide +kernel
theorem dX6_takeU_93 : decode cX6_takeU 93 = .ok (.iload_n 2, 1) := by decide +kernel
theorem dX6_takeU_94 : decode cX6_takeU 94 = .ok (.ifCond .ne 93, 3) := by decide +kernel
theorem dX6_takeU_97 : decode cX6_takeU 97 = .ok (.aload_n 0, 1) := by decide +kernel
theorem dX6_takeU_98 : decode cX6_takeU 98 = .ok (.getfield 14, 3) := by decide +kernel
theorem dX6_takeU_101 : decode cX6_takeU 101 = .ok (.getfield 70, 3) := by decide +kernel
theorem dX6_takeU_104 : decode cX6_takeU 104 = .ok (.bipush 40, 2) := by decide +kernel
theorem dX6_takeU_106 : decode cX6_takeU 106 = .ok (.if_icmp .eq 15, 3) := by decide +kernel
theorem dX6_takeU_109 : decode cX6_takeU 109 = .ok (.aload_n 0, 1) := by decide +kernel
theorem dX6_takeU_110 : decode cX6_takeU 110 = .ok (.getfield 14, 3) := by decide +kernel
theorem dX6_takeU_113 : decode cX6_takeU 113 = .ok (.getfield 70, 3) := by decide +kernel
theorem dX6_takeU_116 : decode cX6_takeU 116 = .ok (.bipush 91, 2) := by decide +kernel
theorem dX6_takeU_118 : decode cX6_takeU 118 = .ok (.if_icmp .ne 69, 3) := by decide +kernel
theorem dX6_takeU_121 : decode cX6_takeU 121 = .ok (.aload_n 0, 1) := by decide +kernel
theorem dX6_takeU_122 : decode cX6_takeU 122 = .ok (.iload_n 3, 1) := by decide +kernel
theorem dX6_takeU_123 : decode cX6_takeU 123 = .ok (.invokevirtual 235, 3) := by decide +kernel
theorem dX6_takeU_126 : decode cX6_takeU 126 = .ok (.iload 4, 2) := by decide +kernel
theorem dX6_takeU_128 : decode cX6_takeU 128 = .ok (.bipush 40, 2) := by decide +kernel
theorem dX6_takeU_130 : decode cX6_takeU 130 = .ok (.if_icmp .lt 11, 3) := by decide +kernel
theorem dX6_takeU_133 : decode cX6_takeU 133 = .ok (.aload_n 0, 1) := by decide +kernel
theorem dX6_takeU_134 : decode cX6_takeU 134 = .ok (.iconst 3, 1) := by decide +kernel
theorem dX6_takeU_135 : decode cX6_takeU 135 = .ok (.invokevirtual 75, 3) := by decide +kernel
theorem dX6_takeU_138 : decode cX6_takeU 138 = .ok (.goto 43, 3) := by decide +kernel
theorem dX6_takeU_141 : decode cX6_takeU 141 = .ok (.aload_n 0, 1) := by decide +kernel
theorem dX6_takeU_142 : decode cX6_takeU 142 = .ok (.getfield 14, 3) := by decide +kernel
theorem dX6_takeU_145 : decode cX6_takeU 145 = .ok (.getfield 70, 3) := by decide +kernel
theorem dX6_takeU_148 : decode cX6_takeU 148 = .ok (.bipush 40, 2) := by decide +kernel
theorem dX6_takeU_150 : decode cX6_takeU 150 = .ok (.if_icmp .ne 26, 3) := by decide +kernel
theorem dX6_takeU_153 : decode cX6_takeU 153 = .ok (.aload_n 0, 1) := by decide +kernel
theorem dX6_takeU_154 : decode cX6_takeU 154 = .ok (.iload_n 1, 1) := by decide +kernel
theorem dX6_takeU_155 : decode cX6_takeU 155 = .ok (.ifCond .eq 13, 3) := by decide +kernel
theorem dX6_takeU_158 : decode cX6_takeU 158 = .ok (.iload 4, 2) := by decide +kernel
theorem dX6_takeU_160 : decode cX6_takeU 160 = .ok (.ifCond .ne 8, 3) := by decide +kernel
theorem dX6_takeU_163 : decode cX6_takeU 163 = .ok (.bipush 31, 2) := by decide +kernel
theorem dX6_takeU_165 : decode cX6_takeU 165 = .ok (.goto 5, 3) := by decide +kernel
theorem dX6_takeU_168 : decode cX6_takeU 168 = .ok (.bipush 30, 2) := by decide +kernel
theorem dX6_takeU_170 : decode cX6_takeU 170 = .ok (.invokevirtual 245, 3) := by decide +kernel
theorem dX6_takeU_173 : decode cX6_takeU 173 = .ok (.goto 8, 3) := by decide +kernel
theorem dX6_takeU_176 : decode cX6_takeU 176 = .ok (.aload_n 0, 1) := by decide +kernel
theorem dX6_takeU_177 : decode cX6_takeU 177 = .ok (.invokevirtual 248, 3) := by decide +kernel
theorem dX6_takeU_180 : decode cX6_takeU 180 = .ok (.istore_n 2, 1) := by decide +kernel
theorem dX6_takeU_181 : decode cX6_takeU 181 = .ok (.iinc 4 1, 3) := by decide +kernel
theorem dX6_takeU_184 : decode cX6_takeU 184 = .ok (.goto (-98), 3) := by decide +kernel
theorem dX6_takeU_187 : decode cX6_takeU 187 = .ok (.iload_n 3, 1) := by decide +kernel
theorem dX6_takeU_188 : decode cX6_takeU 188 = .ok (.ireturn, 1) := by decide +kernel
theorem dX6_takeWork_0 : decode cX6_takeWork 0 = .ok (.aload_n 0, 1) := by decide +kernel
theorem dX6_takeWork_1 : decode cX6_takeWork 1 = .ok (.getfield 14, 3) := by decide +kernel
theorem dX6_takeWork_4 : decode cX6_takeWork 4 = .ok (.getfield 120, 3) := by decide +kernel
theorem dX6_takeWork_7 : decode cX6_takeWork 7 = .ok (.istore_n 3, 1) := by decide +kernel
theorem dX6_takeWork_8 : decode cX6_takeWork 8 = .ok (.aload_n 0, 1) := by decide +kernel
theorem dX6_takeWork_9 : decode cX6_takeWork 9 = .ok (.getfield 14, 3) := by decide +kernel
theorem dX6_takeWork_12 : decode cX6_takeWork 12 = .ok (.invokevirtual 129, 3) := by decide +kernel
theorem dX6_takeWork_15 : decode cX6_takeWork 15 = .ok (.aload_n 0, 1) := by decide +kernel
theorem dX6_takeWork_16 : decode cX6_takeWork 16 = .ok (.bipush 40, 2) := by decide +kernel
theorem dX6_takeWork_18 : decode cX6_takeWork 18 = .ok (.invokevirtual 170, 3) := by decide +kernel
theorem dX6_takeWork_21 : decode cX6_takeWork 21 = .ok (.aload_n 0, 1) := by decide +kernel
theorem dX6_takeWork_22 : decode cX6_takeWork 22 = .ok (.invokevirtual 88, 3) := by decide +kernel
theorem dX6_takeWork_25 : decode cX6_takeWork 25 = .ok (.istore 4, 2) := by decide +kernel
theorem dX6_takeWork_27 : decode cX6_takeWork 27 = .ok (.aload_n 0, 1) := by decide +kernel
theorem dX6_takeWork_28 : decode cX6_takeWork 28 = .ok (.getfield 18, 3) := by decide +kernel
theorem dX6_takeWork_31 : decode cX6_takeWork 31 = .ok (.iload_n 1, 1) := by decide +kernel
theorem dX6_takeWork_32 : decode cX6_takeWork 32 = .ok (.iconst 0, 1) := by decide +kernel
theorem dX6_takeWork_33 : decode cX6_takeWork 33 = .ok (.aload_n 0, 1) := by decide +kernel
theorem dX6_takeWork_34 : decode cX6_takeWork 34 = .ok (.iload 4, 2) := by decide +kernel
theorem dX6_takeWork_36 : decode cX6_takeWork 36 = .ok (.invokevirtual 162, 3) := by decide +kernel
theorem dX6_takeWork_39 : decode cX6_takeWork 39 = .ok (.invokevirtual 166, 3) := by decide +kernel
theorem dX6_takeWork_42 : decode cX6_takeWork 42 = .ok (.pop, 1) := by decide +kernel
theorem dX6_takeWork_43 : decode cX6_takeWork 43 = .ok (.aload_n 0, 1) := by decide +kernel
theorem dX6_takeWork_44 : decode cX6_takeWork 44 = .ok (.bipush 41, 2) := by decide +kernel
theorem dX6_takeWork_46 : decode cX6_takeWork 46 = .ok (.invokevirtual 147, 3) := by decide +kernel
theorem dX6_takeWork_49 : decode cX6_takeWork 49 = .ok (.aload_n 0, 1) := by decide +kernel
theorem dX6_takeWork_50 : decode cX6_takeWork 50 = .ok (.dup, 1) := by decide +kernel
theorem dX6_takeWork_51 : decode cX6_takeWork 51 = .ok (.getfield 22, 3) := by decide +kernel
theorem dX6_takeWork_54 : decode cX6_takeWork 54 = .ok (.iconst 1, 1) := by decide +kernel
theorem dX6_takeWork_55 : decode cX6_takeWork 55 = .ok (.isub, 1) := by decide +kernel
theorem dX6_takeWork_56 : decode cX6_takeWork 56 = .ok (.putfield 22, 3) := by decide +kernel
theorem dX6_takeWork_59 : decode cX6_takeWork 59 = .ok (.aload_n 0, 1) := by decide +kernel
theorem dX6_takeWork_60 : decode cX6_takeWork 60 = .ok (.getfield 18, 3) := by decide +kernel
theorem dX6_takeWork_63 : decode cX6_takeWork 63 = .ok (.iload_n 2, 1) := by decide +kernel
theorem dX6_takeWork_64 : decode cX6_takeWork 64 = .ok (.iconst 0, 1) := by decide +kernel
theorem dX6_takeWork_65 : decode cX6_takeWork 65 = .ok (.iload_n 3, 1) := by decide +kernel
theorem dX6_takeWork_66 : decode cX6_takeWork 66 = .ok (.invokevirtual 166, 3) := by decide +kernel
theorem dX6_takeWork_69 : decode cX6_takeWork 69 = .ok (.pop, 1) := by decide +kernel
theorem dX6_takeWork_70 : decode cX6_takeWork 70 = .ok (.return_, 1) := by decide +kernel
theorem dX6_tookColon_0 : decode cX6_tookColon 0 = .ok (.aload_n 0, 1) := by decide +kernel
theorem dX6_tookColon_1 : decode cX6_tookColon 1 = .ok (.getfield 14, 3) := by decide +kernel
theorem dX6_tookColon_4 : decode cX6_tookColon 4 = .ok (.getfield 70, 3) := by decide +kernel
theorem dX6_tookColon_7 : decode cX6_tookColon 7 = .ok (.bipush 58, 2) := by decide +kernel
theorem dX6_tookColon_9 : decode cX6_tookColon 9 = .ok (.if_icmp .eq 5, 3) := by decide +kernel
theorem dX6_tookColon_12 : decode cX6_tookColon 12 = .ok (.iconst 0, 1) := by decide +kernel
theorem dX6_tookColon_13 : decode cX6_tookColon 13 = .ok (.ireturn, 1) := by decide +kernel
theorem dX6_tookColon_14 : decode cX6_tookColon 14 = .ok (.aload_n 0, 1) := by decide +kernel
theorem dX6_tookColon_15 : decode cX6_tookColon 15 = .ok (.getfield 14, 3) := by decide +kernel
theorem dX6_tookColon_18 : decode cX6_tookColon 18 = .ok (.invokevirtual 129, 3) := by decide +kernel
theorem dX6_tookColon_21 : decode cX6_tookColon 21 = .ok (.iconst 1, 1) := by decide +kernel
theorem dX6_tookColon_22 : decode cX6_tookColon 22 = .ok (.ireturn, 1) := by decide +kernel
theorem k281 : Cond.fieldLink "BlameCourt$Reade\x72" 105 "BlameCourt$Program" "kinds" "LBlameCourt$Kinds;" ∈ gtb := gtm (in_tables_1_1 (List.mem_of_getElem? (i := 95) rfl)) rfl
theorem k303 : Cond.fieldLink "BlameCourt$Reade\x72" 184 "BlameCourt$Program" "params" "[I" ∈ gtb := gtm (in_tables_1_1 (List.mem_of_getElem? (i := 117) rfl)) rfl
theorem k306 : Cond.fieldLink "BlameCourt$Reade\x72" 181 "BlameCourt$Program" "paramKind" "[I" ∈ gtb := gtm (in_tables_1_1 (List.mem_of_getElem? (i := 120) rfl)) rfl
theorem k309 : Cond.fieldLink "BlameCourt$Reade\x72" 150 "BlameCourt$Program" "ownKind" "[I" ∈ gtb := gtm (in_tables_1_1 (List.mem_of_getElem? (i := 123) rfl)) rfl
theorem k314 : Cond.fieldLink "BlameCourt$Reade\x72" 96 "BlameCourt$Program" "entry" "[I" ∈ gtb := gtm (in_tables_1_1 (List.mem_of_getElem? (i := 128) rfl)) rfl
theorem k327 : Cond.fieldLink "BlameCourt$Reade\x72" 205 "BlameCourt$Program" "x" "[I" ∈ gtb := gtm (in_tables_1_1 (List.mem_of_getElem? (i := 141) rfl)) rfl
theorem k334 : Cond.fieldLink "BlameCourt$Reade\x72" 203 "BlameCourt$Program" "place" "[I" ∈ gtb := gtm (in_tables_1_1 (List.mem_of_getElem? (i := 148) rfl)) rfl
theorem k337 : Cond.fieldLink "BlameCourt$Reade\x72" 102 "BlameCourt$Program" "length" "I" ∈ gtb := gtm (in_tables_1_1 (List.mem_of_getElem? (i := 151) rfl)) rfl
theorem k398 : Cond.fieldLink "BlameCourt$Reade\x72" 272 "BlameCourt$Tokens" "numbe\x72" "J" ∈ gtb := gtm (in_tables_1_1 (List.mem_of_getElem? (i := 212) rfl)) rfl
theorem k426 : Cond.fieldLink "BlameCourt$Reade\x72" 43 "BlameCourt$Reade\x72" "waitingSign" "[I" ∈ gtb := gtm (in_tables_1_2 (List.mem_of_getElem? (i := 0) rfl)) rfl
theorem k427 : Cond.fieldLink "BlameCourt$Reade\x72" 46 "BlameCourt$Reade\x72" "waitingPlace" "[I" ∈ gtb := gtm (in_tables_1_2 (List.mem_of_getElem? (i := 1) rfl)) rfl
theorem k428 : Cond.fieldLink "BlameCourt$Reade\x72" 49 "BlameCourt$Reade\x72" "waitingLeft" "[I" ∈ gtb := gtm (in_tables_1_2 (List.mem_of_getElem? (i := 2) rfl)) rfl
theorem k429 : Cond.fieldLink "BlameCourt$Reade\x72" 52 "BlameCourt$Reade\x72" "waiting" "I" ∈ gtb := gtm (in_tables_1_2 (List.mem_of_getElem? (i := 3) rfl)) rfl
theorem k430 : Cond.fieldLink "BlameCourt$Reade\x72" 55 "BlameCourt$Reade\x72" "listedKind" "[I" ∈ gtb := gtm (in_tables_1_2 (List.mem_of_getElem? (i := 4) rfl)) rfl
theorem k431 : Cond.fieldLink "BlameCourt$Reade\x72" 58 "BlameCourt$Reade\x72" "listedKinds" "I" ∈ gtb := gtm (in_tables_1_2 (List.mem_of_getElem? (i := 5) rfl)) rfl
theorem k825 : Cond.methodLink "BlameCourt$Reade\x72" 170 yX6_enter ∈ gtb := gtm (in_tables_1_3 (List.mem_of_getElem? (i := 159) rfl)) rfl
theorem k829 : Cond.methodLink "BlameCourt$Reade\x72" 173 yX6_slotOf ∈ gtb := gtm (in_tables_1_3 (List.mem_of_getElem? (i := 163) rfl)) rfl
theorem k833 : Cond.methodLink "BlameCourt$Reade\x72" 177 yX6_pushLocal ∈ gtb := gtm (in_tables_1_3 (List.mem_of_getElem? (i := 167) rfl)) rfl
theorem k837 : Cond.methodLink "BlameCourt$Reade\x72" 153 yX6_tookColon ∈ gtb := gtm (in_tables_1_3 (List.mem_of_getElem? (i := 171) rfl)) rfl
theorem k841 : Cond.methodLink "BlameCourt$Reade\x72" 157 yX6_takeKind ∈ gtb := gtm (in_tables_1_3 (List.mem_of_getElem? (i := 175) rfl)) rfl
theorem k845 : Cond.methodLink "BlameCourt$Reade\x72" 187 yX6_beginsKind ∈ gtb := gtm (in_tables_1_3 (List.mem_of_getElem? (i := 179) rfl)) rfl
theorem k849 : Cond.methodLink "BlameCourt$Reade\x72" 190 yX6_takeFunctionKind ∈ gtb := gtm (in_tables_1_3 (List.mem_of_getElem? (i := 183) rfl)) rfl
theorem k853 : Cond.methodLink "BlameCourt$Reade\x72" 196 yX6_takeKindList ∈ gtb := gtm (in_tables_1_3 (List.mem_of_getElem? (i := 187) rfl)) rfl
theorem k857 : Cond.methodLink "BlameCourt$Reade\x72" 199 yX3_functionOf ∈ gtb := gtm (in_tables_1_3 (List.mem_of_getElem? (i := 191) rfl)) rfl
theorem k858 : Cond.methodLink "BlameCourt$Reade\x72" 193 yX3_rowOf ∈ gtb := gtm (in_tables_1_3 (List.mem_of_getElem? (i := 192) rfl)) rfl
theorem k863 : Cond.methodLink "BlameCourt$Reade\x72" 88 yX6_takeE ∈ gtb := gtm (in_tables_1_3 (List.mem_of_getElem? (i := 197) rfl)) rfl
theorem k867 : Cond.methodLink "BlameCourt$Reade\x72" 208 yX6_takeLet ∈ gtb := gtm (in_tables_1_3 (List.mem_of_getElem? (i := 201) rfl)) rfl
theorem k871 : Cond.methodLink "BlameCourt$Reade\x72" 217 yX6_emitStep ∈ gtb := gtm (in_tables_1_3 (List.mem_of_getElem? (i := 205) rfl)) rfl
theorem k875 : Cond.methodLink "BlameCourt$Reade\x72" 166 yX5_emit ∈ gtb := gtm (in_tables_1_3 (List.mem_of_getElem? (i := 209) rfl)) rfl
theorem k879 : Cond.methodLink "BlameCourt$Reade\x72" 162 yX6_placeOf ∈ gtb := gtm (in_tables_1_3 (List.mem_of_getElem? (i := 213) rfl)) rfl
theorem k883 : Cond.methodLink "BlameCourt$Reade\x72" 211 yX6_takeIf ∈ gtb := gtm (in_tables_1_3 (List.mem_of_getElem? (i := 217) rfl)) rfl
theorem k887 : Cond.methodLink "BlameCourt$Reade\x72" 214 yX6_takeC ∈ gtb := gtm (in_tables_1_3 (List.mem_of_getElem? (i := 221) rfl)) rfl
theorem k891 : Cond.methodLink "BlameCourt$Reade\x72" 220 yX6_takeU ∈ gtb := gtm (in_tables_1_3 (List.mem_of_getElem? (i := 225) rfl)) rfl
theorem k895 : Cond.methodLink "BlameCourt$Reade\x72" 238 yX6_takePrefix ∈ gtb := gtm (in_tables_1_3 (List.mem_of_getElem? (i := 229) rfl)) rfl
theorem k899 : Cond.methodLink "BlameCourt$Reade\x72" 242 yX6_takeB ∈ gtb := gtm (in_tables_1_3 (List.mem_of_getElem? (i := 233) rfl)) rfl
theorem k903 : Cond.methodLink "BlameCourt$Reade\x72" 257 yX6_takeDigits ∈ gtb := gtm (in_tables_1_3 (List.mem_of_getElem? (i := 237) rfl)) rfl
theorem k907 : Cond.constantLong "BlameCourt$Reade\x72" 275 2147483648 ∈ gtb := gtm (in_tables_1_4 (List.mem_of_getElem? (i := 1) rfl)) rfl
theorem k908 : Cond.methodLink "BlameCourt$Reade\x72" 260 yX6_takeName ∈ gtb := gtm (in_tables_1_4 (List.mem_of_getElem? (i := 2) rfl)) rfl
theorem k912 : Cond.methodLink "BlameCourt$Reade\x72" 263 yX6_takeNew ∈ gtb := gtm (in_tables_1_4 (List.mem_of_getElem? (i := 6) rfl)) rfl
theorem k916 : Cond.methodLink "BlameCourt$Reade\x72" 266 yX6_takeWork ∈ gtb := gtm (in_tables_1_4 (List.mem_of_getElem? (i := 10) rfl)) rfl
theorem k920 : Cond.methodLink "BlameCourt$Reade\x72" 251 yX6_takeList ∈ gtb := gtm (in_tables_1_4 (List.mem_of_getElem? (i := 14) rfl)) rfl
theorem k924 : Cond.methodLink "BlameCourt$Reade\x72" 254 yX6_beginsE ∈ gtb := gtm (in_tables_1_4 (List.mem_of_getElem? (i := 18) rfl)) rfl
theorem k928 : Cond.methodLink "BlameCourt$Reade\x72" 269 yX6_takeBlock ∈ gtb := gtm (in_tables_1_4 (List.mem_of_getElem? (i := 22) rfl)) rfl
theorem k932 : Cond.methodLink "BlameCourt$Reade\x72" 235 yX6_addStep ∈ gtb := gtm (in_tables_1_4 (List.mem_of_getElem? (i := 26) rfl)) rfl
theorem k936 : Cond.methodLink "BlameCourt$Reade\x72" 245 yX6_takeCall ∈ gtb := gtm (in_tables_1_4 (List.mem_of_getElem? (i := 30) rfl)) rfl
theorem k940 : Cond.methodLink "BlameCourt$Reade\x72" 248 yX6_takePlace ∈ gtb := gtm (in_tables_1_4 (List.mem_of_getElem? (i := 34) rfl)) rfl
theorem k944 : Cond.methodLink "BlameCourt$Reade\x72" 223 yX6_levelOf ∈ gtb := gtm (in_tables_1_4 (List.mem_of_getElem? (i := 38) rfl)) rfl
theorem k945 : Cond.static yX6_levelOf ∈ gtb := gtm (in_tables_1_4 (List.mem_of_getElem? (i := 39) rfl)) rfl
theorem k947 : Cond.methodLink "BlameCourt$Reade\x72" 226 yX6_applyWaiting ∈ gtb := gtm (in_tables_1_4 (List.mem_of_getElem? (i := 41) rfl)) rfl
theorem k951 : Cond.methodLink "BlameCourt$Reade\x72" 232 yX6_opOf ∈ gtb := gtm (in_tables_1_4 (List.mem_of_getElem? (i := 45) rfl)) rfl
theorem k952 : Cond.static yX6_opOf ∈ gtb := gtm (in_tables_1_4 (List.mem_of_getElem? (i := 46) rfl)) rfl
theorem k954 : Cond.methodLink "BlameCourt$Reade\x72" 229 yX6_pushWaiting ∈ gtb := gtm (in_tables_1_4 (List.mem_of_getElem? (i := 48) rfl)) rfl
theorem k935 : Cond.code yX6_addStep cX6_addStep 2 none ∈ gtb := gtm (in_tables_1_4 (List.mem_of_getElem? (i := 29) rfl)) rfl
theorem ka_X6_addStep : KA yX6_addStep cX6_addStep 2 none 1 := ⟨k935, k191, by decide, by decide, by decide +kernel⟩
theorem k934 : Cond.instanceMethod yX6_addStep ∈ gtb := gtm (in_tables_1_4 (List.mem_of_getElem? (i := 28) rfl)) rfl
theorem k38 : Cond.selects "BlameCourt$Reade\x72" yX6_addStep yX6_addStep ∈ gtb := gtm (in_lw_privs_3 (q := (yX6_addStep, 14)) (List.mem_of_getElem? (i := 6) rfl)) rfl
theorem kv_X6_addStep : KV yX6_addStep := ⟨k934, k38⟩
theorem k950 : Cond.code yX6_applyWaiting cX6_applyWaiting 6 (some .int) ∈ gtb := gtm (in_tables_1_4 (List.mem_of_getElem? (i := 44) rfl)) rfl
theorem ka_X6_applyWaiting : KA yX6_applyWaiting cX6_applyWaiting 6 (some .int) 3 := ⟨k950, k191, by decide, by decide, by decide +kernel⟩
theorem k949 : Cond.instanceMethod yX6_applyWaiting ∈ gtb := gtm (in_tables_1_4 (List.mem_of_getElem? (i := 43) rfl)) rfl
theorem k41 : Cond.selects "BlameCourt$Reade\x72" yX6_applyWaiting yX6_applyWaiting ∈ gtb := gtm (in_lw_privs_3 (q := (yX6_applyWaiting, 14)) (List.mem_of_getElem? (i := 9) rfl)) rfl
theorem kv_X6_applyWaiting : KV yX6_applyWaiting := ⟨k949, k41⟩
theorem k927 : Cond.code yX6_beginsE cX6_beginsE 1 (some .boolean) ∈ gtb := gtm (in_tables_1_4 (List.mem_of_getElem? (i := 21) rfl)) rfl
theorem ka_X6_beginsE : KA yX6_beginsE cX6_beginsE 1 (some .boolean) 0 := ⟨k927, k191, by decide, by decide, by decide +kernel⟩
theorem k926 : Cond.instanceMethod yX6_beginsE ∈ gtb := gtm (in_tables_1_4 (List.mem_of_getElem? (i := 20) rfl)) rfl
theorem k36 : Cond.selects "BlameCourt$Reade\x72" yX6_beginsE yX6_beginsE ∈ gtb := gtm (in_lw_privs_3 (q := (yX6_beginsE, 14)) (List.mem_of_getElem? (i := 4) rfl)) rfl
theorem kv_X6_beginsE : KV yX6_beginsE := ⟨k926, k36⟩
theorem k848 : Cond.code yX6_beginsKind cX6_beginsKind 1 (some .boolean) ∈ gtb := gtm (in_tables_1_3 (List.mem_of_getElem? (i := 182) rfl)) rfl
theorem ka_X6_beginsKind : KA yX6_beginsKind cX6_beginsKind 1 (some .boolean) 0 := ⟨k848, k191, by decide, by decide, by decide +kernel⟩
theorem k847 : Cond.instanceMethod yX6_beginsKind ∈ gtb := gtm (in_tables_1_3 (List.mem_of_getElem? (i := 181) rfl)) rfl
theorem k18 : Cond.selects "BlameCourt$Reade\x72" yX6_beginsKind yX6_beginsKind ∈ gtb := gtm (in_lw_privs_2 (q := (yX6_beginsKind, 14)) (List.mem_of_getElem? (i := 2) rfl)) rfl
theorem kv_X6_beginsKind : KV yX6_beginsKind := ⟨k847, k18⟩
theorem k874 : Cond.code yX6_emitStep cX6_emitStep 1 (some .int) ∈ gtb := gtm (in_tables_1_3 (List.mem_of_getElem? (i := 208) rfl)) rfl
theorem ka_X6_emitStep : KA yX6_emitStep cX6_emitStep 1 (some .int) 0 := ⟨k874, k191, by decide, by decide, by decide +kernel⟩
theorem k873 : Cond.instanceMethod yX6_emitStep ∈ gtb := gtm (in_tables_1_3 (List.mem_of_getElem? (i := 207) rfl)) rfl
theorem k24 : Cond.selects "BlameCourt$Reade\x72" yX6_emitStep yX6_emitStep ∈ gtb := gtm (in_lw_privs_2 (q := (yX6_emitStep, 14)) (List.mem_of_getElem? (i := 8) rfl)) rfl
theorem kv_X6_emitStep : KV yX6_emitStep := ⟨k873, k24⟩
theorem k946 : Cond.code yX6_levelOf cX6_levelOf 1 (some .int) ∈ gtb := gtm (in_tables_1_4 (List.mem_of_getElem? (i := 40) rfl)) rfl
theorem ka_X6_levelOf : KA yX6_levelOf cX6_levelOf 1 (some .int) 1 := ⟨k946, k191, by decide, by decide, by decide +kernel⟩
theorem k953 : Cond.code yX6_opOf cX6_opOf 1 (some .int) ∈ gtb := gtm (in_tables_1_4 (List.mem_of_getElem? (i := 47) rfl)) rfl
theorem ka_X6_opOf : KA yX6_opOf cX6_opOf 1 (some .int) 1 := ⟨k953, k191, by decide, by decide, by decide +kernel⟩
theorem k882 : Cond.code yX6_placeOf cX6_placeOf 2 (some .int) ∈ gtb := gtm (in_tables_1_3 (List.mem_of_getElem? (i := 216) rfl)) rfl
theorem ka_X6_placeOf : KA yX6_placeOf cX6_placeOf 2 (some .int) 1 := ⟨k882, k191, by decide, by decide, by decide +kernel⟩
theorem k881 : Cond.instanceMethod yX6_placeOf ∈ gtb := gtm (in_tables_1_3 (List.mem_of_getElem? (i := 215) rfl)) rfl
theorem k25 : Cond.selects "BlameCourt$Reade\x72" yX6_placeOf yX6_placeOf ∈ gtb := gtm (in_lw_privs_2 (q := (yX6_placeOf, 14)) (List.mem_of_getElem? (i := 9) rfl)) rfl
theorem kv_X6_placeOf : KV yX6_placeOf := ⟨k881, k25⟩
theorem k836 : Cond.code yX6_pushLocal cX6_pushLocal 3 none ∈ gtb := gtm (in_tables_1_3 (List.mem_of_getElem? (i := 170) rfl)) rfl
theorem ka_X6_pushLocal : KA yX6_pushLocal cX6_pushLocal 3 none 1 := ⟨k836, k191, by decide, by decide, by decide +kernel⟩
theorem k835 : Cond.instanceMethod yX6_pushLocal ∈ gtb := gtm (in_tables_1_3 (List.mem_of_getElem? (i := 169) rfl)) rfl
theorem k15 : Cond.selects "BlameCourt$Reade\x72" yX6_pushLocal yX6_pushLocal ∈ gtb := gtm (in_lw_privs_1 (q := (yX6_pushLocal, 14)) (List.mem_of_getElem? (i := 15) rfl)) rfl
theorem kv_X6_pushLocal : KV yX6_pushLocal := ⟨k835, k15⟩
theorem k957 : Cond.code yX6_pushWaiting cX6_pushWaiting 2 none ∈ gtb := gtm (in_tables_1_4 (List.mem_of_getElem? (i := 51) rfl)) rfl
theorem ka_X6_pushWaiting : KA yX6_pushWaiting cX6_pushWaiting 2 none 1 := ⟨k957, k191, by decide, by decide, by decide +kernel⟩
theorem k956 : Cond.instanceMethod yX6_pushWaiting ∈ gtb := gtm (in_tables_1_4 (List.mem_of_getElem? (i := 50) rfl)) rfl
theorem k42 : Cond.selects "BlameCourt$Reade\x72" yX6_pushWaiting yX6_pushWaiting ∈ gtb := gtm (in_lw_privs_3 (q := (yX6_pushWaiting, 14)) (List.mem_of_getElem? (i := 10) rfl)) rfl
theorem kv_X6_pushWaiting : KV yX6_pushWaiting := ⟨k956, k42⟩
theorem k902 : Cond.code yX6_takeB cX6_takeB 2 (some .int) ∈ gtb := gtm (in_tables_1_3 (List.mem_of_getElem? (i := 236) rfl)) rfl
theorem ka_X6_takeB : KA yX6_takeB cX6_takeB 2 (some .int) 0 := ⟨k902, k191, by decide, by decide, by decide +kernel⟩
theorem k901 : Cond.instanceMethod yX6_takeB ∈ gtb := gtm (in_tables_1_3 (List.mem_of_getElem? (i := 235) rfl)) rfl
theorem k30 : Cond.selects "BlameCourt$Reade\x72" yX6_takeB yX6_takeB ∈ gtb := gtm (in_lw_privs_2 (q := (yX6_takeB, 14)) (List.mem_of_getElem? (i := 14) rfl)) rfl
theorem kv_X6_takeB : KV yX6_takeB := ⟨k901, k30⟩
theorem k931 : Cond.code yX6_takeBlock cX6_takeBlock 2 none ∈ gtb := gtm (in_tables_1_4 (List.mem_of_getElem? (i := 25) rfl)) rfl
theorem ka_X6_takeBlock : KA yX6_takeBlock cX6_takeBlock 2 none 0 := ⟨k931, k191, by decide, by decide, by decide +kernel⟩
theorem k930 : Cond.instanceMethod yX6_takeBlock ∈ gtb := gtm (in_tables_1_4 (List.mem_of_getElem? (i := 24) rfl)) rfl
theorem k37 : Cond.selects "BlameCourt$Reade\x72" yX6_takeBlock yX6_takeBlock ∈ gtb := gtm (in_lw_privs_3 (q := (yX6_takeBlock, 14)) (List.mem_of_getElem? (i := 5) rfl)) rfl
theorem kv_X6_takeBlock : KV yX6_takeBlock := ⟨k930, k37⟩
theorem k890 : Cond.code yX6_takeC cX6_takeC 8 (some .int) ∈ gtb := gtm (in_tables_1_3 (List.mem_of_getElem? (i := 224) rfl)) rfl
theorem ka_X6_takeC : KA yX6_takeC cX6_takeC 8 (some .int) 0 := ⟨k890, k191, by decide, by decide, by decide +kernel⟩
theorem k889 : Cond.instanceMethod yX6_takeC ∈ gtb := gtm (in_tables_1_3 (List.mem_of_getElem? (i := 223) rfl)) rfl
theorem k27 : Cond.selects "BlameCourt$Reade\x72" yX6_takeC yX6_takeC ∈ gtb := gtm (in_lw_privs_2 (q := (yX6_takeC, 14)) (List.mem_of_getElem? (i := 11) rfl)) rfl
theorem kv_X6_takeC : KV yX6_takeC := ⟨k889, k27⟩
theorem k939 : Cond.code yX6_takeCall cX6_takeCall 5 none ∈ gtb := gtm (in_tables_1_4 (List.mem_of_getElem? (i := 33) rfl)) rfl
theorem ka_X6_takeCall : KA yX6_takeCall cX6_takeCall 5 none 1 := ⟨k939, k191, by decide, by decide, by decide +kernel⟩
theorem k938 : Cond.instanceMethod yX6_takeCall ∈ gtb := gtm (in_tables_1_4 (List.mem_of_getElem? (i := 32) rfl)) rfl
theorem k39 : Cond.selects "BlameCourt$Reade\x72" yX6_takeCall yX6_takeCall ∈ gtb := gtm (in_lw_privs_3 (q := (yX6_takeCall, 14)) (List.mem_of_getElem? (i := 7) rfl)) rfl
theorem kv_X6_takeCall : KV yX6_takeCall := ⟨k938, k39⟩
theorem k906 : Cond.code yX6_takeDigits cX6_takeDigits 1 none ∈ gtb := gtm (in_tables_1_4 (List.mem_of_getElem? (i := 0) rfl)) rfl
theorem ka_X6_takeDigits : KA yX6_takeDigits cX6_takeDigits 1 none 0 := ⟨k906, k191, by decide, by decide, by decide +kernel⟩
theorem k905 : Cond.instanceMethod yX6_takeDigits ∈ gtb := gtm (in_tables_1_3 (List.mem_of_getElem? (i := 239) rfl)) rfl
theorem k31 : Cond.selects "BlameCourt$Reade\x72" yX6_takeDigits yX6_takeDigits ∈ gtb := gtm (in_lw_privs_2 (q := (yX6_takeDigits, 14)) (List.mem_of_getElem? (i := 15) rfl)) rfl
theorem kv_X6_takeDigits : KV yX6_takeDigits := ⟨k905, k31⟩
theorem k866 : Cond.code yX6_takeE cX6_takeE 1 (some .int) ∈ gtb := gtm (in_tables_1_3 (List.mem_of_getElem? (i := 200) rfl)) rfl
theorem ka_X6_takeE : KA yX6_takeE cX6_takeE 1 (some .int) 0 := ⟨k866, k191, by decide, by decide, by decide +kernel⟩
theorem k865 : Cond.instanceMethod yX6_takeE ∈ gtb := gtm (in_tables_1_3 (List.mem_of_getElem? (i := 199) rfl)) rfl
theorem k22 : Cond.selects "BlameCourt$Reade\x72" yX6_takeE yX6_takeE ∈ gtb := gtm (in_lw_privs_2 (q := (yX6_takeE, 14)) (List.mem_of_getElem? (i := 6) rfl)) rfl
theorem kv_X6_takeE : KV yX6_takeE := ⟨k865, k22⟩
theorem k852 : Cond.code yX6_takeFunctionKind cX6_takeFunctionKind 4 (some .int) ∈ gtb := gtm (in_tables_1_3 (List.mem_of_getElem? (i := 186) rfl)) rfl
theorem ka_X6_takeFunctionKind : KA yX6_takeFunctionKind cX6_takeFunctionKind 4 (some .int) 0 := ⟨k852, k191, by decide, by decide, by decide +kernel⟩
theorem k851 : Cond.instanceMethod yX6_takeFunctionKind ∈ gtb := gtm (in_tables_1_3 (List.mem_of_getElem? (i := 185) rfl)) rfl
theorem k19 : Cond.selects "BlameCourt$Reade\x72" yX6_takeFunctionKind yX6_takeFunctionKind ∈ gtb := gtm (in_lw_privs_2 (q := (yX6_takeFunctionKind, 14)) (List.mem_of_getElem? (i := 3) rfl)) rfl
theorem kv_X6_takeFunctionKind : KV yX6_takeFunctionKind := ⟨k851, k19⟩
theorem k886 : Cond.code yX6_takeIf cX6_takeIf 7 (some .int) ∈ gtb := gtm (in_tables_1_3 (List.mem_of_getElem? (i := 220) rfl)) rfl
theorem ka_X6_takeIf : KA yX6_takeIf cX6_takeIf 7 (some .int) 0 := ⟨k886, k191, by decide, by decide, by decide +kernel⟩
theorem k885 : Cond.instanceMethod yX6_takeIf ∈ gtb := gtm (in_tables_1_3 (List.mem_of_getElem? (i := 219) rfl)) rfl
theorem k26 : Cond.selects "BlameCourt$Reade\x72" yX6_takeIf yX6_takeIf ∈ gtb := gtm (in_lw_privs_2 (q := (yX6_takeIf, 14)) (List.mem_of_getElem? (i := 10) rfl)) rfl
theorem kv_X6_takeIf : KV yX6_takeIf := ⟨k885, k26⟩
theorem k844 : Cond.code yX6_takeKind cX6_takeKind 2 (some .int) ∈ gtb := gtm (in_tables_1_3 (List.mem_of_getElem? (i := 178) rfl)) rfl
theorem ka_X6_takeKind : KA yX6_takeKind cX6_takeKind 2 (some .int) 0 := ⟨k844, k191, by decide, by decide, by decide +kernel⟩
theorem k843 : Cond.instanceMethod yX6_takeKind ∈ gtb := gtm (in_tables_1_3 (List.mem_of_getElem? (i := 177) rfl)) rfl
theorem k17 : Cond.selects "BlameCourt$Reade\x72" yX6_takeKind yX6_takeKind ∈ gtb := gtm (in_lw_privs_2 (q := (yX6_takeKind, 14)) (List.mem_of_getElem? (i := 1) rfl)) rfl
theorem kv_X6_takeKind : KV yX6_takeKind := ⟨k843, k17⟩
theorem k856 : Cond.code yX6_takeKindList cX6_takeKindList 3 none ∈ gtb := gtm (in_tables_1_3 (List.mem_of_getElem? (i := 190) rfl)) rfl
theorem ka_X6_takeKindList : KA yX6_takeKindList cX6_takeKindList 3 none 0 := ⟨k856, k191, by decide, by decide, by decide +kernel⟩
theorem k855 : Cond.instanceMethod yX6_takeKindList ∈ gtb := gtm (in_tables_1_3 (List.mem_of_getElem? (i := 189) rfl)) rfl
theorem k20 : Cond.selects "BlameCourt$Reade\x72" yX6_takeKindList yX6_takeKindList ∈ gtb := gtm (in_lw_privs_2 (q := (yX6_takeKindList, 14)) (List.mem_of_getElem? (i := 4) rfl)) rfl
theorem kv_X6_takeKindList : KV yX6_takeKindList := ⟨k855, k20⟩
theorem k870 : Cond.code yX6_takeLet cX6_takeLet 7 (some .int) ∈ gtb := gtm (in_tables_1_3 (List.mem_of_getElem? (i := 204) rfl)) rfl
theorem ka_X6_takeLet : KA yX6_takeLet cX6_takeLet 7 (some .int) 0 := ⟨k870, k191, by decide, by decide, by decide +kernel⟩
theorem k869 : Cond.instanceMethod yX6_takeLet ∈ gtb := gtm (in_tables_1_3 (List.mem_of_getElem? (i := 203) rfl)) rfl
theorem k23 : Cond.selects "BlameCourt$Reade\x72" yX6_takeLet yX6_takeLet ∈ gtb := gtm (in_lw_privs_2 (q := (yX6_takeLet, 14)) (List.mem_of_getElem? (i := 7) rfl)) rfl
theorem kv_X6_takeLet : KV yX6_takeLet := ⟨k869, k23⟩
theorem k923 : Cond.code yX6_takeList cX6_takeList 7 (some .int) ∈ gtb := gtm (in_tables_1_4 (List.mem_of_getElem? (i := 17) rfl)) rfl
theorem ka_X6_takeList : KA yX6_takeList cX6_takeList 7 (some .int) 3 := ⟨k923, k191, by decide, by decide, by decide +kernel⟩
theorem k922 : Cond.instanceMethod yX6_takeList ∈ gtb := gtm (in_tables_1_4 (List.mem_of_getElem? (i := 16) rfl)) rfl
theorem k35 : Cond.selects "BlameCourt$Reade\x72" yX6_takeList yX6_takeList ∈ gtb := gtm (in_lw_privs_3 (q := (yX6_takeList, 14)) (List.mem_of_getElem? (i := 3) rfl)) rfl
theorem kv_X6_takeList : KV yX6_takeList := ⟨k922, k35⟩
theorem k911 : Cond.code yX6_takeName cX6_takeName 2 none ∈ gtb := gtm (in_tables_1_4 (List.mem_of_getElem? (i := 5) rfl)) rfl
theorem ka_X6_takeName : KA yX6_takeName cX6_takeName 2 none 0 := ⟨k911, k191, by decide, by decide, by decide +kernel⟩
theorem k910 : Cond.instanceMethod yX6_takeName ∈ gtb := gtm (in_tables_1_4 (List.mem_of_getElem? (i := 4) rfl)) rfl
theorem k32 : Cond.selects "BlameCourt$Reade\x72" yX6_takeName yX6_takeName ∈ gtb := gtm (in_lw_privs_3 (q := (yX6_takeName, 14)) (List.mem_of_getElem? (i := 0) rfl)) rfl
theorem kv_X6_takeName : KV yX6_takeName := ⟨k910, k32⟩
theorem k915 : Cond.code yX6_takeNew cX6_takeNew 3 none ∈ gtb := gtm (in_tables_1_4 (List.mem_of_getElem? (i := 9) rfl)) rfl
theorem ka_X6_takeNew : KA yX6_takeNew cX6_takeNew 3 none 0 := ⟨k915, k191, by decide, by decide, by decide +kernel⟩
theorem k914 : Cond.instanceMethod yX6_takeNew ∈ gtb := gtm (in_tables_1_4 (List.mem_of_getElem? (i := 8) rfl)) rfl
theorem k33 : Cond.selects "BlameCourt$Reade\x72" yX6_takeNew yX6_takeNew ∈ gtb := gtm (in_lw_privs_3 (q := (yX6_takeNew, 14)) (List.mem_of_getElem? (i := 1) rfl)) rfl
theorem kv_X6_takeNew : KV yX6_takeNew := ⟨k914, k33⟩
theorem k862 : Cond.code yX6_takeOwnKind cX6_takeOwnKind 2 none ∈ gtb := gtm (in_tables_1_3 (List.mem_of_getElem? (i := 196) rfl)) rfl
theorem ka_X6_takeOwnKind : KA yX6_takeOwnKind cX6_takeOwnKind 2 none 1 := ⟨k862, k191, by decide, by decide, by decide +kernel⟩
theorem k861 : Cond.instanceMethod yX6_takeOwnKind ∈ gtb := gtm (in_tables_1_3 (List.mem_of_getElem? (i := 195) rfl)) rfl
theorem k21 : Cond.selects "BlameCourt$Reade\x72" yX6_takeOwnKind yX6_takeOwnKind ∈ gtb := gtm (in_lw_privs_2 (q := (yX6_takeOwnKind, 14)) (List.mem_of_getElem? (i := 5) rfl)) rfl
theorem kv_X6_takeOwnKind : KV yX6_takeOwnKind := ⟨k861, k21⟩
theorem k824 : Cond.code yX6_takeParams cX6_takeParams 5 none ∈ gtb := gtm (in_tables_1_3 (List.mem_of_getElem? (i := 158) rfl)) rfl
theorem ka_X6_takeParams : KA yX6_takeParams cX6_takeParams 5 none 1 := ⟨k824, k191, by decide, by decide, by decide +kernel⟩
theorem k823 : Cond.instanceMethod yX6_takeParams ∈ gtb := gtm (in_tables_1_3 (List.mem_of_getElem? (i := 157) rfl)) rfl
theorem k12 : Cond.selects "BlameCourt$Reade\x72" yX6_takeParams yX6_takeParams ∈ gtb := gtm (in_lw_privs_1 (q := (yX6_takeParams, 14)) (List.mem_of_getElem? (i := 12) rfl)) rfl
theorem kv_X6_takeParams : KV yX6_takeParams := ⟨k823, k12⟩
theorem k943 : Cond.code yX6_takePlace cX6_takePlace 4 (some .boolean) ∈ gtb := gtm (in_tables_1_4 (List.mem_of_getElem? (i := 37) rfl)) rfl
theorem ka_X6_takePlace : KA yX6_takePlace cX6_takePlace 4 (some .boolean) 0 := ⟨k943, k191, by decide, by decide, by decide +kernel⟩
theorem k942 : Cond.instanceMethod yX6_takePlace ∈ gtb := gtm (in_tables_1_4 (List.mem_of_getElem? (i := 36) rfl)) rfl
theorem k40 : Cond.selects "BlameCourt$Reade\x72" yX6_takePlace yX6_takePlace ∈ gtb := gtm (in_lw_privs_3 (q := (yX6_takePlace, 14)) (List.mem_of_getElem? (i := 8) rfl)) rfl
theorem kv_X6_takePlace : KV yX6_takePlace := ⟨k942, k40⟩
theorem k898 : Cond.code yX6_takePrefix cX6_takePrefix 5 (some .int) ∈ gtb := gtm (in_tables_1_3 (List.mem_of_getElem? (i := 232) rfl)) rfl
theorem ka_X6_takePrefix : KA yX6_takePrefix cX6_takePrefix 5 (some .int) 2 := ⟨k898, k191, by decide, by decide, by decide +kernel⟩
theorem k897 : Cond.instanceMethod yX6_takePrefix ∈ gtb := gtm (in_tables_1_3 (List.mem_of_getElem? (i := 231) rfl)) rfl
theorem k29 : Cond.selects "BlameCourt$Reade\x72" yX6_takePrefix yX6_takePrefix ∈ gtb := gtm (in_lw_privs_2 (q := (yX6_takePrefix, 14)) (List.mem_of_getElem? (i := 13) rfl)) rfl
theorem kv_X6_takePrefix : KV yX6_takePrefix := ⟨k897, k29⟩
theorem k894 : Cond.code yX6_takeU cX6_takeU 5 (some .int) ∈ gtb := gtm (in_tables_1_3 (List.mem_of_getElem? (i := 228) rfl)) rfl
theorem ka_X6_takeU : KA yX6_takeU cX6_takeU 5 (some .int) 0 := ⟨k894, k191, by decide, by decide, by decide +kernel⟩
theorem k893 : Cond.instanceMethod yX6_takeU ∈ gtb := gtm (in_tables_1_3 (List.mem_of_getElem? (i := 227) rfl)) rfl
theorem k28 : Cond.selects "BlameCourt$Reade\x72" yX6_takeU yX6_takeU ∈ gtb := gtm (in_lw_privs_2 (q := (yX6_takeU, 14)) (List.mem_of_getElem? (i := 12) rfl)) rfl
theorem kv_X6_takeU : KV yX6_takeU := ⟨k893, k28⟩
theorem k919 : Cond.code yX6_takeWork cX6_takeWork 5 none ∈ gtb := gtm (in_tables_1_4 (List.mem_of_getElem? (i := 13) rfl)) rfl
theorem ka_X6_takeWork : KA yX6_takeWork cX6_takeWork 5 none 2 := ⟨k919, k191, by decide, by decide, by decide +kernel⟩
theorem k918 : Cond.instanceMethod yX6_takeWork ∈ gtb := gtm (in_tables_1_4 (List.mem_of_getElem? (i := 12) rfl)) rfl
theorem k34 : Cond.selects "BlameCourt$Reade\x72" yX6_takeWork yX6_takeWork ∈ gtb := gtm (in_lw_privs_3 (q := (yX6_takeWork, 14)) (List.mem_of_getElem? (i := 2) rfl)) rfl
theorem kv_X6_takeWork : KV yX6_takeWork := ⟨k918, k34⟩
theorem k840 : Cond.code yX6_tookColon cX6_tookColon 1 (some .boolean) ∈ gtb := gtm (in_tables_1_3 (List.mem_of_getElem? (i := 174) rfl)) rfl
theorem ka_X6_tookColon : KA yX6_tookColon cX6_tookColon 1 (some .boolean) 0 := ⟨k840, k191, by decide, by decide, by decide +kernel⟩
theorem k839 : Cond.instanceMethod yX6_tookColon ∈ gtb := gtm (in_tables_1_3 (List.mem_of_getElem? (i := 173) rfl)) rfl
theorem k16 : Cond.selects "BlameCourt$Reade\x72" yX6_tookColon yX6_tookColon ∈ gtb := gtm (in_lw_privs_2 (q := (yX6_tookColon, 14)) (List.mem_of_getElem? (i := 0) rfl)) rfl
theorem kv_X6_tookColon : KV yX6_tookColon := ⟨k839, k16⟩
noncomputable def g_Reader_pushLocal (q1 : Int64) (X : St) : Option (Int32 × St) :=
  letV (X.1 46 9) fun x1 =>
  if 44 ≤ x1.toInt then
    some (0, X)
  else
    letV (X.1 46 9) fun x2 =>
    chk (inR x2 44) (letV (wL X 50 (ix x2) q1) fun X3 =>
    letV (X3.1 46 9) fun x4 =>
    letV (x4 + (1 : Int32)) fun x5 =>
    letV (wI X3 46 9 x5) fun X6 =>
    some (0, X6))
set_option maxHeartbeats 4000000 in
set_option maxRecDepth 100000 in
theorem k_Reader_pushLocal (Γ : GxC) (q1 : Int64) (X : St) : TCV YC Γ yX6_pushLocal cX6_pushLocal 3 "BlameCourt$Reade\x72" none { frames := 2, cells := 0, slots := 0, locals := 70 } [.ref (Γ.2.2.2.1 46), .long q1] X (g_Reader_pushLocal q1 X) := by
  refine TCV.of (by decide) (Nat.le_of_ble_eq_true rfl) rfl ?_
  show TC YC Γ cX6_pushLocal 3 "BlameCourt$Reade\x72" none { frames := 2, cells := 0, slots := 0, locals := 70 } _ kV 0 [(0, .ref (Γ.2.2.2.1 46)), (1, .long q1)] [] X (g_Reader_pushLocal q1 X)
  unfold g_Reader_pushLocal
  refine TC.aload_n dX6_pushLocal_0 rfl 0 rfl ?_
  refine gC5_9 k425 dX6_pushLocal_1 (fun x1 => ?_)
  refine TC.bipush (w := 44) dX6_pushLocal_4 (by decide) ?_
  refine TC.icmp_ge (pc1 := 29) dX6_pushLocal_6 (by decide) rfl ?_ ?_
  · exact TC.ret_v rfl dX6_pushLocal_29
  · refine TC.aload_n dX6_pushLocal_9 rfl 0 rfl ?_
    refine cC5_8 k424 dX6_pushLocal_10 ?_
    refine TC.aload_n dX6_pushLocal_13 rfl 0 rfl ?_
    refine gC5_9 k425 dX6_pushLocal_14 (fun x2 => ?_)
    refine TC.lload_n dX6_pushLocal_17 rfl 1 rfl ?_
    refine asC50 dX6_pushLocal_18 (fun X3 => ?_)
    refine TC.aload_n dX6_pushLocal_19 rfl 0 rfl ?_
    refine TC.dupr dX6_pushLocal_20 ?_
    refine gC5_9 k425 dX6_pushLocal_21 (fun x4 => ?_)
    refine TC.iconst (w := 1) dX6_pushLocal_24 (by decide) ?_
    refine TC.iadd dX6_pushLocal_25 (fun x5 => ?_)
    refine pC5_9 k425 dX6_pushLocal_26 (fun X6 => ?_)
    exact TC.ret_v rfl dX6_pushLocal_29
noncomputable def g_Reader_tookColon (X : St) : Option (Int32 × St) :=
  letV (X.1 47 3) fun x1 =>
  if x1.toInt = 58 then
    bnd (g_Tokens_advance X) fun _ X2 =>
    some (1, X2)
  else
    some (0, X)
set_option maxHeartbeats 4000000 in
set_option maxRecDepth 100000 in
theorem k_Reader_tookColon (Γ : GxC) (X : St) : TCI YC Γ yX6_tookColon cX6_tookColon 1 "BlameCourt$Reade\x72" (some .boolean) { frames := 5, cells := 0, slots := 0, locals := 190 } [.ref (Γ.2.2.2.1 46)] X (g_Reader_tookColon X) := by
  refine TCI.of (by decide) (Nat.le_of_ble_eq_true rfl) rfl ?_
  show TC YC Γ cX6_tookColon 1 "BlameCourt$Reade\x72" (some .boolean) { frames := 5, cells := 0, slots := 0, locals := 190 } _ kI 0 [(0, .ref (Γ.2.2.2.1 46))] [] X (g_Reader_tookColon X)
  unfold g_Reader_tookColon
  refine TC.aload_n dX6_tookColon_0 rfl 0 rfl ?_
  refine cC5_0 k416 dX6_tookColon_1 ?_
  refine gC7_3 k390 dX6_tookColon_4 (fun x1 => ?_)
  refine TC.bipush (w := 58) dX6_tookColon_7 (by decide) ?_
  refine TC.icmp_eq (pc1 := 14) dX6_tookColon_9 (by decide) rfl ?_ ?_
  · refine TC.aload_n dX6_tookColon_14 rfl 0 rfl ?_
    refine cC5_0 k416 dX6_tookColon_15 ?_
    refine TC.callV_v 47 (As1 := []) (rest := []) (k_Tokens_advance Γ X) ka_X9_advance kv_X9_advance oC_47 rfl k816 rfl rfl rfl rfl (show 4 + 1 ≤ 5 ∧ 8 + (3 + 11) + 150 ≤ 190 from ⟨by omega, by omega⟩) (Nat.le_of_ble_eq_true rfl) dX6_tookColon_18 (fun _ X2 => ?_)
    refine TC.iconst (w := 1) dX6_tookColon_21 (by decide) ?_
    exact TC.ret_z rfl dX6_tookColon_22 rfl
  · refine TC.iconst (w := 0) dX6_tookColon_12 (by decide) ?_
    exact TC.ret_z rfl dX6_tookColon_13 rfl
noncomputable def g_Reader_beginsKind (X : St) : Option (Int32 × St) :=
  letV (X.1 47 3) fun x1 =>
  if x1.toInt = 91 then
    some (1, X)
  else
    letV (X.1 47 3) fun x2 =>
    if x2.toInt < 272 then
      some (0, X)
    else
      letV (X.1 47 3) fun x3 =>
      if 275 < x3.toInt then
        some (0, X)
      else
        some (1, X)
set_option maxHeartbeats 4000000 in
set_option maxRecDepth 100000 in
theorem k_Reader_beginsKind (Γ : GxC) (X : St) : TCI YC Γ yX6_beginsKind cX6_beginsKind 1 "BlameCourt$Reade\x72" (some .boolean) { frames := 2, cells := 0, slots := 0, locals := 70 } [.ref (Γ.2.2.2.1 46)] X (g_Reader_beginsKind X) := by
  refine TCI.of (by decide) (Nat.le_of_ble_eq_true rfl) rfl ?_
  show TC YC Γ cX6_beginsKind 1 "BlameCourt$Reade\x72" (some .boolean) { frames := 2, cells := 0, slots := 0, locals := 70 } _ kI 0 [(0, .ref (Γ.2.2.2.1 46))] [] X (g_Reader_beginsKind X)
  unfold g_Reader_beginsKind
  refine TC.aload_n dX6_beginsKind_0 rfl 0 rfl ?_
  refine cC5_0 k416 dX6_beginsKind_1 ?_
  refine gC7_3 k390 dX6_beginsKind_4 (fun x1 => ?_)
  refine TC.bipush (w := 91) dX6_beginsKind_7 (by decide) ?_
  refine TC.icmp_eq (pc1 := 38) dX6_beginsKind_9 (by decide) rfl ?_ ?_
  · refine TC.iconst (w := 1) dX6_beginsKind_38 (by decide) ?_
    refine TC.goto (pc1 := 43) dX6_beginsKind_39 (by decide) ?_
    exact TC.ret_z rfl dX6_beginsKind_43 rfl
  · refine TC.aload_n dX6_beginsKind_12 rfl 0 rfl ?_
    refine cC5_0 k416 dX6_beginsKind_13 ?_
    refine gC7_3 k390 dX6_beginsKind_16 (fun x2 => ?_)
    refine TC.sipush (w := 272) dX6_beginsKind_19 (by decide) ?_
    refine TC.icmp_lt (pc1 := 42) dX6_beginsKind_22 (by decide) rfl ?_ ?_
    · refine TC.iconst (w := 0) dX6_beginsKind_42 (by decide) ?_
      exact TC.ret_z rfl dX6_beginsKind_43 rfl
    · refine TC.aload_n dX6_beginsKind_25 rfl 0 rfl ?_
      refine cC5_0 k416 dX6_beginsKind_26 ?_
      refine gC7_3 k390 dX6_beginsKind_29 (fun x3 => ?_)
      refine TC.sipush (w := 275) dX6_beginsKind_32 (by decide) ?_
      refine TC.icmp_gt (pc1 := 42) dX6_beginsKind_35 (by decide) rfl ?_ ?_
      · refine TC.iconst (w := 0) dX6_beginsKind_42 (by decide) ?_
        exact TC.ret_z rfl dX6_beginsKind_43 rfl
      · refine TC.iconst (w := 1) dX6_beginsKind_38 (by decide) ?_
        refine TC.goto (pc1 := 43) dX6_beginsKind_39 (by decide) ?_
        exact TC.ret_z rfl dX6_beginsKind_43 rfl
noncomputable def g_Reader_takeKindList_24 (v_takeKind : St → Option (Int32 × St)) (r2 : Int32 → St → Option (Int32 × St)) (a_1 : Int32) (X : St) : Option (Int32 × St) :=
  bnd (v_takeKind X) fun x1 X2 =>
  letV (X2.1 46 3) fun x3 =>
  if x3.toInt = 0 then
    letV (X2.1 46 6) fun x4 =>
    if x4.toInt < 164 then
      letV (X2.1 46 6) fun x5 =>
      chk (inR x5 164) (letV (wI X2 54 (ix x5) x1) fun X6 =>
      letV (X6.1 46 6) fun x7 =>
      letV (x7 + (1 : Int32)) fun x8 =>
      letV (wI X6 46 6 x8) fun X9 =>
      letV (X9.1 47 3) fun x10 =>
      if x10.toInt = 44 then
        bnd (g_Tokens_advance X9) fun _ X11 =>
        letV (a_1 + Int32.ofInt (1)) fun x12 =>
        r2 x12 X11
      else
        some (0, X9))
    else
      some (0, X2)
  else
    some (0, X2)
set_option maxHeartbeats 4000000 in
set_option maxRecDepth 100000 in
theorem k_Reader_takeKindList_24 (Γ : GxC) (d : Nat) (As : List Value) (v_takeKind : St → Option (Int32 × St)) (hv_takeKind : ∀ (X : St), TCI YC Γ yX6_takeKind cX6_takeKind 2 "BlameCourt$Reade\x72" (some .int) { frames := (6 + 3 * d), cells := 0, slots := 0, locals := (230 + 120 * d) } [.ref (Γ.2.2.2.1 46)] X (v_takeKind X)) (r2 : Int32 → St → Option (Int32 × St)) (hr2 : ∀ (a_1 : Int32) (X : St), TC YC Γ cX6_takeKindList 3 "BlameCourt$Reade\x72" none { frames := (7 + 3 * d), cells := 0, slots := 0, locals := (270 + 120 * d) } As kV 2 [(0, .ref (Γ.2.2.2.1 46)), (1, .int a_1)] [] X (r2 a_1 X)) (a_1 : Int32) (X : St) : TC YC Γ cX6_takeKindList 3 "BlameCourt$Reade\x72" none { frames := (7 + 3 * d), cells := 0, slots := 0, locals := (270 + 120 * d) } As kV 24 [(0, .ref (Γ.2.2.2.1 46)), (1, .int a_1)] [] X (g_Reader_takeKindList_24 v_takeKind r2 a_1 X) := by
  unfold g_Reader_takeKindList_24
  refine TC.aload_n dX6_takeKindList_24 rfl 0 rfl ?_
  refine TC.callV_i 46 (As1 := []) (rest := []) (hv_takeKind X) ka_X6_takeKind kv_X6_takeKind oC_46 rfl k841 rfl rfl rfl rfl (show (6 + 3 * d) + 1 ≤ (7 + 3 * d) ∧ 8 + (2 + 11) + (230 + 120 * d) ≤ (270 + 120 * d) from ⟨by omega, by omega⟩) (Nat.le_of_ble_eq_true rfl) dX6_takeKindList_25 (fun x1 X2 => ?_)
  refine TC.istore_n (lv1 := [(2, .int x1), (0, .ref (Γ.2.2.2.1 46)), (1, .int a_1)]) dX6_takeKindList_28 rfl (by decide) rfl ?_
  refine TC.aload_n dX6_takeKindList_29 rfl 1 rfl ?_
  refine gC5_3 k419 dX6_takeKindList_30 (fun x3 => ?_)
  refine TC.if_ne (pc1 := 48) dX6_takeKindList_33 (by decide) ?_ ?_
  · exact TC.ret_v rfl dX6_takeKindList_48
  · refine TC.aload_n dX6_takeKindList_36 rfl 1 rfl ?_
    refine gC5_6 k431 dX6_takeKindList_37 (fun x4 => ?_)
    refine TC.aload_n dX6_takeKindList_40 rfl 1 rfl ?_
    refine cC5_13 k430 dX6_takeKindList_41 ?_
    refine TC.alen 54 ⟨rfl, rfl, rfl⟩ (Or.inl rfl) (v := 164) (by decide) dX6_takeKindList_44 ?_
    refine TC.icmp_lt (pc1 := 49) dX6_takeKindList_45 (by decide) rfl ?_ ?_
    · refine TC.aload_n dX6_takeKindList_49 rfl 1 rfl ?_
      refine cC5_13 k430 dX6_takeKindList_50 ?_
      refine TC.aload_n dX6_takeKindList_53 rfl 1 rfl ?_
      refine gC5_6 k431 dX6_takeKindList_54 (fun x5 => ?_)
      refine TC.iload_n dX6_takeKindList_57 rfl 0 rfl ?_
      refine asC54 dX6_takeKindList_58 (fun X6 => ?_)
      refine TC.aload_n dX6_takeKindList_59 rfl 1 rfl ?_
      refine TC.dupr dX6_takeKindList_60 ?_
      refine gC5_6 k431 dX6_takeKindList_61 (fun x7 => ?_)
      refine TC.iconst (w := 1) dX6_takeKindList_64 (by decide) ?_
      refine TC.iadd dX6_takeKindList_65 (fun x8 => ?_)
      refine pC5_6 k431 dX6_takeKindList_66 (fun X9 => ?_)
      refine TC.aload_n dX6_takeKindList_69 rfl 1 rfl ?_
      refine cC5_0 k416 dX6_takeKindList_70 ?_
      refine gC7_3 k390 dX6_takeKindList_73 (fun x10 => ?_)
      refine TC.bipush (w := 44) dX6_takeKindList_76 (by decide) ?_
      refine TC.icmp_eq (pc1 := 82) dX6_takeKindList_78 (by decide) rfl ?_ ?_
      · refine TC.aload_n dX6_takeKindList_82 rfl 1 rfl ?_
        refine cC5_0 k416 dX6_takeKindList_83 ?_
        refine TC.callV_v 47 (As1 := []) (rest := []) (k_Tokens_advance Γ X9) ka_X9_advance kv_X9_advance oC_47 rfl k816 rfl rfl rfl rfl (show 4 + 1 ≤ (7 + 3 * d) ∧ 8 + (3 + 11) + 150 ≤ (270 + 120 * d) from ⟨by omega, by omega⟩) (Nat.le_of_ble_eq_true rfl) dX6_takeKindList_86 (fun _ X11 => ?_)
        refine TC.iinc dX6_takeKindList_89 2 rfl (by decide) (lvf := fun x12 => [(1, .int x12), (2, .int x1), (0, .ref (Γ.2.2.2.1 46))]) (fun _ => rfl) (fun x12 => ?_)
        refine TC.goto (pc1 := 2) dX6_takeKindList_92 (by decide) ?_
        refine TC.sub [2, 0] rfl ?_
        exact hr2 x12 X11
      · exact TC.ret_v rfl dX6_takeKindList_81
    · exact TC.ret_v rfl dX6_takeKindList_48
noncomputable def g_Reader_takeKindList_2_s (v_takeKind : St → Option (Int32 × St)) (r2 : Int32 → St → Option (Int32 × St)) (a_1 : Int32) (X : St) : Option (Int32 × St) :=
  if 4 < a_1.toInt then
    some (0, X)
  else
    if a_1.toInt < 4 then
      g_Reader_takeKindList_24 v_takeKind r2 a_1 X
    else
      bnd (g_Reader_beginsKind X) fun x13 X14 =>
      if x13.toInt = 0 then
        g_Reader_takeKindList_24 v_takeKind r2 a_1 X14
      else
        bnd (g_Reader_refuse (3 : Int32) X14) fun _ X15 =>
        g_Reader_takeKindList_24 v_takeKind r2 a_1 X15
noncomputable def g_Reader_takeKindList_2 (v_takeKind : St → Option (Int32 × St)) (n : Nat) : Int32 → St → Option (Int32 × St) := lp (fun _ _ => none) (g_Reader_takeKindList_2_s v_takeKind) n
set_option maxHeartbeats 4000000 in
set_option maxRecDepth 100000 in
theorem k_Reader_takeKindList_2 (Γ : GxC) (d : Nat) (As : List Value) (v_takeKind : St → Option (Int32 × St)) (hv_takeKind : ∀ (X : St), TCI YC Γ yX6_takeKind cX6_takeKind 2 "BlameCourt$Reade\x72" (some .int) { frames := (6 + 3 * d), cells := 0, slots := 0, locals := (230 + 120 * d) } [.ref (Γ.2.2.2.1 46)] X (v_takeKind X)) (n : Nat) : ∀ (a_1 : Int32) (X : St), TC YC Γ cX6_takeKindList 3 "BlameCourt$Reade\x72" none { frames := (7 + 3 * d), cells := 0, slots := 0, locals := (270 + 120 * d) } As kV 2 [(0, .ref (Γ.2.2.2.1 46)), (1, .int a_1)] [] X (g_Reader_takeKindList_2 v_takeKind n a_1 X) := by
  unfold g_Reader_takeKindList_2
  refine lp_ind (P := fun (r2 : Int32 → St → Option (Int32 × St)) => ∀ (a_1 : Int32) (X : St), TC YC Γ cX6_takeKindList 3 "BlameCourt$Reade\x72" none { frames := (7 + 3 * d), cells := 0, slots := 0, locals := (270 + 120 * d) } As kV 2 [(0, .ref (Γ.2.2.2.1 46)), (1, .int a_1)] [] X (r2 a_1 X)) (fun _ _ => TC.no) ?_ n
  intro r2 hr2 a_1 X
  unfold g_Reader_takeKindList_2_s
  refine TC.iload_n dX6_takeKindList_2 rfl 1 rfl ?_
  refine TC.iconst (w := 4) dX6_takeKindList_3 (by decide) ?_
  refine TC.icmp_gt (pc1 := 95) dX6_takeKindList_4 (by decide) rfl ?_ ?_
  · exact TC.ret_v rfl dX6_takeKindList_95
  · refine TC.iload_n dX6_takeKindList_7 rfl 1 rfl ?_
    refine TC.iconst (w := 4) dX6_takeKindList_8 (by decide) ?_
    refine TC.icmp_lt (pc1 := 24) dX6_takeKindList_9 (by decide) rfl ?_ ?_
    · exact k_Reader_takeKindList_24 Γ d _ v_takeKind hv_takeKind r2 hr2 a_1 X
    · refine TC.aload_n dX6_takeKindList_12 rfl 0 rfl ?_
      refine TC.callV_i 46 (As1 := []) (rest := []) (k_Reader_beginsKind Γ X) ka_X6_beginsKind kv_X6_beginsKind oC_46 rfl k845 rfl rfl rfl rfl (show 2 + 1 ≤ (7 + 3 * d) ∧ 8 + (1 + 11) + 70 ≤ (270 + 120 * d) from ⟨by omega, by omega⟩) (Nat.le_of_ble_eq_true rfl) dX6_takeKindList_13 (fun x13 X14 => ?_)
      refine TC.if_eq (pc1 := 24) dX6_takeKindList_16 (by decide) ?_ ?_
      · exact k_Reader_takeKindList_24 Γ d _ v_takeKind hv_takeKind r2 hr2 a_1 X14
      · refine TC.aload_n dX6_takeKindList_19 rfl 0 rfl ?_
        refine TC.iconst (w := 3) dX6_takeKindList_20 (by decide) ?_
        refine TC.callV_v 46 (As1 := [.int 3]) (rest := []) (k_Reader_refuse Γ (3 : Int32) X14) ka_X6_refuse kv_X6_refuse oC_46 rfl k800 rfl rfl rfl rfl (show 3 + 1 ≤ (7 + 3 * d) ∧ 8 + (2 + 11) + 110 ≤ (270 + 120 * d) from ⟨by omega, by omega⟩) (Nat.le_of_ble_eq_true rfl) dX6_takeKindList_21 (fun _ X15 => ?_)
        exact k_Reader_takeKindList_24 Γ d _ v_takeKind hv_takeKind r2 hr2 a_1 X15
noncomputable def g_Reader_takeKindList (v_takeKind : St → Option (Int32 × St)) (X : St) : Option (Int32 × St) :=
  g_Reader_takeKindList_2 v_takeKind BIG (0 : Int32) X
set_option maxHeartbeats 4000000 in
set_option maxRecDepth 100000 in
theorem k_Reader_takeKindList (Γ : GxC) (d : Nat) (v_takeKind : St → Option (Int32 × St)) (hv_takeKind : ∀ (X : St), TCI YC Γ yX6_takeKind cX6_takeKind 2 "BlameCourt$Reade\x72" (some .int) { frames := (6 + 3 * d), cells := 0, slots := 0, locals := (230 + 120 * d) } [.ref (Γ.2.2.2.1 46)] X (v_takeKind X)) (X : St) : TCV YC Γ yX6_takeKindList cX6_takeKindList 3 "BlameCourt$Reade\x72" none { frames := (7 + 3 * d), cells := 0, slots := 0, locals := (270 + 120 * d) } [.ref (Γ.2.2.2.1 46)] X (g_Reader_takeKindList v_takeKind X) := by
  refine TCV.of (by decide) (Nat.le_of_ble_eq_true rfl) rfl ?_
  show TC YC Γ cX6_takeKindList 3 "BlameCourt$Reade\x72" none { frames := (7 + 3 * d), cells := 0, slots := 0, locals := (270 + 120 * d) } _ kV 0 [(0, .ref (Γ.2.2.2.1 46))] [] X (g_Reader_takeKindList v_takeKind X)
  unfold g_Reader_takeKindList
  refine TC.iconst (w := 0) dX6_takeKindList_0 (by decide) ?_
  refine TC.istore_n (lv1 := [(1, .int 0), (0, .ref (Γ.2.2.2.1 46))]) dX6_takeKindList_1 rfl (by decide) rfl ?_
  refine TC.sub [1, 0] rfl ?_
  exact k_Reader_takeKindList_2 Γ d _ v_takeKind hv_takeKind BIG (0 : Int32) X
noncomputable def g_Reader_takeFunctionKind_34 (v_takeKind : St → Option (Int32 × St)) (a_1 : Int32) (X : St) : Option (Int32 × St) :=
  bnd (g_Reader_want (41 : Int32) X) fun _ X5 =>
  letV (X5.1 46 2) fun x6 =>
  letV (x6 - (1 : Int32)) fun x7 =>
  letV (wI X5 46 2 x7) fun X8 =>
  bnd (v_takeKind X8) fun x9 X10 =>
  chk (refO YC (X10.2.2 46 1) 4 17 = true) (letV (X10.2.2 46 1 - 1) fun e11 =>
  letV (kY YC e11 0 - 3) fun e12 =>
  letV (X10.1 46 6) fun x13 =>
  letV (x13 - a_1) fun x14 =>
  bnd (g_Kinds_functionOf e12 54 a_1 x14 x9 X10) fun x15 X16 =>
  letV (wI X16 46 6 a_1) fun X17 =>
  letV (X17.1 46 2) fun x18 =>
  letV (x18 - (1 : Int32)) fun x19 =>
  letV (wI X17 46 2 x19) fun X20 =>
  some (x15, X20))
set_option maxHeartbeats 4000000 in
set_option maxRecDepth 100000 in
theorem k_Reader_takeFunctionKind_34 (Γ : GxC) (d : Nat) (As : List Value) (v_takeKind : St → Option (Int32 × St)) (hv_takeKind : ∀ (X : St), TCI YC Γ yX6_takeKind cX6_takeKind 2 "BlameCourt$Reade\x72" (some .int) { frames := (6 + 3 * d), cells := 0, slots := 0, locals := (230 + 120 * d) } [.ref (Γ.2.2.2.1 46)] X (v_takeKind X)) (a_1 : Int32) (X : St) : TC YC Γ cX6_takeFunctionKind 4 "BlameCourt$Reade\x72" (some .int) { frames := (8 + 3 * d), cells := 0, slots := 0, locals := (310 + 120 * d) } As kI 34 [(0, .ref (Γ.2.2.2.1 46)), (1, .int a_1)] [] X (g_Reader_takeFunctionKind_34 v_takeKind a_1 X) := by
  unfold g_Reader_takeFunctionKind_34
  refine TC.aload_n dX6_takeFunctionKind_34 rfl 0 rfl ?_
  refine TC.bipush (w := 41) dX6_takeFunctionKind_35 (by decide) ?_
  refine TC.callV_v 46 (As1 := [.int 41]) (rest := []) (k_Reader_want Γ (41 : Int32) X) ka_X6_want kv_X6_want oC_46 rfl k817 rfl rfl rfl rfl (show 5 + 1 ≤ (8 + 3 * d) ∧ 8 + (2 + 11) + 190 ≤ (310 + 120 * d) from ⟨by omega, by omega⟩) (Nat.le_of_ble_eq_true rfl) dX6_takeFunctionKind_37 (fun _ X5 => ?_)
  refine TC.aload_n dX6_takeFunctionKind_40 rfl 0 rfl ?_
  refine TC.dupr dX6_takeFunctionKind_41 ?_
  refine gC5_2 k418 dX6_takeFunctionKind_42 (fun x6 => ?_)
  refine TC.iconst (w := 1) dX6_takeFunctionKind_45 (by decide) ?_
  refine TC.isub dX6_takeFunctionKind_46 (fun x7 => ?_)
  refine pC5_2 k418 dX6_takeFunctionKind_47 (fun X8 => ?_)
  refine TC.aload_n dX6_takeFunctionKind_50 rfl 0 rfl ?_
  refine TC.callV_i 46 (As1 := []) (rest := []) (hv_takeKind X8) ka_X6_takeKind kv_X6_takeKind oC_46 rfl k841 rfl rfl rfl rfl (show (6 + 3 * d) + 1 ≤ (8 + 3 * d) ∧ 8 + (2 + 11) + (230 + 120 * d) ≤ (310 + 120 * d) from ⟨by omega, by omega⟩) (Nat.le_of_ble_eq_true rfl) dX6_takeFunctionKind_51 (fun x9 X10 => ?_)
  refine TC.istore_n (lv1 := [(2, .int x9), (0, .ref (Γ.2.2.2.1 46)), (1, .int a_1)]) dX6_takeFunctionKind_54 rfl (by decide) rfl ?_
  refine TC.aload_n dX6_takeFunctionKind_55 rfl 1 rfl ?_
  refine mC5_1 k417 dX6_takeFunctionKind_56 (fun e11 he11 => ?_)
  refine vC4_0 e11 he11 k281 dX6_takeFunctionKind_59 (fun e12 he12 => ?_)
  refine TC.aload_n dX6_takeFunctionKind_62 rfl 1 rfl ?_
  refine cC5_13 k430 dX6_takeFunctionKind_63 ?_
  refine TC.iload_n dX6_takeFunctionKind_66 rfl 2 rfl ?_
  refine TC.aload_n dX6_takeFunctionKind_67 rfl 1 rfl ?_
  refine gC5_6 k431 dX6_takeFunctionKind_68 (fun x13 => ?_)
  refine TC.iload_n dX6_takeFunctionKind_71 rfl 2 rfl ?_
  refine TC.isub dX6_takeFunctionKind_72 (fun x14 => ?_)
  refine TC.iload_n dX6_takeFunctionKind_73 rfl 0 rfl ?_
  refine TC.callV_i e12 (As1 := [.ref (Γ.2.2.2.1 54), .int a_1, .int x14, .int x9]) (rest := []) (k_Kinds_functionOf Γ e12 he12 54 ⟨rfl, rfl, rfl⟩ a_1 x14 x9 X10) ka_X3_functionOf kv_X3_functionOf he12 rfl k857 rfl rfl rfl rfl (show 4 + 1 ≤ (8 + 3 * d) ∧ 8 + (7 + 11) + 150 ≤ (310 + 120 * d) from ⟨by omega, by omega⟩) (Nat.le_of_ble_eq_true rfl) dX6_takeFunctionKind_74 (fun x15 X16 => ?_)
  refine TC.istore_n (lv1 := [(3, .int x15), (2, .int x9), (0, .ref (Γ.2.2.2.1 46)), (1, .int a_1)]) dX6_takeFunctionKind_77 rfl (by decide) rfl ?_
  refine TC.aload_n dX6_takeFunctionKind_78 rfl 2 rfl ?_
  refine TC.iload_n dX6_takeFunctionKind_79 rfl 3 rfl ?_
  refine pC5_6 k431 dX6_takeFunctionKind_80 (fun X17 => ?_)
  refine TC.aload_n dX6_takeFunctionKind_83 rfl 2 rfl ?_
  refine TC.dupr dX6_takeFunctionKind_84 ?_
  refine gC5_2 k418 dX6_takeFunctionKind_85 (fun x18 => ?_)
  refine TC.iconst (w := 1) dX6_takeFunctionKind_88 (by decide) ?_
  refine TC.isub dX6_takeFunctionKind_89 (fun x19 => ?_)
  refine pC5_2 k418 dX6_takeFunctionKind_90 (fun X20 => ?_)
  refine TC.iload_n dX6_takeFunctionKind_93 rfl 0 rfl ?_
  exact TC.ret_i rfl dX6_takeFunctionKind_94
noncomputable def g_Reader_takeFunctionKind (v_takeKind : St → Option (Int32 × St)) (X : St) : Option (Int32 × St) :=
  letV (X.1 46 6) fun x1 =>
  bnd (g_Reader_enter (275 : Int32) X) fun _ X2 =>
  bnd (g_Reader_enter (40 : Int32) X2) fun _ X3 =>
  letV (X3.1 47 3) fun x4 =>
  if x4.toInt = 41 then
    g_Reader_takeFunctionKind_34 v_takeKind x1 X3
  else
    bnd (g_Reader_takeKindList v_takeKind X3) fun _ X21 =>
    g_Reader_takeFunctionKind_34 v_takeKind x1 X21
set_option maxHeartbeats 4000000 in
set_option maxRecDepth 100000 in
theorem k_Reader_takeFunctionKind (Γ : GxC) (d : Nat) (v_takeKind : St → Option (Int32 × St)) (hv_takeKind : ∀ (X : St), TCI YC Γ yX6_takeKind cX6_takeKind 2 "BlameCourt$Reade\x72" (some .int) { frames := (6 + 3 * d), cells := 0, slots := 0, locals := (230 + 120 * d) } [.ref (Γ.2.2.2.1 46)] X (v_takeKind X)) (X : St) : TCI YC Γ yX6_takeFunctionKind cX6_takeFunctionKind 4 "BlameCourt$Reade\x72" (some .int) { frames := (8 + 3 * d), cells := 0, slots := 0, locals := (310 + 120 * d) } [.ref (Γ.2.2.2.1 46)] X (g_Reader_takeFunctionKind v_takeKind X) := by
  refine TCI.of (by decide) (Nat.le_of_ble_eq_true rfl) rfl ?_
  show TC YC Γ cX6_takeFunctionKind 4 "BlameCourt$Reade\x72" (some .int) { frames := (8 + 3 * d), cells := 0, slots := 0, locals := (310 + 120 * d) } _ kI 0 [(0, .ref (Γ.2.2.2.1 46))] [] X (g_Reader_takeFunctionKind v_takeKind X)
  unfold g_Reader_takeFunctionKind
  refine TC.aload_n dX6_takeFunctionKind_0 rfl 0 rfl ?_
  refine gC5_6 k431 dX6_takeFunctionKind_1 (fun x1 => ?_)
  refine TC.istore_n (lv1 := [(1, .int x1), (0, .ref (Γ.2.2.2.1 46))]) dX6_takeFunctionKind_4 rfl (by decide) rfl ?_
  refine TC.aload_n dX6_takeFunctionKind_5 rfl 1 rfl ?_
  refine TC.sipush (w := 275) dX6_takeFunctionKind_6 (by decide) ?_
  refine TC.callV_v 46 (As1 := [.int 275]) (rest := []) (k_Reader_enter Γ (275 : Int32) X) ka_X6_enter kv_X6_enter oC_46 rfl k825 rfl rfl rfl rfl (show 5 + 1 ≤ (8 + 3 * d) ∧ 8 + (2 + 11) + 190 ≤ (310 + 120 * d) from ⟨by omega, by omega⟩) (Nat.le_of_ble_eq_true rfl) dX6_takeFunctionKind_9 (fun _ X2 => ?_)
  refine TC.aload_n dX6_takeFunctionKind_12 rfl 1 rfl ?_
  refine TC.bipush (w := 40) dX6_takeFunctionKind_13 (by decide) ?_
  refine TC.callV_v 46 (As1 := [.int 40]) (rest := []) (k_Reader_enter Γ (40 : Int32) X2) ka_X6_enter kv_X6_enter oC_46 rfl k825 rfl rfl rfl rfl (show 5 + 1 ≤ (8 + 3 * d) ∧ 8 + (2 + 11) + 190 ≤ (310 + 120 * d) from ⟨by omega, by omega⟩) (Nat.le_of_ble_eq_true rfl) dX6_takeFunctionKind_15 (fun _ X3 => ?_)
  refine TC.aload_n dX6_takeFunctionKind_18 rfl 1 rfl ?_
  refine cC5_0 k416 dX6_takeFunctionKind_19 ?_
  refine gC7_3 k390 dX6_takeFunctionKind_22 (fun x4 => ?_)
  refine TC.bipush (w := 41) dX6_takeFunctionKind_25 (by decide) ?_
  refine TC.icmp_eq (pc1 := 34) dX6_takeFunctionKind_27 (by decide) rfl ?_ ?_
  · refine TC.sub [1, 0] rfl ?_
    exact k_Reader_takeFunctionKind_34 Γ d _ v_takeKind hv_takeKind x1 X3
  · refine TC.aload_n dX6_takeFunctionKind_30 rfl 1 rfl ?_
    refine TC.callV_v 46 (As1 := []) (rest := []) (k_Reader_takeKindList Γ d v_takeKind hv_takeKind X3) ka_X6_takeKindList kv_X6_takeKindList oC_46 rfl k853 rfl rfl rfl rfl (show (7 + 3 * d) + 1 ≤ (8 + 3 * d) ∧ 8 + (3 + 11) + (270 + 120 * d) ≤ (310 + 120 * d) from ⟨by omega, by omega⟩) (Nat.le_of_ble_eq_true rfl) dX6_takeFunctionKind_31 (fun _ X21 => ?_)
    refine TC.sub [1, 0] rfl ?_
    exact k_Reader_takeFunctionKind_34 Γ d _ v_takeKind hv_takeKind x1 X21
noncomputable def g_Reader_takeKind_b (v_takeKind : St → Option (Int32 × St)) (X : St) : Option (Int32 × St) :=
  bnd (g_Reader_beginsKind X) fun x1 X2 =>
  if x1.toInt = 0 then
    bnd (g_Reader_refuse (1 : Int32) X2) fun _ X22 =>
    some (2, X22)
  else
    letV (X2.1 47 3) fun x3 =>
    if x3.toInt = 275 then
      bnd (g_Reader_takeFunctionKind v_takeKind X2) fun x20 X21 =>
      some (x20, X21)
    else
      letV (X2.1 47 3) fun x4 =>
      if x4.toInt = 91 then
        bnd (g_Reader_enter (91 : Int32) X2) fun _ X9 =>
        bnd (v_takeKind X9) fun x10 X11 =>
        bnd (g_Reader_want (93 : Int32) X11) fun _ X12 =>
        letV (X12.1 46 2) fun x13 =>
        letV (x13 - (1 : Int32)) fun x14 =>
        letV (wI X12 46 2 x14) fun X15 =>
        chk (refO YC (X15.2.2 46 1) 4 17 = true) (letV (X15.2.2 46 1 - 1) fun e16 =>
        letV (kY YC e16 0 - 3) fun e17 =>
        bnd (g_Kinds_rowOf e17 x10 X15) fun x18 X19 =>
        some (x18, X19))
      else
        letV (X2.1 47 3) fun x5 =>
        letV ((0 : Int32) + x5) fun x6 =>
        letV (x6 - (272 : Int32)) fun x7 =>
        bnd (g_Tokens_advance X2) fun _ X8 =>
        some (x7, X8)
set_option maxHeartbeats 4000000 in
set_option maxRecDepth 100000 in
theorem k_Reader_takeKind_b (Γ : GxC) (d : Nat) (v_takeKind : St → Option (Int32 × St)) (hv_takeKind : ∀ (X : St), TCI YC Γ yX6_takeKind cX6_takeKind 2 "BlameCourt$Reade\x72" (some .int) { frames := (6 + 3 * d), cells := 0, slots := 0, locals := (230 + 120 * d) } [.ref (Γ.2.2.2.1 46)] X (v_takeKind X)) (X : St) : TCI YC Γ yX6_takeKind cX6_takeKind 2 "BlameCourt$Reade\x72" (some .int) { frames := (6 + 3 * (d + 1)), cells := 0, slots := 0, locals := (230 + 120 * (d + 1)) } [.ref (Γ.2.2.2.1 46)] X (g_Reader_takeKind_b v_takeKind X) := by
  refine TCI.of (by decide) (Nat.le_of_ble_eq_true rfl) rfl ?_
  show TC YC Γ cX6_takeKind 2 "BlameCourt$Reade\x72" (some .int) { frames := (6 + 3 * (d + 1)), cells := 0, slots := 0, locals := (230 + 120 * (d + 1)) } _ kI 0 [(0, .ref (Γ.2.2.2.1 46))] [] X (g_Reader_takeKind_b v_takeKind X)
  unfold g_Reader_takeKind_b
  refine TC.aload_n dX6_takeKind_0 rfl 0 rfl ?_
  refine TC.callV_i 46 (As1 := []) (rest := []) (k_Reader_beginsKind Γ X) ka_X6_beginsKind kv_X6_beginsKind oC_46 rfl k845 rfl rfl rfl rfl (show 2 + 1 ≤ (6 + 3 * (d + 1)) ∧ 8 + (1 + 11) + 70 ≤ (230 + 120 * (d + 1)) from ⟨by omega, by omega⟩) (Nat.le_of_ble_eq_true rfl) dX6_takeKind_1 (fun x1 X2 => ?_)
  refine TC.if_ne (pc1 := 14) dX6_takeKind_4 (by decide) ?_ ?_
  · refine TC.aload_n dX6_takeKind_14 rfl 0 rfl ?_
    refine cC5_0 k416 dX6_takeKind_15 ?_
    refine gC7_3 k390 dX6_takeKind_18 (fun x3 => ?_)
    refine TC.sipush (w := 275) dX6_takeKind_21 (by decide) ?_
    refine TC.icmp_ne (pc1 := 32) dX6_takeKind_24 (by decide) rfl ?_ ?_
    · refine TC.aload_n dX6_takeKind_32 rfl 0 rfl ?_
      refine cC5_0 k416 dX6_takeKind_33 ?_
      refine gC7_3 k390 dX6_takeKind_36 (fun x4 => ?_)
      refine TC.bipush (w := 91) dX6_takeKind_39 (by decide) ?_
      refine TC.icmp_ne (pc1 := 83) dX6_takeKind_41 (by decide) rfl ?_ ?_
      · refine TC.iconst (w := 0) dX6_takeKind_83 (by decide) ?_
        refine TC.aload_n dX6_takeKind_84 rfl 0 rfl ?_
        refine cC5_0 k416 dX6_takeKind_85 ?_
        refine gC7_3 k390 dX6_takeKind_88 (fun x5 => ?_)
        refine TC.iadd dX6_takeKind_91 (fun x6 => ?_)
        refine TC.sipush (w := 272) dX6_takeKind_92 (by decide) ?_
        refine TC.isub dX6_takeKind_95 (fun x7 => ?_)
        refine TC.istore_n (lv1 := [(1, .int x7), (0, .ref (Γ.2.2.2.1 46))]) dX6_takeKind_96 rfl (by decide) rfl ?_
        refine TC.aload_n dX6_takeKind_97 rfl 1 rfl ?_
        refine cC5_0 k416 dX6_takeKind_98 ?_
        refine TC.callV_v 47 (As1 := []) (rest := []) (k_Tokens_advance Γ X2) ka_X9_advance kv_X9_advance oC_47 rfl k816 rfl rfl rfl rfl (show 4 + 1 ≤ (6 + 3 * (d + 1)) ∧ 8 + (3 + 11) + 150 ≤ (230 + 120 * (d + 1)) from ⟨by omega, by omega⟩) (Nat.le_of_ble_eq_true rfl) dX6_takeKind_101 (fun _ X8 => ?_)
        refine TC.iload_n dX6_takeKind_104 rfl 0 rfl ?_
        exact TC.ret_i rfl dX6_takeKind_105
      · refine TC.aload_n dX6_takeKind_44 rfl 0 rfl ?_
        refine TC.bipush (w := 91) dX6_takeKind_45 (by decide) ?_
        refine TC.callV_v 46 (As1 := [.int 91]) (rest := []) (k_Reader_enter Γ (91 : Int32) X2) ka_X6_enter kv_X6_enter oC_46 rfl k825 rfl rfl rfl rfl (show 5 + 1 ≤ (6 + 3 * (d + 1)) ∧ 8 + (2 + 11) + 190 ≤ (230 + 120 * (d + 1)) from ⟨by omega, by omega⟩) (Nat.le_of_ble_eq_true rfl) dX6_takeKind_47 (fun _ X9 => ?_)
        refine TC.aload_n dX6_takeKind_50 rfl 0 rfl ?_
        refine TC.callV_i 46 (As1 := []) (rest := []) (hv_takeKind X9) ka_X6_takeKind kv_X6_takeKind oC_46 rfl k841 rfl rfl rfl rfl (show (6 + 3 * d) + 1 ≤ (6 + 3 * (d + 1)) ∧ 8 + (2 + 11) + (230 + 120 * d) ≤ (230 + 120 * (d + 1)) from ⟨by omega, by omega⟩) (Nat.le_of_ble_eq_true rfl) dX6_takeKind_51 (fun x10 X11 => ?_)
        refine TC.istore_n (lv1 := [(1, .int x10), (0, .ref (Γ.2.2.2.1 46))]) dX6_takeKind_54 rfl (by decide) rfl ?_
        refine TC.aload_n dX6_takeKind_55 rfl 1 rfl ?_
        refine TC.bipush (w := 93) dX6_takeKind_56 (by decide) ?_
        refine TC.callV_v 46 (As1 := [.int 93]) (rest := []) (k_Reader_want Γ (93 : Int32) X11) ka_X6_want kv_X6_want oC_46 rfl k817 rfl rfl rfl rfl (show 5 + 1 ≤ (6 + 3 * (d + 1)) ∧ 8 + (2 + 11) + 190 ≤ (230 + 120 * (d + 1)) from ⟨by omega, by omega⟩) (Nat.le_of_ble_eq_true rfl) dX6_takeKind_58 (fun _ X12 => ?_)
        refine TC.aload_n dX6_takeKind_61 rfl 1 rfl ?_
        refine TC.dupr dX6_takeKind_62 ?_
        refine gC5_2 k418 dX6_takeKind_63 (fun x13 => ?_)
        refine TC.iconst (w := 1) dX6_takeKind_66 (by decide) ?_
        refine TC.isub dX6_takeKind_67 (fun x14 => ?_)
        refine pC5_2 k418 dX6_takeKind_68 (fun X15 => ?_)
        refine TC.aload_n dX6_takeKind_71 rfl 1 rfl ?_
        refine mC5_1 k417 dX6_takeKind_72 (fun e16 he16 => ?_)
        refine vC4_0 e16 he16 k281 dX6_takeKind_75 (fun e17 he17 => ?_)
        refine TC.iload_n dX6_takeKind_78 rfl 0 rfl ?_
        refine TC.callV_i e17 (As1 := [.int x10]) (rest := []) (k_Kinds_rowOf Γ e17 he17 x10 X15) ka_X3_rowOf kv_X3_rowOf he17 rfl k858 rfl rfl rfl rfl (show 4 + 1 ≤ (6 + 3 * (d + 1)) ∧ 8 + (3 + 11) + 150 ≤ (230 + 120 * (d + 1)) from ⟨by omega, by omega⟩) (Nat.le_of_ble_eq_true rfl) dX6_takeKind_79 (fun x18 X19 => ?_)
        exact TC.ret_i rfl dX6_takeKind_82
    · refine TC.aload_n dX6_takeKind_27 rfl 0 rfl ?_
      refine TC.callV_i 46 (As1 := []) (rest := []) (k_Reader_takeFunctionKind Γ d v_takeKind hv_takeKind X2) ka_X6_takeFunctionKind kv_X6_takeFunctionKind oC_46 rfl k849 rfl rfl rfl rfl (show (8 + 3 * d) + 1 ≤ (6 + 3 * (d + 1)) ∧ 8 + (4 + 11) + (310 + 120 * d) ≤ (230 + 120 * (d + 1)) from ⟨by omega, by omega⟩) (Nat.le_of_ble_eq_true rfl) dX6_takeKind_28 (fun x20 X21 => ?_)
      exact TC.ret_i rfl dX6_takeKind_31
  · refine TC.aload_n dX6_takeKind_7 rfl 0 rfl ?_
    refine TC.iconst (w := 1) dX6_takeKind_8 (by decide) ?_
    refine TC.callV_v 46 (As1 := [.int 1]) (rest := []) (k_Reader_refuse Γ (1 : Int32) X2) ka_X6_refuse kv_X6_refuse oC_46 rfl k800 rfl rfl rfl rfl (show 3 + 1 ≤ (6 + 3 * (d + 1)) ∧ 8 + (2 + 11) + 110 ≤ (230 + 120 * (d + 1)) from ⟨by omega, by omega⟩) (Nat.le_of_ble_eq_true rfl) dX6_takeKind_9 (fun _ X22 => ?_)
    refine TC.iconst (w := 2) dX6_takeKind_12 (by decide) ?_
    exact TC.ret_i rfl dX6_takeKind_13
noncomputable def rec_kind (n : Nat) : (St → Option (Int32 × St)) := lp (γ := (St → Option (Int32 × St))) (fun _ => none) (fun z => g_Reader_takeKind_b z) n
set_option maxHeartbeats 4000000 in
theorem krec_kind (Γ : GxC) : ∀ n, (∀ (X : St), TCI YC Γ yX6_takeKind cX6_takeKind 2 "BlameCourt$Reade\x72" (some .int) { frames := (6 + 3 * n), cells := 0, slots := 0, locals := (230 + 120 * n) } [.ref (Γ.2.2.2.1 46)] X ((rec_kind n) X)) := by
  intro n
  unfold rec_kind
  refine lp_indN (γ := (St → Option (Int32 × St))) (P := fun (n : Nat) (z : (St → Option (Int32 × St))) => (∀ (X : St), TCI YC Γ yX6_takeKind cX6_takeKind 2 "BlameCourt$Reade\x72" (some .int) { frames := (6 + 3 * n), cells := 0, slots := 0, locals := (230 + 120 * n) } [.ref (Γ.2.2.2.1 46)] X (z X))) (fun _ => TCI.no) ?_ n
  intro n z hz
  exact fun X => k_Reader_takeKind_b Γ n z hz X
noncomputable def g_Reader_takeKind : St → Option (Int32 × St) := (rec_kind 64)
theorem k_Reader_takeKind (Γ : GxC) : ∀ (X : St), TCI YC Γ yX6_takeKind cX6_takeKind 2 "BlameCourt$Reade\x72" (some .int) { frames := 198, cells := 0, slots := 0, locals := 7910 } [.ref (Γ.2.2.2.1 46)] X (g_Reader_takeKind X) := (krec_kind Γ 64)
noncomputable def g_Reader_takeParams_173 (a_1 : Int32) (X : St) : Option (Int32 × St) :=
  chk (refO YC (X.2.2 46 1) 4 17 = true) (letV (X.2.2 46 1 - 1) fun e3 =>
  letV (kY YC e3 10 - 3) fun e4 =>
  letV (X.1 46 9) fun x5 =>
  chk (inR a_1 40) (letV (wI X e4 (ix a_1) x5) fun X6 =>
  bnd (g_Reader_want (41 : Int32) X6) fun _ X7 =>
  letV (X7.1 46 2) fun x8 =>
  letV (x8 - (1 : Int32)) fun x9 =>
  letV (wI X7 46 2 x9) fun X10 =>
  some (0, X10)))
set_option maxHeartbeats 4000000 in
set_option maxRecDepth 100000 in
theorem k_Reader_takeParams_173 (Γ : GxC) (As : List Value) (a_1 : Int32) (X : St) : TC YC Γ cX6_takeParams 5 "BlameCourt$Reade\x72" none { frames := 200, cells := 0, slots := 0, locals := 7990 } As kV 173 [(0, .ref (Γ.2.2.2.1 46)), (1, .int a_1)] [] X (g_Reader_takeParams_173 a_1 X) := by
  unfold g_Reader_takeParams_173
  refine TC.aload_n dX6_takeParams_173 rfl 0 rfl ?_
  refine mC5_1 k417 dX6_takeParams_174 (fun e3 he3 => ?_)
  refine vC4_10 e3 he3 k303 dX6_takeParams_177 (fun e4 he4 => ?_)
  refine TC.iload_n dX6_takeParams_180 rfl 1 rfl ?_
  refine TC.aload_n dX6_takeParams_181 rfl 0 rfl ?_
  refine gC5_9 k425 dX6_takeParams_182 (fun x5 => ?_)
  refine TC.iast e4 he4 dX6_takeParams_185 (fun X6 => ?_)
  refine TC.aload_n dX6_takeParams_186 rfl 0 rfl ?_
  refine TC.bipush (w := 41) dX6_takeParams_187 (by decide) ?_
  refine TC.callV_v 46 (As1 := [.int 41]) (rest := []) (k_Reader_want Γ (41 : Int32) X6) ka_X6_want kv_X6_want oC_46 rfl k817 rfl rfl rfl rfl (show 5 + 1 ≤ 200 ∧ 8 + (2 + 11) + 190 ≤ 7990 from ⟨by omega, by omega⟩) (Nat.le_of_ble_eq_true rfl) dX6_takeParams_189 (fun _ X7 => ?_)
  refine TC.aload_n dX6_takeParams_192 rfl 0 rfl ?_
  refine TC.dupr dX6_takeParams_193 ?_
  refine gC5_2 k418 dX6_takeParams_194 (fun x8 => ?_)
  refine TC.iconst (w := 1) dX6_takeParams_197 (by decide) ?_
  refine TC.isub dX6_takeParams_198 (fun x9 => ?_)
  refine pC5_2 k418 dX6_takeParams_199 (fun X10 => ?_)
  exact TC.ret_v rfl dX6_takeParams_202
noncomputable def g_Reader_takeParams_144 (r13 : Int32 → Int32 → St → Option (Int32 × St)) (a_1 : Int32) (a_2 : Int32) (b_0 : Int32) (b_1 : Int32) (g_2 : Nat) (X : St) : Option (Int32 × St) :=
  chk (inR b_1 160) (letV (wI X g_2 (ix b_1) b_0) fun X23 =>
  letV (X23.1 47 3) fun x24 =>
  if x24.toInt = 44 then
    bnd (g_Tokens_advance X23) fun _ X25 =>
    letV (a_2 + Int32.ofInt (1)) fun x26 =>
    r13 a_1 x26 X25
  else
    g_Reader_takeParams_173 a_1 X23)
set_option maxHeartbeats 4000000 in
set_option maxRecDepth 100000 in
theorem k_Reader_takeParams_144 (Γ : GxC) (As : List Value) (r13 : Int32 → Int32 → St → Option (Int32 × St)) (hr13 : ∀ (a_1 : Int32) (a_2 : Int32) (X : St), TC YC Γ cX6_takeParams 5 "BlameCourt$Reade\x72" none { frames := 200, cells := 0, slots := 0, locals := 7990 } As kV 13 [(0, .ref (Γ.2.2.2.1 46)), (1, .int a_1), (2, .int a_2)] [] X (r13 a_1 a_2 X)) (a_1 : Int32) (a_2 : Int32) (b_0 : Int32) (b_1 : Int32) (g_2 : Nat) (hg_2 : isA YC g_2 1 160 .int) (X : St) : TC YC Γ cX6_takeParams 5 "BlameCourt$Reade\x72" none { frames := 200, cells := 0, slots := 0, locals := 7990 } As kV 144 [(0, .ref (Γ.2.2.2.1 46)), (1, .int a_1), (2, .int a_2)] [.int b_0, .int b_1, .ref (Γ.2.2.2.1 g_2)] X (g_Reader_takeParams_144 r13 a_1 a_2 b_0 b_1 g_2 X) := by
  unfold g_Reader_takeParams_144
  refine TC.iast g_2 hg_2 dX6_takeParams_144 (fun X23 => ?_)
  refine TC.aload_n dX6_takeParams_145 rfl 0 rfl ?_
  refine cC5_0 k416 dX6_takeParams_146 ?_
  refine gC7_3 k390 dX6_takeParams_149 (fun x24 => ?_)
  refine TC.bipush (w := 44) dX6_takeParams_152 (by decide) ?_
  refine TC.icmp_eq (pc1 := 160) dX6_takeParams_154 (by decide) rfl ?_ ?_
  · refine TC.aload_n dX6_takeParams_160 rfl 0 rfl ?_
    refine cC5_0 k416 dX6_takeParams_161 ?_
    refine TC.callV_v 47 (As1 := []) (rest := []) (k_Tokens_advance Γ X23) ka_X9_advance kv_X9_advance oC_47 rfl k816 rfl rfl rfl rfl (show 4 + 1 ≤ 200 ∧ 8 + (3 + 11) + 150 ≤ 7990 from ⟨by omega, by omega⟩) (Nat.le_of_ble_eq_true rfl) dX6_takeParams_164 (fun _ X25 => ?_)
    refine TC.iinc dX6_takeParams_167 2 rfl (by decide) (lvf := fun x26 => [(2, .int x26), (0, .ref (Γ.2.2.2.1 46)), (1, .int a_1)]) (fun _ => rfl) (fun x26 => ?_)
    refine TC.goto (pc1 := 13) dX6_takeParams_170 (by decide) ?_
    refine TC.sub [1, 2, 0] rfl ?_
    exact hr13 a_1 x26 X25
  · refine TC.goto (pc1 := 173) dX6_takeParams_157 (by decide) ?_
    refine TC.sub [0, 1] rfl ?_
    exact k_Reader_takeParams_173 Γ _ a_1 X23
noncomputable def g_Reader_takeParams_95 (r13 : Int32 → Int32 → St → Option (Int32 × St)) (a_1 : Int32) (a_2 : Int32) (l_3 : Int64) (X : St) : Option (Int32 × St) :=
  bnd (g_Reader_want (258 : Int32) X) fun _ X14 =>
  letV (X14.1 46 3) fun x15 =>
  if x15.toInt = 0 then
    bnd (g_Reader_pushLocal l_3 X14) fun _ X16 =>
    chk (refO YC (X16.2.2 46 1) 4 17 = true) (letV (X16.2.2 46 1 - 1) fun e17 =>
    letV (kY YC e17 11 - 3) fun e18 =>
    letV (a_1 * (4 : Int32)) fun x19 =>
    letV (x19 + a_2) fun x20 =>
    bnd (g_Reader_tookColon X16) fun x21 X22 =>
    if x21.toInt = 0 then
      g_Reader_takeParams_144 r13 a_1 a_2 (2 : Int32) x20 e18 X22
    else
      bnd (g_Reader_takeKind X22) fun x27 X28 =>
      g_Reader_takeParams_144 r13 a_1 a_2 x27 x20 e18 X28)
  else
    g_Reader_takeParams_173 a_1 X14
set_option maxHeartbeats 4000000 in
set_option maxRecDepth 100000 in
theorem k_Reader_takeParams_95 (Γ : GxC) (As : List Value) (r13 : Int32 → Int32 → St → Option (Int32 × St)) (hr13 : ∀ (a_1 : Int32) (a_2 : Int32) (X : St), TC YC Γ cX6_takeParams 5 "BlameCourt$Reade\x72" none { frames := 200, cells := 0, slots := 0, locals := 7990 } As kV 13 [(0, .ref (Γ.2.2.2.1 46)), (1, .int a_1), (2, .int a_2)] [] X (r13 a_1 a_2 X)) (a_1 : Int32) (a_2 : Int32) (l_3 : Int64) (X : St) : TC YC Γ cX6_takeParams 5 "BlameCourt$Reade\x72" none { frames := 200, cells := 0, slots := 0, locals := 7990 } As kV 95 [(0, .ref (Γ.2.2.2.1 46)), (1, .int a_1), (2, .int a_2), (3, .long l_3)] [] X (g_Reader_takeParams_95 r13 a_1 a_2 l_3 X) := by
  unfold g_Reader_takeParams_95
  refine TC.aload_n dX6_takeParams_95 rfl 0 rfl ?_
  refine TC.sipush (w := 258) dX6_takeParams_96 (by decide) ?_
  refine TC.callV_v 46 (As1 := [.int 258]) (rest := []) (k_Reader_want Γ (258 : Int32) X) ka_X6_want kv_X6_want oC_46 rfl k817 rfl rfl rfl rfl (show 5 + 1 ≤ 200 ∧ 8 + (2 + 11) + 190 ≤ 7990 from ⟨by omega, by omega⟩) (Nat.le_of_ble_eq_true rfl) dX6_takeParams_99 (fun _ X14 => ?_)
  refine TC.aload_n dX6_takeParams_102 rfl 0 rfl ?_
  refine gC5_3 k419 dX6_takeParams_103 (fun x15 => ?_)
  refine TC.if_eq (pc1 := 112) dX6_takeParams_106 (by decide) ?_ ?_
  · refine TC.aload_n dX6_takeParams_112 rfl 0 rfl ?_
    refine TC.lload_n dX6_takeParams_113 rfl 3 rfl ?_
    refine TC.callV_v 46 (As1 := [.long l_3]) (rest := []) (k_Reader_pushLocal Γ l_3 X14) ka_X6_pushLocal kv_X6_pushLocal oC_46 rfl k833 rfl rfl rfl rfl (show 2 + 1 ≤ 200 ∧ 8 + (3 + 11) + 70 ≤ 7990 from ⟨by omega, by omega⟩) (Nat.le_of_ble_eq_true rfl) dX6_takeParams_114 (fun _ X16 => ?_)
    refine TC.aload_n dX6_takeParams_117 rfl 0 rfl ?_
    refine mC5_1 k417 dX6_takeParams_118 (fun e17 he17 => ?_)
    refine vC4_11 e17 he17 k306 dX6_takeParams_121 (fun e18 he18 => ?_)
    refine TC.iload_n dX6_takeParams_124 rfl 1 rfl ?_
    refine TC.iconst (w := 4) dX6_takeParams_125 (by decide) ?_
    refine TC.imul dX6_takeParams_126 (fun x19 => ?_)
    refine TC.iload_n dX6_takeParams_127 rfl 2 rfl ?_
    refine TC.iadd dX6_takeParams_128 (fun x20 => ?_)
    refine TC.aload_n dX6_takeParams_129 rfl 0 rfl ?_
    refine TC.callV_i 46 (As1 := []) (rest := [.int x20, .ref (Γ.2.2.2.1 e18)]) (k_Reader_tookColon Γ X16) ka_X6_tookColon kv_X6_tookColon oC_46 rfl k837 rfl rfl rfl rfl (show 5 + 1 ≤ 200 ∧ 8 + (1 + 11) + 190 ≤ 7990 from ⟨by omega, by omega⟩) (Nat.le_of_ble_eq_true rfl) dX6_takeParams_130 (fun x21 X22 => ?_)
    refine TC.if_eq (pc1 := 143) dX6_takeParams_133 (by decide) ?_ ?_
    · refine TC.iconst (w := 2) dX6_takeParams_143 (by decide) ?_
      refine TC.sub [0, 1, 2] rfl ?_
      exact k_Reader_takeParams_144 Γ _ r13 hr13 a_1 a_2 (2 : Int32) x20 e18 he18 X22
    · refine TC.aload_n dX6_takeParams_136 rfl 0 rfl ?_
      refine TC.callV_i 46 (As1 := []) (rest := [.int x20, .ref (Γ.2.2.2.1 e18)]) (k_Reader_takeKind Γ X22) ka_X6_takeKind kv_X6_takeKind oC_46 rfl k841 rfl rfl rfl rfl (show 198 + 1 ≤ 200 ∧ 8 + (2 + 11) + 7910 ≤ 7990 from ⟨by omega, by omega⟩) (Nat.le_of_ble_eq_true rfl) dX6_takeParams_137 (fun x27 X28 => ?_)
      refine TC.goto (pc1 := 144) dX6_takeParams_140 (by decide) ?_
      refine TC.sub [0, 1, 2] rfl ?_
      exact k_Reader_takeParams_144 Γ _ r13 hr13 a_1 a_2 x27 x20 e18 he18 X28
  · refine TC.goto (pc1 := 173) dX6_takeParams_109 (by decide) ?_
    refine TC.sub [0, 1] rfl ?_
    exact k_Reader_takeParams_173 Γ _ a_1 X14
noncomputable def g_Reader_takeParams_72 (r13 : Int32 → Int32 → St → Option (Int32 × St)) (a_1 : Int32) (a_2 : Int32) (l_3 : Int64) (X : St) : Option (Int32 × St) :=
  letV (X.1 47 3) fun x13 =>
  if x13.toInt = 258 then
    if a_2.toInt < 4 then
      g_Reader_takeParams_95 r13 a_1 a_2 l_3 X
    else
      bnd (g_Reader_refuse (3 : Int32) X) fun _ X29 =>
      g_Reader_takeParams_95 r13 a_1 a_2 l_3 X29
  else
    g_Reader_takeParams_95 r13 a_1 a_2 l_3 X
set_option maxHeartbeats 4000000 in
set_option maxRecDepth 100000 in
theorem k_Reader_takeParams_72 (Γ : GxC) (As : List Value) (r13 : Int32 → Int32 → St → Option (Int32 × St)) (hr13 : ∀ (a_1 : Int32) (a_2 : Int32) (X : St), TC YC Γ cX6_takeParams 5 "BlameCourt$Reade\x72" none { frames := 200, cells := 0, slots := 0, locals := 7990 } As kV 13 [(0, .ref (Γ.2.2.2.1 46)), (1, .int a_1), (2, .int a_2)] [] X (r13 a_1 a_2 X)) (a_1 : Int32) (a_2 : Int32) (l_3 : Int64) (X : St) : TC YC Γ cX6_takeParams 5 "BlameCourt$Reade\x72" none { frames := 200, cells := 0, slots := 0, locals := 7990 } As kV 72 [(0, .ref (Γ.2.2.2.1 46)), (1, .int a_1), (2, .int a_2), (3, .long l_3)] [] X (g_Reader_takeParams_72 r13 a_1 a_2 l_3 X) := by
  unfold g_Reader_takeParams_72
  refine TC.aload_n dX6_takeParams_72 rfl 0 rfl ?_
  refine cC5_0 k416 dX6_takeParams_73 ?_
  refine gC7_3 k390 dX6_takeParams_76 (fun x13 => ?_)
  refine TC.sipush (w := 258) dX6_takeParams_79 (by decide) ?_
  refine TC.icmp_ne (pc1 := 95) dX6_takeParams_82 (by decide) rfl ?_ ?_
  · exact k_Reader_takeParams_95 Γ _ r13 hr13 a_1 a_2 l_3 X
  · refine TC.iload_n dX6_takeParams_85 rfl 2 rfl ?_
    refine TC.iconst (w := 4) dX6_takeParams_86 (by decide) ?_
    refine TC.icmp_lt (pc1 := 95) dX6_takeParams_87 (by decide) rfl ?_ ?_
    · exact k_Reader_takeParams_95 Γ _ r13 hr13 a_1 a_2 l_3 X
    · refine TC.aload_n dX6_takeParams_90 rfl 0 rfl ?_
      refine TC.iconst (w := 3) dX6_takeParams_91 (by decide) ?_
      refine TC.callV_v 46 (As1 := [.int 3]) (rest := []) (k_Reader_refuse Γ (3 : Int32) X) ka_X6_refuse kv_X6_refuse oC_46 rfl k800 rfl rfl rfl rfl (show 3 + 1 ≤ 200 ∧ 8 + (2 + 11) + 110 ≤ 7990 from ⟨by omega, by omega⟩) (Nat.le_of_ble_eq_true rfl) dX6_takeParams_92 (fun _ X29 => ?_)
      exact k_Reader_takeParams_95 Γ _ r13 hr13 a_1 a_2 l_3 X29
noncomputable def g_Reader_takeParams_34 (r13 : Int32 → Int32 → St → Option (Int32 × St)) (a_1 : Int32) (a_2 : Int32) (X : St) : Option (Int32 × St) :=
  letV (X.2.1 47 5) fun y11 =>
  letV (X.1 47 3) fun x12 =>
  if x12.toInt = 258 then
    bnd (g_Reader_slotOf y11 X) fun x30 X31 =>
    if x30.toInt = -1 then
      g_Reader_takeParams_72 r13 a_1 a_2 y11 X31
    else
      bnd (g_Reader_refuse (2 : Int32) X31) fun _ X32 =>
      g_Reader_takeParams_95 r13 a_1 a_2 y11 X32
  else
    g_Reader_takeParams_72 r13 a_1 a_2 y11 X
set_option maxHeartbeats 4000000 in
set_option maxRecDepth 100000 in
theorem k_Reader_takeParams_34 (Γ : GxC) (As : List Value) (r13 : Int32 → Int32 → St → Option (Int32 × St)) (hr13 : ∀ (a_1 : Int32) (a_2 : Int32) (X : St), TC YC Γ cX6_takeParams 5 "BlameCourt$Reade\x72" none { frames := 200, cells := 0, slots := 0, locals := 7990 } As kV 13 [(0, .ref (Γ.2.2.2.1 46)), (1, .int a_1), (2, .int a_2)] [] X (r13 a_1 a_2 X)) (a_1 : Int32) (a_2 : Int32) (X : St) : TC YC Γ cX6_takeParams 5 "BlameCourt$Reade\x72" none { frames := 200, cells := 0, slots := 0, locals := 7990 } As kV 34 [(0, .ref (Γ.2.2.2.1 46)), (1, .int a_1), (2, .int a_2)] [] X (g_Reader_takeParams_34 r13 a_1 a_2 X) := by
  unfold g_Reader_takeParams_34
  refine TC.aload_n dX6_takeParams_34 rfl 0 rfl ?_
  refine cC5_0 k416 dX6_takeParams_35 ?_
  refine gC7_5 k394 dX6_takeParams_38 (fun y11 => ?_)
  refine TC.lstore_n (lv1 := [(3, .long y11), (0, .ref (Γ.2.2.2.1 46)), (1, .int a_1), (2, .int a_2)]) dX6_takeParams_41 rfl (by decide) rfl ?_
  refine TC.aload_n dX6_takeParams_42 rfl 1 rfl ?_
  refine cC5_0 k416 dX6_takeParams_43 ?_
  refine gC7_3 k390 dX6_takeParams_46 (fun x12 => ?_)
  refine TC.sipush (w := 258) dX6_takeParams_49 (by decide) ?_
  refine TC.icmp_ne (pc1 := 72) dX6_takeParams_52 (by decide) rfl ?_ ?_
  · refine TC.sub [1, 2, 3, 0] rfl ?_
    exact k_Reader_takeParams_72 Γ _ r13 hr13 a_1 a_2 y11 X
  · refine TC.aload_n dX6_takeParams_55 rfl 1 rfl ?_
    refine TC.lload_n dX6_takeParams_56 rfl 0 rfl ?_
    refine TC.callV_i 46 (As1 := [.long y11]) (rest := []) (k_Reader_slotOf Γ y11 X) ka_X6_slotOf kv_X6_slotOf oC_46 rfl k829 rfl rfl rfl rfl (show 2 + 1 ≤ 200 ∧ 8 + (4 + 11) + 70 ≤ 7990 from ⟨by omega, by omega⟩) (Nat.le_of_ble_eq_true rfl) dX6_takeParams_57 (fun x30 X31 => ?_)
    refine TC.iconst (w := (-1)) dX6_takeParams_60 (by decide) ?_
    refine TC.icmp_eq (pc1 := 72) dX6_takeParams_61 (by decide) rfl ?_ ?_
    · refine TC.sub [1, 2, 3, 0] rfl ?_
      exact k_Reader_takeParams_72 Γ _ r13 hr13 a_1 a_2 y11 X31
    · refine TC.aload_n dX6_takeParams_64 rfl 1 rfl ?_
      refine TC.iconst (w := 2) dX6_takeParams_65 (by decide) ?_
      refine TC.callV_v 46 (As1 := [.int 2]) (rest := []) (k_Reader_refuse Γ (2 : Int32) X31) ka_X6_refuse kv_X6_refuse oC_46 rfl k800 rfl rfl rfl rfl (show 3 + 1 ≤ 200 ∧ 8 + (2 + 11) + 110 ≤ 7990 from ⟨by omega, by omega⟩) (Nat.le_of_ble_eq_true rfl) dX6_takeParams_66 (fun _ X32 => ?_)
      refine TC.goto (pc1 := 95) dX6_takeParams_69 (by decide) ?_
      refine TC.sub [1, 2, 3, 0] rfl ?_
      exact k_Reader_takeParams_95 Γ _ r13 hr13 a_1 a_2 y11 X32
noncomputable def g_Reader_takeParams_13_s (r13 : Int32 → Int32 → St → Option (Int32 × St)) (a_1 : Int32) (a_2 : Int32) (X : St) : Option (Int32 × St) :=
  if 4 < a_2.toInt then
    g_Reader_takeParams_173 a_1 X
  else
    if 0 < a_2.toInt then
      g_Reader_takeParams_34 r13 a_1 a_2 X
    else
      letV (X.1 47 3) fun x33 =>
      if x33.toInt = 41 then
        g_Reader_takeParams_173 a_1 X
      else
        g_Reader_takeParams_34 r13 a_1 a_2 X
noncomputable def g_Reader_takeParams_13 (n : Nat) : Int32 → Int32 → St → Option (Int32 × St) := lp (fun _ _ _ => none) (g_Reader_takeParams_13_s) n
set_option maxHeartbeats 4000000 in
set_option maxRecDepth 100000 in
theorem k_Reader_takeParams_13 (Γ : GxC) (As : List Value) (n : Nat) : ∀ (a_1 : Int32) (a_2 : Int32) (X : St), TC YC Γ cX6_takeParams 5 "BlameCourt$Reade\x72" none { frames := 200, cells := 0, slots := 0, locals := 7990 } As kV 13 [(0, .ref (Γ.2.2.2.1 46)), (1, .int a_1), (2, .int a_2)] [] X (g_Reader_takeParams_13 n a_1 a_2 X) := by
  unfold g_Reader_takeParams_13
  refine lp_ind (P := fun (r13 : Int32 → Int32 → St → Option (Int32 × St)) => ∀ (a_1 : Int32) (a_2 : Int32) (X : St), TC YC Γ cX6_takeParams 5 "BlameCourt$Reade\x72" none { frames := 200, cells := 0, slots := 0, locals := 7990 } As kV 13 [(0, .ref (Γ.2.2.2.1 46)), (1, .int a_1), (2, .int a_2)] [] X (r13 a_1 a_2 X)) (fun _ _ _ => TC.no) ?_ n
  intro r13 hr13 a_1 a_2 X
  unfold g_Reader_takeParams_13_s
  refine TC.iload_n dX6_takeParams_13 rfl 2 rfl ?_
  refine TC.iconst (w := 4) dX6_takeParams_14 (by decide) ?_
  refine TC.icmp_gt (pc1 := 173) dX6_takeParams_15 (by decide) rfl ?_ ?_
  · refine TC.sub [0, 1] rfl ?_
    exact k_Reader_takeParams_173 Γ _ a_1 X
  · refine TC.iload_n dX6_takeParams_18 rfl 2 rfl ?_
    refine TC.if_gt (pc1 := 34) dX6_takeParams_19 (by decide) ?_ ?_
    · exact k_Reader_takeParams_34 Γ _ r13 hr13 a_1 a_2 X
    · refine TC.aload_n dX6_takeParams_22 rfl 0 rfl ?_
      refine cC5_0 k416 dX6_takeParams_23 ?_
      refine gC7_3 k390 dX6_takeParams_26 (fun x33 => ?_)
      refine TC.bipush (w := 41) dX6_takeParams_29 (by decide) ?_
      refine TC.icmp_eq (pc1 := 173) dX6_takeParams_31 (by decide) rfl ?_ ?_
      · refine TC.sub [0, 1] rfl ?_
        exact k_Reader_takeParams_173 Γ _ a_1 X
      · exact k_Reader_takeParams_34 Γ _ r13 hr13 a_1 a_2 X
noncomputable def g_Reader_takeParams (p1 : Int32) (X : St) : Option (Int32 × St) :=
  letV (wI X 46 9 ((0 : Int32))) fun X1 =>
  bnd (g_Reader_enter (40 : Int32) X1) fun _ X2 =>
  g_Reader_takeParams_13 BIG p1 (0 : Int32) X2
set_option maxHeartbeats 4000000 in
set_option maxRecDepth 100000 in
theorem k_Reader_takeParams (Γ : GxC) (p1 : Int32) (X : St) : TCV YC Γ yX6_takeParams cX6_takeParams 5 "BlameCourt$Reade\x72" none { frames := 200, cells := 0, slots := 0, locals := 7990 } [.ref (Γ.2.2.2.1 46), .int p1] X (g_Reader_takeParams p1 X) := by
  refine TCV.of (by decide) (Nat.le_of_ble_eq_true rfl) rfl ?_
  show TC YC Γ cX6_takeParams 5 "BlameCourt$Reade\x72" none { frames := 200, cells := 0, slots := 0, locals := 7990 } _ kV 0 [(0, .ref (Γ.2.2.2.1 46)), (1, .int p1)] [] X (g_Reader_takeParams p1 X)
  unfold g_Reader_takeParams
  refine TC.aload_n dX6_takeParams_0 rfl 0 rfl ?_
  refine TC.iconst (w := 0) dX6_takeParams_1 (by decide) ?_
  refine pC5_9 k425 dX6_takeParams_2 (fun X1 => ?_)
  refine TC.aload_n dX6_takeParams_5 rfl 0 rfl ?_
  refine TC.bipush (w := 40) dX6_takeParams_6 (by decide) ?_
  refine TC.callV_v 46 (As1 := [.int 40]) (rest := []) (k_Reader_enter Γ (40 : Int32) X1) ka_X6_enter kv_X6_enter oC_46 rfl k825 rfl rfl rfl rfl (show 5 + 1 ≤ 200 ∧ 8 + (2 + 11) + 190 ≤ 7990 from ⟨by omega, by omega⟩) (Nat.le_of_ble_eq_true rfl) dX6_takeParams_8 (fun _ X2 => ?_)
  refine TC.iconst (w := 0) dX6_takeParams_11 (by decide) ?_
  refine TC.istore_n (lv1 := [(2, .int 0), (0, .ref (Γ.2.2.2.1 46)), (1, .int p1)]) dX6_takeParams_12 rfl (by decide) rfl ?_
  refine TC.sub [1, 2, 0] rfl ?_
  exact k_Reader_takeParams_13 Γ _ BIG p1 (0 : Int32) X2
noncomputable def g_Reader_takeOwnKind_23 (a_1 : Int32) (b_0 : Int32) (b_1 : Int32) (g_2 : Nat) (X : St) : Option (Int32 × St) :=
  chk (inR b_1 40) (letV (wI X g_2 (ix b_1) b_0) fun X5 =>
  bnd (g_Reader_want (61 : Int32) X5) fun _ X6 =>
  chk (refO YC (X6.2.2 46 1) 4 17 = true) (letV (X6.2.2 46 1 - 1) fun e7 =>
  letV (kY YC e7 4 - 3) fun e8 =>
  chk (refO YC (X6.2.2 46 1) 4 17 = true) (letV (X6.2.2 46 1 - 1) fun e9 =>
  letV (X6.1 e9 6) fun x10 =>
  chk (inR a_1 41) (letV (wI X6 e8 (ix a_1) x10) fun X11 =>
  some (0, X11)))))
set_option maxHeartbeats 4000000 in
set_option maxRecDepth 100000 in
theorem k_Reader_takeOwnKind_23 (Γ : GxC) (As : List Value) (a_1 : Int32) (b_0 : Int32) (b_1 : Int32) (g_2 : Nat) (hg_2 : isA YC g_2 1 40 .int) (X : St) : TC YC Γ cX6_takeOwnKind 2 "BlameCourt$Reade\x72" none { frames := 200, cells := 0, slots := 0, locals := 7990 } As kV 23 [(0, .ref (Γ.2.2.2.1 46)), (1, .int a_1)] [.int b_0, .int b_1, .ref (Γ.2.2.2.1 g_2)] X (g_Reader_takeOwnKind_23 a_1 b_0 b_1 g_2 X) := by
  unfold g_Reader_takeOwnKind_23
  refine TC.iast g_2 hg_2 dX6_takeOwnKind_23 (fun X5 => ?_)
  refine TC.aload_n dX6_takeOwnKind_24 rfl 0 rfl ?_
  refine TC.bipush (w := 61) dX6_takeOwnKind_25 (by decide) ?_
  refine TC.callV_v 46 (As1 := [.int 61]) (rest := []) (k_Reader_want Γ (61 : Int32) X5) ka_X6_want kv_X6_want oC_46 rfl k817 rfl rfl rfl rfl (show 5 + 1 ≤ 200 ∧ 8 + (2 + 11) + 190 ≤ 7990 from ⟨by omega, by omega⟩) (Nat.le_of_ble_eq_true rfl) dX6_takeOwnKind_27 (fun _ X6 => ?_)
  refine TC.aload_n dX6_takeOwnKind_30 rfl 0 rfl ?_
  refine mC5_1 k417 dX6_takeOwnKind_31 (fun e7 he7 => ?_)
  refine vC4_4 e7 he7 k314 dX6_takeOwnKind_34 (fun e8 he8 => ?_)
  refine TC.iload_n dX6_takeOwnKind_37 rfl 1 rfl ?_
  refine TC.aload_n dX6_takeOwnKind_38 rfl 0 rfl ?_
  refine mC5_1 k417 dX6_takeOwnKind_39 (fun e9 he9 => ?_)
  refine gC4_6 e9 he9 k337 dX6_takeOwnKind_42 (fun x10 => ?_)
  refine TC.iast e8 he8 dX6_takeOwnKind_45 (fun X11 => ?_)
  exact TC.ret_v rfl dX6_takeOwnKind_46
noncomputable def g_Reader_takeOwnKind (p1 : Int32) (X : St) : Option (Int32 × St) :=
  chk (refO YC (X.2.2 46 1) 4 17 = true) (letV (X.2.2 46 1 - 1) fun e1 =>
  letV (kY YC e1 12 - 3) fun e2 =>
  bnd (g_Reader_tookColon X) fun x3 X4 =>
  if x3.toInt = 0 then
    g_Reader_takeOwnKind_23 p1 (2 : Int32) p1 e2 X4
  else
    bnd (g_Reader_takeKind X4) fun x12 X13 =>
    g_Reader_takeOwnKind_23 p1 x12 p1 e2 X13)
set_option maxHeartbeats 4000000 in
set_option maxRecDepth 100000 in
theorem k_Reader_takeOwnKind (Γ : GxC) (p1 : Int32) (X : St) : TCV YC Γ yX6_takeOwnKind cX6_takeOwnKind 2 "BlameCourt$Reade\x72" none { frames := 200, cells := 0, slots := 0, locals := 7990 } [.ref (Γ.2.2.2.1 46), .int p1] X (g_Reader_takeOwnKind p1 X) := by
  refine TCV.of (by decide) (Nat.le_of_ble_eq_true rfl) rfl ?_
  show TC YC Γ cX6_takeOwnKind 2 "BlameCourt$Reade\x72" none { frames := 200, cells := 0, slots := 0, locals := 7990 } _ kV 0 [(0, .ref (Γ.2.2.2.1 46)), (1, .int p1)] [] X (g_Reader_takeOwnKind p1 X)
  unfold g_Reader_takeOwnKind
  refine TC.aload_n dX6_takeOwnKind_0 rfl 0 rfl ?_
  refine mC5_1 k417 dX6_takeOwnKind_1 (fun e1 he1 => ?_)
  refine vC4_12 e1 he1 k309 dX6_takeOwnKind_4 (fun e2 he2 => ?_)
  refine TC.iload_n dX6_takeOwnKind_7 rfl 1 rfl ?_
  refine TC.aload_n dX6_takeOwnKind_8 rfl 0 rfl ?_
  refine TC.callV_i 46 (As1 := []) (rest := [.int p1, .ref (Γ.2.2.2.1 e2)]) (k_Reader_tookColon Γ X) ka_X6_tookColon kv_X6_tookColon oC_46 rfl k837 rfl rfl rfl rfl (show 5 + 1 ≤ 200 ∧ 8 + (1 + 11) + 190 ≤ 7990 from ⟨by omega, by omega⟩) (Nat.le_of_ble_eq_true rfl) dX6_takeOwnKind_9 (fun x3 X4 => ?_)
  refine TC.if_eq (pc1 := 22) dX6_takeOwnKind_12 (by decide) ?_ ?_
  · refine TC.iconst (w := 2) dX6_takeOwnKind_22 (by decide) ?_
    exact k_Reader_takeOwnKind_23 Γ _ p1 (2 : Int32) p1 e2 he2 X4
  · refine TC.aload_n dX6_takeOwnKind_15 rfl 0 rfl ?_
    refine TC.callV_i 46 (As1 := []) (rest := [.int p1, .ref (Γ.2.2.2.1 e2)]) (k_Reader_takeKind Γ X4) ka_X6_takeKind kv_X6_takeKind oC_46 rfl k841 rfl rfl rfl rfl (show 198 + 1 ≤ 200 ∧ 8 + (2 + 11) + 7910 ≤ 7990 from ⟨by omega, by omega⟩) (Nat.le_of_ble_eq_true rfl) dX6_takeOwnKind_16 (fun x12 X13 => ?_)
    refine TC.goto (pc1 := 23) dX6_takeOwnKind_19 (by decide) ?_
    exact k_Reader_takeOwnKind_23 Γ _ p1 x12 p1 e2 he2 X13
noncomputable def g_Reader_emitStep (X : St) : Option (Int32 × St) :=
  chk (refO YC (X.2.2 46 1) 4 17 = true) (letV (X.2.2 46 1 - 1) fun e1 =>
  letV (X.1 47 4) fun x2 =>
  bnd (g_Program_emit e1 (0 : Int32) (1 : Int32) x2 X) fun x3 X4 =>
  some (x3, X4))
set_option maxHeartbeats 4000000 in
set_option maxRecDepth 100000 in
theorem k_Reader_emitStep (Γ : GxC) (X : St) : TCI YC Γ yX6_emitStep cX6_emitStep 1 "BlameCourt$Reade\x72" (some .int) { frames := 3, cells := 0, slots := 0, locals := 110 } [.ref (Γ.2.2.2.1 46)] X (g_Reader_emitStep X) := by
  refine TCI.of (by decide) (Nat.le_of_ble_eq_true rfl) rfl ?_
  show TC YC Γ cX6_emitStep 1 "BlameCourt$Reade\x72" (some .int) { frames := 3, cells := 0, slots := 0, locals := 110 } _ kI 0 [(0, .ref (Γ.2.2.2.1 46))] [] X (g_Reader_emitStep X)
  unfold g_Reader_emitStep
  refine TC.aload_n dX6_emitStep_0 rfl 0 rfl ?_
  refine mC5_1 k417 dX6_emitStep_1 (fun e1 he1 => ?_)
  refine TC.iconst (w := 0) dX6_emitStep_4 (by decide) ?_
  refine TC.iconst (w := 1) dX6_emitStep_5 (by decide) ?_
  refine TC.aload_n dX6_emitStep_6 rfl 0 rfl ?_
  refine cC5_0 k416 dX6_emitStep_7 ?_
  refine gC7_4 k392 dX6_emitStep_10 (fun x2 => ?_)
  refine TC.callV_i e1 (As1 := [.int 0, .int 1, .int x2]) (rest := []) (k_Program_emit Γ e1 he1 (0 : Int32) (1 : Int32) x2 X) ka_X5_emit kv_X5_emit he1 rfl k875 rfl rfl rfl rfl (show 2 + 1 ≤ 3 ∧ 8 + (4 + 11) + 70 ≤ 110 from ⟨by omega, by omega⟩) (Nat.le_of_ble_eq_true rfl) dX6_emitStep_13 (fun x3 X4 => ?_)
  exact TC.ret_i rfl dX6_emitStep_16
noncomputable def g_Reader_placeOf (p1 : Int32) (X : St) : Option (Int32 × St) :=
  chk (refO YC (X.2.2 46 1) 4 17 = true) (letV (X.2.2 46 1 - 1) fun e1 =>
  letV (kY YC e1 16 - 3) fun e2 =>
  chk (inR p1 9080) (letV (X.1 e2 (ix p1)) fun x3 =>
  some (x3, X)))
set_option maxHeartbeats 4000000 in
set_option maxRecDepth 100000 in
theorem k_Reader_placeOf (Γ : GxC) (p1 : Int32) (X : St) : TCI YC Γ yX6_placeOf cX6_placeOf 2 "BlameCourt$Reade\x72" (some .int) { frames := 2, cells := 0, slots := 0, locals := 70 } [.ref (Γ.2.2.2.1 46), .int p1] X (g_Reader_placeOf p1 X) := by
  refine TCI.of (by decide) (Nat.le_of_ble_eq_true rfl) rfl ?_
  show TC YC Γ cX6_placeOf 2 "BlameCourt$Reade\x72" (some .int) { frames := 2, cells := 0, slots := 0, locals := 70 } _ kI 0 [(0, .ref (Γ.2.2.2.1 46)), (1, .int p1)] [] X (g_Reader_placeOf p1 X)
  unfold g_Reader_placeOf
  refine TC.aload_n dX6_placeOf_0 rfl 0 rfl ?_
  refine mC5_1 k417 dX6_placeOf_1 (fun e1 he1 => ?_)
  refine vC4_16 e1 he1 k334 dX6_placeOf_4 (fun e2 he2 => ?_)
  refine TC.iload_n dX6_placeOf_7 rfl 1 rfl ?_
  refine TC.iald e2 he2 dX6_placeOf_8 (fun x3 => ?_)
  exact TC.ret_i rfl dX6_placeOf_9
noncomputable def g_Reader_takeDigits (X : St) : Option (Int32 × St) :=
  letV (X.2.1 47 7) fun y1 =>
  letV (lg_cmp y1 (2147483648 : Int64)) fun x2 =>
  if x2.toInt < 0 then
    chk (refO YC (X.2.2 46 1) 4 17 = true) (letV (X.2.2 46 1 - 1) fun e3 =>
    letV (X.2.1 47 7) fun y4 =>
    letV (y4.toInt32) fun x5 =>
    letV (X.1 47 4) fun x6 =>
    bnd (g_Program_emit e3 (1 : Int32) x5 x6 X) fun x7 X8 =>
    bnd (g_Tokens_advance X8) fun _ X9 =>
    some (0, X9))
  else
    bnd (g_Reader_refuse (4 : Int32) X) fun _ X10 =>
    some (0, X10)
set_option maxHeartbeats 4000000 in
set_option maxRecDepth 100000 in
theorem k_Reader_takeDigits (Γ : GxC) (X : St) : TCV YC Γ yX6_takeDigits cX6_takeDigits 1 "BlameCourt$Reade\x72" none { frames := 5, cells := 0, slots := 0, locals := 190 } [.ref (Γ.2.2.2.1 46)] X (g_Reader_takeDigits X) := by
  refine TCV.of (by decide) (Nat.le_of_ble_eq_true rfl) rfl ?_
  show TC YC Γ cX6_takeDigits 1 "BlameCourt$Reade\x72" none { frames := 5, cells := 0, slots := 0, locals := 190 } _ kV 0 [(0, .ref (Γ.2.2.2.1 46))] [] X (g_Reader_takeDigits X)
  unfold g_Reader_takeDigits
  refine TC.aload_n dX6_takeDigits_0 rfl 0 rfl ?_
  refine cC5_0 k416 dX6_takeDigits_1 ?_
  refine gC7_7 k398 dX6_takeDigits_4 (fun y1 => ?_)
  refine TC.ldc2 (w := 2147483648) dX6_takeDigits_7 k907 ?_
  refine TC.lcmp dX6_takeDigits_10 (fun x2 => ?_)
  refine TC.if_lt (pc1 := 20) dX6_takeDigits_11 (by decide) ?_ ?_
  · refine TC.aload_n dX6_takeDigits_20 rfl 0 rfl ?_
    refine mC5_1 k417 dX6_takeDigits_21 (fun e3 he3 => ?_)
    refine TC.iconst (w := 1) dX6_takeDigits_24 (by decide) ?_
    refine TC.aload_n dX6_takeDigits_25 rfl 0 rfl ?_
    refine cC5_0 k416 dX6_takeDigits_26 ?_
    refine gC7_7 k398 dX6_takeDigits_29 (fun y4 => ?_)
    refine TC.l2i dX6_takeDigits_32 (fun x5 => ?_)
    refine TC.aload_n dX6_takeDigits_33 rfl 0 rfl ?_
    refine cC5_0 k416 dX6_takeDigits_34 ?_
    refine gC7_4 k392 dX6_takeDigits_37 (fun x6 => ?_)
    refine TC.callV_i e3 (As1 := [.int 1, .int x5, .int x6]) (rest := []) (k_Program_emit Γ e3 he3 (1 : Int32) x5 x6 X) ka_X5_emit kv_X5_emit he3 rfl k875 rfl rfl rfl rfl (show 2 + 1 ≤ 5 ∧ 8 + (4 + 11) + 70 ≤ 190 from ⟨by omega, by omega⟩) (Nat.le_of_ble_eq_true rfl) dX6_takeDigits_40 (fun x7 X8 => ?_)
    refine TC.pop dX6_takeDigits_43 ?_
    refine TC.aload_n dX6_takeDigits_44 rfl 0 rfl ?_
    refine cC5_0 k416 dX6_takeDigits_45 ?_
    refine TC.callV_v 47 (As1 := []) (rest := []) (k_Tokens_advance Γ X8) ka_X9_advance kv_X9_advance oC_47 rfl k816 rfl rfl rfl rfl (show 4 + 1 ≤ 5 ∧ 8 + (3 + 11) + 150 ≤ 190 from ⟨by omega, by omega⟩) (Nat.le_of_ble_eq_true rfl) dX6_takeDigits_48 (fun _ X9 => ?_)
    exact TC.ret_v rfl dX6_takeDigits_51
  · refine TC.aload_n dX6_takeDigits_14 rfl 0 rfl ?_
    refine TC.iconst (w := 4) dX6_takeDigits_15 (by decide) ?_
    refine TC.callV_v 46 (As1 := [.int 4]) (rest := []) (k_Reader_refuse Γ (4 : Int32) X) ka_X6_refuse kv_X6_refuse oC_46 rfl k800 rfl rfl rfl rfl (show 3 + 1 ≤ 5 ∧ 8 + (2 + 11) + 110 ≤ 190 from ⟨by omega, by omega⟩) (Nat.le_of_ble_eq_true rfl) dX6_takeDigits_16 (fun _ X10 => ?_)
    exact TC.ret_v rfl dX6_takeDigits_19
noncomputable def g_Reader_takeName_26 (a_1 : Int32) (b_0 : Int32) (g_1 : Nat) (X : St) : Option (Int32 × St) :=
  letV (X.1 47 4) fun x5 =>
  bnd (g_Program_emit g_1 b_0 a_1 x5 X) fun x6 X7 =>
  bnd (g_Tokens_advance X7) fun _ X8 =>
  some (0, X8)
set_option maxHeartbeats 4000000 in
set_option maxRecDepth 100000 in
theorem k_Reader_takeName_26 (Γ : GxC) (As : List Value) (a_1 : Int32) (b_0 : Int32) (g_1 : Nat) (hg_1 : isO YC g_1 4 17) (X : St) : TC YC Γ cX6_takeName 2 "BlameCourt$Reade\x72" none { frames := 5, cells := 0, slots := 0, locals := 190 } As kV 26 [(0, .ref (Γ.2.2.2.1 46)), (1, .int a_1)] [.int b_0, .ref (Γ.2.2.2.1 g_1)] X (g_Reader_takeName_26 a_1 b_0 g_1 X) := by
  unfold g_Reader_takeName_26
  refine TC.iload_n dX6_takeName_26 rfl 1 rfl ?_
  refine TC.aload_n dX6_takeName_27 rfl 0 rfl ?_
  refine cC5_0 k416 dX6_takeName_28 ?_
  refine gC7_4 k392 dX6_takeName_31 (fun x5 => ?_)
  refine TC.callV_i g_1 (As1 := [.int b_0, .int a_1, .int x5]) (rest := []) (k_Program_emit Γ g_1 hg_1 b_0 a_1 x5 X) ka_X5_emit kv_X5_emit hg_1 rfl k875 rfl rfl rfl rfl (show 2 + 1 ≤ 5 ∧ 8 + (4 + 11) + 70 ≤ 190 from ⟨by omega, by omega⟩) (Nat.le_of_ble_eq_true rfl) dX6_takeName_34 (fun x6 X7 => ?_)
  refine TC.pop dX6_takeName_37 ?_
  refine TC.aload_n dX6_takeName_38 rfl 0 rfl ?_
  refine cC5_0 k416 dX6_takeName_39 ?_
  refine TC.callV_v 47 (As1 := []) (rest := []) (k_Tokens_advance Γ X7) ka_X9_advance kv_X9_advance oC_47 rfl k816 rfl rfl rfl rfl (show 4 + 1 ≤ 5 ∧ 8 + (3 + 11) + 150 ≤ 190 from ⟨by omega, by omega⟩) (Nat.le_of_ble_eq_true rfl) dX6_takeName_42 (fun _ X8 => ?_)
  exact TC.ret_v rfl dX6_takeName_45
noncomputable def g_Reader_takeName (X : St) : Option (Int32 × St) :=
  letV (X.2.1 47 5) fun y1 =>
  bnd (g_Reader_slotOf y1 X) fun x2 X3 =>
  chk (refO YC (X3.2.2 46 1) 4 17 = true) (letV (X3.2.2 46 1 - 1) fun e4 =>
  if x2.toInt = -1 then
    g_Reader_takeName_26 x2 (4 : Int32) e4 X3
  else
    g_Reader_takeName_26 x2 (3 : Int32) e4 X3)
set_option maxHeartbeats 4000000 in
set_option maxRecDepth 100000 in
theorem k_Reader_takeName (Γ : GxC) (X : St) : TCV YC Γ yX6_takeName cX6_takeName 2 "BlameCourt$Reade\x72" none { frames := 5, cells := 0, slots := 0, locals := 190 } [.ref (Γ.2.2.2.1 46)] X (g_Reader_takeName X) := by
  refine TCV.of (by decide) (Nat.le_of_ble_eq_true rfl) rfl ?_
  show TC YC Γ cX6_takeName 2 "BlameCourt$Reade\x72" none { frames := 5, cells := 0, slots := 0, locals := 190 } _ kV 0 [(0, .ref (Γ.2.2.2.1 46))] [] X (g_Reader_takeName X)
  unfold g_Reader_takeName
  refine TC.aload_n dX6_takeName_0 rfl 0 rfl ?_
  refine TC.aload_n dX6_takeName_1 rfl 0 rfl ?_
  refine cC5_0 k416 dX6_takeName_2 ?_
  refine gC7_5 k394 dX6_takeName_5 (fun y1 => ?_)
  refine TC.callV_i 46 (As1 := [.long y1]) (rest := []) (k_Reader_slotOf Γ y1 X) ka_X6_slotOf kv_X6_slotOf oC_46 rfl k829 rfl rfl rfl rfl (show 2 + 1 ≤ 5 ∧ 8 + (4 + 11) + 70 ≤ 190 from ⟨by omega, by omega⟩) (Nat.le_of_ble_eq_true rfl) dX6_takeName_8 (fun x2 X3 => ?_)
  refine TC.istore_n (lv1 := [(1, .int x2), (0, .ref (Γ.2.2.2.1 46))]) dX6_takeName_11 rfl (by decide) rfl ?_
  refine TC.aload_n dX6_takeName_12 rfl 1 rfl ?_
  refine mC5_1 k417 dX6_takeName_13 (fun e4 he4 => ?_)
  refine TC.iload_n dX6_takeName_16 rfl 0 rfl ?_
  refine TC.iconst (w := (-1)) dX6_takeName_17 (by decide) ?_
  refine TC.icmp_ne (pc1 := 25) dX6_takeName_18 (by decide) rfl ?_ ?_
  · refine TC.iconst (w := 3) dX6_takeName_25 (by decide) ?_
    refine TC.sub [1, 0] rfl ?_
    exact k_Reader_takeName_26 Γ _ x2 (3 : Int32) e4 he4 X3
  · refine TC.iconst (w := 4) dX6_takeName_21 (by decide) ?_
    refine TC.goto (pc1 := 26) dX6_takeName_22 (by decide) ?_
    refine TC.sub [1, 0] rfl ?_
    exact k_Reader_takeName_26 Γ _ x2 (4 : Int32) e4 he4 X3
noncomputable def g_Reader_beginsE (X : St) : Option (Int32 × St) :=
  letV (X.1 47 3) fun x1 =>
  if x1.toInt = 33 then
    some (1, X)
  else if x1.toInt = 40 then
    some (1, X)
  else if x1.toInt = 45 then
    some (1, X)
  else if x1.toInt = 91 then
    some (1, X)
  else if x1.toInt = 123 then
    some (1, X)
  else if x1.toInt = 258 then
    some (1, X)
  else if x1.toInt = 259 then
    some (1, X)
  else if x1.toInt = 262 then
    some (1, X)
  else if x1.toInt = 264 then
    some (1, X)
  else if x1.toInt = 267 then
    some (1, X)
  else if x1.toInt = 268 then
    some (1, X)
  else if x1.toInt = 269 then
    some (1, X)
  else if x1.toInt = 270 then
    some (1, X)
  else if x1.toInt = 271 then
    some (1, X)
  else some (0, X)
set_option maxHeartbeats 4000000 in
set_option maxRecDepth 100000 in
theorem k_Reader_beginsE (Γ : GxC) (X : St) : TCI YC Γ yX6_beginsE cX6_beginsE 1 "BlameCourt$Reade\x72" (some .boolean) { frames := 2, cells := 0, slots := 0, locals := 70 } [.ref (Γ.2.2.2.1 46)] X (g_Reader_beginsE X) := by
  refine TCI.of (by decide) (Nat.le_of_ble_eq_true rfl) rfl ?_
  show TC YC Γ cX6_beginsE 1 "BlameCourt$Reade\x72" (some .boolean) { frames := 2, cells := 0, slots := 0, locals := 70 } _ kI 0 [(0, .ref (Γ.2.2.2.1 46))] [] X (g_Reader_beginsE X)
  unfold g_Reader_beginsE
  refine TC.aload_n dX6_beginsE_0 rfl 0 rfl ?_
  refine cC5_0 k416 dX6_beginsE_1 ?_
  refine gC7_3 k390 dX6_beginsE_4 (fun x1 => ?_)
  refine TC.ite (fun s2 => ?_) (fun s2 => ?_)
  · refine TC.lookup (pc1 := 128) dX6_beginsE_7 (by decide) (off := 121) (by rw [s2]; rfl) (by decide) ?_
    refine TC.iconst (w := 1) dX6_beginsE_128 (by decide) ?_
    exact TC.ret_z rfl dX6_beginsE_129 rfl
  refine TC.ite (fun s3 => ?_) (fun s3 => ?_)
  · refine TC.lookup (pc1 := 128) dX6_beginsE_7 (by decide) (off := 121) (by rw [s3]; rfl) (by decide) ?_
    refine TC.iconst (w := 1) dX6_beginsE_128 (by decide) ?_
    exact TC.ret_z rfl dX6_beginsE_129 rfl
  refine TC.ite (fun s4 => ?_) (fun s4 => ?_)
  · refine TC.lookup (pc1 := 128) dX6_beginsE_7 (by decide) (off := 121) (by rw [s4]; rfl) (by decide) ?_
    refine TC.iconst (w := 1) dX6_beginsE_128 (by decide) ?_
    exact TC.ret_z rfl dX6_beginsE_129 rfl
  refine TC.ite (fun s5 => ?_) (fun s5 => ?_)
  · refine TC.lookup (pc1 := 128) dX6_beginsE_7 (by decide) (off := 121) (by rw [s5]; rfl) (by decide) ?_
    refine TC.iconst (w := 1) dX6_beginsE_128 (by decide) ?_
    exact TC.ret_z rfl dX6_beginsE_129 rfl
  refine TC.ite (fun s6 => ?_) (fun s6 => ?_)
  · refine TC.lookup (pc1 := 128) dX6_beginsE_7 (by decide) (off := 121) (by rw [s6]; rfl) (by decide) ?_
    refine TC.iconst (w := 1) dX6_beginsE_128 (by decide) ?_
    exact TC.ret_z rfl dX6_beginsE_129 rfl
  refine TC.ite (fun s7 => ?_) (fun s7 => ?_)
  · refine TC.lookup (pc1 := 128) dX6_beginsE_7 (by decide) (off := 121) (by rw [s7]; rfl) (by decide) ?_
    refine TC.iconst (w := 1) dX6_beginsE_128 (by decide) ?_
    exact TC.ret_z rfl dX6_beginsE_129 rfl
  refine TC.ite (fun s8 => ?_) (fun s8 => ?_)
  · refine TC.lookup (pc1 := 128) dX6_beginsE_7 (by decide) (off := 121) (by rw [s8]; rfl) (by decide) ?_
    refine TC.iconst (w := 1) dX6_beginsE_128 (by decide) ?_
    exact TC.ret_z rfl dX6_beginsE_129 rfl
  refine TC.ite (fun s9 => ?_) (fun s9 => ?_)
  · refine TC.lookup (pc1 := 128) dX6_beginsE_7 (by decide) (off := 121) (by rw [s9]; rfl) (by decide) ?_
    refine TC.iconst (w := 1) dX6_beginsE_128 (by decide) ?_
    exact TC.ret_z rfl dX6_beginsE_129 rfl
  refine TC.ite (fun s10 => ?_) (fun s10 => ?_)
  · refine TC.lookup (pc1 := 128) dX6_beginsE_7 (by decide) (off := 121) (by rw [s10]; rfl) (by decide) ?_
    refine TC.iconst (w := 1) dX6_beginsE_128 (by decide) ?_
    exact TC.ret_z rfl dX6_beginsE_129 rfl
  refine TC.ite (fun s11 => ?_) (fun s11 => ?_)
  · refine TC.lookup (pc1 := 128) dX6_beginsE_7 (by decide) (off := 121) (by rw [s11]; rfl) (by decide) ?_
    refine TC.iconst (w := 1) dX6_beginsE_128 (by decide) ?_
    exact TC.ret_z rfl dX6_beginsE_129 rfl
  refine TC.ite (fun s12 => ?_) (fun s12 => ?_)
  · refine TC.lookup (pc1 := 128) dX6_beginsE_7 (by decide) (off := 121) (by rw [s12]; rfl) (by decide) ?_
    refine TC.iconst (w := 1) dX6_beginsE_128 (by decide) ?_
    exact TC.ret_z rfl dX6_beginsE_129 rfl
  refine TC.ite (fun s13 => ?_) (fun s13 => ?_)
  · refine TC.lookup (pc1 := 128) dX6_beginsE_7 (by decide) (off := 121) (by rw [s13]; rfl) (by decide) ?_
    refine TC.iconst (w := 1) dX6_beginsE_128 (by decide) ?_
    exact TC.ret_z rfl dX6_beginsE_129 rfl
  refine TC.ite (fun s14 => ?_) (fun s14 => ?_)
  · refine TC.lookup (pc1 := 128) dX6_beginsE_7 (by decide) (off := 121) (by rw [s14]; rfl) (by decide) ?_
    refine TC.iconst (w := 1) dX6_beginsE_128 (by decide) ?_
    exact TC.ret_z rfl dX6_beginsE_129 rfl
  refine TC.ite (fun s15 => ?_) (fun s15 => ?_)
  · refine TC.lookup (pc1 := 128) dX6_beginsE_7 (by decide) (off := 121) (by rw [s15]; rfl) (by decide) ?_
    refine TC.iconst (w := 1) dX6_beginsE_128 (by decide) ?_
    exact TC.ret_z rfl dX6_beginsE_129 rfl
  refine TC.lookup (pc1 := 130) dX6_beginsE_7 (by decide) (off := 123) ((osw2 s2).trans ((osw2 s3).trans ((osw2 s4).trans ((osw2 s5).trans ((osw2 s6).trans ((osw2 s7).trans ((osw2 s8).trans ((osw2 s9).trans ((osw2 s10).trans ((osw2 s11).trans ((osw2 s12).trans ((osw2 s13).trans ((osw2 s14).trans ((osw2 s15).trans rfl)))))))))))))) (by decide) ?_
  refine TC.iconst (w := 0) dX6_beginsE_130 (by decide) ?_
  exact TC.ret_z rfl dX6_beginsE_131 rfl
noncomputable def g_Reader_addStep (p1 : Int32) (X : St) : Option (Int32 × St) :=
  chk (refO YC (X.2.2 46 1) 4 17 = true) (letV (X.2.2 46 1 - 1) fun e1 =>
  letV (kY YC e1 14 - 3) fun e2 =>
  chk (inR p1 9080) (letV (X.1 e2 (ix p1)) fun x3 =>
  letV (x3 + (1 : Int32)) fun x4 =>
  chk (inR p1 9080) (letV (wI X e2 (ix p1) x4) fun X5 =>
  some (0, X5))))
set_option maxHeartbeats 4000000 in
set_option maxRecDepth 100000 in
theorem k_Reader_addStep (Γ : GxC) (p1 : Int32) (X : St) : TCV YC Γ yX6_addStep cX6_addStep 2 "BlameCourt$Reade\x72" none { frames := 2, cells := 0, slots := 0, locals := 70 } [.ref (Γ.2.2.2.1 46), .int p1] X (g_Reader_addStep p1 X) := by
  refine TCV.of (by decide) (Nat.le_of_ble_eq_true rfl) rfl ?_
  show TC YC Γ cX6_addStep 2 "BlameCourt$Reade\x72" none { frames := 2, cells := 0, slots := 0, locals := 70 } _ kV 0 [(0, .ref (Γ.2.2.2.1 46)), (1, .int p1)] [] X (g_Reader_addStep p1 X)
  unfold g_Reader_addStep
  refine TC.aload_n dX6_addStep_0 rfl 0 rfl ?_
  refine mC5_1 k417 dX6_addStep_1 (fun e1 he1 => ?_)
  refine vC4_14 e1 he1 k327 dX6_addStep_4 (fun e2 he2 => ?_)
  refine TC.iload_n dX6_addStep_7 rfl 1 rfl ?_
  refine TC.dup2 dX6_addStep_8 ?_
  refine TC.iald e2 he2 dX6_addStep_9 (fun x3 => ?_)
  refine TC.iconst (w := 1) dX6_addStep_10 (by decide) ?_
  refine TC.iadd dX6_addStep_11 (fun x4 => ?_)
  refine TC.iast e2 he2 dX6_addStep_12 (fun X5 => ?_)
  exact TC.ret_v rfl dX6_addStep_13
noncomputable def g_Reader_levelOf (p0 : Int32) (X : St) : Option (Int32 × St) :=
  if p0.toInt = 37 then
    some (3, X)
  else if p0.toInt = 42 then
    some (3, X)
  else if p0.toInt = 43 then
    some (2, X)
  else if p0.toInt = 45 then
    some (2, X)
  else if p0.toInt = 47 then
    some (3, X)
  else if p0.toInt = 60 then
    some (1, X)
  else if p0.toInt = 61 then
    some (1, X)
  else some (0, X)
set_option maxHeartbeats 4000000 in
set_option maxRecDepth 100000 in
theorem k_Reader_levelOf (Γ : GxC) (p0 : Int32) (X : St) : TCI YC Γ yX6_levelOf cX6_levelOf 1 "BlameCourt$Reade\x72" (some .int) { frames := 2, cells := 0, slots := 0, locals := 70 } [.int p0] X (g_Reader_levelOf p0 X) := by
  refine TCI.of (by decide) (Nat.le_of_ble_eq_true rfl) rfl ?_
  show TC YC Γ cX6_levelOf 1 "BlameCourt$Reade\x72" (some .int) { frames := 2, cells := 0, slots := 0, locals := 70 } _ kI 0 [(0, .int p0)] [] X (g_Reader_levelOf p0 X)
  unfold g_Reader_levelOf
  refine TC.iload_n dX6_levelOf_0 rfl 0 rfl ?_
  refine TC.ite (fun s1 => ?_) (fun s1 => ?_)
  · refine TC.tbl (pc1 := 120) dX6_levelOf_1 (by decide) (off := 119) (by rw [s1]; rfl) (by decide) ?_
    refine TC.iconst (w := 3) dX6_levelOf_120 (by decide) ?_
    exact TC.ret_i rfl dX6_levelOf_121
  refine TC.ite (fun s2 => ?_) (fun s2 => ?_)
  · refine TC.tbl (pc1 := 120) dX6_levelOf_1 (by decide) (off := 119) (by rw [s2]; rfl) (by decide) ?_
    refine TC.iconst (w := 3) dX6_levelOf_120 (by decide) ?_
    exact TC.ret_i rfl dX6_levelOf_121
  refine TC.ite (fun s3 => ?_) (fun s3 => ?_)
  · refine TC.tbl (pc1 := 118) dX6_levelOf_1 (by decide) (off := 117) (by rw [s3]; rfl) (by decide) ?_
    refine TC.iconst (w := 2) dX6_levelOf_118 (by decide) ?_
    exact TC.ret_i rfl dX6_levelOf_119
  refine TC.ite (fun s4 => ?_) (fun s4 => ?_)
  · refine TC.tbl (pc1 := 118) dX6_levelOf_1 (by decide) (off := 117) (by rw [s4]; rfl) (by decide) ?_
    refine TC.iconst (w := 2) dX6_levelOf_118 (by decide) ?_
    exact TC.ret_i rfl dX6_levelOf_119
  refine TC.ite (fun s5 => ?_) (fun s5 => ?_)
  · refine TC.tbl (pc1 := 120) dX6_levelOf_1 (by decide) (off := 119) (by rw [s5]; rfl) (by decide) ?_
    refine TC.iconst (w := 3) dX6_levelOf_120 (by decide) ?_
    exact TC.ret_i rfl dX6_levelOf_121
  refine TC.ite (fun s6 => ?_) (fun s6 => ?_)
  · refine TC.tbl (pc1 := 116) dX6_levelOf_1 (by decide) (off := 115) (by rw [s6]; rfl) (by decide) ?_
    refine TC.iconst (w := 1) dX6_levelOf_116 (by decide) ?_
    exact TC.ret_i rfl dX6_levelOf_117
  refine TC.ite (fun s7 => ?_) (fun s7 => ?_)
  · refine TC.tbl (pc1 := 116) dX6_levelOf_1 (by decide) (off := 115) (by rw [s7]; rfl) (by decide) ?_
    refine TC.iconst (w := 1) dX6_levelOf_116 (by decide) ?_
    exact TC.ret_i rfl dX6_levelOf_117
  refine TC.tbl (pc1 := 122) dX6_levelOf_1 (by decide) (off := 121) (tbl_d [37, 42, 43, 45, 47, 60, 61] (by intro q; simp only [List.mem_cons, List.not_mem_nil, or_false] at q; omega) (by decide)) (by decide) ?_
  refine TC.iconst (w := 0) dX6_levelOf_122 (by decide) ?_
  exact TC.ret_i rfl dX6_levelOf_123
noncomputable def g_Reader_opOf (p0 : Int32) (X : St) : Option (Int32 × St) :=
  if p0.toInt = 42 then
    some (24, X)
  else if p0.toInt = 43 then
    some (22, X)
  else if p0.toInt = 45 then
    some (23, X)
  else if p0.toInt = 47 then
    some (25, X)
  else if p0.toInt = 60 then
    some (20, X)
  else if p0.toInt = 61 then
    some (21, X)
  else some (26, X)
set_option maxHeartbeats 4000000 in
set_option maxRecDepth 100000 in
theorem k_Reader_opOf (Γ : GxC) (p0 : Int32) (X : St) : TCI YC Γ yX6_opOf cX6_opOf 1 "BlameCourt$Reade\x72" (some .int) { frames := 2, cells := 0, slots := 0, locals := 70 } [.int p0] X (g_Reader_opOf p0 X) := by
  refine TCI.of (by decide) (Nat.le_of_ble_eq_true rfl) rfl ?_
  show TC YC Γ cX6_opOf 1 "BlameCourt$Reade\x72" (some .int) { frames := 2, cells := 0, slots := 0, locals := 70 } _ kI 0 [(0, .int p0)] [] X (g_Reader_opOf p0 X)
  unfold g_Reader_opOf
  refine TC.iload_n dX6_opOf_0 rfl 0 rfl ?_
  refine TC.ite (fun s1 => ?_) (fun s1 => ?_)
  · refine TC.tbl (pc1 := 108) dX6_opOf_1 (by decide) (off := 107) (by rw [s1]; rfl) (by decide) ?_
    refine TC.bipush (w := 24) dX6_opOf_108 (by decide) ?_
    exact TC.ret_i rfl dX6_opOf_110
  refine TC.ite (fun s2 => ?_) (fun s2 => ?_)
  · refine TC.tbl (pc1 := 102) dX6_opOf_1 (by decide) (off := 101) (by rw [s2]; rfl) (by decide) ?_
    refine TC.bipush (w := 22) dX6_opOf_102 (by decide) ?_
    exact TC.ret_i rfl dX6_opOf_104
  refine TC.ite (fun s3 => ?_) (fun s3 => ?_)
  · refine TC.tbl (pc1 := 105) dX6_opOf_1 (by decide) (off := 104) (by rw [s3]; rfl) (by decide) ?_
    refine TC.bipush (w := 23) dX6_opOf_105 (by decide) ?_
    exact TC.ret_i rfl dX6_opOf_107
  refine TC.ite (fun s4 => ?_) (fun s4 => ?_)
  · refine TC.tbl (pc1 := 111) dX6_opOf_1 (by decide) (off := 110) (by rw [s4]; rfl) (by decide) ?_
    refine TC.bipush (w := 25) dX6_opOf_111 (by decide) ?_
    exact TC.ret_i rfl dX6_opOf_113
  refine TC.ite (fun s5 => ?_) (fun s5 => ?_)
  · refine TC.tbl (pc1 := 96) dX6_opOf_1 (by decide) (off := 95) (by rw [s5]; rfl) (by decide) ?_
    refine TC.bipush (w := 20) dX6_opOf_96 (by decide) ?_
    exact TC.ret_i rfl dX6_opOf_98
  refine TC.ite (fun s6 => ?_) (fun s6 => ?_)
  · refine TC.tbl (pc1 := 99) dX6_opOf_1 (by decide) (off := 98) (by rw [s6]; rfl) (by decide) ?_
    refine TC.bipush (w := 21) dX6_opOf_99 (by decide) ?_
    exact TC.ret_i rfl dX6_opOf_101
  refine TC.tbl (pc1 := 114) dX6_opOf_1 (by decide) (off := 113) (tbl_d [42, 43, 45, 47, 60, 61] (by intro q; simp only [List.mem_cons, List.not_mem_nil, or_false] at q; omega) (by decide)) (by decide) ?_
  refine TC.bipush (w := 26) dX6_opOf_114 (by decide) ?_
  exact TC.ret_i rfl dX6_opOf_116
noncomputable def g_Reader_applyWaiting_11_s (r11 : Int32 → Int32 → Int32 → Int32 → St → Option (Int32 × St)) (a_1 : Int32) (a_2 : Int32) (a_4 : Int32) (a_5 : Int32) (X : St) : Option (Int32 × St) :=
  if a_5.toInt < a_1.toInt then
    some (a_4, X)
  else
    chk (inR a_5 126) (letV (X.1 51 (ix a_5)) fun x3 =>
    bnd (g_Reader_levelOf x3 X) fun x4 X5 =>
    if x4.toInt < a_2.toInt then
      some (a_4, X5)
    else
      chk (refO YC (X5.2.2 46 1) 4 17 = true) (letV (X5.2.2 46 1 - 1) fun e6 =>
      bnd (g_Reader_placeOf a_4 X5) fun x7 X8 =>
      bnd (g_Program_emit e6 (27 : Int32) (0 : Int32) x7 X8) fun x9 X10 =>
      chk (refO YC (X10.2.2 46 1) 4 17 = true) (letV (X10.2.2 46 1 - 1) fun e11 =>
      chk (inR a_5 126) (letV (X10.1 51 (ix a_5)) fun x12 =>
      bnd (g_Reader_opOf x12 X10) fun x13 X14 =>
      chk (inR a_5 126) (letV (X14.1 52 (ix a_5)) fun x15 =>
      bnd (g_Program_emit e11 x13 (0 : Int32) x15 X14) fun x16 X17 =>
      chk (inR a_5 126) (letV (X17.1 53 (ix a_5)) fun x18 =>
      bnd (g_Reader_addStep x18 X17) fun _ X19 =>
      letV (wI X19 46 5 a_5) fun X20 =>
      letV (a_5 + Int32.ofInt (-1)) fun x21 =>
      r11 a_1 a_2 x18 x21 X20))))))
noncomputable def g_Reader_applyWaiting_11 (n : Nat) : Int32 → Int32 → Int32 → Int32 → St → Option (Int32 × St) := lp (fun _ _ _ _ _ => none) (g_Reader_applyWaiting_11_s) n
set_option maxHeartbeats 4000000 in
set_option maxRecDepth 100000 in
theorem k_Reader_applyWaiting_11 (Γ : GxC) (As : List Value) (n : Nat) : ∀ (a_1 : Int32) (a_2 : Int32) (a_4 : Int32) (a_5 : Int32) (X : St), TC YC Γ cX6_applyWaiting 6 "BlameCourt$Reade\x72" (some .int) { frames := 3, cells := 0, slots := 0, locals := 110 } As kI 11 [(0, .ref (Γ.2.2.2.1 46)), (1, .int a_1), (2, .int a_2), (4, .int a_4), (5, .int a_5)] [] X (g_Reader_applyWaiting_11 n a_1 a_2 a_4 a_5 X) := by
  unfold g_Reader_applyWaiting_11
  refine lp_ind (P := fun (r11 : Int32 → Int32 → Int32 → Int32 → St → Option (Int32 × St)) => ∀ (a_1 : Int32) (a_2 : Int32) (a_4 : Int32) (a_5 : Int32) (X : St), TC YC Γ cX6_applyWaiting 6 "BlameCourt$Reade\x72" (some .int) { frames := 3, cells := 0, slots := 0, locals := 110 } As kI 11 [(0, .ref (Γ.2.2.2.1 46)), (1, .int a_1), (2, .int a_2), (4, .int a_4), (5, .int a_5)] [] X (r11 a_1 a_2 a_4 a_5 X)) (fun _ _ _ _ _ => TC.no) ?_ n
  intro r11 hr11 a_1 a_2 a_4 a_5 X
  unfold g_Reader_applyWaiting_11_s
  refine TC.iload dX6_applyWaiting_11 4 rfl ?_
  refine TC.iload_n dX6_applyWaiting_13 rfl 1 rfl ?_
  refine TC.icmp_lt (pc1 := 101) dX6_applyWaiting_14 (by decide) rfl ?_ ?_
  · refine TC.iload dX6_applyWaiting_101 3 rfl ?_
    exact TC.ret_i rfl dX6_applyWaiting_103
  · refine TC.aload_n dX6_applyWaiting_17 rfl 0 rfl ?_
    refine cC5_10 k426 dX6_applyWaiting_18 ?_
    refine TC.iload dX6_applyWaiting_21 4 rfl ?_
    refine alC51 dX6_applyWaiting_23 (fun x3 => ?_)
    refine TC.callS_i (As1 := [.int x3]) (rest := []) (k_Reader_levelOf Γ x3 X) ka_X6_levelOf k945 k944 rfl rfl rfl rfl (show 2 + 1 ≤ 3 ∧ 8 + (1 + 11) + 70 ≤ 110 from ⟨by omega, by omega⟩) (Nat.le_of_ble_eq_true rfl) dX6_applyWaiting_24 (fun x4 X5 => ?_)
    refine TC.iload_n dX6_applyWaiting_27 rfl 2 rfl ?_
    refine TC.icmp_lt (pc1 := 101) dX6_applyWaiting_28 (by decide) rfl ?_ ?_
    · refine TC.iload dX6_applyWaiting_101 3 rfl ?_
      exact TC.ret_i rfl dX6_applyWaiting_103
    · refine TC.aload_n dX6_applyWaiting_31 rfl 0 rfl ?_
      refine mC5_1 k417 dX6_applyWaiting_32 (fun e6 he6 => ?_)
      refine TC.bipush (w := 27) dX6_applyWaiting_35 (by decide) ?_
      refine TC.iconst (w := 0) dX6_applyWaiting_37 (by decide) ?_
      refine TC.aload_n dX6_applyWaiting_38 rfl 0 rfl ?_
      refine TC.iload dX6_applyWaiting_39 3 rfl ?_
      refine TC.callV_i 46 (As1 := [.int a_4]) (rest := [.int 0, .int 27, .ref (Γ.2.2.2.1 e6)]) (k_Reader_placeOf Γ a_4 X5) ka_X6_placeOf kv_X6_placeOf oC_46 rfl k879 rfl rfl rfl rfl (show 2 + 1 ≤ 3 ∧ 8 + (2 + 11) + 70 ≤ 110 from ⟨by omega, by omega⟩) (Nat.le_of_ble_eq_true rfl) dX6_applyWaiting_41 (fun x7 X8 => ?_)
      refine TC.callV_i e6 (As1 := [.int 27, .int 0, .int x7]) (rest := []) (k_Program_emit Γ e6 he6 (27 : Int32) (0 : Int32) x7 X8) ka_X5_emit kv_X5_emit he6 rfl k875 rfl rfl rfl rfl (show 2 + 1 ≤ 3 ∧ 8 + (4 + 11) + 70 ≤ 110 from ⟨by omega, by omega⟩) (Nat.le_of_ble_eq_true rfl) dX6_applyWaiting_44 (fun x9 X10 => ?_)
      refine TC.pop dX6_applyWaiting_47 ?_
      refine TC.aload_n dX6_applyWaiting_48 rfl 0 rfl ?_
      refine mC5_1 k417 dX6_applyWaiting_49 (fun e11 he11 => ?_)
      refine TC.aload_n dX6_applyWaiting_52 rfl 0 rfl ?_
      refine cC5_10 k426 dX6_applyWaiting_53 ?_
      refine TC.iload dX6_applyWaiting_56 4 rfl ?_
      refine alC51 dX6_applyWaiting_58 (fun x12 => ?_)
      refine TC.callS_i (As1 := [.int x12]) (rest := [.ref (Γ.2.2.2.1 e11)]) (k_Reader_opOf Γ x12 X10) ka_X6_opOf k952 k951 rfl rfl rfl rfl (show 2 + 1 ≤ 3 ∧ 8 + (1 + 11) + 70 ≤ 110 from ⟨by omega, by omega⟩) (Nat.le_of_ble_eq_true rfl) dX6_applyWaiting_59 (fun x13 X14 => ?_)
      refine TC.iconst (w := 0) dX6_applyWaiting_62 (by decide) ?_
      refine TC.aload_n dX6_applyWaiting_63 rfl 0 rfl ?_
      refine cC5_11 k427 dX6_applyWaiting_64 ?_
      refine TC.iload dX6_applyWaiting_67 4 rfl ?_
      refine alC52 dX6_applyWaiting_69 (fun x15 => ?_)
      refine TC.callV_i e11 (As1 := [.int x13, .int 0, .int x15]) (rest := []) (k_Program_emit Γ e11 he11 x13 (0 : Int32) x15 X14) ka_X5_emit kv_X5_emit he11 rfl k875 rfl rfl rfl rfl (show 2 + 1 ≤ 3 ∧ 8 + (4 + 11) + 70 ≤ 110 from ⟨by omega, by omega⟩) (Nat.le_of_ble_eq_true rfl) dX6_applyWaiting_70 (fun x16 X17 => ?_)
      refine TC.pop dX6_applyWaiting_73 ?_
      refine TC.aload_n dX6_applyWaiting_74 rfl 0 rfl ?_
      refine cC5_12 k428 dX6_applyWaiting_75 ?_
      refine TC.iload dX6_applyWaiting_78 4 rfl ?_
      refine alC53 dX6_applyWaiting_80 (fun x18 => ?_)
      refine TC.istore (lv1 := [(4, .int x18), (0, .ref (Γ.2.2.2.1 46)), (1, .int a_1), (2, .int a_2), (5, .int a_5)]) dX6_applyWaiting_81 (by decide) rfl ?_
      refine TC.aload_n dX6_applyWaiting_83 rfl 1 rfl ?_
      refine TC.iload dX6_applyWaiting_84 0 rfl ?_
      refine TC.callV_v 46 (As1 := [.int x18]) (rest := []) (k_Reader_addStep Γ x18 X17) ka_X6_addStep kv_X6_addStep oC_46 rfl k932 rfl rfl rfl rfl (show 2 + 1 ≤ 3 ∧ 8 + (2 + 11) + 70 ≤ 110 from ⟨by omega, by omega⟩) (Nat.le_of_ble_eq_true rfl) dX6_applyWaiting_86 (fun _ X19 => ?_)
      refine TC.aload_n dX6_applyWaiting_89 rfl 1 rfl ?_
      refine TC.iload dX6_applyWaiting_90 4 rfl ?_
      refine pC5_5 k429 dX6_applyWaiting_92 (fun X20 => ?_)
      refine TC.iinc dX6_applyWaiting_95 4 rfl (by decide) (lvf := fun x21 => [(5, .int x21), (4, .int x18), (0, .ref (Γ.2.2.2.1 46)), (1, .int a_1), (2, .int a_2)]) (fun _ => rfl) (fun x21 => ?_)
      refine TC.goto (pc1 := 11) dX6_applyWaiting_98 (by decide) ?_
      refine TC.sub [2, 3, 4, 1, 0] rfl ?_
      exact hr11 a_1 a_2 x18 x21 X20
noncomputable def g_Reader_applyWaiting (p1 : Int32) (p2 : Int32) (p3 : Int32) (X : St) : Option (Int32 × St) :=
  letV (X.1 46 5) fun x1 =>
  letV (x1 - (1 : Int32)) fun x2 =>
  g_Reader_applyWaiting_11 BIG p1 p2 p3 x2 X
set_option maxHeartbeats 4000000 in
set_option maxRecDepth 100000 in
theorem k_Reader_applyWaiting (Γ : GxC) (p1 : Int32) (p2 : Int32) (p3 : Int32) (X : St) : TCI YC Γ yX6_applyWaiting cX6_applyWaiting 6 "BlameCourt$Reade\x72" (some .int) { frames := 3, cells := 0, slots := 0, locals := 110 } [.ref (Γ.2.2.2.1 46), .int p1, .int p2, .int p3] X (g_Reader_applyWaiting p1 p2 p3 X) := by
  refine TCI.of (by decide) (Nat.le_of_ble_eq_true rfl) rfl ?_
  show TC YC Γ cX6_applyWaiting 6 "BlameCourt$Reade\x72" (some .int) { frames := 3, cells := 0, slots := 0, locals := 110 } _ kI 0 [(0, .ref (Γ.2.2.2.1 46)), (1, .int p1), (2, .int p2), (3, .int p3)] [] X (g_Reader_applyWaiting p1 p2 p3 X)
  unfold g_Reader_applyWaiting
  refine TC.iload_n dX6_applyWaiting_0 rfl 3 rfl ?_
  refine TC.istore (lv1 := [(4, .int p3), (0, .ref (Γ.2.2.2.1 46)), (1, .int p1), (2, .int p2), (3, .int p3)]) dX6_applyWaiting_1 (by decide) rfl ?_
  refine TC.aload_n dX6_applyWaiting_3 rfl 1 rfl ?_
  refine gC5_5 k429 dX6_applyWaiting_4 (fun x1 => ?_)
  refine TC.iconst (w := 1) dX6_applyWaiting_7 (by decide) ?_
  refine TC.isub dX6_applyWaiting_8 (fun x2 => ?_)
  refine TC.istore (lv1 := [(5, .int x2), (4, .int p3), (0, .ref (Γ.2.2.2.1 46)), (1, .int p1), (2, .int p2), (3, .int p3)]) dX6_applyWaiting_9 (by decide) rfl ?_
  refine TC.sub [2, 3, 4, 1, 0] rfl ?_
  exact k_Reader_applyWaiting_11 Γ _ BIG p1 p2 p3 x2 X
noncomputable def g_Reader_pushWaiting (p1 : Int32) (X : St) : Option (Int32 × St) :=
  chk (refO YC (X.2.2 46 1) 4 17 = true) (letV (X.2.2 46 1 - 1) fun e1 =>
  bnd (g_Reader_placeOf p1 X) fun x2 X3 =>
  bnd (g_Program_emit e1 (27 : Int32) (0 : Int32) x2 X3) fun x4 X5 =>
  letV (X5.1 46 5) fun x6 =>
  if 126 ≤ x6.toInt then
    some (0, X5)
  else
    letV (X5.1 46 5) fun x7 =>
    letV (X5.1 47 3) fun x8 =>
    chk (inR x7 126) (letV (wI X5 51 (ix x7) x8) fun X9 =>
    letV (X9.1 46 5) fun x10 =>
    letV (X9.1 47 4) fun x11 =>
    chk (inR x10 126) (letV (wI X9 52 (ix x10) x11) fun X12 =>
    letV (X12.1 46 5) fun x13 =>
    chk (inR x13 126) (letV (wI X12 53 (ix x13) p1) fun X14 =>
    letV (X14.1 46 5) fun x15 =>
    letV (x15 + (1 : Int32)) fun x16 =>
    letV (wI X14 46 5 x16) fun X17 =>
    some (0, X17)))))
set_option maxHeartbeats 4000000 in
set_option maxRecDepth 100000 in
theorem k_Reader_pushWaiting (Γ : GxC) (p1 : Int32) (X : St) : TCV YC Γ yX6_pushWaiting cX6_pushWaiting 2 "BlameCourt$Reade\x72" none { frames := 3, cells := 0, slots := 0, locals := 110 } [.ref (Γ.2.2.2.1 46), .int p1] X (g_Reader_pushWaiting p1 X) := by
  refine TCV.of (by decide) (Nat.le_of_ble_eq_true rfl) rfl ?_
  show TC YC Γ cX6_pushWaiting 2 "BlameCourt$Reade\x72" none { frames := 3, cells := 0, slots := 0, locals := 110 } _ kV 0 [(0, .ref (Γ.2.2.2.1 46)), (1, .int p1)] [] X (g_Reader_pushWaiting p1 X)
  unfold g_Reader_pushWaiting
  refine TC.aload_n dX6_pushWaiting_0 rfl 0 rfl ?_
  refine mC5_1 k417 dX6_pushWaiting_1 (fun e1 he1 => ?_)
  refine TC.bipush (w := 27) dX6_pushWaiting_4 (by decide) ?_
  refine TC.iconst (w := 0) dX6_pushWaiting_6 (by decide) ?_
  refine TC.aload_n dX6_pushWaiting_7 rfl 0 rfl ?_
  refine TC.iload_n dX6_pushWaiting_8 rfl 1 rfl ?_
  refine TC.callV_i 46 (As1 := [.int p1]) (rest := [.int 0, .int 27, .ref (Γ.2.2.2.1 e1)]) (k_Reader_placeOf Γ p1 X) ka_X6_placeOf kv_X6_placeOf oC_46 rfl k879 rfl rfl rfl rfl (show 2 + 1 ≤ 3 ∧ 8 + (2 + 11) + 70 ≤ 110 from ⟨by omega, by omega⟩) (Nat.le_of_ble_eq_true rfl) dX6_pushWaiting_9 (fun x2 X3 => ?_)
  refine TC.callV_i e1 (As1 := [.int 27, .int 0, .int x2]) (rest := []) (k_Program_emit Γ e1 he1 (27 : Int32) (0 : Int32) x2 X3) ka_X5_emit kv_X5_emit he1 rfl k875 rfl rfl rfl rfl (show 2 + 1 ≤ 3 ∧ 8 + (4 + 11) + 70 ≤ 110 from ⟨by omega, by omega⟩) (Nat.le_of_ble_eq_true rfl) dX6_pushWaiting_12 (fun x4 X5 => ?_)
  refine TC.pop dX6_pushWaiting_15 ?_
  refine TC.aload_n dX6_pushWaiting_16 rfl 0 rfl ?_
  refine gC5_5 k429 dX6_pushWaiting_17 (fun x6 => ?_)
  refine TC.bipush (w := 126) dX6_pushWaiting_20 (by decide) ?_
  refine TC.icmp_ge (pc1 := 77) dX6_pushWaiting_22 (by decide) rfl ?_ ?_
  · exact TC.ret_v rfl dX6_pushWaiting_77
  · refine TC.aload_n dX6_pushWaiting_25 rfl 0 rfl ?_
    refine cC5_10 k426 dX6_pushWaiting_26 ?_
    refine TC.aload_n dX6_pushWaiting_29 rfl 0 rfl ?_
    refine gC5_5 k429 dX6_pushWaiting_30 (fun x7 => ?_)
    refine TC.aload_n dX6_pushWaiting_33 rfl 0 rfl ?_
    refine cC5_0 k416 dX6_pushWaiting_34 ?_
    refine gC7_3 k390 dX6_pushWaiting_37 (fun x8 => ?_)
    refine asC51 dX6_pushWaiting_40 (fun X9 => ?_)
    refine TC.aload_n dX6_pushWaiting_41 rfl 0 rfl ?_
    refine cC5_11 k427 dX6_pushWaiting_42 ?_
    refine TC.aload_n dX6_pushWaiting_45 rfl 0 rfl ?_
    refine gC5_5 k429 dX6_pushWaiting_46 (fun x10 => ?_)
    refine TC.aload_n dX6_pushWaiting_49 rfl 0 rfl ?_
    refine cC5_0 k416 dX6_pushWaiting_50 ?_
    refine gC7_4 k392 dX6_pushWaiting_53 (fun x11 => ?_)
    refine asC52 dX6_pushWaiting_56 (fun X12 => ?_)
    refine TC.aload_n dX6_pushWaiting_57 rfl 0 rfl ?_
    refine cC5_12 k428 dX6_pushWaiting_58 ?_
    refine TC.aload_n dX6_pushWaiting_61 rfl 0 rfl ?_
    refine gC5_5 k429 dX6_pushWaiting_62 (fun x13 => ?_)
    refine TC.iload_n dX6_pushWaiting_65 rfl 1 rfl ?_
    refine asC53 dX6_pushWaiting_66 (fun X14 => ?_)
    refine TC.aload_n dX6_pushWaiting_67 rfl 0 rfl ?_
    refine TC.dupr dX6_pushWaiting_68 ?_
    refine gC5_5 k429 dX6_pushWaiting_69 (fun x15 => ?_)
    refine TC.iconst (w := 1) dX6_pushWaiting_72 (by decide) ?_
    refine TC.iadd dX6_pushWaiting_73 (fun x16 => ?_)
    refine pC5_5 k429 dX6_pushWaiting_74 (fun X17 => ?_)
    exact TC.ret_v rfl dX6_pushWaiting_77
noncomputable def g_Reader_takePlace (v_takePrefix : Int32 → Int32 → St → Option (Int32 × St)) (v_takeE : St → Option (Int32 × St)) (X : St) : Option (Int32 × St) :=
  letV (X.1 47 4) fun x1 =>
  chk (refO YC (X.2.2 46 1) 4 17 = true) (letV (X.2.2 46 1 - 1) fun e2 =>
  bnd (g_Program_emit e2 (29 : Int32) (0 : Int32) x1 X) fun x3 X4 =>
  bnd (g_Reader_enter (91 : Int32) X4) fun _ X5 =>
  bnd (v_takeE X5) fun x6 X7 =>
  chk (refO YC (X7.2.2 46 1) 4 17 = true) (letV (X7.2.2 46 1 - 1) fun e8 =>
  bnd (g_Reader_placeOf x6 X7) fun x9 X10 =>
  bnd (g_Program_emit e8 (27 : Int32) (0 : Int32) x9 X10) fun x11 X12 =>
  bnd (g_Reader_want (93 : Int32) X12) fun _ X13 =>
  letV (X13.1 46 2) fun x14 =>
  letV (x14 - (1 : Int32)) fun x15 =>
  letV (wI X13 46 2 x15) fun X16 =>
  letV (X16.1 47 3) fun x17 =>
  if x17.toInt = 256 then
    bnd (g_Reader_enter (256 : Int32) X16) fun _ X18 =>
    bnd (v_takeE X18) fun x19 X20 =>
    chk (refO YC (X20.2.2 46 1) 4 17 = true) (letV (X20.2.2 46 1 - 1) fun e21 =>
    bnd (g_Reader_placeOf x19 X20) fun x22 X23 =>
    bnd (g_Program_emit e21 (33 : Int32) (0 : Int32) x22 X23) fun x24 X25 =>
    chk (refO YC (X25.2.2 46 1) 4 17 = true) (letV (X25.2.2 46 1 - 1) fun e26 =>
    bnd (g_Program_emit e26 (15 : Int32) (0 : Int32) x1 X25) fun x27 X28 =>
    letV (X28.1 46 2) fun x29 =>
    letV (x29 - (1 : Int32)) fun x30 =>
    letV (wI X28 46 2 x30) fun X31 =>
    some (1, X31)))
  else
    chk (refO YC (X16.2.2 46 1) 4 17 = true) (letV (X16.2.2 46 1 - 1) fun e32 =>
    bnd (g_Program_emit e32 (14 : Int32) (0 : Int32) x1 X16) fun x33 X34 =>
    some (0, X34))))
set_option maxHeartbeats 4000000 in
set_option maxRecDepth 100000 in
theorem k_Reader_takePlace (Γ : GxC) (d : Nat) (v_takePrefix : Int32 → Int32 → St → Option (Int32 × St)) (hv_takePrefix : ∀ (p1 : Int32) (p2 : Int32) (X : St), TCI YC Γ yX6_takePrefix cX6_takePrefix 5 "BlameCourt$Reade\x72" (some .int) { frames := (200 + 5 * d), cells := 0, slots := 0, locals := (7990 + 200 * d) } [.ref (Γ.2.2.2.1 46), .int p1, .int p2] X (v_takePrefix p1 p2 X)) (v_takeE : St → Option (Int32 × St)) (hv_takeE : ∀ (X : St), TCI YC Γ yX6_takeE cX6_takeE 1 "BlameCourt$Reade\x72" (some .int) { frames := (200 + 5 * d), cells := 0, slots := 0, locals := (7990 + 200 * d) } [.ref (Γ.2.2.2.1 46)] X (v_takeE X)) (X : St) : TCI YC Γ yX6_takePlace cX6_takePlace 4 "BlameCourt$Reade\x72" (some .boolean) { frames := (201 + 5 * d), cells := 0, slots := 0, locals := (8030 + 200 * d) } [.ref (Γ.2.2.2.1 46)] X (g_Reader_takePlace v_takePrefix v_takeE X) := by
  refine TCI.of (by decide) (Nat.le_of_ble_eq_true rfl) rfl ?_
  show TC YC Γ cX6_takePlace 4 "BlameCourt$Reade\x72" (some .boolean) { frames := (201 + 5 * d), cells := 0, slots := 0, locals := (8030 + 200 * d) } _ kI 0 [(0, .ref (Γ.2.2.2.1 46))] [] X (g_Reader_takePlace v_takePrefix v_takeE X)
  unfold g_Reader_takePlace
  refine TC.aload_n dX6_takePlace_0 rfl 0 rfl ?_
  refine cC5_0 k416 dX6_takePlace_1 ?_
  refine gC7_4 k392 dX6_takePlace_4 (fun x1 => ?_)
  refine TC.istore_n (lv1 := [(1, .int x1), (0, .ref (Γ.2.2.2.1 46))]) dX6_takePlace_7 rfl (by decide) rfl ?_
  refine TC.aload_n dX6_takePlace_8 rfl 1 rfl ?_
  refine mC5_1 k417 dX6_takePlace_9 (fun e2 he2 => ?_)
  refine TC.bipush (w := 29) dX6_takePlace_12 (by decide) ?_
  refine TC.iconst (w := 0) dX6_takePlace_14 (by decide) ?_
  refine TC.iload_n dX6_takePlace_15 rfl 0 rfl ?_
  refine TC.callV_i e2 (As1 := [.int 29, .int 0, .int x1]) (rest := []) (k_Program_emit Γ e2 he2 (29 : Int32) (0 : Int32) x1 X) ka_X5_emit kv_X5_emit he2 rfl k875 rfl rfl rfl rfl (show 2 + 1 ≤ (201 + 5 * d) ∧ 8 + (4 + 11) + 70 ≤ (8030 + 200 * d) from ⟨by omega, by omega⟩) (Nat.le_of_ble_eq_true rfl) dX6_takePlace_16 (fun x3 X4 => ?_)
  refine TC.pop dX6_takePlace_19 ?_
  refine TC.aload_n dX6_takePlace_20 rfl 1 rfl ?_
  refine TC.bipush (w := 91) dX6_takePlace_21 (by decide) ?_
  refine TC.callV_v 46 (As1 := [.int 91]) (rest := []) (k_Reader_enter Γ (91 : Int32) X4) ka_X6_enter kv_X6_enter oC_46 rfl k825 rfl rfl rfl rfl (show 5 + 1 ≤ (201 + 5 * d) ∧ 8 + (2 + 11) + 190 ≤ (8030 + 200 * d) from ⟨by omega, by omega⟩) (Nat.le_of_ble_eq_true rfl) dX6_takePlace_23 (fun _ X5 => ?_)
  refine TC.aload_n dX6_takePlace_26 rfl 1 rfl ?_
  refine TC.callV_i 46 (As1 := []) (rest := []) (hv_takeE X5) ka_X6_takeE kv_X6_takeE oC_46 rfl k863 rfl rfl rfl rfl (show (200 + 5 * d) + 1 ≤ (201 + 5 * d) ∧ 8 + (1 + 11) + (7990 + 200 * d) ≤ (8030 + 200 * d) from ⟨by omega, by omega⟩) (Nat.le_of_ble_eq_true rfl) dX6_takePlace_27 (fun x6 X7 => ?_)
  refine TC.istore_n (lv1 := [(2, .int x6), (1, .int x1), (0, .ref (Γ.2.2.2.1 46))]) dX6_takePlace_30 rfl (by decide) rfl ?_
  refine TC.aload_n dX6_takePlace_31 rfl 2 rfl ?_
  refine mC5_1 k417 dX6_takePlace_32 (fun e8 he8 => ?_)
  refine TC.bipush (w := 27) dX6_takePlace_35 (by decide) ?_
  refine TC.iconst (w := 0) dX6_takePlace_37 (by decide) ?_
  refine TC.aload_n dX6_takePlace_38 rfl 2 rfl ?_
  refine TC.iload_n dX6_takePlace_39 rfl 0 rfl ?_
  refine TC.callV_i 46 (As1 := [.int x6]) (rest := [.int 0, .int 27, .ref (Γ.2.2.2.1 e8)]) (k_Reader_placeOf Γ x6 X7) ka_X6_placeOf kv_X6_placeOf oC_46 rfl k879 rfl rfl rfl rfl (show 2 + 1 ≤ (201 + 5 * d) ∧ 8 + (2 + 11) + 70 ≤ (8030 + 200 * d) from ⟨by omega, by omega⟩) (Nat.le_of_ble_eq_true rfl) dX6_takePlace_40 (fun x9 X10 => ?_)
  refine TC.callV_i e8 (As1 := [.int 27, .int 0, .int x9]) (rest := []) (k_Program_emit Γ e8 he8 (27 : Int32) (0 : Int32) x9 X10) ka_X5_emit kv_X5_emit he8 rfl k875 rfl rfl rfl rfl (show 2 + 1 ≤ (201 + 5 * d) ∧ 8 + (4 + 11) + 70 ≤ (8030 + 200 * d) from ⟨by omega, by omega⟩) (Nat.le_of_ble_eq_true rfl) dX6_takePlace_43 (fun x11 X12 => ?_)
  refine TC.pop dX6_takePlace_46 ?_
  refine TC.aload_n dX6_takePlace_47 rfl 2 rfl ?_
  refine TC.bipush (w := 93) dX6_takePlace_48 (by decide) ?_
  refine TC.callV_v 46 (As1 := [.int 93]) (rest := []) (k_Reader_want Γ (93 : Int32) X12) ka_X6_want kv_X6_want oC_46 rfl k817 rfl rfl rfl rfl (show 5 + 1 ≤ (201 + 5 * d) ∧ 8 + (2 + 11) + 190 ≤ (8030 + 200 * d) from ⟨by omega, by omega⟩) (Nat.le_of_ble_eq_true rfl) dX6_takePlace_50 (fun _ X13 => ?_)
  refine TC.aload_n dX6_takePlace_53 rfl 2 rfl ?_
  refine TC.dupr dX6_takePlace_54 ?_
  refine gC5_2 k418 dX6_takePlace_55 (fun x14 => ?_)
  refine TC.iconst (w := 1) dX6_takePlace_58 (by decide) ?_
  refine TC.isub dX6_takePlace_59 (fun x15 => ?_)
  refine pC5_2 k418 dX6_takePlace_60 (fun X16 => ?_)
  refine TC.aload_n dX6_takePlace_63 rfl 2 rfl ?_
  refine cC5_0 k416 dX6_takePlace_64 ?_
  refine gC7_3 k390 dX6_takePlace_67 (fun x17 => ?_)
  refine TC.sipush (w := 256) dX6_takePlace_70 (by decide) ?_
  refine TC.icmp_eq (pc1 := 90) dX6_takePlace_73 (by decide) rfl ?_ ?_
  · refine TC.aload_n dX6_takePlace_90 rfl 2 rfl ?_
    refine TC.sipush (w := 256) dX6_takePlace_91 (by decide) ?_
    refine TC.callV_v 46 (As1 := [.int 256]) (rest := []) (k_Reader_enter Γ (256 : Int32) X16) ka_X6_enter kv_X6_enter oC_46 rfl k825 rfl rfl rfl rfl (show 5 + 1 ≤ (201 + 5 * d) ∧ 8 + (2 + 11) + 190 ≤ (8030 + 200 * d) from ⟨by omega, by omega⟩) (Nat.le_of_ble_eq_true rfl) dX6_takePlace_94 (fun _ X18 => ?_)
    refine TC.aload_n dX6_takePlace_97 rfl 2 rfl ?_
    refine TC.callV_i 46 (As1 := []) (rest := []) (hv_takeE X18) ka_X6_takeE kv_X6_takeE oC_46 rfl k863 rfl rfl rfl rfl (show (200 + 5 * d) + 1 ≤ (201 + 5 * d) ∧ 8 + (1 + 11) + (7990 + 200 * d) ≤ (8030 + 200 * d) from ⟨by omega, by omega⟩) (Nat.le_of_ble_eq_true rfl) dX6_takePlace_98 (fun x19 X20 => ?_)
    refine TC.istore_n (lv1 := [(3, .int x19), (2, .int x6), (1, .int x1), (0, .ref (Γ.2.2.2.1 46))]) dX6_takePlace_101 rfl (by decide) rfl ?_
    refine TC.aload_n dX6_takePlace_102 rfl 3 rfl ?_
    refine mC5_1 k417 dX6_takePlace_103 (fun e21 he21 => ?_)
    refine TC.bipush (w := 33) dX6_takePlace_106 (by decide) ?_
    refine TC.iconst (w := 0) dX6_takePlace_108 (by decide) ?_
    refine TC.aload_n dX6_takePlace_109 rfl 3 rfl ?_
    refine TC.iload_n dX6_takePlace_110 rfl 0 rfl ?_
    refine TC.callV_i 46 (As1 := [.int x19]) (rest := [.int 0, .int 33, .ref (Γ.2.2.2.1 e21)]) (k_Reader_placeOf Γ x19 X20) ka_X6_placeOf kv_X6_placeOf oC_46 rfl k879 rfl rfl rfl rfl (show 2 + 1 ≤ (201 + 5 * d) ∧ 8 + (2 + 11) + 70 ≤ (8030 + 200 * d) from ⟨by omega, by omega⟩) (Nat.le_of_ble_eq_true rfl) dX6_takePlace_111 (fun x22 X23 => ?_)
    refine TC.callV_i e21 (As1 := [.int 33, .int 0, .int x22]) (rest := []) (k_Program_emit Γ e21 he21 (33 : Int32) (0 : Int32) x22 X23) ka_X5_emit kv_X5_emit he21 rfl k875 rfl rfl rfl rfl (show 2 + 1 ≤ (201 + 5 * d) ∧ 8 + (4 + 11) + 70 ≤ (8030 + 200 * d) from ⟨by omega, by omega⟩) (Nat.le_of_ble_eq_true rfl) dX6_takePlace_114 (fun x24 X25 => ?_)
    refine TC.pop dX6_takePlace_117 ?_
    refine TC.aload_n dX6_takePlace_118 rfl 3 rfl ?_
    refine mC5_1 k417 dX6_takePlace_119 (fun e26 he26 => ?_)
    refine TC.bipush (w := 15) dX6_takePlace_122 (by decide) ?_
    refine TC.iconst (w := 0) dX6_takePlace_124 (by decide) ?_
    refine TC.iload_n dX6_takePlace_125 rfl 2 rfl ?_
    refine TC.callV_i e26 (As1 := [.int 15, .int 0, .int x1]) (rest := []) (k_Program_emit Γ e26 he26 (15 : Int32) (0 : Int32) x1 X25) ka_X5_emit kv_X5_emit he26 rfl k875 rfl rfl rfl rfl (show 2 + 1 ≤ (201 + 5 * d) ∧ 8 + (4 + 11) + 70 ≤ (8030 + 200 * d) from ⟨by omega, by omega⟩) (Nat.le_of_ble_eq_true rfl) dX6_takePlace_126 (fun x27 X28 => ?_)
    refine TC.pop dX6_takePlace_129 ?_
    refine TC.aload_n dX6_takePlace_130 rfl 3 rfl ?_
    refine TC.dupr dX6_takePlace_131 ?_
    refine gC5_2 k418 dX6_takePlace_132 (fun x29 => ?_)
    refine TC.iconst (w := 1) dX6_takePlace_135 (by decide) ?_
    refine TC.isub dX6_takePlace_136 (fun x30 => ?_)
    refine pC5_2 k418 dX6_takePlace_137 (fun X31 => ?_)
    refine TC.iconst (w := 1) dX6_takePlace_140 (by decide) ?_
    exact TC.ret_z rfl dX6_takePlace_141 rfl
  · refine TC.aload_n dX6_takePlace_76 rfl 2 rfl ?_
    refine mC5_1 k417 dX6_takePlace_77 (fun e32 he32 => ?_)
    refine TC.bipush (w := 14) dX6_takePlace_80 (by decide) ?_
    refine TC.iconst (w := 0) dX6_takePlace_82 (by decide) ?_
    refine TC.iload_n dX6_takePlace_83 rfl 1 rfl ?_
    refine TC.callV_i e32 (As1 := [.int 14, .int 0, .int x1]) (rest := []) (k_Program_emit Γ e32 he32 (14 : Int32) (0 : Int32) x1 X16) ka_X5_emit kv_X5_emit he32 rfl k875 rfl rfl rfl rfl (show 2 + 1 ≤ (201 + 5 * d) ∧ 8 + (4 + 11) + 70 ≤ (8030 + 200 * d) from ⟨by omega, by omega⟩) (Nat.le_of_ble_eq_true rfl) dX6_takePlace_84 (fun x33 X34 => ?_)
    refine TC.pop dX6_takePlace_87 ?_
    refine TC.iconst (w := 0) dX6_takePlace_88 (by decide) ?_
    exact TC.ret_z rfl dX6_takePlace_89 rfl
noncomputable def g_Reader_takeBlock_68 (v_takePrefix : Int32 → Int32 → St → Option (Int32 × St)) (v_takeE : St → Option (Int32 × St)) (X : St) : Option (Int32 × St) :=
  bnd (g_Reader_want (125 : Int32) X) fun _ X4 =>
  letV (X4.1 46 2) fun x5 =>
  letV (x5 - (1 : Int32)) fun x6 =>
  letV (wI X4 46 2 x6) fun X7 =>
  some (0, X7)
set_option maxHeartbeats 4000000 in
set_option maxRecDepth 100000 in
theorem k_Reader_takeBlock_68 (Γ : GxC) (d : Nat) (As : List Value) (v_takePrefix : Int32 → Int32 → St → Option (Int32 × St)) (hv_takePrefix : ∀ (p1 : Int32) (p2 : Int32) (X : St), TCI YC Γ yX6_takePrefix cX6_takePrefix 5 "BlameCourt$Reade\x72" (some .int) { frames := (200 + 5 * d), cells := 0, slots := 0, locals := (7990 + 200 * d) } [.ref (Γ.2.2.2.1 46), .int p1, .int p2] X (v_takePrefix p1 p2 X)) (v_takeE : St → Option (Int32 × St)) (hv_takeE : ∀ (X : St), TCI YC Γ yX6_takeE cX6_takeE 1 "BlameCourt$Reade\x72" (some .int) { frames := (200 + 5 * d), cells := 0, slots := 0, locals := (7990 + 200 * d) } [.ref (Γ.2.2.2.1 46)] X (v_takeE X)) (X : St) : TC YC Γ cX6_takeBlock 2 "BlameCourt$Reade\x72" none { frames := (201 + 5 * d), cells := 0, slots := 0, locals := (8030 + 200 * d) } As kV 68 [(0, .ref (Γ.2.2.2.1 46))] [] X (g_Reader_takeBlock_68 v_takePrefix v_takeE X) := by
  unfold g_Reader_takeBlock_68
  refine TC.aload_n dX6_takeBlock_68 rfl 0 rfl ?_
  refine TC.bipush (w := 125) dX6_takeBlock_69 (by decide) ?_
  refine TC.callV_v 46 (As1 := [.int 125]) (rest := []) (k_Reader_want Γ (125 : Int32) X) ka_X6_want kv_X6_want oC_46 rfl k817 rfl rfl rfl rfl (show 5 + 1 ≤ (201 + 5 * d) ∧ 8 + (2 + 11) + 190 ≤ (8030 + 200 * d) from ⟨by omega, by omega⟩) (Nat.le_of_ble_eq_true rfl) dX6_takeBlock_71 (fun _ X4 => ?_)
  refine TC.aload_n dX6_takeBlock_74 rfl 0 rfl ?_
  refine TC.dupr dX6_takeBlock_75 ?_
  refine gC5_2 k418 dX6_takeBlock_76 (fun x5 => ?_)
  refine TC.iconst (w := 1) dX6_takeBlock_79 (by decide) ?_
  refine TC.isub dX6_takeBlock_80 (fun x6 => ?_)
  refine pC5_2 k418 dX6_takeBlock_81 (fun X7 => ?_)
  exact TC.ret_v rfl dX6_takeBlock_84
noncomputable def g_Reader_takeBlock_13_s (v_takePrefix : Int32 → Int32 → St → Option (Int32 × St)) (v_takeE : St → Option (Int32 × St)) (r13 : Int32 → St → Option (Int32 × St)) (a_1 : Int32) (X : St) : Option (Int32 × St) :=
  if 3000 ≤ a_1.toInt then
    g_Reader_takeBlock_68 v_takePrefix v_takeE X
  else
    letV (X.1 47 3) fun x8 =>
    if x8.toInt = 59 then
      chk (refO YC (X.2.2 46 1) 4 17 = true) (letV (X.2.2 46 1 - 1) fun e9 =>
      letV (X.1 47 4) fun x10 =>
      bnd (g_Program_emit e9 (9 : Int32) (0 : Int32) x10 X) fun x11 X12 =>
      bnd (g_Tokens_advance X12) fun _ X13 =>
      bnd (v_takeE X13) fun x14 X15 =>
      letV (a_1 + Int32.ofInt (1)) fun x16 =>
      r13 x16 X15)
    else
      g_Reader_takeBlock_68 v_takePrefix v_takeE X
noncomputable def g_Reader_takeBlock_13 (v_takePrefix : Int32 → Int32 → St → Option (Int32 × St)) (v_takeE : St → Option (Int32 × St)) (n : Nat) : Int32 → St → Option (Int32 × St) := lp (fun _ _ => none) (g_Reader_takeBlock_13_s v_takePrefix v_takeE) n
set_option maxHeartbeats 4000000 in
set_option maxRecDepth 100000 in
theorem k_Reader_takeBlock_13 (Γ : GxC) (d : Nat) (As : List Value) (v_takePrefix : Int32 → Int32 → St → Option (Int32 × St)) (hv_takePrefix : ∀ (p1 : Int32) (p2 : Int32) (X : St), TCI YC Γ yX6_takePrefix cX6_takePrefix 5 "BlameCourt$Reade\x72" (some .int) { frames := (200 + 5 * d), cells := 0, slots := 0, locals := (7990 + 200 * d) } [.ref (Γ.2.2.2.1 46), .int p1, .int p2] X (v_takePrefix p1 p2 X)) (v_takeE : St → Option (Int32 × St)) (hv_takeE : ∀ (X : St), TCI YC Γ yX6_takeE cX6_takeE 1 "BlameCourt$Reade\x72" (some .int) { frames := (200 + 5 * d), cells := 0, slots := 0, locals := (7990 + 200 * d) } [.ref (Γ.2.2.2.1 46)] X (v_takeE X)) (n : Nat) : ∀ (a_1 : Int32) (X : St), TC YC Γ cX6_takeBlock 2 "BlameCourt$Reade\x72" none { frames := (201 + 5 * d), cells := 0, slots := 0, locals := (8030 + 200 * d) } As kV 13 [(0, .ref (Γ.2.2.2.1 46)), (1, .int a_1)] [] X (g_Reader_takeBlock_13 v_takePrefix v_takeE n a_1 X) := by
  unfold g_Reader_takeBlock_13
  refine lp_ind (P := fun (r13 : Int32 → St → Option (Int32 × St)) => ∀ (a_1 : Int32) (X : St), TC YC Γ cX6_takeBlock 2 "BlameCourt$Reade\x72" none { frames := (201 + 5 * d), cells := 0, slots := 0, locals := (8030 + 200 * d) } As kV 13 [(0, .ref (Γ.2.2.2.1 46)), (1, .int a_1)] [] X (r13 a_1 X)) (fun _ _ => TC.no) ?_ n
  intro r13 hr13 a_1 X
  unfold g_Reader_takeBlock_13_s
  refine TC.iload_n dX6_takeBlock_13 rfl 1 rfl ?_
  refine TC.sipush (w := 3000) dX6_takeBlock_14 (by decide) ?_
  refine TC.icmp_ge (pc1 := 68) dX6_takeBlock_17 (by decide) rfl ?_ ?_
  · refine TC.sub [0] rfl ?_
    exact k_Reader_takeBlock_68 Γ d _ v_takePrefix hv_takePrefix v_takeE hv_takeE X
  · refine TC.aload_n dX6_takeBlock_20 rfl 0 rfl ?_
    refine cC5_0 k416 dX6_takeBlock_21 ?_
    refine gC7_3 k390 dX6_takeBlock_24 (fun x8 => ?_)
    refine TC.bipush (w := 59) dX6_takeBlock_27 (by decide) ?_
    refine TC.icmp_ne (pc1 := 68) dX6_takeBlock_29 (by decide) rfl ?_ ?_
    · refine TC.sub [0] rfl ?_
      exact k_Reader_takeBlock_68 Γ d _ v_takePrefix hv_takePrefix v_takeE hv_takeE X
    · refine TC.aload_n dX6_takeBlock_32 rfl 0 rfl ?_
      refine mC5_1 k417 dX6_takeBlock_33 (fun e9 he9 => ?_)
      refine TC.bipush (w := 9) dX6_takeBlock_36 (by decide) ?_
      refine TC.iconst (w := 0) dX6_takeBlock_38 (by decide) ?_
      refine TC.aload_n dX6_takeBlock_39 rfl 0 rfl ?_
      refine cC5_0 k416 dX6_takeBlock_40 ?_
      refine gC7_4 k392 dX6_takeBlock_43 (fun x10 => ?_)
      refine TC.callV_i e9 (As1 := [.int 9, .int 0, .int x10]) (rest := []) (k_Program_emit Γ e9 he9 (9 : Int32) (0 : Int32) x10 X) ka_X5_emit kv_X5_emit he9 rfl k875 rfl rfl rfl rfl (show 2 + 1 ≤ (201 + 5 * d) ∧ 8 + (4 + 11) + 70 ≤ (8030 + 200 * d) from ⟨by omega, by omega⟩) (Nat.le_of_ble_eq_true rfl) dX6_takeBlock_46 (fun x11 X12 => ?_)
      refine TC.pop dX6_takeBlock_49 ?_
      refine TC.aload_n dX6_takeBlock_50 rfl 0 rfl ?_
      refine cC5_0 k416 dX6_takeBlock_51 ?_
      refine TC.callV_v 47 (As1 := []) (rest := []) (k_Tokens_advance Γ X12) ka_X9_advance kv_X9_advance oC_47 rfl k816 rfl rfl rfl rfl (show 4 + 1 ≤ (201 + 5 * d) ∧ 8 + (3 + 11) + 150 ≤ (8030 + 200 * d) from ⟨by omega, by omega⟩) (Nat.le_of_ble_eq_true rfl) dX6_takeBlock_54 (fun _ X13 => ?_)
      refine TC.aload_n dX6_takeBlock_57 rfl 0 rfl ?_
      refine TC.callV_i 46 (As1 := []) (rest := []) (hv_takeE X13) ka_X6_takeE kv_X6_takeE oC_46 rfl k863 rfl rfl rfl rfl (show (200 + 5 * d) + 1 ≤ (201 + 5 * d) ∧ 8 + (1 + 11) + (7990 + 200 * d) ≤ (8030 + 200 * d) from ⟨by omega, by omega⟩) (Nat.le_of_ble_eq_true rfl) dX6_takeBlock_58 (fun x14 X15 => ?_)
      refine TC.pop dX6_takeBlock_61 ?_
      refine TC.iinc dX6_takeBlock_62 1 rfl (by decide) (lvf := fun x16 => [(1, .int x16), (0, .ref (Γ.2.2.2.1 46))]) (fun _ => rfl) (fun x16 => ?_)
      refine TC.goto (pc1 := 13) dX6_takeBlock_65 (by decide) ?_
      refine TC.sub [1, 0] rfl ?_
      exact hr13 x16 X15
noncomputable def g_Reader_takeBlock (v_takePrefix : Int32 → Int32 → St → Option (Int32 × St)) (v_takeE : St → Option (Int32 × St)) (X : St) : Option (Int32 × St) :=
  bnd (g_Reader_enter (123 : Int32) X) fun _ X1 =>
  bnd (v_takeE X1) fun x2 X3 =>
  g_Reader_takeBlock_13 v_takePrefix v_takeE BIG (0 : Int32) X3
set_option maxHeartbeats 4000000 in
set_option maxRecDepth 100000 in
theorem k_Reader_takeBlock (Γ : GxC) (d : Nat) (v_takePrefix : Int32 → Int32 → St → Option (Int32 × St)) (hv_takePrefix : ∀ (p1 : Int32) (p2 : Int32) (X : St), TCI YC Γ yX6_takePrefix cX6_takePrefix 5 "BlameCourt$Reade\x72" (some .int) { frames := (200 + 5 * d), cells := 0, slots := 0, locals := (7990 + 200 * d) } [.ref (Γ.2.2.2.1 46), .int p1, .int p2] X (v_takePrefix p1 p2 X)) (v_takeE : St → Option (Int32 × St)) (hv_takeE : ∀ (X : St), TCI YC Γ yX6_takeE cX6_takeE 1 "BlameCourt$Reade\x72" (some .int) { frames := (200 + 5 * d), cells := 0, slots := 0, locals := (7990 + 200 * d) } [.ref (Γ.2.2.2.1 46)] X (v_takeE X)) (X : St) : TCV YC Γ yX6_takeBlock cX6_takeBlock 2 "BlameCourt$Reade\x72" none { frames := (201 + 5 * d), cells := 0, slots := 0, locals := (8030 + 200 * d) } [.ref (Γ.2.2.2.1 46)] X (g_Reader_takeBlock v_takePrefix v_takeE X) := by
  refine TCV.of (by decide) (Nat.le_of_ble_eq_true rfl) rfl ?_
  show TC YC Γ cX6_takeBlock 2 "BlameCourt$Reade\x72" none { frames := (201 + 5 * d), cells := 0, slots := 0, locals := (8030 + 200 * d) } _ kV 0 [(0, .ref (Γ.2.2.2.1 46))] [] X (g_Reader_takeBlock v_takePrefix v_takeE X)
  unfold g_Reader_takeBlock
  refine TC.aload_n dX6_takeBlock_0 rfl 0 rfl ?_
  refine TC.bipush (w := 123) dX6_takeBlock_1 (by decide) ?_
  refine TC.callV_v 46 (As1 := [.int 123]) (rest := []) (k_Reader_enter Γ (123 : Int32) X) ka_X6_enter kv_X6_enter oC_46 rfl k825 rfl rfl rfl rfl (show 5 + 1 ≤ (201 + 5 * d) ∧ 8 + (2 + 11) + 190 ≤ (8030 + 200 * d) from ⟨by omega, by omega⟩) (Nat.le_of_ble_eq_true rfl) dX6_takeBlock_3 (fun _ X1 => ?_)
  refine TC.aload_n dX6_takeBlock_6 rfl 0 rfl ?_
  refine TC.callV_i 46 (As1 := []) (rest := []) (hv_takeE X1) ka_X6_takeE kv_X6_takeE oC_46 rfl k863 rfl rfl rfl rfl (show (200 + 5 * d) + 1 ≤ (201 + 5 * d) ∧ 8 + (1 + 11) + (7990 + 200 * d) ≤ (8030 + 200 * d) from ⟨by omega, by omega⟩) (Nat.le_of_ble_eq_true rfl) dX6_takeBlock_7 (fun x2 X3 => ?_)
  refine TC.pop dX6_takeBlock_10 ?_
  refine TC.iconst (w := 0) dX6_takeBlock_11 (by decide) ?_
  refine TC.istore_n (lv1 := [(1, .int 0), (0, .ref (Γ.2.2.2.1 46))]) dX6_takeBlock_12 rfl (by decide) rfl ?_
  refine TC.sub [1, 0] rfl ?_
  exact k_Reader_takeBlock_13 Γ d _ v_takePrefix hv_takePrefix v_takeE hv_takeE BIG (0 : Int32) X3
noncomputable def g_Reader_takeList_111 (v_takePrefix : Int32 → Int32 → St → Option (Int32 × St)) (v_takeE : St → Option (Int32 × St)) (a_1 : Int32) (a_4 : Int32) (X : St) : Option (Int32 × St) :=
  bnd (g_Reader_want a_1 X) fun _ X3 =>
  letV (X3.1 46 2) fun x4 =>
  letV (x4 - (1 : Int32)) fun x5 =>
  letV (wI X3 46 2 x5) fun X6 =>
  some (a_4, X6)
set_option maxHeartbeats 4000000 in
set_option maxRecDepth 100000 in
theorem k_Reader_takeList_111 (Γ : GxC) (d : Nat) (As : List Value) (v_takePrefix : Int32 → Int32 → St → Option (Int32 × St)) (hv_takePrefix : ∀ (p1 : Int32) (p2 : Int32) (X : St), TCI YC Γ yX6_takePrefix cX6_takePrefix 5 "BlameCourt$Reade\x72" (some .int) { frames := (200 + 5 * d), cells := 0, slots := 0, locals := (7990 + 200 * d) } [.ref (Γ.2.2.2.1 46), .int p1, .int p2] X (v_takePrefix p1 p2 X)) (v_takeE : St → Option (Int32 × St)) (hv_takeE : ∀ (X : St), TCI YC Γ yX6_takeE cX6_takeE 1 "BlameCourt$Reade\x72" (some .int) { frames := (200 + 5 * d), cells := 0, slots := 0, locals := (7990 + 200 * d) } [.ref (Γ.2.2.2.1 46)] X (v_takeE X)) (a_1 : Int32) (a_4 : Int32) (X : St) : TC YC Γ cX6_takeList 7 "BlameCourt$Reade\x72" (some .int) { frames := (201 + 5 * d), cells := 0, slots := 0, locals := (8030 + 200 * d) } As kI 111 [(0, .ref (Γ.2.2.2.1 46)), (1, .int a_1), (4, .int a_4)] [] X (g_Reader_takeList_111 v_takePrefix v_takeE a_1 a_4 X) := by
  unfold g_Reader_takeList_111
  refine TC.aload_n dX6_takeList_111 rfl 0 rfl ?_
  refine TC.iload_n dX6_takeList_112 rfl 1 rfl ?_
  refine TC.callV_v 46 (As1 := [.int a_1]) (rest := []) (k_Reader_want Γ a_1 X) ka_X6_want kv_X6_want oC_46 rfl k817 rfl rfl rfl rfl (show 5 + 1 ≤ (201 + 5 * d) ∧ 8 + (2 + 11) + 190 ≤ (8030 + 200 * d) from ⟨by omega, by omega⟩) (Nat.le_of_ble_eq_true rfl) dX6_takeList_113 (fun _ X3 => ?_)
  refine TC.aload_n dX6_takeList_116 rfl 0 rfl ?_
  refine TC.dupr dX6_takeList_117 ?_
  refine gC5_2 k418 dX6_takeList_118 (fun x4 => ?_)
  refine TC.iconst (w := 1) dX6_takeList_121 (by decide) ?_
  refine TC.isub dX6_takeList_122 (fun x5 => ?_)
  refine pC5_2 k418 dX6_takeList_123 (fun X6 => ?_)
  refine TC.iload dX6_takeList_126 2 rfl ?_
  exact TC.ret_i rfl dX6_takeList_128
noncomputable def g_Reader_takeList_57 (v_takePrefix : Int32 → Int32 → St → Option (Int32 × St)) (v_takeE : St → Option (Int32 × St)) (r17 : Int32 → Int32 → Int32 → Int32 → Int32 → St → Option (Int32 × St)) (a_1 : Int32) (a_2 : Int32) (a_3 : Int32) (a_4 : Int32) (a_5 : Int32) (X : St) : Option (Int32 × St) :=
  bnd (v_takeE X) fun x7 X8 =>
  chk (refO YC (X8.2.2 46 1) 4 17 = true) (letV (X8.2.2 46 1 - 1) fun e9 =>
  bnd (g_Reader_placeOf x7 X8) fun x10 X11 =>
  bnd (g_Program_emit e9 a_3 a_5 x10 X11) fun x12 X13 =>
  letV (a_4 + Int32.ofInt (1)) fun x14 =>
  letV (X13.1 47 3) fun x15 =>
  if x15.toInt = 44 then
    bnd (g_Tokens_advance X13) fun _ X16 =>
    letV (a_5 + Int32.ofInt (1)) fun x17 =>
    r17 a_1 a_2 a_3 x14 x17 X16
  else
    g_Reader_takeList_111 v_takePrefix v_takeE a_1 x14 X13)
set_option maxHeartbeats 4000000 in
set_option maxRecDepth 100000 in
theorem k_Reader_takeList_57 (Γ : GxC) (d : Nat) (As : List Value) (v_takePrefix : Int32 → Int32 → St → Option (Int32 × St)) (hv_takePrefix : ∀ (p1 : Int32) (p2 : Int32) (X : St), TCI YC Γ yX6_takePrefix cX6_takePrefix 5 "BlameCourt$Reade\x72" (some .int) { frames := (200 + 5 * d), cells := 0, slots := 0, locals := (7990 + 200 * d) } [.ref (Γ.2.2.2.1 46), .int p1, .int p2] X (v_takePrefix p1 p2 X)) (v_takeE : St → Option (Int32 × St)) (hv_takeE : ∀ (X : St), TCI YC Γ yX6_takeE cX6_takeE 1 "BlameCourt$Reade\x72" (some .int) { frames := (200 + 5 * d), cells := 0, slots := 0, locals := (7990 + 200 * d) } [.ref (Γ.2.2.2.1 46)] X (v_takeE X)) (r17 : Int32 → Int32 → Int32 → Int32 → Int32 → St → Option (Int32 × St)) (hr17 : ∀ (a_1 : Int32) (a_2 : Int32) (a_3 : Int32) (a_4 : Int32) (a_5 : Int32) (X : St), TC YC Γ cX6_takeList 7 "BlameCourt$Reade\x72" (some .int) { frames := (201 + 5 * d), cells := 0, slots := 0, locals := (8030 + 200 * d) } As kI 17 [(0, .ref (Γ.2.2.2.1 46)), (1, .int a_1), (2, .int a_2), (3, .int a_3), (4, .int a_4), (5, .int a_5)] [] X (r17 a_1 a_2 a_3 a_4 a_5 X)) (a_1 : Int32) (a_2 : Int32) (a_3 : Int32) (a_4 : Int32) (a_5 : Int32) (X : St) : TC YC Γ cX6_takeList 7 "BlameCourt$Reade\x72" (some .int) { frames := (201 + 5 * d), cells := 0, slots := 0, locals := (8030 + 200 * d) } As kI 57 [(0, .ref (Γ.2.2.2.1 46)), (1, .int a_1), (2, .int a_2), (3, .int a_3), (4, .int a_4), (5, .int a_5)] [] X (g_Reader_takeList_57 v_takePrefix v_takeE r17 a_1 a_2 a_3 a_4 a_5 X) := by
  unfold g_Reader_takeList_57
  refine TC.aload_n dX6_takeList_57 rfl 0 rfl ?_
  refine TC.callV_i 46 (As1 := []) (rest := []) (hv_takeE X) ka_X6_takeE kv_X6_takeE oC_46 rfl k863 rfl rfl rfl rfl (show (200 + 5 * d) + 1 ≤ (201 + 5 * d) ∧ 8 + (1 + 11) + (7990 + 200 * d) ≤ (8030 + 200 * d) from ⟨by omega, by omega⟩) (Nat.le_of_ble_eq_true rfl) dX6_takeList_58 (fun x7 X8 => ?_)
  refine TC.istore (lv1 := [(6, .int x7), (0, .ref (Γ.2.2.2.1 46)), (1, .int a_1), (2, .int a_2), (3, .int a_3), (4, .int a_4), (5, .int a_5)]) dX6_takeList_61 (by decide) rfl ?_
  refine TC.aload_n dX6_takeList_63 rfl 1 rfl ?_
  refine mC5_1 k417 dX6_takeList_64 (fun e9 he9 => ?_)
  refine TC.iload_n dX6_takeList_67 rfl 4 rfl ?_
  refine TC.iload dX6_takeList_68 6 rfl ?_
  refine TC.aload_n dX6_takeList_70 rfl 1 rfl ?_
  refine TC.iload dX6_takeList_71 0 rfl ?_
  refine TC.callV_i 46 (As1 := [.int x7]) (rest := [.int a_5, .int a_3, .ref (Γ.2.2.2.1 e9)]) (k_Reader_placeOf Γ x7 X8) ka_X6_placeOf kv_X6_placeOf oC_46 rfl k879 rfl rfl rfl rfl (show 2 + 1 ≤ (201 + 5 * d) ∧ 8 + (2 + 11) + 70 ≤ (8030 + 200 * d) from ⟨by omega, by omega⟩) (Nat.le_of_ble_eq_true rfl) dX6_takeList_73 (fun x10 X11 => ?_)
  refine TC.callV_i e9 (As1 := [.int a_3, .int a_5, .int x10]) (rest := []) (k_Program_emit Γ e9 he9 a_3 a_5 x10 X11) ka_X5_emit kv_X5_emit he9 rfl k875 rfl rfl rfl rfl (show 2 + 1 ≤ (201 + 5 * d) ∧ 8 + (4 + 11) + 70 ≤ (8030 + 200 * d) from ⟨by omega, by omega⟩) (Nat.le_of_ble_eq_true rfl) dX6_takeList_76 (fun x12 X13 => ?_)
  refine TC.pop dX6_takeList_79 ?_
  refine TC.iinc dX6_takeList_80 5 rfl (by decide) (lvf := fun x14 => [(4, .int x14), (6, .int x7), (0, .ref (Γ.2.2.2.1 46)), (1, .int a_1), (2, .int a_2), (3, .int a_3), (5, .int a_5)]) (fun _ => rfl) (fun x14 => ?_)
  refine TC.aload_n dX6_takeList_83 rfl 2 rfl ?_
  refine cC5_0 k416 dX6_takeList_84 ?_
  refine gC7_3 k390 dX6_takeList_87 (fun x15 => ?_)
  refine TC.bipush (w := 44) dX6_takeList_90 (by decide) ?_
  refine TC.icmp_eq (pc1 := 98) dX6_takeList_92 (by decide) rfl ?_ ?_
  · refine TC.aload_n dX6_takeList_98 rfl 2 rfl ?_
    refine cC5_0 k416 dX6_takeList_99 ?_
    refine TC.callV_v 47 (As1 := []) (rest := []) (k_Tokens_advance Γ X13) ka_X9_advance kv_X9_advance oC_47 rfl k816 rfl rfl rfl rfl (show 4 + 1 ≤ (201 + 5 * d) ∧ 8 + (3 + 11) + 150 ≤ (8030 + 200 * d) from ⟨by omega, by omega⟩) (Nat.le_of_ble_eq_true rfl) dX6_takeList_102 (fun _ X16 => ?_)
    refine TC.iinc dX6_takeList_105 6 rfl (by decide) (lvf := fun x17 => [(5, .int x17), (4, .int x14), (6, .int x7), (0, .ref (Γ.2.2.2.1 46)), (1, .int a_1), (2, .int a_2), (3, .int a_3)]) (fun _ => rfl) (fun x17 => ?_)
    refine TC.goto (pc1 := 17) dX6_takeList_108 (by decide) ?_
    refine TC.sub [3, 4, 5, 6, 1, 0] rfl ?_
    exact hr17 a_1 a_2 a_3 x14 x17 X16
  · refine TC.goto (pc1 := 111) dX6_takeList_95 (by decide) ?_
    refine TC.sub [2, 3, 0] rfl ?_
    exact k_Reader_takeList_111 Γ d _ v_takePrefix hv_takePrefix v_takeE hv_takeE a_1 x14 X13
noncomputable def g_Reader_takeList_39 (v_takePrefix : Int32 → Int32 → St → Option (Int32 × St)) (v_takeE : St → Option (Int32 × St)) (r17 : Int32 → Int32 → Int32 → Int32 → Int32 → St → Option (Int32 × St)) (a_1 : Int32) (a_2 : Int32) (a_3 : Int32) (a_4 : Int32) (a_5 : Int32) (X : St) : Option (Int32 × St) :=
  if a_5.toInt < a_2.toInt then
    g_Reader_takeList_57 v_takePrefix v_takeE r17 a_1 a_2 a_3 a_4 a_5 X
  else
    bnd (g_Reader_beginsE X) fun x18 X19 =>
    if x18.toInt = 0 then
      g_Reader_takeList_57 v_takePrefix v_takeE r17 a_1 a_2 a_3 a_4 a_5 X19
    else
      bnd (g_Reader_refuse (3 : Int32) X19) fun _ X20 =>
      g_Reader_takeList_57 v_takePrefix v_takeE r17 a_1 a_2 a_3 a_4 a_5 X20
set_option maxHeartbeats 4000000 in
set_option maxRecDepth 100000 in
theorem k_Reader_takeList_39 (Γ : GxC) (d : Nat) (As : List Value) (v_takePrefix : Int32 → Int32 → St → Option (Int32 × St)) (hv_takePrefix : ∀ (p1 : Int32) (p2 : Int32) (X : St), TCI YC Γ yX6_takePrefix cX6_takePrefix 5 "BlameCourt$Reade\x72" (some .int) { frames := (200 + 5 * d), cells := 0, slots := 0, locals := (7990 + 200 * d) } [.ref (Γ.2.2.2.1 46), .int p1, .int p2] X (v_takePrefix p1 p2 X)) (v_takeE : St → Option (Int32 × St)) (hv_takeE : ∀ (X : St), TCI YC Γ yX6_takeE cX6_takeE 1 "BlameCourt$Reade\x72" (some .int) { frames := (200 + 5 * d), cells := 0, slots := 0, locals := (7990 + 200 * d) } [.ref (Γ.2.2.2.1 46)] X (v_takeE X)) (r17 : Int32 → Int32 → Int32 → Int32 → Int32 → St → Option (Int32 × St)) (hr17 : ∀ (a_1 : Int32) (a_2 : Int32) (a_3 : Int32) (a_4 : Int32) (a_5 : Int32) (X : St), TC YC Γ cX6_takeList 7 "BlameCourt$Reade\x72" (some .int) { frames := (201 + 5 * d), cells := 0, slots := 0, locals := (8030 + 200 * d) } As kI 17 [(0, .ref (Γ.2.2.2.1 46)), (1, .int a_1), (2, .int a_2), (3, .int a_3), (4, .int a_4), (5, .int a_5)] [] X (r17 a_1 a_2 a_3 a_4 a_5 X)) (a_1 : Int32) (a_2 : Int32) (a_3 : Int32) (a_4 : Int32) (a_5 : Int32) (X : St) : TC YC Γ cX6_takeList 7 "BlameCourt$Reade\x72" (some .int) { frames := (201 + 5 * d), cells := 0, slots := 0, locals := (8030 + 200 * d) } As kI 39 [(0, .ref (Γ.2.2.2.1 46)), (1, .int a_1), (2, .int a_2), (3, .int a_3), (4, .int a_4), (5, .int a_5)] [] X (g_Reader_takeList_39 v_takePrefix v_takeE r17 a_1 a_2 a_3 a_4 a_5 X) := by
  unfold g_Reader_takeList_39
  refine TC.iload dX6_takeList_39 5 rfl ?_
  refine TC.iload_n dX6_takeList_41 rfl 2 rfl ?_
  refine TC.icmp_lt (pc1 := 57) dX6_takeList_42 (by decide) rfl ?_ ?_
  · exact k_Reader_takeList_57 Γ d _ v_takePrefix hv_takePrefix v_takeE hv_takeE r17 hr17 a_1 a_2 a_3 a_4 a_5 X
  · refine TC.aload_n dX6_takeList_45 rfl 0 rfl ?_
    refine TC.callV_i 46 (As1 := []) (rest := []) (k_Reader_beginsE Γ X) ka_X6_beginsE kv_X6_beginsE oC_46 rfl k924 rfl rfl rfl rfl (show 2 + 1 ≤ (201 + 5 * d) ∧ 8 + (1 + 11) + 70 ≤ (8030 + 200 * d) from ⟨by omega, by omega⟩) (Nat.le_of_ble_eq_true rfl) dX6_takeList_46 (fun x18 X19 => ?_)
    refine TC.if_eq (pc1 := 57) dX6_takeList_49 (by decide) ?_ ?_
    · exact k_Reader_takeList_57 Γ d _ v_takePrefix hv_takePrefix v_takeE hv_takeE r17 hr17 a_1 a_2 a_3 a_4 a_5 X19
    · refine TC.aload_n dX6_takeList_52 rfl 0 rfl ?_
      refine TC.iconst (w := 3) dX6_takeList_53 (by decide) ?_
      refine TC.callV_v 46 (As1 := [.int 3]) (rest := []) (k_Reader_refuse Γ (3 : Int32) X19) ka_X6_refuse kv_X6_refuse oC_46 rfl k800 rfl rfl rfl rfl (show 3 + 1 ≤ (201 + 5 * d) ∧ 8 + (2 + 11) + 110 ≤ (8030 + 200 * d) from ⟨by omega, by omega⟩) (Nat.le_of_ble_eq_true rfl) dX6_takeList_54 (fun _ X20 => ?_)
      exact k_Reader_takeList_57 Γ d _ v_takePrefix hv_takePrefix v_takeE hv_takeE r17 hr17 a_1 a_2 a_3 a_4 a_5 X20
noncomputable def g_Reader_takeList_17_s (v_takePrefix : Int32 → Int32 → St → Option (Int32 × St)) (v_takeE : St → Option (Int32 × St)) (r17 : Int32 → Int32 → Int32 → Int32 → Int32 → St → Option (Int32 × St)) (a_1 : Int32) (a_2 : Int32) (a_3 : Int32) (a_4 : Int32) (a_5 : Int32) (X : St) : Option (Int32 × St) :=
  if a_2.toInt < a_5.toInt then
    g_Reader_takeList_111 v_takePrefix v_takeE a_1 a_4 X
  else
    if 0 < a_4.toInt then
      g_Reader_takeList_39 v_takePrefix v_takeE r17 a_1 a_2 a_3 a_4 a_5 X
    else
      letV (X.1 47 3) fun x21 =>
      if x21.toInt = a_1.toInt then
        g_Reader_takeList_111 v_takePrefix v_takeE a_1 a_4 X
      else
        g_Reader_takeList_39 v_takePrefix v_takeE r17 a_1 a_2 a_3 a_4 a_5 X
noncomputable def g_Reader_takeList_17 (v_takePrefix : Int32 → Int32 → St → Option (Int32 × St)) (v_takeE : St → Option (Int32 × St)) (n : Nat) : Int32 → Int32 → Int32 → Int32 → Int32 → St → Option (Int32 × St) := lp (fun _ _ _ _ _ _ => none) (g_Reader_takeList_17_s v_takePrefix v_takeE) n
set_option maxHeartbeats 4000000 in
set_option maxRecDepth 100000 in
theorem k_Reader_takeList_17 (Γ : GxC) (d : Nat) (As : List Value) (v_takePrefix : Int32 → Int32 → St → Option (Int32 × St)) (hv_takePrefix : ∀ (p1 : Int32) (p2 : Int32) (X : St), TCI YC Γ yX6_takePrefix cX6_takePrefix 5 "BlameCourt$Reade\x72" (some .int) { frames := (200 + 5 * d), cells := 0, slots := 0, locals := (7990 + 200 * d) } [.ref (Γ.2.2.2.1 46), .int p1, .int p2] X (v_takePrefix p1 p2 X)) (v_takeE : St → Option (Int32 × St)) (hv_takeE : ∀ (X : St), TCI YC Γ yX6_takeE cX6_takeE 1 "BlameCourt$Reade\x72" (some .int) { frames := (200 + 5 * d), cells := 0, slots := 0, locals := (7990 + 200 * d) } [.ref (Γ.2.2.2.1 46)] X (v_takeE X)) (n : Nat) : ∀ (a_1 : Int32) (a_2 : Int32) (a_3 : Int32) (a_4 : Int32) (a_5 : Int32) (X : St), TC YC Γ cX6_takeList 7 "BlameCourt$Reade\x72" (some .int) { frames := (201 + 5 * d), cells := 0, slots := 0, locals := (8030 + 200 * d) } As kI 17 [(0, .ref (Γ.2.2.2.1 46)), (1, .int a_1), (2, .int a_2), (3, .int a_3), (4, .int a_4), (5, .int a_5)] [] X (g_Reader_takeList_17 v_takePrefix v_takeE n a_1 a_2 a_3 a_4 a_5 X) := by
  unfold g_Reader_takeList_17
  refine lp_ind (P := fun (r17 : Int32 → Int32 → Int32 → Int32 → Int32 → St → Option (Int32 × St)) => ∀ (a_1 : Int32) (a_2 : Int32) (a_3 : Int32) (a_4 : Int32) (a_5 : Int32) (X : St), TC YC Γ cX6_takeList 7 "BlameCourt$Reade\x72" (some .int) { frames := (201 + 5 * d), cells := 0, slots := 0, locals := (8030 + 200 * d) } As kI 17 [(0, .ref (Γ.2.2.2.1 46)), (1, .int a_1), (2, .int a_2), (3, .int a_3), (4, .int a_4), (5, .int a_5)] [] X (r17 a_1 a_2 a_3 a_4 a_5 X)) (fun _ _ _ _ _ _ => TC.no) ?_ n
  intro r17 hr17 a_1 a_2 a_3 a_4 a_5 X
  unfold g_Reader_takeList_17_s
  refine TC.iload dX6_takeList_17 5 rfl ?_
  refine TC.iload_n dX6_takeList_19 rfl 2 rfl ?_
  refine TC.icmp_gt (pc1 := 111) dX6_takeList_20 (by decide) rfl ?_ ?_
  · refine TC.sub [0, 1, 4] rfl ?_
    exact k_Reader_takeList_111 Γ d _ v_takePrefix hv_takePrefix v_takeE hv_takeE a_1 a_4 X
  · refine TC.iload dX6_takeList_23 4 rfl ?_
    refine TC.if_gt (pc1 := 39) dX6_takeList_25 (by decide) ?_ ?_
    · exact k_Reader_takeList_39 Γ d _ v_takePrefix hv_takePrefix v_takeE hv_takeE r17 hr17 a_1 a_2 a_3 a_4 a_5 X
    · refine TC.aload_n dX6_takeList_28 rfl 0 rfl ?_
      refine cC5_0 k416 dX6_takeList_29 ?_
      refine gC7_3 k390 dX6_takeList_32 (fun x21 => ?_)
      refine TC.iload_n dX6_takeList_35 rfl 1 rfl ?_
      refine TC.icmp_eq (pc1 := 111) dX6_takeList_36 (by decide) rfl ?_ ?_
      · refine TC.sub [0, 1, 4] rfl ?_
        exact k_Reader_takeList_111 Γ d _ v_takePrefix hv_takePrefix v_takeE hv_takeE a_1 a_4 X
      · exact k_Reader_takeList_39 Γ d _ v_takePrefix hv_takePrefix v_takeE hv_takeE r17 hr17 a_1 a_2 a_3 a_4 a_5 X
noncomputable def g_Reader_takeList (v_takePrefix : Int32 → Int32 → St → Option (Int32 × St)) (v_takeE : St → Option (Int32 × St)) (p1 : Int32) (p2 : Int32) (p3 : Int32) (X : St) : Option (Int32 × St) :=
  letV (X.1 47 3) fun x1 =>
  bnd (g_Reader_enter x1 X) fun _ X2 =>
  g_Reader_takeList_17 v_takePrefix v_takeE BIG p1 p2 p3 (0 : Int32) (0 : Int32) X2
set_option maxHeartbeats 4000000 in
set_option maxRecDepth 100000 in
theorem k_Reader_takeList (Γ : GxC) (d : Nat) (v_takePrefix : Int32 → Int32 → St → Option (Int32 × St)) (hv_takePrefix : ∀ (p1 : Int32) (p2 : Int32) (X : St), TCI YC Γ yX6_takePrefix cX6_takePrefix 5 "BlameCourt$Reade\x72" (some .int) { frames := (200 + 5 * d), cells := 0, slots := 0, locals := (7990 + 200 * d) } [.ref (Γ.2.2.2.1 46), .int p1, .int p2] X (v_takePrefix p1 p2 X)) (v_takeE : St → Option (Int32 × St)) (hv_takeE : ∀ (X : St), TCI YC Γ yX6_takeE cX6_takeE 1 "BlameCourt$Reade\x72" (some .int) { frames := (200 + 5 * d), cells := 0, slots := 0, locals := (7990 + 200 * d) } [.ref (Γ.2.2.2.1 46)] X (v_takeE X)) (p1 : Int32) (p2 : Int32) (p3 : Int32) (X : St) : TCI YC Γ yX6_takeList cX6_takeList 7 "BlameCourt$Reade\x72" (some .int) { frames := (201 + 5 * d), cells := 0, slots := 0, locals := (8030 + 200 * d) } [.ref (Γ.2.2.2.1 46), .int p1, .int p2, .int p3] X (g_Reader_takeList v_takePrefix v_takeE p1 p2 p3 X) := by
  refine TCI.of (by decide) (Nat.le_of_ble_eq_true rfl) rfl ?_
  show TC YC Γ cX6_takeList 7 "BlameCourt$Reade\x72" (some .int) { frames := (201 + 5 * d), cells := 0, slots := 0, locals := (8030 + 200 * d) } _ kI 0 [(0, .ref (Γ.2.2.2.1 46)), (1, .int p1), (2, .int p2), (3, .int p3)] [] X (g_Reader_takeList v_takePrefix v_takeE p1 p2 p3 X)
  unfold g_Reader_takeList
  refine TC.iconst (w := 0) dX6_takeList_0 (by decide) ?_
  refine TC.istore (lv1 := [(4, .int 0), (0, .ref (Γ.2.2.2.1 46)), (1, .int p1), (2, .int p2), (3, .int p3)]) dX6_takeList_1 (by decide) rfl ?_
  refine TC.aload_n dX6_takeList_3 rfl 1 rfl ?_
  refine TC.aload_n dX6_takeList_4 rfl 1 rfl ?_
  refine cC5_0 k416 dX6_takeList_5 ?_
  refine gC7_3 k390 dX6_takeList_8 (fun x1 => ?_)
  refine TC.callV_v 46 (As1 := [.int x1]) (rest := []) (k_Reader_enter Γ x1 X) ka_X6_enter kv_X6_enter oC_46 rfl k825 rfl rfl rfl rfl (show 5 + 1 ≤ (201 + 5 * d) ∧ 8 + (2 + 11) + 190 ≤ (8030 + 200 * d) from ⟨by omega, by omega⟩) (Nat.le_of_ble_eq_true rfl) dX6_takeList_11 (fun _ X2 => ?_)
  refine TC.iconst (w := 0) dX6_takeList_14 (by decide) ?_
  refine TC.istore (lv1 := [(5, .int 0), (4, .int 0), (0, .ref (Γ.2.2.2.1 46)), (1, .int p1), (2, .int p2), (3, .int p3)]) dX6_takeList_15 (by decide) rfl ?_
  refine TC.sub [2, 3, 4, 5, 1, 0] rfl ?_
  exact k_Reader_takeList_17 Γ d _ v_takePrefix hv_takePrefix v_takeE hv_takeE BIG p1 p2 p3 (0 : Int32) (0 : Int32) X2
noncomputable def g_Reader_takeCall (v_takePrefix : Int32 → Int32 → St → Option (Int32 × St)) (v_takeE : St → Option (Int32 × St)) (p1 : Int32) (X : St) : Option (Int32 × St) :=
  letV (X.1 47 4) fun x1 =>
  chk (refO YC (X.2.2 46 1) 4 17 = true) (letV (X.2.2 46 1 - 1) fun e2 =>
  bnd (g_Program_emit e2 p1 (0 : Int32) x1 X) fun x3 X4 =>
  bnd (g_Reader_takeList v_takePrefix v_takeE (41 : Int32) (4 : Int32) (32 : Int32) X4) fun x5 X6 =>
  chk (refO YC (X6.2.2 46 1) 4 17 = true) (letV (X6.2.2 46 1 - 1) fun e7 =>
  letV (kY YC e7 14 - 3) fun e8 =>
  chk (inR x3 9080) (letV (wI X6 e8 (ix x3) x5) fun X9 =>
  chk (refO YC (X9.2.2 46 1) 4 17 = true) (letV (X9.2.2 46 1 - 1) fun e10 =>
  bnd (g_Program_emit e10 (16 : Int32) x5 x1 X9) fun x11 X12 =>
  some (0, X12)))))
set_option maxHeartbeats 4000000 in
set_option maxRecDepth 100000 in
theorem k_Reader_takeCall (Γ : GxC) (d : Nat) (v_takePrefix : Int32 → Int32 → St → Option (Int32 × St)) (hv_takePrefix : ∀ (p1 : Int32) (p2 : Int32) (X : St), TCI YC Γ yX6_takePrefix cX6_takePrefix 5 "BlameCourt$Reade\x72" (some .int) { frames := (200 + 5 * d), cells := 0, slots := 0, locals := (7990 + 200 * d) } [.ref (Γ.2.2.2.1 46), .int p1, .int p2] X (v_takePrefix p1 p2 X)) (v_takeE : St → Option (Int32 × St)) (hv_takeE : ∀ (X : St), TCI YC Γ yX6_takeE cX6_takeE 1 "BlameCourt$Reade\x72" (some .int) { frames := (200 + 5 * d), cells := 0, slots := 0, locals := (7990 + 200 * d) } [.ref (Γ.2.2.2.1 46)] X (v_takeE X)) (p1 : Int32) (X : St) : TCV YC Γ yX6_takeCall cX6_takeCall 5 "BlameCourt$Reade\x72" none { frames := (202 + 5 * d), cells := 0, slots := 0, locals := (8070 + 200 * d) } [.ref (Γ.2.2.2.1 46), .int p1] X (g_Reader_takeCall v_takePrefix v_takeE p1 X) := by
  refine TCV.of (by decide) (Nat.le_of_ble_eq_true rfl) rfl ?_
  show TC YC Γ cX6_takeCall 5 "BlameCourt$Reade\x72" none { frames := (202 + 5 * d), cells := 0, slots := 0, locals := (8070 + 200 * d) } _ kV 0 [(0, .ref (Γ.2.2.2.1 46)), (1, .int p1)] [] X (g_Reader_takeCall v_takePrefix v_takeE p1 X)
  unfold g_Reader_takeCall
  refine TC.aload_n dX6_takeCall_0 rfl 0 rfl ?_
  refine cC5_0 k416 dX6_takeCall_1 ?_
  refine gC7_4 k392 dX6_takeCall_4 (fun x1 => ?_)
  refine TC.istore_n (lv1 := [(2, .int x1), (0, .ref (Γ.2.2.2.1 46)), (1, .int p1)]) dX6_takeCall_7 rfl (by decide) rfl ?_
  refine TC.aload_n dX6_takeCall_8 rfl 1 rfl ?_
  refine mC5_1 k417 dX6_takeCall_9 (fun e2 he2 => ?_)
  refine TC.iload_n dX6_takeCall_12 rfl 2 rfl ?_
  refine TC.iconst (w := 0) dX6_takeCall_13 (by decide) ?_
  refine TC.iload_n dX6_takeCall_14 rfl 0 rfl ?_
  refine TC.callV_i e2 (As1 := [.int p1, .int 0, .int x1]) (rest := []) (k_Program_emit Γ e2 he2 p1 (0 : Int32) x1 X) ka_X5_emit kv_X5_emit he2 rfl k875 rfl rfl rfl rfl (show 2 + 1 ≤ (202 + 5 * d) ∧ 8 + (4 + 11) + 70 ≤ (8070 + 200 * d) from ⟨by omega, by omega⟩) (Nat.le_of_ble_eq_true rfl) dX6_takeCall_15 (fun x3 X4 => ?_)
  refine TC.istore_n (lv1 := [(3, .int x3), (2, .int x1), (0, .ref (Γ.2.2.2.1 46)), (1, .int p1)]) dX6_takeCall_18 rfl (by decide) rfl ?_
  refine TC.aload_n dX6_takeCall_19 rfl 2 rfl ?_
  refine TC.bipush (w := 41) dX6_takeCall_20 (by decide) ?_
  refine TC.iconst (w := 4) dX6_takeCall_22 (by decide) ?_
  refine TC.bipush (w := 32) dX6_takeCall_23 (by decide) ?_
  refine TC.callV_i 46 (As1 := [.int 41, .int 4, .int 32]) (rest := []) (k_Reader_takeList Γ d v_takePrefix hv_takePrefix v_takeE hv_takeE (41 : Int32) (4 : Int32) (32 : Int32) X4) ka_X6_takeList kv_X6_takeList oC_46 rfl k920 rfl rfl rfl rfl (show (201 + 5 * d) + 1 ≤ (202 + 5 * d) ∧ 8 + (7 + 11) + (8030 + 200 * d) ≤ (8070 + 200 * d) from ⟨by omega, by omega⟩) (Nat.le_of_ble_eq_true rfl) dX6_takeCall_25 (fun x5 X6 => ?_)
  refine TC.istore (lv1 := [(4, .int x5), (3, .int x3), (2, .int x1), (0, .ref (Γ.2.2.2.1 46)), (1, .int p1)]) dX6_takeCall_28 (by decide) rfl ?_
  refine TC.aload_n dX6_takeCall_30 rfl 3 rfl ?_
  refine mC5_1 k417 dX6_takeCall_31 (fun e7 he7 => ?_)
  refine vC4_14 e7 he7 k327 dX6_takeCall_34 (fun e8 he8 => ?_)
  refine TC.iload_n dX6_takeCall_37 rfl 1 rfl ?_
  refine TC.iload dX6_takeCall_38 0 rfl ?_
  refine TC.iast e8 he8 dX6_takeCall_40 (fun X9 => ?_)
  refine TC.aload_n dX6_takeCall_41 rfl 3 rfl ?_
  refine mC5_1 k417 dX6_takeCall_42 (fun e10 he10 => ?_)
  refine TC.bipush (w := 16) dX6_takeCall_45 (by decide) ?_
  refine TC.iload dX6_takeCall_47 0 rfl ?_
  refine TC.iload_n dX6_takeCall_49 rfl 2 rfl ?_
  refine TC.callV_i e10 (As1 := [.int 16, .int x5, .int x1]) (rest := []) (k_Program_emit Γ e10 he10 (16 : Int32) x5 x1 X9) ka_X5_emit kv_X5_emit he10 rfl k875 rfl rfl rfl rfl (show 2 + 1 ≤ (202 + 5 * d) ∧ 8 + (4 + 11) + 70 ≤ (8070 + 200 * d) from ⟨by omega, by omega⟩) (Nat.le_of_ble_eq_true rfl) dX6_takeCall_50 (fun x11 X12 => ?_)
  refine TC.pop dX6_takeCall_53 ?_
  exact TC.ret_v rfl dX6_takeCall_54
noncomputable def g_Reader_takeWork (v_takePrefix : Int32 → Int32 → St → Option (Int32 × St)) (v_takeE : St → Option (Int32 × St)) (p1 : Int32) (p2 : Int32) (X : St) : Option (Int32 × St) :=
  letV (X.1 47 4) fun x1 =>
  bnd (g_Tokens_advance X) fun _ X2 =>
  bnd (g_Reader_enter (40 : Int32) X2) fun _ X3 =>
  bnd (v_takeE X3) fun x4 X5 =>
  chk (refO YC (X5.2.2 46 1) 4 17 = true) (letV (X5.2.2 46 1 - 1) fun e6 =>
  bnd (g_Reader_placeOf x4 X5) fun x7 X8 =>
  bnd (g_Program_emit e6 p1 (0 : Int32) x7 X8) fun x9 X10 =>
  bnd (g_Reader_want (41 : Int32) X10) fun _ X11 =>
  letV (X11.1 46 2) fun x12 =>
  letV (x12 - (1 : Int32)) fun x13 =>
  letV (wI X11 46 2 x13) fun X14 =>
  chk (refO YC (X14.2.2 46 1) 4 17 = true) (letV (X14.2.2 46 1 - 1) fun e15 =>
  bnd (g_Program_emit e15 p2 (0 : Int32) x1 X14) fun x16 X17 =>
  some (0, X17)))
set_option maxHeartbeats 4000000 in
set_option maxRecDepth 100000 in
theorem k_Reader_takeWork (Γ : GxC) (d : Nat) (v_takePrefix : Int32 → Int32 → St → Option (Int32 × St)) (hv_takePrefix : ∀ (p1 : Int32) (p2 : Int32) (X : St), TCI YC Γ yX6_takePrefix cX6_takePrefix 5 "BlameCourt$Reade\x72" (some .int) { frames := (200 + 5 * d), cells := 0, slots := 0, locals := (7990 + 200 * d) } [.ref (Γ.2.2.2.1 46), .int p1, .int p2] X (v_takePrefix p1 p2 X)) (v_takeE : St → Option (Int32 × St)) (hv_takeE : ∀ (X : St), TCI YC Γ yX6_takeE cX6_takeE 1 "BlameCourt$Reade\x72" (some .int) { frames := (200 + 5 * d), cells := 0, slots := 0, locals := (7990 + 200 * d) } [.ref (Γ.2.2.2.1 46)] X (v_takeE X)) (p1 : Int32) (p2 : Int32) (X : St) : TCV YC Γ yX6_takeWork cX6_takeWork 5 "BlameCourt$Reade\x72" none { frames := (201 + 5 * d), cells := 0, slots := 0, locals := (8030 + 200 * d) } [.ref (Γ.2.2.2.1 46), .int p1, .int p2] X (g_Reader_takeWork v_takePrefix v_takeE p1 p2 X) := by
  refine TCV.of (by decide) (Nat.le_of_ble_eq_true rfl) rfl ?_
  show TC YC Γ cX6_takeWork 5 "BlameCourt$Reade\x72" none { frames := (201 + 5 * d), cells := 0, slots := 0, locals := (8030 + 200 * d) } _ kV 0 [(0, .ref (Γ.2.2.2.1 46)), (1, .int p1), (2, .int p2)] [] X (g_Reader_takeWork v_takePrefix v_takeE p1 p2 X)
  unfold g_Reader_takeWork
  refine TC.aload_n dX6_takeWork_0 rfl 0 rfl ?_
  refine cC5_0 k416 dX6_takeWork_1 ?_
  refine gC7_4 k392 dX6_takeWork_4 (fun x1 => ?_)
  refine TC.istore_n (lv1 := [(3, .int x1), (0, .ref (Γ.2.2.2.1 46)), (1, .int p1), (2, .int p2)]) dX6_takeWork_7 rfl (by decide) rfl ?_
  refine TC.aload_n dX6_takeWork_8 rfl 1 rfl ?_
  refine cC5_0 k416 dX6_takeWork_9 ?_
  refine TC.callV_v 47 (As1 := []) (rest := []) (k_Tokens_advance Γ X) ka_X9_advance kv_X9_advance oC_47 rfl k816 rfl rfl rfl rfl (show 4 + 1 ≤ (201 + 5 * d) ∧ 8 + (3 + 11) + 150 ≤ (8030 + 200 * d) from ⟨by omega, by omega⟩) (Nat.le_of_ble_eq_true rfl) dX6_takeWork_12 (fun _ X2 => ?_)
  refine TC.aload_n dX6_takeWork_15 rfl 1 rfl ?_
  refine TC.bipush (w := 40) dX6_takeWork_16 (by decide) ?_
  refine TC.callV_v 46 (As1 := [.int 40]) (rest := []) (k_Reader_enter Γ (40 : Int32) X2) ka_X6_enter kv_X6_enter oC_46 rfl k825 rfl rfl rfl rfl (show 5 + 1 ≤ (201 + 5 * d) ∧ 8 + (2 + 11) + 190 ≤ (8030 + 200 * d) from ⟨by omega, by omega⟩) (Nat.le_of_ble_eq_true rfl) dX6_takeWork_18 (fun _ X3 => ?_)
  refine TC.aload_n dX6_takeWork_21 rfl 1 rfl ?_
  refine TC.callV_i 46 (As1 := []) (rest := []) (hv_takeE X3) ka_X6_takeE kv_X6_takeE oC_46 rfl k863 rfl rfl rfl rfl (show (200 + 5 * d) + 1 ≤ (201 + 5 * d) ∧ 8 + (1 + 11) + (7990 + 200 * d) ≤ (8030 + 200 * d) from ⟨by omega, by omega⟩) (Nat.le_of_ble_eq_true rfl) dX6_takeWork_22 (fun x4 X5 => ?_)
  refine TC.istore (lv1 := [(4, .int x4), (3, .int x1), (0, .ref (Γ.2.2.2.1 46)), (1, .int p1), (2, .int p2)]) dX6_takeWork_25 (by decide) rfl ?_
  refine TC.aload_n dX6_takeWork_27 rfl 2 rfl ?_
  refine mC5_1 k417 dX6_takeWork_28 (fun e6 he6 => ?_)
  refine TC.iload_n dX6_takeWork_31 rfl 3 rfl ?_
  refine TC.iconst (w := 0) dX6_takeWork_32 (by decide) ?_
  refine TC.aload_n dX6_takeWork_33 rfl 2 rfl ?_
  refine TC.iload dX6_takeWork_34 0 rfl ?_
  refine TC.callV_i 46 (As1 := [.int x4]) (rest := [.int 0, .int p1, .ref (Γ.2.2.2.1 e6)]) (k_Reader_placeOf Γ x4 X5) ka_X6_placeOf kv_X6_placeOf oC_46 rfl k879 rfl rfl rfl rfl (show 2 + 1 ≤ (201 + 5 * d) ∧ 8 + (2 + 11) + 70 ≤ (8030 + 200 * d) from ⟨by omega, by omega⟩) (Nat.le_of_ble_eq_true rfl) dX6_takeWork_36 (fun x7 X8 => ?_)
  refine TC.callV_i e6 (As1 := [.int p1, .int 0, .int x7]) (rest := []) (k_Program_emit Γ e6 he6 p1 (0 : Int32) x7 X8) ka_X5_emit kv_X5_emit he6 rfl k875 rfl rfl rfl rfl (show 2 + 1 ≤ (201 + 5 * d) ∧ 8 + (4 + 11) + 70 ≤ (8030 + 200 * d) from ⟨by omega, by omega⟩) (Nat.le_of_ble_eq_true rfl) dX6_takeWork_39 (fun x9 X10 => ?_)
  refine TC.pop dX6_takeWork_42 ?_
  refine TC.aload_n dX6_takeWork_43 rfl 2 rfl ?_
  refine TC.bipush (w := 41) dX6_takeWork_44 (by decide) ?_
  refine TC.callV_v 46 (As1 := [.int 41]) (rest := []) (k_Reader_want Γ (41 : Int32) X10) ka_X6_want kv_X6_want oC_46 rfl k817 rfl rfl rfl rfl (show 5 + 1 ≤ (201 + 5 * d) ∧ 8 + (2 + 11) + 190 ≤ (8030 + 200 * d) from ⟨by omega, by omega⟩) (Nat.le_of_ble_eq_true rfl) dX6_takeWork_46 (fun _ X11 => ?_)
  refine TC.aload_n dX6_takeWork_49 rfl 2 rfl ?_
  refine TC.dupr dX6_takeWork_50 ?_
  refine gC5_2 k418 dX6_takeWork_51 (fun x12 => ?_)
  refine TC.iconst (w := 1) dX6_takeWork_54 (by decide) ?_
  refine TC.isub dX6_takeWork_55 (fun x13 => ?_)
  refine pC5_2 k418 dX6_takeWork_56 (fun X14 => ?_)
  refine TC.aload_n dX6_takeWork_59 rfl 2 rfl ?_
  refine mC5_1 k417 dX6_takeWork_60 (fun e15 he15 => ?_)
  refine TC.iload_n dX6_takeWork_63 rfl 4 rfl ?_
  refine TC.iconst (w := 0) dX6_takeWork_64 (by decide) ?_
  refine TC.iload_n dX6_takeWork_65 rfl 1 rfl ?_
  refine TC.callV_i e15 (As1 := [.int p2, .int 0, .int x1]) (rest := []) (k_Program_emit Γ e15 he15 p2 (0 : Int32) x1 X14) ka_X5_emit kv_X5_emit he15 rfl k875 rfl rfl rfl rfl (show 2 + 1 ≤ (201 + 5 * d) ∧ 8 + (4 + 11) + 70 ≤ (8030 + 200 * d) from ⟨by omega, by omega⟩) (Nat.le_of_ble_eq_true rfl) dX6_takeWork_66 (fun x16 X17 => ?_)
  refine TC.pop dX6_takeWork_69 ?_
  exact TC.ret_v rfl dX6_takeWork_70
noncomputable def g_Reader_takeNew (v_takePrefix : Int32 → Int32 → St → Option (Int32 × St)) (v_takeE : St → Option (Int32 × St)) (X : St) : Option (Int32 × St) :=
  letV (X.1 47 4) fun x1 =>
  bnd (g_Tokens_advance X) fun _ X2 =>
  bnd (g_Reader_enter (40 : Int32) X2) fun _ X3 =>
  bnd (v_takeE X3) fun x4 X5 =>
  chk (refO YC (X5.2.2 46 1) 4 17 = true) (letV (X5.2.2 46 1 - 1) fun e6 =>
  bnd (g_Reader_placeOf x4 X5) fun x7 X8 =>
  bnd (g_Program_emit e6 (27 : Int32) (0 : Int32) x7 X8) fun x9 X10 =>
  bnd (g_Reader_want (44 : Int32) X10) fun _ X11 =>
  bnd (v_takeE X11) fun x12 X13 =>
  bnd (g_Reader_want (41 : Int32) X13) fun _ X14 =>
  letV (X14.1 46 2) fun x15 =>
  letV (x15 - (1 : Int32)) fun x16 =>
  letV (wI X14 46 2 x16) fun X17 =>
  chk (refO YC (X17.2.2 46 1) 4 17 = true) (letV (X17.2.2 46 1 - 1) fun e18 =>
  bnd (g_Program_emit e18 (11 : Int32) (0 : Int32) x1 X17) fun x19 X20 =>
  some (0, X20)))
set_option maxHeartbeats 4000000 in
set_option maxRecDepth 100000 in
theorem k_Reader_takeNew (Γ : GxC) (d : Nat) (v_takePrefix : Int32 → Int32 → St → Option (Int32 × St)) (hv_takePrefix : ∀ (p1 : Int32) (p2 : Int32) (X : St), TCI YC Γ yX6_takePrefix cX6_takePrefix 5 "BlameCourt$Reade\x72" (some .int) { frames := (200 + 5 * d), cells := 0, slots := 0, locals := (7990 + 200 * d) } [.ref (Γ.2.2.2.1 46), .int p1, .int p2] X (v_takePrefix p1 p2 X)) (v_takeE : St → Option (Int32 × St)) (hv_takeE : ∀ (X : St), TCI YC Γ yX6_takeE cX6_takeE 1 "BlameCourt$Reade\x72" (some .int) { frames := (200 + 5 * d), cells := 0, slots := 0, locals := (7990 + 200 * d) } [.ref (Γ.2.2.2.1 46)] X (v_takeE X)) (X : St) : TCV YC Γ yX6_takeNew cX6_takeNew 3 "BlameCourt$Reade\x72" none { frames := (201 + 5 * d), cells := 0, slots := 0, locals := (8030 + 200 * d) } [.ref (Γ.2.2.2.1 46)] X (g_Reader_takeNew v_takePrefix v_takeE X) := by
  refine TCV.of (by decide) (Nat.le_of_ble_eq_true rfl) rfl ?_
  show TC YC Γ cX6_takeNew 3 "BlameCourt$Reade\x72" none { frames := (201 + 5 * d), cells := 0, slots := 0, locals := (8030 + 200 * d) } _ kV 0 [(0, .ref (Γ.2.2.2.1 46))] [] X (g_Reader_takeNew v_takePrefix v_takeE X)
  unfold g_Reader_takeNew
  refine TC.aload_n dX6_takeNew_0 rfl 0 rfl ?_
  refine cC5_0 k416 dX6_takeNew_1 ?_
  refine gC7_4 k392 dX6_takeNew_4 (fun x1 => ?_)
  refine TC.istore_n (lv1 := [(1, .int x1), (0, .ref (Γ.2.2.2.1 46))]) dX6_takeNew_7 rfl (by decide) rfl ?_
  refine TC.aload_n dX6_takeNew_8 rfl 1 rfl ?_
  refine cC5_0 k416 dX6_takeNew_9 ?_
  refine TC.callV_v 47 (As1 := []) (rest := []) (k_Tokens_advance Γ X) ka_X9_advance kv_X9_advance oC_47 rfl k816 rfl rfl rfl rfl (show 4 + 1 ≤ (201 + 5 * d) ∧ 8 + (3 + 11) + 150 ≤ (8030 + 200 * d) from ⟨by omega, by omega⟩) (Nat.le_of_ble_eq_true rfl) dX6_takeNew_12 (fun _ X2 => ?_)
  refine TC.aload_n dX6_takeNew_15 rfl 1 rfl ?_
  refine TC.bipush (w := 40) dX6_takeNew_16 (by decide) ?_
  refine TC.callV_v 46 (As1 := [.int 40]) (rest := []) (k_Reader_enter Γ (40 : Int32) X2) ka_X6_enter kv_X6_enter oC_46 rfl k825 rfl rfl rfl rfl (show 5 + 1 ≤ (201 + 5 * d) ∧ 8 + (2 + 11) + 190 ≤ (8030 + 200 * d) from ⟨by omega, by omega⟩) (Nat.le_of_ble_eq_true rfl) dX6_takeNew_18 (fun _ X3 => ?_)
  refine TC.aload_n dX6_takeNew_21 rfl 1 rfl ?_
  refine TC.callV_i 46 (As1 := []) (rest := []) (hv_takeE X3) ka_X6_takeE kv_X6_takeE oC_46 rfl k863 rfl rfl rfl rfl (show (200 + 5 * d) + 1 ≤ (201 + 5 * d) ∧ 8 + (1 + 11) + (7990 + 200 * d) ≤ (8030 + 200 * d) from ⟨by omega, by omega⟩) (Nat.le_of_ble_eq_true rfl) dX6_takeNew_22 (fun x4 X5 => ?_)
  refine TC.istore_n (lv1 := [(2, .int x4), (1, .int x1), (0, .ref (Γ.2.2.2.1 46))]) dX6_takeNew_25 rfl (by decide) rfl ?_
  refine TC.aload_n dX6_takeNew_26 rfl 2 rfl ?_
  refine mC5_1 k417 dX6_takeNew_27 (fun e6 he6 => ?_)
  refine TC.bipush (w := 27) dX6_takeNew_30 (by decide) ?_
  refine TC.iconst (w := 0) dX6_takeNew_32 (by decide) ?_
  refine TC.aload_n dX6_takeNew_33 rfl 2 rfl ?_
  refine TC.iload_n dX6_takeNew_34 rfl 0 rfl ?_
  refine TC.callV_i 46 (As1 := [.int x4]) (rest := [.int 0, .int 27, .ref (Γ.2.2.2.1 e6)]) (k_Reader_placeOf Γ x4 X5) ka_X6_placeOf kv_X6_placeOf oC_46 rfl k879 rfl rfl rfl rfl (show 2 + 1 ≤ (201 + 5 * d) ∧ 8 + (2 + 11) + 70 ≤ (8030 + 200 * d) from ⟨by omega, by omega⟩) (Nat.le_of_ble_eq_true rfl) dX6_takeNew_35 (fun x7 X8 => ?_)
  refine TC.callV_i e6 (As1 := [.int 27, .int 0, .int x7]) (rest := []) (k_Program_emit Γ e6 he6 (27 : Int32) (0 : Int32) x7 X8) ka_X5_emit kv_X5_emit he6 rfl k875 rfl rfl rfl rfl (show 2 + 1 ≤ (201 + 5 * d) ∧ 8 + (4 + 11) + 70 ≤ (8030 + 200 * d) from ⟨by omega, by omega⟩) (Nat.le_of_ble_eq_true rfl) dX6_takeNew_38 (fun x9 X10 => ?_)
  refine TC.pop dX6_takeNew_41 ?_
  refine TC.aload_n dX6_takeNew_42 rfl 2 rfl ?_
  refine TC.bipush (w := 44) dX6_takeNew_43 (by decide) ?_
  refine TC.callV_v 46 (As1 := [.int 44]) (rest := []) (k_Reader_want Γ (44 : Int32) X10) ka_X6_want kv_X6_want oC_46 rfl k817 rfl rfl rfl rfl (show 5 + 1 ≤ (201 + 5 * d) ∧ 8 + (2 + 11) + 190 ≤ (8030 + 200 * d) from ⟨by omega, by omega⟩) (Nat.le_of_ble_eq_true rfl) dX6_takeNew_45 (fun _ X11 => ?_)
  refine TC.aload_n dX6_takeNew_48 rfl 2 rfl ?_
  refine TC.callV_i 46 (As1 := []) (rest := []) (hv_takeE X11) ka_X6_takeE kv_X6_takeE oC_46 rfl k863 rfl rfl rfl rfl (show (200 + 5 * d) + 1 ≤ (201 + 5 * d) ∧ 8 + (1 + 11) + (7990 + 200 * d) ≤ (8030 + 200 * d) from ⟨by omega, by omega⟩) (Nat.le_of_ble_eq_true rfl) dX6_takeNew_49 (fun x12 X13 => ?_)
  refine TC.pop dX6_takeNew_52 ?_
  refine TC.aload_n dX6_takeNew_53 rfl 2 rfl ?_
  refine TC.bipush (w := 41) dX6_takeNew_54 (by decide) ?_
  refine TC.callV_v 46 (As1 := [.int 41]) (rest := []) (k_Reader_want Γ (41 : Int32) X13) ka_X6_want kv_X6_want oC_46 rfl k817 rfl rfl rfl rfl (show 5 + 1 ≤ (201 + 5 * d) ∧ 8 + (2 + 11) + 190 ≤ (8030 + 200 * d) from ⟨by omega, by omega⟩) (Nat.le_of_ble_eq_true rfl) dX6_takeNew_56 (fun _ X14 => ?_)
  refine TC.aload_n dX6_takeNew_59 rfl 2 rfl ?_
  refine TC.dupr dX6_takeNew_60 ?_
  refine gC5_2 k418 dX6_takeNew_61 (fun x15 => ?_)
  refine TC.iconst (w := 1) dX6_takeNew_64 (by decide) ?_
  refine TC.isub dX6_takeNew_65 (fun x16 => ?_)
  refine pC5_2 k418 dX6_takeNew_66 (fun X17 => ?_)
  refine TC.aload_n dX6_takeNew_69 rfl 2 rfl ?_
  refine mC5_1 k417 dX6_takeNew_70 (fun e18 he18 => ?_)
  refine TC.bipush (w := 11) dX6_takeNew_73 (by decide) ?_
  refine TC.iconst (w := 0) dX6_takeNew_75 (by decide) ?_
  refine TC.iload_n dX6_takeNew_76 rfl 1 rfl ?_
  refine TC.callV_i e18 (As1 := [.int 11, .int 0, .int x1]) (rest := []) (k_Program_emit Γ e18 he18 (11 : Int32) (0 : Int32) x1 X17) ka_X5_emit kv_X5_emit he18 rfl k875 rfl rfl rfl rfl (show 2 + 1 ≤ (201 + 5 * d) ∧ 8 + (4 + 11) + 70 ≤ (8030 + 200 * d) from ⟨by omega, by omega⟩) (Nat.le_of_ble_eq_true rfl) dX6_takeNew_77 (fun x19 X20 => ?_)
  refine TC.pop dX6_takeNew_80 ?_
  exact TC.ret_v rfl dX6_takeNew_81
noncomputable def g_Reader_takeB_134 (v_takePrefix : Int32 → Int32 → St → Option (Int32 × St)) (v_takeE : St → Option (Int32 × St)) (a_1 : Int32) (b_0 : Int32) (b_1 : Int32) (g_2 : Nat) (X : St) : Option (Int32 × St) :=
  letV (X.1 47 4) fun x29 =>
  bnd (g_Program_emit g_2 b_1 b_0 x29 X) fun x30 X31 =>
  bnd (g_Tokens_advance X31) fun _ X32 =>
  some (a_1, X32)
set_option maxHeartbeats 4000000 in
set_option maxRecDepth 100000 in
theorem k_Reader_takeB_134 (Γ : GxC) (d : Nat) (As : List Value) (v_takePrefix : Int32 → Int32 → St → Option (Int32 × St)) (hv_takePrefix : ∀ (p1 : Int32) (p2 : Int32) (X : St), TCI YC Γ yX6_takePrefix cX6_takePrefix 5 "BlameCourt$Reade\x72" (some .int) { frames := (200 + 5 * d), cells := 0, slots := 0, locals := (7990 + 200 * d) } [.ref (Γ.2.2.2.1 46), .int p1, .int p2] X (v_takePrefix p1 p2 X)) (v_takeE : St → Option (Int32 × St)) (hv_takeE : ∀ (X : St), TCI YC Γ yX6_takeE cX6_takeE 1 "BlameCourt$Reade\x72" (some .int) { frames := (200 + 5 * d), cells := 0, slots := 0, locals := (7990 + 200 * d) } [.ref (Γ.2.2.2.1 46)] X (v_takeE X)) (a_1 : Int32) (b_0 : Int32) (b_1 : Int32) (g_2 : Nat) (hg_2 : isO YC g_2 4 17) (X : St) : TC YC Γ cX6_takeB 2 "BlameCourt$Reade\x72" (some .int) { frames := (202 + 5 * d), cells := 0, slots := 0, locals := (8070 + 200 * d) } As kI 134 [(0, .ref (Γ.2.2.2.1 46)), (1, .int a_1)] [.int b_0, .int b_1, .ref (Γ.2.2.2.1 g_2)] X (g_Reader_takeB_134 v_takePrefix v_takeE a_1 b_0 b_1 g_2 X) := by
  unfold g_Reader_takeB_134
  refine TC.aload_n dX6_takeB_134 rfl 0 rfl ?_
  refine cC5_0 k416 dX6_takeB_135 ?_
  refine gC7_4 k392 dX6_takeB_138 (fun x29 => ?_)
  refine TC.callV_i g_2 (As1 := [.int b_1, .int b_0, .int x29]) (rest := []) (k_Program_emit Γ g_2 hg_2 b_1 b_0 x29 X) ka_X5_emit kv_X5_emit hg_2 rfl k875 rfl rfl rfl rfl (show 2 + 1 ≤ (202 + 5 * d) ∧ 8 + (4 + 11) + 70 ≤ (8070 + 200 * d) from ⟨by omega, by omega⟩) (Nat.le_of_ble_eq_true rfl) dX6_takeB_141 (fun x30 X31 => ?_)
  refine TC.pop dX6_takeB_144 ?_
  refine TC.aload_n dX6_takeB_145 rfl 0 rfl ?_
  refine cC5_0 k416 dX6_takeB_146 ?_
  refine TC.callV_v 47 (As1 := []) (rest := []) (k_Tokens_advance Γ X31) ka_X9_advance kv_X9_advance oC_47 rfl k816 rfl rfl rfl rfl (show 4 + 1 ≤ (202 + 5 * d) ∧ 8 + (3 + 11) + 150 ≤ (8070 + 200 * d) from ⟨by omega, by omega⟩) (Nat.le_of_ble_eq_true rfl) dX6_takeB_149 (fun _ X32 => ?_)
  refine TC.goto (pc1 := 261) dX6_takeB_152 (by decide) ?_
  refine TC.iload_n dX6_takeB_261 rfl 1 rfl ?_
  exact TC.ret_i rfl dX6_takeB_262
noncomputable def g_Reader_takeB (v_takePrefix : Int32 → Int32 → St → Option (Int32 × St)) (v_takeE : St → Option (Int32 × St)) (X : St) : Option (Int32 × St) :=
  bnd (g_Reader_emitStep X) fun x1 X2 =>
  letV (X2.1 47 3) fun x3 =>
  if x3.toInt = 40 then
    bnd (g_Reader_enter (40 : Int32) X2) fun _ X5 =>
    bnd (v_takeE X5) fun x6 X7 =>
    bnd (g_Reader_want (41 : Int32) X7) fun _ X8 =>
    letV (X8.1 46 2) fun x9 =>
    letV (x9 - (1 : Int32)) fun x10 =>
    letV (wI X8 46 2 x10) fun X11 =>
    some (x1, X11)
  else if x3.toInt = 91 then
    chk (refO YC (X2.2.2 46 1) 4 17 = true) (letV (X2.2.2 46 1 - 1) fun e13 =>
    bnd (g_Reader_takeList v_takePrefix v_takeE (93 : Int32) (20 : Int32) (36 : Int32) X2) fun x14 X15 =>
    bnd (g_Reader_placeOf x1 X15) fun x16 X17 =>
    bnd (g_Program_emit e13 (10 : Int32) x14 x16 X17) fun x18 X19 =>
    some (x1, X19))
  else if x3.toInt = 123 then
    bnd (g_Reader_takeBlock v_takePrefix v_takeE X2) fun _ X21 =>
    some (x1, X21)
  else if x3.toInt = 258 then
    bnd (g_Reader_takeName X2) fun _ X23 =>
    some (x1, X23)
  else if x3.toInt = 259 then
    bnd (g_Reader_takeDigits X2) fun _ X25 =>
    some (x1, X25)
  else if x3.toInt = 267 then
    chk (refO YC (X2.2.2 46 1) 4 17 = true) (letV (X2.2.2 46 1 - 1) fun e27 =>
    letV (X2.1 47 3) fun x28 =>
    if x28.toInt = 267 then
      g_Reader_takeB_134 v_takePrefix v_takeE x1 (1 : Int32) (2 : Int32) e27 X2
    else
      g_Reader_takeB_134 v_takePrefix v_takeE x1 (0 : Int32) (2 : Int32) e27 X2)
  else if x3.toInt = 268 then
    chk (refO YC (X2.2.2 46 1) 4 17 = true) (letV (X2.2.2 46 1 - 1) fun e34 =>
    letV (X2.1 47 3) fun x35 =>
    if x35.toInt = 267 then
      g_Reader_takeB_134 v_takePrefix v_takeE x1 (1 : Int32) (2 : Int32) e34 X2
    else
      g_Reader_takeB_134 v_takePrefix v_takeE x1 (0 : Int32) (2 : Int32) e34 X2)
  else if x3.toInt = 269 then
    bnd (g_Reader_takeNew v_takePrefix v_takeE X2) fun _ X37 =>
    some (x1, X37)
  else if x3.toInt = 270 then
    bnd (g_Reader_takeWork v_takePrefix v_takeE (29 : Int32) (12 : Int32) X2) fun _ X39 =>
    some (x1, X39)
  else if x3.toInt = 271 then
    bnd (g_Reader_takeWork v_takePrefix v_takeE (27 : Int32) (13 : Int32) X2) fun _ X41 =>
    some (x1, X41)
  else bnd (g_Reader_refuse (1 : Int32) X2) fun _ X42 =>
  some (x1, X42)
set_option maxHeartbeats 4000000 in
set_option maxRecDepth 100000 in
theorem k_Reader_takeB (Γ : GxC) (d : Nat) (v_takePrefix : Int32 → Int32 → St → Option (Int32 × St)) (hv_takePrefix : ∀ (p1 : Int32) (p2 : Int32) (X : St), TCI YC Γ yX6_takePrefix cX6_takePrefix 5 "BlameCourt$Reade\x72" (some .int) { frames := (200 + 5 * d), cells := 0, slots := 0, locals := (7990 + 200 * d) } [.ref (Γ.2.2.2.1 46), .int p1, .int p2] X (v_takePrefix p1 p2 X)) (v_takeE : St → Option (Int32 × St)) (hv_takeE : ∀ (X : St), TCI YC Γ yX6_takeE cX6_takeE 1 "BlameCourt$Reade\x72" (some .int) { frames := (200 + 5 * d), cells := 0, slots := 0, locals := (7990 + 200 * d) } [.ref (Γ.2.2.2.1 46)] X (v_takeE X)) (X : St) : TCI YC Γ yX6_takeB cX6_takeB 2 "BlameCourt$Reade\x72" (some .int) { frames := (202 + 5 * d), cells := 0, slots := 0, locals := (8070 + 200 * d) } [.ref (Γ.2.2.2.1 46)] X (g_Reader_takeB v_takePrefix v_takeE X) := by
  refine TCI.of (by decide) (Nat.le_of_ble_eq_true rfl) rfl ?_
  show TC YC Γ cX6_takeB 2 "BlameCourt$Reade\x72" (some .int) { frames := (202 + 5 * d), cells := 0, slots := 0, locals := (8070 + 200 * d) } _ kI 0 [(0, .ref (Γ.2.2.2.1 46))] [] X (g_Reader_takeB v_takePrefix v_takeE X)
  unfold g_Reader_takeB
  refine TC.aload_n dX6_takeB_0 rfl 0 rfl ?_
  refine TC.callV_i 46 (As1 := []) (rest := []) (k_Reader_emitStep Γ X) ka_X6_emitStep kv_X6_emitStep oC_46 rfl k871 rfl rfl rfl rfl (show 3 + 1 ≤ (202 + 5 * d) ∧ 8 + (1 + 11) + 110 ≤ (8070 + 200 * d) from ⟨by omega, by omega⟩) (Nat.le_of_ble_eq_true rfl) dX6_takeB_1 (fun x1 X2 => ?_)
  refine TC.istore_n (lv1 := [(1, .int x1), (0, .ref (Γ.2.2.2.1 46))]) dX6_takeB_4 rfl (by decide) rfl ?_
  refine TC.aload_n dX6_takeB_5 rfl 1 rfl ?_
  refine cC5_0 k416 dX6_takeB_6 ?_
  refine gC7_3 k390 dX6_takeB_9 (fun x3 => ?_)
  refine TC.ite (fun s4 => ?_) (fun s4 => ?_)
  · refine TC.lookup (pc1 := 219) dX6_takeB_12 (by decide) (off := 207) (by rw [s4]; rfl) (by decide) ?_
    refine TC.aload_n dX6_takeB_219 rfl 1 rfl ?_
    refine TC.bipush (w := 40) dX6_takeB_220 (by decide) ?_
    refine TC.callV_v 46 (As1 := [.int 40]) (rest := []) (k_Reader_enter Γ (40 : Int32) X2) ka_X6_enter kv_X6_enter oC_46 rfl k825 rfl rfl rfl rfl (show 5 + 1 ≤ (202 + 5 * d) ∧ 8 + (2 + 11) + 190 ≤ (8070 + 200 * d) from ⟨by omega, by omega⟩) (Nat.le_of_ble_eq_true rfl) dX6_takeB_222 (fun _ X5 => ?_)
    refine TC.aload_n dX6_takeB_225 rfl 1 rfl ?_
    refine TC.callV_i 46 (As1 := []) (rest := []) (hv_takeE X5) ka_X6_takeE kv_X6_takeE oC_46 rfl k863 rfl rfl rfl rfl (show (200 + 5 * d) + 1 ≤ (202 + 5 * d) ∧ 8 + (1 + 11) + (7990 + 200 * d) ≤ (8070 + 200 * d) from ⟨by omega, by omega⟩) (Nat.le_of_ble_eq_true rfl) dX6_takeB_226 (fun x6 X7 => ?_)
    refine TC.pop dX6_takeB_229 ?_
    refine TC.aload_n dX6_takeB_230 rfl 1 rfl ?_
    refine TC.bipush (w := 41) dX6_takeB_231 (by decide) ?_
    refine TC.callV_v 46 (As1 := [.int 41]) (rest := []) (k_Reader_want Γ (41 : Int32) X7) ka_X6_want kv_X6_want oC_46 rfl k817 rfl rfl rfl rfl (show 5 + 1 ≤ (202 + 5 * d) ∧ 8 + (2 + 11) + 190 ≤ (8070 + 200 * d) from ⟨by omega, by omega⟩) (Nat.le_of_ble_eq_true rfl) dX6_takeB_233 (fun _ X8 => ?_)
    refine TC.aload_n dX6_takeB_236 rfl 1 rfl ?_
    refine TC.dupr dX6_takeB_237 ?_
    refine gC5_2 k418 dX6_takeB_238 (fun x9 => ?_)
    refine TC.iconst (w := 1) dX6_takeB_241 (by decide) ?_
    refine TC.isub dX6_takeB_242 (fun x10 => ?_)
    refine pC5_2 k418 dX6_takeB_243 (fun X11 => ?_)
    refine TC.goto (pc1 := 261) dX6_takeB_246 (by decide) ?_
    refine TC.iload_n dX6_takeB_261 rfl 0 rfl ?_
    exact TC.ret_i rfl dX6_takeB_262
  refine TC.ite (fun s12 => ?_) (fun s12 => ?_)
  · refine TC.lookup (pc1 := 191) dX6_takeB_12 (by decide) (off := 179) (by rw [s12]; rfl) (by decide) ?_
    refine TC.aload_n dX6_takeB_191 rfl 1 rfl ?_
    refine mC5_1 k417 dX6_takeB_192 (fun e13 he13 => ?_)
    refine TC.bipush (w := 10) dX6_takeB_195 (by decide) ?_
    refine TC.aload_n dX6_takeB_197 rfl 1 rfl ?_
    refine TC.bipush (w := 93) dX6_takeB_198 (by decide) ?_
    refine TC.bipush (w := 20) dX6_takeB_200 (by decide) ?_
    refine TC.bipush (w := 36) dX6_takeB_202 (by decide) ?_
    refine TC.callV_i 46 (As1 := [.int 93, .int 20, .int 36]) (rest := [.int 10, .ref (Γ.2.2.2.1 e13)]) (k_Reader_takeList Γ d v_takePrefix hv_takePrefix v_takeE hv_takeE (93 : Int32) (20 : Int32) (36 : Int32) X2) ka_X6_takeList kv_X6_takeList oC_46 rfl k920 rfl rfl rfl rfl (show (201 + 5 * d) + 1 ≤ (202 + 5 * d) ∧ 8 + (7 + 11) + (8030 + 200 * d) ≤ (8070 + 200 * d) from ⟨by omega, by omega⟩) (Nat.le_of_ble_eq_true rfl) dX6_takeB_204 (fun x14 X15 => ?_)
    refine TC.aload_n dX6_takeB_207 rfl 1 rfl ?_
    refine TC.iload_n dX6_takeB_208 rfl 0 rfl ?_
    refine TC.callV_i 46 (As1 := [.int x1]) (rest := [.int x14, .int 10, .ref (Γ.2.2.2.1 e13)]) (k_Reader_placeOf Γ x1 X15) ka_X6_placeOf kv_X6_placeOf oC_46 rfl k879 rfl rfl rfl rfl (show 2 + 1 ≤ (202 + 5 * d) ∧ 8 + (2 + 11) + 70 ≤ (8070 + 200 * d) from ⟨by omega, by omega⟩) (Nat.le_of_ble_eq_true rfl) dX6_takeB_209 (fun x16 X17 => ?_)
    refine TC.callV_i e13 (As1 := [.int 10, .int x14, .int x16]) (rest := []) (k_Program_emit Γ e13 he13 (10 : Int32) x14 x16 X17) ka_X5_emit kv_X5_emit he13 rfl k875 rfl rfl rfl rfl (show 2 + 1 ≤ (202 + 5 * d) ∧ 8 + (4 + 11) + 70 ≤ (8070 + 200 * d) from ⟨by omega, by omega⟩) (Nat.le_of_ble_eq_true rfl) dX6_takeB_212 (fun x18 X19 => ?_)
    refine TC.pop dX6_takeB_215 ?_
    refine TC.goto (pc1 := 261) dX6_takeB_216 (by decide) ?_
    refine TC.iload_n dX6_takeB_261 rfl 0 rfl ?_
    exact TC.ret_i rfl dX6_takeB_262
  refine TC.ite (fun s20 => ?_) (fun s20 => ?_)
  · refine TC.lookup (pc1 := 249) dX6_takeB_12 (by decide) (off := 237) (by rw [s20]; rfl) (by decide) ?_
    refine TC.aload_n dX6_takeB_249 rfl 1 rfl ?_
    refine TC.callV_v 46 (As1 := []) (rest := []) (k_Reader_takeBlock Γ d v_takePrefix hv_takePrefix v_takeE hv_takeE X2) ka_X6_takeBlock kv_X6_takeBlock oC_46 rfl k928 rfl rfl rfl rfl (show (201 + 5 * d) + 1 ≤ (202 + 5 * d) ∧ 8 + (2 + 11) + (8030 + 200 * d) ≤ (8070 + 200 * d) from ⟨by omega, by omega⟩) (Nat.le_of_ble_eq_true rfl) dX6_takeB_250 (fun _ X21 => ?_)
    refine TC.goto (pc1 := 261) dX6_takeB_253 (by decide) ?_
    refine TC.iload_n dX6_takeB_261 rfl 0 rfl ?_
    exact TC.ret_i rfl dX6_takeB_262
  refine TC.ite (fun s22 => ?_) (fun s22 => ?_)
  · refine TC.lookup (pc1 := 155) dX6_takeB_12 (by decide) (off := 143) (by rw [s22]; rfl) (by decide) ?_
    refine TC.aload_n dX6_takeB_155 rfl 1 rfl ?_
    refine TC.callV_v 46 (As1 := []) (rest := []) (k_Reader_takeName Γ X2) ka_X6_takeName kv_X6_takeName oC_46 rfl k908 rfl rfl rfl rfl (show 5 + 1 ≤ (202 + 5 * d) ∧ 8 + (2 + 11) + 190 ≤ (8070 + 200 * d) from ⟨by omega, by omega⟩) (Nat.le_of_ble_eq_true rfl) dX6_takeB_156 (fun _ X23 => ?_)
    refine TC.goto (pc1 := 261) dX6_takeB_159 (by decide) ?_
    refine TC.iload_n dX6_takeB_261 rfl 0 rfl ?_
    exact TC.ret_i rfl dX6_takeB_262
  refine TC.ite (fun s24 => ?_) (fun s24 => ?_)
  · refine TC.lookup (pc1 := 104) dX6_takeB_12 (by decide) (off := 92) (by rw [s24]; rfl) (by decide) ?_
    refine TC.aload_n dX6_takeB_104 rfl 1 rfl ?_
    refine TC.callV_v 46 (As1 := []) (rest := []) (k_Reader_takeDigits Γ X2) ka_X6_takeDigits kv_X6_takeDigits oC_46 rfl k903 rfl rfl rfl rfl (show 5 + 1 ≤ (202 + 5 * d) ∧ 8 + (1 + 11) + 190 ≤ (8070 + 200 * d) from ⟨by omega, by omega⟩) (Nat.le_of_ble_eq_true rfl) dX6_takeB_105 (fun _ X25 => ?_)
    refine TC.goto (pc1 := 261) dX6_takeB_108 (by decide) ?_
    refine TC.iload_n dX6_takeB_261 rfl 0 rfl ?_
    exact TC.ret_i rfl dX6_takeB_262
  refine TC.ite (fun s26 => ?_) (fun s26 => ?_)
  · refine TC.lookup (pc1 := 111) dX6_takeB_12 (by decide) (off := 99) (by rw [s26]; rfl) (by decide) ?_
    refine TC.aload_n dX6_takeB_111 rfl 1 rfl ?_
    refine mC5_1 k417 dX6_takeB_112 (fun e27 he27 => ?_)
    refine TC.iconst (w := 2) dX6_takeB_115 (by decide) ?_
    refine TC.aload_n dX6_takeB_116 rfl 1 rfl ?_
    refine cC5_0 k416 dX6_takeB_117 ?_
    refine gC7_3 k390 dX6_takeB_120 (fun x28 => ?_)
    refine TC.sipush (w := 267) dX6_takeB_123 (by decide) ?_
    refine TC.icmp_ne (pc1 := 133) dX6_takeB_126 (by decide) rfl ?_ ?_
    · refine TC.iconst (w := 0) dX6_takeB_133 (by decide) ?_
      refine TC.sub [1, 0] rfl ?_
      exact k_Reader_takeB_134 Γ d _ v_takePrefix hv_takePrefix v_takeE hv_takeE x1 (0 : Int32) (2 : Int32) e27 he27 X2
    · refine TC.iconst (w := 1) dX6_takeB_129 (by decide) ?_
      refine TC.goto (pc1 := 134) dX6_takeB_130 (by decide) ?_
      refine TC.sub [1, 0] rfl ?_
      exact k_Reader_takeB_134 Γ d _ v_takePrefix hv_takePrefix v_takeE hv_takeE x1 (1 : Int32) (2 : Int32) e27 he27 X2
  refine TC.ite (fun s33 => ?_) (fun s33 => ?_)
  · refine TC.lookup (pc1 := 111) dX6_takeB_12 (by decide) (off := 99) (by rw [s33]; rfl) (by decide) ?_
    refine TC.aload_n dX6_takeB_111 rfl 1 rfl ?_
    refine mC5_1 k417 dX6_takeB_112 (fun e34 he34 => ?_)
    refine TC.iconst (w := 2) dX6_takeB_115 (by decide) ?_
    refine TC.aload_n dX6_takeB_116 rfl 1 rfl ?_
    refine cC5_0 k416 dX6_takeB_117 ?_
    refine gC7_3 k390 dX6_takeB_120 (fun x35 => ?_)
    refine TC.sipush (w := 267) dX6_takeB_123 (by decide) ?_
    refine TC.icmp_ne (pc1 := 133) dX6_takeB_126 (by decide) rfl ?_ ?_
    · refine TC.iconst (w := 0) dX6_takeB_133 (by decide) ?_
      refine TC.sub [1, 0] rfl ?_
      exact k_Reader_takeB_134 Γ d _ v_takePrefix hv_takePrefix v_takeE hv_takeE x1 (0 : Int32) (2 : Int32) e34 he34 X2
    · refine TC.iconst (w := 1) dX6_takeB_129 (by decide) ?_
      refine TC.goto (pc1 := 134) dX6_takeB_130 (by decide) ?_
      refine TC.sub [1, 0] rfl ?_
      exact k_Reader_takeB_134 Γ d _ v_takePrefix hv_takePrefix v_takeE hv_takeE x1 (1 : Int32) (2 : Int32) e34 he34 X2
  refine TC.ite (fun s36 => ?_) (fun s36 => ?_)
  · refine TC.lookup (pc1 := 162) dX6_takeB_12 (by decide) (off := 150) (by rw [s36]; rfl) (by decide) ?_
    refine TC.aload_n dX6_takeB_162 rfl 1 rfl ?_
    refine TC.callV_v 46 (As1 := []) (rest := []) (k_Reader_takeNew Γ d v_takePrefix hv_takePrefix v_takeE hv_takeE X2) ka_X6_takeNew kv_X6_takeNew oC_46 rfl k912 rfl rfl rfl rfl (show (201 + 5 * d) + 1 ≤ (202 + 5 * d) ∧ 8 + (3 + 11) + (8030 + 200 * d) ≤ (8070 + 200 * d) from ⟨by omega, by omega⟩) (Nat.le_of_ble_eq_true rfl) dX6_takeB_163 (fun _ X37 => ?_)
    refine TC.goto (pc1 := 261) dX6_takeB_166 (by decide) ?_
    refine TC.iload_n dX6_takeB_261 rfl 0 rfl ?_
    exact TC.ret_i rfl dX6_takeB_262
  refine TC.ite (fun s38 => ?_) (fun s38 => ?_)
  · refine TC.lookup (pc1 := 169) dX6_takeB_12 (by decide) (off := 157) (by rw [s38]; rfl) (by decide) ?_
    refine TC.aload_n dX6_takeB_169 rfl 1 rfl ?_
    refine TC.bipush (w := 29) dX6_takeB_170 (by decide) ?_
    refine TC.bipush (w := 12) dX6_takeB_172 (by decide) ?_
    refine TC.callV_v 46 (As1 := [.int 29, .int 12]) (rest := []) (k_Reader_takeWork Γ d v_takePrefix hv_takePrefix v_takeE hv_takeE (29 : Int32) (12 : Int32) X2) ka_X6_takeWork kv_X6_takeWork oC_46 rfl k916 rfl rfl rfl rfl (show (201 + 5 * d) + 1 ≤ (202 + 5 * d) ∧ 8 + (5 + 11) + (8030 + 200 * d) ≤ (8070 + 200 * d) from ⟨by omega, by omega⟩) (Nat.le_of_ble_eq_true rfl) dX6_takeB_174 (fun _ X39 => ?_)
    refine TC.goto (pc1 := 261) dX6_takeB_177 (by decide) ?_
    refine TC.iload_n dX6_takeB_261 rfl 0 rfl ?_
    exact TC.ret_i rfl dX6_takeB_262
  refine TC.ite (fun s40 => ?_) (fun s40 => ?_)
  · refine TC.lookup (pc1 := 180) dX6_takeB_12 (by decide) (off := 168) (by rw [s40]; rfl) (by decide) ?_
    refine TC.aload_n dX6_takeB_180 rfl 1 rfl ?_
    refine TC.bipush (w := 27) dX6_takeB_181 (by decide) ?_
    refine TC.bipush (w := 13) dX6_takeB_183 (by decide) ?_
    refine TC.callV_v 46 (As1 := [.int 27, .int 13]) (rest := []) (k_Reader_takeWork Γ d v_takePrefix hv_takePrefix v_takeE hv_takeE (27 : Int32) (13 : Int32) X2) ka_X6_takeWork kv_X6_takeWork oC_46 rfl k916 rfl rfl rfl rfl (show (201 + 5 * d) + 1 ≤ (202 + 5 * d) ∧ 8 + (5 + 11) + (8030 + 200 * d) ≤ (8070 + 200 * d) from ⟨by omega, by omega⟩) (Nat.le_of_ble_eq_true rfl) dX6_takeB_185 (fun _ X41 => ?_)
    refine TC.goto (pc1 := 261) dX6_takeB_188 (by decide) ?_
    refine TC.iload_n dX6_takeB_261 rfl 0 rfl ?_
    exact TC.ret_i rfl dX6_takeB_262
  refine TC.lookup (pc1 := 256) dX6_takeB_12 (by decide) (off := 244) ((osw2 s4).trans ((osw2 s12).trans ((osw2 s20).trans ((osw2 s22).trans ((osw2 s24).trans ((osw2 s26).trans ((osw2 s33).trans ((osw2 s36).trans ((osw2 s38).trans ((osw2 s40).trans rfl)))))))))) (by decide) ?_
  refine TC.aload_n dX6_takeB_256 rfl 1 rfl ?_
  refine TC.iconst (w := 1) dX6_takeB_257 (by decide) ?_
  refine TC.callV_v 46 (As1 := [.int 1]) (rest := []) (k_Reader_refuse Γ (1 : Int32) X2) ka_X6_refuse kv_X6_refuse oC_46 rfl k800 rfl rfl rfl rfl (show 3 + 1 ≤ (202 + 5 * d) ∧ 8 + (2 + 11) + 110 ≤ (8070 + 200 * d) from ⟨by omega, by omega⟩) (Nat.le_of_ble_eq_true rfl) dX6_takeB_258 (fun _ X42 => ?_)
  refine TC.iload_n dX6_takeB_261 rfl 0 rfl ?_
  exact TC.ret_i rfl dX6_takeB_262
noncomputable def g_Reader_takeU_181 (v_takePrefix : Int32 → Int32 → St → Option (Int32 × St)) (v_takeE : St → Option (Int32 × St)) (r86 : Int32 → Int32 → Int32 → Int32 → St → Option (Int32 × St)) (a_1 : Int32) (a_2 : Int32) (a_3 : Int32) (a_4 : Int32) (X : St) : Option (Int32 × St) :=
  letV (a_4 + Int32.ofInt (1)) fun x11 =>
  r86 a_1 a_2 a_3 x11 X
set_option maxHeartbeats 4000000 in
set_option maxRecDepth 100000 in
theorem k_Reader_takeU_181 (Γ : GxC) (d : Nat) (As : List Value) (v_takePrefix : Int32 → Int32 → St → Option (Int32 × St)) (hv_takePrefix : ∀ (p1 : Int32) (p2 : Int32) (X : St), TCI YC Γ yX6_takePrefix cX6_takePrefix 5 "BlameCourt$Reade\x72" (some .int) { frames := (200 + 5 * d), cells := 0, slots := 0, locals := (7990 + 200 * d) } [.ref (Γ.2.2.2.1 46), .int p1, .int p2] X (v_takePrefix p1 p2 X)) (v_takeE : St → Option (Int32 × St)) (hv_takeE : ∀ (X : St), TCI YC Γ yX6_takeE cX6_takeE 1 "BlameCourt$Reade\x72" (some .int) { frames := (200 + 5 * d), cells := 0, slots := 0, locals := (7990 + 200 * d) } [.ref (Γ.2.2.2.1 46)] X (v_takeE X)) (r86 : Int32 → Int32 → Int32 → Int32 → St → Option (Int32 × St)) (hr86 : ∀ (a_1 : Int32) (a_2 : Int32) (a_3 : Int32) (a_4 : Int32) (X : St), TC YC Γ cX6_takeU 5 "BlameCourt$Reade\x72" (some .int) { frames := (203 + 5 * d), cells := 0, slots := 0, locals := (8110 + 200 * d) } As kI 86 [(0, .ref (Γ.2.2.2.1 46)), (1, .int a_1), (2, .int a_2), (3, .int a_3), (4, .int a_4)] [] X (r86 a_1 a_2 a_3 a_4 X)) (a_1 : Int32) (a_2 : Int32) (a_3 : Int32) (a_4 : Int32) (X : St) : TC YC Γ cX6_takeU 5 "BlameCourt$Reade\x72" (some .int) { frames := (203 + 5 * d), cells := 0, slots := 0, locals := (8110 + 200 * d) } As kI 181 [(0, .ref (Γ.2.2.2.1 46)), (1, .int a_1), (2, .int a_2), (3, .int a_3), (4, .int a_4)] [] X (g_Reader_takeU_181 v_takePrefix v_takeE r86 a_1 a_2 a_3 a_4 X) := by
  unfold g_Reader_takeU_181
  refine TC.iinc dX6_takeU_181 4 rfl (by decide) (lvf := fun x11 => [(4, .int x11), (0, .ref (Γ.2.2.2.1 46)), (1, .int a_1), (2, .int a_2), (3, .int a_3)]) (fun _ => rfl) (fun x11 => ?_)
  refine TC.goto (pc1 := 86) dX6_takeU_184 (by decide) ?_
  refine TC.sub [1, 2, 3, 4, 0] rfl ?_
  exact hr86 a_1 a_2 a_3 x11 X
noncomputable def g_Reader_takeU_170 (v_takePrefix : Int32 → Int32 → St → Option (Int32 × St)) (v_takeE : St → Option (Int32 × St)) (r86 : Int32 → Int32 → Int32 → Int32 → St → Option (Int32 × St)) (a_1 : Int32) (a_2 : Int32) (a_3 : Int32) (a_4 : Int32) (b_0 : Int32) (X : St) : Option (Int32 × St) :=
  bnd (g_Reader_takeCall v_takePrefix v_takeE b_0 X) fun _ X12 =>
  g_Reader_takeU_181 v_takePrefix v_takeE r86 a_1 a_2 a_3 a_4 X12
set_option maxHeartbeats 4000000 in
set_option maxRecDepth 100000 in
theorem k_Reader_takeU_170 (Γ : GxC) (d : Nat) (As : List Value) (v_takePrefix : Int32 → Int32 → St → Option (Int32 × St)) (hv_takePrefix : ∀ (p1 : Int32) (p2 : Int32) (X : St), TCI YC Γ yX6_takePrefix cX6_takePrefix 5 "BlameCourt$Reade\x72" (some .int) { frames := (200 + 5 * d), cells := 0, slots := 0, locals := (7990 + 200 * d) } [.ref (Γ.2.2.2.1 46), .int p1, .int p2] X (v_takePrefix p1 p2 X)) (v_takeE : St → Option (Int32 × St)) (hv_takeE : ∀ (X : St), TCI YC Γ yX6_takeE cX6_takeE 1 "BlameCourt$Reade\x72" (some .int) { frames := (200 + 5 * d), cells := 0, slots := 0, locals := (7990 + 200 * d) } [.ref (Γ.2.2.2.1 46)] X (v_takeE X)) (r86 : Int32 → Int32 → Int32 → Int32 → St → Option (Int32 × St)) (hr86 : ∀ (a_1 : Int32) (a_2 : Int32) (a_3 : Int32) (a_4 : Int32) (X : St), TC YC Γ cX6_takeU 5 "BlameCourt$Reade\x72" (some .int) { frames := (203 + 5 * d), cells := 0, slots := 0, locals := (8110 + 200 * d) } As kI 86 [(0, .ref (Γ.2.2.2.1 46)), (1, .int a_1), (2, .int a_2), (3, .int a_3), (4, .int a_4)] [] X (r86 a_1 a_2 a_3 a_4 X)) (a_1 : Int32) (a_2 : Int32) (a_3 : Int32) (a_4 : Int32) (b_0 : Int32) (X : St) : TC YC Γ cX6_takeU 5 "BlameCourt$Reade\x72" (some .int) { frames := (203 + 5 * d), cells := 0, slots := 0, locals := (8110 + 200 * d) } As kI 170 [(0, .ref (Γ.2.2.2.1 46)), (1, .int a_1), (2, .int a_2), (3, .int a_3), (4, .int a_4)] [.int b_0, .ref (Γ.2.2.2.1 46)] X (g_Reader_takeU_170 v_takePrefix v_takeE r86 a_1 a_2 a_3 a_4 b_0 X) := by
  unfold g_Reader_takeU_170
  refine TC.callV_v 46 (As1 := [.int b_0]) (rest := []) (k_Reader_takeCall Γ d v_takePrefix hv_takePrefix v_takeE hv_takeE b_0 X) ka_X6_takeCall kv_X6_takeCall oC_46 rfl k936 rfl rfl rfl rfl (show (202 + 5 * d) + 1 ≤ (203 + 5 * d) ∧ 8 + (5 + 11) + (8070 + 200 * d) ≤ (8110 + 200 * d) from ⟨by omega, by omega⟩) (Nat.le_of_ble_eq_true rfl) dX6_takeU_170 (fun _ X12 => ?_)
  refine TC.goto (pc1 := 181) dX6_takeU_173 (by decide) ?_
  exact k_Reader_takeU_181 Γ d _ v_takePrefix hv_takePrefix v_takeE hv_takeE r86 hr86 a_1 a_2 a_3 a_4 X12
noncomputable def g_Reader_takeU_168 (v_takePrefix : Int32 → Int32 → St → Option (Int32 × St)) (v_takeE : St → Option (Int32 × St)) (r86 : Int32 → Int32 → Int32 → Int32 → St → Option (Int32 × St)) (a_1 : Int32) (a_2 : Int32) (a_3 : Int32) (a_4 : Int32) (X : St) : Option (Int32 × St) :=
  g_Reader_takeU_170 v_takePrefix v_takeE r86 a_1 a_2 a_3 a_4 (30 : Int32) X
set_option maxHeartbeats 4000000 in
set_option maxRecDepth 100000 in
theorem k_Reader_takeU_168 (Γ : GxC) (d : Nat) (As : List Value) (v_takePrefix : Int32 → Int32 → St → Option (Int32 × St)) (hv_takePrefix : ∀ (p1 : Int32) (p2 : Int32) (X : St), TCI YC Γ yX6_takePrefix cX6_takePrefix 5 "BlameCourt$Reade\x72" (some .int) { frames := (200 + 5 * d), cells := 0, slots := 0, locals := (7990 + 200 * d) } [.ref (Γ.2.2.2.1 46), .int p1, .int p2] X (v_takePrefix p1 p2 X)) (v_takeE : St → Option (Int32 × St)) (hv_takeE : ∀ (X : St), TCI YC Γ yX6_takeE cX6_takeE 1 "BlameCourt$Reade\x72" (some .int) { frames := (200 + 5 * d), cells := 0, slots := 0, locals := (7990 + 200 * d) } [.ref (Γ.2.2.2.1 46)] X (v_takeE X)) (r86 : Int32 → Int32 → Int32 → Int32 → St → Option (Int32 × St)) (hr86 : ∀ (a_1 : Int32) (a_2 : Int32) (a_3 : Int32) (a_4 : Int32) (X : St), TC YC Γ cX6_takeU 5 "BlameCourt$Reade\x72" (some .int) { frames := (203 + 5 * d), cells := 0, slots := 0, locals := (8110 + 200 * d) } As kI 86 [(0, .ref (Γ.2.2.2.1 46)), (1, .int a_1), (2, .int a_2), (3, .int a_3), (4, .int a_4)] [] X (r86 a_1 a_2 a_3 a_4 X)) (a_1 : Int32) (a_2 : Int32) (a_3 : Int32) (a_4 : Int32) (X : St) : TC YC Γ cX6_takeU 5 "BlameCourt$Reade\x72" (some .int) { frames := (203 + 5 * d), cells := 0, slots := 0, locals := (8110 + 200 * d) } As kI 168 [(0, .ref (Γ.2.2.2.1 46)), (1, .int a_1), (2, .int a_2), (3, .int a_3), (4, .int a_4)] [.ref (Γ.2.2.2.1 46)] X (g_Reader_takeU_168 v_takePrefix v_takeE r86 a_1 a_2 a_3 a_4 X) := by
  unfold g_Reader_takeU_168
  refine TC.bipush (w := 30) dX6_takeU_168 (by decide) ?_
  exact k_Reader_takeU_170 Γ d _ v_takePrefix hv_takePrefix v_takeE hv_takeE r86 hr86 a_1 a_2 a_3 a_4 (30 : Int32) X
noncomputable def g_Reader_takeU_121 (v_takePrefix : Int32 → Int32 → St → Option (Int32 × St)) (v_takeE : St → Option (Int32 × St)) (r86 : Int32 → Int32 → Int32 → Int32 → St → Option (Int32 × St)) (a_1 : Int32) (a_2 : Int32) (a_3 : Int32) (a_4 : Int32) (X : St) : Option (Int32 × St) :=
  bnd (g_Reader_addStep a_3 X) fun _ X7 =>
  if a_4.toInt < 40 then
    letV (X7.1 47 3) fun x8 =>
    if x8.toInt = 40 then
      if a_1.toInt = 0 then
        g_Reader_takeU_168 v_takePrefix v_takeE r86 a_1 a_2 a_3 a_4 X7
      else
        if a_4.toInt = 0 then
          g_Reader_takeU_170 v_takePrefix v_takeE r86 a_1 a_2 a_3 a_4 (31 : Int32) X7
        else
          g_Reader_takeU_168 v_takePrefix v_takeE r86 a_1 a_2 a_3 a_4 X7
    else
      bnd (g_Reader_takePlace v_takePrefix v_takeE X7) fun x9 X10 =>
      g_Reader_takeU_181 v_takePrefix v_takeE r86 a_1 x9 a_3 a_4 X10
  else
    bnd (g_Reader_refuse (3 : Int32) X7) fun _ X13 =>
    g_Reader_takeU_181 v_takePrefix v_takeE r86 a_1 a_2 a_3 a_4 X13
set_option maxHeartbeats 4000000 in
set_option maxRecDepth 100000 in
theorem k_Reader_takeU_121 (Γ : GxC) (d : Nat) (As : List Value) (v_takePrefix : Int32 → Int32 → St → Option (Int32 × St)) (hv_takePrefix : ∀ (p1 : Int32) (p2 : Int32) (X : St), TCI YC Γ yX6_takePrefix cX6_takePrefix 5 "BlameCourt$Reade\x72" (some .int) { frames := (200 + 5 * d), cells := 0, slots := 0, locals := (7990 + 200 * d) } [.ref (Γ.2.2.2.1 46), .int p1, .int p2] X (v_takePrefix p1 p2 X)) (v_takeE : St → Option (Int32 × St)) (hv_takeE : ∀ (X : St), TCI YC Γ yX6_takeE cX6_takeE 1 "BlameCourt$Reade\x72" (some .int) { frames := (200 + 5 * d), cells := 0, slots := 0, locals := (7990 + 200 * d) } [.ref (Γ.2.2.2.1 46)] X (v_takeE X)) (r86 : Int32 → Int32 → Int32 → Int32 → St → Option (Int32 × St)) (hr86 : ∀ (a_1 : Int32) (a_2 : Int32) (a_3 : Int32) (a_4 : Int32) (X : St), TC YC Γ cX6_takeU 5 "BlameCourt$Reade\x72" (some .int) { frames := (203 + 5 * d), cells := 0, slots := 0, locals := (8110 + 200 * d) } As kI 86 [(0, .ref (Γ.2.2.2.1 46)), (1, .int a_1), (2, .int a_2), (3, .int a_3), (4, .int a_4)] [] X (r86 a_1 a_2 a_3 a_4 X)) (a_1 : Int32) (a_2 : Int32) (a_3 : Int32) (a_4 : Int32) (X : St) : TC YC Γ cX6_takeU 5 "BlameCourt$Reade\x72" (some .int) { frames := (203 + 5 * d), cells := 0, slots := 0, locals := (8110 + 200 * d) } As kI 121 [(0, .ref (Γ.2.2.2.1 46)), (1, .int a_1), (2, .int a_2), (3, .int a_3), (4, .int a_4)] [] X (g_Reader_takeU_121 v_takePrefix v_takeE r86 a_1 a_2 a_3 a_4 X) := by
  unfold g_Reader_takeU_121
  refine TC.aload_n dX6_takeU_121 rfl 0 rfl ?_
  refine TC.iload_n dX6_takeU_122 rfl 3 rfl ?_
  refine TC.callV_v 46 (As1 := [.int a_3]) (rest := []) (k_Reader_addStep Γ a_3 X) ka_X6_addStep kv_X6_addStep oC_46 rfl k932 rfl rfl rfl rfl (show 2 + 1 ≤ (203 + 5 * d) ∧ 8 + (2 + 11) + 70 ≤ (8110 + 200 * d) from ⟨by omega, by omega⟩) (Nat.le_of_ble_eq_true rfl) dX6_takeU_123 (fun _ X7 => ?_)
  refine TC.iload dX6_takeU_126 4 rfl ?_
  refine TC.bipush (w := 40) dX6_takeU_128 (by decide) ?_
  refine TC.icmp_lt (pc1 := 141) dX6_takeU_130 (by decide) rfl ?_ ?_
  · refine TC.aload_n dX6_takeU_141 rfl 0 rfl ?_
    refine cC5_0 k416 dX6_takeU_142 ?_
    refine gC7_3 k390 dX6_takeU_145 (fun x8 => ?_)
    refine TC.bipush (w := 40) dX6_takeU_148 (by decide) ?_
    refine TC.icmp_ne (pc1 := 176) dX6_takeU_150 (by decide) rfl ?_ ?_
    · refine TC.aload_n dX6_takeU_176 rfl 0 rfl ?_
      refine TC.callV_i 46 (As1 := []) (rest := []) (k_Reader_takePlace Γ d v_takePrefix hv_takePrefix v_takeE hv_takeE X7) ka_X6_takePlace kv_X6_takePlace oC_46 rfl k940 rfl rfl rfl rfl (show (201 + 5 * d) + 1 ≤ (203 + 5 * d) ∧ 8 + (4 + 11) + (8030 + 200 * d) ≤ (8110 + 200 * d) from ⟨by omega, by omega⟩) (Nat.le_of_ble_eq_true rfl) dX6_takeU_177 (fun x9 X10 => ?_)
      refine TC.istore_n (lv1 := [(2, .int x9), (0, .ref (Γ.2.2.2.1 46)), (1, .int a_1), (3, .int a_3), (4, .int a_4)]) dX6_takeU_180 rfl (by decide) rfl ?_
      refine TC.sub [1, 2, 0, 3, 4] rfl ?_
      exact k_Reader_takeU_181 Γ d _ v_takePrefix hv_takePrefix v_takeE hv_takeE r86 hr86 a_1 x9 a_3 a_4 X10
    · refine TC.aload_n dX6_takeU_153 rfl 0 rfl ?_
      refine TC.iload_n dX6_takeU_154 rfl 1 rfl ?_
      refine TC.if_eq (pc1 := 168) dX6_takeU_155 (by decide) ?_ ?_
      · exact k_Reader_takeU_168 Γ d _ v_takePrefix hv_takePrefix v_takeE hv_takeE r86 hr86 a_1 a_2 a_3 a_4 X7
      · refine TC.iload dX6_takeU_158 4 rfl ?_
        refine TC.if_ne (pc1 := 168) dX6_takeU_160 (by decide) ?_ ?_
        · exact k_Reader_takeU_168 Γ d _ v_takePrefix hv_takePrefix v_takeE hv_takeE r86 hr86 a_1 a_2 a_3 a_4 X7
        · refine TC.bipush (w := 31) dX6_takeU_163 (by decide) ?_
          refine TC.goto (pc1 := 170) dX6_takeU_165 (by decide) ?_
          exact k_Reader_takeU_170 Γ d _ v_takePrefix hv_takePrefix v_takeE hv_takeE r86 hr86 a_1 a_2 a_3 a_4 (31 : Int32) X7
  · refine TC.aload_n dX6_takeU_133 rfl 0 rfl ?_
    refine TC.iconst (w := 3) dX6_takeU_134 (by decide) ?_
    refine TC.callV_v 46 (As1 := [.int 3]) (rest := []) (k_Reader_refuse Γ (3 : Int32) X7) ka_X6_refuse kv_X6_refuse oC_46 rfl k800 rfl rfl rfl rfl (show 3 + 1 ≤ (203 + 5 * d) ∧ 8 + (2 + 11) + 110 ≤ (8110 + 200 * d) from ⟨by omega, by omega⟩) (Nat.le_of_ble_eq_true rfl) dX6_takeU_135 (fun _ X13 => ?_)
    refine TC.goto (pc1 := 181) dX6_takeU_138 (by decide) ?_
    exact k_Reader_takeU_181 Γ d _ v_takePrefix hv_takePrefix v_takeE hv_takeE r86 hr86 a_1 a_2 a_3 a_4 X13
noncomputable def g_Reader_takeU_86_s (v_takePrefix : Int32 → Int32 → St → Option (Int32 × St)) (v_takeE : St → Option (Int32 × St)) (r86 : Int32 → Int32 → Int32 → Int32 → St → Option (Int32 × St)) (a_1 : Int32) (a_2 : Int32) (a_3 : Int32) (a_4 : Int32) (X : St) : Option (Int32 × St) :=
  if 40 < a_4.toInt then
    some (a_3, X)
  else
    if a_2.toInt = 0 then
      letV (X.1 47 3) fun x6 =>
      if x6.toInt = 40 then
        g_Reader_takeU_121 v_takePrefix v_takeE r86 a_1 a_2 a_3 a_4 X
      else
        letV (X.1 47 3) fun x14 =>
        if x14.toInt = 91 then
          g_Reader_takeU_121 v_takePrefix v_takeE r86 a_1 a_2 a_3 a_4 X
        else
          some (a_3, X)
    else
      some (a_3, X)
noncomputable def g_Reader_takeU_86 (v_takePrefix : Int32 → Int32 → St → Option (Int32 × St)) (v_takeE : St → Option (Int32 × St)) (n : Nat) : Int32 → Int32 → Int32 → Int32 → St → Option (Int32 × St) := lp (fun _ _ _ _ _ => none) (g_Reader_takeU_86_s v_takePrefix v_takeE) n
set_option maxHeartbeats 4000000 in
set_option maxRecDepth 100000 in
theorem k_Reader_takeU_86 (Γ : GxC) (d : Nat) (As : List Value) (v_takePrefix : Int32 → Int32 → St → Option (Int32 × St)) (hv_takePrefix : ∀ (p1 : Int32) (p2 : Int32) (X : St), TCI YC Γ yX6_takePrefix cX6_takePrefix 5 "BlameCourt$Reade\x72" (some .int) { frames := (200 + 5 * d), cells := 0, slots := 0, locals := (7990 + 200 * d) } [.ref (Γ.2.2.2.1 46), .int p1, .int p2] X (v_takePrefix p1 p2 X)) (v_takeE : St → Option (Int32 × St)) (hv_takeE : ∀ (X : St), TCI YC Γ yX6_takeE cX6_takeE 1 "BlameCourt$Reade\x72" (some .int) { frames := (200 + 5 * d), cells := 0, slots := 0, locals := (7990 + 200 * d) } [.ref (Γ.2.2.2.1 46)] X (v_takeE X)) (n : Nat) : ∀ (a_1 : Int32) (a_2 : Int32) (a_3 : Int32) (a_4 : Int32) (X : St), TC YC Γ cX6_takeU 5 "BlameCourt$Reade\x72" (some .int) { frames := (203 + 5 * d), cells := 0, slots := 0, locals := (8110 + 200 * d) } As kI 86 [(0, .ref (Γ.2.2.2.1 46)), (1, .int a_1), (2, .int a_2), (3, .int a_3), (4, .int a_4)] [] X (g_Reader_takeU_86 v_takePrefix v_takeE n a_1 a_2 a_3 a_4 X) := by
  unfold g_Reader_takeU_86
  refine lp_ind (P := fun (r86 : Int32 → Int32 → Int32 → Int32 → St → Option (Int32 × St)) => ∀ (a_1 : Int32) (a_2 : Int32) (a_3 : Int32) (a_4 : Int32) (X : St), TC YC Γ cX6_takeU 5 "BlameCourt$Reade\x72" (some .int) { frames := (203 + 5 * d), cells := 0, slots := 0, locals := (8110 + 200 * d) } As kI 86 [(0, .ref (Γ.2.2.2.1 46)), (1, .int a_1), (2, .int a_2), (3, .int a_3), (4, .int a_4)] [] X (r86 a_1 a_2 a_3 a_4 X)) (fun _ _ _ _ _ => TC.no) ?_ n
  intro r86 hr86 a_1 a_2 a_3 a_4 X
  unfold g_Reader_takeU_86_s
  refine TC.iload dX6_takeU_86 4 rfl ?_
  refine TC.bipush (w := 40) dX6_takeU_88 (by decide) ?_
  refine TC.icmp_gt (pc1 := 187) dX6_takeU_90 (by decide) rfl ?_ ?_
  · refine TC.iload_n dX6_takeU_187 rfl 3 rfl ?_
    exact TC.ret_i rfl dX6_takeU_188
  · refine TC.iload_n dX6_takeU_93 rfl 2 rfl ?_
    refine TC.if_ne (pc1 := 187) dX6_takeU_94 (by decide) ?_ ?_
    · refine TC.iload_n dX6_takeU_187 rfl 3 rfl ?_
      exact TC.ret_i rfl dX6_takeU_188
    · refine TC.aload_n dX6_takeU_97 rfl 0 rfl ?_
      refine cC5_0 k416 dX6_takeU_98 ?_
      refine gC7_3 k390 dX6_takeU_101 (fun x6 => ?_)
      refine TC.bipush (w := 40) dX6_takeU_104 (by decide) ?_
      refine TC.icmp_eq (pc1 := 121) dX6_takeU_106 (by decide) rfl ?_ ?_
      · exact k_Reader_takeU_121 Γ d _ v_takePrefix hv_takePrefix v_takeE hv_takeE r86 hr86 a_1 a_2 a_3 a_4 X
      · refine TC.aload_n dX6_takeU_109 rfl 0 rfl ?_
        refine cC5_0 k416 dX6_takeU_110 ?_
        refine gC7_3 k390 dX6_takeU_113 (fun x14 => ?_)
        refine TC.bipush (w := 91) dX6_takeU_116 (by decide) ?_
        refine TC.icmp_ne (pc1 := 187) dX6_takeU_118 (by decide) rfl ?_ ?_
        · refine TC.iload_n dX6_takeU_187 rfl 3 rfl ?_
          exact TC.ret_i rfl dX6_takeU_188
        · exact k_Reader_takeU_121 Γ d _ v_takePrefix hv_takePrefix v_takeE hv_takeE r86 hr86 a_1 a_2 a_3 a_4 X
noncomputable def g_Reader_takeU_75 (v_takePrefix : Int32 → Int32 → St → Option (Int32 × St)) (v_takeE : St → Option (Int32 × St)) (b_0 : Int32) (X : St) : Option (Int32 × St) :=
  bnd (g_Reader_takeB v_takePrefix v_takeE X) fun x4 X5 =>
  g_Reader_takeU_86 v_takePrefix v_takeE BIG b_0 (0 : Int32) x4 (0 : Int32) X5
set_option maxHeartbeats 4000000 in
set_option maxRecDepth 100000 in
theorem k_Reader_takeU_75 (Γ : GxC) (d : Nat) (As : List Value) (v_takePrefix : Int32 → Int32 → St → Option (Int32 × St)) (hv_takePrefix : ∀ (p1 : Int32) (p2 : Int32) (X : St), TCI YC Γ yX6_takePrefix cX6_takePrefix 5 "BlameCourt$Reade\x72" (some .int) { frames := (200 + 5 * d), cells := 0, slots := 0, locals := (7990 + 200 * d) } [.ref (Γ.2.2.2.1 46), .int p1, .int p2] X (v_takePrefix p1 p2 X)) (v_takeE : St → Option (Int32 × St)) (hv_takeE : ∀ (X : St), TCI YC Γ yX6_takeE cX6_takeE 1 "BlameCourt$Reade\x72" (some .int) { frames := (200 + 5 * d), cells := 0, slots := 0, locals := (7990 + 200 * d) } [.ref (Γ.2.2.2.1 46)] X (v_takeE X)) (b_0 : Int32) (X : St) : TC YC Γ cX6_takeU 5 "BlameCourt$Reade\x72" (some .int) { frames := (203 + 5 * d), cells := 0, slots := 0, locals := (8110 + 200 * d) } As kI 75 [(0, .ref (Γ.2.2.2.1 46))] [.int b_0] X (g_Reader_takeU_75 v_takePrefix v_takeE b_0 X) := by
  unfold g_Reader_takeU_75
  refine TC.istore_n (lv1 := [(1, .int b_0), (0, .ref (Γ.2.2.2.1 46))]) dX6_takeU_75 rfl (by decide) rfl ?_
  refine TC.iconst (w := 0) dX6_takeU_76 (by decide) ?_
  refine TC.istore_n (lv1 := [(2, .int 0), (1, .int b_0), (0, .ref (Γ.2.2.2.1 46))]) dX6_takeU_77 rfl (by decide) rfl ?_
  refine TC.aload_n dX6_takeU_78 rfl 2 rfl ?_
  refine TC.callV_i 46 (As1 := []) (rest := []) (k_Reader_takeB Γ d v_takePrefix hv_takePrefix v_takeE hv_takeE X) ka_X6_takeB kv_X6_takeB oC_46 rfl k899 rfl rfl rfl rfl (show (202 + 5 * d) + 1 ≤ (203 + 5 * d) ∧ 8 + (2 + 11) + (8070 + 200 * d) ≤ (8110 + 200 * d) from ⟨by omega, by omega⟩) (Nat.le_of_ble_eq_true rfl) dX6_takeU_79 (fun x4 X5 => ?_)
  refine TC.istore_n (lv1 := [(3, .int x4), (2, .int 0), (1, .int b_0), (0, .ref (Γ.2.2.2.1 46))]) dX6_takeU_82 rfl (by decide) rfl ?_
  refine TC.iconst (w := 0) dX6_takeU_83 (by decide) ?_
  refine TC.istore (lv1 := [(4, .int 0), (3, .int x4), (2, .int 0), (1, .int b_0), (0, .ref (Γ.2.2.2.1 46))]) dX6_takeU_84 (by decide) rfl ?_
  refine TC.sub [4, 3, 2, 1, 0] rfl ?_
  exact k_Reader_takeU_86 Γ d _ v_takePrefix hv_takePrefix v_takeE hv_takeE BIG b_0 (0 : Int32) x4 (0 : Int32) X5
noncomputable def g_Reader_takeU_74 (v_takePrefix : Int32 → Int32 → St → Option (Int32 × St)) (v_takeE : St → Option (Int32 × St)) (X : St) : Option (Int32 × St) :=
  g_Reader_takeU_75 v_takePrefix v_takeE (0 : Int32) X
set_option maxHeartbeats 4000000 in
set_option maxRecDepth 100000 in
theorem k_Reader_takeU_74 (Γ : GxC) (d : Nat) (As : List Value) (v_takePrefix : Int32 → Int32 → St → Option (Int32 × St)) (hv_takePrefix : ∀ (p1 : Int32) (p2 : Int32) (X : St), TCI YC Γ yX6_takePrefix cX6_takePrefix 5 "BlameCourt$Reade\x72" (some .int) { frames := (200 + 5 * d), cells := 0, slots := 0, locals := (7990 + 200 * d) } [.ref (Γ.2.2.2.1 46), .int p1, .int p2] X (v_takePrefix p1 p2 X)) (v_takeE : St → Option (Int32 × St)) (hv_takeE : ∀ (X : St), TCI YC Γ yX6_takeE cX6_takeE 1 "BlameCourt$Reade\x72" (some .int) { frames := (200 + 5 * d), cells := 0, slots := 0, locals := (7990 + 200 * d) } [.ref (Γ.2.2.2.1 46)] X (v_takeE X)) (X : St) : TC YC Γ cX6_takeU 5 "BlameCourt$Reade\x72" (some .int) { frames := (203 + 5 * d), cells := 0, slots := 0, locals := (8110 + 200 * d) } As kI 74 [(0, .ref (Γ.2.2.2.1 46))] [] X (g_Reader_takeU_74 v_takePrefix v_takeE X) := by
  unfold g_Reader_takeU_74
  refine TC.iconst (w := 0) dX6_takeU_74 (by decide) ?_
  exact k_Reader_takeU_75 Γ d _ v_takePrefix hv_takePrefix v_takeE hv_takeE (0 : Int32) X
noncomputable def g_Reader_takeU (v_takePrefix : Int32 → Int32 → St → Option (Int32 × St)) (v_takeE : St → Option (Int32 × St)) (X : St) : Option (Int32 × St) :=
  letV (X.1 47 3) fun x1 =>
  if x1.toInt = 45 then
    bnd (v_takePrefix (27 : Int32) (18 : Int32) X) fun x20 X21 =>
    some (x20, X21)
  else
    letV (X.1 47 3) fun x2 =>
    if x2.toInt = 33 then
      bnd (v_takePrefix (28 : Int32) (19 : Int32) X) fun x18 X19 =>
      some (x18, X19)
    else
      letV (X.1 47 3) fun x3 =>
      if x3.toInt = 258 then
        letV (X.2.1 47 5) fun y15 =>
        bnd (g_Reader_slotOf y15 X) fun x16 X17 =>
        if x16.toInt = -1 then
          g_Reader_takeU_75 v_takePrefix v_takeE (1 : Int32) X17
        else
          g_Reader_takeU_74 v_takePrefix v_takeE X17
      else
        g_Reader_takeU_74 v_takePrefix v_takeE X
set_option maxHeartbeats 4000000 in
set_option maxRecDepth 100000 in
theorem k_Reader_takeU (Γ : GxC) (d : Nat) (v_takePrefix : Int32 → Int32 → St → Option (Int32 × St)) (hv_takePrefix : ∀ (p1 : Int32) (p2 : Int32) (X : St), TCI YC Γ yX6_takePrefix cX6_takePrefix 5 "BlameCourt$Reade\x72" (some .int) { frames := (200 + 5 * d), cells := 0, slots := 0, locals := (7990 + 200 * d) } [.ref (Γ.2.2.2.1 46), .int p1, .int p2] X (v_takePrefix p1 p2 X)) (v_takeE : St → Option (Int32 × St)) (hv_takeE : ∀ (X : St), TCI YC Γ yX6_takeE cX6_takeE 1 "BlameCourt$Reade\x72" (some .int) { frames := (200 + 5 * d), cells := 0, slots := 0, locals := (7990 + 200 * d) } [.ref (Γ.2.2.2.1 46)] X (v_takeE X)) (X : St) : TCI YC Γ yX6_takeU cX6_takeU 5 "BlameCourt$Reade\x72" (some .int) { frames := (203 + 5 * d), cells := 0, slots := 0, locals := (8110 + 200 * d) } [.ref (Γ.2.2.2.1 46)] X (g_Reader_takeU v_takePrefix v_takeE X) := by
  refine TCI.of (by decide) (Nat.le_of_ble_eq_true rfl) rfl ?_
  show TC YC Γ cX6_takeU 5 "BlameCourt$Reade\x72" (some .int) { frames := (203 + 5 * d), cells := 0, slots := 0, locals := (8110 + 200 * d) } _ kI 0 [(0, .ref (Γ.2.2.2.1 46))] [] X (g_Reader_takeU v_takePrefix v_takeE X)
  unfold g_Reader_takeU
  refine TC.aload_n dX6_takeU_0 rfl 0 rfl ?_
  refine cC5_0 k416 dX6_takeU_1 ?_
  refine gC7_3 k390 dX6_takeU_4 (fun x1 => ?_)
  refine TC.bipush (w := 45) dX6_takeU_7 (by decide) ?_
  refine TC.icmp_ne (pc1 := 21) dX6_takeU_9 (by decide) rfl ?_ ?_
  · refine TC.aload_n dX6_takeU_21 rfl 0 rfl ?_
    refine cC5_0 k416 dX6_takeU_22 ?_
    refine gC7_3 k390 dX6_takeU_25 (fun x2 => ?_)
    refine TC.bipush (w := 33) dX6_takeU_28 (by decide) ?_
    refine TC.icmp_ne (pc1 := 42) dX6_takeU_30 (by decide) rfl ?_ ?_
    · refine TC.aload_n dX6_takeU_42 rfl 0 rfl ?_
      refine cC5_0 k416 dX6_takeU_43 ?_
      refine gC7_3 k390 dX6_takeU_46 (fun x3 => ?_)
      refine TC.sipush (w := 258) dX6_takeU_49 (by decide) ?_
      refine TC.icmp_ne (pc1 := 74) dX6_takeU_52 (by decide) rfl ?_ ?_
      · exact k_Reader_takeU_74 Γ d _ v_takePrefix hv_takePrefix v_takeE hv_takeE X
      · refine TC.aload_n dX6_takeU_55 rfl 0 rfl ?_
        refine TC.aload_n dX6_takeU_56 rfl 0 rfl ?_
        refine cC5_0 k416 dX6_takeU_57 ?_
        refine gC7_5 k394 dX6_takeU_60 (fun y15 => ?_)
        refine TC.callV_i 46 (As1 := [.long y15]) (rest := []) (k_Reader_slotOf Γ y15 X) ka_X6_slotOf kv_X6_slotOf oC_46 rfl k829 rfl rfl rfl rfl (show 2 + 1 ≤ (203 + 5 * d) ∧ 8 + (4 + 11) + 70 ≤ (8110 + 200 * d) from ⟨by omega, by omega⟩) (Nat.le_of_ble_eq_true rfl) dX6_takeU_63 (fun x16 X17 => ?_)
        refine TC.iconst (w := (-1)) dX6_takeU_66 (by decide) ?_
        refine TC.icmp_ne (pc1 := 74) dX6_takeU_67 (by decide) rfl ?_ ?_
        · exact k_Reader_takeU_74 Γ d _ v_takePrefix hv_takePrefix v_takeE hv_takeE X17
        · refine TC.iconst (w := 1) dX6_takeU_70 (by decide) ?_
          refine TC.goto (pc1 := 75) dX6_takeU_71 (by decide) ?_
          exact k_Reader_takeU_75 Γ d _ v_takePrefix hv_takePrefix v_takeE hv_takeE (1 : Int32) X17
    · refine TC.aload_n dX6_takeU_33 rfl 0 rfl ?_
      refine TC.bipush (w := 28) dX6_takeU_34 (by decide) ?_
      refine TC.bipush (w := 19) dX6_takeU_36 (by decide) ?_
      refine TC.callV_i 46 (As1 := [.int 28, .int 19]) (rest := []) (hv_takePrefix (28 : Int32) (19 : Int32) X) ka_X6_takePrefix kv_X6_takePrefix oC_46 rfl k895 rfl rfl rfl rfl (show (200 + 5 * d) + 1 ≤ (203 + 5 * d) ∧ 8 + (5 + 11) + (7990 + 200 * d) ≤ (8110 + 200 * d) from ⟨by omega, by omega⟩) (Nat.le_of_ble_eq_true rfl) dX6_takeU_38 (fun x18 X19 => ?_)
      exact TC.ret_i rfl dX6_takeU_41
  · refine TC.aload_n dX6_takeU_12 rfl 0 rfl ?_
    refine TC.bipush (w := 27) dX6_takeU_13 (by decide) ?_
    refine TC.bipush (w := 18) dX6_takeU_15 (by decide) ?_
    refine TC.callV_i 46 (As1 := [.int 27, .int 18]) (rest := []) (hv_takePrefix (27 : Int32) (18 : Int32) X) ka_X6_takePrefix kv_X6_takePrefix oC_46 rfl k895 rfl rfl rfl rfl (show (200 + 5 * d) + 1 ≤ (203 + 5 * d) ∧ 8 + (5 + 11) + (7990 + 200 * d) ≤ (8110 + 200 * d) from ⟨by omega, by omega⟩) (Nat.le_of_ble_eq_true rfl) dX6_takeU_17 (fun x20 X21 => ?_)
    exact TC.ret_i rfl dX6_takeU_20
noncomputable def g_Reader_takeC_169 (v_takePrefix : Int32 → Int32 → St → Option (Int32 × St)) (v_takeE : St → Option (Int32 × St)) (a_1 : Int32) (a_5 : Int32) (X : St) : Option (Int32 × St) :=
  bnd (g_Reader_applyWaiting a_1 (1 : Int32) a_5 X) fun x4 X5 =>
  some (x4, X5)
set_option maxHeartbeats 4000000 in
set_option maxRecDepth 100000 in
theorem k_Reader_takeC_169 (Γ : GxC) (d : Nat) (As : List Value) (v_takePrefix : Int32 → Int32 → St → Option (Int32 × St)) (hv_takePrefix : ∀ (p1 : Int32) (p2 : Int32) (X : St), TCI YC Γ yX6_takePrefix cX6_takePrefix 5 "BlameCourt$Reade\x72" (some .int) { frames := (200 + 5 * d), cells := 0, slots := 0, locals := (7990 + 200 * d) } [.ref (Γ.2.2.2.1 46), .int p1, .int p2] X (v_takePrefix p1 p2 X)) (v_takeE : St → Option (Int32 × St)) (hv_takeE : ∀ (X : St), TCI YC Γ yX6_takeE cX6_takeE 1 "BlameCourt$Reade\x72" (some .int) { frames := (200 + 5 * d), cells := 0, slots := 0, locals := (7990 + 200 * d) } [.ref (Γ.2.2.2.1 46)] X (v_takeE X)) (a_1 : Int32) (a_5 : Int32) (X : St) : TC YC Γ cX6_takeC 8 "BlameCourt$Reade\x72" (some .int) { frames := (204 + 5 * d), cells := 0, slots := 0, locals := (8150 + 200 * d) } As kI 169 [(0, .ref (Γ.2.2.2.1 46)), (1, .int a_1), (5, .int a_5)] [] X (g_Reader_takeC_169 v_takePrefix v_takeE a_1 a_5 X) := by
  unfold g_Reader_takeC_169
  refine TC.aload_n dX6_takeC_169 rfl 0 rfl ?_
  refine TC.iload_n dX6_takeC_170 rfl 1 rfl ?_
  refine TC.iconst (w := 1) dX6_takeC_171 (by decide) ?_
  refine TC.iload dX6_takeC_172 2 rfl ?_
  refine TC.callV_i 46 (As1 := [.int a_1, .int 1, .int a_5]) (rest := []) (k_Reader_applyWaiting Γ a_1 (1 : Int32) a_5 X) ka_X6_applyWaiting kv_X6_applyWaiting oC_46 rfl k947 rfl rfl rfl rfl (show 3 + 1 ≤ (204 + 5 * d) ∧ 8 + (6 + 11) + 110 ≤ (8150 + 200 * d) from ⟨by omega, by omega⟩) (Nat.le_of_ble_eq_true rfl) dX6_takeC_174 (fun x4 X5 => ?_)
  exact TC.ret_i rfl dX6_takeC_177
noncomputable def g_Reader_takeC_144 (v_takePrefix : Int32 → Int32 → St → Option (Int32 × St)) (v_takeE : St → Option (Int32 × St)) (r21 : Int32 → Int32 → Int32 → Int32 → Int32 → Int32 → St → Option (Int32 × St)) (a_1 : Int32) (a_2 : Int32) (a_3 : Int32) (a_4 : Int32) (a_5 : Int32) (a_6 : Int32) (X : St) : Option (Int32 × St) :=
  bnd (g_Reader_pushWaiting a_5 X) fun _ X12 =>
  bnd (g_Tokens_advance X12) fun _ X13 =>
  bnd (g_Reader_takeU v_takePrefix v_takeE X13) fun x14 X15 =>
  letV (a_6 + Int32.ofInt (1)) fun x16 =>
  r21 a_1 a_2 a_3 a_4 x14 x16 X15
set_option maxHeartbeats 4000000 in
set_option maxRecDepth 100000 in
theorem k_Reader_takeC_144 (Γ : GxC) (d : Nat) (As : List Value) (v_takePrefix : Int32 → Int32 → St → Option (Int32 × St)) (hv_takePrefix : ∀ (p1 : Int32) (p2 : Int32) (X : St), TCI YC Γ yX6_takePrefix cX6_takePrefix 5 "BlameCourt$Reade\x72" (some .int) { frames := (200 + 5 * d), cells := 0, slots := 0, locals := (7990 + 200 * d) } [.ref (Γ.2.2.2.1 46), .int p1, .int p2] X (v_takePrefix p1 p2 X)) (v_takeE : St → Option (Int32 × St)) (hv_takeE : ∀ (X : St), TCI YC Γ yX6_takeE cX6_takeE 1 "BlameCourt$Reade\x72" (some .int) { frames := (200 + 5 * d), cells := 0, slots := 0, locals := (7990 + 200 * d) } [.ref (Γ.2.2.2.1 46)] X (v_takeE X)) (r21 : Int32 → Int32 → Int32 → Int32 → Int32 → Int32 → St → Option (Int32 × St)) (hr21 : ∀ (a_1 : Int32) (a_2 : Int32) (a_3 : Int32) (a_4 : Int32) (a_5 : Int32) (a_6 : Int32) (X : St), TC YC Γ cX6_takeC 8 "BlameCourt$Reade\x72" (some .int) { frames := (204 + 5 * d), cells := 0, slots := 0, locals := (8150 + 200 * d) } As kI 21 [(0, .ref (Γ.2.2.2.1 46)), (1, .int a_1), (2, .int a_2), (3, .int a_3), (4, .int a_4), (5, .int a_5), (6, .int a_6)] [] X (r21 a_1 a_2 a_3 a_4 a_5 a_6 X)) (a_1 : Int32) (a_2 : Int32) (a_3 : Int32) (a_4 : Int32) (a_5 : Int32) (a_6 : Int32) (X : St) : TC YC Γ cX6_takeC 8 "BlameCourt$Reade\x72" (some .int) { frames := (204 + 5 * d), cells := 0, slots := 0, locals := (8150 + 200 * d) } As kI 144 [(0, .ref (Γ.2.2.2.1 46)), (1, .int a_1), (2, .int a_2), (3, .int a_3), (4, .int a_4), (5, .int a_5), (6, .int a_6)] [] X (g_Reader_takeC_144 v_takePrefix v_takeE r21 a_1 a_2 a_3 a_4 a_5 a_6 X) := by
  unfold g_Reader_takeC_144
  refine TC.aload_n dX6_takeC_144 rfl 0 rfl ?_
  refine TC.iload dX6_takeC_145 5 rfl ?_
  refine TC.callV_v 46 (As1 := [.int a_5]) (rest := []) (k_Reader_pushWaiting Γ a_5 X) ka_X6_pushWaiting kv_X6_pushWaiting oC_46 rfl k954 rfl rfl rfl rfl (show 3 + 1 ≤ (204 + 5 * d) ∧ 8 + (2 + 11) + 110 ≤ (8150 + 200 * d) from ⟨by omega, by omega⟩) (Nat.le_of_ble_eq_true rfl) dX6_takeC_147 (fun _ X12 => ?_)
  refine TC.aload_n dX6_takeC_150 rfl 0 rfl ?_
  refine cC5_0 k416 dX6_takeC_151 ?_
  refine TC.callV_v 47 (As1 := []) (rest := []) (k_Tokens_advance Γ X12) ka_X9_advance kv_X9_advance oC_47 rfl k816 rfl rfl rfl rfl (show 4 + 1 ≤ (204 + 5 * d) ∧ 8 + (3 + 11) + 150 ≤ (8150 + 200 * d) from ⟨by omega, by omega⟩) (Nat.le_of_ble_eq_true rfl) dX6_takeC_154 (fun _ X13 => ?_)
  refine TC.aload_n dX6_takeC_157 rfl 0 rfl ?_
  refine TC.callV_i 46 (As1 := []) (rest := []) (k_Reader_takeU Γ d v_takePrefix hv_takePrefix v_takeE hv_takeE X13) ka_X6_takeU kv_X6_takeU oC_46 rfl k891 rfl rfl rfl rfl (show (203 + 5 * d) + 1 ≤ (204 + 5 * d) ∧ 8 + (5 + 11) + (8110 + 200 * d) ≤ (8150 + 200 * d) from ⟨by omega, by omega⟩) (Nat.le_of_ble_eq_true rfl) dX6_takeC_158 (fun x14 X15 => ?_)
  refine TC.istore (lv1 := [(5, .int x14), (0, .ref (Γ.2.2.2.1 46)), (1, .int a_1), (2, .int a_2), (3, .int a_3), (4, .int a_4), (6, .int a_6)]) dX6_takeC_161 (by decide) rfl ?_
  refine TC.iinc dX6_takeC_163 6 rfl (by decide) (lvf := fun x16 => [(6, .int x16), (5, .int x14), (0, .ref (Γ.2.2.2.1 46)), (1, .int a_1), (2, .int a_2), (3, .int a_3), (4, .int a_4)]) (fun _ => rfl) (fun x16 => ?_)
  refine TC.goto (pc1 := 21) dX6_takeC_166 (by decide) ?_
  refine TC.sub [2, 3, 4, 5, 6, 1, 0] rfl ?_
  exact hr21 a_1 a_2 a_3 a_4 x14 x16 X15
noncomputable def g_Reader_takeC_139 (v_takePrefix : Int32 → Int32 → St → Option (Int32 × St)) (v_takeE : St → Option (Int32 × St)) (r21 : Int32 → Int32 → Int32 → Int32 → Int32 → Int32 → St → Option (Int32 × St)) (a_1 : Int32) (a_2 : Int32) (a_3 : Int32) (a_4 : Int32) (a_5 : Int32) (a_6 : Int32) (X : St) : Option (Int32 × St) :=
  bnd (g_Reader_refuse (3 : Int32) X) fun _ X11 =>
  g_Reader_takeC_144 v_takePrefix v_takeE r21 a_1 a_2 a_3 a_4 a_5 a_6 X11
set_option maxHeartbeats 4000000 in
set_option maxRecDepth 100000 in
theorem k_Reader_takeC_139 (Γ : GxC) (d : Nat) (As : List Value) (v_takePrefix : Int32 → Int32 → St → Option (Int32 × St)) (hv_takePrefix : ∀ (p1 : Int32) (p2 : Int32) (X : St), TCI YC Γ yX6_takePrefix cX6_takePrefix 5 "BlameCourt$Reade\x72" (some .int) { frames := (200 + 5 * d), cells := 0, slots := 0, locals := (7990 + 200 * d) } [.ref (Γ.2.2.2.1 46), .int p1, .int p2] X (v_takePrefix p1 p2 X)) (v_takeE : St → Option (Int32 × St)) (hv_takeE : ∀ (X : St), TCI YC Γ yX6_takeE cX6_takeE 1 "BlameCourt$Reade\x72" (some .int) { frames := (200 + 5 * d), cells := 0, slots := 0, locals := (7990 + 200 * d) } [.ref (Γ.2.2.2.1 46)] X (v_takeE X)) (r21 : Int32 → Int32 → Int32 → Int32 → Int32 → Int32 → St → Option (Int32 × St)) (hr21 : ∀ (a_1 : Int32) (a_2 : Int32) (a_3 : Int32) (a_4 : Int32) (a_5 : Int32) (a_6 : Int32) (X : St), TC YC Γ cX6_takeC 8 "BlameCourt$Reade\x72" (some .int) { frames := (204 + 5 * d), cells := 0, slots := 0, locals := (8150 + 200 * d) } As kI 21 [(0, .ref (Γ.2.2.2.1 46)), (1, .int a_1), (2, .int a_2), (3, .int a_3), (4, .int a_4), (5, .int a_5), (6, .int a_6)] [] X (r21 a_1 a_2 a_3 a_4 a_5 a_6 X)) (a_1 : Int32) (a_2 : Int32) (a_3 : Int32) (a_4 : Int32) (a_5 : Int32) (a_6 : Int32) (X : St) : TC YC Γ cX6_takeC 8 "BlameCourt$Reade\x72" (some .int) { frames := (204 + 5 * d), cells := 0, slots := 0, locals := (8150 + 200 * d) } As kI 139 [(0, .ref (Γ.2.2.2.1 46)), (1, .int a_1), (2, .int a_2), (3, .int a_3), (4, .int a_4), (5, .int a_5), (6, .int a_6)] [] X (g_Reader_takeC_139 v_takePrefix v_takeE r21 a_1 a_2 a_3 a_4 a_5 a_6 X) := by
  unfold g_Reader_takeC_139
  refine TC.aload_n dX6_takeC_139 rfl 0 rfl ?_
  refine TC.iconst (w := 3) dX6_takeC_140 (by decide) ?_
  refine TC.callV_v 46 (As1 := [.int 3]) (rest := []) (k_Reader_refuse Γ (3 : Int32) X) ka_X6_refuse kv_X6_refuse oC_46 rfl k800 rfl rfl rfl rfl (show 3 + 1 ≤ (204 + 5 * d) ∧ 8 + (2 + 11) + 110 ≤ (8150 + 200 * d) from ⟨by omega, by omega⟩) (Nat.le_of_ble_eq_true rfl) dX6_takeC_141 (fun _ X11 => ?_)
  exact k_Reader_takeC_144 Γ d _ v_takePrefix hv_takePrefix v_takeE hv_takeE r21 hr21 a_1 a_2 a_3 a_4 a_5 a_6 X11
noncomputable def g_Reader_takeC_126 (v_takePrefix : Int32 → Int32 → St → Option (Int32 × St)) (v_takeE : St → Option (Int32 × St)) (r21 : Int32 → Int32 → Int32 → Int32 → Int32 → Int32 → St → Option (Int32 × St)) (a_1 : Int32) (a_3 : Int32) (a_4 : Int32) (a_5 : Int32) (a_6 : Int32) (b_0 : Int32) (X : St) : Option (Int32 × St) :=
  if 40 < b_0.toInt then
    g_Reader_takeC_139 v_takePrefix v_takeE r21 a_1 b_0 a_3 a_4 a_5 a_6 X
  else
    if a_3.toInt ≤ 40 then
      g_Reader_takeC_144 v_takePrefix v_takeE r21 a_1 b_0 a_3 a_4 a_5 a_6 X
    else
      g_Reader_takeC_139 v_takePrefix v_takeE r21 a_1 b_0 a_3 a_4 a_5 a_6 X
set_option maxHeartbeats 4000000 in
set_option maxRecDepth 100000 in
theorem k_Reader_takeC_126 (Γ : GxC) (d : Nat) (As : List Value) (v_takePrefix : Int32 → Int32 → St → Option (Int32 × St)) (hv_takePrefix : ∀ (p1 : Int32) (p2 : Int32) (X : St), TCI YC Γ yX6_takePrefix cX6_takePrefix 5 "BlameCourt$Reade\x72" (some .int) { frames := (200 + 5 * d), cells := 0, slots := 0, locals := (7990 + 200 * d) } [.ref (Γ.2.2.2.1 46), .int p1, .int p2] X (v_takePrefix p1 p2 X)) (v_takeE : St → Option (Int32 × St)) (hv_takeE : ∀ (X : St), TCI YC Γ yX6_takeE cX6_takeE 1 "BlameCourt$Reade\x72" (some .int) { frames := (200 + 5 * d), cells := 0, slots := 0, locals := (7990 + 200 * d) } [.ref (Γ.2.2.2.1 46)] X (v_takeE X)) (r21 : Int32 → Int32 → Int32 → Int32 → Int32 → Int32 → St → Option (Int32 × St)) (hr21 : ∀ (a_1 : Int32) (a_2 : Int32) (a_3 : Int32) (a_4 : Int32) (a_5 : Int32) (a_6 : Int32) (X : St), TC YC Γ cX6_takeC 8 "BlameCourt$Reade\x72" (some .int) { frames := (204 + 5 * d), cells := 0, slots := 0, locals := (8150 + 200 * d) } As kI 21 [(0, .ref (Γ.2.2.2.1 46)), (1, .int a_1), (2, .int a_2), (3, .int a_3), (4, .int a_4), (5, .int a_5), (6, .int a_6)] [] X (r21 a_1 a_2 a_3 a_4 a_5 a_6 X)) (a_1 : Int32) (a_3 : Int32) (a_4 : Int32) (a_5 : Int32) (a_6 : Int32) (b_0 : Int32) (X : St) : TC YC Γ cX6_takeC 8 "BlameCourt$Reade\x72" (some .int) { frames := (204 + 5 * d), cells := 0, slots := 0, locals := (8150 + 200 * d) } As kI 126 [(0, .ref (Γ.2.2.2.1 46)), (1, .int a_1), (3, .int a_3), (4, .int a_4), (5, .int a_5), (6, .int a_6)] [.int b_0] X (g_Reader_takeC_126 v_takePrefix v_takeE r21 a_1 a_3 a_4 a_5 a_6 b_0 X) := by
  unfold g_Reader_takeC_126
  refine TC.istore_n (lv1 := [(2, .int b_0), (0, .ref (Γ.2.2.2.1 46)), (1, .int a_1), (3, .int a_3), (4, .int a_4), (5, .int a_5), (6, .int a_6)]) dX6_takeC_126 rfl (by decide) rfl ?_
  refine TC.iload_n dX6_takeC_127 rfl 0 rfl ?_
  refine TC.bipush (w := 40) dX6_takeC_128 (by decide) ?_
  refine TC.icmp_gt (pc1 := 139) dX6_takeC_130 (by decide) rfl ?_ ?_
  · refine TC.sub [1, 2, 0, 3, 4, 5, 6] rfl ?_
    exact k_Reader_takeC_139 Γ d _ v_takePrefix hv_takePrefix v_takeE hv_takeE r21 hr21 a_1 b_0 a_3 a_4 a_5 a_6 X
  · refine TC.iload_n dX6_takeC_133 rfl 3 rfl ?_
    refine TC.bipush (w := 40) dX6_takeC_134 (by decide) ?_
    refine TC.icmp_le (pc1 := 144) dX6_takeC_136 (by decide) rfl ?_ ?_
    · refine TC.sub [1, 2, 0, 3, 4, 5, 6] rfl ?_
      exact k_Reader_takeC_144 Γ d _ v_takePrefix hv_takePrefix v_takeE hv_takeE r21 hr21 a_1 b_0 a_3 a_4 a_5 a_6 X
    · refine TC.sub [1, 2, 0, 3, 4, 5, 6] rfl ?_
      exact k_Reader_takeC_139 Γ d _ v_takePrefix hv_takePrefix v_takeE hv_takeE r21 hr21 a_1 b_0 a_3 a_4 a_5 a_6 X
noncomputable def g_Reader_takeC_102 (v_takePrefix : Int32 → Int32 → St → Option (Int32 × St)) (v_takeE : St → Option (Int32 × St)) (r21 : Int32 → Int32 → Int32 → Int32 → Int32 → Int32 → St → Option (Int32 × St)) (a_1 : Int32) (a_2 : Int32) (a_4 : Int32) (a_5 : Int32) (a_6 : Int32) (a_7 : Int32) (b_0 : Int32) (X : St) : Option (Int32 × St) :=
  if a_7.toInt = 2 then
    letV (a_2 + (1 : Int32)) fun x17 =>
    g_Reader_takeC_126 v_takePrefix v_takeE r21 a_1 b_0 a_4 a_5 a_6 x17 X
  else
    if a_7.toInt = 1 then
      g_Reader_takeC_126 v_takePrefix v_takeE r21 a_1 b_0 a_4 a_5 a_6 (0 : Int32) X
    else
      g_Reader_takeC_126 v_takePrefix v_takeE r21 a_1 b_0 a_4 a_5 a_6 a_2 X
set_option maxHeartbeats 4000000 in
set_option maxRecDepth 100000 in
theorem k_Reader_takeC_102 (Γ : GxC) (d : Nat) (As : List Value) (v_takePrefix : Int32 → Int32 → St → Option (Int32 × St)) (hv_takePrefix : ∀ (p1 : Int32) (p2 : Int32) (X : St), TCI YC Γ yX6_takePrefix cX6_takePrefix 5 "BlameCourt$Reade\x72" (some .int) { frames := (200 + 5 * d), cells := 0, slots := 0, locals := (7990 + 200 * d) } [.ref (Γ.2.2.2.1 46), .int p1, .int p2] X (v_takePrefix p1 p2 X)) (v_takeE : St → Option (Int32 × St)) (hv_takeE : ∀ (X : St), TCI YC Γ yX6_takeE cX6_takeE 1 "BlameCourt$Reade\x72" (some .int) { frames := (200 + 5 * d), cells := 0, slots := 0, locals := (7990 + 200 * d) } [.ref (Γ.2.2.2.1 46)] X (v_takeE X)) (r21 : Int32 → Int32 → Int32 → Int32 → Int32 → Int32 → St → Option (Int32 × St)) (hr21 : ∀ (a_1 : Int32) (a_2 : Int32) (a_3 : Int32) (a_4 : Int32) (a_5 : Int32) (a_6 : Int32) (X : St), TC YC Γ cX6_takeC 8 "BlameCourt$Reade\x72" (some .int) { frames := (204 + 5 * d), cells := 0, slots := 0, locals := (8150 + 200 * d) } As kI 21 [(0, .ref (Γ.2.2.2.1 46)), (1, .int a_1), (2, .int a_2), (3, .int a_3), (4, .int a_4), (5, .int a_5), (6, .int a_6)] [] X (r21 a_1 a_2 a_3 a_4 a_5 a_6 X)) (a_1 : Int32) (a_2 : Int32) (a_4 : Int32) (a_5 : Int32) (a_6 : Int32) (a_7 : Int32) (b_0 : Int32) (X : St) : TC YC Γ cX6_takeC 8 "BlameCourt$Reade\x72" (some .int) { frames := (204 + 5 * d), cells := 0, slots := 0, locals := (8150 + 200 * d) } As kI 102 [(0, .ref (Γ.2.2.2.1 46)), (1, .int a_1), (2, .int a_2), (4, .int a_4), (5, .int a_5), (6, .int a_6), (7, .int a_7)] [.int b_0] X (g_Reader_takeC_102 v_takePrefix v_takeE r21 a_1 a_2 a_4 a_5 a_6 a_7 b_0 X) := by
  unfold g_Reader_takeC_102
  refine TC.istore_n (lv1 := [(3, .int b_0), (0, .ref (Γ.2.2.2.1 46)), (1, .int a_1), (2, .int a_2), (4, .int a_4), (5, .int a_5), (6, .int a_6), (7, .int a_7)]) dX6_takeC_102 rfl (by decide) rfl ?_
  refine TC.iload dX6_takeC_103 7 rfl ?_
  refine TC.iconst (w := 2) dX6_takeC_105 (by decide) ?_
  refine TC.icmp_ne (pc1 := 115) dX6_takeC_106 (by decide) rfl ?_ ?_
  · refine TC.iload dX6_takeC_115 7 rfl ?_
    refine TC.iconst (w := 1) dX6_takeC_117 (by decide) ?_
    refine TC.icmp_ne (pc1 := 125) dX6_takeC_118 (by decide) rfl ?_ ?_
    · refine TC.iload_n dX6_takeC_125 rfl 3 rfl ?_
      refine TC.sub [1, 2, 0, 4, 5, 6] rfl ?_
      exact k_Reader_takeC_126 Γ d _ v_takePrefix hv_takePrefix v_takeE hv_takeE r21 hr21 a_1 b_0 a_4 a_5 a_6 a_2 X
    · refine TC.iconst (w := 0) dX6_takeC_121 (by decide) ?_
      refine TC.goto (pc1 := 126) dX6_takeC_122 (by decide) ?_
      refine TC.sub [1, 2, 0, 4, 5, 6] rfl ?_
      exact k_Reader_takeC_126 Γ d _ v_takePrefix hv_takePrefix v_takeE hv_takeE r21 hr21 a_1 b_0 a_4 a_5 a_6 (0 : Int32) X
  · refine TC.iload_n dX6_takeC_109 rfl 3 rfl ?_
    refine TC.iconst (w := 1) dX6_takeC_110 (by decide) ?_
    refine TC.iadd dX6_takeC_111 (fun x17 => ?_)
    refine TC.goto (pc1 := 126) dX6_takeC_112 (by decide) ?_
    refine TC.sub [1, 2, 0, 4, 5, 6] rfl ?_
    exact k_Reader_takeC_126 Γ d _ v_takePrefix hv_takePrefix v_takeE hv_takeE r21 hr21 a_1 b_0 a_4 a_5 a_6 x17 X
noncomputable def g_Reader_takeC_87 (v_takePrefix : Int32 → Int32 → St → Option (Int32 × St)) (v_takeE : St → Option (Int32 × St)) (r21 : Int32 → Int32 → Int32 → Int32 → Int32 → Int32 → St → Option (Int32 × St)) (a_1 : Int32) (a_2 : Int32) (a_3 : Int32) (a_5 : Int32) (a_6 : Int32) (a_7 : Int32) (b_0 : Int32) (X : St) : Option (Int32 × St) :=
  if a_7.toInt = 3 then
    letV (a_3 + (1 : Int32)) fun x18 =>
    g_Reader_takeC_102 v_takePrefix v_takeE r21 a_1 a_2 b_0 a_5 a_6 a_7 x18 X
  else
    g_Reader_takeC_102 v_takePrefix v_takeE r21 a_1 a_2 b_0 a_5 a_6 a_7 (0 : Int32) X
set_option maxHeartbeats 4000000 in
set_option maxRecDepth 100000 in
theorem k_Reader_takeC_87 (Γ : GxC) (d : Nat) (As : List Value) (v_takePrefix : Int32 → Int32 → St → Option (Int32 × St)) (hv_takePrefix : ∀ (p1 : Int32) (p2 : Int32) (X : St), TCI YC Γ yX6_takePrefix cX6_takePrefix 5 "BlameCourt$Reade\x72" (some .int) { frames := (200 + 5 * d), cells := 0, slots := 0, locals := (7990 + 200 * d) } [.ref (Γ.2.2.2.1 46), .int p1, .int p2] X (v_takePrefix p1 p2 X)) (v_takeE : St → Option (Int32 × St)) (hv_takeE : ∀ (X : St), TCI YC Γ yX6_takeE cX6_takeE 1 "BlameCourt$Reade\x72" (some .int) { frames := (200 + 5 * d), cells := 0, slots := 0, locals := (7990 + 200 * d) } [.ref (Γ.2.2.2.1 46)] X (v_takeE X)) (r21 : Int32 → Int32 → Int32 → Int32 → Int32 → Int32 → St → Option (Int32 × St)) (hr21 : ∀ (a_1 : Int32) (a_2 : Int32) (a_3 : Int32) (a_4 : Int32) (a_5 : Int32) (a_6 : Int32) (X : St), TC YC Γ cX6_takeC 8 "BlameCourt$Reade\x72" (some .int) { frames := (204 + 5 * d), cells := 0, slots := 0, locals := (8150 + 200 * d) } As kI 21 [(0, .ref (Γ.2.2.2.1 46)), (1, .int a_1), (2, .int a_2), (3, .int a_3), (4, .int a_4), (5, .int a_5), (6, .int a_6)] [] X (r21 a_1 a_2 a_3 a_4 a_5 a_6 X)) (a_1 : Int32) (a_2 : Int32) (a_3 : Int32) (a_5 : Int32) (a_6 : Int32) (a_7 : Int32) (b_0 : Int32) (X : St) : TC YC Γ cX6_takeC 8 "BlameCourt$Reade\x72" (some .int) { frames := (204 + 5 * d), cells := 0, slots := 0, locals := (8150 + 200 * d) } As kI 87 [(0, .ref (Γ.2.2.2.1 46)), (1, .int a_1), (2, .int a_2), (3, .int a_3), (5, .int a_5), (6, .int a_6), (7, .int a_7)] [.int b_0] X (g_Reader_takeC_87 v_takePrefix v_takeE r21 a_1 a_2 a_3 a_5 a_6 a_7 b_0 X) := by
  unfold g_Reader_takeC_87
  refine TC.istore (lv1 := [(4, .int b_0), (0, .ref (Γ.2.2.2.1 46)), (1, .int a_1), (2, .int a_2), (3, .int a_3), (5, .int a_5), (6, .int a_6), (7, .int a_7)]) dX6_takeC_87 (by decide) rfl ?_
  refine TC.iload dX6_takeC_89 7 rfl ?_
  refine TC.iconst (w := 3) dX6_takeC_91 (by decide) ?_
  refine TC.icmp_ne (pc1 := 101) dX6_takeC_92 (by decide) rfl ?_ ?_
  · refine TC.iconst (w := 0) dX6_takeC_101 (by decide) ?_
    refine TC.sub [1, 2, 3, 0, 5, 6, 7] rfl ?_
    exact k_Reader_takeC_102 Γ d _ v_takePrefix hv_takePrefix v_takeE hv_takeE r21 hr21 a_1 a_2 b_0 a_5 a_6 a_7 (0 : Int32) X
  · refine TC.iload_n dX6_takeC_95 rfl 4 rfl ?_
    refine TC.iconst (w := 1) dX6_takeC_96 (by decide) ?_
    refine TC.iadd dX6_takeC_97 (fun x18 => ?_)
    refine TC.goto (pc1 := 102) dX6_takeC_98 (by decide) ?_
    refine TC.sub [1, 2, 3, 0, 5, 6, 7] rfl ?_
    exact k_Reader_takeC_102 Γ d _ v_takePrefix hv_takePrefix v_takeE hv_takeE r21 hr21 a_1 a_2 b_0 a_5 a_6 a_7 x18 X
noncomputable def g_Reader_takeC_82 (v_takePrefix : Int32 → Int32 → St → Option (Int32 × St)) (v_takeE : St → Option (Int32 × St)) (r21 : Int32 → Int32 → Int32 → Int32 → Int32 → Int32 → St → Option (Int32 × St)) (a_1 : Int32) (a_2 : Int32) (a_3 : Int32) (a_5 : Int32) (a_6 : Int32) (a_7 : Int32) (X : St) : Option (Int32 × St) :=
  g_Reader_takeC_87 v_takePrefix v_takeE r21 a_1 a_2 a_3 a_5 a_6 a_7 (1 : Int32) X
set_option maxHeartbeats 4000000 in
set_option maxRecDepth 100000 in
theorem k_Reader_takeC_82 (Γ : GxC) (d : Nat) (As : List Value) (v_takePrefix : Int32 → Int32 → St → Option (Int32 × St)) (hv_takePrefix : ∀ (p1 : Int32) (p2 : Int32) (X : St), TCI YC Γ yX6_takePrefix cX6_takePrefix 5 "BlameCourt$Reade\x72" (some .int) { frames := (200 + 5 * d), cells := 0, slots := 0, locals := (7990 + 200 * d) } [.ref (Γ.2.2.2.1 46), .int p1, .int p2] X (v_takePrefix p1 p2 X)) (v_takeE : St → Option (Int32 × St)) (hv_takeE : ∀ (X : St), TCI YC Γ yX6_takeE cX6_takeE 1 "BlameCourt$Reade\x72" (some .int) { frames := (200 + 5 * d), cells := 0, slots := 0, locals := (7990 + 200 * d) } [.ref (Γ.2.2.2.1 46)] X (v_takeE X)) (r21 : Int32 → Int32 → Int32 → Int32 → Int32 → Int32 → St → Option (Int32 × St)) (hr21 : ∀ (a_1 : Int32) (a_2 : Int32) (a_3 : Int32) (a_4 : Int32) (a_5 : Int32) (a_6 : Int32) (X : St), TC YC Γ cX6_takeC 8 "BlameCourt$Reade\x72" (some .int) { frames := (204 + 5 * d), cells := 0, slots := 0, locals := (8150 + 200 * d) } As kI 21 [(0, .ref (Γ.2.2.2.1 46)), (1, .int a_1), (2, .int a_2), (3, .int a_3), (4, .int a_4), (5, .int a_5), (6, .int a_6)] [] X (r21 a_1 a_2 a_3 a_4 a_5 a_6 X)) (a_1 : Int32) (a_2 : Int32) (a_3 : Int32) (a_5 : Int32) (a_6 : Int32) (a_7 : Int32) (X : St) : TC YC Γ cX6_takeC 8 "BlameCourt$Reade\x72" (some .int) { frames := (204 + 5 * d), cells := 0, slots := 0, locals := (8150 + 200 * d) } As kI 82 [(0, .ref (Γ.2.2.2.1 46)), (1, .int a_1), (2, .int a_2), (3, .int a_3), (5, .int a_5), (6, .int a_6), (7, .int a_7)] [] X (g_Reader_takeC_82 v_takePrefix v_takeE r21 a_1 a_2 a_3 a_5 a_6 a_7 X) := by
  unfold g_Reader_takeC_82
  refine TC.iconst (w := 1) dX6_takeC_82 (by decide) ?_
  refine TC.goto (pc1 := 87) dX6_takeC_83 (by decide) ?_
  exact k_Reader_takeC_87 Γ d _ v_takePrefix hv_takePrefix v_takeE hv_takeE r21 hr21 a_1 a_2 a_3 a_5 a_6 a_7 (1 : Int32) X
noncomputable def g_Reader_takeC_60 (v_takePrefix : Int32 → Int32 → St → Option (Int32 × St)) (v_takeE : St → Option (Int32 × St)) (r21 : Int32 → Int32 → Int32 → Int32 → Int32 → Int32 → St → Option (Int32 × St)) (a_1 : Int32) (a_2 : Int32) (a_3 : Int32) (a_4 : Int32) (a_5 : Int32) (a_6 : Int32) (a_7 : Int32) (X : St) : Option (Int32 × St) :=
  bnd (g_Reader_applyWaiting a_1 a_7 a_5 X) fun x9 X10 =>
  if a_4.toInt = 0 then
    if a_7.toInt = 1 then
      g_Reader_takeC_82 v_takePrefix v_takeE r21 a_1 a_2 a_3 x9 a_6 a_7 X10
    else
      g_Reader_takeC_87 v_takePrefix v_takeE r21 a_1 a_2 a_3 x9 a_6 a_7 (0 : Int32) X10
  else
    g_Reader_takeC_82 v_takePrefix v_takeE r21 a_1 a_2 a_3 x9 a_6 a_7 X10
set_option maxHeartbeats 4000000 in
set_option maxRecDepth 100000 in
theorem k_Reader_takeC_60 (Γ : GxC) (d : Nat) (As : List Value) (v_takePrefix : Int32 → Int32 → St → Option (Int32 × St)) (hv_takePrefix : ∀ (p1 : Int32) (p2 : Int32) (X : St), TCI YC Γ yX6_takePrefix cX6_takePrefix 5 "BlameCourt$Reade\x72" (some .int) { frames := (200 + 5 * d), cells := 0, slots := 0, locals := (7990 + 200 * d) } [.ref (Γ.2.2.2.1 46), .int p1, .int p2] X (v_takePrefix p1 p2 X)) (v_takeE : St → Option (Int32 × St)) (hv_takeE : ∀ (X : St), TCI YC Γ yX6_takeE cX6_takeE 1 "BlameCourt$Reade\x72" (some .int) { frames := (200 + 5 * d), cells := 0, slots := 0, locals := (7990 + 200 * d) } [.ref (Γ.2.2.2.1 46)] X (v_takeE X)) (r21 : Int32 → Int32 → Int32 → Int32 → Int32 → Int32 → St → Option (Int32 × St)) (hr21 : ∀ (a_1 : Int32) (a_2 : Int32) (a_3 : Int32) (a_4 : Int32) (a_5 : Int32) (a_6 : Int32) (X : St), TC YC Γ cX6_takeC 8 "BlameCourt$Reade\x72" (some .int) { frames := (204 + 5 * d), cells := 0, slots := 0, locals := (8150 + 200 * d) } As kI 21 [(0, .ref (Γ.2.2.2.1 46)), (1, .int a_1), (2, .int a_2), (3, .int a_3), (4, .int a_4), (5, .int a_5), (6, .int a_6)] [] X (r21 a_1 a_2 a_3 a_4 a_5 a_6 X)) (a_1 : Int32) (a_2 : Int32) (a_3 : Int32) (a_4 : Int32) (a_5 : Int32) (a_6 : Int32) (a_7 : Int32) (X : St) : TC YC Γ cX6_takeC 8 "BlameCourt$Reade\x72" (some .int) { frames := (204 + 5 * d), cells := 0, slots := 0, locals := (8150 + 200 * d) } As kI 60 [(0, .ref (Γ.2.2.2.1 46)), (1, .int a_1), (2, .int a_2), (3, .int a_3), (4, .int a_4), (5, .int a_5), (6, .int a_6), (7, .int a_7)] [] X (g_Reader_takeC_60 v_takePrefix v_takeE r21 a_1 a_2 a_3 a_4 a_5 a_6 a_7 X) := by
  unfold g_Reader_takeC_60
  refine TC.aload_n dX6_takeC_60 rfl 0 rfl ?_
  refine TC.iload_n dX6_takeC_61 rfl 1 rfl ?_
  refine TC.iload dX6_takeC_62 7 rfl ?_
  refine TC.iload dX6_takeC_64 5 rfl ?_
  refine TC.callV_i 46 (As1 := [.int a_1, .int a_7, .int a_5]) (rest := []) (k_Reader_applyWaiting Γ a_1 a_7 a_5 X) ka_X6_applyWaiting kv_X6_applyWaiting oC_46 rfl k947 rfl rfl rfl rfl (show 3 + 1 ≤ (204 + 5 * d) ∧ 8 + (6 + 11) + 110 ≤ (8150 + 200 * d) from ⟨by omega, by omega⟩) (Nat.le_of_ble_eq_true rfl) dX6_takeC_66 (fun x9 X10 => ?_)
  refine TC.istore (lv1 := [(5, .int x9), (0, .ref (Γ.2.2.2.1 46)), (1, .int a_1), (2, .int a_2), (3, .int a_3), (4, .int a_4), (6, .int a_6), (7, .int a_7)]) dX6_takeC_69 (by decide) rfl ?_
  refine TC.iload dX6_takeC_71 5 rfl ?_
  refine TC.if_ne (pc1 := 82) dX6_takeC_73 (by decide) ?_ ?_
  · refine TC.sub [1, 2, 3, 4, 0, 6, 7] rfl ?_
    exact k_Reader_takeC_82 Γ d _ v_takePrefix hv_takePrefix v_takeE hv_takeE r21 hr21 a_1 a_2 a_3 x9 a_6 a_7 X10
  · refine TC.iload dX6_takeC_76 7 rfl ?_
    refine TC.iconst (w := 1) dX6_takeC_78 (by decide) ?_
    refine TC.icmp_ne (pc1 := 86) dX6_takeC_79 (by decide) rfl ?_ ?_
    · refine TC.iconst (w := 0) dX6_takeC_86 (by decide) ?_
      refine TC.sub [1, 2, 3, 4, 0, 6, 7] rfl ?_
      exact k_Reader_takeC_87 Γ d _ v_takePrefix hv_takePrefix v_takeE hv_takeE r21 hr21 a_1 a_2 a_3 x9 a_6 a_7 (0 : Int32) X10
    · refine TC.sub [1, 2, 3, 4, 0, 6, 7] rfl ?_
      exact k_Reader_takeC_82 Γ d _ v_takePrefix hv_takePrefix v_takeE hv_takeE r21 hr21 a_1 a_2 a_3 x9 a_6 a_7 X10
noncomputable def g_Reader_takeC_21_s (v_takePrefix : Int32 → Int32 → St → Option (Int32 × St)) (v_takeE : St → Option (Int32 × St)) (r21 : Int32 → Int32 → Int32 → Int32 → Int32 → Int32 → St → Option (Int32 × St)) (a_1 : Int32) (a_2 : Int32) (a_3 : Int32) (a_4 : Int32) (a_5 : Int32) (a_6 : Int32) (X : St) : Option (Int32 × St) :=
  if 3000 ≤ a_6.toInt then
    g_Reader_takeC_169 v_takePrefix v_takeE a_1 a_5 X
  else
    letV (X.1 47 3) fun x6 =>
    bnd (g_Reader_levelOf x6 X) fun x7 X8 =>
    if x7.toInt = 0 then
      g_Reader_takeC_169 v_takePrefix v_takeE a_1 a_5 X8
    else
      if x7.toInt = 1 then
        if a_4.toInt = 0 then
          g_Reader_takeC_60 v_takePrefix v_takeE r21 a_1 a_2 a_3 a_4 a_5 a_6 x7 X8
        else
          g_Reader_takeC_169 v_takePrefix v_takeE a_1 a_5 X8
      else
        g_Reader_takeC_60 v_takePrefix v_takeE r21 a_1 a_2 a_3 a_4 a_5 a_6 x7 X8
noncomputable def g_Reader_takeC_21 (v_takePrefix : Int32 → Int32 → St → Option (Int32 × St)) (v_takeE : St → Option (Int32 × St)) (n : Nat) : Int32 → Int32 → Int32 → Int32 → Int32 → Int32 → St → Option (Int32 × St) := lp (fun _ _ _ _ _ _ _ => none) (g_Reader_takeC_21_s v_takePrefix v_takeE) n
set_option maxHeartbeats 4000000 in
set_option maxRecDepth 100000 in
theorem k_Reader_takeC_21 (Γ : GxC) (d : Nat) (As : List Value) (v_takePrefix : Int32 → Int32 → St → Option (Int32 × St)) (hv_takePrefix : ∀ (p1 : Int32) (p2 : Int32) (X : St), TCI YC Γ yX6_takePrefix cX6_takePrefix 5 "BlameCourt$Reade\x72" (some .int) { frames := (200 + 5 * d), cells := 0, slots := 0, locals := (7990 + 200 * d) } [.ref (Γ.2.2.2.1 46), .int p1, .int p2] X (v_takePrefix p1 p2 X)) (v_takeE : St → Option (Int32 × St)) (hv_takeE : ∀ (X : St), TCI YC Γ yX6_takeE cX6_takeE 1 "BlameCourt$Reade\x72" (some .int) { frames := (200 + 5 * d), cells := 0, slots := 0, locals := (7990 + 200 * d) } [.ref (Γ.2.2.2.1 46)] X (v_takeE X)) (n : Nat) : ∀ (a_1 : Int32) (a_2 : Int32) (a_3 : Int32) (a_4 : Int32) (a_5 : Int32) (a_6 : Int32) (X : St), TC YC Γ cX6_takeC 8 "BlameCourt$Reade\x72" (some .int) { frames := (204 + 5 * d), cells := 0, slots := 0, locals := (8150 + 200 * d) } As kI 21 [(0, .ref (Γ.2.2.2.1 46)), (1, .int a_1), (2, .int a_2), (3, .int a_3), (4, .int a_4), (5, .int a_5), (6, .int a_6)] [] X (g_Reader_takeC_21 v_takePrefix v_takeE n a_1 a_2 a_3 a_4 a_5 a_6 X) := by
  unfold g_Reader_takeC_21
  refine lp_ind (P := fun (r21 : Int32 → Int32 → Int32 → Int32 → Int32 → Int32 → St → Option (Int32 × St)) => ∀ (a_1 : Int32) (a_2 : Int32) (a_3 : Int32) (a_4 : Int32) (a_5 : Int32) (a_6 : Int32) (X : St), TC YC Γ cX6_takeC 8 "BlameCourt$Reade\x72" (some .int) { frames := (204 + 5 * d), cells := 0, slots := 0, locals := (8150 + 200 * d) } As kI 21 [(0, .ref (Γ.2.2.2.1 46)), (1, .int a_1), (2, .int a_2), (3, .int a_3), (4, .int a_4), (5, .int a_5), (6, .int a_6)] [] X (r21 a_1 a_2 a_3 a_4 a_5 a_6 X)) (fun _ _ _ _ _ _ _ => TC.no) ?_ n
  intro r21 hr21 a_1 a_2 a_3 a_4 a_5 a_6 X
  unfold g_Reader_takeC_21_s
  refine TC.iload dX6_takeC_21 6 rfl ?_
  refine TC.sipush (w := 3000) dX6_takeC_23 (by decide) ?_
  refine TC.icmp_ge (pc1 := 169) dX6_takeC_26 (by decide) rfl ?_ ?_
  · refine TC.sub [0, 1, 5] rfl ?_
    exact k_Reader_takeC_169 Γ d _ v_takePrefix hv_takePrefix v_takeE hv_takeE a_1 a_5 X
  · refine TC.aload_n dX6_takeC_29 rfl 0 rfl ?_
    refine cC5_0 k416 dX6_takeC_30 ?_
    refine gC7_3 k390 dX6_takeC_33 (fun x6 => ?_)
    refine TC.callS_i (As1 := [.int x6]) (rest := []) (k_Reader_levelOf Γ x6 X) ka_X6_levelOf k945 k944 rfl rfl rfl rfl (show 2 + 1 ≤ (204 + 5 * d) ∧ 8 + (1 + 11) + 70 ≤ (8150 + 200 * d) from ⟨by omega, by omega⟩) (Nat.le_of_ble_eq_true rfl) dX6_takeC_36 (fun x7 X8 => ?_)
    refine TC.istore (lv1 := [(7, .int x7), (0, .ref (Γ.2.2.2.1 46)), (1, .int a_1), (2, .int a_2), (3, .int a_3), (4, .int a_4), (5, .int a_5), (6, .int a_6)]) dX6_takeC_39 (by decide) rfl ?_
    refine TC.iload dX6_takeC_41 0 rfl ?_
    refine TC.if_eq (pc1 := 169) dX6_takeC_43 (by decide) ?_ ?_
    · refine TC.sub [1, 2, 6] rfl ?_
      exact k_Reader_takeC_169 Γ d _ v_takePrefix hv_takePrefix v_takeE hv_takeE a_1 a_5 X8
    · refine TC.iload dX6_takeC_46 0 rfl ?_
      refine TC.iconst (w := 1) dX6_takeC_48 (by decide) ?_
      refine TC.icmp_ne (pc1 := 60) dX6_takeC_49 (by decide) rfl ?_ ?_
      · refine TC.sub [1, 2, 3, 4, 5, 6, 7, 0] rfl ?_
        exact k_Reader_takeC_60 Γ d _ v_takePrefix hv_takePrefix v_takeE hv_takeE r21 hr21 a_1 a_2 a_3 a_4 a_5 a_6 x7 X8
      · refine TC.iload dX6_takeC_52 5 rfl ?_
        refine TC.if_eq (pc1 := 60) dX6_takeC_54 (by decide) ?_ ?_
        · refine TC.sub [1, 2, 3, 4, 5, 6, 7, 0] rfl ?_
          exact k_Reader_takeC_60 Γ d _ v_takePrefix hv_takePrefix v_takeE hv_takeE r21 hr21 a_1 a_2 a_3 a_4 a_5 a_6 x7 X8
        · refine TC.goto (pc1 := 169) dX6_takeC_57 (by decide) ?_
          refine TC.sub [1, 2, 6] rfl ?_
          exact k_Reader_takeC_169 Γ d _ v_takePrefix hv_takePrefix v_takeE hv_takeE a_1 a_5 X8
noncomputable def g_Reader_takeC (v_takePrefix : Int32 → Int32 → St → Option (Int32 × St)) (v_takeE : St → Option (Int32 × St)) (X : St) : Option (Int32 × St) :=
  letV (X.1 46 5) fun x1 =>
  bnd (g_Reader_takeU v_takePrefix v_takeE X) fun x2 X3 =>
  g_Reader_takeC_21 v_takePrefix v_takeE BIG x1 (0 : Int32) (0 : Int32) (0 : Int32) x2 (0 : Int32) X3
set_option maxHeartbeats 4000000 in
set_option maxRecDepth 100000 in
theorem k_Reader_takeC (Γ : GxC) (d : Nat) (v_takePrefix : Int32 → Int32 → St → Option (Int32 × St)) (hv_takePrefix : ∀ (p1 : Int32) (p2 : Int32) (X : St), TCI YC Γ yX6_takePrefix cX6_takePrefix 5 "BlameCourt$Reade\x72" (some .int) { frames := (200 + 5 * d), cells := 0, slots := 0, locals := (7990 + 200 * d) } [.ref (Γ.2.2.2.1 46), .int p1, .int p2] X (v_takePrefix p1 p2 X)) (v_takeE : St → Option (Int32 × St)) (hv_takeE : ∀ (X : St), TCI YC Γ yX6_takeE cX6_takeE 1 "BlameCourt$Reade\x72" (some .int) { frames := (200 + 5 * d), cells := 0, slots := 0, locals := (7990 + 200 * d) } [.ref (Γ.2.2.2.1 46)] X (v_takeE X)) (X : St) : TCI YC Γ yX6_takeC cX6_takeC 8 "BlameCourt$Reade\x72" (some .int) { frames := (204 + 5 * d), cells := 0, slots := 0, locals := (8150 + 200 * d) } [.ref (Γ.2.2.2.1 46)] X (g_Reader_takeC v_takePrefix v_takeE X) := by
  refine TCI.of (by decide) (Nat.le_of_ble_eq_true rfl) rfl ?_
  show TC YC Γ cX6_takeC 8 "BlameCourt$Reade\x72" (some .int) { frames := (204 + 5 * d), cells := 0, slots := 0, locals := (8150 + 200 * d) } _ kI 0 [(0, .ref (Γ.2.2.2.1 46))] [] X (g_Reader_takeC v_takePrefix v_takeE X)
  unfold g_Reader_takeC
  refine TC.aload_n dX6_takeC_0 rfl 0 rfl ?_
  refine gC5_5 k429 dX6_takeC_1 (fun x1 => ?_)
  refine TC.istore_n (lv1 := [(1, .int x1), (0, .ref (Γ.2.2.2.1 46))]) dX6_takeC_4 rfl (by decide) rfl ?_
  refine TC.iconst (w := 0) dX6_takeC_5 (by decide) ?_
  refine TC.istore_n (lv1 := [(2, .int 0), (1, .int x1), (0, .ref (Γ.2.2.2.1 46))]) dX6_takeC_6 rfl (by decide) rfl ?_
  refine TC.iconst (w := 0) dX6_takeC_7 (by decide) ?_
  refine TC.istore_n (lv1 := [(3, .int 0), (2, .int 0), (1, .int x1), (0, .ref (Γ.2.2.2.1 46))]) dX6_takeC_8 rfl (by decide) rfl ?_
  refine TC.iconst (w := 0) dX6_takeC_9 (by decide) ?_
  refine TC.istore (lv1 := [(4, .int 0), (3, .int 0), (2, .int 0), (1, .int x1), (0, .ref (Γ.2.2.2.1 46))]) dX6_takeC_10 (by decide) rfl ?_
  refine TC.aload_n dX6_takeC_12 rfl 4 rfl ?_
  refine TC.callV_i 46 (As1 := []) (rest := []) (k_Reader_takeU Γ d v_takePrefix hv_takePrefix v_takeE hv_takeE X) ka_X6_takeU kv_X6_takeU oC_46 rfl k891 rfl rfl rfl rfl (show (203 + 5 * d) + 1 ≤ (204 + 5 * d) ∧ 8 + (5 + 11) + (8110 + 200 * d) ≤ (8150 + 200 * d) from ⟨by omega, by omega⟩) (Nat.le_of_ble_eq_true rfl) dX6_takeC_13 (fun x2 X3 => ?_)
  refine TC.istore (lv1 := [(5, .int x2), (4, .int 0), (3, .int 0), (2, .int 0), (1, .int x1), (0, .ref (Γ.2.2.2.1 46))]) dX6_takeC_16 (by decide) rfl ?_
  refine TC.iconst (w := 0) dX6_takeC_18 (by decide) ?_
  refine TC.istore (lv1 := [(6, .int 0), (5, .int x2), (4, .int 0), (3, .int 0), (2, .int 0), (1, .int x1), (0, .ref (Γ.2.2.2.1 46))]) dX6_takeC_19 (by decide) rfl ?_
  refine TC.sub [6, 5, 4, 3, 2, 1, 0] rfl ?_
  exact k_Reader_takeC_21 Γ d _ v_takePrefix hv_takePrefix v_takeE hv_takeE BIG x1 (0 : Int32) (0 : Int32) (0 : Int32) x2 (0 : Int32) X3
noncomputable def g_Reader_takeIf (v_takePrefix : Int32 → Int32 → St → Option (Int32 × St)) (v_takeE : St → Option (Int32 × St)) (X : St) : Option (Int32 × St) :=
  bnd (g_Reader_emitStep X) fun x1 X2 =>
  bnd (g_Reader_enter (264 : Int32) X2) fun _ X3 =>
  bnd (v_takeE X3) fun x4 X5 =>
  chk (refO YC (X5.2.2 46 1) 4 17 = true) (letV (X5.2.2 46 1 - 1) fun e6 =>
  bnd (g_Reader_placeOf x4 X5) fun x7 X8 =>
  bnd (g_Program_emit e6 (28 : Int32) (0 : Int32) x7 X8) fun x9 X10 =>
  chk (refO YC (X10.2.2 46 1) 4 17 = true) (letV (X10.2.2 46 1 - 1) fun e11 =>
  bnd (g_Reader_placeOf x4 X10) fun x12 X13 =>
  bnd (g_Program_emit e11 (6 : Int32) (0 : Int32) x12 X13) fun x14 X15 =>
  bnd (g_Reader_want (265 : Int32) X15) fun _ X16 =>
  bnd (v_takeE X16) fun x17 X18 =>
  chk (refO YC (X18.2.2 46 1) 4 17 = true) (letV (X18.2.2 46 1 - 1) fun e19 =>
  bnd (g_Reader_placeOf x17 X18) fun x20 X21 =>
  bnd (g_Program_emit e19 (36 : Int32) (0 : Int32) x20 X21) fun x22 X23 =>
  chk (refO YC (X23.2.2 46 1) 4 17 = true) (letV (X23.2.2 46 1 - 1) fun e24 =>
  bnd (g_Reader_placeOf x17 X23) fun x25 X26 =>
  bnd (g_Program_emit e24 (7 : Int32) (0 : Int32) x25 X26) fun x27 X28 =>
  bnd (g_Reader_want (266 : Int32) X28) fun _ X29 =>
  chk (refO YC (X29.2.2 46 1) 4 17 = true) (letV (X29.2.2 46 1 - 1) fun e30 =>
  letV (kY YC e30 14 - 3) fun e31 =>
  chk (refO YC (X29.2.2 46 1) 4 17 = true) (letV (X29.2.2 46 1 - 1) fun e32 =>
  letV (X29.1 e32 6) fun x33 =>
  chk (inR x14 9080) (letV (wI X29 e31 (ix x14) x33) fun X34 =>
  bnd (v_takeE X34) fun x35 X36 =>
  chk (refO YC (X36.2.2 46 1) 4 17 = true) (letV (X36.2.2 46 1 - 1) fun e37 =>
  bnd (g_Reader_placeOf x35 X36) fun x38 X39 =>
  bnd (g_Program_emit e37 (36 : Int32) (0 : Int32) x38 X39) fun x40 X41 =>
  chk (refO YC (X41.2.2 46 1) 4 17 = true) (letV (X41.2.2 46 1 - 1) fun e42 =>
  letV (kY YC e42 14 - 3) fun e43 =>
  chk (refO YC (X41.2.2 46 1) 4 17 = true) (letV (X41.2.2 46 1 - 1) fun e44 =>
  bnd (g_Reader_placeOf x1 X41) fun x45 X46 =>
  bnd (g_Program_emit e44 (8 : Int32) (0 : Int32) x45 X46) fun x47 X48 =>
  chk (inR x27 9080) (letV (wI X48 e43 (ix x27) x47) fun X49 =>
  letV (X49.1 46 2) fun x50 =>
  letV (x50 - (1 : Int32)) fun x51 =>
  letV (wI X49 46 2 x51) fun X52 =>
  some (x1, X52))))))))))))
set_option maxHeartbeats 4000000 in
set_option maxRecDepth 100000 in
theorem k_Reader_takeIf (Γ : GxC) (d : Nat) (v_takePrefix : Int32 → Int32 → St → Option (Int32 × St)) (hv_takePrefix : ∀ (p1 : Int32) (p2 : Int32) (X : St), TCI YC Γ yX6_takePrefix cX6_takePrefix 5 "BlameCourt$Reade\x72" (some .int) { frames := (200 + 5 * d), cells := 0, slots := 0, locals := (7990 + 200 * d) } [.ref (Γ.2.2.2.1 46), .int p1, .int p2] X (v_takePrefix p1 p2 X)) (v_takeE : St → Option (Int32 × St)) (hv_takeE : ∀ (X : St), TCI YC Γ yX6_takeE cX6_takeE 1 "BlameCourt$Reade\x72" (some .int) { frames := (200 + 5 * d), cells := 0, slots := 0, locals := (7990 + 200 * d) } [.ref (Γ.2.2.2.1 46)] X (v_takeE X)) (X : St) : TCI YC Γ yX6_takeIf cX6_takeIf 7 "BlameCourt$Reade\x72" (some .int) { frames := (201 + 5 * d), cells := 0, slots := 0, locals := (8030 + 200 * d) } [.ref (Γ.2.2.2.1 46)] X (g_Reader_takeIf v_takePrefix v_takeE X) := by
  refine TCI.of (by decide) (Nat.le_of_ble_eq_true rfl) rfl ?_
  show TC YC Γ cX6_takeIf 7 "BlameCourt$Reade\x72" (some .int) { frames := (201 + 5 * d), cells := 0, slots := 0, locals := (8030 + 200 * d) } _ kI 0 [(0, .ref (Γ.2.2.2.1 46))] [] X (g_Reader_takeIf v_takePrefix v_takeE X)
  unfold g_Reader_takeIf
  refine TC.aload_n dX6_takeIf_0 rfl 0 rfl ?_
  refine TC.callV_i 46 (As1 := []) (rest := []) (k_Reader_emitStep Γ X) ka_X6_emitStep kv_X6_emitStep oC_46 rfl k871 rfl rfl rfl rfl (show 3 + 1 ≤ (201 + 5 * d) ∧ 8 + (1 + 11) + 110 ≤ (8030 + 200 * d) from ⟨by omega, by omega⟩) (Nat.le_of_ble_eq_true rfl) dX6_takeIf_1 (fun x1 X2 => ?_)
  refine TC.istore_n (lv1 := [(1, .int x1), (0, .ref (Γ.2.2.2.1 46))]) dX6_takeIf_4 rfl (by decide) rfl ?_
  refine TC.aload_n dX6_takeIf_5 rfl 1 rfl ?_
  refine TC.sipush (w := 264) dX6_takeIf_6 (by decide) ?_
  refine TC.callV_v 46 (As1 := [.int 264]) (rest := []) (k_Reader_enter Γ (264 : Int32) X2) ka_X6_enter kv_X6_enter oC_46 rfl k825 rfl rfl rfl rfl (show 5 + 1 ≤ (201 + 5 * d) ∧ 8 + (2 + 11) + 190 ≤ (8030 + 200 * d) from ⟨by omega, by omega⟩) (Nat.le_of_ble_eq_true rfl) dX6_takeIf_9 (fun _ X3 => ?_)
  refine TC.aload_n dX6_takeIf_12 rfl 1 rfl ?_
  refine TC.callV_i 46 (As1 := []) (rest := []) (hv_takeE X3) ka_X6_takeE kv_X6_takeE oC_46 rfl k863 rfl rfl rfl rfl (show (200 + 5 * d) + 1 ≤ (201 + 5 * d) ∧ 8 + (1 + 11) + (7990 + 200 * d) ≤ (8030 + 200 * d) from ⟨by omega, by omega⟩) (Nat.le_of_ble_eq_true rfl) dX6_takeIf_13 (fun x4 X5 => ?_)
  refine TC.istore_n (lv1 := [(2, .int x4), (1, .int x1), (0, .ref (Γ.2.2.2.1 46))]) dX6_takeIf_16 rfl (by decide) rfl ?_
  refine TC.aload_n dX6_takeIf_17 rfl 2 rfl ?_
  refine mC5_1 k417 dX6_takeIf_18 (fun e6 he6 => ?_)
  refine TC.bipush (w := 28) dX6_takeIf_21 (by decide) ?_
  refine TC.iconst (w := 0) dX6_takeIf_23 (by decide) ?_
  refine TC.aload_n dX6_takeIf_24 rfl 2 rfl ?_
  refine TC.iload_n dX6_takeIf_25 rfl 0 rfl ?_
  refine TC.callV_i 46 (As1 := [.int x4]) (rest := [.int 0, .int 28, .ref (Γ.2.2.2.1 e6)]) (k_Reader_placeOf Γ x4 X5) ka_X6_placeOf kv_X6_placeOf oC_46 rfl k879 rfl rfl rfl rfl (show 2 + 1 ≤ (201 + 5 * d) ∧ 8 + (2 + 11) + 70 ≤ (8030 + 200 * d) from ⟨by omega, by omega⟩) (Nat.le_of_ble_eq_true rfl) dX6_takeIf_26 (fun x7 X8 => ?_)
  refine TC.callV_i e6 (As1 := [.int 28, .int 0, .int x7]) (rest := []) (k_Program_emit Γ e6 he6 (28 : Int32) (0 : Int32) x7 X8) ka_X5_emit kv_X5_emit he6 rfl k875 rfl rfl rfl rfl (show 2 + 1 ≤ (201 + 5 * d) ∧ 8 + (4 + 11) + 70 ≤ (8030 + 200 * d) from ⟨by omega, by omega⟩) (Nat.le_of_ble_eq_true rfl) dX6_takeIf_29 (fun x9 X10 => ?_)
  refine TC.pop dX6_takeIf_32 ?_
  refine TC.aload_n dX6_takeIf_33 rfl 2 rfl ?_
  refine mC5_1 k417 dX6_takeIf_34 (fun e11 he11 => ?_)
  refine TC.bipush (w := 6) dX6_takeIf_37 (by decide) ?_
  refine TC.iconst (w := 0) dX6_takeIf_39 (by decide) ?_
  refine TC.aload_n dX6_takeIf_40 rfl 2 rfl ?_
  refine TC.iload_n dX6_takeIf_41 rfl 0 rfl ?_
  refine TC.callV_i 46 (As1 := [.int x4]) (rest := [.int 0, .int 6, .ref (Γ.2.2.2.1 e11)]) (k_Reader_placeOf Γ x4 X10) ka_X6_placeOf kv_X6_placeOf oC_46 rfl k879 rfl rfl rfl rfl (show 2 + 1 ≤ (201 + 5 * d) ∧ 8 + (2 + 11) + 70 ≤ (8030 + 200 * d) from ⟨by omega, by omega⟩) (Nat.le_of_ble_eq_true rfl) dX6_takeIf_42 (fun x12 X13 => ?_)
  refine TC.callV_i e11 (As1 := [.int 6, .int 0, .int x12]) (rest := []) (k_Program_emit Γ e11 he11 (6 : Int32) (0 : Int32) x12 X13) ka_X5_emit kv_X5_emit he11 rfl k875 rfl rfl rfl rfl (show 2 + 1 ≤ (201 + 5 * d) ∧ 8 + (4 + 11) + 70 ≤ (8030 + 200 * d) from ⟨by omega, by omega⟩) (Nat.le_of_ble_eq_true rfl) dX6_takeIf_45 (fun x14 X15 => ?_)
  refine TC.istore_n (lv1 := [(3, .int x14), (2, .int x4), (1, .int x1), (0, .ref (Γ.2.2.2.1 46))]) dX6_takeIf_48 rfl (by decide) rfl ?_
  refine TC.aload_n dX6_takeIf_49 rfl 3 rfl ?_
  refine TC.sipush (w := 265) dX6_takeIf_50 (by decide) ?_
  refine TC.callV_v 46 (As1 := [.int 265]) (rest := []) (k_Reader_want Γ (265 : Int32) X15) ka_X6_want kv_X6_want oC_46 rfl k817 rfl rfl rfl rfl (show 5 + 1 ≤ (201 + 5 * d) ∧ 8 + (2 + 11) + 190 ≤ (8030 + 200 * d) from ⟨by omega, by omega⟩) (Nat.le_of_ble_eq_true rfl) dX6_takeIf_53 (fun _ X16 => ?_)
  refine TC.aload_n dX6_takeIf_56 rfl 3 rfl ?_
  refine TC.callV_i 46 (As1 := []) (rest := []) (hv_takeE X16) ka_X6_takeE kv_X6_takeE oC_46 rfl k863 rfl rfl rfl rfl (show (200 + 5 * d) + 1 ≤ (201 + 5 * d) ∧ 8 + (1 + 11) + (7990 + 200 * d) ≤ (8030 + 200 * d) from ⟨by omega, by omega⟩) (Nat.le_of_ble_eq_true rfl) dX6_takeIf_57 (fun x17 X18 => ?_)
  refine TC.istore (lv1 := [(4, .int x17), (3, .int x14), (2, .int x4), (1, .int x1), (0, .ref (Γ.2.2.2.1 46))]) dX6_takeIf_60 (by decide) rfl ?_
  refine TC.aload_n dX6_takeIf_62 rfl 4 rfl ?_
  refine mC5_1 k417 dX6_takeIf_63 (fun e19 he19 => ?_)
  refine TC.bipush (w := 36) dX6_takeIf_66 (by decide) ?_
  refine TC.iconst (w := 0) dX6_takeIf_68 (by decide) ?_
  refine TC.aload_n dX6_takeIf_69 rfl 4 rfl ?_
  refine TC.iload dX6_takeIf_70 0 rfl ?_
  refine TC.callV_i 46 (As1 := [.int x17]) (rest := [.int 0, .int 36, .ref (Γ.2.2.2.1 e19)]) (k_Reader_placeOf Γ x17 X18) ka_X6_placeOf kv_X6_placeOf oC_46 rfl k879 rfl rfl rfl rfl (show 2 + 1 ≤ (201 + 5 * d) ∧ 8 + (2 + 11) + 70 ≤ (8030 + 200 * d) from ⟨by omega, by omega⟩) (Nat.le_of_ble_eq_true rfl) dX6_takeIf_72 (fun x20 X21 => ?_)
  refine TC.callV_i e19 (As1 := [.int 36, .int 0, .int x20]) (rest := []) (k_Program_emit Γ e19 he19 (36 : Int32) (0 : Int32) x20 X21) ka_X5_emit kv_X5_emit he19 rfl k875 rfl rfl rfl rfl (show 2 + 1 ≤ (201 + 5 * d) ∧ 8 + (4 + 11) + 70 ≤ (8030 + 200 * d) from ⟨by omega, by omega⟩) (Nat.le_of_ble_eq_true rfl) dX6_takeIf_75 (fun x22 X23 => ?_)
  refine TC.pop dX6_takeIf_78 ?_
  refine TC.aload_n dX6_takeIf_79 rfl 4 rfl ?_
  refine mC5_1 k417 dX6_takeIf_80 (fun e24 he24 => ?_)
  refine TC.bipush (w := 7) dX6_takeIf_83 (by decide) ?_
  refine TC.iconst (w := 0) dX6_takeIf_85 (by decide) ?_
  refine TC.aload_n dX6_takeIf_86 rfl 4 rfl ?_
  refine TC.iload dX6_takeIf_87 0 rfl ?_
  refine TC.callV_i 46 (As1 := [.int x17]) (rest := [.int 0, .int 7, .ref (Γ.2.2.2.1 e24)]) (k_Reader_placeOf Γ x17 X23) ka_X6_placeOf kv_X6_placeOf oC_46 rfl k879 rfl rfl rfl rfl (show 2 + 1 ≤ (201 + 5 * d) ∧ 8 + (2 + 11) + 70 ≤ (8030 + 200 * d) from ⟨by omega, by omega⟩) (Nat.le_of_ble_eq_true rfl) dX6_takeIf_89 (fun x25 X26 => ?_)
  refine TC.callV_i e24 (As1 := [.int 7, .int 0, .int x25]) (rest := []) (k_Program_emit Γ e24 he24 (7 : Int32) (0 : Int32) x25 X26) ka_X5_emit kv_X5_emit he24 rfl k875 rfl rfl rfl rfl (show 2 + 1 ≤ (201 + 5 * d) ∧ 8 + (4 + 11) + 70 ≤ (8030 + 200 * d) from ⟨by omega, by omega⟩) (Nat.le_of_ble_eq_true rfl) dX6_takeIf_92 (fun x27 X28 => ?_)
  refine TC.istore (lv1 := [(5, .int x27), (4, .int x17), (3, .int x14), (2, .int x4), (1, .int x1), (0, .ref (Γ.2.2.2.1 46))]) dX6_takeIf_95 (by decide) rfl ?_
  refine TC.aload_n dX6_takeIf_97 rfl 5 rfl ?_
  refine TC.sipush (w := 266) dX6_takeIf_98 (by decide) ?_
  refine TC.callV_v 46 (As1 := [.int 266]) (rest := []) (k_Reader_want Γ (266 : Int32) X28) ka_X6_want kv_X6_want oC_46 rfl k817 rfl rfl rfl rfl (show 5 + 1 ≤ (201 + 5 * d) ∧ 8 + (2 + 11) + 190 ≤ (8030 + 200 * d) from ⟨by omega, by omega⟩) (Nat.le_of_ble_eq_true rfl) dX6_takeIf_101 (fun _ X29 => ?_)
  refine TC.aload_n dX6_takeIf_104 rfl 5 rfl ?_
  refine mC5_1 k417 dX6_takeIf_105 (fun e30 he30 => ?_)
  refine vC4_14 e30 he30 k327 dX6_takeIf_108 (fun e31 he31 => ?_)
  refine TC.iload_n dX6_takeIf_111 rfl 2 rfl ?_
  refine TC.aload_n dX6_takeIf_112 rfl 5 rfl ?_
  refine mC5_1 k417 dX6_takeIf_113 (fun e32 he32 => ?_)
  refine gC4_6 e32 he32 k337 dX6_takeIf_116 (fun x33 => ?_)
  refine TC.iast e31 he31 dX6_takeIf_119 (fun X34 => ?_)
  refine TC.aload_n dX6_takeIf_120 rfl 5 rfl ?_
  refine TC.callV_i 46 (As1 := []) (rest := []) (hv_takeE X34) ka_X6_takeE kv_X6_takeE oC_46 rfl k863 rfl rfl rfl rfl (show (200 + 5 * d) + 1 ≤ (201 + 5 * d) ∧ 8 + (1 + 11) + (7990 + 200 * d) ≤ (8030 + 200 * d) from ⟨by omega, by omega⟩) (Nat.le_of_ble_eq_true rfl) dX6_takeIf_121 (fun x35 X36 => ?_)
  refine TC.istore (lv1 := [(6, .int x35), (5, .int x27), (4, .int x17), (3, .int x14), (2, .int x4), (1, .int x1), (0, .ref (Γ.2.2.2.1 46))]) dX6_takeIf_124 (by decide) rfl ?_
  refine TC.aload_n dX6_takeIf_126 rfl 6 rfl ?_
  refine mC5_1 k417 dX6_takeIf_127 (fun e37 he37 => ?_)
  refine TC.bipush (w := 36) dX6_takeIf_130 (by decide) ?_
  refine TC.iconst (w := 0) dX6_takeIf_132 (by decide) ?_
  refine TC.aload_n dX6_takeIf_133 rfl 6 rfl ?_
  refine TC.iload dX6_takeIf_134 0 rfl ?_
  refine TC.callV_i 46 (As1 := [.int x35]) (rest := [.int 0, .int 36, .ref (Γ.2.2.2.1 e37)]) (k_Reader_placeOf Γ x35 X36) ka_X6_placeOf kv_X6_placeOf oC_46 rfl k879 rfl rfl rfl rfl (show 2 + 1 ≤ (201 + 5 * d) ∧ 8 + (2 + 11) + 70 ≤ (8030 + 200 * d) from ⟨by omega, by omega⟩) (Nat.le_of_ble_eq_true rfl) dX6_takeIf_136 (fun x38 X39 => ?_)
  refine TC.callV_i e37 (As1 := [.int 36, .int 0, .int x38]) (rest := []) (k_Program_emit Γ e37 he37 (36 : Int32) (0 : Int32) x38 X39) ka_X5_emit kv_X5_emit he37 rfl k875 rfl rfl rfl rfl (show 2 + 1 ≤ (201 + 5 * d) ∧ 8 + (4 + 11) + 70 ≤ (8030 + 200 * d) from ⟨by omega, by omega⟩) (Nat.le_of_ble_eq_true rfl) dX6_takeIf_139 (fun x40 X41 => ?_)
  refine TC.pop dX6_takeIf_142 ?_
  refine TC.aload_n dX6_takeIf_143 rfl 6 rfl ?_
  refine mC5_1 k417 dX6_takeIf_144 (fun e42 he42 => ?_)
  refine vC4_14 e42 he42 k327 dX6_takeIf_147 (fun e43 he43 => ?_)
  refine TC.iload dX6_takeIf_150 1 rfl ?_
  refine TC.aload_n dX6_takeIf_152 rfl 6 rfl ?_
  refine mC5_1 k417 dX6_takeIf_153 (fun e44 he44 => ?_)
  refine TC.bipush (w := 8) dX6_takeIf_156 (by decide) ?_
  refine TC.iconst (w := 0) dX6_takeIf_158 (by decide) ?_
  refine TC.aload_n dX6_takeIf_159 rfl 6 rfl ?_
  refine TC.iload_n dX6_takeIf_160 rfl 5 rfl ?_
  refine TC.callV_i 46 (As1 := [.int x1]) (rest := [.int 0, .int 8, .ref (Γ.2.2.2.1 e44), .int x27, .ref (Γ.2.2.2.1 e43)]) (k_Reader_placeOf Γ x1 X41) ka_X6_placeOf kv_X6_placeOf oC_46 rfl k879 rfl rfl rfl rfl (show 2 + 1 ≤ (201 + 5 * d) ∧ 8 + (2 + 11) + 70 ≤ (8030 + 200 * d) from ⟨by omega, by omega⟩) (Nat.le_of_ble_eq_true rfl) dX6_takeIf_161 (fun x45 X46 => ?_)
  refine TC.callV_i e44 (As1 := [.int 8, .int 0, .int x45]) (rest := [.int x27, .ref (Γ.2.2.2.1 e43)]) (k_Program_emit Γ e44 he44 (8 : Int32) (0 : Int32) x45 X46) ka_X5_emit kv_X5_emit he44 rfl k875 rfl rfl rfl rfl (show 2 + 1 ≤ (201 + 5 * d) ∧ 8 + (4 + 11) + 70 ≤ (8030 + 200 * d) from ⟨by omega, by omega⟩) (Nat.le_of_ble_eq_true rfl) dX6_takeIf_164 (fun x47 X48 => ?_)
  refine TC.iast e43 he43 dX6_takeIf_167 (fun X49 => ?_)
  refine TC.aload_n dX6_takeIf_168 rfl 6 rfl ?_
  refine TC.dupr dX6_takeIf_169 ?_
  refine gC5_2 k418 dX6_takeIf_170 (fun x50 => ?_)
  refine TC.iconst (w := 1) dX6_takeIf_173 (by decide) ?_
  refine TC.isub dX6_takeIf_174 (fun x51 => ?_)
  refine pC5_2 k418 dX6_takeIf_175 (fun X52 => ?_)
  refine TC.iload_n dX6_takeIf_178 rfl 5 rfl ?_
  exact TC.ret_i rfl dX6_takeIf_179
noncomputable def g_Reader_takeLet_80 (v_takePrefix : Int32 → Int32 → St → Option (Int32 × St)) (v_takeE : St → Option (Int32 × St)) (a_1 : Int32) (l_2 : Int64) (a_5 : Int32) (X : St) : Option (Int32 × St) :=
  bnd (g_Reader_want (263 : Int32) X) fun _ X11 =>
  letV (X11.1 46 9) fun x12 =>
  chk (refO YC (X11.2.2 46 1) 4 17 = true) (letV (X11.2.2 46 1 - 1) fun e13 =>
  bnd (g_Reader_placeOf a_5 X11) fun x14 X15 =>
  bnd (g_Program_emit e13 (5 : Int32) x12 x14 X15) fun x16 X17 =>
  bnd (g_Reader_pushLocal l_2 X17) fun _ X18 =>
  bnd (v_takeE X18) fun x19 X20 =>
  letV (wI X20 46 9 x12) fun X21 =>
  letV (X21.1 46 2) fun x22 =>
  letV (x22 - (1 : Int32)) fun x23 =>
  letV (wI X21 46 2 x23) fun X24 =>
  some (a_1, X24))
set_option maxHeartbeats 4000000 in
set_option maxRecDepth 100000 in
theorem k_Reader_takeLet_80 (Γ : GxC) (d : Nat) (As : List Value) (v_takePrefix : Int32 → Int32 → St → Option (Int32 × St)) (hv_takePrefix : ∀ (p1 : Int32) (p2 : Int32) (X : St), TCI YC Γ yX6_takePrefix cX6_takePrefix 5 "BlameCourt$Reade\x72" (some .int) { frames := (200 + 5 * d), cells := 0, slots := 0, locals := (7990 + 200 * d) } [.ref (Γ.2.2.2.1 46), .int p1, .int p2] X (v_takePrefix p1 p2 X)) (v_takeE : St → Option (Int32 × St)) (hv_takeE : ∀ (X : St), TCI YC Γ yX6_takeE cX6_takeE 1 "BlameCourt$Reade\x72" (some .int) { frames := (200 + 5 * d), cells := 0, slots := 0, locals := (7990 + 200 * d) } [.ref (Γ.2.2.2.1 46)] X (v_takeE X)) (a_1 : Int32) (l_2 : Int64) (a_5 : Int32) (X : St) : TC YC Γ cX6_takeLet 7 "BlameCourt$Reade\x72" (some .int) { frames := (201 + 5 * d), cells := 0, slots := 0, locals := (8030 + 200 * d) } As kI 80 [(0, .ref (Γ.2.2.2.1 46)), (1, .int a_1), (2, .long l_2), (5, .int a_5)] [] X (g_Reader_takeLet_80 v_takePrefix v_takeE a_1 l_2 a_5 X) := by
  unfold g_Reader_takeLet_80
  refine TC.aload_n dX6_takeLet_80 rfl 0 rfl ?_
  refine TC.sipush (w := 263) dX6_takeLet_81 (by decide) ?_
  refine TC.callV_v 46 (As1 := [.int 263]) (rest := []) (k_Reader_want Γ (263 : Int32) X) ka_X6_want kv_X6_want oC_46 rfl k817 rfl rfl rfl rfl (show 5 + 1 ≤ (201 + 5 * d) ∧ 8 + (2 + 11) + 190 ≤ (8030 + 200 * d) from ⟨by omega, by omega⟩) (Nat.le_of_ble_eq_true rfl) dX6_takeLet_84 (fun _ X11 => ?_)
  refine TC.aload_n dX6_takeLet_87 rfl 0 rfl ?_
  refine gC5_9 k425 dX6_takeLet_88 (fun x12 => ?_)
  refine TC.istore (lv1 := [(6, .int x12), (0, .ref (Γ.2.2.2.1 46)), (1, .int a_1), (2, .long l_2), (5, .int a_5)]) dX6_takeLet_91 (by decide) rfl ?_
  refine TC.aload_n dX6_takeLet_93 rfl 1 rfl ?_
  refine mC5_1 k417 dX6_takeLet_94 (fun e13 he13 => ?_)
  refine TC.iconst (w := 5) dX6_takeLet_97 (by decide) ?_
  refine TC.iload dX6_takeLet_98 0 rfl ?_
  refine TC.aload_n dX6_takeLet_100 rfl 1 rfl ?_
  refine TC.iload dX6_takeLet_101 4 rfl ?_
  refine TC.callV_i 46 (As1 := [.int a_5]) (rest := [.int x12, .int 5, .ref (Γ.2.2.2.1 e13)]) (k_Reader_placeOf Γ a_5 X11) ka_X6_placeOf kv_X6_placeOf oC_46 rfl k879 rfl rfl rfl rfl (show 2 + 1 ≤ (201 + 5 * d) ∧ 8 + (2 + 11) + 70 ≤ (8030 + 200 * d) from ⟨by omega, by omega⟩) (Nat.le_of_ble_eq_true rfl) dX6_takeLet_103 (fun x14 X15 => ?_)
  refine TC.callV_i e13 (As1 := [.int 5, .int x12, .int x14]) (rest := []) (k_Program_emit Γ e13 he13 (5 : Int32) x12 x14 X15) ka_X5_emit kv_X5_emit he13 rfl k875 rfl rfl rfl rfl (show 2 + 1 ≤ (201 + 5 * d) ∧ 8 + (4 + 11) + 70 ≤ (8030 + 200 * d) from ⟨by omega, by omega⟩) (Nat.le_of_ble_eq_true rfl) dX6_takeLet_106 (fun x16 X17 => ?_)
  refine TC.pop dX6_takeLet_109 ?_
  refine TC.aload_n dX6_takeLet_110 rfl 1 rfl ?_
  refine TC.lload_n dX6_takeLet_111 rfl 3 rfl ?_
  refine TC.callV_v 46 (As1 := [.long l_2]) (rest := []) (k_Reader_pushLocal Γ l_2 X17) ka_X6_pushLocal kv_X6_pushLocal oC_46 rfl k833 rfl rfl rfl rfl (show 2 + 1 ≤ (201 + 5 * d) ∧ 8 + (3 + 11) + 70 ≤ (8030 + 200 * d) from ⟨by omega, by omega⟩) (Nat.le_of_ble_eq_true rfl) dX6_takeLet_112 (fun _ X18 => ?_)
  refine TC.aload_n dX6_takeLet_115 rfl 1 rfl ?_
  refine TC.callV_i 46 (As1 := []) (rest := []) (hv_takeE X18) ka_X6_takeE kv_X6_takeE oC_46 rfl k863 rfl rfl rfl rfl (show (200 + 5 * d) + 1 ≤ (201 + 5 * d) ∧ 8 + (1 + 11) + (7990 + 200 * d) ≤ (8030 + 200 * d) from ⟨by omega, by omega⟩) (Nat.le_of_ble_eq_true rfl) dX6_takeLet_116 (fun x19 X20 => ?_)
  refine TC.pop dX6_takeLet_119 ?_
  refine TC.aload_n dX6_takeLet_120 rfl 1 rfl ?_
  refine TC.iload dX6_takeLet_121 0 rfl ?_
  refine pC5_9 k425 dX6_takeLet_123 (fun X21 => ?_)
  refine TC.aload_n dX6_takeLet_126 rfl 1 rfl ?_
  refine TC.dupr dX6_takeLet_127 ?_
  refine gC5_2 k418 dX6_takeLet_128 (fun x22 => ?_)
  refine TC.iconst (w := 1) dX6_takeLet_131 (by decide) ?_
  refine TC.isub dX6_takeLet_132 (fun x23 => ?_)
  refine pC5_2 k418 dX6_takeLet_133 (fun X24 => ?_)
  refine TC.iload_n dX6_takeLet_136 rfl 2 rfl ?_
  exact TC.ret_i rfl dX6_takeLet_137
noncomputable def g_Reader_takeLet_42 (v_takePrefix : Int32 → Int32 → St → Option (Int32 × St)) (v_takeE : St → Option (Int32 × St)) (a_1 : Int32) (l_2 : Int64) (b_0 : Int32) (X : St) : Option (Int32 × St) :=
  bnd (g_Reader_want (61 : Int32) X) fun _ X8 =>
  bnd (v_takeE X8) fun x9 X10 =>
  if b_0.toInt = -1 then
    g_Reader_takeLet_80 v_takePrefix v_takeE a_1 l_2 x9 X10
  else
    chk (refO YC (X10.2.2 46 1) 4 17 = true) (letV (X10.2.2 46 1 - 1) fun e25 =>
    bnd (g_Reader_placeOf x9 X10) fun x26 X27 =>
    bnd (g_Program_emit e25 (34 : Int32) b_0 x26 X27) fun x28 X29 =>
    g_Reader_takeLet_80 v_takePrefix v_takeE a_1 l_2 x9 X29)
set_option maxHeartbeats 4000000 in
set_option maxRecDepth 100000 in
theorem k_Reader_takeLet_42 (Γ : GxC) (d : Nat) (As : List Value) (v_takePrefix : Int32 → Int32 → St → Option (Int32 × St)) (hv_takePrefix : ∀ (p1 : Int32) (p2 : Int32) (X : St), TCI YC Γ yX6_takePrefix cX6_takePrefix 5 "BlameCourt$Reade\x72" (some .int) { frames := (200 + 5 * d), cells := 0, slots := 0, locals := (7990 + 200 * d) } [.ref (Γ.2.2.2.1 46), .int p1, .int p2] X (v_takePrefix p1 p2 X)) (v_takeE : St → Option (Int32 × St)) (hv_takeE : ∀ (X : St), TCI YC Γ yX6_takeE cX6_takeE 1 "BlameCourt$Reade\x72" (some .int) { frames := (200 + 5 * d), cells := 0, slots := 0, locals := (7990 + 200 * d) } [.ref (Γ.2.2.2.1 46)] X (v_takeE X)) (a_1 : Int32) (l_2 : Int64) (b_0 : Int32) (X : St) : TC YC Γ cX6_takeLet 7 "BlameCourt$Reade\x72" (some .int) { frames := (201 + 5 * d), cells := 0, slots := 0, locals := (8030 + 200 * d) } As kI 42 [(0, .ref (Γ.2.2.2.1 46)), (1, .int a_1), (2, .long l_2)] [.int b_0] X (g_Reader_takeLet_42 v_takePrefix v_takeE a_1 l_2 b_0 X) := by
  unfold g_Reader_takeLet_42
  refine TC.istore (lv1 := [(4, .int b_0), (0, .ref (Γ.2.2.2.1 46)), (1, .int a_1), (2, .long l_2)]) dX6_takeLet_42 (by decide) rfl ?_
  refine TC.aload_n dX6_takeLet_44 rfl 1 rfl ?_
  refine TC.bipush (w := 61) dX6_takeLet_45 (by decide) ?_
  refine TC.callV_v 46 (As1 := [.int 61]) (rest := []) (k_Reader_want Γ (61 : Int32) X) ka_X6_want kv_X6_want oC_46 rfl k817 rfl rfl rfl rfl (show 5 + 1 ≤ (201 + 5 * d) ∧ 8 + (2 + 11) + 190 ≤ (8030 + 200 * d) from ⟨by omega, by omega⟩) (Nat.le_of_ble_eq_true rfl) dX6_takeLet_47 (fun _ X8 => ?_)
  refine TC.aload_n dX6_takeLet_50 rfl 1 rfl ?_
  refine TC.callV_i 46 (As1 := []) (rest := []) (hv_takeE X8) ka_X6_takeE kv_X6_takeE oC_46 rfl k863 rfl rfl rfl rfl (show (200 + 5 * d) + 1 ≤ (201 + 5 * d) ∧ 8 + (1 + 11) + (7990 + 200 * d) ≤ (8030 + 200 * d) from ⟨by omega, by omega⟩) (Nat.le_of_ble_eq_true rfl) dX6_takeLet_51 (fun x9 X10 => ?_)
  refine TC.istore (lv1 := [(5, .int x9), (4, .int b_0), (0, .ref (Γ.2.2.2.1 46)), (1, .int a_1), (2, .long l_2)]) dX6_takeLet_54 (by decide) rfl ?_
  refine TC.iload dX6_takeLet_56 1 rfl ?_
  refine TC.iconst (w := (-1)) dX6_takeLet_58 (by decide) ?_
  refine TC.icmp_eq (pc1 := 80) dX6_takeLet_59 (by decide) rfl ?_ ?_
  · refine TC.sub [2, 3, 4, 0] rfl ?_
    exact k_Reader_takeLet_80 Γ d _ v_takePrefix hv_takePrefix v_takeE hv_takeE a_1 l_2 x9 X10
  · refine TC.aload_n dX6_takeLet_62 rfl 2 rfl ?_
    refine mC5_1 k417 dX6_takeLet_63 (fun e25 he25 => ?_)
    refine TC.bipush (w := 34) dX6_takeLet_66 (by decide) ?_
    refine TC.iload dX6_takeLet_68 1 rfl ?_
    refine TC.aload_n dX6_takeLet_70 rfl 2 rfl ?_
    refine TC.iload dX6_takeLet_71 0 rfl ?_
    refine TC.callV_i 46 (As1 := [.int x9]) (rest := [.int b_0, .int 34, .ref (Γ.2.2.2.1 e25)]) (k_Reader_placeOf Γ x9 X10) ka_X6_placeOf kv_X6_placeOf oC_46 rfl k879 rfl rfl rfl rfl (show 2 + 1 ≤ (201 + 5 * d) ∧ 8 + (2 + 11) + 70 ≤ (8030 + 200 * d) from ⟨by omega, by omega⟩) (Nat.le_of_ble_eq_true rfl) dX6_takeLet_73 (fun x26 X27 => ?_)
    refine TC.callV_i e25 (As1 := [.int 34, .int b_0, .int x26]) (rest := []) (k_Program_emit Γ e25 he25 (34 : Int32) b_0 x26 X27) ka_X5_emit kv_X5_emit he25 rfl k875 rfl rfl rfl rfl (show 2 + 1 ≤ (201 + 5 * d) ∧ 8 + (4 + 11) + 70 ≤ (8030 + 200 * d) from ⟨by omega, by omega⟩) (Nat.le_of_ble_eq_true rfl) dX6_takeLet_76 (fun x28 X29 => ?_)
    refine TC.pop dX6_takeLet_79 ?_
    refine TC.sub [2, 3, 4, 0] rfl ?_
    exact k_Reader_takeLet_80 Γ d _ v_takePrefix hv_takePrefix v_takeE hv_takeE a_1 l_2 x9 X29
noncomputable def g_Reader_takeLet (v_takePrefix : Int32 → Int32 → St → Option (Int32 × St)) (v_takeE : St → Option (Int32 × St)) (X : St) : Option (Int32 × St) :=
  bnd (g_Reader_emitStep X) fun x1 X2 =>
  bnd (g_Reader_enter (262 : Int32) X2) fun _ X3 =>
  letV (X3.2.1 47 5) fun y4 =>
  bnd (g_Reader_want (258 : Int32) X3) fun _ X5 =>
  bnd (g_Reader_tookColon X5) fun x6 X7 =>
  if x6.toInt = 0 then
    g_Reader_takeLet_42 v_takePrefix v_takeE x1 y4 (-1 : Int32) X7
  else
    bnd (g_Reader_takeKind X7) fun x30 X31 =>
    g_Reader_takeLet_42 v_takePrefix v_takeE x1 y4 x30 X31
set_option maxHeartbeats 4000000 in
set_option maxRecDepth 100000 in
theorem k_Reader_takeLet (Γ : GxC) (d : Nat) (v_takePrefix : Int32 → Int32 → St → Option (Int32 × St)) (hv_takePrefix : ∀ (p1 : Int32) (p2 : Int32) (X : St), TCI YC Γ yX6_takePrefix cX6_takePrefix 5 "BlameCourt$Reade\x72" (some .int) { frames := (200 + 5 * d), cells := 0, slots := 0, locals := (7990 + 200 * d) } [.ref (Γ.2.2.2.1 46), .int p1, .int p2] X (v_takePrefix p1 p2 X)) (v_takeE : St → Option (Int32 × St)) (hv_takeE : ∀ (X : St), TCI YC Γ yX6_takeE cX6_takeE 1 "BlameCourt$Reade\x72" (some .int) { frames := (200 + 5 * d), cells := 0, slots := 0, locals := (7990 + 200 * d) } [.ref (Γ.2.2.2.1 46)] X (v_takeE X)) (X : St) : TCI YC Γ yX6_takeLet cX6_takeLet 7 "BlameCourt$Reade\x72" (some .int) { frames := (201 + 5 * d), cells := 0, slots := 0, locals := (8030 + 200 * d) } [.ref (Γ.2.2.2.1 46)] X (g_Reader_takeLet v_takePrefix v_takeE X) := by
  refine TCI.of (by decide) (Nat.le_of_ble_eq_true rfl) rfl ?_
  show TC YC Γ cX6_takeLet 7 "BlameCourt$Reade\x72" (some .int) { frames := (201 + 5 * d), cells := 0, slots := 0, locals := (8030 + 200 * d) } _ kI 0 [(0, .ref (Γ.2.2.2.1 46))] [] X (g_Reader_takeLet v_takePrefix v_takeE X)
  unfold g_Reader_takeLet
  refine TC.aload_n dX6_takeLet_0 rfl 0 rfl ?_
  refine TC.callV_i 46 (As1 := []) (rest := []) (k_Reader_emitStep Γ X) ka_X6_emitStep kv_X6_emitStep oC_46 rfl k871 rfl rfl rfl rfl (show 3 + 1 ≤ (201 + 5 * d) ∧ 8 + (1 + 11) + 110 ≤ (8030 + 200 * d) from ⟨by omega, by omega⟩) (Nat.le_of_ble_eq_true rfl) dX6_takeLet_1 (fun x1 X2 => ?_)
  refine TC.istore_n (lv1 := [(1, .int x1), (0, .ref (Γ.2.2.2.1 46))]) dX6_takeLet_4 rfl (by decide) rfl ?_
  refine TC.aload_n dX6_takeLet_5 rfl 1 rfl ?_
  refine TC.sipush (w := 262) dX6_takeLet_6 (by decide) ?_
  refine TC.callV_v 46 (As1 := [.int 262]) (rest := []) (k_Reader_enter Γ (262 : Int32) X2) ka_X6_enter kv_X6_enter oC_46 rfl k825 rfl rfl rfl rfl (show 5 + 1 ≤ (201 + 5 * d) ∧ 8 + (2 + 11) + 190 ≤ (8030 + 200 * d) from ⟨by omega, by omega⟩) (Nat.le_of_ble_eq_true rfl) dX6_takeLet_9 (fun _ X3 => ?_)
  refine TC.aload_n dX6_takeLet_12 rfl 1 rfl ?_
  refine cC5_0 k416 dX6_takeLet_13 ?_
  refine gC7_5 k394 dX6_takeLet_16 (fun y4 => ?_)
  refine TC.lstore_n (lv1 := [(2, .long y4), (1, .int x1), (0, .ref (Γ.2.2.2.1 46))]) dX6_takeLet_19 rfl (by decide) rfl ?_
  refine TC.aload_n dX6_takeLet_20 rfl 2 rfl ?_
  refine TC.sipush (w := 258) dX6_takeLet_21 (by decide) ?_
  refine TC.callV_v 46 (As1 := [.int 258]) (rest := []) (k_Reader_want Γ (258 : Int32) X3) ka_X6_want kv_X6_want oC_46 rfl k817 rfl rfl rfl rfl (show 5 + 1 ≤ (201 + 5 * d) ∧ 8 + (2 + 11) + 190 ≤ (8030 + 200 * d) from ⟨by omega, by omega⟩) (Nat.le_of_ble_eq_true rfl) dX6_takeLet_24 (fun _ X5 => ?_)
  refine TC.aload_n dX6_takeLet_27 rfl 2 rfl ?_
  refine TC.callV_i 46 (As1 := []) (rest := []) (k_Reader_tookColon Γ X5) ka_X6_tookColon kv_X6_tookColon oC_46 rfl k837 rfl rfl rfl rfl (show 5 + 1 ≤ (201 + 5 * d) ∧ 8 + (1 + 11) + 190 ≤ (8030 + 200 * d) from ⟨by omega, by omega⟩) (Nat.le_of_ble_eq_true rfl) dX6_takeLet_28 (fun x6 X7 => ?_)
  refine TC.if_eq (pc1 := 41) dX6_takeLet_31 (by decide) ?_ ?_
  · refine TC.iconst (w := (-1)) dX6_takeLet_41 (by decide) ?_
    refine TC.sub [2, 1, 0] rfl ?_
    exact k_Reader_takeLet_42 Γ d _ v_takePrefix hv_takePrefix v_takeE hv_takeE x1 y4 (-1 : Int32) X7
  · refine TC.aload_n dX6_takeLet_34 rfl 2 rfl ?_
    refine TC.callV_i 46 (As1 := []) (rest := []) (k_Reader_takeKind Γ X7) ka_X6_takeKind kv_X6_takeKind oC_46 rfl k841 rfl rfl rfl rfl (show 198 + 1 ≤ (201 + 5 * d) ∧ 8 + (2 + 11) + 7910 ≤ (8030 + 200 * d) from ⟨by omega, by omega⟩) (Nat.le_of_ble_eq_true rfl) dX6_takeLet_35 (fun x30 X31 => ?_)
    refine TC.goto (pc1 := 42) dX6_takeLet_38 (by decide) ?_
    refine TC.sub [2, 1, 0] rfl ?_
    exact k_Reader_takeLet_42 Γ d _ v_takePrefix hv_takePrefix v_takeE hv_takeE x1 y4 x30 X31
noncomputable def g_Reader_takePrefix_b (v_takePrefix : Int32 → Int32 → St → Option (Int32 × St)) (v_takeE : St → Option (Int32 × St)) (p1 : Int32) (p2 : Int32) (X : St) : Option (Int32 × St) :=
  bnd (g_Reader_emitStep X) fun x1 X2 =>
  letV (X2.1 47 3) fun x3 =>
  bnd (g_Reader_enter x3 X2) fun _ X4 =>
  bnd (g_Reader_takeU v_takePrefix v_takeE X4) fun x5 X6 =>
  chk (refO YC (X6.2.2 46 1) 4 17 = true) (letV (X6.2.2 46 1 - 1) fun e7 =>
  bnd (g_Reader_placeOf x5 X6) fun x8 X9 =>
  bnd (g_Program_emit e7 p1 (0 : Int32) x8 X9) fun x10 X11 =>
  chk (refO YC (X11.2.2 46 1) 4 17 = true) (letV (X11.2.2 46 1 - 1) fun e12 =>
  bnd (g_Reader_placeOf x1 X11) fun x13 X14 =>
  bnd (g_Program_emit e12 p2 (0 : Int32) x13 X14) fun x15 X16 =>
  letV (X16.1 46 2) fun x17 =>
  letV (x17 - (1 : Int32)) fun x18 =>
  letV (wI X16 46 2 x18) fun X19 =>
  some (x1, X19)))
set_option maxHeartbeats 4000000 in
set_option maxRecDepth 100000 in
theorem k_Reader_takePrefix_b (Γ : GxC) (d : Nat) (v_takePrefix : Int32 → Int32 → St → Option (Int32 × St)) (hv_takePrefix : ∀ (p1 : Int32) (p2 : Int32) (X : St), TCI YC Γ yX6_takePrefix cX6_takePrefix 5 "BlameCourt$Reade\x72" (some .int) { frames := (200 + 5 * d), cells := 0, slots := 0, locals := (7990 + 200 * d) } [.ref (Γ.2.2.2.1 46), .int p1, .int p2] X (v_takePrefix p1 p2 X)) (v_takeE : St → Option (Int32 × St)) (hv_takeE : ∀ (X : St), TCI YC Γ yX6_takeE cX6_takeE 1 "BlameCourt$Reade\x72" (some .int) { frames := (200 + 5 * d), cells := 0, slots := 0, locals := (7990 + 200 * d) } [.ref (Γ.2.2.2.1 46)] X (v_takeE X)) (p1 : Int32) (p2 : Int32) (X : St) : TCI YC Γ yX6_takePrefix cX6_takePrefix 5 "BlameCourt$Reade\x72" (some .int) { frames := (200 + 5 * (d + 1)), cells := 0, slots := 0, locals := (7990 + 200 * (d + 1)) } [.ref (Γ.2.2.2.1 46), .int p1, .int p2] X (g_Reader_takePrefix_b v_takePrefix v_takeE p1 p2 X) := by
  refine TCI.of (by decide) (Nat.le_of_ble_eq_true rfl) rfl ?_
  show TC YC Γ cX6_takePrefix 5 "BlameCourt$Reade\x72" (some .int) { frames := (200 + 5 * (d + 1)), cells := 0, slots := 0, locals := (7990 + 200 * (d + 1)) } _ kI 0 [(0, .ref (Γ.2.2.2.1 46)), (1, .int p1), (2, .int p2)] [] X (g_Reader_takePrefix_b v_takePrefix v_takeE p1 p2 X)
  unfold g_Reader_takePrefix_b
  refine TC.aload_n dX6_takePrefix_0 rfl 0 rfl ?_
  refine TC.callV_i 46 (As1 := []) (rest := []) (k_Reader_emitStep Γ X) ka_X6_emitStep kv_X6_emitStep oC_46 rfl k871 rfl rfl rfl rfl (show 3 + 1 ≤ (200 + 5 * (d + 1)) ∧ 8 + (1 + 11) + 110 ≤ (7990 + 200 * (d + 1)) from ⟨by omega, by omega⟩) (Nat.le_of_ble_eq_true rfl) dX6_takePrefix_1 (fun x1 X2 => ?_)
  refine TC.istore_n (lv1 := [(3, .int x1), (0, .ref (Γ.2.2.2.1 46)), (1, .int p1), (2, .int p2)]) dX6_takePrefix_4 rfl (by decide) rfl ?_
  refine TC.aload_n dX6_takePrefix_5 rfl 1 rfl ?_
  refine TC.aload_n dX6_takePrefix_6 rfl 1 rfl ?_
  refine cC5_0 k416 dX6_takePrefix_7 ?_
  refine gC7_3 k390 dX6_takePrefix_10 (fun x3 => ?_)
  refine TC.callV_v 46 (As1 := [.int x3]) (rest := []) (k_Reader_enter Γ x3 X2) ka_X6_enter kv_X6_enter oC_46 rfl k825 rfl rfl rfl rfl (show 5 + 1 ≤ (200 + 5 * (d + 1)) ∧ 8 + (2 + 11) + 190 ≤ (7990 + 200 * (d + 1)) from ⟨by omega, by omega⟩) (Nat.le_of_ble_eq_true rfl) dX6_takePrefix_13 (fun _ X4 => ?_)
  refine TC.aload_n dX6_takePrefix_16 rfl 1 rfl ?_
  refine TC.callV_i 46 (As1 := []) (rest := []) (k_Reader_takeU Γ d v_takePrefix hv_takePrefix v_takeE hv_takeE X4) ka_X6_takeU kv_X6_takeU oC_46 rfl k891 rfl rfl rfl rfl (show (203 + 5 * d) + 1 ≤ (200 + 5 * (d + 1)) ∧ 8 + (5 + 11) + (8110 + 200 * d) ≤ (7990 + 200 * (d + 1)) from ⟨by omega, by omega⟩) (Nat.le_of_ble_eq_true rfl) dX6_takePrefix_17 (fun x5 X6 => ?_)
  refine TC.istore (lv1 := [(4, .int x5), (3, .int x1), (0, .ref (Γ.2.2.2.1 46)), (1, .int p1), (2, .int p2)]) dX6_takePrefix_20 (by decide) rfl ?_
  refine TC.aload_n dX6_takePrefix_22 rfl 2 rfl ?_
  refine mC5_1 k417 dX6_takePrefix_23 (fun e7 he7 => ?_)
  refine TC.iload_n dX6_takePrefix_26 rfl 3 rfl ?_
  refine TC.iconst (w := 0) dX6_takePrefix_27 (by decide) ?_
  refine TC.aload_n dX6_takePrefix_28 rfl 2 rfl ?_
  refine TC.iload dX6_takePrefix_29 0 rfl ?_
  refine TC.callV_i 46 (As1 := [.int x5]) (rest := [.int 0, .int p1, .ref (Γ.2.2.2.1 e7)]) (k_Reader_placeOf Γ x5 X6) ka_X6_placeOf kv_X6_placeOf oC_46 rfl k879 rfl rfl rfl rfl (show 2 + 1 ≤ (200 + 5 * (d + 1)) ∧ 8 + (2 + 11) + 70 ≤ (7990 + 200 * (d + 1)) from ⟨by omega, by omega⟩) (Nat.le_of_ble_eq_true rfl) dX6_takePrefix_31 (fun x8 X9 => ?_)
  refine TC.callV_i e7 (As1 := [.int p1, .int 0, .int x8]) (rest := []) (k_Program_emit Γ e7 he7 p1 (0 : Int32) x8 X9) ka_X5_emit kv_X5_emit he7 rfl k875 rfl rfl rfl rfl (show 2 + 1 ≤ (200 + 5 * (d + 1)) ∧ 8 + (4 + 11) + 70 ≤ (7990 + 200 * (d + 1)) from ⟨by omega, by omega⟩) (Nat.le_of_ble_eq_true rfl) dX6_takePrefix_34 (fun x10 X11 => ?_)
  refine TC.pop dX6_takePrefix_37 ?_
  refine TC.aload_n dX6_takePrefix_38 rfl 2 rfl ?_
  refine mC5_1 k417 dX6_takePrefix_39 (fun e12 he12 => ?_)
  refine TC.iload_n dX6_takePrefix_42 rfl 4 rfl ?_
  refine TC.iconst (w := 0) dX6_takePrefix_43 (by decide) ?_
  refine TC.aload_n dX6_takePrefix_44 rfl 2 rfl ?_
  refine TC.iload_n dX6_takePrefix_45 rfl 1 rfl ?_
  refine TC.callV_i 46 (As1 := [.int x1]) (rest := [.int 0, .int p2, .ref (Γ.2.2.2.1 e12)]) (k_Reader_placeOf Γ x1 X11) ka_X6_placeOf kv_X6_placeOf oC_46 rfl k879 rfl rfl rfl rfl (show 2 + 1 ≤ (200 + 5 * (d + 1)) ∧ 8 + (2 + 11) + 70 ≤ (7990 + 200 * (d + 1)) from ⟨by omega, by omega⟩) (Nat.le_of_ble_eq_true rfl) dX6_takePrefix_46 (fun x13 X14 => ?_)
  refine TC.callV_i e12 (As1 := [.int p2, .int 0, .int x13]) (rest := []) (k_Program_emit Γ e12 he12 p2 (0 : Int32) x13 X14) ka_X5_emit kv_X5_emit he12 rfl k875 rfl rfl rfl rfl (show 2 + 1 ≤ (200 + 5 * (d + 1)) ∧ 8 + (4 + 11) + 70 ≤ (7990 + 200 * (d + 1)) from ⟨by omega, by omega⟩) (Nat.le_of_ble_eq_true rfl) dX6_takePrefix_49 (fun x15 X16 => ?_)
  refine TC.pop dX6_takePrefix_52 ?_
  refine TC.aload_n dX6_takePrefix_53 rfl 2 rfl ?_
  refine TC.dupr dX6_takePrefix_54 ?_
  refine gC5_2 k418 dX6_takePrefix_55 (fun x17 => ?_)
  refine TC.iconst (w := 1) dX6_takePrefix_58 (by decide) ?_
  refine TC.isub dX6_takePrefix_59 (fun x18 => ?_)
  refine pC5_2 k418 dX6_takePrefix_60 (fun X19 => ?_)
  refine TC.iload_n dX6_takePrefix_63 rfl 1 rfl ?_
  exact TC.ret_i rfl dX6_takePrefix_64
noncomputable def g_Reader_takeE_b (v_takePrefix : Int32 → Int32 → St → Option (Int32 × St)) (v_takeE : St → Option (Int32 × St)) (X : St) : Option (Int32 × St) :=
  letV (X.1 47 3) fun x1 =>
  if x1.toInt = 262 then
    bnd (g_Reader_takeLet v_takePrefix v_takeE X) fun x7 X8 =>
    some (x7, X8)
  else
    letV (X.1 47 3) fun x2 =>
    if x2.toInt = 264 then
      bnd (g_Reader_takeIf v_takePrefix v_takeE X) fun x5 X6 =>
      some (x5, X6)
    else
      bnd (g_Reader_takeC v_takePrefix v_takeE X) fun x3 X4 =>
      some (x3, X4)
set_option maxHeartbeats 4000000 in
set_option maxRecDepth 100000 in
theorem k_Reader_takeE_b (Γ : GxC) (d : Nat) (v_takePrefix : Int32 → Int32 → St → Option (Int32 × St)) (hv_takePrefix : ∀ (p1 : Int32) (p2 : Int32) (X : St), TCI YC Γ yX6_takePrefix cX6_takePrefix 5 "BlameCourt$Reade\x72" (some .int) { frames := (200 + 5 * d), cells := 0, slots := 0, locals := (7990 + 200 * d) } [.ref (Γ.2.2.2.1 46), .int p1, .int p2] X (v_takePrefix p1 p2 X)) (v_takeE : St → Option (Int32 × St)) (hv_takeE : ∀ (X : St), TCI YC Γ yX6_takeE cX6_takeE 1 "BlameCourt$Reade\x72" (some .int) { frames := (200 + 5 * d), cells := 0, slots := 0, locals := (7990 + 200 * d) } [.ref (Γ.2.2.2.1 46)] X (v_takeE X)) (X : St) : TCI YC Γ yX6_takeE cX6_takeE 1 "BlameCourt$Reade\x72" (some .int) { frames := (200 + 5 * (d + 1)), cells := 0, slots := 0, locals := (7990 + 200 * (d + 1)) } [.ref (Γ.2.2.2.1 46)] X (g_Reader_takeE_b v_takePrefix v_takeE X) := by
  refine TCI.of (by decide) (Nat.le_of_ble_eq_true rfl) rfl ?_
  show TC YC Γ cX6_takeE 1 "BlameCourt$Reade\x72" (some .int) { frames := (200 + 5 * (d + 1)), cells := 0, slots := 0, locals := (7990 + 200 * (d + 1)) } _ kI 0 [(0, .ref (Γ.2.2.2.1 46))] [] X (g_Reader_takeE_b v_takePrefix v_takeE X)
  unfold g_Reader_takeE_b
  refine TC.aload_n dX6_takeE_0 rfl 0 rfl ?_
  refine cC5_0 k416 dX6_takeE_1 ?_
  refine gC7_3 k390 dX6_takeE_4 (fun x1 => ?_)
  refine TC.sipush (w := 262) dX6_takeE_7 (by decide) ?_
  refine TC.icmp_ne (pc1 := 18) dX6_takeE_10 (by decide) rfl ?_ ?_
  · refine TC.aload_n dX6_takeE_18 rfl 0 rfl ?_
    refine cC5_0 k416 dX6_takeE_19 ?_
    refine gC7_3 k390 dX6_takeE_22 (fun x2 => ?_)
    refine TC.sipush (w := 264) dX6_takeE_25 (by decide) ?_
    refine TC.icmp_ne (pc1 := 38) dX6_takeE_28 (by decide) rfl ?_ ?_
    · refine TC.aload_n dX6_takeE_38 rfl 0 rfl ?_
      refine TC.callV_i 46 (As1 := []) (rest := []) (k_Reader_takeC Γ d v_takePrefix hv_takePrefix v_takeE hv_takeE X) ka_X6_takeC kv_X6_takeC oC_46 rfl k887 rfl rfl rfl rfl (show (204 + 5 * d) + 1 ≤ (200 + 5 * (d + 1)) ∧ 8 + (8 + 11) + (8150 + 200 * d) ≤ (7990 + 200 * (d + 1)) from ⟨by omega, by omega⟩) (Nat.le_of_ble_eq_true rfl) dX6_takeE_39 (fun x3 X4 => ?_)
      exact TC.ret_i rfl dX6_takeE_42
    · refine TC.aload_n dX6_takeE_31 rfl 0 rfl ?_
      refine TC.callV_i 46 (As1 := []) (rest := []) (k_Reader_takeIf Γ d v_takePrefix hv_takePrefix v_takeE hv_takeE X) ka_X6_takeIf kv_X6_takeIf oC_46 rfl k883 rfl rfl rfl rfl (show (201 + 5 * d) + 1 ≤ (200 + 5 * (d + 1)) ∧ 8 + (7 + 11) + (8030 + 200 * d) ≤ (7990 + 200 * (d + 1)) from ⟨by omega, by omega⟩) (Nat.le_of_ble_eq_true rfl) dX6_takeE_32 (fun x5 X6 => ?_)
      refine TC.goto (pc1 := 42) dX6_takeE_35 (by decide) ?_
      exact TC.ret_i rfl dX6_takeE_42
  · refine TC.aload_n dX6_takeE_13 rfl 0 rfl ?_
    refine TC.callV_i 46 (As1 := []) (rest := []) (k_Reader_takeLet Γ d v_takePrefix hv_takePrefix v_takeE hv_takeE X) ka_X6_takeLet kv_X6_takeLet oC_46 rfl k867 rfl rfl rfl rfl (show (201 + 5 * d) + 1 ≤ (200 + 5 * (d + 1)) ∧ 8 + (7 + 11) + (8030 + 200 * d) ≤ (7990 + 200 * (d + 1)) from ⟨by omega, by omega⟩) (Nat.le_of_ble_eq_true rfl) dX6_takeE_14 (fun x7 X8 => ?_)
    exact TC.ret_i rfl dX6_takeE_17
noncomputable def rec_e (n : Nat) : (Int32 → Int32 → St → Option (Int32 × St)) × (St → Option (Int32 × St)) := lp (γ := (Int32 → Int32 → St → Option (Int32 × St)) × (St → Option (Int32 × St))) ((fun _ _ _ => none, fun _ => none)) (fun z => (g_Reader_takePrefix_b z.1 z.2, g_Reader_takeE_b z.1 z.2)) n
set_option maxHeartbeats 4000000 in
theorem krec_e (Γ : GxC) : ∀ n, (∀ (p1 : Int32) (p2 : Int32) (X : St), TCI YC Γ yX6_takePrefix cX6_takePrefix 5 "BlameCourt$Reade\x72" (some .int) { frames := (200 + 5 * n), cells := 0, slots := 0, locals := (7990 + 200 * n) } [.ref (Γ.2.2.2.1 46), .int p1, .int p2] X ((rec_e n).1 p1 p2 X)) ∧ (∀ (X : St), TCI YC Γ yX6_takeE cX6_takeE 1 "BlameCourt$Reade\x72" (some .int) { frames := (200 + 5 * n), cells := 0, slots := 0, locals := (7990 + 200 * n) } [.ref (Γ.2.2.2.1 46)] X ((rec_e n).2 X)) := by
  intro n
  unfold rec_e
  refine lp_indN (γ := (Int32 → Int32 → St → Option (Int32 × St)) × (St → Option (Int32 × St))) (P := fun (n : Nat) (z : (Int32 → Int32 → St → Option (Int32 × St)) × (St → Option (Int32 × St))) => (∀ (p1 : Int32) (p2 : Int32) (X : St), TCI YC Γ yX6_takePrefix cX6_takePrefix 5 "BlameCourt$Reade\x72" (some .int) { frames := (200 + 5 * n), cells := 0, slots := 0, locals := (7990 + 200 * n) } [.ref (Γ.2.2.2.1 46), .int p1, .int p2] X (z.1 p1 p2 X)) ∧ (∀ (X : St), TCI YC Γ yX6_takeE cX6_takeE 1 "BlameCourt$Reade\x72" (some .int) { frames := (200 + 5 * n), cells := 0, slots := 0, locals := (7990 + 200 * n) } [.ref (Γ.2.2.2.1 46)] X (z.2 X))) ⟨fun _ _ _ => TCI.no, fun _ => TCI.no⟩ ?_ n
  intro n z hz
  exact ⟨fun p1 p2 X => k_Reader_takePrefix_b Γ n z.1 hz.1 z.2 hz.2 p1 p2 X, fun X => k_Reader_takeE_b Γ n z.1 hz.1 z.2 hz.2 X⟩
noncomputable def g_Reader_takePrefix : Int32 → Int32 → St → Option (Int32 × St) := (rec_e 64).1
theorem k_Reader_takePrefix (Γ : GxC) : ∀ (p1 : Int32) (p2 : Int32) (X : St), TCI YC Γ yX6_takePrefix cX6_takePrefix 5 "BlameCourt$Reade\x72" (some .int) { frames := 520, cells := 0, slots := 0, locals := 20790 } [.ref (Γ.2.2.2.1 46), .int p1, .int p2] X (g_Reader_takePrefix p1 p2 X) := (krec_e Γ 64).1
noncomputable def g_Reader_takeE : St → Option (Int32 × St) := (rec_e 64).2
theorem k_Reader_takeE (Γ : GxC) : ∀ (X : St), TCI YC Γ yX6_takeE cX6_takeE 1 "BlameCourt$Reade\x72" (some .int) { frames := 520, cells := 0, slots := 0, locals := 20790 } [.ref (Γ.2.2.2.1 46)] X (g_Reader_takeE X) := (krec_e Γ 64).2
