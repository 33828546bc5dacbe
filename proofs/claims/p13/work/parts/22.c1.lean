theorem dX0_lay_0 : decode cX0_lay 0 = .ok (.aload_n 0, 1) := by decide +kernel
theorem dX0_lay_1 : decode cX0_lay 1 = .ok (.getfield 27, 3) := by decide +kernel
theorem dX0_lay_4 : decode cX0_lay 4 = .ok (.sipush 3000, 3) := by decide +kernel
theorem dX0_lay_7 : decode cX0_lay 7 = .ok (.if_icmp .lt 5, 3) := by decide +kernel
theorem dX0_lay_10 : decode cX0_lay 10 = .ok (.iconst (-1), 1) := by decide +kernel
theorem dX0_lay_11 : decode cX0_lay 11 = .ok (.ireturn, 1) := by decide +kernel
theorem dX0_lay_12 : decode cX0_lay 12 = .ok (.aload_n 0, 1) := by decide +kernel
theorem dX0_lay_13 : decode cX0_lay 13 = .ok (.getfield 9, 3) := by decide +kernel
theorem dX0_lay_16 : decode cX0_lay 16 = .ok (.aload_n 0, 1) := by decide +kernel
theorem dX0_lay_17 : decode cX0_lay 17 = .ok (.getfield 27, 3) := by decide +kernel
theorem dX0_lay_20 : decode cX0_lay 20 = .ok (.iload_n 1, 1) := by decide +kernel
theorem dX0_lay_21 : decode cX0_lay 21 = .ok (.iastore, 1) := by decide +kernel
theorem dX0_lay_22 : decode cX0_lay 22 = .ok (.aload_n 0, 1) := by decide +kernel
theorem dX0_lay_23 : decode cX0_lay 23 = .ok (.getfield 15, 3) := by decide +kernel
theorem dX0_lay_26 : decode cX0_lay 26 = .ok (.aload_n 0, 1) := by decide +kernel
theorem dX0_lay_27 : decode cX0_lay 27 = .ok (.getfield 27, 3) := by decide +kernel
theorem dX0_lay_30 : decode cX0_lay 30 = .ok (.iload_n 2, 1) := by decide +kernel
theorem dX0_lay_31 : decode cX0_lay 31 = .ok (.iastore, 1) := by decide +kernel
theorem dX0_lay_32 : decode cX0_lay 32 = .ok (.aload_n 0, 1) := by decide +kernel
theorem dX0_lay_33 : decode cX0_lay 33 = .ok (.getfield 18, 3) := by decide +kernel
theorem dX0_lay_36 : decode cX0_lay 36 = .ok (.aload_n 0, 1) := by decide +kernel
theorem dX0_lay_37 : decode cX0_lay 37 = .ok (.getfield 27, 3) := by decide +kernel
theorem dX0_lay_40 : decode cX0_lay 40 = .ok (.iload_n 3, 1) := by decide +kernel
theorem dX0_lay_41 : decode cX0_lay 41 = .ok (.iastore, 1) := by decide +kernel
theorem dX0_lay_42 : decode cX0_lay 42 = .ok (.aload_n 0, 1) := by decide +kernel
theorem dX0_lay_43 : decode cX0_lay 43 = .ok (.getfield 21, 3) := by decide +kernel
theorem dX0_lay_46 : decode cX0_lay 46 = .ok (.aload_n 0, 1) := by decide +kernel
theorem dX0_lay_47 : decode cX0_lay 47 = .ok (.getfield 27, 3) := by decide +kernel
theorem dX0_lay_50 : decode cX0_lay 50 = .ok (.iload 4, 2) := by decide +kernel
theorem dX0_lay_52 : decode cX0_lay 52 = .ok (.iastore, 1) := by decide +kernel
theorem dX0_lay_53 : decode cX0_lay 53 = .ok (.aload_n 0, 1) := by decide +kernel
theorem dX0_lay_54 : decode cX0_lay 54 = .ok (.getfield 24, 3) := by decide +kernel
theorem dX0_lay_57 : decode cX0_lay 57 = .ok (.aload_n 0, 1) := by decide +kernel
theorem dX0_lay_58 : decode cX0_lay 58 = .ok (.getfield 27, 3) := by decide +kernel
theorem dX0_lay_61 : decode cX0_lay 61 = .ok (.iload 5, 2) := by decide +kernel
theorem dX0_lay_63 : decode cX0_lay 63 = .ok (.iastore, 1) := by decide +kernel
theorem dX0_lay_64 : decode cX0_lay 64 = .ok (.aload_n 0, 1) := by decide +kernel
theorem dX0_lay_65 : decode cX0_lay 65 = .ok (.dup, 1) := by decide +kernel
theorem dX0_lay_66 : decode cX0_lay 66 = .ok (.getfield 27, 3) := by decide +kernel
theorem dX0_lay_69 : decode cX0_lay 69 = .ok (.iconst 1, 1) := by decide +kernel
theorem dX0_lay_70 : decode cX0_lay 70 = .ok (.iadd, 1) := by decide +kernel
theorem dX0_lay_71 : decode cX0_lay 71 = .ok (.putfield 27, 3) := by decide +kernel
theorem dX0_lay_74 : decode cX0_lay 74 = .ok (.aload_n 0, 1) := by decide +kernel
theorem dX0_lay_75 : decode cX0_lay 75 = .ok (.getfield 27, 3) := by decide +kernel
theorem dX0_lay_78 : decode cX0_lay 78 = .ok (.iconst 1, 1) := by decide +kernel
theorem dX0_lay_79 : decode cX0_lay 79 = .ok (.isub, 1) := by decide +kernel
theorem dX0_lay_80 : decode cX0_lay 80 = .ok (.ireturn, 1) := by decide +kernel
theorem dX1_clear_0 : decode cX1_clear 0 = .ok (.aload_n 0, 1) := by decide +kernel
theorem dX1_clear_1 : decode cX1_clear 1 = .ok (.iconst 0, 1) := by decide +kernel
theorem dX1_clear_2 : decode cX1_clear 2 = .ok (.putfield 9, 3) := by decide +kernel
theorem dX1_clear_5 : decode cX1_clear 5 = .ok (.aload_n 0, 1) := by decide +kernel
theorem dX1_clear_6 : decode cX1_clear 6 = .ok (.iconst 0, 1) := by decide +kernel
theorem dX1_clear_7 : decode cX1_clear 7 = .ok (.putfield 15, 3) := by decide +kernel
theorem dX1_clear_10 : decode cX1_clear 10 = .ok (.aload_n 0, 1) := by decide +kernel
theorem dX1_clear_11 : decode cX1_clear 11 = .ok (.iconst 0, 1) := by decide +kernel
theorem dX1_clear_12 : decode cX1_clear 12 = .ok (.putfield 18, 3) := by decide +kernel
theorem dX1_clear_15 : decode cX1_clear 15 = .ok (.return_, 1) := by decide +kernel
theorem dX1_contentOf_0 : decode cX1_contentOf 0 = .ok (.lload_n 0, 1) := by decide +kernel
theorem dX1_contentOf_1 : decode cX1_contentOf 1 = .ok (.l2i, 1) := by decide +kernel
theorem dX1_contentOf_2 : decode cX1_contentOf 2 = .ok (.ireturn, 1) := by decide +kernel
theorem dX1_core_0 : decode cX1_core 0 = .ok (.lload_n 1, 1) := by decide +kernel
theorem dX1_core_1 : decode cX1_core 1 = .ok (.lstore_n 3, 1) := by decide +kernel
theorem dX1_core_2 : decode cX1_core 2 = .ok (.aload_n 0, 1) := by decide +kernel
theorem dX1_core_3 : decode cX1_core 3 = .ok (.lload_n 3, 1) := by decide +kernel
theorem dX1_core_4 : decode cX1_core 4 = .ok (.invokevirtual 75, 3) := by decide +kernel
theorem dX1_core_7 : decode cX1_core 7 = .ok (.istore 5, 2) := by decide +kernel
theorem dX1_core_9 : decode cX1_core 9 = .ok (.iconst 0, 1) := by decide +kernel
theorem dX1_core_10 : decode cX1_core 10 = .ok (.istore 6, 2) := by decide +kernel
theorem dX1_core_12 : decode cX1_core 12 = .ok (.iload 6, 2) := by decide +kernel
theorem dX1_core_14 : decode cX1_core 14 = .ok (.bipush 20, 2) := by decide +kernel
theorem dX1_core_16 : decode cX1_core 16 = .ok (.if_icmp .ge 30, 3) := by decide +kernel
theorem dX1_core_19 : decode cX1_core 19 = .ok (.iload 5, 2) := by decide +kernel
theorem dX1_core_21 : decode cX1_core 21 = .ok (.iconst (-1), 1) := by decide +kernel
theorem dX1_core_22 : decode cX1_core 22 = .ok (.if_icmp .eq 24, 3) := by decide +kernel
theorem dX1_core_25 : decode cX1_core 25 = .ok (.aload_n 0, 1) := by decide +kernel
theorem dX1_core_26 : decode cX1_core 26 = .ok (.getfield 32, 3) := by decide +kernel
theorem dX1_core_29 : decode cX1_core 29 = .ok (.iload 5, 2) := by decide +kernel
theorem dX1_core_31 : decode cX1_core 31 = .ok (.laload, 1) := by decide +kernel
theorem dX1_core_32 : decode cX1_core 32 = .ok (.lstore_n 3, 1) := by decide +kernel
theorem dX1_core_33 : decode cX1_core 33 = .ok (.aload_n 0, 1) := by decide +kernel
theorem dX1_core_34 : decode cX1_core 34 = .ok (.lload_n 3, 1) := by decide +kernel
theorem dX1_core_35 : decode cX1_core 35 = .ok (.invokevirtual 75, 3) := by decide +kernel
theorem dX1_core_38 : decode cX1_core 38 = .ok (.istore 5, 2) := by decide +kernel
theorem dX1_core_40 : decode cX1_core 40 = .ok (.iinc 6 1, 3) := by decide +kernel
theorem dX1_core_43 : decode cX1_core 43 = .ok (.goto (-31), 3) := by decide +kernel
theorem dX1_core_46 : decode cX1_core 46 = .ok (.lload_n 3, 1) := by decide +kernel
theorem dX1_core_47 : decode cX1_core 47 = .ok (.lreturn, 1) := by decide +kernel
theorem dX1_fetch_0 : decode cX1_fetch 0 = .ok (.aload_n 0, 1) := by decide +kernel
theorem dX1_fetch_1 : decode cX1_fetch 1 = .ok (.lload_n 1, 1) := by decide +kernel
theorem dX1_fetch_2 : decode cX1_fetch 2 = .ok (.iload_n 3, 1) := by decide +kernel
theorem dX1_fetch_3 : decode cX1_fetch 3 = .ok (.invokevirtual 69, 3) := by decide +kernel
theorem dX1_fetch_6 : decode cX1_fetch 6 = .ok (.ifCond .eq 22, 3) := by decide +kernel
theorem dX1_fetch_9 : decode cX1_fetch 9 = .ok (.aload_n 0, 1) := by decide +kernel
theorem dX1_fetch_10 : decode cX1_fetch 10 = .ok (.getfield 28, 3) := by decide +kernel
theorem dX1_fetch_13 : decode cX1_fetch 13 = .ok (.aload_n 0, 1) := by decide +kernel
theorem dX1_fetch_14 : decode cX1_fetch 14 = .ok (.getfield 21, 3) := by decide +kernel
theorem dX1_fetch_17 : decode cX1_fetch 17 = .ok (.lload_n 1, 1) := by decide +kernel
theorem dX1_fetch_18 : decode cX1_fetch 18 = .ok (.invokestatic 59, 3) := by decide +kernel
theorem dX1_fetch_21 : decode cX1_fetch 21 = .ok (.iaload, 1) := by decide +kernel
theorem dX1_fetch_22 : decode cX1_fetch 22 = .ok (.iload_n 3, 1) := by decide +kernel
theorem dX1_fetch_23 : decode cX1_fetch 23 = .ok (.iadd, 1) := by decide +kernel
theorem dX1_fetch_24 : decode cX1_fetch 24 = .ok (.laload, 1) := by decide +kernel
theorem dX1_fetch_25 : decode cX1_fetch 25 = .ok (.goto 4, 3) := by decide +kernel
theorem dX1_fetch_28 : decode cX1_fetch 28 = .ok (.lconst 0, 1) := by decide +kernel
theorem dX1_fetch_29 : decode cX1_fetch 29 = .ok (.lreturn, 1) := by decide +kernel
theorem dX1_hasPlace_0 : decode cX1_hasPlace 0 = .ok (.iload_n 3, 1) := by decide +kernel
theorem dX1_hasPlace_1 : decode cX1_hasPlace 1 = .ok (.ifCond .lt 16, 3) := by decide +kernel
theorem dX1_hasPlace_4 : decode cX1_hasPlace 4 = .ok (.iload_n 3, 1) := by decide +kernel
theorem dX1_hasPlace_5 : decode cX1_hasPlace 5 = .ok (.aload_n 0, 1) := by decide +kernel
theorem dX1_hasPlace_6 : decode cX1_hasPlace 6 = .ok (.lload_n 1, 1) := by decide +kernel
theorem dX1_hasPlace_7 : decode cX1_hasPlace 7 = .ok (.invokevirtual 66, 3) := by decide +kernel
theorem dX1_hasPlace_10 : decode cX1_hasPlace 10 = .ok (.if_icmp .ge 7, 3) := by decide +kernel
theorem dX1_hasPlace_13 : decode cX1_hasPlace 13 = .ok (.iconst 1, 1) := by decide +kernel
theorem dX1_hasPlace_14 : decode cX1_hasPlace 14 = .ok (.goto 4, 3) := by decide +kernel
theorem dX1_hasPlace_17 : decode cX1_hasPlace 17 = .ok (.iconst 0, 1) := by decide +kernel
theorem dX1_hasPlace_18 : decode cX1_hasPlace 18 = .ok (.ireturn, 1) := by decide +kernel
theorem dX1_hasRoom_0 : decode cX1_hasRoom 0 = .ok (.aload_n 0, 1) := by decide +kernel
theorem dX1_hasRoom_1 : decode cX1_hasRoom 1 = .ok (.getfield 9, 3) := by decide +kernel
theorem dX1_hasRoom_4 : decode cX1_hasRoom 4 = .ok (.aload_n 0, 1) := by decide +kernel
theorem dX1_hasRoom_5 : decode cX1_hasRoom 5 = .ok (.getfield 18, 3) := by decide +kernel
theorem dX1_hasRoom_8 : decode cX1_hasRoom 8 = .ok (.iadd, 1) := by decide +kernel
theorem dX1_hasRoom_9 : decode cX1_hasRoom 9 = .ok (.sipush 1000, 3) := by decide +kernel
theorem dX1_hasRoom_12 : decode cX1_hasRoom 12 = .ok (.if_icmp .ge 19, 3) := by decide +kernel
theorem dX1_hasRoom_15 : decode cX1_hasRoom 15 = .ok (.iload_n 1, 1) := by decide +kernel
theorem dX1_hasRoom_16 : decode cX1_hasRoom 16 = .ok (.sipush 4000, 3) := by decide +kernel
theorem dX1_hasRoom_19 : decode cX1_hasRoom 19 = .ok (.aload_n 0, 1) := by decide +kernel
theorem dX1_hasRoom_20 : decode cX1_hasRoom 20 = .ok (.getfield 15, 3) := by decide +kernel
theorem dX1_hasRoom_23 : decode cX1_hasRoom 23 = .ok (.isub, 1) := by decide +kernel
theorem dX1_hasRoom_24 : decode cX1_hasRoom 24 = .ok (.if_icmp .gt 7, 3) := by decide +kernel
theorem dX1_hasRoom_27 : decode cX1_hasRoom 27 = .ok (.iconst 1, 1) := by decide +kernel
theorem dX1_hasRoom_28 : decode cX1_hasRoom 28 = .ok (.goto 4, 3) := by decide +kernel
theorem dX1_hasRoom_31 : decode cX1_hasRoom 31 = .ok (.iconst 0, 1) := by decide +kernel
theorem dX1_hasRoom_32 : decode cX1_hasRoom 32 = .ok (.ireturn, 1) := by decide +kernel
theorem dX1_lengthOf_0 : decode cX1_lengthOf 0 = .ok (.lload_n 1, 1) := by decide +kernel
theorem dX1_lengthOf_1 : decode cX1_lengthOf 1 = .ok (.invokestatic 59, 3) := by decide +kernel
theorem dX1_lengthOf_4 : decode cX1_lengthOf 4 = .ok (.istore_n 3, 1) := by decide +kernel
theorem dX1_lengthOf_5 : decode cX1_lengthOf 5 = .ok (.lload_n 1, 1) := by decide +kernel
theorem dX1_lengthOf_6 : decode cX1_lengthOf 6 = .ok (.invokestatic 63, 3) := by decide +kernel
theorem dX1_lengthOf_9 : decode cX1_lengthOf 9 = .ok (.iconst 3, 1) := by decide +kernel
theorem dX1_lengthOf_10 : decode cX1_lengthOf 10 = .ok (.if_icmp .ne 24, 3) := by decide +kernel
theorem dX1_lengthOf_13 : decode cX1_lengthOf 13 = .ok (.iload_n 3, 1) := by decide +kernel
theorem dX1_lengthOf_14 : decode cX1_lengthOf 14 = .ok (.ifCond .lt 20, 3) := by decide +kernel
theorem dX1_lengthOf_17 : decode cX1_lengthOf 17 = .ok (.iload_n 3, 1) := by decide +kernel
theorem dX1_lengthOf_18 : decode cX1_lengthOf 18 = .ok (.aload_n 0, 1) := by decide +kernel
theorem dX1_lengthOf_19 : decode cX1_lengthOf 19 = .ok (.getfield 9, 3) := by decide +kernel
theorem dX1_lengthOf_22 : decode cX1_lengthOf 22 = .ok (.if_icmp .ge 12, 3) := by decide +kernel
theorem dX1_lengthOf_25 : decode cX1_lengthOf 25 = .ok (.aload_n 0, 1) := by decide +kernel
theorem dX1_lengthOf_26 : decode cX1_lengthOf 26 = .ok (.getfield 25, 3) := by decide +kernel
theorem dX1_lengthOf_29 : decode cX1_lengthOf 29 = .ok (.iload_n 3, 1) := by decide +kernel
theorem dX1_lengthOf_30 : decode cX1_lengthOf 30 = .ok (.iaload, 1) := by decide +kernel
theorem dX1_lengthOf_31 : decode cX1_lengthOf 31 = .ok (.goto 4, 3) := by decide +kernel
theorem dX1_lengthOf_34 : decode cX1_lengthOf 34 = .ok (.iconst (-1), 1) := by decide +kernel
theorem dX1_lengthOf_35 : decode cX1_lengthOf 35 = .ok (.ireturn, 1) := by decide +kernel
theorem dX1_newRow_0 : decode cX1_newRow 0 = .ok (.aload_n 0, 1) := by decide +kernel
theorem dX1_newRow_1 : decode cX1_newRow 1 = .ok (.getfield 9, 3) := by decide +kernel
theorem dX1_newRow_4 : decode cX1_newRow 4 = .ok (.istore 4, 2) := by decide +kernel
theorem dX1_newRow_6 : decode cX1_newRow 6 = .ok (.aload_n 0, 1) := by decide +kernel
theorem dX1_newRow_7 : decode cX1_newRow 7 = .ok (.dup, 1) := by decide +kernel
theorem dX1_newRow_8 : decode cX1_newRow 8 = .ok (.getfield 9, 3) := by decide +kernel
theorem dX1_newRow_11 : decode cX1_newRow 11 = .ok (.iconst 1, 1) := by decide +kernel
theorem dX1_newRow_12 : decode cX1_newRow 12 = .ok (.iadd, 1) := by decide +kernel
theorem dX1_newRow_13 : decode cX1_newRow 13 = .ok (.putfield 9, 3) := by decide +kernel
theorem dX1_newRow_16 : decode cX1_newRow 16 = .ok (.aload_n 0, 1) := by decide +kernel
theorem dX1_newRow_17 : decode cX1_newRow 17 = .ok (.getfield 21, 3) := by decide +kernel
theorem dX1_newRow_20 : decode cX1_newRow 20 = .ok (.iload 4, 2) := by decide +kernel
theorem dX1_newRow_22 : decode cX1_newRow 22 = .ok (.aload_n 0, 1) := by decide +kernel
theorem dX1_newRow_23 : decode cX1_newRow 23 = .ok (.getfield 15, 3) := by decide +kernel
theorem dX1_newRow_26 : decode cX1_newRow 26 = .ok (.iastore, 1) := by decide +kernel
theorem dX1_newRow_27 : decode cX1_newRow 27 = .ok (.aload_n 0, 1) := by decide +kernel
theorem dX1_newRow_28 : decode cX1_newRow 28 = .ok (.getfield 25, 3) := by decide +kernel
theorem dX1_newRow_31 : decode cX1_newRow 31 = .ok (.iload 4, 2) := by decide +kernel
theorem dX1_newRow_33 : decode cX1_newRow 33 = .ok (.iload_n 1, 1) := by decide +kernel
theorem dX1_newRow_34 : decode cX1_newRow 34 = .ok (.iastore, 1) := by decide +kernel
theorem dX1_newRow_35 : decode cX1_newRow 35 = .ok (.iconst 0, 1) := by decide +kernel
theorem dX1_newRow_36 : decode cX1_newRow 36 = .ok (.istore 5, 2) := by decide +kernel
theorem dX1_newRow_38 : decode cX1_newRow 38 = .ok (.iload 5, 2) := by decide +kernel
theorem dX1_newRow_40 : decode cX1_newRow 40 = .ok (.iload_n 1, 1) := by decide +kernel
theorem dX1_newRow_41 : decode cX1_newRow 41 = .ok (.if_icmp .ge 22, 3) := by decide +kernel
theorem dX1_newRow_44 : decode cX1_newRow 44 = .ok (.aload_n 0, 1) := by decide +kernel
theorem dX1_newRow_45 : decode cX1_newRow 45 = .ok (.getfield 28, 3) := by decide +kernel
theorem dX1_newRow_48 : decode cX1_newRow 48 = .ok (.aload_n 0, 1) := by decide +kernel
theorem dX1_newRow_49 : decode cX1_newRow 49 = .ok (.getfield 15, 3) := by decide +kernel
theorem dX1_newRow_52 : decode cX1_newRow 52 = .ok (.iload 5, 2) := by decide +kernel
theorem dX1_newRow_54 : decode cX1_newRow 54 = .ok (.iadd, 1) := by decide +kernel
theorem dX1_newRow_55 : decode cX1_newRow 55 = .ok (.lload_n 2, 1) := by decide +kernel
theorem dX1_newRow_56 : decode cX1_newRow 56 = .ok (.lastore, 1) := by decide +kernel
theorem dX1_newRow_57 : decode cX1_newRow 57 = .ok (.iinc 5 1, 3) := by decide +kernel
theorem dX1_newRow_60 : decode cX1_newRow 60 = .ok (.goto (-22), 3) := by decide +kernel
theorem dX1_newRow_63 : decode cX1_newRow 63 = .ok (.aload_n 0, 1) := by decide +kernel
theorem dX1_newRow_64 : decode cX1_newRow 64 = .ok (.dup, 1) := by decide +kernel
theorem dX1_newRow_65 : decode cX1_newRow 65 = .ok (.getfield 15, 3) := by decide +kernel
theorem dX1_newRow_68 : decode cX1_newRow 68 = .ok (.iload_n 1, 1) := by decide +kernel
theorem dX1_newRow_69 : decode cX1_newRow 69 = .ok (.iadd, 1) := by decide +kernel
theorem dX1_newRow_70 : decode cX1_newRow 70 = .ok (.putfield 15, 3) := by decide +kernel
theorem dX1_newRow_73 : decode cX1_newRow 73 = .ok (.iconst 3, 1) := by decide +kernel
theorem dX1_newRow_74 : decode cX1_newRow 74 = .ok (.iload 4, 2) := by decide +kernel
theorem dX1_newRow_76 : decode cX1_newRow 76 = .ok (.invokestatic 55, 3) := by decide +kernel
theorem dX1_newRow_79 : decode cX1_newRow 79 = .ok (.lreturn, 1) := by decide +kernel
theorem dX1_sortOf_0 : decode cX1_sortOf 0 = .ok (.lload_n 0, 1) := by decide +kernel
theorem dX1_sortOf_1 : decode cX1_sortOf 1 = .ok (.bipush 32, 2) := by decide +kernel
theorem dX1_sortOf_3 : decode cX1_sortOf 3 = .ok (.lshr, 1) := by decide +kernel
theorem dX1_sortOf_4 : decode cX1_sortOf 4 = .ok (.l2i, 1) := by decide +kernel
theorem dX1_sortOf_5 : decode cX1_sortOf 5 = .ok (.ireturn, 1) := by decide +kernel
theorem dX1_store_0 : decode cX1_store 0 = .ok (.aload_n 0, 1) := by decide +kernel
theorem dX1_store_1 : decode cX1_store 1 = .ok (.lload_n 1, 1) := by decide +kernel
theorem dX1_store_2 : decode cX1_store 2 = .ok (.iload_n 3, 1) := by decide +kernel
theorem dX1_store_3 : decode cX1_store 3 = .ok (.invokevirtual 69, 3) := by decide +kernel
theorem dX1_store_6 : decode cX1_store 6 = .ok (.ifCond .eq 21, 3) := by decide +kernel
theorem dX1_store_9 : decode cX1_store 9 = .ok (.aload_n 0, 1) := by decide +kernel
theorem dX1_store_10 : decode cX1_store 10 = .ok (.getfield 28, 3) := by decide +kernel
theorem dX1_store_13 : decode cX1_store 13 = .ok (.aload_n 0, 1) := by decide +kernel
theorem dX1_store_14 : decode cX1_store 14 = .ok (.getfield 21, 3) := by decide +kernel
theorem dX1_store_17 : decode cX1_store 17 = .ok (.lload_n 1, 1) := by decide +kernel
theorem dX1_store_18 : decode cX1_store 18 = .ok (.invokestatic 59, 3) := by decide +kernel
theorem dX1_store_21 : decode cX1_store 21 = .ok (.iaload, 1) := by decide +kernel
theorem dX1_store_22 : decode cX1_store 22 = .ok (.iload_n 3, 1) := by decide +kernel
theorem dX1_store_23 : decode cX1_store 23 = .ok (.iadd, 1) := by decide +kernel
theorem dX1_store_24 : decode cX1_store 24 = .ok (.lload 4, 2) := by decide +kernel
theorem dX1_store_26 : decode cX1_store 26 = .ok (.lastore, 1) := by decide +kernel
theorem dX1_store_27 : decode cX1_store 27 = .ok (.return_, 1) := by decide +kernel
theorem dX1_valueOf_0 : decode cX1_valueOf 0 = .ok (.iload_n 0, 1) := by decide +kernel
theorem dX1_valueOf_1 : decode cX1_valueOf 1 = .ok (.i2l, 1) := by decide +kernel
theorem dX1_valueOf_2 : decode cX1_valueOf 2 = .ok (.bipush 32, 2) := by decide +kernel
theorem dX1_valueOf_4 : decode cX1_valueOf 4 = .ok (.lshl, 1) := by decide +kernel
theorem dX1_valueOf_5 : decode cX1_valueOf 5 = .ok (.iload_n 1, 1) := by decide +kernel
theorem dX1_valueOf_6 : decode cX1_valueOf 6 = .ok (.i2l, 1) := by decide +kernel
theorem dX1_valueOf_7 : decode cX1_valueOf 7 = .ok (.ldc2_w 53, 3) := by decide +kernel
theorem dX1_valueOf_10 : decode cX1_valueOf 10 = .ok (.land, 1) := by decide +kernel
theorem dX1_valueOf_11 : decode cX1_valueOf 11 = .ok (.lor, 1) := by decide +kernel
theorem dX1_valueOf_12 : decode cX1_valueOf 12 = .ok (.lreturn, 1) := by decide +kernel
theorem dX1_wrappingOf_0 : decode cX1_wrappingOf 0 = .ok (.lload_n 1, 1) := by decide +kernel
theorem dX1_wrappingOf_1 : decode cX1_wrappingOf 1 = .ok (.l2i, 1) := by decide +kernel
theorem dX1_wrappingOf_2 : decode cX1_wrappingOf 2 = .ok (.istore_n 3, 1) := by decide +kernel
theorem dX1_wrappingOf_3 : decode cX1_wrappingOf 3 = .ok (.lload_n 1, 1) := by decide +kernel
theorem dX1_wrappingOf_4 : decode cX1_wrappingOf 4 = .ok (.bipush 32, 2) := by decide +kernel
theorem dX1_wrappingOf_6 : decode cX1_wrappingOf 6 = .ok (.lshr, 1) := by decide +kernel
theorem dX1_wrappingOf_7 : decode cX1_wrappingOf 7 = .ok (.ldc2_w 73, 3) := by decide +kernel
theorem dX1_wrappingOf_10 : decode cX1_wrappingOf 10 = .ok (.lcmp, 1) := by decide +kernel
theorem dX1_wrappingOf_11 : decode cX1_wrappingOf 11 = .ok (.ifCond .ne 19, 3) := by decide +kernel
theorem dX1_wrappingOf_14 : decode cX1_wrappingOf 14 = .ok (.iload_n 3, 1) := by decide +kernel
theorem dX1_wrappingOf_15 : decode cX1_wrappingOf 15 = .ok (.ifCond .lt 15, 3) := by decide +kernel
theorem dX1_wrappingOf_18 : decode cX1_wrappingOf 18 = .ok (.iload_n 3, 1) := by decide +kernel
theorem dX1_wrappingOf_19 : decode cX1_wrappingOf 19 = .ok (.aload_n 0, 1) := by decide +kernel
theorem dX1_wrappingOf_20 : decode cX1_wrappingOf 20 = .ok (.getfield 18, 3) := by decide +kernel
theorem dX1_wrappingOf_23 : decode cX1_wrappingOf 23 = .ok (.if_icmp .ge 7, 3) := by decide +kernel
theorem dX1_wrappingOf_26 : decode cX1_wrappingOf 26 = .ok (.iload_n 3, 1) := by decide +kernel
theorem dX1_wrappingOf_27 : decode cX1_wrappingOf 27 = .ok (.goto 4, 3) := by decide +kernel
theorem dX1_wrappingOf_30 : decode cX1_wrappingOf 30 = .ok (.iconst (-1), 1) := by decide +kernel
theorem dX1_wrappingOf_31 : decode cX1_wrappingOf 31 = .ok (.ireturn, 1) := by decide +kernel
theorem dX1_wrappingsAround_0 : decode cX1_wrappingsAround 0 = .ok (.aload_n 0, 1) := by decide +kernel
theorem dX1_wrappingsAround_1 : decode cX1_wrappingsAround 1 = .ok (.lload_n 1, 1) := by decide +kernel
theorem dX1_wrappingsAround_2 : decode cX1_wrappingsAround 2 = .ok (.invokevirtual 75, 3) := by decide +kernel
theorem dX1_wrappingsAround_5 : decode cX1_wrappingsAround 5 = .ok (.istore_n 3, 1) := by decide +kernel
theorem dX1_wrappingsAround_6 : decode cX1_wrappingsAround 6 = .ok (.iload_n 3, 1) := by decide +kernel
theorem dX1_wrappingsAround_7 : decode cX1_wrappingsAround 7 = .ok (.iconst (-1), 1) := by decide +kernel
theorem dX1_wrappingsAround_8 : decode cX1_wrappingsAround 8 = .ok (.if_icmp .ne 7, 3) := by decide +kernel
theorem dX1_wrappingsAround_11 : decode cX1_wrappingsAround 11 = .ok (.iconst 0, 1) := by decide +kernel
theorem dX1_wrappingsAround_12 : decode cX1_wrappingsAround 12 = .ok (.goto 9, 3) := by decide +kernel
theorem dX1_wrappingsAround_15 : decode cX1_wrappingsAround 15 = .ok (.aload_n 0, 1) := by decide +kernel
theorem dX1_wrappingsAround_16 : decode cX1_wrappingsAround 16 = .ok (.getfield 50, 3) := by decide +kernel
theorem dX1_wrappingsAround_19 : decode cX1_wrappingsAround 19 = .ok (.iload_n 3, 1) := by decide +kernel
theorem dX1_wrappingsAround_20 : decode cX1_wrappingsAround 20 = .ok (.iaload, 1) := by decide +kernel
theorem dX1_wrappingsAround_21 : decode cX1_wrappingsAround 21 = .ok (.ireturn, 1) := by decide +kernel
theorem dX2_asTold_0 : decode cX2_asTold 0 = .ok (.aload_n 0, 1) := by decide +kernel
theorem dX2_asTold_1 : decode cX2_asTold 1 = .ok (.getfield 15, 3) := by decide +kernel
theorem dX2_asTold_4 : decode cX2_asTold 4 = .ok (.getfield 105, 3) := by decide +kernel
theorem dX2_asTold_7 : decode cX2_asTold 7 = .ok (.iload_n 1, 1) := by decide +kernel
theorem dX2_asTold_8 : decode cX2_asTold 8 = .ok (.baload, 1) := by decide +kernel
theorem dX2_asTold_9 : decode cX2_asTold 9 = .ok (.ifCond .eq 7, 3) := by decide +kernel
theorem dX2_asTold_12 : decode cX2_asTold 12 = .ok (.iload_n 2, 1) := by decide +kernel
theorem dX2_asTold_13 : decode cX2_asTold 13 = .ok (.goto 4, 3) := by decide +kernel
theorem dX2_asTold_16 : decode cX2_asTold 16 = .ok (.iconst 2, 1) := by decide +kernel
theorem dX2_asTold_17 : decode cX2_asTold 17 = .ok (.ireturn, 1) := by decide +kernel
theorem dX2_below_0 : decode cX2_below 0 = .ok (.aload_n 0, 1) := by decide +kernel
theorem dX2_below_1 : decode cX2_below 1 = .ok (.getfield 59, 3) := by decide +kernel
theorem dX2_below_4 : decode cX2_below 4 = .ok (.iconst 1, 1) := by decide +kernel
theorem dX2_below_5 : decode cX2_below 5 = .ok (.isub, 1) := by decide +kernel
theorem dX2_below_6 : decode cX2_below 6 = .ok (.iload_n 1, 1) := by decide +kernel
theorem dX2_below_7 : decode cX2_below 7 = .ok (.isub, 1) := by decide +kernel
theorem dX2_below_8 : decode cX2_below 8 = .ok (.istore_n 2, 1) := by decide +kernel
theorem dX2_below_9 : decode cX2_below 9 = .ok (.iload_n 2, 1) := by decide +kernel
theorem dX2_below_10 : decode cX2_below 10 = .ok (.ifCond .lt 12, 3) := by decide +kernel
theorem dX2_below_13 : decode cX2_below 13 = .ok (.aload_n 0, 1) := by decide +kernel
theorem dX2_below_14 : decode cX2_below 14 = .ok (.getfield 50, 3) := by decide +kernel
theorem dX2_below_17 : decode cX2_below 17 = .ok (.iload_n 2, 1) := by decide +kernel
theorem dX2_below_18 : decode cX2_below 18 = .ok (.iaload, 1) := by decide +kernel
theorem dX2_below_19 : decode cX2_below 19 = .ok (.goto 4, 3) := by decide +kernel
theorem dX2_below_22 : decode cX2_below 22 = .ok (.iconst 2, 1) := by decide +kernel
theorem dX2_below_23 : decode cX2_below 23 = .ok (.ireturn, 1) := by decide +kernel
theorem dX2_takeHeader_0 : decode cX2_takeHeader 0 = .ok (.iload_n 1, 1) := by decide +kernel
theorem dX2_takeHeader_1 : decode cX2_takeHeader 1 = .ok (.iconst 4, 1) := by decide +kernel
theorem dX2_takeHeader_2 : decode cX2_takeHeader 2 = .ok (.imul, 1) := by decide +kernel
theorem dX2_takeHeader_3 : decode cX2_takeHeader 3 = .ok (.istore_n 2, 1) := by decide +kernel
theorem dX2_takeHeader_4 : decode cX2_takeHeader 4 = .ok (.iconst 0, 1) := by decide +kernel
theorem dX2_takeHeader_5 : decode cX2_takeHeader 5 = .ok (.istore_n 3, 1) := by decide +kernel
theorem dX2_takeHeader_6 : decode cX2_takeHeader 6 = .ok (.iload_n 3, 1) := by decide +kernel
theorem dX2_takeHeader_7 : decode cX2_takeHeader 7 = .ok (.aload_n 0, 1) := by decide +kernel
theorem dX2_takeHeader_8 : decode cX2_takeHeader 8 = .ok (.getfield 15, 3) := by decide +kernel
theorem dX2_takeHeader_11 : decode cX2_takeHeader 11 = .ok (.getfield 88, 3) := by decide +kernel
theorem dX2_takeHeader_14 : decode cX2_takeHeader 14 = .ok (.iload_n 1, 1) := by decide +kernel
theorem dX2_takeHeader_15 : decode cX2_takeHeader 15 = .ok (.iaload, 1) := by decide +kernel
theorem dX2_takeHeader_16 : decode cX2_takeHeader 16 = .ok (.if_icmp .ge 33, 3) := by decide +kernel
theorem dX2_takeHeader_19 : decode cX2_takeHeader 19 = .ok (.aload_n 0, 1) := by decide +kernel
theorem dX2_takeHeader_20 : decode cX2_takeHeader 20 = .ok (.getfield 37, 3) := by decide +kernel
theorem dX2_takeHeader_23 : decode cX2_takeHeader 23 = .ok (.iload_n 2, 1) := by decide +kernel
theorem dX2_takeHeader_24 : decode cX2_takeHeader 24 = .ok (.iload_n 3, 1) := by decide +kernel
theorem dX2_takeHeader_25 : decode cX2_takeHeader 25 = .ok (.iadd, 1) := by decide +kernel
theorem dX2_takeHeader_26 : decode cX2_takeHeader 26 = .ok (.aload_n 0, 1) := by decide +kernel
theorem dX2_takeHeader_27 : decode cX2_takeHeader 27 = .ok (.iload_n 1, 1) := by decide +kernel
theorem dX2_takeHeader_28 : decode cX2_takeHeader 28 = .ok (.aload_n 0, 1) := by decide +kernel
theorem dX2_takeHeader_29 : decode cX2_takeHeader 29 = .ok (.getfield 15, 3) := by decide +kernel
theorem dX2_takeHeader_32 : decode cX2_takeHeader 32 = .ok (.getfield 91, 3) := by decide +kernel
theorem dX2_takeHeader_35 : decode cX2_takeHeader 35 = .ok (.iload_n 2, 1) := by decide +kernel
theorem dX2_takeHeader_36 : decode cX2_takeHeader 36 = .ok (.iload_n 3, 1) := by decide +kernel
theorem dX2_takeHeader_37 : decode cX2_takeHeader 37 = .ok (.iadd, 1) := by decide +kernel
theorem dX2_takeHeader_38 : decode cX2_takeHeader 38 = .ok (.iaload, 1) := by decide +kernel
theorem dX2_takeHeader_39 : decode cX2_takeHeader 39 = .ok (.invokevirtual 92, 3) := by decide +kernel
theorem dX2_takeHeader_42 : decode cX2_takeHeader 42 = .ok (.iastore, 1) := by decide +kernel
theorem dX2_takeHeader_43 : decode cX2_takeHeader 43 = .ok (.iinc 3 1, 3) := by decide +kernel
theorem dX2_takeHeader_46 : decode cX2_takeHeader 46 = .ok (.goto (-40), 3) := by decide +kernel
theorem dX2_takeHeader_49 : decode cX2_takeHeader 49 = .ok (.aload_n 0, 1) := by decide +kernel
theorem dX2_takeHeader_50 : decode cX2_takeHeader 50 = .ok (.getfield 41, 3) := by decide +kernel
theorem dX2_takeHeader_53 : decode cX2_takeHeader 53 = .ok (.iload_n 1, 1) := by decide +kernel
theorem dX2_takeHeader_54 : decode cX2_takeHeader 54 = .ok (.aload_n 0, 1) := by decide +kernel
theorem dX2_takeHeader_55 : decode cX2_takeHeader 55 = .ok (.iload_n 1, 1) := by decide +kernel
theorem dX2_takeHeader_56 : decode cX2_takeHeader 56 = .ok (.aload_n 0, 1) := by decide +kernel
theorem dX2_takeHeader_57 : decode cX2_takeHeader 57 = .ok (.getfield 15, 3) := by decide +kernel
theorem dX2_takeHeader_60 : decode cX2_takeHeader 60 = .ok (.getfield 96, 3) := by decide +kernel
theorem dX2_takeHeader_63 : decode cX2_takeHeader 63 = .ok (.iload_n 1, 1) := by decide +kernel
theorem dX2_takeHeader_64 : decode cX2_takeHeader 64 = .ok (.iaload, 1) := by decide +kernel
theorem dX2_takeHeader_65 : decode cX2_takeHeader 65 = .ok (.invokevirtual 92, 3) := by decide +kernel
theorem dX2_takeHeader_68 : decode cX2_takeHeader 68 = .ok (.iastore, 1) := by decide +kernel
theorem dX2_takeHeader_69 : decode cX2_takeHeader 69 = .ok (.aload_n 0, 1) := by decide +kernel
theorem dX2_takeHeader_70 : decode cX2_takeHeader 70 = .ok (.getfield 44, 3) := by decide +kernel
theorem dX2_takeHeader_73 : decode cX2_takeHeader 73 = .ok (.iload_n 1, 1) := by decide +kernel
theorem dX2_takeHeader_74 : decode cX2_takeHeader 74 = .ok (.aload_n 0, 1) := by decide +kernel
theorem dX2_takeHeader_75 : decode cX2_takeHeader 75 = .ok (.getfield 19, 3) := by decide +kernel
theorem dX2_takeHeader_78 : decode cX2_takeHeader 78 = .ok (.aload_n 0, 1) := by decide +kernel
theorem dX2_takeHeader_79 : decode cX2_takeHeader 79 = .ok (.getfield 37, 3) := by decide +kernel
theorem dX2_takeHeader_82 : decode cX2_takeHeader 82 = .ok (.iload_n 2, 1) := by decide +kernel
theorem dX2_takeHeader_83 : decode cX2_takeHeader 83 = .ok (.aload_n 0, 1) := by decide +kernel
theorem dX2_takeHeader_84 : decode cX2_takeHeader 84 = .ok (.getfield 15, 3) := by decide +kernel
theorem dX2_takeHeader_87 : decode cX2_takeHeader 87 = .ok (.getfield 88, 3) := by decide +kernel
theorem dX2_takeHeader_90 : decode cX2_takeHeader 90 = .ok (.iload_n 1, 1) := by decide +kernel
theorem dX2_takeHeader_91 : decode cX2_takeHeader 91 = .ok (.iaload, 1) := by decide +kernel
theorem dX2_takeHeader_92 : decode cX2_takeHeader 92 = .ok (.aload_n 0, 1) := by decide +kernel
theorem dX2_takeHeader_93 : decode cX2_takeHeader 93 = .ok (.getfield 41, 3) := by decide +kernel
theorem dX2_takeHeader_96 : decode cX2_takeHeader 96 = .ok (.iload_n 1, 1) := by decide +kernel
theorem dX2_takeHeader_97 : decode cX2_takeHeader 97 = .ok (.iaload, 1) := by decide +kernel
theorem dX2_takeHeader_98 : decode cX2_takeHeader 98 = .ok (.invokevirtual 97, 3) := by decide +kernel
theorem dX2_takeHeader_101 : decode cX2_takeHeader 101 = .ok (.iastore, 1) := by decide +kernel
theorem dX2_takeHeader_102 : decode cX2_takeHeader 102 = .ok (.aload_n 0, 1) := by decide +kernel
theorem dX2_takeHeader_103 : decode cX2_takeHeader 103 = .ok (.getfield 33, 3) := by decide +kernel
theorem dX2_takeHeader_106 : decode cX2_takeHeader 106 = .ok (.iload_n 1, 1) := by decide +kernel
theorem dX2_takeHeader_107 : decode cX2_takeHeader 107 = .ok (.aload_n 0, 1) := by decide +kernel
theorem dX2_takeHeader_108 : decode cX2_takeHeader 108 = .ok (.getfield 19, 3) := by decide +kernel
theorem dX2_takeHeader_111 : decode cX2_takeHeader 111 = .ok (.aload_n 0, 1) := by decide +kernel
theorem dX2_takeHeader_112 : decode cX2_takeHeader 112 = .ok (.getfield 44, 3) := by decide +kernel
theorem dX2_takeHeader_115 : decode cX2_takeHeader 115 = .ok (.iload_n 1, 1) := by decide +kernel
theorem dX2_takeHeader_116 : decode cX2_takeHeader 116 = .ok (.iaload, 1) := by decide +kernel
theorem dX2_takeHeader_117 : decode cX2_takeHeader 117 = .ok (.invokevirtual 101, 3) := by decide +kernel
theorem dX2_takeHeader_120 : decode cX2_takeHeader 120 = .ok (.bastore, 1) := by decide +kernel
theorem dX2_takeHeader_121 : decode cX2_takeHeader 121 = .ok (.return_, 1) := by decide +kernel
theorem dX3_bucketOf_0 : decode cX3_bucketOf 0 = .ok (.iload_n 0, 1) := by decide +kernel
theorem dX3_bucketOf_1 : decode cX3_bucketOf 1 = .ok (.iload_n 0, 1) := by decide +kernel
theorem dX3_bucketOf_2 : decode cX3_bucketOf 2 = .ok (.bipush 9, 2) := by decide +kernel
theorem dX3_bucketOf_4 : decode cX3_bucketOf 4 = .ok (.iushr, 1) := by decide +kernel
theorem dX3_bucketOf_5 : decode cX3_bucketOf 5 = .ok (.ixor, 1) := by decide +kernel
theorem dX3_bucketOf_6 : decode cX3_bucketOf 6 = .ok (.iload_n 0, 1) := by decide +kernel
theorem dX3_bucketOf_7 : decode cX3_bucketOf 7 = .ok (.bipush 18, 2) := by decide +kernel
theorem dX3_bucketOf_9 : decode cX3_bucketOf 9 = .ok (.iushr, 1) := by decide +kernel
theorem dX3_bucketOf_10 : decode cX3_bucketOf 10 = .ok (.ixor, 1) := by decide +kernel
theorem dX3_bucketOf_11 : decode cX3_bucketOf 11 = .ok (.sipush 511, 3) := by decide +kernel
theorem dX3_bucketOf_14 : decode cX3_bucketOf 14 = .ok (.iand, 1) := by decide +kernel
theorem dX3_bucketOf_15 : decode cX3_bucketOf 15 = .ok (.ireturn, 1) := by decide +kernel
theorem dX3_codeOf_0 : decode cX3_codeOf 0 = .ok (.iload_n 1, 1) := by decide +kernel
theorem dX3_codeOf_1 : decode cX3_codeOf 1 = .ok (.ifCond .lt 20, 3) := by decide +kernel
theorem dX3_codeOf_4 : decode cX3_codeOf 4 = .ok (.iload_n 1, 1) := by decide +kernel
theorem dX3_codeOf_5 : decode cX3_codeOf 5 = .ok (.aload_n 0, 1) := by decide +kernel
theorem dX3_codeOf_6 : decode cX3_codeOf 6 = .ok (.getfield 34, 3) := by decide +kernel
theorem dX3_codeOf_9 : decode cX3_codeOf 9 = .ok (.if_icmp .ge 12, 3) := by decide +kernel
theorem dX3_codeOf_12 : decode cX3_codeOf 12 = .ok (.aload_n 0, 1) := by decide +kernel
theorem dX3_codeOf_13 : decode cX3_codeOf 13 = .ok (.getfield 21, 3) := by decide +kernel
theorem dX3_codeOf_16 : decode cX3_codeOf 16 = .ok (.iload_n 1, 1) := by decide +kernel
theorem dX3_codeOf_17 : decode cX3_codeOf 17 = .ok (.iaload, 1) := by decide +kernel
theorem dX3_codeOf_18 : decode cX3_codeOf 18 = .ok (.goto 4, 3) := by decide +kernel
theorem dX3_codeOf_21 : decode cX3_codeOf 21 = .ok (.iconst (-1), 1) := by decide +kernel
theorem dX3_codeOf_22 : decode cX3_codeOf 22 = .ok (.ireturn, 1) := by decide +kernel
theorem dX3_cutTo_0 : decode cX3_cutTo 0 = .ok (.aload_n 0, 1) := by decide +kernel
theorem dX3_cutTo_1 : decode cX3_cutTo 1 = .ok (.getfield 34, 3) := by decide +kernel
theorem dX3_cutTo_4 : decode cX3_cutTo 4 = .ok (.iconst 1, 1) := by decide +kernel
theorem dX3_cutTo_5 : decode cX3_cutTo 5 = .ok (.isub, 1) := by decide +kernel
theorem dX3_cutTo_6 : decode cX3_cutTo 6 = .ok (.istore_n 2, 1) := by decide +kernel
theorem dX3_cutTo_7 : decode cX3_cutTo 7 = .ok (.iload_n 2, 1) := by decide +kernel
theorem dX3_cutTo_8 : decode cX3_cutTo 8 = .ok (.iload_n 1, 1) := by decide +kernel
theorem dX3_cutTo_9 : decode cX3_cutTo 9 = .ok (.if_icmp .lt 40, 3) := by decide +kernel
theorem dX3_cutTo_12 : decode cX3_cutTo 12 = .ok (.iload_n 2, 1) := by decide +kernel
theorem dX3_cutTo_13 : decode cX3_cutTo 13 = .ok (.bipush 9, 2) := by decide +kernel
theorem dX3_cutTo_15 : decode cX3_cutTo 15 = .ok (.if_icmp .lt 34, 3) := by decide +kernel
theorem dX3_cutTo_18 : decode cX3_cutTo 18 = .ok (.aload_n 0, 1) := by decide +kernel
theorem dX3_cutTo_19 : decode cX3_cutTo 19 = .ok (.getfield 28, 3) := by decide +kernel
theorem dX3_cutTo_22 : decode cX3_cutTo 22 = .ok (.aload_n 0, 1) := by decide +kernel
theorem dX3_cutTo_23 : decode cX3_cutTo 23 = .ok (.getfield 21, 3) := by decide +kernel
theorem dX3_cutTo_26 : decode cX3_cutTo 26 = .ok (.iload_n 2, 1) := by decide +kernel
theorem dX3_cutTo_27 : decode cX3_cutTo 27 = .ok (.iaload, 1) := by decide +kernel
theorem dX3_cutTo_28 : decode cX3_cutTo 28 = .ok (.invokestatic 60, 3) := by decide +kernel
theorem dX3_cutTo_31 : decode cX3_cutTo 31 = .ok (.aload_n 0, 1) := by decide +kernel
theorem dX3_cutTo_32 : decode cX3_cutTo 32 = .ok (.getfield 31, 3) := by decide +kernel
theorem dX3_cutTo_35 : decode cX3_cutTo 35 = .ok (.iload_n 2, 1) := by decide +kernel
theorem dX3_cutTo_36 : decode cX3_cutTo 36 = .ok (.iaload, 1) := by decide +kernel
theorem dX3_cutTo_37 : decode cX3_cutTo 37 = .ok (.iastore, 1) := by decide +kernel
theorem dX3_cutTo_38 : decode cX3_cutTo 38 = .ok (.aload_n 0, 1) := by decide +kernel
theorem dX3_cutTo_39 : decode cX3_cutTo 39 = .ok (.iload_n 2, 1) := by decide +kernel
theorem dX3_cutTo_40 : decode cX3_cutTo 40 = .ok (.putfield 34, 3) := by decide +kernel
theorem dX3_cutTo_43 : decode cX3_cutTo 43 = .ok (.iinc 2 (-1), 3) := by decide +kernel
theorem dX3_cutTo_46 : decode cX3_cutTo 46 = .ok (.goto (-39), 3) := by decide +kernel
theorem dX3_cutTo_49 : decode cX3_cutTo 49 = .ok (.return_, 1) := by decide +kernel
theorem dX3_findOrAdd_0 : decode cX3_findOrAdd 0 = .ok (.iload 6, 2) := by decide +kernel
theorem dX3_findOrAdd_2 : decode cX3_findOrAdd 2 = .ok (.invokestatic 60, 3) := by decide +kernel
theorem dX3_findOrAdd_5 : decode cX3_findOrAdd 5 = .ok (.istore 7, 2) := by decide +kernel
theorem dX3_findOrAdd_7 : decode cX3_findOrAdd 7 = .ok (.aload_n 0, 1) := by decide +kernel
theorem dX3_findOrAdd_8 : decode cX3_findOrAdd 8 = .ok (.getfield 28, 3) := by decide +kernel
theorem dX3_findOrAdd_11 : decode cX3_findOrAdd 11 = .ok (.iload 7, 2) := by decide +kernel
theorem dX3_findOrAdd_13 : decode cX3_findOrAdd 13 = .ok (.iaload, 1) := by decide +kernel
theorem dX3_findOrAdd_14 : decode cX3_findOrAdd 14 = .ok (.istore 8, 2) := by decide +kernel
theorem dX3_findOrAdd_16 : decode cX3_findOrAdd 16 = .ok (.iconst 0, 1) := by decide +kernel
theorem dX3_findOrAdd_17 : decode cX3_findOrAdd 17 = .ok (.istore 9, 2) := by decide +kernel
theorem dX3_findOrAdd_19 : decode cX3_findOrAdd 19 = .ok (.iload 9, 2) := by decide +kernel
theorem dX3_findOrAdd_21 : decode cX3_findOrAdd 21 = .ok (.sipush 1549, 3) := by decide +kernel
theorem dX3_findOrAdd_24 : decode cX3_findOrAdd 24 = .ok (.if_icmp .ge 53, 3) := by decide +kernel
theorem dX3_findOrAdd_27 : decode cX3_findOrAdd 27 = .ok (.iload 8, 2) := by decide +kernel
theorem dX3_findOrAdd_29 : decode cX3_findOrAdd 29 = .ok (.iconst (-1), 1) := by decide +kernel
theorem dX3_findOrAdd_30 : decode cX3_findOrAdd 30 = .ok (.if_icmp .eq 47, 3) := by decide +kernel
theorem dX3_findOrAdd_33 : decode cX3_findOrAdd 33 = .ok (.aload_n 0, 1) := by decide +kernel
theorem dX3_findOrAdd_34 : decode cX3_findOrAdd 34 = .ok (.getfield 11, 3) := by decide +kernel
theorem dX3_findOrAdd_37 : decode cX3_findOrAdd 37 = .ok (.iload 8, 2) := by decide +kernel
theorem dX3_findOrAdd_39 : decode cX3_findOrAdd 39 = .ok (.iaload, 1) := by decide +kernel
theorem dX3_findOrAdd_40 : decode cX3_findOrAdd 40 = .ok (.iload_n 1, 1) := by decide +kernel
theorem dX3_findOrAdd_41 : decode cX3_findOrAdd 41 = .ok (.if_icmp .ne 21, 3) := by decide +kernel
theorem dX3_findOrAdd_44 : decode cX3_findOrAdd 44 = .ok (.aload_n 0, 1) := by decide +kernel
theorem dX3_findOrAdd_45 : decode cX3_findOrAdd 45 = .ok (.iload 8, 2) := by decide +kernel
theorem dX3_findOrAdd_47 : decode cX3_findOrAdd 47 = .ok (.iload_n 2, 1) := by decide +kernel
theorem dX3_findOrAdd_48 : decode cX3_findOrAdd 48 = .ok (.aload_n 3, 1) := by decide +kernel
theorem dX3_findOrAdd_49 : decode cX3_findOrAdd 49 = .ok (.iload 4, 2) := by decide +kernel
theorem dX3_findOrAdd_51 : decode cX3_findOrAdd 51 = .ok (.iload 5, 2) := by decide +kernel
theorem dX3_findOrAdd_53 : decode cX3_findOrAdd 53 = .ok (.invokevirtual 66, 3) := by decide +kernel
theorem dX3_findOrAdd_56 : decode cX3_findOrAdd 56 = .ok (.ifCond .eq 6, 3) := by decide +kernel
theorem dX3_findOrAdd_59 : decode cX3_findOrAdd 59 = .ok (.iload 8, 2) := by decide +kernel
theorem dX3_findOrAdd_61 : decode cX3_findOrAdd 61 = .ok (.ireturn, 1) := by decide +kernel
theorem dX3_findOrAdd_62 : decode cX3_findOrAdd 62 = .ok (.aload_n 0, 1) := by decide +kernel
theorem dX3_findOrAdd_63 : decode cX3_findOrAdd 63 = .ok (.getfield 31, 3) := by decide +kernel
theorem dX3_findOrAdd_66 : decode cX3_findOrAdd 66 = .ok (.iload 8, 2) := by decide +kernel
theorem dX3_findOrAdd_68 : decode cX3_findOrAdd 68 = .ok (.iaload, 1) := by decide +kernel
theorem dX3_findOrAdd_69 : decode cX3_findOrAdd 69 = .ok (.istore 8, 2) := by decide +kernel
theorem dX3_findOrAdd_71 : decode cX3_findOrAdd 71 = .ok (.iinc 9 1, 3) := by decide +kernel
theorem dX3_findOrAdd_74 : decode cX3_findOrAdd 74 = .ok (.goto (-55), 3) := by decide +kernel
theorem dX3_findOrAdd_77 : decode cX3_findOrAdd 77 = .ok (.aload_n 0, 1) := by decide +kernel
theorem dX3_findOrAdd_78 : decode cX3_findOrAdd 78 = .ok (.getfield 34, 3) := by decide +kernel
theorem dX3_findOrAdd_81 : decode cX3_findOrAdd 81 = .ok (.sipush 1549, 3) := by decide +kernel
theorem dX3_findOrAdd_84 : decode cX3_findOrAdd 84 = .ok (.if_icmp .lt 5, 3) := by decide +kernel
theorem dX3_findOrAdd_87 : decode cX3_findOrAdd 87 = .ok (.iconst 2, 1) := by decide +kernel
theorem dX3_findOrAdd_88 : decode cX3_findOrAdd 88 = .ok (.ireturn, 1) := by decide +kernel
theorem dX3_findOrAdd_89 : decode cX3_findOrAdd 89 = .ok (.aload_n 0, 1) := by decide +kernel
theorem dX3_findOrAdd_90 : decode cX3_findOrAdd 90 = .ok (.getfield 34, 3) := by decide +kernel
theorem dX3_findOrAdd_93 : decode cX3_findOrAdd 93 = .ok (.istore 8, 2) := by decide +kernel
theorem dX3_findOrAdd_95 : decode cX3_findOrAdd 95 = .ok (.aload_n 0, 1) := by decide +kernel
theorem dX3_findOrAdd_96 : decode cX3_findOrAdd 96 = .ok (.dup, 1) := by decide +kernel
theorem dX3_findOrAdd_97 : decode cX3_findOrAdd 97 = .ok (.getfield 34, 3) := by decide +kernel
theorem dX3_findOrAdd_100 : decode cX3_findOrAdd 100 = .ok (.iconst 1, 1) := by decide +kernel
theorem dX3_findOrAdd_101 : decode cX3_findOrAdd 101 = .ok (.iadd, 1) := by decide +kernel
theorem dX3_findOrAdd_102 : decode cX3_findOrAdd 102 = .ok (.putfield 34, 3) := by decide +kernel
theorem dX3_findOrAdd_105 : decode cX3_findOrAdd 105 = .ok (.aload_n 0, 1) := by decide +kernel
theorem dX3_findOrAdd_106 : decode cX3_findOrAdd 106 = .ok (.getfield 11, 3) := by decide +kernel
theorem dX3_findOrAdd_109 : decode cX3_findOrAdd 109 = .ok (.iload 8, 2) := by decide +kernel
theorem dX3_findOrAdd_111 : decode cX3_findOrAdd 111 = .ok (.iload_n 1, 1) := by decide +kernel
theorem dX3_findOrAdd_112 : decode cX3_findOrAdd 112 = .ok (.iastore, 1) := by decide +kernel
theorem dX3_findOrAdd_113 : decode cX3_findOrAdd 113 = .ok (.aload_n 0, 1) := by decide +kernel
theorem dX3_findOrAdd_114 : decode cX3_findOrAdd 114 = .ok (.getfield 15, 3) := by decide +kernel
theorem dX3_findOrAdd_117 : decode cX3_findOrAdd 117 = .ok (.iload 8, 2) := by decide +kernel
theorem dX3_findOrAdd_119 : decode cX3_findOrAdd 119 = .ok (.iload_n 2, 1) := by decide +kernel
theorem dX3_findOrAdd_120 : decode cX3_findOrAdd 120 = .ok (.iastore, 1) := by decide +kernel
theorem dX3_findOrAdd_121 : decode cX3_findOrAdd 121 = .ok (.aload_n 0, 1) := by decide +kernel
theorem dX3_findOrAdd_122 : decode cX3_findOrAdd 122 = .ok (.getfield 21, 3) := by decide +kernel
theorem dX3_findOrAdd_125 : decode cX3_findOrAdd 125 = .ok (.iload 8, 2) := by decide +kernel
theorem dX3_findOrAdd_127 : decode cX3_findOrAdd 127 = .ok (.iload 6, 2) := by decide +kernel
theorem dX3_findOrAdd_129 : decode cX3_findOrAdd 129 = .ok (.iastore, 1) := by decide +kernel
theorem dX3_findOrAdd_130 : decode cX3_findOrAdd 130 = .ok (.aload_n 0, 1) := by decide +kernel
theorem dX3_findOrAdd_131 : decode cX3_findOrAdd 131 = .ok (.getfield 18, 3) := by decide +kernel
theorem dX3_findOrAdd_134 : decode cX3_findOrAdd 134 = .ok (.iload 8, 2) := by decide +kernel
theorem dX3_findOrAdd_136 : decode cX3_findOrAdd 136 = .ok (.iconst 5, 1) := by decide +kernel
theorem dX3_findOrAdd_137 : decode cX3_findOrAdd 137 = .ok (.imul, 1) := by decide +kernel
theorem dX3_findOrAdd_138 : decode cX3_findOrAdd 138 = .ok (.iconst 4, 1) := by decide +kernel
theorem dX3_findOrAdd_139 : decode cX3_findOrAdd 139 = .ok (.iadd, 1) := by decide +kernel
theorem dX3_findOrAdd_140 : decode cX3_findOrAdd 140 = .ok (.iload 5, 2) := by decide +kernel
theorem dX3_findOrAdd_142 : decode cX3_findOrAdd 142 = .ok (.iastore, 1) := by decide +kernel
theorem dX3_findOrAdd_143 : decode cX3_findOrAdd 143 = .ok (.iload_n 1, 1) := by decide +kernel
theorem dX3_findOrAdd_144 : decode cX3_findOrAdd 144 = .ok (.iconst 2, 1) := by decide +kernel
theorem dX3_findOrAdd_145 : decode cX3_findOrAdd 145 = .ok (.if_icmp .eq 17, 3) := by decide +kernel
theorem dX3_findOrAdd_148 : decode cX3_findOrAdd 148 = .ok (.iload_n 1, 1) := by decide +kernel
theorem dX3_findOrAdd_149 : decode cX3_findOrAdd 149 = .ok (.iconst 3, 1) := by decide +kernel
theorem dX3_findOrAdd_150 : decode cX3_findOrAdd 150 = .ok (.if_icmp .lt 16, 3) := by decide +kernel
theorem dX3_findOrAdd_153 : decode cX3_findOrAdd 153 = .ok (.aload_n 0, 1) := by decide +kernel
theorem dX3_findOrAdd_154 : decode cX3_findOrAdd 154 = .ok (.iload 5, 2) := by decide +kernel
theorem dX3_findOrAdd_156 : decode cX3_findOrAdd 156 = .ok (.invokevirtual 70, 3) := by decide +kernel
theorem dX3_findOrAdd_159 : decode cX3_findOrAdd 159 = .ok (.ifCond .eq 7, 3) := by decide +kernel
theorem dX3_findOrAdd_162 : decode cX3_findOrAdd 162 = .ok (.iconst 1, 1) := by decide +kernel
theorem dX3_findOrAdd_163 : decode cX3_findOrAdd 163 = .ok (.goto 4, 3) := by decide +kernel
theorem dX3_findOrAdd_166 : decode cX3_findOrAdd 166 = .ok (.iconst 0, 1) := by decide +kernel
theorem dX3_findOrAdd_167 : decode cX3_findOrAdd 167 = .ok (.istore 9, 2) := by decide +kernel
theorem dX3_findOrAdd_169 : decode cX3_findOrAdd 169 = .ok (.iconst 0, 1) := by decide +kernel
theorem dX3_findOrAdd_170 : decode cX3_findOrAdd 170 = .ok (.istore 10, 2) := by decide +kernel
theorem dX3_findOrAdd_172 : decode cX3_findOrAdd 172 = .ok (.iload 10, 2) := by decide +kernel
theorem dX3_findOrAdd_174 : decode cX3_findOrAdd 174 = .ok (.iload_n 2, 1) := by decide +kernel
theorem dX3_findOrAdd_175 : decode cX3_findOrAdd 175 = .ok (.if_icmp .ge 54, 3) := by decide +kernel
theorem dX3_findOrAdd_178 : decode cX3_findOrAdd 178 = .ok (.aload_n 0, 1) := by decide +kernel
theorem dX3_findOrAdd_179 : decode cX3_findOrAdd 179 = .ok (.getfield 18, 3) := by decide +kernel
theorem dX3_findOrAdd_182 : decode cX3_findOrAdd 182 = .ok (.iload 8, 2) := by decide +kernel
theorem dX3_findOrAdd_184 : decode cX3_findOrAdd 184 = .ok (.iconst 5, 1) := by decide +kernel
theorem dX3_findOrAdd_185 : decode cX3_findOrAdd 185 = .ok (.imul, 1) := by decide +kernel
theorem dX3_findOrAdd_186 : decode cX3_findOrAdd 186 = .ok (.iload 10, 2) := by decide +kernel
theorem dX3_findOrAdd_188 : decode cX3_findOrAdd 188 = .ok (.iadd, 1) := by decide +kernel
theorem dX3_findOrAdd_189 : decode cX3_findOrAdd 189 = .ok (.aload_n 3, 1) := by decide +kernel
theorem dX3_findOrAdd_190 : decode cX3_findOrAdd 190 = .ok (.iload 4, 2) := by decide +kernel
theorem dX3_findOrAdd_192 : decode cX3_findOrAdd 192 = .ok (.iload 10, 2) := by decide +kernel
theorem dX3_findOrAdd_194 : decode cX3_findOrAdd 194 = .ok (.iadd, 1) := by decide +kernel
theorem dX3_findOrAdd_195 : decode cX3_findOrAdd 195 = .ok (.iaload, 1) := by decide +kernel
theorem dX3_findOrAdd_196 : decode cX3_findOrAdd 196 = .ok (.iastore, 1) := by decide +kernel
theorem dX3_findOrAdd_197 : decode cX3_findOrAdd 197 = .ok (.iload 9, 2) := by decide +kernel
theorem dX3_findOrAdd_199 : decode cX3_findOrAdd 199 = .ok (.ifCond .ne 17, 3) := by decide +kernel
theorem dX3_findOrAdd_202 : decode cX3_findOrAdd 202 = .ok (.aload_n 0, 1) := by decide +kernel
theorem dX3_findOrAdd_203 : decode cX3_findOrAdd 203 = .ok (.aload_n 3, 1) := by decide +kernel
theorem dX3_findOrAdd_204 : decode cX3_findOrAdd 204 = .ok (.iload 4, 2) := by decide +kernel
theorem dX3_findOrAdd_206 : decode cX3_findOrAdd 206 = .ok (.iload 10, 2) := by decide +kernel
theorem dX3_findOrAdd_208 : decode cX3_findOrAdd 208 = .ok (.iadd, 1) := by decide +kernel
theorem dX3_findOrAdd_209 : decode cX3_findOrAdd 209 = .ok (.iaload, 1) := by decide +kernel
theorem dX3_findOrAdd_210 : decode cX3_findOrAdd 210 = .ok (.invokevirtual 70, 3) := by decide +kernel
theorem dX3_findOrAdd_213 : decode cX3_findOrAdd 213 = .ok (.ifCond .eq 7, 3) := by decide +kernel
theorem dX3_findOrAdd_216 : decode cX3_findOrAdd 216 = .ok (.iconst 1, 1) := by decide +kernel
theorem dX3_findOrAdd_217 : decode cX3_findOrAdd 217 = .ok (.goto 4, 3) := by decide +kernel
theorem dX3_findOrAdd_220 : decode cX3_findOrAdd 220 = .ok (.iconst 0, 1) := by decide +kernel
theorem dX3_findOrAdd_221 : decode cX3_findOrAdd 221 = .ok (.istore 9, 2) := by decide +kernel
theorem dX3_findOrAdd_223 : decode cX3_findOrAdd 223 = .ok (.iinc 10 1, 3) := by decide +kernel
theorem dX3_findOrAdd_226 : decode cX3_findOrAdd 226 = .ok (.goto (-54), 3) := by decide +kernel
theorem dX3_findOrAdd_229 : decode cX3_findOrAdd 229 = .ok (.aload_n 0, 1) := by decide +kernel
theorem dX3_findOrAdd_230 : decode cX3_findOrAdd 230 = .ok (.getfield 24, 3) := by decide +kernel
theorem dX3_findOrAdd_233 : decode cX3_findOrAdd 233 = .ok (.iload 8, 2) := by decide +kernel
theorem dX3_findOrAdd_235 : decode cX3_findOrAdd 235 = .ok (.iload 9, 2) := by decide +kernel
theorem dX3_findOrAdd_237 : decode cX3_findOrAdd 237 = .ok (.bastore, 1) := by decide +kernel
theorem dX3_findOrAdd_238 : decode cX3_findOrAdd 238 = .ok (.aload_n 0, 1) := by decide +kernel
theorem dX3_findOrAdd_239 : decode cX3_findOrAdd 239 = .ok (.getfield 31, 3) := by decide +kernel
theorem dX3_findOrAdd_242 : decode cX3_findOrAdd 242 = .ok (.iload 8, 2) := by decide +kernel
theorem dX3_findOrAdd_244 : decode cX3_findOrAdd 244 = .ok (.aload_n 0, 1) := by decide +kernel
theorem dX3_findOrAdd_245 : decode cX3_findOrAdd 245 = .ok (.getfield 28, 3) := by decide +kernel
theorem dX3_findOrAdd_248 : decode cX3_findOrAdd 248 = .ok (.iload 7, 2) := by decide +kernel
theorem dX3_findOrAdd_250 : decode cX3_findOrAdd 250 = .ok (.iaload, 1) := by decide +kernel
theorem dX3_findOrAdd_251 : decode cX3_findOrAdd 251 = .ok (.iastore, 1) := by decide +kernel
theorem dX3_findOrAdd_252 : decode cX3_findOrAdd 252 = .ok (.aload_n 0, 1) := by decide +kernel
theorem dX3_findOrAdd_253 : decode cX3_findOrAdd 253 = .ok (.getfield 28, 3) := by decide +kernel
theorem dX3_findOrAdd_256 : decode cX3_findOrAdd 256 = .ok (.iload 7, 2) := by decide +kernel
theorem dX3_findOrAdd_258 : decode cX3_findOrAdd 258 = .ok (.iload 8, 2) := by decide +kernel
theorem dX3_findOrAdd_260 : decode cX3_findOrAdd 260 = .ok (.iastore, 1) := by decide +kernel
theorem dX3_findOrAdd_261 : decode cX3_findOrAdd 261 = .ok (.iload 8, 2) := by decide +kernel
theorem dX3_findOrAdd_263 : decode cX3_findOrAdd 263 = .ok (.ireturn, 1) := by decide +kernel
theorem dX3_functionOf_0 : decode cX3_functionOf 0 = .ok (.iload_n 3, 1) := by decide +kernel
theorem dX3_functionOf_1 : decode cX3_functionOf 1 = .ok (.ifCond .lt 20, 3) := by decide +kernel
theorem dX3_functionOf_4 : decode cX3_functionOf 4 = .ok (.iload_n 3, 1) := by decide +kernel
theorem dX3_functionOf_5 : decode cX3_functionOf 5 = .ok (.iconst 4, 1) := by decide +kernel
theorem dX3_functionOf_6 : decode cX3_functionOf 6 = .ok (.if_icmp .gt 15, 3) := by decide +kernel
theorem dX3_functionOf_9 : decode cX3_functionOf 9 = .ok (.iload_n 2, 1) := by decide +kernel
theorem dX3_functionOf_10 : decode cX3_functionOf 10 = .ok (.ifCond .lt 11, 3) := by decide +kernel
theorem dX3_functionOf_13 : decode cX3_functionOf 13 = .ok (.iload_n 2, 1) := by decide +kernel
theorem dX3_functionOf_14 : decode cX3_functionOf 14 = .ok (.aload_n 1, 1) := by decide +kernel
theorem dX3_functionOf_15 : decode cX3_functionOf 15 = .ok (.arraylength, 1) := by decide +kernel
theorem dX3_functionOf_16 : decode cX3_functionOf 16 = .ok (.iload_n 3, 1) := by decide +kernel
theorem dX3_functionOf_17 : decode cX3_functionOf 17 = .ok (.isub, 1) := by decide +kernel
theorem dX3_functionOf_18 : decode cX3_functionOf 18 = .ok (.if_icmp .le 5, 3) := by decide +kernel
theorem dX3_functionOf_21 : decode cX3_functionOf 21 = .ok (.iconst 2, 1) := by decide +kernel
theorem dX3_functionOf_22 : decode cX3_functionOf 22 = .ok (.ireturn, 1) := by decide +kernel
theorem dX3_functionOf_23 : decode cX3_functionOf 23 = .ok (.bipush 7, 2) := by decide +kernel
theorem dX3_functionOf_25 : decode cX3_functionOf 25 = .ok (.iload_n 3, 1) := by decide +kernel
theorem dX3_functionOf_26 : decode cX3_functionOf 26 = .ok (.iadd, 1) := by decide +kernel
theorem dX3_functionOf_27 : decode cX3_functionOf 27 = .ok (.istore 5, 2) := by decide +kernel
theorem dX3_functionOf_29 : decode cX3_functionOf 29 = .ok (.iconst 0, 1) := by decide +kernel
theorem dX3_functionOf_30 : decode cX3_functionOf 30 = .ok (.istore 6, 2) := by decide +kernel
theorem dX3_functionOf_32 : decode cX3_functionOf 32 = .ok (.iload 6, 2) := by decide +kernel
theorem dX3_functionOf_34 : decode cX3_functionOf 34 = .ok (.iload_n 3, 1) := by decide +kernel
theorem dX3_functionOf_35 : decode cX3_functionOf 35 = .ok (.if_icmp .ge 27, 3) := by decide +kernel
theorem dX3_functionOf_38 : decode cX3_functionOf 38 = .ok (.bipush 31, 2) := by decide +kernel
theorem dX3_functionOf_40 : decode cX3_functionOf 40 = .ok (.iload 5, 2) := by decide +kernel
theorem dX3_functionOf_42 : decode cX3_functionOf 42 = .ok (.imul, 1) := by decide +kernel
theorem dX3_functionOf_43 : decode cX3_functionOf 43 = .ok (.aload_n 0, 1) := by decide +kernel
theorem dX3_functionOf_44 : decode cX3_functionOf 44 = .ok (.aload_n 1, 1) := by decide +kernel
theorem dX3_functionOf_45 : decode cX3_functionOf 45 = .ok (.iload_n 2, 1) := by decide +kernel
theorem dX3_functionOf_46 : decode cX3_functionOf 46 = .ok (.iload 6, 2) := by decide +kernel
theorem dX3_functionOf_48 : decode cX3_functionOf 48 = .ok (.iadd, 1) := by decide +kernel
theorem dX3_functionOf_49 : decode cX3_functionOf 49 = .ok (.iaload, 1) := by decide +kernel
theorem dX3_functionOf_50 : decode cX3_functionOf 50 = .ok (.invokevirtual 63, 3) := by decide +kernel
theorem dX3_functionOf_53 : decode cX3_functionOf 53 = .ok (.iadd, 1) := by decide +kernel
theorem dX3_functionOf_54 : decode cX3_functionOf 54 = .ok (.istore 5, 2) := by decide +kernel
theorem dX3_functionOf_56 : decode cX3_functionOf 56 = .ok (.iinc 6 1, 3) := by decide +kernel
theorem dX3_functionOf_59 : decode cX3_functionOf 59 = .ok (.goto (-27), 3) := by decide +kernel
theorem dX3_functionOf_62 : decode cX3_functionOf 62 = .ok (.bipush 31, 2) := by decide +kernel
theorem dX3_functionOf_64 : decode cX3_functionOf 64 = .ok (.iload 5, 2) := by decide +kernel
theorem dX3_functionOf_66 : decode cX3_functionOf 66 = .ok (.imul, 1) := by decide +kernel
theorem dX3_functionOf_67 : decode cX3_functionOf 67 = .ok (.aload_n 0, 1) := by decide +kernel
theorem dX3_functionOf_68 : decode cX3_functionOf 68 = .ok (.iload 4, 2) := by decide +kernel
theorem dX3_functionOf_70 : decode cX3_functionOf 70 = .ok (.invokevirtual 63, 3) := by decide +kernel
theorem dX3_functionOf_73 : decode cX3_functionOf 73 = .ok (.iadd, 1) := by decide +kernel
theorem dX3_functionOf_74 : decode cX3_functionOf 74 = .ok (.istore 5, 2) := by decide +kernel
theorem dX3_functionOf_76 : decode cX3_functionOf 76 = .ok (.aload_n 0, 1) := by decide +kernel
theorem dX3_functionOf_77 : decode cX3_functionOf 77 = .ok (.iconst 4, 1) := by decide +kernel
theorem dX3_functionOf_78 : decode cX3_functionOf 78 = .ok (.iload_n 3, 1) := by decide +kernel
theorem dX3_functionOf_79 : decode cX3_functionOf 79 = .ok (.aload_n 1, 1) := by decide +kernel
theorem dX3_functionOf_80 : decode cX3_functionOf 80 = .ok (.iload_n 2, 1) := by decide +kernel
theorem dX3_functionOf_81 : decode cX3_functionOf 81 = .ok (.iload 4, 2) := by decide +kernel
theorem dX3_functionOf_83 : decode cX3_functionOf 83 = .ok (.iload 5, 2) := by decide +kernel
theorem dX3_functionOf_85 : decode cX3_functionOf 85 = .ok (.invokevirtual 44, 3) := by decide +kernel
theorem dX3_functionOf_88 : decode cX3_functionOf 88 = .ok (.ireturn, 1) := by decide +kernel
theorem dX3_hasAny_0 : decode cX3_hasAny 0 = .ok (.iload_n 1, 1) := by decide +kernel
theorem dX3_hasAny_1 : decode cX3_hasAny 1 = .ok (.ifCond .lt 24, 3) := by decide +kernel
theorem dX3_hasAny_4 : decode cX3_hasAny 4 = .ok (.iload_n 1, 1) := by decide +kernel
theorem dX3_hasAny_5 : decode cX3_hasAny 5 = .ok (.aload_n 0, 1) := by decide +kernel
theorem dX3_hasAny_6 : decode cX3_hasAny 6 = .ok (.getfield 34, 3) := by decide +kernel
theorem dX3_hasAny_9 : decode cX3_hasAny 9 = .ok (.if_icmp .ge 16, 3) := by decide +kernel
theorem dX3_hasAny_12 : decode cX3_hasAny 12 = .ok (.aload_n 0, 1) := by decide +kernel
theorem dX3_hasAny_13 : decode cX3_hasAny 13 = .ok (.getfield 24, 3) := by decide +kernel
theorem dX3_hasAny_16 : decode cX3_hasAny 16 = .ok (.iload_n 1, 1) := by decide +kernel
theorem dX3_hasAny_17 : decode cX3_hasAny 17 = .ok (.baload, 1) := by decide +kernel
theorem dX3_hasAny_18 : decode cX3_hasAny 18 = .ok (.ifCond .eq 7, 3) := by decide +kernel
theorem dX3_hasAny_21 : decode cX3_hasAny 21 = .ok (.iconst 1, 1) := by decide +kernel
theorem dX3_hasAny_22 : decode cX3_hasAny 22 = .ok (.goto 4, 3) := by decide +kernel
theorem dX3_hasAny_25 : decode cX3_hasAny 25 = .ok (.iconst 0, 1) := by decide +kernel
theorem dX3_hasAny_26 : decode cX3_hasAny 26 = .ok (.ireturn, 1) := by decide +kernel
theorem dX3_isSame_0 : decode cX3_isSame 0 = .ok (.aload_n 0, 1) := by decide +kernel
theorem dX3_isSame_1 : decode cX3_isSame 1 = .ok (.getfield 15, 3) := by decide +kernel
theorem dX3_isSame_4 : decode cX3_isSame 4 = .ok (.iload_n 1, 1) := by decide +kernel
theorem dX3_isSame_5 : decode cX3_isSame 5 = .ok (.iaload, 1) := by decide +kernel
theorem dX3_isSame_6 : decode cX3_isSame 6 = .ok (.iload_n 2, 1) := by decide +kernel
theorem dX3_isSame_7 : decode cX3_isSame 7 = .ok (.if_icmp .ne 18, 3) := by decide +kernel
theorem dX3_isSame_10 : decode cX3_isSame 10 = .ok (.aload_n 0, 1) := by decide +kernel
theorem dX3_isSame_11 : decode cX3_isSame 11 = .ok (.getfield 18, 3) := by decide +kernel
theorem dX3_isSame_14 : decode cX3_isSame 14 = .ok (.iload_n 1, 1) := by decide +kernel
theorem dX3_isSame_15 : decode cX3_isSame 15 = .ok (.iconst 5, 1) := by decide +kernel
theorem dX3_isSame_16 : decode cX3_isSame 16 = .ok (.imul, 1) := by decide +kernel
theorem dX3_isSame_17 : decode cX3_isSame 17 = .ok (.iconst 4, 1) := by decide +kernel
theorem dX3_isSame_18 : decode cX3_isSame 18 = .ok (.iadd, 1) := by decide +kernel
theorem dX3_isSame_19 : decode cX3_isSame 19 = .ok (.iaload, 1) := by decide +kernel
theorem dX3_isSame_20 : decode cX3_isSame 20 = .ok (.iload 5, 2) := by decide +kernel
theorem dX3_isSame_22 : decode cX3_isSame 22 = .ok (.if_icmp .eq 5, 3) := by decide +kernel
theorem dX3_isSame_25 : decode cX3_isSame 25 = .ok (.iconst 0, 1) := by decide +kernel
theorem dX3_isSame_26 : decode cX3_isSame 26 = .ok (.ireturn, 1) := by decide +kernel
theorem dX3_isSame_27 : decode cX3_isSame 27 = .ok (.iconst 0, 1) := by decide +kernel
theorem dX3_isSame_28 : decode cX3_isSame 28 = .ok (.istore 6, 2) := by decide +kernel
theorem dX3_isSame_30 : decode cX3_isSame 30 = .ok (.iload 6, 2) := by decide +kernel
theorem dX3_isSame_32 : decode cX3_isSame 32 = .ok (.iload_n 2, 1) := by decide +kernel
theorem dX3_isSame_33 : decode cX3_isSame 33 = .ok (.if_icmp .ge 32, 3) := by decide +kernel
theorem dX3_isSame_36 : decode cX3_isSame 36 = .ok (.aload_n 0, 1) := by decide +kernel
theorem dX3_isSame_37 : decode cX3_isSame 37 = .ok (.getfield 18, 3) := by decide +kernel
theorem dX3_isSame_40 : decode cX3_isSame 40 = .ok (.iload_n 1, 1) := by decide +kernel
theorem dX3_isSame_41 : decode cX3_isSame 41 = .ok (.iconst 5, 1) := by decide +kernel
theorem dX3_isSame_42 : decode cX3_isSame 42 = .ok (.imul, 1) := by decide +kernel
theorem dX3_isSame_43 : decode cX3_isSame 43 = .ok (.iload 6, 2) := by decide +kernel
theorem dX3_isSame_45 : decode cX3_isSame 45 = .ok (.iadd, 1) := by decide +kernel
theorem dX3_isSame_46 : decode cX3_isSame 46 = .ok (.iaload, 1) := by decide +kernel
theorem dX3_isSame_47 : decode cX3_isSame 47 = .ok (.aload_n 3, 1) := by decide +kernel
theorem dX3_isSame_48 : decode cX3_isSame 48 = .ok (.iload 4, 2) := by decide +kernel
theorem dX3_isSame_50 : decode cX3_isSame 50 = .ok (.iload 6, 2) := by decide +kernel
theorem dX3_isSame_52 : decode cX3_isSame 52 = .ok (.iadd, 1) := by decide +kernel
theorem dX3_isSame_53 : decode cX3_isSame 53 = .ok (.iaload, 1) := by decide +kernel
theorem dX3_isSame_54 : decode cX3_isSame 54 = .ok (.if_icmp .eq 5, 3) := by decide +kernel
theorem dX3_isSame_57 : decode cX3_isSame 57 = .ok (.iconst 0, 1) := by decide +kernel
theorem dX3_isSame_58 : decode cX3_isSame 58 = .ok (.ireturn, 1) := by decide +kernel
theorem dX3_isSame_59 : decode cX3_isSame 59 = .ok (.iinc 6 1, 3) := by decide +kernel
theorem dX3_isSame_62 : decode cX3_isSame 62 = .ok (.goto (-32), 3) := by decide +kernel
theorem dX3_isSame_65 : decode cX3_isSame 65 = .ok (.iconst 1, 1) := by decide +kernel
theorem dX3_isSame_66 : decode cX3_isSame 66 = .ok (.ireturn, 1) := by decide +kernel
theorem dX3_sortOf_0 : decode cX3_sortOf 0 = .ok (.iload_n 1, 1) := by decide +kernel
theorem dX3_sortOf_1 : decode cX3_sortOf 1 = .ok (.ifCond .lt 20, 3) := by decide +kernel
theorem dX3_sortOf_4 : decode cX3_sortOf 4 = .ok (.iload_n 1, 1) := by decide +kernel
theorem dX3_sortOf_5 : decode cX3_sortOf 5 = .ok (.aload_n 0, 1) := by decide +kernel
theorem dX3_sortOf_6 : decode cX3_sortOf 6 = .ok (.getfield 34, 3) := by decide +kernel
theorem dX3_sortOf_9 : decode cX3_sortOf 9 = .ok (.if_icmp .ge 12, 3) := by decide +kernel
theorem dX3_sortOf_12 : decode cX3_sortOf 12 = .ok (.aload_n 0, 1) := by decide +kernel
theorem dX3_sortOf_13 : decode cX3_sortOf 13 = .ok (.getfield 11, 3) := by decide +kernel
theorem dX3_sortOf_16 : decode cX3_sortOf 16 = .ok (.iload_n 1, 1) := by decide +kernel
theorem dX3_sortOf_17 : decode cX3_sortOf 17 = .ok (.iaload, 1) := by decide +kernel
theorem dX3_sortOf_18 : decode cX3_sortOf 18 = .ok (.goto 4, 3) := by decide +kernel
theorem dX3_sortOf_21 : decode cX3_sortOf 21 = .ok (.iconst 2, 1) := by decide +kernel
theorem dX3_sortOf_22 : decode cX3_sortOf 22 = .ok (.ireturn, 1) := by decide +kernel
theorem dX3_takenBy_0 : decode cX3_takenBy 0 = .ok (.iload_n 1, 1) := by decide +kernel
theorem dX3_takenBy_1 : decode cX3_takenBy 1 = .ok (.ifCond .lt 20, 3) := by decide +kernel
theorem dX3_takenBy_4 : decode cX3_takenBy 4 = .ok (.iload_n 1, 1) := by decide +kernel
theorem dX3_takenBy_5 : decode cX3_takenBy 5 = .ok (.aload_n 0, 1) := by decide +kernel
theorem dX3_takenBy_6 : decode cX3_takenBy 6 = .ok (.getfield 34, 3) := by decide +kernel
theorem dX3_takenBy_9 : decode cX3_takenBy 9 = .ok (.if_icmp .ge 12, 3) := by decide +kernel
theorem dX3_takenBy_12 : decode cX3_takenBy 12 = .ok (.aload_n 0, 1) := by decide +kernel
theorem dX3_takenBy_13 : decode cX3_takenBy 13 = .ok (.getfield 15, 3) := by decide +kernel
theorem dX3_takenBy_16 : decode cX3_takenBy 16 = .ok (.iload_n 1, 1) := by decide +kernel
theorem dX3_takenBy_17 : decode cX3_takenBy 17 = .ok (.iaload, 1) := by decide +kernel
theorem dX3_takenBy_18 : decode cX3_takenBy 18 = .ok (.goto 4, 3) := by decide +kernel
theorem dX3_takenBy_21 : decode cX3_takenBy 21 = .ok (.iconst 0, 1) := by decide +kernel
theorem dX3_takenBy_22 : decode cX3_takenBy 22 = .ok (.ireturn, 1) := by decide +kernel
theorem k223 : Cond.methodLink "BlameCourt$Kinds" 44 yX3_findOrAdd ∈ gtb := gtm (in_tables_1_1 (List.mem_of_getElem? (i := 37) rfl)) rfl
theorem k227 : Cond.methodLink "BlameCourt$Kinds" 60 yX3_bucketOf ∈ gtb := gtm (in_tables_1_1 (List.mem_of_getElem? (i := 41) rfl)) rfl
theorem k228 : Cond.static yX3_bucketOf ∈ gtb := gtm (in_tables_1_1 (List.mem_of_getElem? (i := 42) rfl)) rfl
theorem k230 : Cond.methodLink "BlameCourt$Kinds" 66 yX3_isSame ∈ gtb := gtm (in_tables_1_1 (List.mem_of_getElem? (i := 44) rfl)) rfl
theorem k234 : Cond.methodLink "BlameCourt$Kinds" 70 yX3_hasAny ∈ gtb := gtm (in_tables_1_1 (List.mem_of_getElem? (i := 48) rfl)) rfl
theorem k242 : Cond.methodLink "BlameCourt$Kinds" 63 yX3_codeOf ∈ gtb := gtm (in_tables_1_1 (List.mem_of_getElem? (i := 56) rfl)) rfl
theorem k250 : Cond.fieldLink "BlameCourt$Kinds" 11 "BlameCourt$Kinds" "sort" "[I" ∈ gtb := gtm (in_tables_1_1 (List.mem_of_getElem? (i := 64) rfl)) rfl
theorem k251 : Cond.fieldLink "BlameCourt$Kinds" 15 "BlameCourt$Kinds" "takes" "[I" ∈ gtb := gtm (in_tables_1_1 (List.mem_of_getElem? (i := 65) rfl)) rfl
theorem k252 : Cond.fieldLink "BlameCourt$Kinds" 18 "BlameCourt$Kinds" "inne\x72" "[I" ∈ gtb := gtm (in_tables_1_1 (List.mem_of_getElem? (i := 66) rfl)) rfl
theorem k253 : Cond.fieldLink "BlameCourt$Kinds" 21 "BlameCourt$Kinds" "code" "[I" ∈ gtb := gtm (in_tables_1_1 (List.mem_of_getElem? (i := 67) rfl)) rfl
theorem k254 : Cond.fieldLink "BlameCourt$Kinds" 24 "BlameCourt$Kinds" "hasAny" "[Z" ∈ gtb := gtm (in_tables_1_1 (List.mem_of_getElem? (i := 68) rfl)) rfl
theorem k255 : Cond.fieldLink "BlameCourt$Kinds" 28 "BlameCourt$Kinds" "bucket" "[I" ∈ gtb := gtm (in_tables_1_1 (List.mem_of_getElem? (i := 69) rfl)) rfl
theorem k256 : Cond.fieldLink "BlameCourt$Kinds" 31 "BlameCourt$Kinds" "nextInBucket" "[I" ∈ gtb := gtm (in_tables_1_1 (List.mem_of_getElem? (i := 70) rfl)) rfl
theorem k257 : Cond.fieldLink "BlameCourt$Kinds" 34 "BlameCourt$Kinds" "count" "I" ∈ gtb := gtm (in_tables_1_1 (List.mem_of_getElem? (i := 71) rfl)) rfl
theorem k301 : Cond.fieldLink "BlameCourt$Judging" 88 "BlameCourt$Program" "params" "[I" ∈ gtb := gtm (in_tables_1_1 (List.mem_of_getElem? (i := 115) rfl)) rfl
theorem k305 : Cond.fieldLink "BlameCourt$Judging" 91 "BlameCourt$Program" "paramKind" "[I" ∈ gtb := gtm (in_tables_1_1 (List.mem_of_getElem? (i := 119) rfl)) rfl
theorem k308 : Cond.fieldLink "BlameCourt$Judging" 96 "BlameCourt$Program" "ownKind" "[I" ∈ gtb := gtm (in_tables_1_1 (List.mem_of_getElem? (i := 122) rfl)) rfl
theorem k311 : Cond.fieldLink "BlameCourt$Judging" 105 "BlameCourt$Program" "isTold" "[Z" ∈ gtb := gtm (in_tables_1_1 (List.mem_of_getElem? (i := 125) rfl)) rfl
theorem k467 : Cond.fieldLink "BlameCourt$Guards" 9 "BlameCourt$Guards" "place" "[I" ∈ gtb := gtm (in_tables_1_2 (List.mem_of_getElem? (i := 41) rfl)) rfl
theorem k470 : Cond.fieldLink "BlameCourt$Guards" 15 "BlameCourt$Guards" "give\x72" "[I" ∈ gtb := gtm (in_tables_1_2 (List.mem_of_getElem? (i := 44) rfl)) rfl
theorem k473 : Cond.fieldLink "BlameCourt$Guards" 18 "BlameCourt$Guards" "take\x72" "[I" ∈ gtb := gtm (in_tables_1_2 (List.mem_of_getElem? (i := 47) rfl)) rfl
theorem k476 : Cond.fieldLink "BlameCourt$Guards" 21 "BlameCourt$Guards" "from" "[I" ∈ gtb := gtm (in_tables_1_2 (List.mem_of_getElem? (i := 50) rfl)) rfl
theorem k479 : Cond.fieldLink "BlameCourt$Guards" 24 "BlameCourt$Guards" "to" "[I" ∈ gtb := gtm (in_tables_1_2 (List.mem_of_getElem? (i := 53) rfl)) rfl
theorem k482 : Cond.fieldLink "BlameCourt$Guards" 27 "BlameCourt$Guards" "count" "I" ∈ gtb := gtm (in_tables_1_2 (List.mem_of_getElem? (i := 56) rfl)) rfl
theorem k506 : Cond.fieldLink "BlameCourt$Judging" 15 "BlameCourt$Judging" "program" "LBlameCourt$Program;" ∈ gtb := gtm (in_tables_1_2 (List.mem_of_getElem? (i := 80) rfl)) rfl
theorem k507 : Cond.fieldLink "BlameCourt$Judging" 19 "BlameCourt$Judging" "kinds" "LBlameCourt$Kinds;" ∈ gtb := gtm (in_tables_1_2 (List.mem_of_getElem? (i := 81) rfl)) rfl
theorem k513 : Cond.fieldLink "BlameCourt$Judging" 33 "BlameCourt$Judging" "anyStands" "[Z" ∈ gtb := gtm (in_tables_1_2 (List.mem_of_getElem? (i := 87) rfl)) rfl
theorem k515 : Cond.fieldLink "BlameCourt$Judging" 37 "BlameCourt$Judging" "paramKind" "[I" ∈ gtb := gtm (in_tables_1_2 (List.mem_of_getElem? (i := 89) rfl)) rfl
theorem k516 : Cond.fieldLink "BlameCourt$Judging" 41 "BlameCourt$Judging" "ownKind" "[I" ∈ gtb := gtm (in_tables_1_2 (List.mem_of_getElem? (i := 90) rfl)) rfl
theorem k517 : Cond.fieldLink "BlameCourt$Judging" 44 "BlameCourt$Judging" "partKind" "[I" ∈ gtb := gtm (in_tables_1_2 (List.mem_of_getElem? (i := 91) rfl)) rfl
theorem k519 : Cond.fieldLink "BlameCourt$Judging" 50 "BlameCourt$Judging" "stack" "[I" ∈ gtb := gtm (in_tables_1_2 (List.mem_of_getElem? (i := 93) rfl)) rfl
theorem k522 : Cond.fieldLink "BlameCourt$Judging" 59 "BlameCourt$Judging" "top" "I" ∈ gtb := gtm (in_tables_1_2 (List.mem_of_getElem? (i := 96) rfl)) rfl
theorem k566 : Cond.fieldLink "BlameCourt$Heap" 9 "BlameCourt$Heap" "rows" "I" ∈ gtb := gtm (in_tables_1_2 (List.mem_of_getElem? (i := 140) rfl)) rfl
theorem k568 : Cond.fieldLink "BlameCourt$Heap" 15 "BlameCourt$Heap" "places" "I" ∈ gtb := gtm (in_tables_1_2 (List.mem_of_getElem? (i := 142) rfl)) rfl
theorem k569 : Cond.fieldLink "BlameCourt$Heap" 18 "BlameCourt$Heap" "wrappings" "I" ∈ gtb := gtm (in_tables_1_2 (List.mem_of_getElem? (i := 143) rfl)) rfl
theorem k571 : Cond.fieldLink "BlameCourt$Heap" 21 "BlameCourt$Heap" "rowFrom" "[I" ∈ gtb := gtm (in_tables_1_2 (List.mem_of_getElem? (i := 145) rfl)) rfl
theorem k572 : Cond.fieldLink "BlameCourt$Heap" 25 "BlameCourt$Heap" "rowLength" "[I" ∈ gtb := gtm (in_tables_1_2 (List.mem_of_getElem? (i := 146) rfl)) rfl
theorem k573 : Cond.fieldLink "BlameCourt$Heap" 28 "BlameCourt$Heap" "cell" "[J" ∈ gtb := gtm (in_tables_1_2 (List.mem_of_getElem? (i := 147) rfl)) rfl
theorem k574 : Cond.fieldLink "BlameCourt$Heap" 32 "BlameCourt$Heap" "within" "[J" ∈ gtb := gtm (in_tables_1_2 (List.mem_of_getElem? (i := 148) rfl)) rfl
theorem k586 : Cond.fieldLink "BlameCourt$Heap" 50 "BlameCourt$Heap" "around" "[I" ∈ gtb := gtm (in_tables_1_2 (List.mem_of_getElem? (i := 160) rfl)) rfl
theorem k1005 : Cond.methodLink "BlameCourt$Judging" 92 yX2_asTold ∈ gtb := gtm (in_tables_1_4 (List.mem_of_getElem? (i := 99) rfl)) rfl
theorem k1009 : Cond.methodLink "BlameCourt$Judging" 97 yX3_functionOf ∈ gtb := gtm (in_tables_1_4 (List.mem_of_getElem? (i := 103) rfl)) rfl
theorem k1010 : Cond.methodLink "BlameCourt$Judging" 101 yX3_hasAny ∈ gtb := gtm (in_tables_1_4 (List.mem_of_getElem? (i := 104) rfl)) rfl
theorem k1142 : Cond.static yX1_valueOf ∈ gtb := gtm (in_tables_1_4 (List.mem_of_getElem? (i := 236) rfl)) rfl
theorem k1144 : Cond.constantLong "BlameCourt$Heap" 53 4294967295 ∈ gtb := gtm (in_tables_1_4 (List.mem_of_getElem? (i := 238) rfl)) rfl
theorem k1182 : Cond.static yX1_sortOf ∈ gtb := gtm (in_tables_1_5 (List.mem_of_getElem? (i := 36) rfl)) rfl
theorem k1185 : Cond.static yX1_contentOf ∈ gtb := gtm (in_tables_1_5 (List.mem_of_getElem? (i := 39) rfl)) rfl
theorem k1204 : Cond.methodLink "BlameCourt$Heap" 75 yX1_wrappingOf ∈ gtb := gtm (in_tables_1_5 (List.mem_of_getElem? (i := 58) rfl)) rfl
theorem k1208 : Cond.constantLong "BlameCourt$Heap" 73 2 ∈ gtb := gtm (in_tables_1_5 (List.mem_of_getElem? (i := 62) rfl)) rfl
theorem k1251 : Cond.methodLink "BlameCourt$Heap" 55 yX1_valueOf ∈ gtb := gtm (in_tables_1_5 (List.mem_of_getElem? (i := 105) rfl)) rfl
theorem k1256 : Cond.methodLink "BlameCourt$Heap" 69 yX1_hasPlace ∈ gtb := gtm (in_tables_1_5 (List.mem_of_getElem? (i := 110) rfl)) rfl
theorem k1260 : Cond.methodLink "BlameCourt$Heap" 66 yX1_lengthOf ∈ gtb := gtm (in_tables_1_5 (List.mem_of_getElem? (i := 114) rfl)) rfl
theorem k1264 : Cond.methodLink "BlameCourt$Heap" 59 yX1_contentOf ∈ gtb := gtm (in_tables_1_5 (List.mem_of_getElem? (i := 118) rfl)) rfl
theorem k1265 : Cond.methodLink "BlameCourt$Heap" 63 yX1_sortOf ∈ gtb := gtm (in_tables_1_5 (List.mem_of_getElem? (i := 119) rfl)) rfl
theorem k1059 : Cond.code yX0_lay cX0_lay 6 (some .int) ∈ gtb := gtm (in_tables_1_4 (List.mem_of_getElem? (i := 153) rfl)) rfl
theorem k193 : Cond.initialized "BlameCourt$Guards" ∈ gtb := gtm (in_tables_1_1 (List.mem_of_getElem? (i := 7) rfl)) rfl
theorem ka_X0_lay : KA yX0_lay cX0_lay 6 (some .int) 5 := ⟨k1059, k193, by decide, by decide, by decide +kernel⟩
theorem k1057 : Cond.instanceMethod yX0_lay ∈ gtb := gtm (in_tables_1_4 (List.mem_of_getElem? (i := 151) rfl)) rfl
theorem k1058 : Cond.selects "BlameCourt$Guards" yX0_lay yX0_lay ∈ gtb := gtm (in_tables_1_4 (List.mem_of_getElem? (i := 152) rfl)) rfl
theorem kv_X0_lay : KV yX0_lay := ⟨k1057, k1058⟩
theorem k1139 : Cond.code yX1_clear cX1_clear 1 none ∈ gtb := gtm (in_tables_1_4 (List.mem_of_getElem? (i := 233) rfl)) rfl
theorem k196 : Cond.initialized "BlameCourt$Heap" ∈ gtb := gtm (in_tables_1_1 (List.mem_of_getElem? (i := 10) rfl)) rfl
theorem ka_X1_clear : KA yX1_clear cX1_clear 1 none 0 := ⟨k1139, k196, by decide, by decide, by decide +kernel⟩
theorem k1137 : Cond.instanceMethod yX1_clear ∈ gtb := gtm (in_tables_1_4 (List.mem_of_getElem? (i := 231) rfl)) rfl
theorem k1138 : Cond.selects "BlameCourt$Heap" yX1_clear yX1_clear ∈ gtb := gtm (in_tables_1_4 (List.mem_of_getElem? (i := 232) rfl)) rfl
theorem kv_X1_clear : KV yX1_clear := ⟨k1137, k1138⟩
theorem k1186 : Cond.code yX1_contentOf cX1_contentOf 2 (some .int) ∈ gtb := gtm (in_tables_1_5 (List.mem_of_getElem? (i := 40) rfl)) rfl
theorem ka_X1_contentOf : KA yX1_contentOf cX1_contentOf 2 (some .int) 1 := ⟨k1186, k196, by decide, by decide, by decide +kernel⟩
theorem k1203 : Cond.code yX1_core cX1_core 7 (some .long) ∈ gtb := gtm (in_tables_1_5 (List.mem_of_getElem? (i := 57) rfl)) rfl
theorem ka_X1_core : KA yX1_core cX1_core 7 (some .long) 1 := ⟨k1203, k196, by decide, by decide, by decide +kernel⟩
theorem k1201 : Cond.instanceMethod yX1_core ∈ gtb := gtm (in_tables_1_5 (List.mem_of_getElem? (i := 55) rfl)) rfl
theorem k1202 : Cond.selects "BlameCourt$Heap" yX1_core yX1_core ∈ gtb := gtm (in_tables_1_5 (List.mem_of_getElem? (i := 56) rfl)) rfl
theorem kv_X1_core : KV yX1_core := ⟨k1201, k1202⟩
theorem k1284 : Cond.code yX1_fetch cX1_fetch 4 (some .long) ∈ gtb := gtm (in_tables_1_5 (List.mem_of_getElem? (i := 138) rfl)) rfl
theorem ka_X1_fetch : KA yX1_fetch cX1_fetch 4 (some .long) 2 := ⟨k1284, k196, by decide, by decide, by decide +kernel⟩
theorem k1282 : Cond.instanceMethod yX1_fetch ∈ gtb := gtm (in_tables_1_5 (List.mem_of_getElem? (i := 136) rfl)) rfl
theorem k1283 : Cond.selects "BlameCourt$Heap" yX1_fetch yX1_fetch ∈ gtb := gtm (in_tables_1_5 (List.mem_of_getElem? (i := 137) rfl)) rfl
theorem kv_X1_fetch : KV yX1_fetch := ⟨k1282, k1283⟩
theorem k1259 : Cond.code yX1_hasPlace cX1_hasPlace 4 (some .boolean) ∈ gtb := gtm (in_tables_1_5 (List.mem_of_getElem? (i := 113) rfl)) rfl
theorem ka_X1_hasPlace : KA yX1_hasPlace cX1_hasPlace 4 (some .boolean) 2 := ⟨k1259, k196, by decide, by decide, by decide +kernel⟩
theorem k1257 : Cond.instanceMethod yX1_hasPlace ∈ gtb := gtm (in_tables_1_5 (List.mem_of_getElem? (i := 111) rfl)) rfl
theorem k1258 : Cond.selects "BlameCourt$Heap" yX1_hasPlace yX1_hasPlace ∈ gtb := gtm (in_tables_1_5 (List.mem_of_getElem? (i := 112) rfl)) rfl
theorem kv_X1_hasPlace : KV yX1_hasPlace := ⟨k1257, k1258⟩
theorem k1219 : Cond.code yX1_hasRoom cX1_hasRoom 2 (some .boolean) ∈ gtb := gtm (in_tables_1_5 (List.mem_of_getElem? (i := 73) rfl)) rfl
theorem ka_X1_hasRoom : KA yX1_hasRoom cX1_hasRoom 2 (some .boolean) 1 := ⟨k1219, k196, by decide, by decide, by decide +kernel⟩
theorem k1217 : Cond.instanceMethod yX1_hasRoom ∈ gtb := gtm (in_tables_1_5 (List.mem_of_getElem? (i := 71) rfl)) rfl
theorem k1218 : Cond.selects "BlameCourt$Heap" yX1_hasRoom yX1_hasRoom ∈ gtb := gtm (in_tables_1_5 (List.mem_of_getElem? (i := 72) rfl)) rfl
theorem kv_X1_hasRoom : KV yX1_hasRoom := ⟨k1217, k1218⟩
theorem k1263 : Cond.code yX1_lengthOf cX1_lengthOf 4 (some .int) ∈ gtb := gtm (in_tables_1_5 (List.mem_of_getElem? (i := 117) rfl)) rfl
theorem ka_X1_lengthOf : KA yX1_lengthOf cX1_lengthOf 4 (some .int) 1 := ⟨k1263, k196, by decide, by decide, by decide +kernel⟩
theorem k1261 : Cond.instanceMethod yX1_lengthOf ∈ gtb := gtm (in_tables_1_5 (List.mem_of_getElem? (i := 115) rfl)) rfl
theorem k1262 : Cond.selects "BlameCourt$Heap" yX1_lengthOf yX1_lengthOf ∈ gtb := gtm (in_tables_1_5 (List.mem_of_getElem? (i := 116) rfl)) rfl
theorem kv_X1_lengthOf : KV yX1_lengthOf := ⟨k1261, k1262⟩
theorem k1250 : Cond.code yX1_newRow cX1_newRow 6 (some .long) ∈ gtb := gtm (in_tables_1_5 (List.mem_of_getElem? (i := 104) rfl)) rfl
theorem ka_X1_newRow : KA yX1_newRow cX1_newRow 6 (some .long) 2 := ⟨k1250, k196, by decide, by decide, by decide +kernel⟩
theorem k1248 : Cond.instanceMethod yX1_newRow ∈ gtb := gtm (in_tables_1_5 (List.mem_of_getElem? (i := 102) rfl)) rfl
theorem k1249 : Cond.selects "BlameCourt$Heap" yX1_newRow yX1_newRow ∈ gtb := gtm (in_tables_1_5 (List.mem_of_getElem? (i := 103) rfl)) rfl
theorem kv_X1_newRow : KV yX1_newRow := ⟨k1248, k1249⟩
theorem k1183 : Cond.code yX1_sortOf cX1_sortOf 2 (some .int) ∈ gtb := gtm (in_tables_1_5 (List.mem_of_getElem? (i := 37) rfl)) rfl
theorem ka_X1_sortOf : KA yX1_sortOf cX1_sortOf 2 (some .int) 1 := ⟨k1183, k196, by decide, by decide, by decide +kernel⟩
theorem k1255 : Cond.code yX1_store cX1_store 6 none ∈ gtb := gtm (in_tables_1_5 (List.mem_of_getElem? (i := 109) rfl)) rfl
theorem ka_X1_store : KA yX1_store cX1_store 6 none 3 := ⟨k1255, k196, by decide, by decide, by decide +kernel⟩
theorem k1253 : Cond.instanceMethod yX1_store ∈ gtb := gtm (in_tables_1_5 (List.mem_of_getElem? (i := 107) rfl)) rfl
theorem k1254 : Cond.selects "BlameCourt$Heap" yX1_store yX1_store ∈ gtb := gtm (in_tables_1_5 (List.mem_of_getElem? (i := 108) rfl)) rfl
theorem kv_X1_store : KV yX1_store := ⟨k1253, k1254⟩
theorem k1143 : Cond.code yX1_valueOf cX1_valueOf 2 (some .long) ∈ gtb := gtm (in_tables_1_4 (List.mem_of_getElem? (i := 237) rfl)) rfl
theorem ka_X1_valueOf : KA yX1_valueOf cX1_valueOf 2 (some .long) 2 := ⟨k1143, k196, by decide, by decide, by decide +kernel⟩
theorem k1207 : Cond.code yX1_wrappingOf cX1_wrappingOf 4 (some .int) ∈ gtb := gtm (in_tables_1_5 (List.mem_of_getElem? (i := 61) rfl)) rfl
theorem ka_X1_wrappingOf : KA yX1_wrappingOf cX1_wrappingOf 4 (some .int) 1 := ⟨k1207, k196, by decide, by decide, by decide +kernel⟩
theorem k1205 : Cond.instanceMethod yX1_wrappingOf ∈ gtb := gtm (in_tables_1_5 (List.mem_of_getElem? (i := 59) rfl)) rfl
theorem k1206 : Cond.selects "BlameCourt$Heap" yX1_wrappingOf yX1_wrappingOf ∈ gtb := gtm (in_tables_1_5 (List.mem_of_getElem? (i := 60) rfl)) rfl
theorem kv_X1_wrappingOf : KV yX1_wrappingOf := ⟨k1205, k1206⟩
theorem k1338 : Cond.code yX1_wrappingsAround cX1_wrappingsAround 4 (some .int) ∈ gtb := gtm (in_tables_1_5 (List.mem_of_getElem? (i := 192) rfl)) rfl
theorem ka_X1_wrappingsAround : KA yX1_wrappingsAround cX1_wrappingsAround 4 (some .int) 1 := ⟨k1338, k196, by decide, by decide, by decide +kernel⟩
theorem k1336 : Cond.instanceMethod yX1_wrappingsAround ∈ gtb := gtm (in_tables_1_5 (List.mem_of_getElem? (i := 190) rfl)) rfl
theorem k1337 : Cond.selects "BlameCourt$Heap" yX1_wrappingsAround yX1_wrappingsAround ∈ gtb := gtm (in_tables_1_5 (List.mem_of_getElem? (i := 191) rfl)) rfl
theorem kv_X1_wrappingsAround : KV yX1_wrappingsAround := ⟨k1336, k1337⟩
theorem k1008 : Cond.code yX2_asTold cX2_asTold 3 (some .int) ∈ gtb := gtm (in_tables_1_4 (List.mem_of_getElem? (i := 102) rfl)) rfl
theorem k194 : Cond.initialized "BlameCourt$Judging" ∈ gtb := gtm (in_tables_1_1 (List.mem_of_getElem? (i := 8) rfl)) rfl
theorem ka_X2_asTold : KA yX2_asTold cX2_asTold 3 (some .int) 2 := ⟨k1008, k194, by decide, by decide, by decide +kernel⟩
theorem k1007 : Cond.instanceMethod yX2_asTold ∈ gtb := gtm (in_tables_1_4 (List.mem_of_getElem? (i := 101) rfl)) rfl
theorem k48 : Cond.selects "BlameCourt$Judging" yX2_asTold yX2_asTold ∈ gtb := gtm (in_lw_privs_4 (q := (yX2_asTold, 15)) (List.mem_of_getElem? (i := 0) rfl)) rfl
theorem kv_X2_asTold : KV yX2_asTold := ⟨k1007, k48⟩
theorem k1026 : Cond.code yX2_below cX2_below 3 (some .int) ∈ gtb := gtm (in_tables_1_4 (List.mem_of_getElem? (i := 120) rfl)) rfl
theorem ka_X2_below : KA yX2_below cX2_below 3 (some .int) 1 := ⟨k1026, k194, by decide, by decide, by decide +kernel⟩
theorem k1025 : Cond.instanceMethod yX2_below ∈ gtb := gtm (in_tables_1_4 (List.mem_of_getElem? (i := 119) rfl)) rfl
theorem k52 : Cond.selects "BlameCourt$Judging" yX2_below yX2_below ∈ gtb := gtm (in_lw_privs_4 (q := (yX2_below, 15)) (List.mem_of_getElem? (i := 4) rfl)) rfl
theorem kv_X2_below : KV yX2_below := ⟨k1025, k52⟩
theorem k1004 : Cond.code yX2_takeHeader cX2_takeHeader 4 none ∈ gtb := gtm (in_tables_1_4 (List.mem_of_getElem? (i := 98) rfl)) rfl
theorem ka_X2_takeHeader : KA yX2_takeHeader cX2_takeHeader 4 none 1 := ⟨k1004, k194, by decide, by decide, by decide +kernel⟩
theorem k1003 : Cond.instanceMethod yX2_takeHeader ∈ gtb := gtm (in_tables_1_4 (List.mem_of_getElem? (i := 97) rfl)) rfl
theorem k47 : Cond.selects "BlameCourt$Judging" yX2_takeHeader yX2_takeHeader ∈ gtb := gtm (in_lw_privs_3 (q := (yX2_takeHeader, 15)) (List.mem_of_getElem? (i := 15) rfl)) rfl
theorem kv_X2_takeHeader : KV yX2_takeHeader := ⟨k1003, k47⟩
theorem k229 : Cond.code yX3_bucketOf cX3_bucketOf 1 (some .int) ∈ gtb := gtm (in_tables_1_1 (List.mem_of_getElem? (i := 43) rfl)) rfl
theorem k189 : Cond.initialized "BlameCourt$Kinds" ∈ gtb := gtm (in_tables_1_1 (List.mem_of_getElem? (i := 3) rfl)) rfl
theorem ka_X3_bucketOf : KA yX3_bucketOf cX3_bucketOf 1 (some .int) 1 := ⟨k229, k189, by decide, by decide, by decide +kernel⟩
theorem k245 : Cond.code yX3_codeOf cX3_codeOf 2 (some .int) ∈ gtb := gtm (in_tables_1_1 (List.mem_of_getElem? (i := 59) rfl)) rfl
theorem ka_X3_codeOf : KA yX3_codeOf cX3_codeOf 2 (some .int) 1 := ⟨k245, k189, by decide, by decide, by decide +kernel⟩
theorem k243 : Cond.instanceMethod yX3_codeOf ∈ gtb := gtm (in_tables_1_1 (List.mem_of_getElem? (i := 57) rfl)) rfl
theorem k244 : Cond.selects "BlameCourt$Kinds" yX3_codeOf yX3_codeOf ∈ gtb := gtm (in_tables_1_1 (List.mem_of_getElem? (i := 58) rfl)) rfl
theorem kv_X3_codeOf : KV yX3_codeOf := ⟨k243, k244⟩
theorem k750 : Cond.code yX3_cutTo cX3_cutTo 3 none ∈ gtb := gtm (in_tables_1_3 (List.mem_of_getElem? (i := 84) rfl)) rfl
theorem ka_X3_cutTo : KA yX3_cutTo cX3_cutTo 3 none 1 := ⟨k750, k189, by decide, by decide, by decide +kernel⟩
theorem k748 : Cond.instanceMethod yX3_cutTo ∈ gtb := gtm (in_tables_1_3 (List.mem_of_getElem? (i := 82) rfl)) rfl
theorem k749 : Cond.selects "BlameCourt$Kinds" yX3_cutTo yX3_cutTo ∈ gtb := gtm (in_tables_1_3 (List.mem_of_getElem? (i := 83) rfl)) rfl
theorem kv_X3_cutTo : KV yX3_cutTo := ⟨k748, k749⟩
theorem k226 : Cond.code yX3_findOrAdd cX3_findOrAdd 11 (some .int) ∈ gtb := gtm (in_tables_1_1 (List.mem_of_getElem? (i := 40) rfl)) rfl
theorem ka_X3_findOrAdd : KA yX3_findOrAdd cX3_findOrAdd 11 (some .int) 6 := ⟨k226, k189, by decide, by decide, by decide +kernel⟩
theorem k225 : Cond.instanceMethod yX3_findOrAdd ∈ gtb := gtm (in_tables_1_1 (List.mem_of_getElem? (i := 39) rfl)) rfl
theorem k0 : Cond.selects "BlameCourt$Kinds" yX3_findOrAdd yX3_findOrAdd ∈ gtb := gtm (in_lw_privs_1 (q := (yX3_findOrAdd, 8)) (List.mem_of_getElem? (i := 0) rfl)) rfl
theorem kv_X3_findOrAdd : KV yX3_findOrAdd := ⟨k225, k0⟩
theorem k249 : Cond.code yX3_functionOf cX3_functionOf 7 (some .int) ∈ gtb := gtm (in_tables_1_1 (List.mem_of_getElem? (i := 63) rfl)) rfl
theorem ka_X3_functionOf : KA yX3_functionOf cX3_functionOf 7 (some .int) 4 := ⟨k249, k189, by decide, by decide, by decide +kernel⟩
theorem k247 : Cond.instanceMethod yX3_functionOf ∈ gtb := gtm (in_tables_1_1 (List.mem_of_getElem? (i := 61) rfl)) rfl
theorem k248 : Cond.selects "BlameCourt$Kinds" yX3_functionOf yX3_functionOf ∈ gtb := gtm (in_tables_1_1 (List.mem_of_getElem? (i := 62) rfl)) rfl
theorem kv_X3_functionOf : KV yX3_functionOf := ⟨k247, k248⟩
theorem k237 : Cond.code yX3_hasAny cX3_hasAny 2 (some .boolean) ∈ gtb := gtm (in_tables_1_1 (List.mem_of_getElem? (i := 51) rfl)) rfl
theorem ka_X3_hasAny : KA yX3_hasAny cX3_hasAny 2 (some .boolean) 1 := ⟨k237, k189, by decide, by decide, by decide +kernel⟩
theorem k235 : Cond.instanceMethod yX3_hasAny ∈ gtb := gtm (in_tables_1_1 (List.mem_of_getElem? (i := 49) rfl)) rfl
theorem k236 : Cond.selects "BlameCourt$Kinds" yX3_hasAny yX3_hasAny ∈ gtb := gtm (in_tables_1_1 (List.mem_of_getElem? (i := 50) rfl)) rfl
theorem kv_X3_hasAny : KV yX3_hasAny := ⟨k235, k236⟩
theorem k233 : Cond.code yX3_isSame cX3_isSame 7 (some .boolean) ∈ gtb := gtm (in_tables_1_1 (List.mem_of_getElem? (i := 47) rfl)) rfl
theorem ka_X3_isSame : KA yX3_isSame cX3_isSame 7 (some .boolean) 5 := ⟨k233, k189, by decide, by decide, by decide +kernel⟩
theorem k232 : Cond.instanceMethod yX3_isSame ∈ gtb := gtm (in_tables_1_1 (List.mem_of_getElem? (i := 46) rfl)) rfl
theorem k1 : Cond.selects "BlameCourt$Kinds" yX3_isSame yX3_isSame ∈ gtb := gtm (in_lw_privs_1 (q := (yX3_isSame, 8)) (List.mem_of_getElem? (i := 1) rfl)) rfl
theorem kv_X3_isSame : KV yX3_isSame := ⟨k232, k1⟩
theorem k1034 : Cond.code yX3_sortOf cX3_sortOf 2 (some .int) ∈ gtb := gtm (in_tables_1_4 (List.mem_of_getElem? (i := 128) rfl)) rfl
theorem ka_X3_sortOf : KA yX3_sortOf cX3_sortOf 2 (some .int) 1 := ⟨k1034, k189, by decide, by decide, by decide +kernel⟩
theorem k1032 : Cond.instanceMethod yX3_sortOf ∈ gtb := gtm (in_tables_1_4 (List.mem_of_getElem? (i := 126) rfl)) rfl
theorem k1033 : Cond.selects "BlameCourt$Kinds" yX3_sortOf yX3_sortOf ∈ gtb := gtm (in_tables_1_4 (List.mem_of_getElem? (i := 127) rfl)) rfl
theorem kv_X3_sortOf : KV yX3_sortOf := ⟨k1032, k1033⟩
theorem k1038 : Cond.code yX3_takenBy cX3_takenBy 2 (some .int) ∈ gtb := gtm (in_tables_1_4 (List.mem_of_getElem? (i := 132) rfl)) rfl
theorem ka_X3_takenBy : KA yX3_takenBy cX3_takenBy 2 (some .int) 1 := ⟨k1038, k189, by decide, by decide, by decide +kernel⟩
theorem k1036 : Cond.instanceMethod yX3_takenBy ∈ gtb := gtm (in_tables_1_4 (List.mem_of_getElem? (i := 130) rfl)) rfl
theorem k1037 : Cond.selects "BlameCourt$Kinds" yX3_takenBy yX3_takenBy ∈ gtb := gtm (in_tables_1_4 (List.mem_of_getElem? (i := 131) rfl)) rfl
theorem kv_X3_takenBy : KV yX3_takenBy := ⟨k1036, k1037⟩
noncomputable def g_Guards_lay (p1 : Int32) (p2 : Int32) (p3 : Int32) (p4 : Int32) (p5 : Int32) (X : St) : Option (Int32 × St) :=
  letV (X.1 55 5) fun x1 =>
  if x1.toInt < 3000 then
    letV (X.1 55 5) fun x2 =>
    chk (inR x2 3000) (letV (wI X 56 (ix x2) p1) fun X3 =>
    letV (X3.1 55 5) fun x4 =>
    chk (inR x4 3000) (letV (wI X3 57 (ix x4) p2) fun X5 =>
    letV (X5.1 55 5) fun x6 =>
    chk (inR x6 3000) (letV (wI X5 58 (ix x6) p3) fun X7 =>
    letV (X7.1 55 5) fun x8 =>
    chk (inR x8 3000) (letV (wI X7 59 (ix x8) p4) fun X9 =>
    letV (X9.1 55 5) fun x10 =>
    chk (inR x10 3000) (letV (wI X9 60 (ix x10) p5) fun X11 =>
    letV (X11.1 55 5) fun x12 =>
    letV (x12 + (1 : Int32)) fun x13 =>
    letV (wI X11 55 5 x13) fun X14 =>
    letV (X14.1 55 5) fun x15 =>
    letV (x15 - (1 : Int32)) fun x16 =>
    some (x16, X14))))))
  else
    some ((-1), X)
set_option maxHeartbeats 4000000 in
set_option maxRecDepth 100000 in
theorem k_Guards_lay (Γ : GxC) (p1 : Int32) (p2 : Int32) (p3 : Int32) (p4 : Int32) (p5 : Int32) (X : St) : TCI YC Γ yX0_lay cX0_lay 6 "BlameCourt$Guards" (some .int) { frames := 2, cells := 0, slots := 0, locals := 70 } [.ref (Γ.2.2.2.1 55), .int p1, .int p2, .int p3, .int p4, .int p5] X (g_Guards_lay p1 p2 p3 p4 p5 X) := by
  refine TCI.of (by decide) (Nat.le_of_ble_eq_true rfl) rfl ?_
  show TC YC Γ cX0_lay 6 "BlameCourt$Guards" (some .int) { frames := 2, cells := 0, slots := 0, locals := 70 } _ kI 0 [(0, .ref (Γ.2.2.2.1 55)), (1, .int p1), (2, .int p2), (3, .int p3), (4, .int p4), (5, .int p5)] [] X (g_Guards_lay p1 p2 p3 p4 p5 X)
  unfold g_Guards_lay
  refine TC.aload_n dX0_lay_0 rfl 0 rfl ?_
  refine gC0_5 k482 dX0_lay_1 (fun x1 => ?_)
  refine TC.sipush (w := 3000) dX0_lay_4 (by decide) ?_
  refine TC.icmp_lt (pc1 := 12) dX0_lay_7 (by decide) rfl ?_ ?_
  · refine TC.aload_n dX0_lay_12 rfl 0 rfl ?_
    refine cC0_0 k467 dX0_lay_13 ?_
    refine TC.aload_n dX0_lay_16 rfl 0 rfl ?_
    refine gC0_5 k482 dX0_lay_17 (fun x2 => ?_)
    refine TC.iload_n dX0_lay_20 rfl 1 rfl ?_
    refine asC56 dX0_lay_21 (fun X3 => ?_)
    refine TC.aload_n dX0_lay_22 rfl 0 rfl ?_
    refine cC0_1 k470 dX0_lay_23 ?_
    refine TC.aload_n dX0_lay_26 rfl 0 rfl ?_
    refine gC0_5 k482 dX0_lay_27 (fun x4 => ?_)
    refine TC.iload_n dX0_lay_30 rfl 2 rfl ?_
    refine asC57 dX0_lay_31 (fun X5 => ?_)
    refine TC.aload_n dX0_lay_32 rfl 0 rfl ?_
    refine cC0_2 k473 dX0_lay_33 ?_
    refine TC.aload_n dX0_lay_36 rfl 0 rfl ?_
    refine gC0_5 k482 dX0_lay_37 (fun x6 => ?_)
    refine TC.iload_n dX0_lay_40 rfl 3 rfl ?_
    refine asC58 dX0_lay_41 (fun X7 => ?_)
    refine TC.aload_n dX0_lay_42 rfl 0 rfl ?_
    refine cC0_3 k476 dX0_lay_43 ?_
    refine TC.aload_n dX0_lay_46 rfl 0 rfl ?_
    refine gC0_5 k482 dX0_lay_47 (fun x8 => ?_)
    refine TC.iload dX0_lay_50 4 rfl ?_
    refine asC59 dX0_lay_52 (fun X9 => ?_)
    refine TC.aload_n dX0_lay_53 rfl 0 rfl ?_
    refine cC0_4 k479 dX0_lay_54 ?_
    refine TC.aload_n dX0_lay_57 rfl 0 rfl ?_
    refine gC0_5 k482 dX0_lay_58 (fun x10 => ?_)
    refine TC.iload dX0_lay_61 5 rfl ?_
    refine asC60 dX0_lay_63 (fun X11 => ?_)
    refine TC.aload_n dX0_lay_64 rfl 0 rfl ?_
    refine TC.dupr dX0_lay_65 ?_
    refine gC0_5 k482 dX0_lay_66 (fun x12 => ?_)
    refine TC.iconst (w := 1) dX0_lay_69 (by decide) ?_
    refine TC.iadd dX0_lay_70 (fun x13 => ?_)
    refine pC0_5 k482 dX0_lay_71 (fun X14 => ?_)
    refine TC.aload_n dX0_lay_74 rfl 0 rfl ?_
    refine gC0_5 k482 dX0_lay_75 (fun x15 => ?_)
    refine TC.iconst (w := 1) dX0_lay_78 (by decide) ?_
    refine TC.isub dX0_lay_79 (fun x16 => ?_)
    exact TC.ret_i rfl dX0_lay_80
  · refine TC.iconst (w := (-1)) dX0_lay_10 (by decide) ?_
    exact TC.ret_i rfl dX0_lay_11
noncomputable def g_Heap_clear (X : St) : Option (Int32 × St) :=
  letV (wI X 71 0 ((0 : Int32))) fun X1 =>
  letV (wI X1 71 1 ((0 : Int32))) fun X2 =>
  letV (wI X2 71 2 ((0 : Int32))) fun X3 =>
  some (0, X3)
set_option maxHeartbeats 4000000 in
set_option maxRecDepth 100000 in
theorem k_Heap_clear (Γ : GxC) (X : St) : TCV YC Γ yX1_clear cX1_clear 1 "BlameCourt$Heap" none { frames := 2, cells := 0, slots := 0, locals := 70 } [.ref (Γ.2.2.2.1 71)] X (g_Heap_clear X) := by
  refine TCV.of (by decide) (Nat.le_of_ble_eq_true rfl) rfl ?_
  show TC YC Γ cX1_clear 1 "BlameCourt$Heap" none { frames := 2, cells := 0, slots := 0, locals := 70 } _ kV 0 [(0, .ref (Γ.2.2.2.1 71))] [] X (g_Heap_clear X)
  unfold g_Heap_clear
  refine TC.aload_n dX1_clear_0 rfl 0 rfl ?_
  refine TC.iconst (w := 0) dX1_clear_1 (by decide) ?_
  refine pC1_0 k566 dX1_clear_2 (fun X1 => ?_)
  refine TC.aload_n dX1_clear_5 rfl 0 rfl ?_
  refine TC.iconst (w := 0) dX1_clear_6 (by decide) ?_
  refine pC1_1 k568 dX1_clear_7 (fun X2 => ?_)
  refine TC.aload_n dX1_clear_10 rfl 0 rfl ?_
  refine TC.iconst (w := 0) dX1_clear_11 (by decide) ?_
  refine pC1_2 k569 dX1_clear_12 (fun X3 => ?_)
  exact TC.ret_v rfl dX1_clear_15
noncomputable def g_Heap_valueOf (p0 : Int32) (p1 : Int32) (X : St) : Option (Int64 × St) :=
  letV (p0.toInt64) fun y1 =>
  letV (y1 <<< ((32 : Int32).toInt64 &&& 63)) fun y2 =>
  letV (p1.toInt64) fun y3 =>
  letV (y3 &&& (4294967295 : Int64)) fun y4 =>
  letV (y2 ||| y4) fun y5 =>
  some (y5, X)
set_option maxHeartbeats 4000000 in
set_option maxRecDepth 100000 in
theorem k_Heap_valueOf (Γ : GxC) (p0 : Int32) (p1 : Int32) (X : St) : TCL YC Γ yX1_valueOf cX1_valueOf 2 "BlameCourt$Heap" (some .long) { frames := 2, cells := 0, slots := 0, locals := 70 } [.int p0, .int p1] X (g_Heap_valueOf p0 p1 X) := by
  refine TCL.of (by decide) (Nat.le_of_ble_eq_true rfl) rfl ?_
  show TC YC Γ cX1_valueOf 2 "BlameCourt$Heap" (some .long) { frames := 2, cells := 0, slots := 0, locals := 70 } _ kL 0 [(0, .int p0), (1, .int p1)] [] X (g_Heap_valueOf p0 p1 X)
  unfold g_Heap_valueOf
  refine TC.iload_n dX1_valueOf_0 rfl 0 rfl ?_
  refine TC.i2l dX1_valueOf_1 (fun y1 => ?_)
  refine TC.bipush (w := 32) dX1_valueOf_2 (by decide) ?_
  refine TC.lshl dX1_valueOf_4 (fun y2 => ?_)
  refine TC.iload_n dX1_valueOf_5 rfl 1 rfl ?_
  refine TC.i2l dX1_valueOf_6 (fun y3 => ?_)
  refine TC.ldc2 (w := 4294967295) dX1_valueOf_7 k1144 ?_
  refine TC.land dX1_valueOf_10 (fun y4 => ?_)
  refine TC.lor dX1_valueOf_11 (fun y5 => ?_)
  exact TC.ret_l rfl dX1_valueOf_12
noncomputable def g_Heap_sortOf (q0 : Int64) (X : St) : Option (Int32 × St) :=
  letV (q0 >>> ((32 : Int32).toInt64 &&& 63)) fun y1 =>
  letV (y1.toInt32) fun x2 =>
  some (x2, X)
set_option maxHeartbeats 4000000 in
set_option maxRecDepth 100000 in
theorem k_Heap_sortOf (Γ : GxC) (q0 : Int64) (X : St) : TCI YC Γ yX1_sortOf cX1_sortOf 2 "BlameCourt$Heap" (some .int) { frames := 2, cells := 0, slots := 0, locals := 70 } [.long q0] X (g_Heap_sortOf q0 X) := by
  refine TCI.of (by decide) (Nat.le_of_ble_eq_true rfl) rfl ?_
  show TC YC Γ cX1_sortOf 2 "BlameCourt$Heap" (some .int) { frames := 2, cells := 0, slots := 0, locals := 70 } _ kI 0 [(0, .long q0)] [] X (g_Heap_sortOf q0 X)
  unfold g_Heap_sortOf
  refine TC.lload_n dX1_sortOf_0 rfl 0 rfl ?_
  refine TC.bipush (w := 32) dX1_sortOf_1 (by decide) ?_
  refine TC.lshr dX1_sortOf_3 (fun y1 => ?_)
  refine TC.l2i dX1_sortOf_4 (fun x2 => ?_)
  exact TC.ret_i rfl dX1_sortOf_5
noncomputable def g_Heap_contentOf (q0 : Int64) (X : St) : Option (Int32 × St) :=
  letV (q0.toInt32) fun x1 =>
  some (x1, X)
set_option maxHeartbeats 4000000 in
set_option maxRecDepth 100000 in
theorem k_Heap_contentOf (Γ : GxC) (q0 : Int64) (X : St) : TCI YC Γ yX1_contentOf cX1_contentOf 2 "BlameCourt$Heap" (some .int) { frames := 2, cells := 0, slots := 0, locals := 70 } [.long q0] X (g_Heap_contentOf q0 X) := by
  refine TCI.of (by decide) (Nat.le_of_ble_eq_true rfl) rfl ?_
  show TC YC Γ cX1_contentOf 2 "BlameCourt$Heap" (some .int) { frames := 2, cells := 0, slots := 0, locals := 70 } _ kI 0 [(0, .long q0)] [] X (g_Heap_contentOf q0 X)
  unfold g_Heap_contentOf
  refine TC.lload_n dX1_contentOf_0 rfl 0 rfl ?_
  refine TC.l2i dX1_contentOf_1 (fun x1 => ?_)
  exact TC.ret_i rfl dX1_contentOf_2
noncomputable def g_Heap_hasRoom (p1 : Int32) (X : St) : Option (Int32 × St) :=
  letV (X.1 71 0) fun x1 =>
  letV (X.1 71 2) fun x2 =>
  letV (x1 + x2) fun x3 =>
  if 1000 ≤ x3.toInt then
    some (0, X)
  else
    letV (X.1 71 1) fun x4 =>
    letV ((4000 : Int32) - x4) fun x5 =>
    if x5.toInt < p1.toInt then
      some (0, X)
    else
      some (1, X)
set_option maxHeartbeats 4000000 in
set_option maxRecDepth 100000 in
theorem k_Heap_hasRoom (Γ : GxC) (p1 : Int32) (X : St) : TCI YC Γ yX1_hasRoom cX1_hasRoom 2 "BlameCourt$Heap" (some .boolean) { frames := 2, cells := 0, slots := 0, locals := 70 } [.ref (Γ.2.2.2.1 71), .int p1] X (g_Heap_hasRoom p1 X) := by
  refine TCI.of (by decide) (Nat.le_of_ble_eq_true rfl) rfl ?_
  show TC YC Γ cX1_hasRoom 2 "BlameCourt$Heap" (some .boolean) { frames := 2, cells := 0, slots := 0, locals := 70 } _ kI 0 [(0, .ref (Γ.2.2.2.1 71)), (1, .int p1)] [] X (g_Heap_hasRoom p1 X)
  unfold g_Heap_hasRoom
  refine TC.aload_n dX1_hasRoom_0 rfl 0 rfl ?_
  refine gC1_0 k566 dX1_hasRoom_1 (fun x1 => ?_)
  refine TC.aload_n dX1_hasRoom_4 rfl 0 rfl ?_
  refine gC1_2 k569 dX1_hasRoom_5 (fun x2 => ?_)
  refine TC.iadd dX1_hasRoom_8 (fun x3 => ?_)
  refine TC.sipush (w := 1000) dX1_hasRoom_9 (by decide) ?_
  refine TC.icmp_ge (pc1 := 31) dX1_hasRoom_12 (by decide) rfl ?_ ?_
  · refine TC.iconst (w := 0) dX1_hasRoom_31 (by decide) ?_
    exact TC.ret_z rfl dX1_hasRoom_32 rfl
  · refine TC.iload_n dX1_hasRoom_15 rfl 1 rfl ?_
    refine TC.sipush (w := 4000) dX1_hasRoom_16 (by decide) ?_
    refine TC.aload_n dX1_hasRoom_19 rfl 0 rfl ?_
    refine gC1_1 k568 dX1_hasRoom_20 (fun x4 => ?_)
    refine TC.isub dX1_hasRoom_23 (fun x5 => ?_)
    refine TC.icmp_gt (pc1 := 31) dX1_hasRoom_24 (by decide) rfl ?_ ?_
    · refine TC.iconst (w := 0) dX1_hasRoom_31 (by decide) ?_
      exact TC.ret_z rfl dX1_hasRoom_32 rfl
    · refine TC.iconst (w := 1) dX1_hasRoom_27 (by decide) ?_
      refine TC.goto (pc1 := 32) dX1_hasRoom_28 (by decide) ?_
      exact TC.ret_z rfl dX1_hasRoom_32 rfl
noncomputable def g_Heap_newRow_38_s (r38 : Int32 → Int64 → Int32 → Int32 → St → Option (Int64 × St)) (a_1 : Int32) (l_2 : Int64) (a_4 : Int32) (a_5 : Int32) (X : St) : Option (Int64 × St) :=
  if a_1.toInt ≤ a_5.toInt then
    letV (X.1 71 1) fun x8 =>
    letV (x8 + a_1) fun x9 =>
    letV (wI X 71 1 x9) fun X10 =>
    bnd (g_Heap_valueOf (3 : Int32) a_4 X10) fun y11 X12 =>
    some (y11, X12)
  else
    letV (X.1 71 1) fun x13 =>
    letV (x13 + a_5) fun x14 =>
    chk (inR x14 4000) (letV (wL X 74 (ix x14) l_2) fun X15 =>
    letV (a_5 + Int32.ofInt (1)) fun x16 =>
    r38 a_1 l_2 a_4 x16 X15)
noncomputable def g_Heap_newRow_38 (n : Nat) : Int32 → Int64 → Int32 → Int32 → St → Option (Int64 × St) := lp (fun _ _ _ _ _ => none) (g_Heap_newRow_38_s) n
set_option maxHeartbeats 4000000 in
set_option maxRecDepth 100000 in
theorem k_Heap_newRow_38 (Γ : GxC) (As : List Value) (n : Nat) : ∀ (a_1 : Int32) (l_2 : Int64) (a_4 : Int32) (a_5 : Int32) (X : St), TC YC Γ cX1_newRow 6 "BlameCourt$Heap" (some .long) { frames := 3, cells := 0, slots := 0, locals := 110 } As kL 38 [(0, .ref (Γ.2.2.2.1 71)), (1, .int a_1), (2, .long l_2), (4, .int a_4), (5, .int a_5)] [] X (g_Heap_newRow_38 n a_1 l_2 a_4 a_5 X) := by
  unfold g_Heap_newRow_38
  refine lp_ind (P := fun (r38 : Int32 → Int64 → Int32 → Int32 → St → Option (Int64 × St)) => ∀ (a_1 : Int32) (l_2 : Int64) (a_4 : Int32) (a_5 : Int32) (X : St), TC YC Γ cX1_newRow 6 "BlameCourt$Heap" (some .long) { frames := 3, cells := 0, slots := 0, locals := 110 } As kL 38 [(0, .ref (Γ.2.2.2.1 71)), (1, .int a_1), (2, .long l_2), (4, .int a_4), (5, .int a_5)] [] X (r38 a_1 l_2 a_4 a_5 X)) (fun _ _ _ _ _ => TC.no) ?_ n
  intro r38 hr38 a_1 l_2 a_4 a_5 X
  unfold g_Heap_newRow_38_s
  refine TC.iload dX1_newRow_38 4 rfl ?_
  refine TC.iload_n dX1_newRow_40 rfl 1 rfl ?_
  refine TC.icmp_ge (pc1 := 63) dX1_newRow_41 (by decide) rfl ?_ ?_
  · refine TC.aload_n dX1_newRow_63 rfl 0 rfl ?_
    refine TC.dupr dX1_newRow_64 ?_
    refine gC1_1 k568 dX1_newRow_65 (fun x8 => ?_)
    refine TC.iload_n dX1_newRow_68 rfl 1 rfl ?_
    refine TC.iadd dX1_newRow_69 (fun x9 => ?_)
    refine pC1_1 k568 dX1_newRow_70 (fun X10 => ?_)
    refine TC.iconst (w := 3) dX1_newRow_73 (by decide) ?_
    refine TC.iload dX1_newRow_74 3 rfl ?_
    refine TC.callS_l (As1 := [.int 3, .int a_4]) (rest := []) (k_Heap_valueOf Γ (3 : Int32) a_4 X10) ka_X1_valueOf k1142 k1251 rfl rfl rfl rfl (show 2 + 1 ≤ 3 ∧ 8 + (2 + 11) + 70 ≤ 110 from ⟨by omega, by omega⟩) (Nat.le_of_ble_eq_true rfl) dX1_newRow_76 (fun y11 X12 => ?_)
    exact TC.ret_l rfl dX1_newRow_79
  · refine TC.aload_n dX1_newRow_44 rfl 0 rfl ?_
    refine cC1_5 k573 dX1_newRow_45 ?_
    refine TC.aload_n dX1_newRow_48 rfl 0 rfl ?_
    refine gC1_1 k568 dX1_newRow_49 (fun x13 => ?_)
    refine TC.iload dX1_newRow_52 4 rfl ?_
    refine TC.iadd dX1_newRow_54 (fun x14 => ?_)
    refine TC.lload_n dX1_newRow_55 rfl 2 rfl ?_
    refine asC74 dX1_newRow_56 (fun X15 => ?_)
    refine TC.iinc dX1_newRow_57 4 rfl (by decide) (lvf := fun x16 => [(5, .int x16), (0, .ref (Γ.2.2.2.1 71)), (1, .int a_1), (2, .long l_2), (4, .int a_4)]) (fun _ => rfl) (fun x16 => ?_)
    refine TC.goto (pc1 := 38) dX1_newRow_60 (by decide) ?_
    refine TC.sub [1, 2, 3, 4, 0] rfl ?_
    exact hr38 a_1 l_2 a_4 x16 X15
noncomputable def g_Heap_newRow (p1 : Int32) (q2 : Int64) (X : St) : Option (Int64 × St) :=
  letV (X.1 71 0) fun x1 =>
  letV (X.1 71 0) fun x2 =>
  letV (x2 + (1 : Int32)) fun x3 =>
  letV (wI X 71 0 x3) fun X4 =>
  letV (X4.1 71 1) fun x5 =>
  chk (inR x1 1000) (letV (wI X4 72 (ix x1) x5) fun X6 =>
  chk (inR x1 1000) (letV (wI X6 73 (ix x1) p1) fun X7 =>
  g_Heap_newRow_38 BIG p1 q2 x1 (0 : Int32) X7))
set_option maxHeartbeats 4000000 in
set_option maxRecDepth 100000 in
theorem k_Heap_newRow (Γ : GxC) (p1 : Int32) (q2 : Int64) (X : St) : TCL YC Γ yX1_newRow cX1_newRow 6 "BlameCourt$Heap" (some .long) { frames := 3, cells := 0, slots := 0, locals := 110 } [.ref (Γ.2.2.2.1 71), .int p1, .long q2] X (g_Heap_newRow p1 q2 X) := by
  refine TCL.of (by decide) (Nat.le_of_ble_eq_true rfl) rfl ?_
  show TC YC Γ cX1_newRow 6 "BlameCourt$Heap" (some .long) { frames := 3, cells := 0, slots := 0, locals := 110 } _ kL 0 [(0, .ref (Γ.2.2.2.1 71)), (1, .int p1), (2, .long q2)] [] X (g_Heap_newRow p1 q2 X)
  unfold g_Heap_newRow
  refine TC.aload_n dX1_newRow_0 rfl 0 rfl ?_
  refine gC1_0 k566 dX1_newRow_1 (fun x1 => ?_)
  refine TC.istore (lv1 := [(4, .int x1), (0, .ref (Γ.2.2.2.1 71)), (1, .int p1), (2, .long q2)]) dX1_newRow_4 (by decide) rfl ?_
  refine TC.aload_n dX1_newRow_6 rfl 1 rfl ?_
  refine TC.dupr dX1_newRow_7 ?_
  refine gC1_0 k566 dX1_newRow_8 (fun x2 => ?_)
  refine TC.iconst (w := 1) dX1_newRow_11 (by decide) ?_
  refine TC.iadd dX1_newRow_12 (fun x3 => ?_)
  refine pC1_0 k566 dX1_newRow_13 (fun X4 => ?_)
  refine TC.aload_n dX1_newRow_16 rfl 1 rfl ?_
  refine cC1_3 k571 dX1_newRow_17 ?_
  refine TC.iload dX1_newRow_20 0 rfl ?_
  refine TC.aload_n dX1_newRow_22 rfl 1 rfl ?_
  refine gC1_1 k568 dX1_newRow_23 (fun x5 => ?_)
  refine asC72 dX1_newRow_26 (fun X6 => ?_)
  refine TC.aload_n dX1_newRow_27 rfl 1 rfl ?_
  refine cC1_4 k572 dX1_newRow_28 ?_
  refine TC.iload dX1_newRow_31 0 rfl ?_
  refine TC.iload_n dX1_newRow_33 rfl 2 rfl ?_
  refine asC73 dX1_newRow_34 (fun X7 => ?_)
  refine TC.iconst (w := 0) dX1_newRow_35 (by decide) ?_
  refine TC.istore (lv1 := [(5, .int 0), (4, .int x1), (0, .ref (Γ.2.2.2.1 71)), (1, .int p1), (2, .long q2)]) dX1_newRow_36 (by decide) rfl ?_
  refine TC.sub [2, 3, 4, 1, 0] rfl ?_
  exact k_Heap_newRow_38 Γ _ BIG p1 q2 x1 (0 : Int32) X7
noncomputable def g_Heap_lengthOf (q1 : Int64) (X : St) : Option (Int32 × St) :=
  bnd (g_Heap_contentOf q1 X) fun x1 X2 =>
  bnd (g_Heap_sortOf q1 X2) fun x3 X4 =>
  if x3.toInt = 3 then
    if x1.toInt < 0 then
      some ((-1), X4)
    else
      letV (X4.1 71 0) fun x5 =>
      if x5.toInt ≤ x1.toInt then
        some ((-1), X4)
      else
        chk (inR x1 1000) (letV (X4.1 73 (ix x1)) fun x6 =>
        some (x6, X4))
  else
    some ((-1), X4)
set_option maxHeartbeats 4000000 in
set_option maxRecDepth 100000 in
theorem k_Heap_lengthOf (Γ : GxC) (q1 : Int64) (X : St) : TCI YC Γ yX1_lengthOf cX1_lengthOf 4 "BlameCourt$Heap" (some .int) { frames := 3, cells := 0, slots := 0, locals := 110 } [.ref (Γ.2.2.2.1 71), .long q1] X (g_Heap_lengthOf q1 X) := by
  refine TCI.of (by decide) (Nat.le_of_ble_eq_true rfl) rfl ?_
  show TC YC Γ cX1_lengthOf 4 "BlameCourt$Heap" (some .int) { frames := 3, cells := 0, slots := 0, locals := 110 } _ kI 0 [(0, .ref (Γ.2.2.2.1 71)), (1, .long q1)] [] X (g_Heap_lengthOf q1 X)
  unfold g_Heap_lengthOf
  refine TC.lload_n dX1_lengthOf_0 rfl 1 rfl ?_
  refine TC.callS_i (As1 := [.long q1]) (rest := []) (k_Heap_contentOf Γ q1 X) ka_X1_contentOf k1185 k1264 rfl rfl rfl rfl (show 2 + 1 ≤ 3 ∧ 8 + (2 + 11) + 70 ≤ 110 from ⟨by omega, by omega⟩) (Nat.le_of_ble_eq_true rfl) dX1_lengthOf_1 (fun x1 X2 => ?_)
  refine TC.istore_n (lv1 := [(3, .int x1), (0, .ref (Γ.2.2.2.1 71)), (1, .long q1)]) dX1_lengthOf_4 rfl (by decide) rfl ?_
  refine TC.lload_n dX1_lengthOf_5 rfl 2 rfl ?_
  refine TC.callS_i (As1 := [.long q1]) (rest := []) (k_Heap_sortOf Γ q1 X2) ka_X1_sortOf k1182 k1265 rfl rfl rfl rfl (show 2 + 1 ≤ 3 ∧ 8 + (2 + 11) + 70 ≤ 110 from ⟨by omega, by omega⟩) (Nat.le_of_ble_eq_true rfl) dX1_lengthOf_6 (fun x3 X4 => ?_)
  refine TC.iconst (w := 3) dX1_lengthOf_9 (by decide) ?_
  refine TC.icmp_ne (pc1 := 34) dX1_lengthOf_10 (by decide) rfl ?_ ?_
  · refine TC.iconst (w := (-1)) dX1_lengthOf_34 (by decide) ?_
    exact TC.ret_i rfl dX1_lengthOf_35
  · refine TC.iload_n dX1_lengthOf_13 rfl 0 rfl ?_
    refine TC.if_lt (pc1 := 34) dX1_lengthOf_14 (by decide) ?_ ?_
    · refine TC.iconst (w := (-1)) dX1_lengthOf_34 (by decide) ?_
      exact TC.ret_i rfl dX1_lengthOf_35
    · refine TC.iload_n dX1_lengthOf_17 rfl 0 rfl ?_
      refine TC.aload_n dX1_lengthOf_18 rfl 1 rfl ?_
      refine gC1_0 k566 dX1_lengthOf_19 (fun x5 => ?_)
      refine TC.icmp_ge (pc1 := 34) dX1_lengthOf_22 (by decide) rfl ?_ ?_
      · refine TC.iconst (w := (-1)) dX1_lengthOf_34 (by decide) ?_
        exact TC.ret_i rfl dX1_lengthOf_35
      · refine TC.aload_n dX1_lengthOf_25 rfl 1 rfl ?_
        refine cC1_4 k572 dX1_lengthOf_26 ?_
        refine TC.iload_n dX1_lengthOf_29 rfl 0 rfl ?_
        refine alC73 dX1_lengthOf_30 (fun x6 => ?_)
        refine TC.goto (pc1 := 35) dX1_lengthOf_31 (by decide) ?_
        exact TC.ret_i rfl dX1_lengthOf_35
noncomputable def g_Heap_hasPlace (q1 : Int64) (p3 : Int32) (X : St) : Option (Int32 × St) :=
  if p3.toInt < 0 then
    some (0, X)
  else
    bnd (g_Heap_lengthOf q1 X) fun x1 X2 =>
    if x1.toInt ≤ p3.toInt then
      some (0, X2)
    else
      some (1, X2)
set_option maxHeartbeats 4000000 in
set_option maxRecDepth 100000 in
theorem k_Heap_hasPlace (Γ : GxC) (q1 : Int64) (p3 : Int32) (X : St) : TCI YC Γ yX1_hasPlace cX1_hasPlace 4 "BlameCourt$Heap" (some .boolean) { frames := 4, cells := 0, slots := 0, locals := 150 } [.ref (Γ.2.2.2.1 71), .long q1, .int p3] X (g_Heap_hasPlace q1 p3 X) := by
  refine TCI.of (by decide) (Nat.le_of_ble_eq_true rfl) rfl ?_
  show TC YC Γ cX1_hasPlace 4 "BlameCourt$Heap" (some .boolean) { frames := 4, cells := 0, slots := 0, locals := 150 } _ kI 0 [(0, .ref (Γ.2.2.2.1 71)), (1, .long q1), (3, .int p3)] [] X (g_Heap_hasPlace q1 p3 X)
  unfold g_Heap_hasPlace
  refine TC.iload_n dX1_hasPlace_0 rfl 2 rfl ?_
  refine TC.if_lt (pc1 := 17) dX1_hasPlace_1 (by decide) ?_ ?_
  · refine TC.iconst (w := 0) dX1_hasPlace_17 (by decide) ?_
    exact TC.ret_z rfl dX1_hasPlace_18 rfl
  · refine TC.iload_n dX1_hasPlace_4 rfl 2 rfl ?_
    refine TC.aload_n dX1_hasPlace_5 rfl 0 rfl ?_
    refine TC.lload_n dX1_hasPlace_6 rfl 1 rfl ?_
    refine TC.callV_i 71 (As1 := [.long q1]) (rest := [.int p3]) (k_Heap_lengthOf Γ q1 X) ka_X1_lengthOf kv_X1_lengthOf oC_71 rfl k1260 rfl rfl rfl rfl (show 3 + 1 ≤ 4 ∧ 8 + (4 + 11) + 110 ≤ 150 from ⟨by omega, by omega⟩) (Nat.le_of_ble_eq_true rfl) dX1_hasPlace_7 (fun x1 X2 => ?_)
    refine TC.icmp_ge (pc1 := 17) dX1_hasPlace_10 (by decide) rfl ?_ ?_
    · refine TC.iconst (w := 0) dX1_hasPlace_17 (by decide) ?_
      exact TC.ret_z rfl dX1_hasPlace_18 rfl
    · refine TC.iconst (w := 1) dX1_hasPlace_13 (by decide) ?_
      refine TC.goto (pc1 := 18) dX1_hasPlace_14 (by decide) ?_
      exact TC.ret_z rfl dX1_hasPlace_18 rfl
noncomputable def g_Heap_fetch (q1 : Int64) (p3 : Int32) (X : St) : Option (Int64 × St) :=
  bnd (g_Heap_hasPlace q1 p3 X) fun x1 X2 =>
  if x1.toInt = 0 then
    some ((0 : Int64), X2)
  else
    bnd (g_Heap_contentOf q1 X2) fun x3 X4 =>
    chk (inR x3 1000) (letV (X4.1 72 (ix x3)) fun x5 =>
    letV (x5 + p3) fun x6 =>
    chk (inR x6 4000) (letV (X4.2.1 74 (ix x6)) fun y7 =>
    some (y7, X4)))
set_option maxHeartbeats 4000000 in
set_option maxRecDepth 100000 in
theorem k_Heap_fetch (Γ : GxC) (q1 : Int64) (p3 : Int32) (X : St) : TCL YC Γ yX1_fetch cX1_fetch 4 "BlameCourt$Heap" (some .long) { frames := 5, cells := 0, slots := 0, locals := 190 } [.ref (Γ.2.2.2.1 71), .long q1, .int p3] X (g_Heap_fetch q1 p3 X) := by
  refine TCL.of (by decide) (Nat.le_of_ble_eq_true rfl) rfl ?_
  show TC YC Γ cX1_fetch 4 "BlameCourt$Heap" (some .long) { frames := 5, cells := 0, slots := 0, locals := 190 } _ kL 0 [(0, .ref (Γ.2.2.2.1 71)), (1, .long q1), (3, .int p3)] [] X (g_Heap_fetch q1 p3 X)
  unfold g_Heap_fetch
  refine TC.aload_n dX1_fetch_0 rfl 0 rfl ?_
  refine TC.lload_n dX1_fetch_1 rfl 1 rfl ?_
  refine TC.iload_n dX1_fetch_2 rfl 2 rfl ?_
  refine TC.callV_i 71 (As1 := [.long q1, .int p3]) (rest := []) (k_Heap_hasPlace Γ q1 p3 X) ka_X1_hasPlace kv_X1_hasPlace oC_71 rfl k1256 rfl rfl rfl rfl (show 4 + 1 ≤ 5 ∧ 8 + (4 + 11) + 150 ≤ 190 from ⟨by omega, by omega⟩) (Nat.le_of_ble_eq_true rfl) dX1_fetch_3 (fun x1 X2 => ?_)
  refine TC.if_eq (pc1 := 28) dX1_fetch_6 (by decide) ?_ ?_
  · refine TC.lconst (w := 0) dX1_fetch_28 (by decide) ?_
    exact TC.ret_l rfl dX1_fetch_29
  · refine TC.aload_n dX1_fetch_9 rfl 0 rfl ?_
    refine cC1_5 k573 dX1_fetch_10 ?_
    refine TC.aload_n dX1_fetch_13 rfl 0 rfl ?_
    refine cC1_3 k571 dX1_fetch_14 ?_
    refine TC.lload_n dX1_fetch_17 rfl 1 rfl ?_
    refine TC.callS_i (As1 := [.long q1]) (rest := [.ref (Γ.2.2.2.1 72), .ref (Γ.2.2.2.1 74)]) (k_Heap_contentOf Γ q1 X2) ka_X1_contentOf k1185 k1264 rfl rfl rfl rfl (show 2 + 1 ≤ 5 ∧ 8 + (2 + 11) + 70 ≤ 190 from ⟨by omega, by omega⟩) (Nat.le_of_ble_eq_true rfl) dX1_fetch_18 (fun x3 X4 => ?_)
    refine alC72 dX1_fetch_21 (fun x5 => ?_)
    refine TC.iload_n dX1_fetch_22 rfl 2 rfl ?_
    refine TC.iadd dX1_fetch_23 (fun x6 => ?_)
    refine alC74 dX1_fetch_24 (fun y7 => ?_)
    refine TC.goto (pc1 := 29) dX1_fetch_25 (by decide) ?_
    exact TC.ret_l rfl dX1_fetch_29
noncomputable def g_Heap_store (q1 : Int64) (p3 : Int32) (q4 : Int64) (X : St) : Option (Int32 × St) :=
  bnd (g_Heap_hasPlace q1 p3 X) fun x1 X2 =>
  if x1.toInt = 0 then
    some (0, X2)
  else
    bnd (g_Heap_contentOf q1 X2) fun x3 X4 =>
    chk (inR x3 1000) (letV (X4.1 72 (ix x3)) fun x5 =>
    letV (x5 + p3) fun x6 =>
    chk (inR x6 4000) (letV (wL X4 74 (ix x6) q4) fun X7 =>
    some (0, X7)))
set_option maxHeartbeats 4000000 in
set_option maxRecDepth 100000 in
theorem k_Heap_store (Γ : GxC) (q1 : Int64) (p3 : Int32) (q4 : Int64) (X : St) : TCV YC Γ yX1_store cX1_store 6 "BlameCourt$Heap" none { frames := 5, cells := 0, slots := 0, locals := 190 } [.ref (Γ.2.2.2.1 71), .long q1, .int p3, .long q4] X (g_Heap_store q1 p3 q4 X) := by
  refine TCV.of (by decide) (Nat.le_of_ble_eq_true rfl) rfl ?_
  show TC YC Γ cX1_store 6 "BlameCourt$Heap" none { frames := 5, cells := 0, slots := 0, locals := 190 } _ kV 0 [(0, .ref (Γ.2.2.2.1 71)), (1, .long q1), (3, .int p3), (4, .long q4)] [] X (g_Heap_store q1 p3 q4 X)
  unfold g_Heap_store
  refine TC.aload_n dX1_store_0 rfl 0 rfl ?_
  refine TC.lload_n dX1_store_1 rfl 1 rfl ?_
  refine TC.iload_n dX1_store_2 rfl 2 rfl ?_
  refine TC.callV_i 71 (As1 := [.long q1, .int p3]) (rest := []) (k_Heap_hasPlace Γ q1 p3 X) ka_X1_hasPlace kv_X1_hasPlace oC_71 rfl k1256 rfl rfl rfl rfl (show 4 + 1 ≤ 5 ∧ 8 + (4 + 11) + 150 ≤ 190 from ⟨by omega, by omega⟩) (Nat.le_of_ble_eq_true rfl) dX1_store_3 (fun x1 X2 => ?_)
  refine TC.if_eq (pc1 := 27) dX1_store_6 (by decide) ?_ ?_
  · exact TC.ret_v rfl dX1_store_27
  · refine TC.aload_n dX1_store_9 rfl 0 rfl ?_
    refine cC1_5 k573 dX1_store_10 ?_
    refine TC.aload_n dX1_store_13 rfl 0 rfl ?_
    refine cC1_3 k571 dX1_store_14 ?_
    refine TC.lload_n dX1_store_17 rfl 1 rfl ?_
    refine TC.callS_i (As1 := [.long q1]) (rest := [.ref (Γ.2.2.2.1 72), .ref (Γ.2.2.2.1 74)]) (k_Heap_contentOf Γ q1 X2) ka_X1_contentOf k1185 k1264 rfl rfl rfl rfl (show 2 + 1 ≤ 5 ∧ 8 + (2 + 11) + 70 ≤ 190 from ⟨by omega, by omega⟩) (Nat.le_of_ble_eq_true rfl) dX1_store_18 (fun x3 X4 => ?_)
    refine alC72 dX1_store_21 (fun x5 => ?_)
    refine TC.iload_n dX1_store_22 rfl 2 rfl ?_
    refine TC.iadd dX1_store_23 (fun x6 => ?_)
    refine TC.lload dX1_store_24 3 rfl ?_
    refine asC74 dX1_store_26 (fun X7 => ?_)
    exact TC.ret_v rfl dX1_store_27
noncomputable def g_Heap_wrappingOf (q1 : Int64) (X : St) : Option (Int32 × St) :=
  letV (q1.toInt32) fun x1 =>
  letV (q1 >>> ((32 : Int32).toInt64 &&& 63)) fun y2 =>
  letV (lg_cmp y2 (2 : Int64)) fun x3 =>
  if x3.toInt = 0 then
    if x1.toInt < 0 then
      some ((-1), X)
    else
      letV (X.1 71 2) fun x4 =>
      if x4.toInt ≤ x1.toInt then
        some ((-1), X)
      else
        some (x1, X)
  else
    some ((-1), X)
set_option maxHeartbeats 4000000 in
set_option maxRecDepth 100000 in
theorem k_Heap_wrappingOf (Γ : GxC) (q1 : Int64) (X : St) : TCI YC Γ yX1_wrappingOf cX1_wrappingOf 4 "BlameCourt$Heap" (some .int) { frames := 2, cells := 0, slots := 0, locals := 70 } [.ref (Γ.2.2.2.1 71), .long q1] X (g_Heap_wrappingOf q1 X) := by
  refine TCI.of (by decide) (Nat.le_of_ble_eq_true rfl) rfl ?_
  show TC YC Γ cX1_wrappingOf 4 "BlameCourt$Heap" (some .int) { frames := 2, cells := 0, slots := 0, locals := 70 } _ kI 0 [(0, .ref (Γ.2.2.2.1 71)), (1, .long q1)] [] X (g_Heap_wrappingOf q1 X)
  unfold g_Heap_wrappingOf
  refine TC.lload_n dX1_wrappingOf_0 rfl 1 rfl ?_
  refine TC.l2i dX1_wrappingOf_1 (fun x1 => ?_)
  refine TC.istore_n (lv1 := [(3, .int x1), (0, .ref (Γ.2.2.2.1 71)), (1, .long q1)]) dX1_wrappingOf_2 rfl (by decide) rfl ?_
  refine TC.lload_n dX1_wrappingOf_3 rfl 2 rfl ?_
  refine TC.bipush (w := 32) dX1_wrappingOf_4 (by decide) ?_
  refine TC.lshr dX1_wrappingOf_6 (fun y2 => ?_)
  refine TC.ldc2 (w := 2) dX1_wrappingOf_7 k1208 ?_
  refine TC.lcmp dX1_wrappingOf_10 (fun x3 => ?_)
  refine TC.if_ne (pc1 := 30) dX1_wrappingOf_11 (by decide) ?_ ?_
  · refine TC.iconst (w := (-1)) dX1_wrappingOf_30 (by decide) ?_
    exact TC.ret_i rfl dX1_wrappingOf_31
  · refine TC.iload_n dX1_wrappingOf_14 rfl 0 rfl ?_
    refine TC.if_lt (pc1 := 30) dX1_wrappingOf_15 (by decide) ?_ ?_
    · refine TC.iconst (w := (-1)) dX1_wrappingOf_30 (by decide) ?_
      exact TC.ret_i rfl dX1_wrappingOf_31
    · refine TC.iload_n dX1_wrappingOf_18 rfl 0 rfl ?_
      refine TC.aload_n dX1_wrappingOf_19 rfl 1 rfl ?_
      refine gC1_2 k569 dX1_wrappingOf_20 (fun x4 => ?_)
      refine TC.icmp_ge (pc1 := 30) dX1_wrappingOf_23 (by decide) rfl ?_ ?_
      · refine TC.iconst (w := (-1)) dX1_wrappingOf_30 (by decide) ?_
        exact TC.ret_i rfl dX1_wrappingOf_31
      · refine TC.iload_n dX1_wrappingOf_26 rfl 0 rfl ?_
        refine TC.goto (pc1 := 31) dX1_wrappingOf_27 (by decide) ?_
        exact TC.ret_i rfl dX1_wrappingOf_31
noncomputable def g_Heap_core_12_s (r12 : Int64 → Int32 → Int32 → St → Option (Int64 × St)) (l_3 : Int64) (a_5 : Int32) (a_6 : Int32) (X : St) : Option (Int64 × St) :=
  if 20 ≤ a_6.toInt then
    some (l_3, X)
  else
    if a_5.toInt = -1 then
      some (l_3, X)
    else
      chk (inR a_5 1000) (letV (X.2.1 75 (ix a_5)) fun y3 =>
      bnd (g_Heap_wrappingOf y3 X) fun x4 X5 =>
      letV (a_6 + Int32.ofInt (1)) fun x6 =>
      r12 y3 x4 x6 X5)
noncomputable def g_Heap_core_12 (n : Nat) : Int64 → Int32 → Int32 → St → Option (Int64 × St) := lp (fun _ _ _ _ => none) (g_Heap_core_12_s) n
set_option maxHeartbeats 4000000 in
set_option maxRecDepth 100000 in
theorem k_Heap_core_12 (Γ : GxC) (As : List Value) (n : Nat) : ∀ (l_3 : Int64) (a_5 : Int32) (a_6 : Int32) (X : St), TC YC Γ cX1_core 7 "BlameCourt$Heap" (some .long) { frames := 3, cells := 0, slots := 0, locals := 110 } As kL 12 [(0, .ref (Γ.2.2.2.1 71)), (3, .long l_3), (5, .int a_5), (6, .int a_6)] [] X (g_Heap_core_12 n l_3 a_5 a_6 X) := by
  unfold g_Heap_core_12
  refine lp_ind (P := fun (r12 : Int64 → Int32 → Int32 → St → Option (Int64 × St)) => ∀ (l_3 : Int64) (a_5 : Int32) (a_6 : Int32) (X : St), TC YC Γ cX1_core 7 "BlameCourt$Heap" (some .long) { frames := 3, cells := 0, slots := 0, locals := 110 } As kL 12 [(0, .ref (Γ.2.2.2.1 71)), (3, .long l_3), (5, .int a_5), (6, .int a_6)] [] X (r12 l_3 a_5 a_6 X)) (fun _ _ _ _ => TC.no) ?_ n
  intro r12 hr12 l_3 a_5 a_6 X
  unfold g_Heap_core_12_s
  refine TC.iload dX1_core_12 3 rfl ?_
  refine TC.bipush (w := 20) dX1_core_14 (by decide) ?_
  refine TC.icmp_ge (pc1 := 46) dX1_core_16 (by decide) rfl ?_ ?_
  · refine TC.lload_n dX1_core_46 rfl 1 rfl ?_
    exact TC.ret_l rfl dX1_core_47
  · refine TC.iload dX1_core_19 2 rfl ?_
    refine TC.iconst (w := (-1)) dX1_core_21 (by decide) ?_
    refine TC.icmp_eq (pc1 := 46) dX1_core_22 (by decide) rfl ?_ ?_
    · refine TC.lload_n dX1_core_46 rfl 1 rfl ?_
      exact TC.ret_l rfl dX1_core_47
    · refine TC.aload_n dX1_core_25 rfl 0 rfl ?_
      refine cC1_6 k574 dX1_core_26 ?_
      refine TC.iload dX1_core_29 2 rfl ?_
      refine alC75 dX1_core_31 (fun y3 => ?_)
      refine TC.lstore_n (lv1 := [(3, .long y3), (0, .ref (Γ.2.2.2.1 71)), (5, .int a_5), (6, .int a_6)]) dX1_core_32 rfl (by decide) rfl ?_
      refine TC.aload_n dX1_core_33 rfl 1 rfl ?_
      refine TC.lload_n dX1_core_34 rfl 0 rfl ?_
      refine TC.callV_i 71 (As1 := [.long y3]) (rest := []) (k_Heap_wrappingOf Γ y3 X) ka_X1_wrappingOf kv_X1_wrappingOf oC_71 rfl k1204 rfl rfl rfl rfl (show 2 + 1 ≤ 3 ∧ 8 + (4 + 11) + 70 ≤ 110 from ⟨by omega, by omega⟩) (Nat.le_of_ble_eq_true rfl) dX1_core_35 (fun x4 X5 => ?_)
      refine TC.istore (lv1 := [(5, .int x4), (3, .long y3), (0, .ref (Γ.2.2.2.1 71)), (6, .int a_6)]) dX1_core_38 (by decide) rfl ?_
      refine TC.iinc dX1_core_40 3 rfl (by decide) (lvf := fun x6 => [(6, .int x6), (5, .int x4), (3, .long y3), (0, .ref (Γ.2.2.2.1 71))]) (fun _ => rfl) (fun x6 => ?_)
      refine TC.goto (pc1 := 12) dX1_core_43 (by decide) ?_
      refine TC.sub [3, 2, 1, 0] rfl ?_
      exact hr12 y3 x4 x6 X5
noncomputable def g_Heap_core (q1 : Int64) (X : St) : Option (Int64 × St) :=
  bnd (g_Heap_wrappingOf q1 X) fun x1 X2 =>
  g_Heap_core_12 BIG q1 x1 (0 : Int32) X2
set_option maxHeartbeats 4000000 in
set_option maxRecDepth 100000 in
theorem k_Heap_core (Γ : GxC) (q1 : Int64) (X : St) : TCL YC Γ yX1_core cX1_core 7 "BlameCourt$Heap" (some .long) { frames := 3, cells := 0, slots := 0, locals := 110 } [.ref (Γ.2.2.2.1 71), .long q1] X (g_Heap_core q1 X) := by
  refine TCL.of (by decide) (Nat.le_of_ble_eq_true rfl) rfl ?_
  show TC YC Γ cX1_core 7 "BlameCourt$Heap" (some .long) { frames := 3, cells := 0, slots := 0, locals := 110 } _ kL 0 [(0, .ref (Γ.2.2.2.1 71)), (1, .long q1)] [] X (g_Heap_core q1 X)
  unfold g_Heap_core
  refine TC.lload_n dX1_core_0 rfl 1 rfl ?_
  refine TC.lstore_n (lv1 := [(3, .long q1), (0, .ref (Γ.2.2.2.1 71)), (1, .long q1)]) dX1_core_1 rfl (by decide) rfl ?_
  refine TC.aload_n dX1_core_2 rfl 1 rfl ?_
  refine TC.lload_n dX1_core_3 rfl 0 rfl ?_
  refine TC.callV_i 71 (As1 := [.long q1]) (rest := []) (k_Heap_wrappingOf Γ q1 X) ka_X1_wrappingOf kv_X1_wrappingOf oC_71 rfl k1204 rfl rfl rfl rfl (show 2 + 1 ≤ 3 ∧ 8 + (4 + 11) + 70 ≤ 110 from ⟨by omega, by omega⟩) (Nat.le_of_ble_eq_true rfl) dX1_core_4 (fun x1 X2 => ?_)
  refine TC.istore (lv1 := [(5, .int x1), (3, .long q1), (0, .ref (Γ.2.2.2.1 71)), (1, .long q1)]) dX1_core_7 (by decide) rfl ?_
  refine TC.iconst (w := 0) dX1_core_9 (by decide) ?_
  refine TC.istore (lv1 := [(6, .int 0), (5, .int x1), (3, .long q1), (0, .ref (Γ.2.2.2.1 71)), (1, .long q1)]) dX1_core_10 (by decide) rfl ?_
  refine TC.sub [3, 2, 1, 0] rfl ?_
  exact k_Heap_core_12 Γ _ BIG q1 x1 (0 : Int32) X2
noncomputable def g_Heap_wrappingsAround (q1 : Int64) (X : St) : Option (Int32 × St) :=
  bnd (g_Heap_wrappingOf q1 X) fun x1 X2 =>
  if x1.toInt = -1 then
    some (0, X2)
  else
    chk (inR x1 1000) (letV (X2.1 81 (ix x1)) fun x3 =>
    some (x3, X2))
set_option maxHeartbeats 4000000 in
set_option maxRecDepth 100000 in
theorem k_Heap_wrappingsAround (Γ : GxC) (q1 : Int64) (X : St) : TCI YC Γ yX1_wrappingsAround cX1_wrappingsAround 4 "BlameCourt$Heap" (some .int) { frames := 3, cells := 0, slots := 0, locals := 110 } [.ref (Γ.2.2.2.1 71), .long q1] X (g_Heap_wrappingsAround q1 X) := by
  refine TCI.of (by decide) (Nat.le_of_ble_eq_true rfl) rfl ?_
  show TC YC Γ cX1_wrappingsAround 4 "BlameCourt$Heap" (some .int) { frames := 3, cells := 0, slots := 0, locals := 110 } _ kI 0 [(0, .ref (Γ.2.2.2.1 71)), (1, .long q1)] [] X (g_Heap_wrappingsAround q1 X)
  unfold g_Heap_wrappingsAround
  refine TC.aload_n dX1_wrappingsAround_0 rfl 0 rfl ?_
  refine TC.lload_n dX1_wrappingsAround_1 rfl 1 rfl ?_
  refine TC.callV_i 71 (As1 := [.long q1]) (rest := []) (k_Heap_wrappingOf Γ q1 X) ka_X1_wrappingOf kv_X1_wrappingOf oC_71 rfl k1204 rfl rfl rfl rfl (show 2 + 1 ≤ 3 ∧ 8 + (4 + 11) + 70 ≤ 110 from ⟨by omega, by omega⟩) (Nat.le_of_ble_eq_true rfl) dX1_wrappingsAround_2 (fun x1 X2 => ?_)
  refine TC.istore_n (lv1 := [(3, .int x1), (0, .ref (Γ.2.2.2.1 71)), (1, .long q1)]) dX1_wrappingsAround_5 rfl (by decide) rfl ?_
  refine TC.iload_n dX1_wrappingsAround_6 rfl 0 rfl ?_
  refine TC.iconst (w := (-1)) dX1_wrappingsAround_7 (by decide) ?_
  refine TC.icmp_ne (pc1 := 15) dX1_wrappingsAround_8 (by decide) rfl ?_ ?_
  · refine TC.aload_n dX1_wrappingsAround_15 rfl 1 rfl ?_
    refine cC1_12 k586 dX1_wrappingsAround_16 ?_
    refine TC.iload_n dX1_wrappingsAround_19 rfl 0 rfl ?_
    refine alC81 dX1_wrappingsAround_20 (fun x3 => ?_)
    exact TC.ret_i rfl dX1_wrappingsAround_21
  · refine TC.iconst (w := 0) dX1_wrappingsAround_11 (by decide) ?_
    refine TC.goto (pc1 := 21) dX1_wrappingsAround_12 (by decide) ?_
    exact TC.ret_i rfl dX1_wrappingsAround_21
noncomputable def g_Kinds_bucketOf (p0 : Int32) (X : St) : Option (Int32 × St) :=
  letV ((p0.toUInt32 >>> ((9 : Int32).toUInt32 &&& Int32.toUInt32 31)).toInt32) fun x1 =>
  letV (p0 ^^^ x1) fun x2 =>
  letV ((p0.toUInt32 >>> ((18 : Int32).toUInt32 &&& Int32.toUInt32 31)).toInt32) fun x3 =>
  letV (x2 ^^^ x3) fun x4 =>
  letV (x4 &&& (511 : Int32)) fun x5 =>
  some (x5, X)
set_option maxHeartbeats 4000000 in
set_option maxRecDepth 100000 in
theorem k_Kinds_bucketOf (Γ : GxC) (p0 : Int32) (X : St) : TCI YC Γ yX3_bucketOf cX3_bucketOf 1 "BlameCourt$Kinds" (some .int) { frames := 2, cells := 0, slots := 0, locals := 70 } [.int p0] X (g_Kinds_bucketOf p0 X) := by
  refine TCI.of (by decide) (Nat.le_of_ble_eq_true rfl) rfl ?_
  show TC YC Γ cX3_bucketOf 1 "BlameCourt$Kinds" (some .int) { frames := 2, cells := 0, slots := 0, locals := 70 } _ kI 0 [(0, .int p0)] [] X (g_Kinds_bucketOf p0 X)
  unfold g_Kinds_bucketOf
  refine TC.iload_n dX3_bucketOf_0 rfl 0 rfl ?_
  refine TC.iload_n dX3_bucketOf_1 rfl 0 rfl ?_
  refine TC.bipush (w := 9) dX3_bucketOf_2 (by decide) ?_
  refine TC.iushr dX3_bucketOf_4 (fun x1 => ?_)
  refine TC.ixor dX3_bucketOf_5 (fun x2 => ?_)
  refine TC.iload_n dX3_bucketOf_6 rfl 0 rfl ?_
  refine TC.bipush (w := 18) dX3_bucketOf_7 (by decide) ?_
  refine TC.iushr dX3_bucketOf_9 (fun x3 => ?_)
  refine TC.ixor dX3_bucketOf_10 (fun x4 => ?_)
  refine TC.sipush (w := 511) dX3_bucketOf_11 (by decide) ?_
  refine TC.iand dX3_bucketOf_14 (fun x5 => ?_)
  exact TC.ret_i rfl dX3_bucketOf_15
noncomputable def g_Kinds_cutTo_7_s (r7 : Nat → Int32 → Int32 → St → Option (Int32 × St)) (e_0 : Nat) (a_1 : Int32) (a_2 : Int32) (X : St) : Option (Int32 × St) :=
  if a_2.toInt < a_1.toInt then
    some (0, X)
  else
    if a_2.toInt < 9 then
      some (0, X)
    else
      letV (kY YC e_0 6 - 3) fun e3 =>
      letV (kY YC e_0 4 - 3) fun e4 =>
      chk (inR a_2 1549) (letV (X.1 e4 (ix a_2)) fun x5 =>
      bnd (g_Kinds_bucketOf x5 X) fun x6 X7 =>
      letV (kY YC e_0 7 - 3) fun e8 =>
      chk (inR a_2 1549) (letV (X7.1 e8 (ix a_2)) fun x9 =>
      chk (inR x6 512) (letV (wI X7 e3 (ix x6) x9) fun X10 =>
      letV (wI X10 e_0 0 a_2) fun X11 =>
      letV (a_2 + Int32.ofInt (-1)) fun x12 =>
      r7 e_0 a_1 x12 X11)))
noncomputable def g_Kinds_cutTo_7 (n : Nat) : Nat → Int32 → Int32 → St → Option (Int32 × St) := lp (fun _ _ _ _ => none) (g_Kinds_cutTo_7_s) n
set_option maxHeartbeats 4000000 in
set_option maxRecDepth 100000 in
theorem k_Kinds_cutTo_7 (Γ : GxC) (As : List Value) (n : Nat) : ∀ (e_0 : Nat) (he_0 : isO YC e_0 3 8) (a_1 : Int32) (a_2 : Int32) (X : St), TC YC Γ cX3_cutTo 3 "BlameCourt$Kinds" none { frames := 3, cells := 0, slots := 0, locals := 110 } As kV 7 [(0, .ref (Γ.2.2.2.1 e_0)), (1, .int a_1), (2, .int a_2)] [] X (g_Kinds_cutTo_7 n e_0 a_1 a_2 X) := by
  unfold g_Kinds_cutTo_7
  refine lp_ind (P := fun (r7 : Nat → Int32 → Int32 → St → Option (Int32 × St)) => ∀ (e_0 : Nat) (he_0 : isO YC e_0 3 8) (a_1 : Int32) (a_2 : Int32) (X : St), TC YC Γ cX3_cutTo 3 "BlameCourt$Kinds" none { frames := 3, cells := 0, slots := 0, locals := 110 } As kV 7 [(0, .ref (Γ.2.2.2.1 e_0)), (1, .int a_1), (2, .int a_2)] [] X (r7 e_0 a_1 a_2 X)) (fun _ _ _ _ _ => TC.no) ?_ n
  intro r7 hr7 e_0 he_0 a_1 a_2 X
  unfold g_Kinds_cutTo_7_s
  refine TC.iload_n dX3_cutTo_7 rfl 2 rfl ?_
  refine TC.iload_n dX3_cutTo_8 rfl 1 rfl ?_
  refine TC.icmp_lt (pc1 := 49) dX3_cutTo_9 (by decide) rfl ?_ ?_
  · exact TC.ret_v rfl dX3_cutTo_49
  · refine TC.iload_n dX3_cutTo_12 rfl 2 rfl ?_
    refine TC.bipush (w := 9) dX3_cutTo_13 (by decide) ?_
    refine TC.icmp_lt (pc1 := 49) dX3_cutTo_15 (by decide) rfl ?_ ?_
    · exact TC.ret_v rfl dX3_cutTo_49
    · refine TC.aload_n dX3_cutTo_18 rfl 0 rfl ?_
      refine vC3_6 e_0 he_0 k255 dX3_cutTo_19 (fun e3 he3 => ?_)
      refine TC.aload_n dX3_cutTo_22 rfl 0 rfl ?_
      refine vC3_4 e_0 he_0 k253 dX3_cutTo_23 (fun e4 he4 => ?_)
      refine TC.iload_n dX3_cutTo_26 rfl 2 rfl ?_
      refine TC.iald e4 he4 dX3_cutTo_27 (fun x5 => ?_)
      refine TC.callS_i (As1 := [.int x5]) (rest := [.ref (Γ.2.2.2.1 e3)]) (k_Kinds_bucketOf Γ x5 X) ka_X3_bucketOf k228 k227 rfl rfl rfl rfl (show 2 + 1 ≤ 3 ∧ 8 + (1 + 11) + 70 ≤ 110 from ⟨by omega, by omega⟩) (Nat.le_of_ble_eq_true rfl) dX3_cutTo_28 (fun x6 X7 => ?_)
      refine TC.aload_n dX3_cutTo_31 rfl 0 rfl ?_
      refine vC3_7 e_0 he_0 k256 dX3_cutTo_32 (fun e8 he8 => ?_)
      refine TC.iload_n dX3_cutTo_35 rfl 2 rfl ?_
      refine TC.iald e8 he8 dX3_cutTo_36 (fun x9 => ?_)
      refine TC.iast e3 he3 dX3_cutTo_37 (fun X10 => ?_)
      refine TC.aload_n dX3_cutTo_38 rfl 0 rfl ?_
      refine TC.iload_n dX3_cutTo_39 rfl 2 rfl ?_
      refine pC3_0 e_0 he_0 k257 dX3_cutTo_40 (fun X11 => ?_)
      refine TC.iinc dX3_cutTo_43 2 rfl (by decide) (lvf := fun x12 => [(2, .int x12), (0, .ref (Γ.2.2.2.1 e_0)), (1, .int a_1)]) (fun _ => rfl) (fun x12 => ?_)
      refine TC.goto (pc1 := 7) dX3_cutTo_46 (by decide) ?_
      refine TC.sub [1, 2, 0] rfl ?_
      exact hr7 e_0 he_0 a_1 x12 X11
noncomputable def g_Kinds_cutTo (o0 : Nat) (p1 : Int32) (X : St) : Option (Int32 × St) :=
  letV (X.1 o0 0) fun x1 =>
  letV (x1 - (1 : Int32)) fun x2 =>
  g_Kinds_cutTo_7 BIG o0 p1 x2 X
set_option maxHeartbeats 4000000 in
set_option maxRecDepth 100000 in
theorem k_Kinds_cutTo (Γ : GxC) (o0 : Nat) (ho0 : isO YC o0 3 8) (p1 : Int32) (X : St) : TCV YC Γ yX3_cutTo cX3_cutTo 3 "BlameCourt$Kinds" none { frames := 3, cells := 0, slots := 0, locals := 110 } [.ref (Γ.2.2.2.1 o0), .int p1] X (g_Kinds_cutTo o0 p1 X) := by
  refine TCV.of (by decide) (Nat.le_of_ble_eq_true rfl) rfl ?_
  show TC YC Γ cX3_cutTo 3 "BlameCourt$Kinds" none { frames := 3, cells := 0, slots := 0, locals := 110 } _ kV 0 [(0, .ref (Γ.2.2.2.1 o0)), (1, .int p1)] [] X (g_Kinds_cutTo o0 p1 X)
  unfold g_Kinds_cutTo
  refine TC.aload_n dX3_cutTo_0 rfl 0 rfl ?_
  refine gC3_0 o0 ho0 k257 dX3_cutTo_1 (fun x1 => ?_)
  refine TC.iconst (w := 1) dX3_cutTo_4 (by decide) ?_
  refine TC.isub dX3_cutTo_5 (fun x2 => ?_)
  refine TC.istore_n (lv1 := [(2, .int x2), (0, .ref (Γ.2.2.2.1 o0)), (1, .int p1)]) dX3_cutTo_6 rfl (by decide) rfl ?_
  refine TC.sub [1, 2, 0] rfl ?_
  exact k_Kinds_cutTo_7 Γ _ BIG o0 ho0 p1 x2 X
noncomputable def g_Judging_asTold (p1 : Int32) (p2 : Int32) (X : St) : Option (Int32 × St) :=
  chk (refO YC (X.2.2 61 1) 4 17 = true) (letV (X.2.2 61 1 - 1) fun e1 =>
  letV (kY YC e1 3 - 3) fun e2 =>
  chk (inR p1 40) (letV (X.1 e2 (ix p1)) fun x3 =>
  if x3.toInt = 0 then
    some (2, X)
  else
    some (p2, X)))
set_option maxHeartbeats 4000000 in
set_option maxRecDepth 100000 in
theorem k_Judging_asTold (Γ : GxC) (p1 : Int32) (p2 : Int32) (X : St) : TCI YC Γ yX2_asTold cX2_asTold 3 "BlameCourt$Judging" (some .int) { frames := 2, cells := 0, slots := 0, locals := 70 } [.ref (Γ.2.2.2.1 61), .int p1, .int p2] X (g_Judging_asTold p1 p2 X) := by
  refine TCI.of (by decide) (Nat.le_of_ble_eq_true rfl) rfl ?_
  show TC YC Γ cX2_asTold 3 "BlameCourt$Judging" (some .int) { frames := 2, cells := 0, slots := 0, locals := 70 } _ kI 0 [(0, .ref (Γ.2.2.2.1 61)), (1, .int p1), (2, .int p2)] [] X (g_Judging_asTold p1 p2 X)
  unfold g_Judging_asTold
  refine TC.aload_n dX2_asTold_0 rfl 0 rfl ?_
  refine mC2_1 k506 dX2_asTold_1 (fun e1 he1 => ?_)
  refine vC4_3 e1 he1 k311 dX2_asTold_4 (fun e2 he2 => ?_)
  refine TC.iload_n dX2_asTold_7 rfl 1 rfl ?_
  refine TC.zald e2 he2 dX2_asTold_8 (fun x3 => ?_)
  refine TC.if_eq (pc1 := 16) dX2_asTold_9 (by decide) ?_ ?_
  · refine TC.iconst (w := 2) dX2_asTold_16 (by decide) ?_
    exact TC.ret_i rfl dX2_asTold_17
  · refine TC.iload_n dX2_asTold_12 rfl 2 rfl ?_
    refine TC.goto (pc1 := 17) dX2_asTold_13 (by decide) ?_
    exact TC.ret_i rfl dX2_asTold_17
noncomputable def g_Kinds_codeOf (o0 : Nat) (p1 : Int32) (X : St) : Option (Int32 × St) :=
  if p1.toInt < 0 then
    some ((-1), X)
  else
    letV (X.1 o0 0) fun x1 =>
    if x1.toInt ≤ p1.toInt then
      some ((-1), X)
    else
      letV (kY YC o0 4 - 3) fun e2 =>
      chk (inR p1 1549) (letV (X.1 e2 (ix p1)) fun x3 =>
      some (x3, X))
set_option maxHeartbeats 4000000 in
set_option maxRecDepth 100000 in
theorem k_Kinds_codeOf (Γ : GxC) (o0 : Nat) (ho0 : isO YC o0 3 8) (p1 : Int32) (X : St) : TCI YC Γ yX3_codeOf cX3_codeOf 2 "BlameCourt$Kinds" (some .int) { frames := 2, cells := 0, slots := 0, locals := 70 } [.ref (Γ.2.2.2.1 o0), .int p1] X (g_Kinds_codeOf o0 p1 X) := by
  refine TCI.of (by decide) (Nat.le_of_ble_eq_true rfl) rfl ?_
  show TC YC Γ cX3_codeOf 2 "BlameCourt$Kinds" (some .int) { frames := 2, cells := 0, slots := 0, locals := 70 } _ kI 0 [(0, .ref (Γ.2.2.2.1 o0)), (1, .int p1)] [] X (g_Kinds_codeOf o0 p1 X)
  unfold g_Kinds_codeOf
  refine TC.iload_n dX3_codeOf_0 rfl 1 rfl ?_
  refine TC.if_lt (pc1 := 21) dX3_codeOf_1 (by decide) ?_ ?_
  · refine TC.iconst (w := (-1)) dX3_codeOf_21 (by decide) ?_
    exact TC.ret_i rfl dX3_codeOf_22
  · refine TC.iload_n dX3_codeOf_4 rfl 1 rfl ?_
    refine TC.aload_n dX3_codeOf_5 rfl 0 rfl ?_
    refine gC3_0 o0 ho0 k257 dX3_codeOf_6 (fun x1 => ?_)
    refine TC.icmp_ge (pc1 := 21) dX3_codeOf_9 (by decide) rfl ?_ ?_
    · refine TC.iconst (w := (-1)) dX3_codeOf_21 (by decide) ?_
      exact TC.ret_i rfl dX3_codeOf_22
    · refine TC.aload_n dX3_codeOf_12 rfl 0 rfl ?_
      refine vC3_4 o0 ho0 k253 dX3_codeOf_13 (fun e2 he2 => ?_)
      refine TC.iload_n dX3_codeOf_16 rfl 1 rfl ?_
      refine TC.iald e2 he2 dX3_codeOf_17 (fun x3 => ?_)
      refine TC.goto (pc1 := 22) dX3_codeOf_18 (by decide) ?_
      exact TC.ret_i rfl dX3_codeOf_22
noncomputable def g_Kinds_isSame_30_s (r30 : Nat → Int32 → Int32 → Nat → Int32 → Int32 → St → Option (Int32 × St)) (e_0 : Nat) (a_1 : Int32) (a_2 : Int32) (e_3 : Nat) (a_4 : Int32) (a_6 : Int32) (X : St) : Option (Int32 × St) :=
  if a_2.toInt ≤ a_6.toInt then
    some (1, X)
  else
    letV (kY YC e_0 3 - 3) fun e7 =>
    letV (a_1 * (5 : Int32)) fun x8 =>
    letV (x8 + a_6) fun x9 =>
    chk (inR x9 7745) (letV (X.1 e7 (ix x9)) fun x10 =>
    letV (a_4 + a_6) fun x11 =>
    chk (inR x11 (zY YC e_3)) (letV (X.1 e_3 (ix x11)) fun x12 =>
    if x10.toInt = x12.toInt then
      letV (a_6 + Int32.ofInt (1)) fun x13 =>
      r30 e_0 a_1 a_2 e_3 a_4 x13 X
    else
      some (0, X)))
noncomputable def g_Kinds_isSame_30 (n : Nat) : Nat → Int32 → Int32 → Nat → Int32 → Int32 → St → Option (Int32 × St) := lp (fun _ _ _ _ _ _ _ => none) (g_Kinds_isSame_30_s) n
set_option maxHeartbeats 4000000 in
set_option maxRecDepth 100000 in
theorem k_Kinds_isSame_30 (Γ : GxC) (As : List Value) (n : Nat) : ∀ (e_0 : Nat) (he_0 : isO YC e_0 3 8) (a_1 : Int32) (a_2 : Int32) (e_3 : Nat) (he_3 : isA YC e_3 1 (zY YC e_3) .int) (a_4 : Int32) (a_6 : Int32) (X : St), TC YC Γ cX3_isSame 7 "BlameCourt$Kinds" (some .boolean) { frames := 2, cells := 0, slots := 0, locals := 70 } As kI 30 [(0, .ref (Γ.2.2.2.1 e_0)), (1, .int a_1), (2, .int a_2), (3, .ref (Γ.2.2.2.1 e_3)), (4, .int a_4), (6, .int a_6)] [] X (g_Kinds_isSame_30 n e_0 a_1 a_2 e_3 a_4 a_6 X) := by
  unfold g_Kinds_isSame_30
  refine lp_ind (P := fun (r30 : Nat → Int32 → Int32 → Nat → Int32 → Int32 → St → Option (Int32 × St)) => ∀ (e_0 : Nat) (he_0 : isO YC e_0 3 8) (a_1 : Int32) (a_2 : Int32) (e_3 : Nat) (he_3 : isA YC e_3 1 (zY YC e_3) .int) (a_4 : Int32) (a_6 : Int32) (X : St), TC YC Γ cX3_isSame 7 "BlameCourt$Kinds" (some .boolean) { frames := 2, cells := 0, slots := 0, locals := 70 } As kI 30 [(0, .ref (Γ.2.2.2.1 e_0)), (1, .int a_1), (2, .int a_2), (3, .ref (Γ.2.2.2.1 e_3)), (4, .int a_4), (6, .int a_6)] [] X (r30 e_0 a_1 a_2 e_3 a_4 a_6 X)) (fun _ _ _ _ _ _ _ _ _ => TC.no) ?_ n
  intro r30 hr30 e_0 he_0 a_1 a_2 e_3 he_3 a_4 a_6 X
  unfold g_Kinds_isSame_30_s
  refine TC.iload dX3_isSame_30 5 rfl ?_
  refine TC.iload_n dX3_isSame_32 rfl 2 rfl ?_
  refine TC.icmp_ge (pc1 := 65) dX3_isSame_33 (by decide) rfl ?_ ?_
  · refine TC.iconst (w := 1) dX3_isSame_65 (by decide) ?_
    exact TC.ret_z rfl dX3_isSame_66 rfl
  · refine TC.aload_n dX3_isSame_36 rfl 0 rfl ?_
    refine vC3_3 e_0 he_0 k252 dX3_isSame_37 (fun e7 he7 => ?_)
    refine TC.iload_n dX3_isSame_40 rfl 1 rfl ?_
    refine TC.iconst (w := 5) dX3_isSame_41 (by decide) ?_
    refine TC.imul dX3_isSame_42 (fun x8 => ?_)
    refine TC.iload dX3_isSame_43 5 rfl ?_
    refine TC.iadd dX3_isSame_45 (fun x9 => ?_)
    refine TC.iald e7 he7 dX3_isSame_46 (fun x10 => ?_)
    refine TC.aload_n dX3_isSame_47 rfl 3 rfl ?_
    refine TC.iload dX3_isSame_48 4 rfl ?_
    refine TC.iload dX3_isSame_50 5 rfl ?_
    refine TC.iadd dX3_isSame_52 (fun x11 => ?_)
    refine TC.iald e_3 he_3 dX3_isSame_53 (fun x12 => ?_)
    refine TC.icmp_eq (pc1 := 59) dX3_isSame_54 (by decide) rfl ?_ ?_
    · refine TC.iinc dX3_isSame_59 5 rfl (by decide) (lvf := fun x13 => [(6, .int x13), (0, .ref (Γ.2.2.2.1 e_0)), (1, .int a_1), (2, .int a_2), (3, .ref (Γ.2.2.2.1 e_3)), (4, .int a_4)]) (fun _ => rfl) (fun x13 => ?_)
      refine TC.goto (pc1 := 30) dX3_isSame_62 (by decide) ?_
      refine TC.sub [1, 2, 3, 4, 5, 0] rfl ?_
      exact hr30 e_0 he_0 a_1 a_2 e_3 he_3 a_4 x13 X
    · refine TC.iconst (w := 0) dX3_isSame_57 (by decide) ?_
      exact TC.ret_z rfl dX3_isSame_58 rfl
noncomputable def g_Kinds_isSame (o0 : Nat) (p1 : Int32) (p2 : Int32) (o3 : Nat) (p4 : Int32) (p5 : Int32) (X : St) : Option (Int32 × St) :=
  letV (kY YC o0 2 - 3) fun e1 =>
  chk (inR p1 1549) (letV (X.1 e1 (ix p1)) fun x2 =>
  if x2.toInt = p2.toInt then
    letV (kY YC o0 3 - 3) fun e3 =>
    letV (p1 * (5 : Int32)) fun x4 =>
    letV (x4 + (4 : Int32)) fun x5 =>
    chk (inR x5 7745) (letV (X.1 e3 (ix x5)) fun x6 =>
    if x6.toInt = p5.toInt then
      g_Kinds_isSame_30 BIG o0 p1 p2 o3 p4 (0 : Int32) X
    else
      some (0, X))
  else
    some (0, X))
set_option maxHeartbeats 4000000 in
set_option maxRecDepth 100000 in
theorem k_Kinds_isSame (Γ : GxC) (o0 : Nat) (ho0 : isO YC o0 3 8) (p1 : Int32) (p2 : Int32) (o3 : Nat) (ho3 : isA YC o3 1 (zY YC o3) .int) (p4 : Int32) (p5 : Int32) (X : St) : TCI YC Γ yX3_isSame cX3_isSame 7 "BlameCourt$Kinds" (some .boolean) { frames := 2, cells := 0, slots := 0, locals := 70 } [.ref (Γ.2.2.2.1 o0), .int p1, .int p2, .ref (Γ.2.2.2.1 o3), .int p4, .int p5] X (g_Kinds_isSame o0 p1 p2 o3 p4 p5 X) := by
  refine TCI.of (by decide) (Nat.le_of_ble_eq_true rfl) rfl ?_
  show TC YC Γ cX3_isSame 7 "BlameCourt$Kinds" (some .boolean) { frames := 2, cells := 0, slots := 0, locals := 70 } _ kI 0 [(0, .ref (Γ.2.2.2.1 o0)), (1, .int p1), (2, .int p2), (3, .ref (Γ.2.2.2.1 o3)), (4, .int p4), (5, .int p5)] [] X (g_Kinds_isSame o0 p1 p2 o3 p4 p5 X)
  unfold g_Kinds_isSame
  refine TC.aload_n dX3_isSame_0 rfl 0 rfl ?_
  refine vC3_2 o0 ho0 k251 dX3_isSame_1 (fun e1 he1 => ?_)
  refine TC.iload_n dX3_isSame_4 rfl 1 rfl ?_
  refine TC.iald e1 he1 dX3_isSame_5 (fun x2 => ?_)
  refine TC.iload_n dX3_isSame_6 rfl 2 rfl ?_
  refine TC.icmp_ne (pc1 := 25) dX3_isSame_7 (by decide) rfl ?_ ?_
  · refine TC.iconst (w := 0) dX3_isSame_25 (by decide) ?_
    exact TC.ret_z rfl dX3_isSame_26 rfl
  · refine TC.aload_n dX3_isSame_10 rfl 0 rfl ?_
    refine vC3_3 o0 ho0 k252 dX3_isSame_11 (fun e3 he3 => ?_)
    refine TC.iload_n dX3_isSame_14 rfl 1 rfl ?_
    refine TC.iconst (w := 5) dX3_isSame_15 (by decide) ?_
    refine TC.imul dX3_isSame_16 (fun x4 => ?_)
    refine TC.iconst (w := 4) dX3_isSame_17 (by decide) ?_
    refine TC.iadd dX3_isSame_18 (fun x5 => ?_)
    refine TC.iald e3 he3 dX3_isSame_19 (fun x6 => ?_)
    refine TC.iload dX3_isSame_20 5 rfl ?_
    refine TC.icmp_eq (pc1 := 27) dX3_isSame_22 (by decide) rfl ?_ ?_
    · refine TC.iconst (w := 0) dX3_isSame_27 (by decide) ?_
      refine TC.istore (lv1 := [(6, .int 0), (0, .ref (Γ.2.2.2.1 o0)), (1, .int p1), (2, .int p2), (3, .ref (Γ.2.2.2.1 o3)), (4, .int p4), (5, .int p5)]) dX3_isSame_28 (by decide) rfl ?_
      refine TC.sub [1, 2, 3, 4, 5, 0] rfl ?_
      exact k_Kinds_isSame_30 Γ _ BIG o0 ho0 p1 p2 o3 ho3 p4 (0 : Int32) X
    · refine TC.iconst (w := 0) dX3_isSame_25 (by decide) ?_
      exact TC.ret_z rfl dX3_isSame_26 rfl
noncomputable def g_Kinds_hasAny (o0 : Nat) (p1 : Int32) (X : St) : Option (Int32 × St) :=
  if p1.toInt < 0 then
    some (0, X)
  else
    letV (X.1 o0 0) fun x1 =>
    if x1.toInt ≤ p1.toInt then
      some (0, X)
    else
      letV (kY YC o0 5 - 3) fun e2 =>
      chk (inR p1 1549) (letV (X.1 e2 (ix p1)) fun x3 =>
      if x3.toInt = 0 then
        some (0, X)
      else
        some (1, X))
set_option maxHeartbeats 4000000 in
set_option maxRecDepth 100000 in
theorem k_Kinds_hasAny (Γ : GxC) (o0 : Nat) (ho0 : isO YC o0 3 8) (p1 : Int32) (X : St) : TCI YC Γ yX3_hasAny cX3_hasAny 2 "BlameCourt$Kinds" (some .boolean) { frames := 2, cells := 0, slots := 0, locals := 70 } [.ref (Γ.2.2.2.1 o0), .int p1] X (g_Kinds_hasAny o0 p1 X) := by
  refine TCI.of (by decide) (Nat.le_of_ble_eq_true rfl) rfl ?_
  show TC YC Γ cX3_hasAny 2 "BlameCourt$Kinds" (some .boolean) { frames := 2, cells := 0, slots := 0, locals := 70 } _ kI 0 [(0, .ref (Γ.2.2.2.1 o0)), (1, .int p1)] [] X (g_Kinds_hasAny o0 p1 X)
  unfold g_Kinds_hasAny
  refine TC.iload_n dX3_hasAny_0 rfl 1 rfl ?_
  refine TC.if_lt (pc1 := 25) dX3_hasAny_1 (by decide) ?_ ?_
  · refine TC.iconst (w := 0) dX3_hasAny_25 (by decide) ?_
    exact TC.ret_z rfl dX3_hasAny_26 rfl
  · refine TC.iload_n dX3_hasAny_4 rfl 1 rfl ?_
    refine TC.aload_n dX3_hasAny_5 rfl 0 rfl ?_
    refine gC3_0 o0 ho0 k257 dX3_hasAny_6 (fun x1 => ?_)
    refine TC.icmp_ge (pc1 := 25) dX3_hasAny_9 (by decide) rfl ?_ ?_
    · refine TC.iconst (w := 0) dX3_hasAny_25 (by decide) ?_
      exact TC.ret_z rfl dX3_hasAny_26 rfl
    · refine TC.aload_n dX3_hasAny_12 rfl 0 rfl ?_
      refine vC3_5 o0 ho0 k254 dX3_hasAny_13 (fun e2 he2 => ?_)
      refine TC.iload_n dX3_hasAny_16 rfl 1 rfl ?_
      refine TC.zald e2 he2 dX3_hasAny_17 (fun x3 => ?_)
      refine TC.if_eq (pc1 := 25) dX3_hasAny_18 (by decide) ?_ ?_
      · refine TC.iconst (w := 0) dX3_hasAny_25 (by decide) ?_
        exact TC.ret_z rfl dX3_hasAny_26 rfl
      · refine TC.iconst (w := 1) dX3_hasAny_21 (by decide) ?_
        refine TC.goto (pc1 := 26) dX3_hasAny_22 (by decide) ?_
        exact TC.ret_z rfl dX3_hasAny_26 rfl
noncomputable def g_Kinds_findOrAdd_221 (r172 : Nat → Int32 → Nat → Int32 → Int32 → Int32 → Int32 → Int32 → St → Option (Int32 × St)) (e_0 : Nat) (a_2 : Int32) (e_3 : Nat) (a_4 : Int32) (a_7 : Int32) (a_8 : Int32) (a_10 : Int32) (b_0 : Int32) (X : St) : Option (Int32 × St) :=
  letV (a_10 + Int32.ofInt (1)) fun x34 =>
  r172 e_0 a_2 e_3 a_4 a_7 a_8 b_0 x34 X
set_option maxHeartbeats 4000000 in
set_option maxRecDepth 100000 in
theorem k_Kinds_findOrAdd_221 (Γ : GxC) (As : List Value) (r172 : Nat → Int32 → Nat → Int32 → Int32 → Int32 → Int32 → Int32 → St → Option (Int32 × St)) (hr172 : ∀ (e_0 : Nat) (he_0 : isO YC e_0 3 8) (a_2 : Int32) (e_3 : Nat) (he_3 : isA YC e_3 1 (zY YC e_3) .int) (a_4 : Int32) (a_7 : Int32) (a_8 : Int32) (a_9 : Int32) (a_10 : Int32) (X : St), TC YC Γ cX3_findOrAdd 11 "BlameCourt$Kinds" (some .int) { frames := 3, cells := 0, slots := 0, locals := 110 } As kI 172 [(0, .ref (Γ.2.2.2.1 e_0)), (2, .int a_2), (3, .ref (Γ.2.2.2.1 e_3)), (4, .int a_4), (7, .int a_7), (8, .int a_8), (9, .int a_9), (10, .int a_10)] [] X (r172 e_0 a_2 e_3 a_4 a_7 a_8 a_9 a_10 X)) (e_0 : Nat) (he_0 : isO YC e_0 3 8) (a_2 : Int32) (e_3 : Nat) (he_3 : isA YC e_3 1 (zY YC e_3) .int) (a_4 : Int32) (a_7 : Int32) (a_8 : Int32) (a_10 : Int32) (b_0 : Int32) (X : St) : TC YC Γ cX3_findOrAdd 11 "BlameCourt$Kinds" (some .int) { frames := 3, cells := 0, slots := 0, locals := 110 } As kI 221 [(0, .ref (Γ.2.2.2.1 e_0)), (2, .int a_2), (3, .ref (Γ.2.2.2.1 e_3)), (4, .int a_4), (7, .int a_7), (8, .int a_8), (10, .int a_10)] [.int b_0] X (g_Kinds_findOrAdd_221 r172 e_0 a_2 e_3 a_4 a_7 a_8 a_10 b_0 X) := by
  unfold g_Kinds_findOrAdd_221
  refine TC.istore (lv1 := [(9, .int b_0), (0, .ref (Γ.2.2.2.1 e_0)), (2, .int a_2), (3, .ref (Γ.2.2.2.1 e_3)), (4, .int a_4), (7, .int a_7), (8, .int a_8), (10, .int a_10)]) dX3_findOrAdd_221 (by decide) rfl ?_
  refine TC.iinc dX3_findOrAdd_223 7 rfl (by decide) (lvf := fun x34 => [(10, .int x34), (9, .int b_0), (0, .ref (Γ.2.2.2.1 e_0)), (2, .int a_2), (3, .ref (Γ.2.2.2.1 e_3)), (4, .int a_4), (7, .int a_7), (8, .int a_8)]) (fun _ => rfl) (fun x34 => ?_)
  refine TC.goto (pc1 := 172) dX3_findOrAdd_226 (by decide) ?_
  refine TC.sub [2, 3, 4, 5, 6, 7, 1, 0] rfl ?_
  exact hr172 e_0 he_0 a_2 e_3 he_3 a_4 a_7 a_8 b_0 x34 X
noncomputable def g_Kinds_findOrAdd_216 (r172 : Nat → Int32 → Nat → Int32 → Int32 → Int32 → Int32 → Int32 → St → Option (Int32 × St)) (e_0 : Nat) (a_2 : Int32) (e_3 : Nat) (a_4 : Int32) (a_7 : Int32) (a_8 : Int32) (a_10 : Int32) (X : St) : Option (Int32 × St) :=
  g_Kinds_findOrAdd_221 r172 e_0 a_2 e_3 a_4 a_7 a_8 a_10 (1 : Int32) X
set_option maxHeartbeats 4000000 in
set_option maxRecDepth 100000 in
theorem k_Kinds_findOrAdd_216 (Γ : GxC) (As : List Value) (r172 : Nat → Int32 → Nat → Int32 → Int32 → Int32 → Int32 → Int32 → St → Option (Int32 × St)) (hr172 : ∀ (e_0 : Nat) (he_0 : isO YC e_0 3 8) (a_2 : Int32) (e_3 : Nat) (he_3 : isA YC e_3 1 (zY YC e_3) .int) (a_4 : Int32) (a_7 : Int32) (a_8 : Int32) (a_9 : Int32) (a_10 : Int32) (X : St), TC YC Γ cX3_findOrAdd 11 "BlameCourt$Kinds" (some .int) { frames := 3, cells := 0, slots := 0, locals := 110 } As kI 172 [(0, .ref (Γ.2.2.2.1 e_0)), (2, .int a_2), (3, .ref (Γ.2.2.2.1 e_3)), (4, .int a_4), (7, .int a_7), (8, .int a_8), (9, .int a_9), (10, .int a_10)] [] X (r172 e_0 a_2 e_3 a_4 a_7 a_8 a_9 a_10 X)) (e_0 : Nat) (he_0 : isO YC e_0 3 8) (a_2 : Int32) (e_3 : Nat) (he_3 : isA YC e_3 1 (zY YC e_3) .int) (a_4 : Int32) (a_7 : Int32) (a_8 : Int32) (a_10 : Int32) (X : St) : TC YC Γ cX3_findOrAdd 11 "BlameCourt$Kinds" (some .int) { frames := 3, cells := 0, slots := 0, locals := 110 } As kI 216 [(0, .ref (Γ.2.2.2.1 e_0)), (2, .int a_2), (3, .ref (Γ.2.2.2.1 e_3)), (4, .int a_4), (7, .int a_7), (8, .int a_8), (10, .int a_10)] [] X (g_Kinds_findOrAdd_216 r172 e_0 a_2 e_3 a_4 a_7 a_8 a_10 X) := by
  unfold g_Kinds_findOrAdd_216
  refine TC.iconst (w := 1) dX3_findOrAdd_216 (by decide) ?_
  refine TC.goto (pc1 := 221) dX3_findOrAdd_217 (by decide) ?_
  exact k_Kinds_findOrAdd_221 Γ _ r172 hr172 e_0 he_0 a_2 e_3 he_3 a_4 a_7 a_8 a_10 (1 : Int32) X
noncomputable def g_Kinds_findOrAdd_172_s (r172 : Nat → Int32 → Nat → Int32 → Int32 → Int32 → Int32 → Int32 → St → Option (Int32 × St)) (e_0 : Nat) (a_2 : Int32) (e_3 : Nat) (a_4 : Int32) (a_7 : Int32) (a_8 : Int32) (a_9 : Int32) (a_10 : Int32) (X : St) : Option (Int32 × St) :=
  if a_2.toInt ≤ a_10.toInt then
    letV (kY YC e_0 5 - 3) fun e20 =>
    chk (inR a_8 1549) (letV (wI X e20 (ix a_8) (vp_nar .boolean a_9)) fun X21 =>
    letV (kY YC e_0 7 - 3) fun e22 =>
    letV (kY YC e_0 6 - 3) fun e23 =>
    chk (inR a_7 512) (letV (X21.1 e23 (ix a_7)) fun x24 =>
    chk (inR a_8 1549) (letV (wI X21 e22 (ix a_8) x24) fun X25 =>
    letV (kY YC e_0 6 - 3) fun e26 =>
    chk (inR a_7 512) (letV (wI X25 e26 (ix a_7) a_8) fun X27 =>
    some (a_8, X27)))))
  else
    letV (kY YC e_0 3 - 3) fun e28 =>
    letV (a_8 * (5 : Int32)) fun x29 =>
    letV (x29 + a_10) fun x30 =>
    letV (a_4 + a_10) fun x31 =>
    chk (inR x31 (zY YC e_3)) (letV (X.1 e_3 (ix x31)) fun x32 =>
    chk (inR x30 7745) (letV (wI X e28 (ix x30) x32) fun X33 =>
    if a_9.toInt = 0 then
      letV (a_4 + a_10) fun x35 =>
      chk (inR x35 (zY YC e_3)) (letV (X33.1 e_3 (ix x35)) fun x36 =>
      bnd (g_Kinds_hasAny e_0 x36 X33) fun x37 X38 =>
      if x37.toInt = 0 then
        g_Kinds_findOrAdd_221 r172 e_0 a_2 e_3 a_4 a_7 a_8 a_10 (0 : Int32) X38
      else
        g_Kinds_findOrAdd_216 r172 e_0 a_2 e_3 a_4 a_7 a_8 a_10 X38)
    else
      g_Kinds_findOrAdd_216 r172 e_0 a_2 e_3 a_4 a_7 a_8 a_10 X33))
noncomputable def g_Kinds_findOrAdd_172 (n : Nat) : Nat → Int32 → Nat → Int32 → Int32 → Int32 → Int32 → Int32 → St → Option (Int32 × St) := lp (fun _ _ _ _ _ _ _ _ _ => none) (g_Kinds_findOrAdd_172_s) n
set_option maxHeartbeats 4000000 in
set_option maxRecDepth 100000 in
theorem k_Kinds_findOrAdd_172 (Γ : GxC) (As : List Value) (n : Nat) : ∀ (e_0 : Nat) (he_0 : isO YC e_0 3 8) (a_2 : Int32) (e_3 : Nat) (he_3 : isA YC e_3 1 (zY YC e_3) .int) (a_4 : Int32) (a_7 : Int32) (a_8 : Int32) (a_9 : Int32) (a_10 : Int32) (X : St), TC YC Γ cX3_findOrAdd 11 "BlameCourt$Kinds" (some .int) { frames := 3, cells := 0, slots := 0, locals := 110 } As kI 172 [(0, .ref (Γ.2.2.2.1 e_0)), (2, .int a_2), (3, .ref (Γ.2.2.2.1 e_3)), (4, .int a_4), (7, .int a_7), (8, .int a_8), (9, .int a_9), (10, .int a_10)] [] X (g_Kinds_findOrAdd_172 n e_0 a_2 e_3 a_4 a_7 a_8 a_9 a_10 X) := by
  unfold g_Kinds_findOrAdd_172
  refine lp_ind (P := fun (r172 : Nat → Int32 → Nat → Int32 → Int32 → Int32 → Int32 → Int32 → St → Option (Int32 × St)) => ∀ (e_0 : Nat) (he_0 : isO YC e_0 3 8) (a_2 : Int32) (e_3 : Nat) (he_3 : isA YC e_3 1 (zY YC e_3) .int) (a_4 : Int32) (a_7 : Int32) (a_8 : Int32) (a_9 : Int32) (a_10 : Int32) (X : St), TC YC Γ cX3_findOrAdd 11 "BlameCourt$Kinds" (some .int) { frames := 3, cells := 0, slots := 0, locals := 110 } As kI 172 [(0, .ref (Γ.2.2.2.1 e_0)), (2, .int a_2), (3, .ref (Γ.2.2.2.1 e_3)), (4, .int a_4), (7, .int a_7), (8, .int a_8), (9, .int a_9), (10, .int a_10)] [] X (r172 e_0 a_2 e_3 a_4 a_7 a_8 a_9 a_10 X)) (fun _ _ _ _ _ _ _ _ _ _ _ => TC.no) ?_ n
  intro r172 hr172 e_0 he_0 a_2 e_3 he_3 a_4 a_7 a_8 a_9 a_10 X
  unfold g_Kinds_findOrAdd_172_s
  refine TC.iload dX3_findOrAdd_172 7 rfl ?_
  refine TC.iload_n dX3_findOrAdd_174 rfl 1 rfl ?_
  refine TC.icmp_ge (pc1 := 229) dX3_findOrAdd_175 (by decide) rfl ?_ ?_
  · refine TC.aload_n dX3_findOrAdd_229 rfl 0 rfl ?_
    refine vC3_5 e_0 he_0 k254 dX3_findOrAdd_230 (fun e20 he20 => ?_)
    refine TC.iload dX3_findOrAdd_233 5 rfl ?_
    refine TC.iload dX3_findOrAdd_235 6 rfl ?_
    refine TC.zast e20 he20 dX3_findOrAdd_237 (fun X21 => ?_)
    refine TC.aload_n dX3_findOrAdd_238 rfl 0 rfl ?_
    refine vC3_7 e_0 he_0 k256 dX3_findOrAdd_239 (fun e22 he22 => ?_)
    refine TC.iload dX3_findOrAdd_242 5 rfl ?_
    refine TC.aload_n dX3_findOrAdd_244 rfl 0 rfl ?_
    refine vC3_6 e_0 he_0 k255 dX3_findOrAdd_245 (fun e23 he23 => ?_)
    refine TC.iload dX3_findOrAdd_248 4 rfl ?_
    refine TC.iald e23 he23 dX3_findOrAdd_250 (fun x24 => ?_)
    refine TC.iast e22 he22 dX3_findOrAdd_251 (fun X25 => ?_)
    refine TC.aload_n dX3_findOrAdd_252 rfl 0 rfl ?_
    refine vC3_6 e_0 he_0 k255 dX3_findOrAdd_253 (fun e26 he26 => ?_)
    refine TC.iload dX3_findOrAdd_256 4 rfl ?_
    refine TC.iload dX3_findOrAdd_258 5 rfl ?_
    refine TC.iast e26 he26 dX3_findOrAdd_260 (fun X27 => ?_)
    refine TC.iload dX3_findOrAdd_261 5 rfl ?_
    exact TC.ret_i rfl dX3_findOrAdd_263
  · refine TC.aload_n dX3_findOrAdd_178 rfl 0 rfl ?_
    refine vC3_3 e_0 he_0 k252 dX3_findOrAdd_179 (fun e28 he28 => ?_)
    refine TC.iload dX3_findOrAdd_182 5 rfl ?_
    refine TC.iconst (w := 5) dX3_findOrAdd_184 (by decide) ?_
    refine TC.imul dX3_findOrAdd_185 (fun x29 => ?_)
    refine TC.iload dX3_findOrAdd_186 7 rfl ?_
    refine TC.iadd dX3_findOrAdd_188 (fun x30 => ?_)
    refine TC.aload_n dX3_findOrAdd_189 rfl 2 rfl ?_
    refine TC.iload dX3_findOrAdd_190 3 rfl ?_
    refine TC.iload dX3_findOrAdd_192 7 rfl ?_
    refine TC.iadd dX3_findOrAdd_194 (fun x31 => ?_)
    refine TC.iald e_3 he_3 dX3_findOrAdd_195 (fun x32 => ?_)
    refine TC.iast e28 he28 dX3_findOrAdd_196 (fun X33 => ?_)
    refine TC.iload dX3_findOrAdd_197 6 rfl ?_
    refine TC.if_ne (pc1 := 216) dX3_findOrAdd_199 (by decide) ?_ ?_
    · refine TC.sub [0, 1, 2, 3, 4, 5, 7] rfl ?_
      exact k_Kinds_findOrAdd_216 Γ _ r172 hr172 e_0 he_0 a_2 e_3 he_3 a_4 a_7 a_8 a_10 X33
    · refine TC.aload_n dX3_findOrAdd_202 rfl 0 rfl ?_
      refine TC.aload_n dX3_findOrAdd_203 rfl 2 rfl ?_
      refine TC.iload dX3_findOrAdd_204 3 rfl ?_
      refine TC.iload dX3_findOrAdd_206 7 rfl ?_
      refine TC.iadd dX3_findOrAdd_208 (fun x35 => ?_)
      refine TC.iald e_3 he_3 dX3_findOrAdd_209 (fun x36 => ?_)
      refine TC.callV_i e_0 (As1 := [.int x36]) (rest := []) (k_Kinds_hasAny Γ e_0 he_0 x36 X33) ka_X3_hasAny kv_X3_hasAny he_0 rfl k234 rfl rfl rfl rfl (show 2 + 1 ≤ 3 ∧ 8 + (2 + 11) + 70 ≤ 110 from ⟨by omega, by omega⟩) (Nat.le_of_ble_eq_true rfl) dX3_findOrAdd_210 (fun x37 X38 => ?_)
      refine TC.if_eq (pc1 := 220) dX3_findOrAdd_213 (by decide) ?_ ?_
      · refine TC.iconst (w := 0) dX3_findOrAdd_220 (by decide) ?_
        refine TC.sub [0, 1, 2, 3, 4, 5, 7] rfl ?_
        exact k_Kinds_findOrAdd_221 Γ _ r172 hr172 e_0 he_0 a_2 e_3 he_3 a_4 a_7 a_8 a_10 (0 : Int32) X38
      · refine TC.sub [0, 1, 2, 3, 4, 5, 7] rfl ?_
        exact k_Kinds_findOrAdd_216 Γ _ r172 hr172 e_0 he_0 a_2 e_3 he_3 a_4 a_7 a_8 a_10 X38
noncomputable def g_Kinds_findOrAdd_167 (e_0 : Nat) (a_2 : Int32) (e_3 : Nat) (a_4 : Int32) (a_7 : Int32) (a_8 : Int32) (b_0 : Int32) (X : St) : Option (Int32 × St) :=
  g_Kinds_findOrAdd_172 BIG e_0 a_2 e_3 a_4 a_7 a_8 b_0 (0 : Int32) X
set_option maxHeartbeats 4000000 in
set_option maxRecDepth 100000 in
theorem k_Kinds_findOrAdd_167 (Γ : GxC) (As : List Value) (e_0 : Nat) (he_0 : isO YC e_0 3 8) (a_2 : Int32) (e_3 : Nat) (he_3 : isA YC e_3 1 (zY YC e_3) .int) (a_4 : Int32) (a_7 : Int32) (a_8 : Int32) (b_0 : Int32) (X : St) : TC YC Γ cX3_findOrAdd 11 "BlameCourt$Kinds" (some .int) { frames := 3, cells := 0, slots := 0, locals := 110 } As kI 167 [(0, .ref (Γ.2.2.2.1 e_0)), (2, .int a_2), (3, .ref (Γ.2.2.2.1 e_3)), (4, .int a_4), (7, .int a_7), (8, .int a_8)] [.int b_0] X (g_Kinds_findOrAdd_167 e_0 a_2 e_3 a_4 a_7 a_8 b_0 X) := by
  unfold g_Kinds_findOrAdd_167
  refine TC.istore (lv1 := [(9, .int b_0), (0, .ref (Γ.2.2.2.1 e_0)), (2, .int a_2), (3, .ref (Γ.2.2.2.1 e_3)), (4, .int a_4), (7, .int a_7), (8, .int a_8)]) dX3_findOrAdd_167 (by decide) rfl ?_
  refine TC.iconst (w := 0) dX3_findOrAdd_169 (by decide) ?_
  refine TC.istore (lv1 := [(10, .int 0), (9, .int b_0), (0, .ref (Γ.2.2.2.1 e_0)), (2, .int a_2), (3, .ref (Γ.2.2.2.1 e_3)), (4, .int a_4), (7, .int a_7), (8, .int a_8)]) dX3_findOrAdd_170 (by decide) rfl ?_
  refine TC.sub [2, 3, 4, 5, 6, 7, 1, 0] rfl ?_
  exact k_Kinds_findOrAdd_172 Γ _ BIG e_0 he_0 a_2 e_3 he_3 a_4 a_7 a_8 b_0 (0 : Int32) X
noncomputable def g_Kinds_findOrAdd_162 (e_0 : Nat) (a_2 : Int32) (e_3 : Nat) (a_4 : Int32) (a_7 : Int32) (a_8 : Int32) (X : St) : Option (Int32 × St) :=
  g_Kinds_findOrAdd_167 e_0 a_2 e_3 a_4 a_7 a_8 (1 : Int32) X
set_option maxHeartbeats 4000000 in
set_option maxRecDepth 100000 in
theorem k_Kinds_findOrAdd_162 (Γ : GxC) (As : List Value) (e_0 : Nat) (he_0 : isO YC e_0 3 8) (a_2 : Int32) (e_3 : Nat) (he_3 : isA YC e_3 1 (zY YC e_3) .int) (a_4 : Int32) (a_7 : Int32) (a_8 : Int32) (X : St) : TC YC Γ cX3_findOrAdd 11 "BlameCourt$Kinds" (some .int) { frames := 3, cells := 0, slots := 0, locals := 110 } As kI 162 [(0, .ref (Γ.2.2.2.1 e_0)), (2, .int a_2), (3, .ref (Γ.2.2.2.1 e_3)), (4, .int a_4), (7, .int a_7), (8, .int a_8)] [] X (g_Kinds_findOrAdd_162 e_0 a_2 e_3 a_4 a_7 a_8 X) := by
  unfold g_Kinds_findOrAdd_162
  refine TC.iconst (w := 1) dX3_findOrAdd_162 (by decide) ?_
  refine TC.goto (pc1 := 167) dX3_findOrAdd_163 (by decide) ?_
  exact k_Kinds_findOrAdd_167 Γ _ e_0 he_0 a_2 e_3 he_3 a_4 a_7 a_8 (1 : Int32) X
noncomputable def g_Kinds_findOrAdd_166 (e_0 : Nat) (a_2 : Int32) (e_3 : Nat) (a_4 : Int32) (a_7 : Int32) (a_8 : Int32) (X : St) : Option (Int32 × St) :=
  g_Kinds_findOrAdd_167 e_0 a_2 e_3 a_4 a_7 a_8 (0 : Int32) X
set_option maxHeartbeats 4000000 in
set_option maxRecDepth 100000 in
theorem k_Kinds_findOrAdd_166 (Γ : GxC) (As : List Value) (e_0 : Nat) (he_0 : isO YC e_0 3 8) (a_2 : Int32) (e_3 : Nat) (he_3 : isA YC e_3 1 (zY YC e_3) .int) (a_4 : Int32) (a_7 : Int32) (a_8 : Int32) (X : St) : TC YC Γ cX3_findOrAdd 11 "BlameCourt$Kinds" (some .int) { frames := 3, cells := 0, slots := 0, locals := 110 } As kI 166 [(0, .ref (Γ.2.2.2.1 e_0)), (2, .int a_2), (3, .ref (Γ.2.2.2.1 e_3)), (4, .int a_4), (7, .int a_7), (8, .int a_8)] [] X (g_Kinds_findOrAdd_166 e_0 a_2 e_3 a_4 a_7 a_8 X) := by
  unfold g_Kinds_findOrAdd_166
  refine TC.iconst (w := 0) dX3_findOrAdd_166 (by decide) ?_
  exact k_Kinds_findOrAdd_167 Γ _ e_0 he_0 a_2 e_3 he_3 a_4 a_7 a_8 (0 : Int32) X
noncomputable def g_Kinds_findOrAdd_77 (e_0 : Nat) (a_1 : Int32) (a_2 : Int32) (e_3 : Nat) (a_4 : Int32) (a_5 : Int32) (a_6 : Int32) (a_7 : Int32) (X : St) : Option (Int32 × St) :=
  letV (X.1 e_0 0) fun x5 =>
  if x5.toInt < 1549 then
    letV (X.1 e_0 0) fun x6 =>
    letV (X.1 e_0 0) fun x7 =>
    letV (x7 + (1 : Int32)) fun x8 =>
    letV (wI X e_0 0 x8) fun X9 =>
    letV (kY YC e_0 1 - 3) fun e10 =>
    chk (inR x6 1549) (letV (wI X9 e10 (ix x6) a_1) fun X11 =>
    letV (kY YC e_0 2 - 3) fun e12 =>
    chk (inR x6 1549) (letV (wI X11 e12 (ix x6) a_2) fun X13 =>
    letV (kY YC e_0 4 - 3) fun e14 =>
    chk (inR x6 1549) (letV (wI X13 e14 (ix x6) a_6) fun X15 =>
    letV (kY YC e_0 3 - 3) fun e16 =>
    letV (x6 * (5 : Int32)) fun x17 =>
    letV (x17 + (4 : Int32)) fun x18 =>
    chk (inR x18 7745) (letV (wI X15 e16 (ix x18) a_5) fun X19 =>
    if a_1.toInt = 2 then
      g_Kinds_findOrAdd_162 e_0 a_2 e_3 a_4 a_7 x6 X19
    else
      if a_1.toInt < 3 then
        g_Kinds_findOrAdd_166 e_0 a_2 e_3 a_4 a_7 x6 X19
      else
        bnd (g_Kinds_hasAny e_0 a_5 X19) fun x39 X40 =>
        if x39.toInt = 0 then
          g_Kinds_findOrAdd_166 e_0 a_2 e_3 a_4 a_7 x6 X40
        else
          g_Kinds_findOrAdd_162 e_0 a_2 e_3 a_4 a_7 x6 X40))))
  else
    some (2, X)
set_option maxHeartbeats 4000000 in
set_option maxRecDepth 100000 in
theorem k_Kinds_findOrAdd_77 (Γ : GxC) (As : List Value) (e_0 : Nat) (he_0 : isO YC e_0 3 8) (a_1 : Int32) (a_2 : Int32) (e_3 : Nat) (he_3 : isA YC e_3 1 (zY YC e_3) .int) (a_4 : Int32) (a_5 : Int32) (a_6 : Int32) (a_7 : Int32) (X : St) : TC YC Γ cX3_findOrAdd 11 "BlameCourt$Kinds" (some .int) { frames := 3, cells := 0, slots := 0, locals := 110 } As kI 77 [(0, .ref (Γ.2.2.2.1 e_0)), (1, .int a_1), (2, .int a_2), (3, .ref (Γ.2.2.2.1 e_3)), (4, .int a_4), (5, .int a_5), (6, .int a_6), (7, .int a_7)] [] X (g_Kinds_findOrAdd_77 e_0 a_1 a_2 e_3 a_4 a_5 a_6 a_7 X) := by
  unfold g_Kinds_findOrAdd_77
  refine TC.aload_n dX3_findOrAdd_77 rfl 0 rfl ?_
  refine gC3_0 e_0 he_0 k257 dX3_findOrAdd_78 (fun x5 => ?_)
  refine TC.sipush (w := 1549) dX3_findOrAdd_81 (by decide) ?_
  refine TC.icmp_lt (pc1 := 89) dX3_findOrAdd_84 (by decide) rfl ?_ ?_
  · refine TC.aload_n dX3_findOrAdd_89 rfl 0 rfl ?_
    refine gC3_0 e_0 he_0 k257 dX3_findOrAdd_90 (fun x6 => ?_)
    refine TC.istore (lv1 := [(8, .int x6), (0, .ref (Γ.2.2.2.1 e_0)), (1, .int a_1), (2, .int a_2), (3, .ref (Γ.2.2.2.1 e_3)), (4, .int a_4), (5, .int a_5), (6, .int a_6), (7, .int a_7)]) dX3_findOrAdd_93 (by decide) rfl ?_
    refine TC.aload_n dX3_findOrAdd_95 rfl 1 rfl ?_
    refine TC.dupr dX3_findOrAdd_96 ?_
    refine gC3_0 e_0 he_0 k257 dX3_findOrAdd_97 (fun x7 => ?_)
    refine TC.iconst (w := 1) dX3_findOrAdd_100 (by decide) ?_
    refine TC.iadd dX3_findOrAdd_101 (fun x8 => ?_)
    refine pC3_0 e_0 he_0 k257 dX3_findOrAdd_102 (fun X9 => ?_)
    refine TC.aload_n dX3_findOrAdd_105 rfl 1 rfl ?_
    refine vC3_1 e_0 he_0 k250 dX3_findOrAdd_106 (fun e10 he10 => ?_)
    refine TC.iload dX3_findOrAdd_109 0 rfl ?_
    refine TC.iload_n dX3_findOrAdd_111 rfl 2 rfl ?_
    refine TC.iast e10 he10 dX3_findOrAdd_112 (fun X11 => ?_)
    refine TC.aload_n dX3_findOrAdd_113 rfl 1 rfl ?_
    refine vC3_2 e_0 he_0 k251 dX3_findOrAdd_114 (fun e12 he12 => ?_)
    refine TC.iload dX3_findOrAdd_117 0 rfl ?_
    refine TC.iload_n dX3_findOrAdd_119 rfl 3 rfl ?_
    refine TC.iast e12 he12 dX3_findOrAdd_120 (fun X13 => ?_)
    refine TC.aload_n dX3_findOrAdd_121 rfl 1 rfl ?_
    refine vC3_4 e_0 he_0 k253 dX3_findOrAdd_122 (fun e14 he14 => ?_)
    refine TC.iload dX3_findOrAdd_125 0 rfl ?_
    refine TC.iload dX3_findOrAdd_127 7 rfl ?_
    refine TC.iast e14 he14 dX3_findOrAdd_129 (fun X15 => ?_)
    refine TC.aload_n dX3_findOrAdd_130 rfl 1 rfl ?_
    refine vC3_3 e_0 he_0 k252 dX3_findOrAdd_131 (fun e16 he16 => ?_)
    refine TC.iload dX3_findOrAdd_134 0 rfl ?_
    refine TC.iconst (w := 5) dX3_findOrAdd_136 (by decide) ?_
    refine TC.imul dX3_findOrAdd_137 (fun x17 => ?_)
    refine TC.iconst (w := 4) dX3_findOrAdd_138 (by decide) ?_
    refine TC.iadd dX3_findOrAdd_139 (fun x18 => ?_)
    refine TC.iload dX3_findOrAdd_140 6 rfl ?_
    refine TC.iast e16 he16 dX3_findOrAdd_142 (fun X19 => ?_)
    refine TC.iload_n dX3_findOrAdd_143 rfl 2 rfl ?_
    refine TC.iconst (w := 2) dX3_findOrAdd_144 (by decide) ?_
    refine TC.icmp_eq (pc1 := 162) dX3_findOrAdd_145 (by decide) rfl ?_ ?_
    · refine TC.sub [1, 3, 4, 5, 8, 0] rfl ?_
      exact k_Kinds_findOrAdd_162 Γ _ e_0 he_0 a_2 e_3 he_3 a_4 a_7 x6 X19
    · refine TC.iload_n dX3_findOrAdd_148 rfl 2 rfl ?_
      refine TC.iconst (w := 3) dX3_findOrAdd_149 (by decide) ?_
      refine TC.icmp_lt (pc1 := 166) dX3_findOrAdd_150 (by decide) rfl ?_ ?_
      · refine TC.sub [1, 3, 4, 5, 8, 0] rfl ?_
        exact k_Kinds_findOrAdd_166 Γ _ e_0 he_0 a_2 e_3 he_3 a_4 a_7 x6 X19
      · refine TC.aload_n dX3_findOrAdd_153 rfl 1 rfl ?_
        refine TC.iload dX3_findOrAdd_154 6 rfl ?_
        refine TC.callV_i e_0 (As1 := [.int a_5]) (rest := []) (k_Kinds_hasAny Γ e_0 he_0 a_5 X19) ka_X3_hasAny kv_X3_hasAny he_0 rfl k234 rfl rfl rfl rfl (show 2 + 1 ≤ 3 ∧ 8 + (2 + 11) + 70 ≤ 110 from ⟨by omega, by omega⟩) (Nat.le_of_ble_eq_true rfl) dX3_findOrAdd_156 (fun x39 X40 => ?_)
        refine TC.if_eq (pc1 := 166) dX3_findOrAdd_159 (by decide) ?_ ?_
        · refine TC.sub [1, 3, 4, 5, 8, 0] rfl ?_
          exact k_Kinds_findOrAdd_166 Γ _ e_0 he_0 a_2 e_3 he_3 a_4 a_7 x6 X40
        · refine TC.sub [1, 3, 4, 5, 8, 0] rfl ?_
          exact k_Kinds_findOrAdd_162 Γ _ e_0 he_0 a_2 e_3 he_3 a_4 a_7 x6 X40
  · refine TC.iconst (w := 2) dX3_findOrAdd_87 (by decide) ?_
    exact TC.ret_i rfl dX3_findOrAdd_88
noncomputable def g_Kinds_findOrAdd_62 (r19 : Nat → Int32 → Int32 → Nat → Int32 → Int32 → Int32 → Int32 → Int32 → Int32 → St → Option (Int32 × St)) (e_0 : Nat) (a_1 : Int32) (a_2 : Int32) (e_3 : Nat) (a_4 : Int32) (a_5 : Int32) (a_6 : Int32) (a_7 : Int32) (a_8 : Int32) (a_9 : Int32) (X : St) : Option (Int32 × St) :=
  letV (kY YC e_0 7 - 3) fun e43 =>
  chk (inR a_8 1549) (letV (X.1 e43 (ix a_8)) fun x44 =>
  letV (a_9 + Int32.ofInt (1)) fun x45 =>
  r19 e_0 a_1 a_2 e_3 a_4 a_5 a_6 a_7 x44 x45 X)
set_option maxHeartbeats 4000000 in
set_option maxRecDepth 100000 in
theorem k_Kinds_findOrAdd_62 (Γ : GxC) (As : List Value) (r19 : Nat → Int32 → Int32 → Nat → Int32 → Int32 → Int32 → Int32 → Int32 → Int32 → St → Option (Int32 × St)) (hr19 : ∀ (e_0 : Nat) (he_0 : isO YC e_0 3 8) (a_1 : Int32) (a_2 : Int32) (e_3 : Nat) (he_3 : isA YC e_3 1 (zY YC e_3) .int) (a_4 : Int32) (a_5 : Int32) (a_6 : Int32) (a_7 : Int32) (a_8 : Int32) (a_9 : Int32) (X : St), TC YC Γ cX3_findOrAdd 11 "BlameCourt$Kinds" (some .int) { frames := 3, cells := 0, slots := 0, locals := 110 } As kI 19 [(0, .ref (Γ.2.2.2.1 e_0)), (1, .int a_1), (2, .int a_2), (3, .ref (Γ.2.2.2.1 e_3)), (4, .int a_4), (5, .int a_5), (6, .int a_6), (7, .int a_7), (8, .int a_8), (9, .int a_9)] [] X (r19 e_0 a_1 a_2 e_3 a_4 a_5 a_6 a_7 a_8 a_9 X)) (e_0 : Nat) (he_0 : isO YC e_0 3 8) (a_1 : Int32) (a_2 : Int32) (e_3 : Nat) (he_3 : isA YC e_3 1 (zY YC e_3) .int) (a_4 : Int32) (a_5 : Int32) (a_6 : Int32) (a_7 : Int32) (a_8 : Int32) (a_9 : Int32) (X : St) : TC YC Γ cX3_findOrAdd 11 "BlameCourt$Kinds" (some .int) { frames := 3, cells := 0, slots := 0, locals := 110 } As kI 62 [(0, .ref (Γ.2.2.2.1 e_0)), (1, .int a_1), (2, .int a_2), (3, .ref (Γ.2.2.2.1 e_3)), (4, .int a_4), (5, .int a_5), (6, .int a_6), (7, .int a_7), (8, .int a_8), (9, .int a_9)] [] X (g_Kinds_findOrAdd_62 r19 e_0 a_1 a_2 e_3 a_4 a_5 a_6 a_7 a_8 a_9 X) := by
  unfold g_Kinds_findOrAdd_62
  refine TC.aload_n dX3_findOrAdd_62 rfl 0 rfl ?_
  refine vC3_7 e_0 he_0 k256 dX3_findOrAdd_63 (fun e43 he43 => ?_)
  refine TC.iload dX3_findOrAdd_66 8 rfl ?_
  refine TC.iald e43 he43 dX3_findOrAdd_68 (fun x44 => ?_)
  refine TC.istore (lv1 := [(8, .int x44), (0, .ref (Γ.2.2.2.1 e_0)), (1, .int a_1), (2, .int a_2), (3, .ref (Γ.2.2.2.1 e_3)), (4, .int a_4), (5, .int a_5), (6, .int a_6), (7, .int a_7), (9, .int a_9)]) dX3_findOrAdd_69 (by decide) rfl ?_
  refine TC.iinc dX3_findOrAdd_71 9 rfl (by decide) (lvf := fun x45 => [(9, .int x45), (8, .int x44), (0, .ref (Γ.2.2.2.1 e_0)), (1, .int a_1), (2, .int a_2), (3, .ref (Γ.2.2.2.1 e_3)), (4, .int a_4), (5, .int a_5), (6, .int a_6), (7, .int a_7)]) (fun _ => rfl) (fun x45 => ?_)
  refine TC.goto (pc1 := 19) dX3_findOrAdd_74 (by decide) ?_
  refine TC.sub [2, 3, 4, 5, 6, 7, 8, 9, 1, 0] rfl ?_
  exact hr19 e_0 he_0 a_1 a_2 e_3 he_3 a_4 a_5 a_6 a_7 x44 x45 X
noncomputable def g_Kinds_findOrAdd_19_s (r19 : Nat → Int32 → Int32 → Nat → Int32 → Int32 → Int32 → Int32 → Int32 → Int32 → St → Option (Int32 × St)) (e_0 : Nat) (a_1 : Int32) (a_2 : Int32) (e_3 : Nat) (a_4 : Int32) (a_5 : Int32) (a_6 : Int32) (a_7 : Int32) (a_8 : Int32) (a_9 : Int32) (X : St) : Option (Int32 × St) :=
  if 1549 ≤ a_9.toInt then
    g_Kinds_findOrAdd_77 e_0 a_1 a_2 e_3 a_4 a_5 a_6 a_7 X
  else
    if a_8.toInt = -1 then
      g_Kinds_findOrAdd_77 e_0 a_1 a_2 e_3 a_4 a_5 a_6 a_7 X
    else
      letV (kY YC e_0 1 - 3) fun e41 =>
      chk (inR a_8 1549) (letV (X.1 e41 (ix a_8)) fun x42 =>
      if x42.toInt = a_1.toInt then
        bnd (g_Kinds_isSame e_0 a_8 a_2 e_3 a_4 a_5 X) fun x46 X47 =>
        if x46.toInt = 0 then
          g_Kinds_findOrAdd_62 r19 e_0 a_1 a_2 e_3 a_4 a_5 a_6 a_7 a_8 a_9 X47
        else
          some (a_8, X47)
      else
        g_Kinds_findOrAdd_62 r19 e_0 a_1 a_2 e_3 a_4 a_5 a_6 a_7 a_8 a_9 X)
noncomputable def g_Kinds_findOrAdd_19 (n : Nat) : Nat → Int32 → Int32 → Nat → Int32 → Int32 → Int32 → Int32 → Int32 → Int32 → St → Option (Int32 × St) := lp (fun _ _ _ _ _ _ _ _ _ _ _ => none) (g_Kinds_findOrAdd_19_s) n
set_option maxHeartbeats 4000000 in
set_option maxRecDepth 100000 in
theorem k_Kinds_findOrAdd_19 (Γ : GxC) (As : List Value) (n : Nat) : ∀ (e_0 : Nat) (he_0 : isO YC e_0 3 8) (a_1 : Int32) (a_2 : Int32) (e_3 : Nat) (he_3 : isA YC e_3 1 (zY YC e_3) .int) (a_4 : Int32) (a_5 : Int32) (a_6 : Int32) (a_7 : Int32) (a_8 : Int32) (a_9 : Int32) (X : St), TC YC Γ cX3_findOrAdd 11 "BlameCourt$Kinds" (some .int) { frames := 3, cells := 0, slots := 0, locals := 110 } As kI 19 [(0, .ref (Γ.2.2.2.1 e_0)), (1, .int a_1), (2, .int a_2), (3, .ref (Γ.2.2.2.1 e_3)), (4, .int a_4), (5, .int a_5), (6, .int a_6), (7, .int a_7), (8, .int a_8), (9, .int a_9)] [] X (g_Kinds_findOrAdd_19 n e_0 a_1 a_2 e_3 a_4 a_5 a_6 a_7 a_8 a_9 X) := by
  unfold g_Kinds_findOrAdd_19
  refine lp_ind (P := fun (r19 : Nat → Int32 → Int32 → Nat → Int32 → Int32 → Int32 → Int32 → Int32 → Int32 → St → Option (Int32 × St)) => ∀ (e_0 : Nat) (he_0 : isO YC e_0 3 8) (a_1 : Int32) (a_2 : Int32) (e_3 : Nat) (he_3 : isA YC e_3 1 (zY YC e_3) .int) (a_4 : Int32) (a_5 : Int32) (a_6 : Int32) (a_7 : Int32) (a_8 : Int32) (a_9 : Int32) (X : St), TC YC Γ cX3_findOrAdd 11 "BlameCourt$Kinds" (some .int) { frames := 3, cells := 0, slots := 0, locals := 110 } As kI 19 [(0, .ref (Γ.2.2.2.1 e_0)), (1, .int a_1), (2, .int a_2), (3, .ref (Γ.2.2.2.1 e_3)), (4, .int a_4), (5, .int a_5), (6, .int a_6), (7, .int a_7), (8, .int a_8), (9, .int a_9)] [] X (r19 e_0 a_1 a_2 e_3 a_4 a_5 a_6 a_7 a_8 a_9 X)) (fun _ _ _ _ _ _ _ _ _ _ _ _ _ => TC.no) ?_ n
  intro r19 hr19 e_0 he_0 a_1 a_2 e_3 he_3 a_4 a_5 a_6 a_7 a_8 a_9 X
  unfold g_Kinds_findOrAdd_19_s
  refine TC.iload dX3_findOrAdd_19 9 rfl ?_
  refine TC.sipush (w := 1549) dX3_findOrAdd_21 (by decide) ?_
  refine TC.icmp_ge (pc1 := 77) dX3_findOrAdd_24 (by decide) rfl ?_ ?_
  · refine TC.sub [0, 1, 2, 3, 4, 5, 6, 7] rfl ?_
    exact k_Kinds_findOrAdd_77 Γ _ e_0 he_0 a_1 a_2 e_3 he_3 a_4 a_5 a_6 a_7 X
  · refine TC.iload dX3_findOrAdd_27 8 rfl ?_
    refine TC.iconst (w := (-1)) dX3_findOrAdd_29 (by decide) ?_
    refine TC.icmp_eq (pc1 := 77) dX3_findOrAdd_30 (by decide) rfl ?_ ?_
    · refine TC.sub [0, 1, 2, 3, 4, 5, 6, 7] rfl ?_
      exact k_Kinds_findOrAdd_77 Γ _ e_0 he_0 a_1 a_2 e_3 he_3 a_4 a_5 a_6 a_7 X
    · refine TC.aload_n dX3_findOrAdd_33 rfl 0 rfl ?_
      refine vC3_1 e_0 he_0 k250 dX3_findOrAdd_34 (fun e41 he41 => ?_)
      refine TC.iload dX3_findOrAdd_37 8 rfl ?_
      refine TC.iald e41 he41 dX3_findOrAdd_39 (fun x42 => ?_)
      refine TC.iload_n dX3_findOrAdd_40 rfl 1 rfl ?_
      refine TC.icmp_ne (pc1 := 62) dX3_findOrAdd_41 (by decide) rfl ?_ ?_
      · exact k_Kinds_findOrAdd_62 Γ _ r19 hr19 e_0 he_0 a_1 a_2 e_3 he_3 a_4 a_5 a_6 a_7 a_8 a_9 X
      · refine TC.aload_n dX3_findOrAdd_44 rfl 0 rfl ?_
        refine TC.iload dX3_findOrAdd_45 8 rfl ?_
        refine TC.iload_n dX3_findOrAdd_47 rfl 2 rfl ?_
        refine TC.aload_n dX3_findOrAdd_48 rfl 3 rfl ?_
        refine TC.iload dX3_findOrAdd_49 4 rfl ?_
        refine TC.iload dX3_findOrAdd_51 5 rfl ?_
        refine TC.callV_i e_0 (As1 := [.int a_8, .int a_2, .ref (Γ.2.2.2.1 e_3), .int a_4, .int a_5]) (rest := []) (k_Kinds_isSame Γ e_0 he_0 a_8 a_2 e_3 he_3 a_4 a_5 X) ka_X3_isSame kv_X3_isSame he_0 rfl k230 rfl rfl rfl rfl (show 2 + 1 ≤ 3 ∧ 8 + (7 + 11) + 70 ≤ 110 from ⟨by omega, by omega⟩) (Nat.le_of_ble_eq_true rfl) dX3_findOrAdd_53 (fun x46 X47 => ?_)
        refine TC.if_eq (pc1 := 62) dX3_findOrAdd_56 (by decide) ?_ ?_
        · exact k_Kinds_findOrAdd_62 Γ _ r19 hr19 e_0 he_0 a_1 a_2 e_3 he_3 a_4 a_5 a_6 a_7 a_8 a_9 X47
        · refine TC.iload dX3_findOrAdd_59 8 rfl ?_
          exact TC.ret_i rfl dX3_findOrAdd_61
noncomputable def g_Kinds_findOrAdd (o0 : Nat) (p1 : Int32) (p2 : Int32) (o3 : Nat) (p4 : Int32) (p5 : Int32) (p6 : Int32) (X : St) : Option (Int32 × St) :=
  bnd (g_Kinds_bucketOf p6 X) fun x1 X2 =>
  letV (kY YC o0 6 - 3) fun e3 =>
  chk (inR x1 512) (letV (X2.1 e3 (ix x1)) fun x4 =>
  g_Kinds_findOrAdd_19 BIG o0 p1 p2 o3 p4 p5 p6 x1 x4 (0 : Int32) X2)
set_option maxHeartbeats 4000000 in
set_option maxRecDepth 100000 in
theorem k_Kinds_findOrAdd (Γ : GxC) (o0 : Nat) (ho0 : isO YC o0 3 8) (p1 : Int32) (p2 : Int32) (o3 : Nat) (ho3 : isA YC o3 1 (zY YC o3) .int) (p4 : Int32) (p5 : Int32) (p6 : Int32) (X : St) : TCI YC Γ yX3_findOrAdd cX3_findOrAdd 11 "BlameCourt$Kinds" (some .int) { frames := 3, cells := 0, slots := 0, locals := 110 } [.ref (Γ.2.2.2.1 o0), .int p1, .int p2, .ref (Γ.2.2.2.1 o3), .int p4, .int p5, .int p6] X (g_Kinds_findOrAdd o0 p1 p2 o3 p4 p5 p6 X) := by
  refine TCI.of (by decide) (Nat.le_of_ble_eq_true rfl) rfl ?_
  show TC YC Γ cX3_findOrAdd 11 "BlameCourt$Kinds" (some .int) { frames := 3, cells := 0, slots := 0, locals := 110 } _ kI 0 [(0, .ref (Γ.2.2.2.1 o0)), (1, .int p1), (2, .int p2), (3, .ref (Γ.2.2.2.1 o3)), (4, .int p4), (5, .int p5), (6, .int p6)] [] X (g_Kinds_findOrAdd o0 p1 p2 o3 p4 p5 p6 X)
  unfold g_Kinds_findOrAdd
  refine TC.iload dX3_findOrAdd_0 6 rfl ?_
  refine TC.callS_i (As1 := [.int p6]) (rest := []) (k_Kinds_bucketOf Γ p6 X) ka_X3_bucketOf k228 k227 rfl rfl rfl rfl (show 2 + 1 ≤ 3 ∧ 8 + (1 + 11) + 70 ≤ 110 from ⟨by omega, by omega⟩) (Nat.le_of_ble_eq_true rfl) dX3_findOrAdd_2 (fun x1 X2 => ?_)
  refine TC.istore (lv1 := [(7, .int x1), (0, .ref (Γ.2.2.2.1 o0)), (1, .int p1), (2, .int p2), (3, .ref (Γ.2.2.2.1 o3)), (4, .int p4), (5, .int p5), (6, .int p6)]) dX3_findOrAdd_5 (by decide) rfl ?_
  refine TC.aload_n dX3_findOrAdd_7 rfl 1 rfl ?_
  refine vC3_6 o0 ho0 k255 dX3_findOrAdd_8 (fun e3 he3 => ?_)
  refine TC.iload dX3_findOrAdd_11 0 rfl ?_
  refine TC.iald e3 he3 dX3_findOrAdd_13 (fun x4 => ?_)
  refine TC.istore (lv1 := [(8, .int x4), (7, .int x1), (0, .ref (Γ.2.2.2.1 o0)), (1, .int p1), (2, .int p2), (3, .ref (Γ.2.2.2.1 o3)), (4, .int p4), (5, .int p5), (6, .int p6)]) dX3_findOrAdd_14 (by decide) rfl ?_
  refine TC.iconst (w := 0) dX3_findOrAdd_16 (by decide) ?_
  refine TC.istore (lv1 := [(9, .int 0), (8, .int x4), (7, .int x1), (0, .ref (Γ.2.2.2.1 o0)), (1, .int p1), (2, .int p2), (3, .ref (Γ.2.2.2.1 o3)), (4, .int p4), (5, .int p5), (6, .int p6)]) dX3_findOrAdd_17 (by decide) rfl ?_
  refine TC.sub [3, 4, 5, 6, 7, 8, 9, 2, 1, 0] rfl ?_
  exact k_Kinds_findOrAdd_19 Γ _ BIG o0 ho0 p1 p2 o3 ho3 p4 p5 p6 x1 x4 (0 : Int32) X2
noncomputable def g_Kinds_functionOf_32_s (r32 : Nat → Nat → Int32 → Int32 → Int32 → Int32 → Int32 → St → Option (Int32 × St)) (e_0 : Nat) (e_1 : Nat) (a_2 : Int32) (a_3 : Int32) (a_4 : Int32) (a_5 : Int32) (a_6 : Int32) (X : St) : Option (Int32 × St) :=
  if a_3.toInt ≤ a_6.toInt then
    letV ((31 : Int32) * a_5) fun x4 =>
    bnd (g_Kinds_codeOf e_0 a_4 X) fun x5 X6 =>
    letV (x4 + x5) fun x7 =>
    bnd (g_Kinds_findOrAdd e_0 (4 : Int32) a_3 e_1 a_2 a_4 x7 X6) fun x8 X9 =>
    some (x8, X9)
  else
    letV ((31 : Int32) * a_5) fun x10 =>
    letV (a_2 + a_6) fun x11 =>
    chk (inR x11 (zY YC e_1)) (letV (X.1 e_1 (ix x11)) fun x12 =>
    bnd (g_Kinds_codeOf e_0 x12 X) fun x13 X14 =>
    letV (x10 + x13) fun x15 =>
    letV (a_6 + Int32.ofInt (1)) fun x16 =>
    r32 e_0 e_1 a_2 a_3 a_4 x15 x16 X14)
noncomputable def g_Kinds_functionOf_32 (n : Nat) : Nat → Nat → Int32 → Int32 → Int32 → Int32 → Int32 → St → Option (Int32 × St) := lp (fun _ _ _ _ _ _ _ _ => none) (g_Kinds_functionOf_32_s) n
set_option maxHeartbeats 4000000 in
set_option maxRecDepth 100000 in
theorem k_Kinds_functionOf_32 (Γ : GxC) (As : List Value) (n : Nat) : ∀ (e_0 : Nat) (he_0 : isO YC e_0 3 8) (e_1 : Nat) (he_1 : isA YC e_1 1 (zY YC e_1) .int) (a_2 : Int32) (a_3 : Int32) (a_4 : Int32) (a_5 : Int32) (a_6 : Int32) (X : St), TC YC Γ cX3_functionOf 7 "BlameCourt$Kinds" (some .int) { frames := 4, cells := 0, slots := 0, locals := 150 } As kI 32 [(0, .ref (Γ.2.2.2.1 e_0)), (1, .ref (Γ.2.2.2.1 e_1)), (2, .int a_2), (3, .int a_3), (4, .int a_4), (5, .int a_5), (6, .int a_6)] [] X (g_Kinds_functionOf_32 n e_0 e_1 a_2 a_3 a_4 a_5 a_6 X) := by
  unfold g_Kinds_functionOf_32
  refine lp_ind (P := fun (r32 : Nat → Nat → Int32 → Int32 → Int32 → Int32 → Int32 → St → Option (Int32 × St)) => ∀ (e_0 : Nat) (he_0 : isO YC e_0 3 8) (e_1 : Nat) (he_1 : isA YC e_1 1 (zY YC e_1) .int) (a_2 : Int32) (a_3 : Int32) (a_4 : Int32) (a_5 : Int32) (a_6 : Int32) (X : St), TC YC Γ cX3_functionOf 7 "BlameCourt$Kinds" (some .int) { frames := 4, cells := 0, slots := 0, locals := 150 } As kI 32 [(0, .ref (Γ.2.2.2.1 e_0)), (1, .ref (Γ.2.2.2.1 e_1)), (2, .int a_2), (3, .int a_3), (4, .int a_4), (5, .int a_5), (6, .int a_6)] [] X (r32 e_0 e_1 a_2 a_3 a_4 a_5 a_6 X)) (fun _ _ _ _ _ _ _ _ _ _ => TC.no) ?_ n
  intro r32 hr32 e_0 he_0 e_1 he_1 a_2 a_3 a_4 a_5 a_6 X
  unfold g_Kinds_functionOf_32_s
  refine TC.iload dX3_functionOf_32 6 rfl ?_
  refine TC.iload_n dX3_functionOf_34 rfl 3 rfl ?_
  refine TC.icmp_ge (pc1 := 62) dX3_functionOf_35 (by decide) rfl ?_ ?_
  · refine TC.bipush (w := 31) dX3_functionOf_62 (by decide) ?_
    refine TC.iload dX3_functionOf_64 5 rfl ?_
    refine TC.imul dX3_functionOf_66 (fun x4 => ?_)
    refine TC.aload_n dX3_functionOf_67 rfl 0 rfl ?_
    refine TC.iload dX3_functionOf_68 4 rfl ?_
    refine TC.callV_i e_0 (As1 := [.int a_4]) (rest := [.int x4]) (k_Kinds_codeOf Γ e_0 he_0 a_4 X) ka_X3_codeOf kv_X3_codeOf he_0 rfl k242 rfl rfl rfl rfl (show 2 + 1 ≤ 4 ∧ 8 + (2 + 11) + 70 ≤ 150 from ⟨by omega, by omega⟩) (Nat.le_of_ble_eq_true rfl) dX3_functionOf_70 (fun x5 X6 => ?_)
    refine TC.iadd dX3_functionOf_73 (fun x7 => ?_)
    refine TC.istore (lv1 := [(5, .int x7), (0, .ref (Γ.2.2.2.1 e_0)), (1, .ref (Γ.2.2.2.1 e_1)), (2, .int a_2), (3, .int a_3), (4, .int a_4), (6, .int a_6)]) dX3_functionOf_74 (by decide) rfl ?_
    refine TC.aload_n dX3_functionOf_76 rfl 1 rfl ?_
    refine TC.iconst (w := 4) dX3_functionOf_77 (by decide) ?_
    refine TC.iload_n dX3_functionOf_78 rfl 4 rfl ?_
    refine TC.aload_n dX3_functionOf_79 rfl 2 rfl ?_
    refine TC.iload_n dX3_functionOf_80 rfl 3 rfl ?_
    refine TC.iload dX3_functionOf_81 5 rfl ?_
    refine TC.iload dX3_functionOf_83 0 rfl ?_
    refine TC.callV_i e_0 (As1 := [.int 4, .int a_3, .ref (Γ.2.2.2.1 e_1), .int a_2, .int a_4, .int x7]) (rest := []) (k_Kinds_findOrAdd Γ e_0 he_0 (4 : Int32) a_3 e_1 he_1 a_2 a_4 x7 X6) ka_X3_findOrAdd kv_X3_findOrAdd he_0 rfl k223 rfl rfl rfl rfl (show 3 + 1 ≤ 4 ∧ 8 + (11 + 11) + 110 ≤ 150 from ⟨by omega, by omega⟩) (Nat.le_of_ble_eq_true rfl) dX3_functionOf_85 (fun x8 X9 => ?_)
    exact TC.ret_i rfl dX3_functionOf_88
  · refine TC.bipush (w := 31) dX3_functionOf_38 (by decide) ?_
    refine TC.iload dX3_functionOf_40 5 rfl ?_
    refine TC.imul dX3_functionOf_42 (fun x10 => ?_)
    refine TC.aload_n dX3_functionOf_43 rfl 0 rfl ?_
    refine TC.aload_n dX3_functionOf_44 rfl 1 rfl ?_
    refine TC.iload_n dX3_functionOf_45 rfl 2 rfl ?_
    refine TC.iload dX3_functionOf_46 6 rfl ?_
    refine TC.iadd dX3_functionOf_48 (fun x11 => ?_)
    refine TC.iald e_1 he_1 dX3_functionOf_49 (fun x12 => ?_)
    refine TC.callV_i e_0 (As1 := [.int x12]) (rest := [.int x10]) (k_Kinds_codeOf Γ e_0 he_0 x12 X) ka_X3_codeOf kv_X3_codeOf he_0 rfl k242 rfl rfl rfl rfl (show 2 + 1 ≤ 4 ∧ 8 + (2 + 11) + 70 ≤ 150 from ⟨by omega, by omega⟩) (Nat.le_of_ble_eq_true rfl) dX3_functionOf_50 (fun x13 X14 => ?_)
    refine TC.iadd dX3_functionOf_53 (fun x15 => ?_)
    refine TC.istore (lv1 := [(5, .int x15), (0, .ref (Γ.2.2.2.1 e_0)), (1, .ref (Γ.2.2.2.1 e_1)), (2, .int a_2), (3, .int a_3), (4, .int a_4), (6, .int a_6)]) dX3_functionOf_54 (by decide) rfl ?_
    refine TC.iinc dX3_functionOf_56 6 rfl (by decide) (lvf := fun x16 => [(6, .int x16), (5, .int x15), (0, .ref (Γ.2.2.2.1 e_0)), (1, .ref (Γ.2.2.2.1 e_1)), (2, .int a_2), (3, .int a_3), (4, .int a_4)]) (fun _ => rfl) (fun x16 => ?_)
    refine TC.goto (pc1 := 32) dX3_functionOf_59 (by decide) ?_
    refine TC.sub [2, 3, 4, 5, 6, 1, 0] rfl ?_
    exact hr32 e_0 he_0 e_1 he_1 a_2 a_3 a_4 x15 x16 X14
noncomputable def g_Kinds_functionOf (o0 : Nat) (o1 : Nat) (p2 : Int32) (p3 : Int32) (p4 : Int32) (X : St) : Option (Int32 × St) :=
  if p3.toInt < 0 then
    some (2, X)
  else
    if 4 < p3.toInt then
      some (2, X)
    else
      if p2.toInt < 0 then
        some (2, X)
      else
        letV (Int32.ofNat (zY YC o1)) fun x1 =>
        letV (x1 - p3) fun x2 =>
        if p2.toInt ≤ x2.toInt then
          letV ((7 : Int32) + p3) fun x3 =>
          g_Kinds_functionOf_32 BIG o0 o1 p2 p3 p4 x3 (0 : Int32) X
        else
          some (2, X)
set_option maxHeartbeats 4000000 in
set_option maxRecDepth 100000 in
theorem k_Kinds_functionOf (Γ : GxC) (o0 : Nat) (ho0 : isO YC o0 3 8) (o1 : Nat) (ho1 : isA YC o1 1 (zY YC o1) .int) (p2 : Int32) (p3 : Int32) (p4 : Int32) (X : St) : TCI YC Γ yX3_functionOf cX3_functionOf 7 "BlameCourt$Kinds" (some .int) { frames := 4, cells := 0, slots := 0, locals := 150 } [.ref (Γ.2.2.2.1 o0), .ref (Γ.2.2.2.1 o1), .int p2, .int p3, .int p4] X (g_Kinds_functionOf o0 o1 p2 p3 p4 X) := by
  refine TCI.of (by decide) (Nat.le_of_ble_eq_true rfl) rfl ?_
  show TC YC Γ cX3_functionOf 7 "BlameCourt$Kinds" (some .int) { frames := 4, cells := 0, slots := 0, locals := 150 } _ kI 0 [(0, .ref (Γ.2.2.2.1 o0)), (1, .ref (Γ.2.2.2.1 o1)), (2, .int p2), (3, .int p3), (4, .int p4)] [] X (g_Kinds_functionOf o0 o1 p2 p3 p4 X)
  unfold g_Kinds_functionOf
  refine TC.iload_n dX3_functionOf_0 rfl 3 rfl ?_
  refine TC.if_lt (pc1 := 21) dX3_functionOf_1 (by decide) ?_ ?_
  · refine TC.iconst (w := 2) dX3_functionOf_21 (by decide) ?_
    exact TC.ret_i rfl dX3_functionOf_22
  · refine TC.iload_n dX3_functionOf_4 rfl 3 rfl ?_
    refine TC.iconst (w := 4) dX3_functionOf_5 (by decide) ?_
    refine TC.icmp_gt (pc1 := 21) dX3_functionOf_6 (by decide) rfl ?_ ?_
    · refine TC.iconst (w := 2) dX3_functionOf_21 (by decide) ?_
      exact TC.ret_i rfl dX3_functionOf_22
    · refine TC.iload_n dX3_functionOf_9 rfl 2 rfl ?_
      refine TC.if_lt (pc1 := 21) dX3_functionOf_10 (by decide) ?_ ?_
      · refine TC.iconst (w := 2) dX3_functionOf_21 (by decide) ?_
        exact TC.ret_i rfl dX3_functionOf_22
      · refine TC.iload_n dX3_functionOf_13 rfl 2 rfl ?_
        refine TC.aload_n dX3_functionOf_14 rfl 1 rfl ?_
        refine TC.alenV o1 ho1 dX3_functionOf_15 (fun x1 => ?_)
        refine TC.iload_n dX3_functionOf_16 rfl 3 rfl ?_
        refine TC.isub dX3_functionOf_17 (fun x2 => ?_)
        refine TC.icmp_le (pc1 := 23) dX3_functionOf_18 (by decide) rfl ?_ ?_
        · refine TC.bipush (w := 7) dX3_functionOf_23 (by decide) ?_
          refine TC.iload_n dX3_functionOf_25 rfl 3 rfl ?_
          refine TC.iadd dX3_functionOf_26 (fun x3 => ?_)
          refine TC.istore (lv1 := [(5, .int x3), (0, .ref (Γ.2.2.2.1 o0)), (1, .ref (Γ.2.2.2.1 o1)), (2, .int p2), (3, .int p3), (4, .int p4)]) dX3_functionOf_27 (by decide) rfl ?_
          refine TC.iconst (w := 0) dX3_functionOf_29 (by decide) ?_
          refine TC.istore (lv1 := [(6, .int 0), (5, .int x3), (0, .ref (Γ.2.2.2.1 o0)), (1, .ref (Γ.2.2.2.1 o1)), (2, .int p2), (3, .int p3), (4, .int p4)]) dX3_functionOf_30 (by decide) rfl ?_
          refine TC.sub [2, 3, 4, 5, 6, 1, 0] rfl ?_
          exact k_Kinds_functionOf_32 Γ _ BIG o0 ho0 o1 ho1 p2 p3 p4 x3 (0 : Int32) X
        · refine TC.iconst (w := 2) dX3_functionOf_21 (by decide) ?_
          exact TC.ret_i rfl dX3_functionOf_22
noncomputable def g_Judging_takeHeader_6_s (r6 : Int32 → Int32 → Int32 → St → Option (Int32 × St)) (a_1 : Int32) (a_2 : Int32) (a_3 : Int32) (X : St) : Option (Int32 × St) :=
  chk (refO YC (X.2.2 61 1) 4 17 = true) (letV (X.2.2 61 1 - 1) fun e2 =>
  letV (kY YC e2 10 - 3) fun e3 =>
  chk (inR a_1 40) (letV (X.1 e3 (ix a_1)) fun x4 =>
  if x4.toInt ≤ a_3.toInt then
    chk (refO YC (X.2.2 61 1) 4 17 = true) (letV (X.2.2 61 1 - 1) fun e5 =>
    letV (kY YC e5 12 - 3) fun e6 =>
    chk (inR a_1 40) (letV (X.1 e6 (ix a_1)) fun x7 =>
    bnd (g_Judging_asTold a_1 x7 X) fun x8 X9 =>
    chk (inR a_1 40) (letV (wI X9 64 (ix a_1) x8) fun X10 =>
    chk (refO YC (X10.2.2 61 2) 3 8 = true) (letV (X10.2.2 61 2 - 1) fun e11 =>
    chk (refO YC (X10.2.2 61 1) 4 17 = true) (letV (X10.2.2 61 1 - 1) fun e12 =>
    letV (kY YC e12 10 - 3) fun e13 =>
    chk (inR a_1 40) (letV (X10.1 e13 (ix a_1)) fun x14 =>
    chk (inR a_1 40) (letV (X10.1 64 (ix a_1)) fun x15 =>
    bnd (g_Kinds_functionOf e11 63 a_2 x14 x15 X10) fun x16 X17 =>
    chk (inR a_1 40) (letV (wI X17 65 (ix a_1) x16) fun X18 =>
    chk (refO YC (X18.2.2 61 2) 3 8 = true) (letV (X18.2.2 61 2 - 1) fun e19 =>
    chk (inR a_1 40) (letV (X18.1 65 (ix a_1)) fun x20 =>
    bnd (g_Kinds_hasAny e19 x20 X18) fun x21 X22 =>
    chk (inR a_1 40) (letV (wI X22 62 (ix a_1) (vp_nar .boolean x21)) fun X23 =>
    some (0, X23))))))))))))
  else
    letV (a_2 + a_3) fun x24 =>
    chk (refO YC (X.2.2 61 1) 4 17 = true) (letV (X.2.2 61 1 - 1) fun e25 =>
    letV (kY YC e25 11 - 3) fun e26 =>
    letV (a_2 + a_3) fun x27 =>
    chk (inR x27 160) (letV (X.1 e26 (ix x27)) fun x28 =>
    bnd (g_Judging_asTold a_1 x28 X) fun x29 X30 =>
    chk (inR x24 160) (letV (wI X30 63 (ix x24) x29) fun X31 =>
    letV (a_3 + Int32.ofInt (1)) fun x32 =>
    r6 a_1 a_2 x32 X31)))))
noncomputable def g_Judging_takeHeader_6 (n : Nat) : Int32 → Int32 → Int32 → St → Option (Int32 × St) := lp (fun _ _ _ _ => none) (g_Judging_takeHeader_6_s) n
set_option maxHeartbeats 4000000 in
set_option maxRecDepth 100000 in
theorem k_Judging_takeHeader_6 (Γ : GxC) (As : List Value) (n : Nat) : ∀ (a_1 : Int32) (a_2 : Int32) (a_3 : Int32) (X : St), TC YC Γ cX2_takeHeader 4 "BlameCourt$Judging" none { frames := 5, cells := 0, slots := 0, locals := 190 } As kV 6 [(0, .ref (Γ.2.2.2.1 61)), (1, .int a_1), (2, .int a_2), (3, .int a_3)] [] X (g_Judging_takeHeader_6 n a_1 a_2 a_3 X) := by
  unfold g_Judging_takeHeader_6
  refine lp_ind (P := fun (r6 : Int32 → Int32 → Int32 → St → Option (Int32 × St)) => ∀ (a_1 : Int32) (a_2 : Int32) (a_3 : Int32) (X : St), TC YC Γ cX2_takeHeader 4 "BlameCourt$Judging" none { frames := 5, cells := 0, slots := 0, locals := 190 } As kV 6 [(0, .ref (Γ.2.2.2.1 61)), (1, .int a_1), (2, .int a_2), (3, .int a_3)] [] X (r6 a_1 a_2 a_3 X)) (fun _ _ _ _ => TC.no) ?_ n
  intro r6 hr6 a_1 a_2 a_3 X
  unfold g_Judging_takeHeader_6_s
  refine TC.iload_n dX2_takeHeader_6 rfl 3 rfl ?_
  refine TC.aload_n dX2_takeHeader_7 rfl 0 rfl ?_
  refine mC2_1 k506 dX2_takeHeader_8 (fun e2 he2 => ?_)
  refine vC4_10 e2 he2 k301 dX2_takeHeader_11 (fun e3 he3 => ?_)
  refine TC.iload_n dX2_takeHeader_14 rfl 1 rfl ?_
  refine TC.iald e3 he3 dX2_takeHeader_15 (fun x4 => ?_)
  refine TC.icmp_ge (pc1 := 49) dX2_takeHeader_16 (by decide) rfl ?_ ?_
  · refine TC.aload_n dX2_takeHeader_49 rfl 0 rfl ?_
    refine cC2_8 k516 dX2_takeHeader_50 ?_
    refine TC.iload_n dX2_takeHeader_53 rfl 1 rfl ?_
    refine TC.aload_n dX2_takeHeader_54 rfl 0 rfl ?_
    refine TC.iload_n dX2_takeHeader_55 rfl 1 rfl ?_
    refine TC.aload_n dX2_takeHeader_56 rfl 0 rfl ?_
    refine mC2_1 k506 dX2_takeHeader_57 (fun e5 he5 => ?_)
    refine vC4_12 e5 he5 k308 dX2_takeHeader_60 (fun e6 he6 => ?_)
    refine TC.iload_n dX2_takeHeader_63 rfl 1 rfl ?_
    refine TC.iald e6 he6 dX2_takeHeader_64 (fun x7 => ?_)
    refine TC.callV_i 61 (As1 := [.int a_1, .int x7]) (rest := [.int a_1, .ref (Γ.2.2.2.1 64)]) (k_Judging_asTold Γ a_1 x7 X) ka_X2_asTold kv_X2_asTold oC_61 rfl k1005 rfl rfl rfl rfl (show 2 + 1 ≤ 5 ∧ 8 + (3 + 11) + 70 ≤ 190 from ⟨by omega, by omega⟩) (Nat.le_of_ble_eq_true rfl) dX2_takeHeader_65 (fun x8 X9 => ?_)
    refine asC64 dX2_takeHeader_68 (fun X10 => ?_)
    refine TC.aload_n dX2_takeHeader_69 rfl 0 rfl ?_
    refine cC2_9 k517 dX2_takeHeader_70 ?_
    refine TC.iload_n dX2_takeHeader_73 rfl 1 rfl ?_
    refine TC.aload_n dX2_takeHeader_74 rfl 0 rfl ?_
    refine mC2_2 k507 dX2_takeHeader_75 (fun e11 he11 => ?_)
    refine TC.aload_n dX2_takeHeader_78 rfl 0 rfl ?_
    refine cC2_7 k515 dX2_takeHeader_79 ?_
    refine TC.iload_n dX2_takeHeader_82 rfl 2 rfl ?_
    refine TC.aload_n dX2_takeHeader_83 rfl 0 rfl ?_
    refine mC2_1 k506 dX2_takeHeader_84 (fun e12 he12 => ?_)
    refine vC4_10 e12 he12 k301 dX2_takeHeader_87 (fun e13 he13 => ?_)
    refine TC.iload_n dX2_takeHeader_90 rfl 1 rfl ?_
    refine TC.iald e13 he13 dX2_takeHeader_91 (fun x14 => ?_)
    refine TC.aload_n dX2_takeHeader_92 rfl 0 rfl ?_
    refine cC2_8 k516 dX2_takeHeader_93 ?_
    refine TC.iload_n dX2_takeHeader_96 rfl 1 rfl ?_
    refine alC64 dX2_takeHeader_97 (fun x15 => ?_)
    refine TC.callV_i e11 (As1 := [.ref (Γ.2.2.2.1 63), .int a_2, .int x14, .int x15]) (rest := [.int a_1, .ref (Γ.2.2.2.1 65)]) (k_Kinds_functionOf Γ e11 he11 63 ⟨rfl, rfl, rfl⟩ a_2 x14 x15 X10) ka_X3_functionOf kv_X3_functionOf he11 rfl k1009 rfl rfl rfl rfl (show 4 + 1 ≤ 5 ∧ 8 + (7 + 11) + 150 ≤ 190 from ⟨by omega, by omega⟩) (Nat.le_of_ble_eq_true rfl) dX2_takeHeader_98 (fun x16 X17 => ?_)
    refine asC65 dX2_takeHeader_101 (fun X18 => ?_)
    refine TC.aload_n dX2_takeHeader_102 rfl 0 rfl ?_
    refine cC2_6 k513 dX2_takeHeader_103 ?_
    refine TC.iload_n dX2_takeHeader_106 rfl 1 rfl ?_
    refine TC.aload_n dX2_takeHeader_107 rfl 0 rfl ?_
    refine mC2_2 k507 dX2_takeHeader_108 (fun e19 he19 => ?_)
    refine TC.aload_n dX2_takeHeader_111 rfl 0 rfl ?_
    refine cC2_9 k517 dX2_takeHeader_112 ?_
    refine TC.iload_n dX2_takeHeader_115 rfl 1 rfl ?_
    refine alC65 dX2_takeHeader_116 (fun x20 => ?_)
    refine TC.callV_i e19 (As1 := [.int x20]) (rest := [.int a_1, .ref (Γ.2.2.2.1 62)]) (k_Kinds_hasAny Γ e19 he19 x20 X18) ka_X3_hasAny kv_X3_hasAny he19 rfl k1010 rfl rfl rfl rfl (show 2 + 1 ≤ 5 ∧ 8 + (2 + 11) + 70 ≤ 190 from ⟨by omega, by omega⟩) (Nat.le_of_ble_eq_true rfl) dX2_takeHeader_117 (fun x21 X22 => ?_)
    refine asC62 dX2_takeHeader_120 (fun X23 => ?_)
    exact TC.ret_v rfl dX2_takeHeader_121
  · refine TC.aload_n dX2_takeHeader_19 rfl 0 rfl ?_
    refine cC2_7 k515 dX2_takeHeader_20 ?_
    refine TC.iload_n dX2_takeHeader_23 rfl 2 rfl ?_
    refine TC.iload_n dX2_takeHeader_24 rfl 3 rfl ?_
    refine TC.iadd dX2_takeHeader_25 (fun x24 => ?_)
    refine TC.aload_n dX2_takeHeader_26 rfl 0 rfl ?_
    refine TC.iload_n dX2_takeHeader_27 rfl 1 rfl ?_
    refine TC.aload_n dX2_takeHeader_28 rfl 0 rfl ?_
    refine mC2_1 k506 dX2_takeHeader_29 (fun e25 he25 => ?_)
    refine vC4_11 e25 he25 k305 dX2_takeHeader_32 (fun e26 he26 => ?_)
    refine TC.iload_n dX2_takeHeader_35 rfl 2 rfl ?_
    refine TC.iload_n dX2_takeHeader_36 rfl 3 rfl ?_
    refine TC.iadd dX2_takeHeader_37 (fun x27 => ?_)
    refine TC.iald e26 he26 dX2_takeHeader_38 (fun x28 => ?_)
    refine TC.callV_i 61 (As1 := [.int a_1, .int x28]) (rest := [.int x24, .ref (Γ.2.2.2.1 63)]) (k_Judging_asTold Γ a_1 x28 X) ka_X2_asTold kv_X2_asTold oC_61 rfl k1005 rfl rfl rfl rfl (show 2 + 1 ≤ 5 ∧ 8 + (3 + 11) + 70 ≤ 190 from ⟨by omega, by omega⟩) (Nat.le_of_ble_eq_true rfl) dX2_takeHeader_39 (fun x29 X30 => ?_)
    refine asC63 dX2_takeHeader_42 (fun X31 => ?_)
    refine TC.iinc dX2_takeHeader_43 3 rfl (by decide) (lvf := fun x32 => [(3, .int x32), (0, .ref (Γ.2.2.2.1 61)), (1, .int a_1), (2, .int a_2)]) (fun _ => rfl) (fun x32 => ?_)
    refine TC.goto (pc1 := 6) dX2_takeHeader_46 (by decide) ?_
    refine TC.sub [1, 2, 3, 0] rfl ?_
    exact hr6 a_1 a_2 x32 X31
noncomputable def g_Judging_takeHeader (p1 : Int32) (X : St) : Option (Int32 × St) :=
  letV (p1 * (4 : Int32)) fun x1 =>
  g_Judging_takeHeader_6 BIG p1 x1 (0 : Int32) X
set_option maxHeartbeats 4000000 in
set_option maxRecDepth 100000 in
theorem k_Judging_takeHeader (Γ : GxC) (p1 : Int32) (X : St) : TCV YC Γ yX2_takeHeader cX2_takeHeader 4 "BlameCourt$Judging" none { frames := 5, cells := 0, slots := 0, locals := 190 } [.ref (Γ.2.2.2.1 61), .int p1] X (g_Judging_takeHeader p1 X) := by
  refine TCV.of (by decide) (Nat.le_of_ble_eq_true rfl) rfl ?_
  show TC YC Γ cX2_takeHeader 4 "BlameCourt$Judging" none { frames := 5, cells := 0, slots := 0, locals := 190 } _ kV 0 [(0, .ref (Γ.2.2.2.1 61)), (1, .int p1)] [] X (g_Judging_takeHeader p1 X)
  unfold g_Judging_takeHeader
  refine TC.iload_n dX2_takeHeader_0 rfl 1 rfl ?_
  refine TC.iconst (w := 4) dX2_takeHeader_1 (by decide) ?_
  refine TC.imul dX2_takeHeader_2 (fun x1 => ?_)
  refine TC.istore_n (lv1 := [(2, .int x1), (0, .ref (Γ.2.2.2.1 61)), (1, .int p1)]) dX2_takeHeader_3 rfl (by decide) rfl ?_
  refine TC.iconst (w := 0) dX2_takeHeader_4 (by decide) ?_
  refine TC.istore_n (lv1 := [(3, .int 0), (2, .int x1), (0, .ref (Γ.2.2.2.1 61)), (1, .int p1)]) dX2_takeHeader_5 rfl (by decide) rfl ?_
  refine TC.sub [2, 3, 1, 0] rfl ?_
  exact k_Judging_takeHeader_6 Γ _ BIG p1 x1 (0 : Int32) X
noncomputable def g_Judging_below (p1 : Int32) (X : St) : Option (Int32 × St) :=
  letV (X.1 61 14) fun x1 =>
  letV (x1 - (1 : Int32)) fun x2 =>
  letV (x2 - p1) fun x3 =>
  if x3.toInt < 0 then
    some (2, X)
  else
    chk (inR x3 3000) (letV (X.1 67 (ix x3)) fun x4 =>
    some (x4, X))
set_option maxHeartbeats 4000000 in
set_option maxRecDepth 100000 in
theorem k_Judging_below (Γ : GxC) (p1 : Int32) (X : St) : TCI YC Γ yX2_below cX2_below 3 "BlameCourt$Judging" (some .int) { frames := 2, cells := 0, slots := 0, locals := 70 } [.ref (Γ.2.2.2.1 61), .int p1] X (g_Judging_below p1 X) := by
  refine TCI.of (by decide) (Nat.le_of_ble_eq_true rfl) rfl ?_
  show TC YC Γ cX2_below 3 "BlameCourt$Judging" (some .int) { frames := 2, cells := 0, slots := 0, locals := 70 } _ kI 0 [(0, .ref (Γ.2.2.2.1 61)), (1, .int p1)] [] X (g_Judging_below p1 X)
  unfold g_Judging_below
  refine TC.aload_n dX2_below_0 rfl 0 rfl ?_
  refine gC2_14 k522 dX2_below_1 (fun x1 => ?_)
  refine TC.iconst (w := 1) dX2_below_4 (by decide) ?_
  refine TC.isub dX2_below_5 (fun x2 => ?_)
  refine TC.iload_n dX2_below_6 rfl 1 rfl ?_
  refine TC.isub dX2_below_7 (fun x3 => ?_)
  refine TC.istore_n (lv1 := [(2, .int x3), (0, .ref (Γ.2.2.2.1 61)), (1, .int p1)]) dX2_below_8 rfl (by decide) rfl ?_
  refine TC.iload_n dX2_below_9 rfl 0 rfl ?_
  refine TC.if_lt (pc1 := 22) dX2_below_10 (by decide) ?_ ?_
  · refine TC.iconst (w := 2) dX2_below_22 (by decide) ?_
    exact TC.ret_i rfl dX2_below_23
  · refine TC.aload_n dX2_below_13 rfl 1 rfl ?_
    refine cC2_11 k519 dX2_below_14 ?_
    refine TC.iload_n dX2_below_17 rfl 0 rfl ?_
    refine alC67 dX2_below_18 (fun x4 => ?_)
    refine TC.goto (pc1 := 23) dX2_below_19 (by decide) ?_
    exact TC.ret_i rfl dX2_below_23
noncomputable def g_Kinds_sortOf (o0 : Nat) (p1 : Int32) (X : St) : Option (Int32 × St) :=
  if p1.toInt < 0 then
    some (2, X)
  else
    letV (X.1 o0 0) fun x1 =>
    if x1.toInt ≤ p1.toInt then
      some (2, X)
    else
      letV (kY YC o0 1 - 3) fun e2 =>
      chk (inR p1 1549) (letV (X.1 e2 (ix p1)) fun x3 =>
      some (x3, X))
set_option maxHeartbeats 4000000 in
set_option maxRecDepth 100000 in
theorem k_Kinds_sortOf (Γ : GxC) (o0 : Nat) (ho0 : isO YC o0 3 8) (p1 : Int32) (X : St) : TCI YC Γ yX3_sortOf cX3_sortOf 2 "BlameCourt$Kinds" (some .int) { frames := 2, cells := 0, slots := 0, locals := 70 } [.ref (Γ.2.2.2.1 o0), .int p1] X (g_Kinds_sortOf o0 p1 X) := by
  refine TCI.of (by decide) (Nat.le_of_ble_eq_true rfl) rfl ?_
  show TC YC Γ cX3_sortOf 2 "BlameCourt$Kinds" (some .int) { frames := 2, cells := 0, slots := 0, locals := 70 } _ kI 0 [(0, .ref (Γ.2.2.2.1 o0)), (1, .int p1)] [] X (g_Kinds_sortOf o0 p1 X)
  unfold g_Kinds_sortOf
  refine TC.iload_n dX3_sortOf_0 rfl 1 rfl ?_
  refine TC.if_lt (pc1 := 21) dX3_sortOf_1 (by decide) ?_ ?_
  · refine TC.iconst (w := 2) dX3_sortOf_21 (by decide) ?_
    exact TC.ret_i rfl dX3_sortOf_22
  · refine TC.iload_n dX3_sortOf_4 rfl 1 rfl ?_
    refine TC.aload_n dX3_sortOf_5 rfl 0 rfl ?_
    refine gC3_0 o0 ho0 k257 dX3_sortOf_6 (fun x1 => ?_)
    refine TC.icmp_ge (pc1 := 21) dX3_sortOf_9 (by decide) rfl ?_ ?_
    · refine TC.iconst (w := 2) dX3_sortOf_21 (by decide) ?_
      exact TC.ret_i rfl dX3_sortOf_22
    · refine TC.aload_n dX3_sortOf_12 rfl 0 rfl ?_
      refine vC3_1 o0 ho0 k250 dX3_sortOf_13 (fun e2 he2 => ?_)
      refine TC.iload_n dX3_sortOf_16 rfl 1 rfl ?_
      refine TC.iald e2 he2 dX3_sortOf_17 (fun x3 => ?_)
      refine TC.goto (pc1 := 22) dX3_sortOf_18 (by decide) ?_
      exact TC.ret_i rfl dX3_sortOf_22
noncomputable def g_Kinds_takenBy (o0 : Nat) (p1 : Int32) (X : St) : Option (Int32 × St) :=
  if p1.toInt < 0 then
    some (0, X)
  else
    letV (X.1 o0 0) fun x1 =>
    if x1.toInt ≤ p1.toInt then
      some (0, X)
    else
      letV (kY YC o0 2 - 3) fun e2 =>
      chk (inR p1 1549) (letV (X.1 e2 (ix p1)) fun x3 =>
      some (x3, X))
set_option maxHeartbeats 4000000 in
set_option maxRecDepth 100000 in
theorem k_Kinds_takenBy (Γ : GxC) (o0 : Nat) (ho0 : isO YC o0 3 8) (p1 : Int32) (X : St) : TCI YC Γ yX3_takenBy cX3_takenBy 2 "BlameCourt$Kinds" (some .int) { frames := 2, cells := 0, slots := 0, locals := 70 } [.ref (Γ.2.2.2.1 o0), .int p1] X (g_Kinds_takenBy o0 p1 X) := by
  refine TCI.of (by decide) (Nat.le_of_ble_eq_true rfl) rfl ?_
  show TC YC Γ cX3_takenBy 2 "BlameCourt$Kinds" (some .int) { frames := 2, cells := 0, slots := 0, locals := 70 } _ kI 0 [(0, .ref (Γ.2.2.2.1 o0)), (1, .int p1)] [] X (g_Kinds_takenBy o0 p1 X)
  unfold g_Kinds_takenBy
  refine TC.iload_n dX3_takenBy_0 rfl 1 rfl ?_
  refine TC.if_lt (pc1 := 21) dX3_takenBy_1 (by decide) ?_ ?_
  · refine TC.iconst (w := 0) dX3_takenBy_21 (by decide) ?_
    exact TC.ret_i rfl dX3_takenBy_22
  · refine TC.iload_n dX3_takenBy_4 rfl 1 rfl ?_
    refine TC.aload_n dX3_takenBy_5 rfl 0 rfl ?_
    refine gC3_0 o0 ho0 k257 dX3_takenBy_6 (fun x1 => ?_)
    refine TC.icmp_ge (pc1 := 21) dX3_takenBy_9 (by decide) rfl ?_ ?_
    · refine TC.iconst (w := 0) dX3_takenBy_21 (by decide) ?_
      exact TC.ret_i rfl dX3_takenBy_22
    · refine TC.aload_n dX3_takenBy_12 rfl 0 rfl ?_
      refine vC3_2 o0 ho0 k251 dX3_takenBy_13 (fun e2 he2 => ?_)
      refine TC.iload_n dX3_takenBy_16 rfl 1 rfl ?_
      refine TC.iald e2 he2 dX3_takenBy_17 (fun x3 => ?_)
      refine TC.goto (pc1 := 22) dX3_takenBy_18 (by decide) ?_
      exact TC.ret_i rfl dX3_takenBy_22
