theorem dX2_init_0 : decode cX2_init 0 = .ok (.aload_n 0, 1) := by decide +kernel
theorem dX2_init_1 : decode cX2_init 1 = .ok (.invokespecial 5, 3) := by decide +kernel
theorem dX2_init_4 : decode cX2_init 4 = .ok (.aload_n 0, 1) := by decide +kernel
theorem dX2_init_5 : decode cX2_init 5 = .ok (.sipush 420, 3) := by decide +kernel
theorem dX2_init_8 : decode cX2_init 8 = .ok (.newarray .int, 2) := by decide +kernel
theorem dX2_init_10 : decode cX2_init 10 = .ok (.putfield 11, 3) := by decide +kernel
theorem dX2_init_13 : decode cX2_init 13 = .ok (.aload_n 0, 1) := by decide +kernel
theorem dX2_init_14 : decode cX2_init 14 = .ok (.sipush 420, 3) := by decide +kernel
theorem dX2_init_17 : decode cX2_init 17 = .ok (.newarray .int, 2) := by decide +kernel
theorem dX2_init_19 : decode cX2_init 19 = .ok (.putfield 15, 3) := by decide +kernel
theorem dX2_init_22 : decode cX2_init 22 = .ok (.aload_n 0, 1) := by decide +kernel
theorem dX2_init_23 : decode cX2_init 23 = .ok (.sipush 420, 3) := by decide +kernel
theorem dX2_init_26 : decode cX2_init 26 = .ok (.newarray .long, 2) := by decide +kernel
theorem dX2_init_28 : decode cX2_init 28 = .ok (.putfield 18, 3) := by decide +kernel
theorem dX2_init_31 : decode cX2_init 31 = .ok (.aload_n 0, 1) := by decide +kernel
theorem dX2_init_32 : decode cX2_init 32 = .ok (.bipush 18, 2) := by decide +kernel
theorem dX2_init_34 : decode cX2_init 34 = .ok (.newarray .int, 2) := by decide +kernel
theorem dX2_init_36 : decode cX2_init 36 = .ok (.putfield 22, 3) := by decide +kernel
theorem dX2_init_39 : decode cX2_init 39 = .ok (.aload_n 0, 1) := by decide +kernel
theorem dX2_init_40 : decode cX2_init 40 = .ok (.bipush 18, 2) := by decide +kernel
theorem dX2_init_42 : decode cX2_init 42 = .ok (.newarray .int, 2) := by decide +kernel
theorem dX2_init_44 : decode cX2_init 44 = .ok (.putfield 25, 3) := by decide +kernel
theorem dX2_init_47 : decode cX2_init 47 = .ok (.return_, 1) := by decide +kernel
theorem dX2_write_0 : decode cX2_write 0 = .ok (.aload_n 0, 1) := by decide +kernel
theorem dX2_write_1 : decode cX2_write 1 = .ok (.iload_n 1, 1) := by decide +kernel
theorem dX2_write_2 : decode cX2_write 2 = .ok (.iload_n 2, 1) := by decide +kernel
theorem dX2_write_3 : decode cX2_write 3 = .ok (.ldc 28, 2) := by decide +kernel
theorem dX2_write_5 : decode cX2_write 5 = .ok (.iand, 1) := by decide +kernel
theorem dX2_write_6 : decode cX2_write 6 = .ok (.iload_n 3, 1) := by decide +kernel
theorem dX2_write_7 : decode cX2_write 7 = .ok (.ldc 28, 2) := by decide +kernel
theorem dX2_write_9 : decode cX2_write 9 = .ok (.iand, 1) := by decide +kernel
theorem dX2_write_10 : decode cX2_write 10 = .ok (.iload_n 2, 1) := by decide +kernel
theorem dX2_write_11 : decode cX2_write 11 = .ok (.iload_n 3, 1) := by decide +kernel
theorem dX2_write_12 : decode cX2_write 12 = .ok (.invokestatic 29, 3) := by decide +kernel
theorem dX2_write_15 : decode cX2_write 15 = .ok (.invokevirtual 33, 3) := by decide +kernel
theorem dX2_write_18 : decode cX2_write 18 = .ok (.return_, 1) := by decide +kernel
theorem dX2_leastFrom_0 : decode cX2_leastFrom 0 = .ok (.iload_n 1, 1) := by decide +kernel
theorem dX2_leastFrom_1 : decode cX2_leastFrom 1 = .ok (.ldc 37, 2) := by decide +kernel
theorem dX2_leastFrom_3 : decode cX2_leastFrom 3 = .ok (.if_icmp .le 5, 3) := by decide +kernel
theorem dX2_leastFrom_6 : decode cX2_leastFrom 6 = .ok (.iconst (-1), 1) := by decide +kernel
theorem dX2_leastFrom_7 : decode cX2_leastFrom 7 = .ok (.ireturn, 1) := by decide +kernel
theorem dX2_leastFrom_8 : decode cX2_leastFrom 8 = .ok (.aload_n 0, 1) := by decide +kernel
theorem dX2_leastFrom_9 : decode cX2_leastFrom 9 = .ok (.iload_n 1, 1) := by decide +kernel
theorem dX2_leastFrom_10 : decode cX2_leastFrom 10 = .ok (.invokevirtual 38, 3) := by decide +kernel
theorem dX2_leastFrom_13 : decode cX2_leastFrom 13 = .ok (.aload_n 0, 1) := by decide +kernel
theorem dX2_leastFrom_14 : decode cX2_leastFrom 14 = .ok (.iload_n 2, 1) := by decide +kernel
theorem dX2_leastFrom_15 : decode cX2_leastFrom 15 = .ok (.ldc 28, 2) := by decide +kernel
theorem dX2_leastFrom_17 : decode cX2_leastFrom 17 = .ok (.iload_n 1, 1) := by decide +kernel
theorem dX2_leastFrom_18 : decode cX2_leastFrom 18 = .ok (.iconst (-1), 1) := by decide +kernel
theorem dX2_leastFrom_19 : decode cX2_leastFrom 19 = .ok (.ixor, 1) := by decide +kernel
theorem dX2_leastFrom_20 : decode cX2_leastFrom 20 = .ok (.iand, 1) := by decide +kernel
theorem dX2_leastFrom_21 : decode cX2_leastFrom 21 = .ok (.iconst 0, 1) := by decide +kernel
theorem dX2_leastFrom_22 : decode cX2_leastFrom 22 = .ok (.ldc2_w 42, 3) := by decide +kernel
theorem dX2_leastFrom_25 : decode cX2_leastFrom 25 = .ok (.iload_n 1, 1) := by decide +kernel
theorem dX2_leastFrom_26 : decode cX2_leastFrom 26 = .ok (.bipush 63, 2) := by decide +kernel
theorem dX2_leastFrom_28 : decode cX2_leastFrom 28 = .ok (.iand, 1) := by decide +kernel
theorem dX2_leastFrom_29 : decode cX2_leastFrom 29 = .ok (.lshl, 1) := by decide +kernel
theorem dX2_leastFrom_30 : decode cX2_leastFrom 30 = .ok (.invokevirtual 33, 3) := by decide +kernel
theorem dX2_leastFrom_33 : decode cX2_leastFrom 33 = .ok (.aload_n 0, 1) := by decide +kernel
theorem dX2_leastFrom_34 : decode cX2_leastFrom 34 = .ok (.iload_n 2, 1) := by decide +kernel
theorem dX2_leastFrom_35 : decode cX2_leastFrom 35 = .ok (.iconst 1, 1) := by decide +kernel
theorem dX2_leastFrom_36 : decode cX2_leastFrom 36 = .ok (.iadd, 1) := by decide +kernel
theorem dX2_leastFrom_37 : decode cX2_leastFrom 37 = .ok (.invokevirtual 44, 3) := by decide +kernel
theorem dX2_leastFrom_40 : decode cX2_leastFrom 40 = .ok (.lstore_n 3, 1) := by decide +kernel
theorem dX2_leastFrom_41 : decode cX2_leastFrom 41 = .ok (.iload_n 1, 1) := by decide +kernel
theorem dX2_leastFrom_42 : decode cX2_leastFrom 42 = .ok (.ldc 28, 2) := by decide +kernel
theorem dX2_leastFrom_44 : decode cX2_leastFrom 44 = .ok (.iand, 1) := by decide +kernel
theorem dX2_leastFrom_45 : decode cX2_leastFrom 45 = .ok (.istore 5, 2) := by decide +kernel
theorem dX2_leastFrom_47 : decode cX2_leastFrom 47 = .ok (.iconst 0, 1) := by decide +kernel
theorem dX2_leastFrom_48 : decode cX2_leastFrom 48 = .ok (.istore 6, 2) := by decide +kernel
theorem dX2_leastFrom_50 : decode cX2_leastFrom 50 = .ok (.iload 6, 2) := by decide +kernel
theorem dX2_leastFrom_52 : decode cX2_leastFrom 52 = .ok (.sipush 4096, 3) := by decide +kernel
theorem dX2_leastFrom_55 : decode cX2_leastFrom 55 = .ok (.if_icmp .ge 61, 3) := by decide +kernel
theorem dX2_leastFrom_58 : decode cX2_leastFrom 58 = .ok (.iload 5, 2) := by decide +kernel
theorem dX2_leastFrom_60 : decode cX2_leastFrom 60 = .ok (.iconst (-1), 1) := by decide +kernel
theorem dX2_leastFrom_61 : decode cX2_leastFrom 61 = .ok (.if_icmp .eq 55, 3) := by decide +kernel
theorem dX2_leastFrom_64 : decode cX2_leastFrom 64 = .ok (.aload_n 0, 1) := by decide +kernel
theorem dX2_leastFrom_65 : decode cX2_leastFrom 65 = .ok (.aload_n 0, 1) := by decide +kernel
theorem dX2_leastFrom_66 : decode cX2_leastFrom 66 = .ok (.iload 5, 2) := by decide +kernel
theorem dX2_leastFrom_68 : decode cX2_leastFrom 68 = .ok (.lload_n 3, 1) := by decide +kernel
theorem dX2_leastFrom_69 : decode cX2_leastFrom 69 = .ok (.iload_n 2, 1) := by decide +kernel
theorem dX2_leastFrom_70 : decode cX2_leastFrom 70 = .ok (.iconst 1, 1) := by decide +kernel
theorem dX2_leastFrom_71 : decode cX2_leastFrom 71 = .ok (.iadd, 1) := by decide +kernel
theorem dX2_leastFrom_72 : decode cX2_leastFrom 72 = .ok (.invokevirtual 48, 3) := by decide +kernel
theorem dX2_leastFrom_75 : decode cX2_leastFrom 75 = .ok (.putfield 52, 3) := by decide +kernel
theorem dX2_leastFrom_78 : decode cX2_leastFrom 78 = .ok (.aload_n 0, 1) := by decide +kernel
theorem dX2_leastFrom_79 : decode cX2_leastFrom 79 = .ok (.getfield 52, 3) := by decide +kernel
theorem dX2_leastFrom_82 : decode cX2_leastFrom 82 = .ok (.lconst 0, 1) := by decide +kernel
theorem dX2_leastFrom_83 : decode cX2_leastFrom 83 = .ok (.lcmp, 1) := by decide +kernel
theorem dX2_leastFrom_84 : decode cX2_leastFrom 84 = .ok (.ifCond .eq 14, 3) := by decide +kernel
theorem dX2_leastFrom_87 : decode cX2_leastFrom 87 = .ok (.iload 5, 2) := by decide +kernel
theorem dX2_leastFrom_89 : decode cX2_leastFrom 89 = .ok (.aload_n 0, 1) := by decide +kernel
theorem dX2_leastFrom_90 : decode cX2_leastFrom 90 = .ok (.getfield 52, 3) := by decide +kernel
theorem dX2_leastFrom_93 : decode cX2_leastFrom 93 = .ok (.invokestatic 56, 3) := by decide +kernel
theorem dX2_leastFrom_96 : decode cX2_leastFrom 96 = .ok (.iadd, 1) := by decide +kernel
theorem dX2_leastFrom_97 : decode cX2_leastFrom 97 = .ok (.ireturn, 1) := by decide +kernel
theorem dX2_leastFrom_98 : decode cX2_leastFrom 98 = .ok (.aload_n 0, 1) := by decide +kernel
theorem dX2_leastFrom_99 : decode cX2_leastFrom 99 = .ok (.aload_n 0, 1) := by decide +kernel
theorem dX2_leastFrom_100 : decode cX2_leastFrom 100 = .ok (.iload 5, 2) := by decide +kernel
theorem dX2_leastFrom_102 : decode cX2_leastFrom 102 = .ok (.invokevirtual 62, 3) := by decide +kernel
theorem dX2_leastFrom_105 : decode cX2_leastFrom 105 = .ok (.invokevirtual 66, 3) := by decide +kernel
theorem dX2_leastFrom_108 : decode cX2_leastFrom 108 = .ok (.istore 5, 2) := by decide +kernel
theorem dX2_leastFrom_110 : decode cX2_leastFrom 110 = .ok (.iinc 6 1, 3) := by decide +kernel
theorem dX2_leastFrom_113 : decode cX2_leastFrom 113 = .ok (.goto (-63), 3) := by decide +kernel
theorem dX2_leastFrom_116 : decode cX2_leastFrom 116 = .ok (.iconst (-1), 1) := by decide +kernel
theorem dX2_leastFrom_117 : decode cX2_leastFrom 117 = .ok (.ireturn, 1) := by decide +kernel
theorem dX2_foundInBlock_0 : decode cX2_foundInBlock 0 = .ok (.aload_n 0, 1) := by decide +kernel
theorem dX2_foundInBlock_1 : decode cX2_foundInBlock 1 = .ok (.getfield 52, 3) := by decide +kernel
theorem dX2_foundInBlock_4 : decode cX2_foundInBlock 4 = .ok (.invokestatic 69, 3) := by decide +kernel
theorem dX2_foundInBlock_7 : decode cX2_foundInBlock 7 = .ok (.ireturn, 1) := by decide +kernel
theorem dX2_nextBlock_0 : decode cX2_nextBlock 0 = .ok (.iload_n 0, 1) := by decide +kernel
theorem dX2_nextBlock_1 : decode cX2_nextBlock 1 = .ok (.bipush (-64), 2) := by decide +kernel
theorem dX2_nextBlock_3 : decode cX2_nextBlock 3 = .ok (.iand, 1) := by decide +kernel
theorem dX2_nextBlock_4 : decode cX2_nextBlock 4 = .ok (.bipush 64, 2) := by decide +kernel
theorem dX2_nextBlock_6 : decode cX2_nextBlock 6 = .ok (.iadd, 1) := by decide +kernel
theorem dX2_nextBlock_7 : decode cX2_nextBlock 7 = .ok (.ireturn, 1) := by decide +kernel
theorem dX2_writeParts_0 : decode cX2_writeParts 0 = .ok (.iload_n 1, 1) := by decide +kernel
theorem dX2_writeParts_1 : decode cX2_writeParts 1 = .ok (.ifCond .lt 32, 3) := by decide +kernel
theorem dX2_writeParts_4 : decode cX2_writeParts 4 = .ok (.iload_n 1, 1) := by decide +kernel
theorem dX2_writeParts_5 : decode cX2_writeParts 5 = .ok (.sipush 420, 3) := by decide +kernel
theorem dX2_writeParts_8 : decode cX2_writeParts 8 = .ok (.if_icmp .ge 25, 3) := by decide +kernel
theorem dX2_writeParts_11 : decode cX2_writeParts 11 = .ok (.aload_n 0, 1) := by decide +kernel
theorem dX2_writeParts_12 : decode cX2_writeParts 12 = .ok (.getfield 11, 3) := by decide +kernel
theorem dX2_writeParts_15 : decode cX2_writeParts 15 = .ok (.iload_n 1, 1) := by decide +kernel
theorem dX2_writeParts_16 : decode cX2_writeParts 16 = .ok (.iload_n 2, 1) := by decide +kernel
theorem dX2_writeParts_17 : decode cX2_writeParts 17 = .ok (.iastore, 1) := by decide +kernel
theorem dX2_writeParts_18 : decode cX2_writeParts 18 = .ok (.aload_n 0, 1) := by decide +kernel
theorem dX2_writeParts_19 : decode cX2_writeParts 19 = .ok (.getfield 15, 3) := by decide +kernel
theorem dX2_writeParts_22 : decode cX2_writeParts 22 = .ok (.iload_n 1, 1) := by decide +kernel
theorem dX2_writeParts_23 : decode cX2_writeParts 23 = .ok (.iload_n 3, 1) := by decide +kernel
theorem dX2_writeParts_24 : decode cX2_writeParts 24 = .ok (.iastore, 1) := by decide +kernel
theorem dX2_writeParts_25 : decode cX2_writeParts 25 = .ok (.aload_n 0, 1) := by decide +kernel
theorem dX2_writeParts_26 : decode cX2_writeParts 26 = .ok (.getfield 18, 3) := by decide +kernel
theorem dX2_writeParts_29 : decode cX2_writeParts 29 = .ok (.iload_n 1, 1) := by decide +kernel
theorem dX2_writeParts_30 : decode cX2_writeParts 30 = .ok (.lload 4, 2) := by decide +kernel
theorem dX2_writeParts_32 : decode cX2_writeParts 32 = .ok (.lastore, 1) := by decide +kernel
theorem dX2_writeParts_33 : decode cX2_writeParts 33 = .ok (.return_, 1) := by decide +kernel
theorem dX2_whereTrue_0 : decode cX2_whereTrue 0 = .ok (.lconst 0, 1) := by decide +kernel
theorem dX2_whereTrue_1 : decode cX2_whereTrue 1 = .ok (.lstore_n 2, 1) := by decide +kernel
theorem dX2_whereTrue_2 : decode cX2_whereTrue 2 = .ok (.iconst 0, 1) := by decide +kernel
theorem dX2_whereTrue_3 : decode cX2_whereTrue 3 = .ok (.istore 4, 2) := by decide +kernel
theorem dX2_whereTrue_5 : decode cX2_whereTrue 5 = .ok (.iload 4, 2) := by decide +kernel
theorem dX2_whereTrue_7 : decode cX2_whereTrue 7 = .ok (.getstatic 72, 3) := by decide +kernel
theorem dX2_whereTrue_10 : decode cX2_whereTrue 10 = .ok (.arraylength, 1) := by decide +kernel
theorem dX2_whereTrue_11 : decode cX2_whereTrue 11 = .ok (.if_icmp .ge 49, 3) := by decide +kernel
theorem dX2_whereTrue_14 : decode cX2_whereTrue 14 = .ok (.iload_n 0, 1) := by decide +kernel
theorem dX2_whereTrue_15 : decode cX2_whereTrue 15 = .ok (.iload 4, 2) := by decide +kernel
theorem dX2_whereTrue_17 : decode cX2_whereTrue 17 = .ok (.ishr, 1) := by decide +kernel
theorem dX2_whereTrue_18 : decode cX2_whereTrue 18 = .ok (.iconst 1, 1) := by decide +kernel
theorem dX2_whereTrue_19 : decode cX2_whereTrue 19 = .ok (.iand, 1) := by decide +kernel
theorem dX2_whereTrue_20 : decode cX2_whereTrue 20 = .ok (.ifCond .eq 12, 3) := by decide +kernel
theorem dX2_whereTrue_23 : decode cX2_whereTrue 23 = .ok (.lload_n 2, 1) := by decide +kernel
theorem dX2_whereTrue_24 : decode cX2_whereTrue 24 = .ok (.getstatic 72, 3) := by decide +kernel
theorem dX2_whereTrue_27 : decode cX2_whereTrue 27 = .ok (.iload 4, 2) := by decide +kernel
theorem dX2_whereTrue_29 : decode cX2_whereTrue 29 = .ok (.laload, 1) := by decide +kernel
theorem dX2_whereTrue_30 : decode cX2_whereTrue 30 = .ok (.lor, 1) := by decide +kernel
theorem dX2_whereTrue_31 : decode cX2_whereTrue 31 = .ok (.lstore_n 2, 1) := by decide +kernel
theorem dX2_whereTrue_32 : decode cX2_whereTrue 32 = .ok (.iload_n 1, 1) := by decide +kernel
theorem dX2_whereTrue_33 : decode cX2_whereTrue 33 = .ok (.iload 4, 2) := by decide +kernel
theorem dX2_whereTrue_35 : decode cX2_whereTrue 35 = .ok (.ishr, 1) := by decide +kernel
theorem dX2_whereTrue_36 : decode cX2_whereTrue 36 = .ok (.iconst 1, 1) := by decide +kernel
theorem dX2_whereTrue_37 : decode cX2_whereTrue 37 = .ok (.iand, 1) := by decide +kernel
theorem dX2_whereTrue_38 : decode cX2_whereTrue 38 = .ok (.ifCond .eq 16, 3) := by decide +kernel
theorem dX2_whereTrue_41 : decode cX2_whereTrue 41 = .ok (.lload_n 2, 1) := by decide +kernel
theorem dX2_whereTrue_42 : decode cX2_whereTrue 42 = .ok (.getstatic 72, 3) := by decide +kernel
theorem dX2_whereTrue_45 : decode cX2_whereTrue 45 = .ok (.iload 4, 2) := by decide +kernel
theorem dX2_whereTrue_47 : decode cX2_whereTrue 47 = .ok (.laload, 1) := by decide +kernel
theorem dX2_whereTrue_48 : decode cX2_whereTrue 48 = .ok (.ldc2_w 42, 3) := by decide +kernel
theorem dX2_whereTrue_51 : decode cX2_whereTrue 51 = .ok (.lxor, 1) := by decide +kernel
theorem dX2_whereTrue_52 : decode cX2_whereTrue 52 = .ok (.lor, 1) := by decide +kernel
theorem dX2_whereTrue_53 : decode cX2_whereTrue 53 = .ok (.lstore_n 2, 1) := by decide +kernel
theorem dX2_whereTrue_54 : decode cX2_whereTrue 54 = .ok (.iinc 4 1, 3) := by decide +kernel
theorem dX2_whereTrue_57 : decode cX2_whereTrue 57 = .ok (.goto (-52), 3) := by decide +kernel
theorem dX2_whereTrue_60 : decode cX2_whereTrue 60 = .ok (.lload_n 2, 1) := by decide +kernel
theorem dX2_whereTrue_61 : decode cX2_whereTrue 61 = .ok (.lreturn, 1) := by decide +kernel
theorem dX2_giveReasonsOfStart_0 : decode cX2_giveReasonsOfStart 0 = .ok (.bipush 6, 2) := by decide +kernel
theorem dX2_giveReasonsOfStart_2 : decode cX2_giveReasonsOfStart 2 = .ok (.istore_n 2, 1) := by decide +kernel
theorem dX2_giveReasonsOfStart_3 : decode cX2_giveReasonsOfStart 3 = .ok (.iload_n 2, 1) := by decide +kernel
theorem dX2_giveReasonsOfStart_4 : decode cX2_giveReasonsOfStart 4 = .ok (.bipush 18, 2) := by decide +kernel
theorem dX2_giveReasonsOfStart_6 : decode cX2_giveReasonsOfStart 6 = .ok (.if_icmp .ge 39, 3) := by decide +kernel
theorem dX2_giveReasonsOfStart_9 : decode cX2_giveReasonsOfStart 9 = .ok (.aload_n 0, 1) := by decide +kernel
theorem dX2_giveReasonsOfStart_10 : decode cX2_giveReasonsOfStart 10 = .ok (.getfield 22, 3) := by decide +kernel
theorem dX2_giveReasonsOfStart_13 : decode cX2_giveReasonsOfStart 13 = .ok (.iload_n 2, 1) := by decide +kernel
theorem dX2_giveReasonsOfStart_14 : decode cX2_giveReasonsOfStart 14 = .ok (.ldc 37, 2) := by decide +kernel
theorem dX2_giveReasonsOfStart_16 : decode cX2_giveReasonsOfStart 16 = .ok (.iload_n 1, 1) := by decide +kernel
theorem dX2_giveReasonsOfStart_17 : decode cX2_giveReasonsOfStart 17 = .ok (.iconst (-1), 1) := by decide +kernel
theorem dX2_giveReasonsOfStart_18 : decode cX2_giveReasonsOfStart 18 = .ok (.ixor, 1) := by decide +kernel
theorem dX2_giveReasonsOfStart_19 : decode cX2_giveReasonsOfStart 19 = .ok (.iand, 1) := by decide +kernel
theorem dX2_giveReasonsOfStart_20 : decode cX2_giveReasonsOfStart 20 = .ok (.bipush (-2), 2) := by decide +kernel
theorem dX2_giveReasonsOfStart_22 : decode cX2_giveReasonsOfStart 22 = .ok (.iload_n 2, 1) := by decide +kernel
theorem dX2_giveReasonsOfStart_23 : decode cX2_giveReasonsOfStart 23 = .ok (.ishl, 1) := by decide +kernel
theorem dX2_giveReasonsOfStart_24 : decode cX2_giveReasonsOfStart 24 = .ok (.iand, 1) := by decide +kernel
theorem dX2_giveReasonsOfStart_25 : decode cX2_giveReasonsOfStart 25 = .ok (.iastore, 1) := by decide +kernel
theorem dX2_giveReasonsOfStart_26 : decode cX2_giveReasonsOfStart 26 = .ok (.aload_n 0, 1) := by decide +kernel
theorem dX2_giveReasonsOfStart_27 : decode cX2_giveReasonsOfStart 27 = .ok (.getfield 25, 3) := by decide +kernel
theorem dX2_giveReasonsOfStart_30 : decode cX2_giveReasonsOfStart 30 = .ok (.iload_n 2, 1) := by decide +kernel
theorem dX2_giveReasonsOfStart_31 : decode cX2_giveReasonsOfStart 31 = .ok (.iload_n 1, 1) := by decide +kernel
theorem dX2_giveReasonsOfStart_32 : decode cX2_giveReasonsOfStart 32 = .ok (.iconst (-1), 1) := by decide +kernel
theorem dX2_giveReasonsOfStart_33 : decode cX2_giveReasonsOfStart 33 = .ok (.ixor, 1) := by decide +kernel
theorem dX2_giveReasonsOfStart_34 : decode cX2_giveReasonsOfStart 34 = .ok (.iconst 1, 1) := by decide +kernel
theorem dX2_giveReasonsOfStart_35 : decode cX2_giveReasonsOfStart 35 = .ok (.iload_n 2, 1) := by decide +kernel
theorem dX2_giveReasonsOfStart_36 : decode cX2_giveReasonsOfStart 36 = .ok (.ishl, 1) := by decide +kernel
theorem dX2_giveReasonsOfStart_37 : decode cX2_giveReasonsOfStart 37 = .ok (.iand, 1) := by decide +kernel
theorem dX2_giveReasonsOfStart_38 : decode cX2_giveReasonsOfStart 38 = .ok (.iastore, 1) := by decide +kernel
theorem dX2_giveReasonsOfStart_39 : decode cX2_giveReasonsOfStart 39 = .ok (.iinc 2 1, 3) := by decide +kernel
theorem dX2_giveReasonsOfStart_42 : decode cX2_giveReasonsOfStart 42 = .ok (.goto (-39), 3) := by decide +kernel
theorem dX2_giveReasonsOfStart_45 : decode cX2_giveReasonsOfStart 45 = .ok (.return_, 1) := by decide +kernel
theorem dX2_goodByLowAlone_0 : decode cX2_goodByLowAlone 0 = .ok (.ldc2_w 42, 3) := by decide +kernel
theorem dX2_goodByLowAlone_3 : decode cX2_goodByLowAlone 3 = .ok (.lstore_n 2, 1) := by decide +kernel
theorem dX2_goodByLowAlone_4 : decode cX2_goodByLowAlone 4 = .ok (.iconst 0, 1) := by decide +kernel
theorem dX2_goodByLowAlone_5 : decode cX2_goodByLowAlone 5 = .ok (.istore 4, 2) := by decide +kernel
theorem dX2_goodByLowAlone_7 : decode cX2_goodByLowAlone 7 = .ok (.iload 4, 2) := by decide +kernel
theorem dX2_goodByLowAlone_9 : decode cX2_goodByLowAlone 9 = .ok (.iload_n 1, 1) := by decide +kernel
theorem dX2_goodByLowAlone_10 : decode cX2_goodByLowAlone 10 = .ok (.if_icmp .ge 45, 3) := by decide +kernel
theorem dX2_goodByLowAlone_13 : decode cX2_goodByLowAlone 13 = .ok (.iload 4, 2) := by decide +kernel
theorem dX2_goodByLowAlone_15 : decode cX2_goodByLowAlone 15 = .ok (.sipush 420, 3) := by decide +kernel
theorem dX2_goodByLowAlone_18 : decode cX2_goodByLowAlone 18 = .ok (.if_icmp .ge 37, 3) := by decide +kernel
theorem dX2_goodByLowAlone_21 : decode cX2_goodByLowAlone 21 = .ok (.aload_n 0, 1) := by decide +kernel
theorem dX2_goodByLowAlone_22 : decode cX2_goodByLowAlone 22 = .ok (.getfield 11, 3) := by decide +kernel
theorem dX2_goodByLowAlone_25 : decode cX2_goodByLowAlone 25 = .ok (.iload 4, 2) := by decide +kernel
theorem dX2_goodByLowAlone_27 : decode cX2_goodByLowAlone 27 = .ok (.iaload, 1) := by decide +kernel
theorem dX2_goodByLowAlone_28 : decode cX2_goodByLowAlone 28 = .ok (.aload_n 0, 1) := by decide +kernel
theorem dX2_goodByLowAlone_29 : decode cX2_goodByLowAlone 29 = .ok (.getfield 15, 3) := by decide +kernel
theorem dX2_goodByLowAlone_32 : decode cX2_goodByLowAlone 32 = .ok (.iload 4, 2) := by decide +kernel
theorem dX2_goodByLowAlone_34 : decode cX2_goodByLowAlone 34 = .ok (.iaload, 1) := by decide +kernel
theorem dX2_goodByLowAlone_35 : decode cX2_goodByLowAlone 35 = .ok (.ior, 1) := by decide +kernel
theorem dX2_goodByLowAlone_36 : decode cX2_goodByLowAlone 36 = .ok (.ifCond .ne 13, 3) := by decide +kernel
theorem dX2_goodByLowAlone_39 : decode cX2_goodByLowAlone 39 = .ok (.lload_n 2, 1) := by decide +kernel
theorem dX2_goodByLowAlone_40 : decode cX2_goodByLowAlone 40 = .ok (.aload_n 0, 1) := by decide +kernel
theorem dX2_goodByLowAlone_41 : decode cX2_goodByLowAlone 41 = .ok (.getfield 18, 3) := by decide +kernel
theorem dX2_goodByLowAlone_44 : decode cX2_goodByLowAlone 44 = .ok (.iload 4, 2) := by decide +kernel
theorem dX2_goodByLowAlone_46 : decode cX2_goodByLowAlone 46 = .ok (.laload, 1) := by decide +kernel
theorem dX2_goodByLowAlone_47 : decode cX2_goodByLowAlone 47 = .ok (.land, 1) := by decide +kernel
theorem dX2_goodByLowAlone_48 : decode cX2_goodByLowAlone 48 = .ok (.lstore_n 2, 1) := by decide +kernel
theorem dX2_goodByLowAlone_49 : decode cX2_goodByLowAlone 49 = .ok (.iinc 4 1, 3) := by decide +kernel
theorem dX2_goodByLowAlone_52 : decode cX2_goodByLowAlone 52 = .ok (.goto (-45), 3) := by decide +kernel
theorem dX2_goodByLowAlone_55 : decode cX2_goodByLowAlone 55 = .ok (.lload_n 2, 1) := by decide +kernel
theorem dX2_goodByLowAlone_56 : decode cX2_goodByLowAlone 56 = .ok (.lreturn, 1) := by decide +kernel
theorem dX2_goodInBlock_0 : decode cX2_goodInBlock 0 = .ok (.lload_n 2, 1) := by decide +kernel
theorem dX2_goodInBlock_1 : decode cX2_goodInBlock 1 = .ok (.lstore 5, 2) := by decide +kernel
theorem dX2_goodInBlock_3 : decode cX2_goodInBlock 3 = .ok (.aload_n 0, 1) := by decide +kernel
theorem dX2_goodInBlock_4 : decode cX2_goodInBlock 4 = .ok (.iconst 0, 1) := by decide +kernel
theorem dX2_goodInBlock_5 : decode cX2_goodInBlock 5 = .ok (.putfield 75, 3) := by decide +kernel
theorem dX2_goodInBlock_8 : decode cX2_goodInBlock 8 = .ok (.aload_n 0, 1) := by decide +kernel
theorem dX2_goodInBlock_9 : decode cX2_goodInBlock 9 = .ok (.iconst 0, 1) := by decide +kernel
theorem dX2_goodInBlock_10 : decode cX2_goodInBlock 10 = .ok (.putfield 79, 3) := by decide +kernel
theorem dX2_goodInBlock_13 : decode cX2_goodInBlock 13 = .ok (.iconst 0, 1) := by decide +kernel
theorem dX2_goodInBlock_14 : decode cX2_goodInBlock 14 = .ok (.istore 7, 2) := by decide +kernel
theorem dX2_goodInBlock_16 : decode cX2_goodInBlock 16 = .ok (.iload 7, 2) := by decide +kernel
theorem dX2_goodInBlock_18 : decode cX2_goodInBlock 18 = .ok (.iload 4, 2) := by decide +kernel
theorem dX2_goodInBlock_20 : decode cX2_goodInBlock 20 = .ok (.if_icmp .ge 145, 3) := by decide +kernel
theorem dX2_goodInBlock_23 : decode cX2_goodInBlock 23 = .ok (.iload 7, 2) := by decide +kernel
theorem dX2_goodInBlock_25 : decode cX2_goodInBlock 25 = .ok (.sipush 420, 3) := by decide +kernel
theorem dX2_goodInBlock_28 : decode cX2_goodInBlock 28 = .ok (.if_icmp .ge 137, 3) := by decide +kernel
theorem dX2_goodInBlock_31 : decode cX2_goodInBlock 31 = .ok (.lload 5, 2) := by decide +kernel
theorem dX2_goodInBlock_33 : decode cX2_goodInBlock 33 = .ok (.lconst 0, 1) := by decide +kernel
theorem dX2_goodInBlock_34 : decode cX2_goodInBlock 34 = .ok (.lcmp, 1) := by decide +kernel
theorem dX2_goodInBlock_35 : decode cX2_goodInBlock 35 = .ok (.ifCond .eq 130, 3) := by decide +kernel
theorem dX2_goodInBlock_38 : decode cX2_goodInBlock 38 = .ok (.aload_n 0, 1) := by decide +kernel
theorem dX2_goodInBlock_39 : decode cX2_goodInBlock 39 = .ok (.getfield 11, 3) := by decide +kernel
theorem dX2_goodInBlock_42 : decode cX2_goodInBlock 42 = .ok (.iload 7, 2) := by decide +kernel
theorem dX2_goodInBlock_44 : decode cX2_goodInBlock 44 = .ok (.iaload, 1) := by decide +kernel
theorem dX2_goodInBlock_45 : decode cX2_goodInBlock 45 = .ok (.iload_n 1, 1) := by decide +kernel
theorem dX2_goodInBlock_46 : decode cX2_goodInBlock 46 = .ok (.iand, 1) := by decide +kernel
theorem dX2_goodInBlock_47 : decode cX2_goodInBlock 47 = .ok (.aload_n 0, 1) := by decide +kernel
theorem dX2_goodInBlock_48 : decode cX2_goodInBlock 48 = .ok (.getfield 15, 3) := by decide +kernel
theorem dX2_goodInBlock_51 : decode cX2_goodInBlock 51 = .ok (.iload 7, 2) := by decide +kernel
theorem dX2_goodInBlock_53 : decode cX2_goodInBlock 53 = .ok (.iaload, 1) := by decide +kernel
theorem dX2_goodInBlock_54 : decode cX2_goodInBlock 54 = .ok (.iload_n 1, 1) := by decide +kernel
theorem dX2_goodInBlock_55 : decode cX2_goodInBlock 55 = .ok (.iconst (-1), 1) := by decide +kernel
theorem dX2_goodInBlock_56 : decode cX2_goodInBlock 56 = .ok (.ixor, 1) := by decide +kernel
theorem dX2_goodInBlock_57 : decode cX2_goodInBlock 57 = .ok (.iand, 1) := by decide +kernel
theorem dX2_goodInBlock_58 : decode cX2_goodInBlock 58 = .ok (.ior, 1) := by decide +kernel
theorem dX2_goodInBlock_59 : decode cX2_goodInBlock 59 = .ok (.ifCond .ne 7, 3) := by decide +kernel
theorem dX2_goodInBlock_62 : decode cX2_goodInBlock 62 = .ok (.iconst 1, 1) := by decide +kernel
theorem dX2_goodInBlock_63 : decode cX2_goodInBlock 63 = .ok (.goto 4, 3) := by decide +kernel
theorem dX2_goodInBlock_66 : decode cX2_goodInBlock 66 = .ok (.iconst 0, 1) := by decide +kernel
theorem dX2_goodInBlock_67 : decode cX2_goodInBlock 67 = .ok (.istore 8, 2) := by decide +kernel
theorem dX2_goodInBlock_69 : decode cX2_goodInBlock 69 = .ok (.iload 8, 2) := by decide +kernel
theorem dX2_goodInBlock_71 : decode cX2_goodInBlock 71 = .ok (.ifCond .eq 88, 3) := by decide +kernel
theorem dX2_goodInBlock_74 : decode cX2_goodInBlock 74 = .ok (.lload 5, 2) := by decide +kernel
theorem dX2_goodInBlock_76 : decode cX2_goodInBlock 76 = .ok (.aload_n 0, 1) := by decide +kernel
theorem dX2_goodInBlock_77 : decode cX2_goodInBlock 77 = .ok (.getfield 18, 3) := by decide +kernel
theorem dX2_goodInBlock_80 : decode cX2_goodInBlock 80 = .ok (.iload 7, 2) := by decide +kernel
theorem dX2_goodInBlock_82 : decode cX2_goodInBlock 82 = .ok (.laload, 1) := by decide +kernel
theorem dX2_goodInBlock_83 : decode cX2_goodInBlock 83 = .ok (.ldc2_w 42, 3) := by decide +kernel
theorem dX2_goodInBlock_86 : decode cX2_goodInBlock 86 = .ok (.lxor, 1) := by decide +kernel
theorem dX2_goodInBlock_87 : decode cX2_goodInBlock 87 = .ok (.land, 1) := by decide +kernel
theorem dX2_goodInBlock_88 : decode cX2_goodInBlock 88 = .ok (.lconst 0, 1) := by decide +kernel
theorem dX2_goodInBlock_89 : decode cX2_goodInBlock 89 = .ok (.lcmp, 1) := by decide +kernel
theorem dX2_goodInBlock_90 : decode cX2_goodInBlock 90 = .ok (.ifCond .eq 69, 3) := by decide +kernel
theorem dX2_goodInBlock_93 : decode cX2_goodInBlock 93 = .ok (.aload_n 0, 1) := by decide +kernel
theorem dX2_goodInBlock_94 : decode cX2_goodInBlock 94 = .ok (.getfield 18, 3) := by decide +kernel
theorem dX2_goodInBlock_97 : decode cX2_goodInBlock 97 = .ok (.iload 7, 2) := by decide +kernel
theorem dX2_goodInBlock_99 : decode cX2_goodInBlock 99 = .ok (.laload, 1) := by decide +kernel
theorem dX2_goodInBlock_100 : decode cX2_goodInBlock 100 = .ok (.lconst 0, 1) := by decide +kernel
theorem dX2_goodInBlock_101 : decode cX2_goodInBlock 101 = .ok (.lcmp, 1) := by decide +kernel
theorem dX2_goodInBlock_102 : decode cX2_goodInBlock 102 = .ok (.ifCond .ne 13, 3) := by decide +kernel
theorem dX2_goodInBlock_105 : decode cX2_goodInBlock 105 = .ok (.aload_n 0, 1) := by decide +kernel
theorem dX2_goodInBlock_106 : decode cX2_goodInBlock 106 = .ok (.iconst 0, 1) := by decide +kernel
theorem dX2_goodInBlock_107 : decode cX2_goodInBlock 107 = .ok (.putfield 75, 3) := by decide +kernel
theorem dX2_goodInBlock_110 : decode cX2_goodInBlock 110 = .ok (.aload_n 0, 1) := by decide +kernel
theorem dX2_goodInBlock_111 : decode cX2_goodInBlock 111 = .ok (.iconst 0, 1) := by decide +kernel
theorem dX2_goodInBlock_112 : decode cX2_goodInBlock 112 = .ok (.putfield 79, 3) := by decide +kernel
theorem dX2_goodInBlock_115 : decode cX2_goodInBlock 115 = .ok (.lload 5, 2) := by decide +kernel
theorem dX2_goodInBlock_117 : decode cX2_goodInBlock 117 = .ok (.aload_n 0, 1) := by decide +kernel
theorem dX2_goodInBlock_118 : decode cX2_goodInBlock 118 = .ok (.getfield 18, 3) := by decide +kernel
theorem dX2_goodInBlock_121 : decode cX2_goodInBlock 121 = .ok (.iload 7, 2) := by decide +kernel
theorem dX2_goodInBlock_123 : decode cX2_goodInBlock 123 = .ok (.laload, 1) := by decide +kernel
theorem dX2_goodInBlock_124 : decode cX2_goodInBlock 124 = .ok (.land, 1) := by decide +kernel
theorem dX2_goodInBlock_125 : decode cX2_goodInBlock 125 = .ok (.lstore 5, 2) := by decide +kernel
theorem dX2_goodInBlock_127 : decode cX2_goodInBlock 127 = .ok (.aload_n 0, 1) := by decide +kernel
theorem dX2_goodInBlock_128 : decode cX2_goodInBlock 128 = .ok (.dup, 1) := by decide +kernel
theorem dX2_goodInBlock_129 : decode cX2_goodInBlock 129 = .ok (.getfield 75, 3) := by decide +kernel
theorem dX2_goodInBlock_132 : decode cX2_goodInBlock 132 = .ok (.aload_n 0, 1) := by decide +kernel
theorem dX2_goodInBlock_133 : decode cX2_goodInBlock 133 = .ok (.getfield 11, 3) := by decide +kernel
theorem dX2_goodInBlock_136 : decode cX2_goodInBlock 136 = .ok (.iload 7, 2) := by decide +kernel
theorem dX2_goodInBlock_138 : decode cX2_goodInBlock 138 = .ok (.iaload, 1) := by decide +kernel
theorem dX2_goodInBlock_139 : decode cX2_goodInBlock 139 = .ok (.ior, 1) := by decide +kernel
theorem dX2_goodInBlock_140 : decode cX2_goodInBlock 140 = .ok (.putfield 75, 3) := by decide +kernel
theorem dX2_goodInBlock_143 : decode cX2_goodInBlock 143 = .ok (.aload_n 0, 1) := by decide +kernel
theorem dX2_goodInBlock_144 : decode cX2_goodInBlock 144 = .ok (.dup, 1) := by decide +kernel
theorem dX2_goodInBlock_145 : decode cX2_goodInBlock 145 = .ok (.getfield 79, 3) := by decide +kernel
theorem dX2_goodInBlock_148 : decode cX2_goodInBlock 148 = .ok (.aload_n 0, 1) := by decide +kernel
theorem dX2_goodInBlock_149 : decode cX2_goodInBlock 149 = .ok (.getfield 15, 3) := by decide +kernel
theorem dX2_goodInBlock_152 : decode cX2_goodInBlock 152 = .ok (.iload 7, 2) := by decide +kernel
theorem dX2_goodInBlock_154 : decode cX2_goodInBlock 154 = .ok (.iaload, 1) := by decide +kernel
theorem dX2_goodInBlock_155 : decode cX2_goodInBlock 155 = .ok (.ior, 1) := by decide +kernel
theorem dX2_goodInBlock_156 : decode cX2_goodInBlock 156 = .ok (.putfield 79, 3) := by decide +kernel
theorem dX2_goodInBlock_159 : decode cX2_goodInBlock 159 = .ok (.iinc 7 1, 3) := by decide +kernel
theorem dX2_goodInBlock_162 : decode cX2_goodInBlock 162 = .ok (.goto (-146), 3) := by decide +kernel
theorem dX2_goodInBlock_165 : decode cX2_goodInBlock 165 = .ok (.lload 5, 2) := by decide +kernel
theorem dX2_goodInBlock_167 : decode cX2_goodInBlock 167 = .ok (.lreturn, 1) := by decide +kernel
theorem dX2_leap_0 : decode cX2_leap 0 = .ok (.aload_n 0, 1) := by decide +kernel
theorem dX2_leap_1 : decode cX2_leap 1 = .ok (.getfield 75, 3) := by decide +kernel
theorem dX2_leap_4 : decode cX2_leap 4 = .ok (.istore_n 2, 1) := by decide +kernel
theorem dX2_leap_5 : decode cX2_leap 5 = .ok (.aload_n 0, 1) := by decide +kernel
theorem dX2_leap_6 : decode cX2_leap 6 = .ok (.getfield 79, 3) := by decide +kernel
theorem dX2_leap_9 : decode cX2_leap 9 = .ok (.istore_n 3, 1) := by decide +kernel
theorem dX2_leap_10 : decode cX2_leap 10 = .ok (.bipush 6, 2) := by decide +kernel
theorem dX2_leap_12 : decode cX2_leap 12 = .ok (.istore 4, 2) := by decide +kernel
theorem dX2_leap_14 : decode cX2_leap 14 = .ok (.iload 4, 2) := by decide +kernel
theorem dX2_leap_16 : decode cX2_leap 16 = .ok (.bipush 18, 2) := by decide +kernel
theorem dX2_leap_18 : decode cX2_leap 18 = .ok (.if_icmp .ge 84, 3) := by decide +kernel
theorem dX2_leap_21 : decode cX2_leap 21 = .ok (.iconst 1, 1) := by decide +kernel
theorem dX2_leap_22 : decode cX2_leap 22 = .ok (.iload 4, 2) := by decide +kernel
theorem dX2_leap_24 : decode cX2_leap 24 = .ok (.ishl, 1) := by decide +kernel
theorem dX2_leap_25 : decode cX2_leap 25 = .ok (.istore 5, 2) := by decide +kernel
theorem dX2_leap_27 : decode cX2_leap 27 = .ok (.iload_n 2, 1) := by decide +kernel
theorem dX2_leap_28 : decode cX2_leap 28 = .ok (.iload 5, 2) := by decide +kernel
theorem dX2_leap_30 : decode cX2_leap 30 = .ok (.iand, 1) := by decide +kernel
theorem dX2_leap_31 : decode cX2_leap 31 = .ok (.ifCond .eq 33, 3) := by decide +kernel
theorem dX2_leap_34 : decode cX2_leap 34 = .ok (.aload_n 0, 1) := by decide +kernel
theorem dX2_leap_35 : decode cX2_leap 35 = .ok (.getfield 22, 3) := by decide +kernel
theorem dX2_leap_38 : decode cX2_leap 38 = .ok (.iload 4, 2) := by decide +kernel
theorem dX2_leap_40 : decode cX2_leap 40 = .ok (.iload_n 2, 1) := by decide +kernel
theorem dX2_leap_41 : decode cX2_leap 41 = .ok (.iload 5, 2) := by decide +kernel
theorem dX2_leap_43 : decode cX2_leap 43 = .ok (.iconst (-1), 1) := by decide +kernel
theorem dX2_leap_44 : decode cX2_leap 44 = .ok (.ixor, 1) := by decide +kernel
theorem dX2_leap_45 : decode cX2_leap 45 = .ok (.iand, 1) := by decide +kernel
theorem dX2_leap_46 : decode cX2_leap 46 = .ok (.iastore, 1) := by decide +kernel
theorem dX2_leap_47 : decode cX2_leap 47 = .ok (.aload_n 0, 1) := by decide +kernel
theorem dX2_leap_48 : decode cX2_leap 48 = .ok (.getfield 25, 3) := by decide +kernel
theorem dX2_leap_51 : decode cX2_leap 51 = .ok (.iload 4, 2) := by decide +kernel
theorem dX2_leap_53 : decode cX2_leap 53 = .ok (.iload_n 3, 1) := by decide +kernel
theorem dX2_leap_54 : decode cX2_leap 54 = .ok (.iastore, 1) := by decide +kernel
theorem dX2_leap_55 : decode cX2_leap 55 = .ok (.iload_n 1, 1) := by decide +kernel
theorem dX2_leap_56 : decode cX2_leap 56 = .ok (.iload 5, 2) := by decide +kernel
theorem dX2_leap_58 : decode cX2_leap 58 = .ok (.ior, 1) := by decide +kernel
theorem dX2_leap_59 : decode cX2_leap 59 = .ok (.iload 5, 2) := by decide +kernel
theorem dX2_leap_61 : decode cX2_leap 61 = .ok (.ineg, 1) := by decide +kernel
theorem dX2_leap_62 : decode cX2_leap 62 = .ok (.iand, 1) := by decide +kernel
theorem dX2_leap_63 : decode cX2_leap 63 = .ok (.ireturn, 1) := by decide +kernel
theorem dX2_leap_64 : decode cX2_leap 64 = .ok (.iload_n 3, 1) := by decide +kernel
theorem dX2_leap_65 : decode cX2_leap 65 = .ok (.iload 5, 2) := by decide +kernel
theorem dX2_leap_67 : decode cX2_leap 67 = .ok (.iand, 1) := by decide +kernel
theorem dX2_leap_68 : decode cX2_leap 68 = .ok (.ifCond .eq 28, 3) := by decide +kernel
theorem dX2_leap_71 : decode cX2_leap 71 = .ok (.iload_n 2, 1) := by decide +kernel
theorem dX2_leap_72 : decode cX2_leap 72 = .ok (.aload_n 0, 1) := by decide +kernel
theorem dX2_leap_73 : decode cX2_leap 73 = .ok (.getfield 22, 3) := by decide +kernel
theorem dX2_leap_76 : decode cX2_leap 76 = .ok (.iload 4, 2) := by decide +kernel
theorem dX2_leap_78 : decode cX2_leap 78 = .ok (.iaload, 1) := by decide +kernel
theorem dX2_leap_79 : decode cX2_leap 79 = .ok (.ior, 1) := by decide +kernel
theorem dX2_leap_80 : decode cX2_leap 80 = .ok (.istore_n 2, 1) := by decide +kernel
theorem dX2_leap_81 : decode cX2_leap 81 = .ok (.iload_n 3, 1) := by decide +kernel
theorem dX2_leap_82 : decode cX2_leap 82 = .ok (.iload 5, 2) := by decide +kernel
theorem dX2_leap_84 : decode cX2_leap 84 = .ok (.iconst (-1), 1) := by decide +kernel
theorem dX2_leap_85 : decode cX2_leap 85 = .ok (.ixor, 1) := by decide +kernel
theorem dX2_leap_86 : decode cX2_leap 86 = .ok (.iand, 1) := by decide +kernel
theorem dX2_leap_87 : decode cX2_leap 87 = .ok (.aload_n 0, 1) := by decide +kernel
theorem dX2_leap_88 : decode cX2_leap 88 = .ok (.getfield 25, 3) := by decide +kernel
theorem dX2_leap_91 : decode cX2_leap 91 = .ok (.iload 4, 2) := by decide +kernel
theorem dX2_leap_93 : decode cX2_leap 93 = .ok (.iaload, 1) := by decide +kernel
theorem dX2_leap_94 : decode cX2_leap 94 = .ok (.ior, 1) := by decide +kernel
theorem dX2_leap_95 : decode cX2_leap 95 = .ok (.istore_n 3, 1) := by decide +kernel
theorem dX2_leap_96 : decode cX2_leap 96 = .ok (.iinc 4 1, 3) := by decide +kernel
theorem dX2_leap_99 : decode cX2_leap 99 = .ok (.goto (-85), 3) := by decide +kernel
theorem dX2_leap_102 : decode cX2_leap 102 = .ok (.iconst (-1), 1) := by decide +kernel
theorem dX2_leap_103 : decode cX2_leap 103 = .ok (.ireturn, 1) := by decide +kernel
theorem dX2_setByReasons_0 : decode cX2_setByReasons 0 = .ok (.iload_n 1, 1) := by decide +kernel
theorem dX2_setByReasons_1 : decode cX2_setByReasons 1 = .ok (.istore_n 2, 1) := by decide +kernel
theorem dX2_setByReasons_2 : decode cX2_setByReasons 2 = .ok (.bipush 17, 2) := by decide +kernel
theorem dX2_setByReasons_4 : decode cX2_setByReasons 4 = .ok (.istore_n 3, 1) := by decide +kernel
theorem dX2_setByReasons_5 : decode cX2_setByReasons 5 = .ok (.iload_n 3, 1) := by decide +kernel
theorem dX2_setByReasons_6 : decode cX2_setByReasons 6 = .ok (.bipush 6, 2) := by decide +kernel
theorem dX2_setByReasons_8 : decode cX2_setByReasons 8 = .ok (.if_icmp .lt 53, 3) := by decide +kernel
theorem dX2_setByReasons_11 : decode cX2_setByReasons 11 = .ok (.iload_n 2, 1) := by decide +kernel
theorem dX2_setByReasons_12 : decode cX2_setByReasons 12 = .ok (.iconst (-1), 1) := by decide +kernel
theorem dX2_setByReasons_13 : decode cX2_setByReasons 13 = .ok (.if_icmp .eq 48, 3) := by decide +kernel
theorem dX2_setByReasons_16 : decode cX2_setByReasons 16 = .ok (.iconst 1, 1) := by decide +kernel
theorem dX2_setByReasons_17 : decode cX2_setByReasons 17 = .ok (.iload_n 3, 1) := by decide +kernel
theorem dX2_setByReasons_18 : decode cX2_setByReasons 18 = .ok (.ishl, 1) := by decide +kernel
theorem dX2_setByReasons_19 : decode cX2_setByReasons 19 = .ok (.istore 4, 2) := by decide +kernel
theorem dX2_setByReasons_21 : decode cX2_setByReasons 21 = .ok (.aload_n 0, 1) := by decide +kernel
theorem dX2_setByReasons_22 : decode cX2_setByReasons 22 = .ok (.getfield 22, 3) := by decide +kernel
theorem dX2_setByReasons_25 : decode cX2_setByReasons 25 = .ok (.iload_n 3, 1) := by decide +kernel
theorem dX2_setByReasons_26 : decode cX2_setByReasons 26 = .ok (.iaload, 1) := by decide +kernel
theorem dX2_setByReasons_27 : decode cX2_setByReasons 27 = .ok (.iload 4, 2) := by decide +kernel
theorem dX2_setByReasons_29 : decode cX2_setByReasons 29 = .ok (.ior, 1) := by decide +kernel
theorem dX2_setByReasons_30 : decode cX2_setByReasons 30 = .ok (.iload_n 2, 1) := by decide +kernel
theorem dX2_setByReasons_31 : decode cX2_setByReasons 31 = .ok (.iand, 1) := by decide +kernel
theorem dX2_setByReasons_32 : decode cX2_setByReasons 32 = .ok (.aload_n 0, 1) := by decide +kernel
theorem dX2_setByReasons_33 : decode cX2_setByReasons 33 = .ok (.getfield 25, 3) := by decide +kernel
theorem dX2_setByReasons_36 : decode cX2_setByReasons 36 = .ok (.iload_n 3, 1) := by decide +kernel
theorem dX2_setByReasons_37 : decode cX2_setByReasons 37 = .ok (.iaload, 1) := by decide +kernel
theorem dX2_setByReasons_38 : decode cX2_setByReasons 38 = .ok (.iload_n 2, 1) := by decide +kernel
theorem dX2_setByReasons_39 : decode cX2_setByReasons 39 = .ok (.iconst (-1), 1) := by decide +kernel
theorem dX2_setByReasons_40 : decode cX2_setByReasons 40 = .ok (.ixor, 1) := by decide +kernel
theorem dX2_setByReasons_41 : decode cX2_setByReasons 41 = .ok (.iand, 1) := by decide +kernel
theorem dX2_setByReasons_42 : decode cX2_setByReasons 42 = .ok (.ior, 1) := by decide +kernel
theorem dX2_setByReasons_43 : decode cX2_setByReasons 43 = .ok (.ifCond .ne 12, 3) := by decide +kernel
theorem dX2_setByReasons_46 : decode cX2_setByReasons 46 = .ok (.iload_n 2, 1) := by decide +kernel
theorem dX2_setByReasons_47 : decode cX2_setByReasons 47 = .ok (.iload 4, 2) := by decide +kernel
theorem dX2_setByReasons_49 : decode cX2_setByReasons 49 = .ok (.ior, 1) := by decide +kernel
theorem dX2_setByReasons_50 : decode cX2_setByReasons 50 = .ok (.iload 4, 2) := by decide +kernel
theorem dX2_setByReasons_52 : decode cX2_setByReasons 52 = .ok (.ineg, 1) := by decide +kernel
theorem dX2_setByReasons_53 : decode cX2_setByReasons 53 = .ok (.iand, 1) := by decide +kernel
theorem dX2_setByReasons_54 : decode cX2_setByReasons 54 = .ok (.istore_n 2, 1) := by decide +kernel
theorem dX2_setByReasons_55 : decode cX2_setByReasons 55 = .ok (.iinc 3 (-1), 3) := by decide +kernel
theorem dX2_setByReasons_58 : decode cX2_setByReasons 58 = .ok (.goto (-53), 3) := by decide +kernel
theorem dX2_setByReasons_61 : decode cX2_setByReasons 61 = .ok (.iload_n 2, 1) := by decide +kernel
theorem dX2_setByReasons_62 : decode cX2_setByReasons 62 = .ok (.ireturn, 1) := by decide +kernel
theorem dJL_bitCount_0 : decode cJL_bitCount 0 = .ok (.lload_n 0, 1) := by decide +kernel
theorem dJL_bitCount_1 : decode cJL_bitCount 1 = .ok (.lload_n 0, 1) := by decide +kernel
theorem dJL_bitCount_2 : decode cJL_bitCount 2 = .ok (.iconst 1, 1) := by decide +kernel
theorem dJL_bitCount_3 : decode cJL_bitCount 3 = .ok (.lushr, 1) := by decide +kernel
theorem dJL_bitCount_4 : decode cJL_bitCount 4 = .ok (.ldc2_w 314, 3) := by decide +kernel
theorem dJL_bitCount_7 : decode cJL_bitCount 7 = .ok (.land, 1) := by decide +kernel
theorem dJL_bitCount_8 : decode cJL_bitCount 8 = .ok (.lsub, 1) := by decide +kernel
theorem dJL_bitCount_9 : decode cJL_bitCount 9 = .ok (.lstore_n 0, 1) := by decide +kernel
theorem dJL_bitCount_10 : decode cJL_bitCount 10 = .ok (.lload_n 0, 1) := by decide +kernel
theorem dJL_bitCount_11 : decode cJL_bitCount 11 = .ok (.ldc2_w 316, 3) := by decide +kernel
theorem dJL_bitCount_14 : decode cJL_bitCount 14 = .ok (.land, 1) := by decide +kernel
theorem dJL_bitCount_15 : decode cJL_bitCount 15 = .ok (.lload_n 0, 1) := by decide +kernel
theorem dJL_bitCount_16 : decode cJL_bitCount 16 = .ok (.iconst 2, 1) := by decide +kernel
theorem dJL_bitCount_17 : decode cJL_bitCount 17 = .ok (.lushr, 1) := by decide +kernel
theorem dJL_bitCount_18 : decode cJL_bitCount 18 = .ok (.ldc2_w 316, 3) := by decide +kernel
theorem dJL_bitCount_21 : decode cJL_bitCount 21 = .ok (.land, 1) := by decide +kernel
theorem dJL_bitCount_22 : decode cJL_bitCount 22 = .ok (.ladd, 1) := by decide +kernel
theorem dJL_bitCount_23 : decode cJL_bitCount 23 = .ok (.lstore_n 0, 1) := by decide +kernel
theorem dJL_bitCount_24 : decode cJL_bitCount 24 = .ok (.lload_n 0, 1) := by decide +kernel
theorem dJL_bitCount_25 : decode cJL_bitCount 25 = .ok (.lload_n 0, 1) := by decide +kernel
theorem dJL_bitCount_26 : decode cJL_bitCount 26 = .ok (.iconst 4, 1) := by decide +kernel
theorem dJL_bitCount_27 : decode cJL_bitCount 27 = .ok (.lushr, 1) := by decide +kernel
theorem dJL_bitCount_28 : decode cJL_bitCount 28 = .ok (.ladd, 1) := by decide +kernel
theorem dJL_bitCount_29 : decode cJL_bitCount 29 = .ok (.ldc2_w 318, 3) := by decide +kernel
theorem dJL_bitCount_32 : decode cJL_bitCount 32 = .ok (.land, 1) := by decide +kernel
theorem dJL_bitCount_33 : decode cJL_bitCount 33 = .ok (.lstore_n 0, 1) := by decide +kernel
theorem dJL_bitCount_34 : decode cJL_bitCount 34 = .ok (.lload_n 0, 1) := by decide +kernel
theorem dJL_bitCount_35 : decode cJL_bitCount 35 = .ok (.lload_n 0, 1) := by decide +kernel
theorem dJL_bitCount_36 : decode cJL_bitCount 36 = .ok (.bipush 8, 2) := by decide +kernel
theorem dJL_bitCount_38 : decode cJL_bitCount 38 = .ok (.lushr, 1) := by decide +kernel
theorem dJL_bitCount_39 : decode cJL_bitCount 39 = .ok (.ladd, 1) := by decide +kernel
theorem dJL_bitCount_40 : decode cJL_bitCount 40 = .ok (.lstore_n 0, 1) := by decide +kernel
theorem dJL_bitCount_41 : decode cJL_bitCount 41 = .ok (.lload_n 0, 1) := by decide +kernel
theorem dJL_bitCount_42 : decode cJL_bitCount 42 = .ok (.lload_n 0, 1) := by decide +kernel
theorem dJL_bitCount_43 : decode cJL_bitCount 43 = .ok (.bipush 16, 2) := by decide +kernel
theorem dJL_bitCount_45 : decode cJL_bitCount 45 = .ok (.lushr, 1) := by decide +kernel
theorem dJL_bitCount_46 : decode cJL_bitCount 46 = .ok (.ladd, 1) := by decide +kernel
theorem dJL_bitCount_47 : decode cJL_bitCount 47 = .ok (.lstore_n 0, 1) := by decide +kernel
theorem dJL_bitCount_48 : decode cJL_bitCount 48 = .ok (.lload_n 0, 1) := by decide +kernel
theorem dJL_bitCount_49 : decode cJL_bitCount 49 = .ok (.lload_n 0, 1) := by decide +kernel
theorem dJL_bitCount_50 : decode cJL_bitCount 50 = .ok (.bipush 32, 2) := by decide +kernel
theorem dJL_bitCount_52 : decode cJL_bitCount 52 = .ok (.lushr, 1) := by decide +kernel
theorem dJL_bitCount_53 : decode cJL_bitCount 53 = .ok (.ladd, 1) := by decide +kernel
theorem dJL_bitCount_54 : decode cJL_bitCount 54 = .ok (.lstore_n 0, 1) := by decide +kernel
theorem dJL_bitCount_55 : decode cJL_bitCount 55 = .ok (.lload_n 0, 1) := by decide +kernel
theorem dJL_bitCount_56 : decode cJL_bitCount 56 = .ok (.l2i, 1) := by decide +kernel
theorem dJL_bitCount_57 : decode cJL_bitCount 57 = .ok (.bipush 127, 2) := by decide +kernel
theorem dJL_bitCount_59 : decode cJL_bitCount 59 = .ok (.iand, 1) := by decide +kernel
theorem dJL_bitCount_60 : decode cJL_bitCount 60 = .ok (.ireturn, 1) := by decide +kernel
theorem dJL_numberOfTrailingZeros_0 : decode cJL_numberOfTrailingZeros 0 = .ok (.lload_n 0, 1) := by decide +kernel
theorem dJL_numberOfTrailingZeros_1 : decode cJL_numberOfTrailingZeros 1 = .ok (.l2i, 1) := by decide +kernel
theorem dJL_numberOfTrailingZeros_2 : decode cJL_numberOfTrailingZeros 2 = .ok (.istore_n 2, 1) := by decide +kernel
theorem dJL_numberOfTrailingZeros_3 : decode cJL_numberOfTrailingZeros 3 = .ok (.iload_n 2, 1) := by decide +kernel
theorem dJL_numberOfTrailingZeros_4 : decode cJL_numberOfTrailingZeros 4 = .ok (.ifCond .ne 17, 3) := by decide +kernel
theorem dJL_numberOfTrailingZeros_7 : decode cJL_numberOfTrailingZeros 7 = .ok (.bipush 32, 2) := by decide +kernel
theorem dJL_numberOfTrailingZeros_9 : decode cJL_numberOfTrailingZeros 9 = .ok (.lload_n 0, 1) := by decide +kernel
theorem dJL_numberOfTrailingZeros_10 : decode cJL_numberOfTrailingZeros 10 = .ok (.bipush 32, 2) := by decide +kernel
theorem dJL_numberOfTrailingZeros_12 : decode cJL_numberOfTrailingZeros 12 = .ok (.lushr, 1) := by decide +kernel
theorem dJL_numberOfTrailingZeros_13 : decode cJL_numberOfTrailingZeros 13 = .ok (.l2i, 1) := by decide +kernel
theorem dJL_numberOfTrailingZeros_14 : decode cJL_numberOfTrailingZeros 14 = .ok (.invokestatic 311, 3) := by decide +kernel
theorem dJL_numberOfTrailingZeros_17 : decode cJL_numberOfTrailingZeros 17 = .ok (.iadd, 1) := by decide +kernel
theorem dJL_numberOfTrailingZeros_18 : decode cJL_numberOfTrailingZeros 18 = .ok (.goto 7, 3) := by decide +kernel
theorem dJL_numberOfTrailingZeros_21 : decode cJL_numberOfTrailingZeros 21 = .ok (.iload_n 2, 1) := by decide +kernel
theorem dJL_numberOfTrailingZeros_22 : decode cJL_numberOfTrailingZeros 22 = .ok (.invokestatic 311, 3) := by decide +kernel
theorem dJL_numberOfTrailingZeros_25 : decode cJL_numberOfTrailingZeros 25 = .ok (.ireturn, 1) := by decide +kernel
theorem dJI_numberOfTrailingZeros_0 : decode cJI_numberOfTrailingZeros 0 = .ok (.iload_n 0, 1) := by decide +kernel
theorem dJI_numberOfTrailingZeros_1 : decode cJI_numberOfTrailingZeros 1 = .ok (.iconst (-1), 1) := by decide +kernel
theorem dJI_numberOfTrailingZeros_2 : decode cJI_numberOfTrailingZeros 2 = .ok (.ixor, 1) := by decide +kernel
theorem dJI_numberOfTrailingZeros_3 : decode cJI_numberOfTrailingZeros 3 = .ok (.iload_n 0, 1) := by decide +kernel
theorem dJI_numberOfTrailingZeros_4 : decode cJI_numberOfTrailingZeros 4 = .ok (.iconst 1, 1) := by decide +kernel
theorem dJI_numberOfTrailingZeros_5 : decode cJI_numberOfTrailingZeros 5 = .ok (.isub, 1) := by decide +kernel
theorem dJI_numberOfTrailingZeros_6 : decode cJI_numberOfTrailingZeros 6 = .ok (.iand, 1) := by decide +kernel
theorem dJI_numberOfTrailingZeros_7 : decode cJI_numberOfTrailingZeros 7 = .ok (.istore_n 0, 1) := by decide +kernel
theorem dJI_numberOfTrailingZeros_8 : decode cJI_numberOfTrailingZeros 8 = .ok (.iload_n 0, 1) := by decide +kernel
theorem dJI_numberOfTrailingZeros_9 : decode cJI_numberOfTrailingZeros 9 = .ok (.ifCond .gt 8, 3) := by decide +kernel
theorem dJI_numberOfTrailingZeros_12 : decode cJI_numberOfTrailingZeros 12 = .ok (.iload_n 0, 1) := by decide +kernel
theorem dJI_numberOfTrailingZeros_13 : decode cJI_numberOfTrailingZeros 13 = .ok (.bipush 32, 2) := by decide +kernel
theorem dJI_numberOfTrailingZeros_15 : decode cJI_numberOfTrailingZeros 15 = .ok (.iand, 1) := by decide +kernel
theorem dJI_numberOfTrailingZeros_16 : decode cJI_numberOfTrailingZeros 16 = .ok (.ireturn, 1) := by decide +kernel
theorem dJI_numberOfTrailingZeros_17 : decode cJI_numberOfTrailingZeros 17 = .ok (.iconst 1, 1) := by decide +kernel
theorem dJI_numberOfTrailingZeros_18 : decode cJI_numberOfTrailingZeros 18 = .ok (.istore_n 1, 1) := by decide +kernel
theorem dJI_numberOfTrailingZeros_19 : decode cJI_numberOfTrailingZeros 19 = .ok (.iload_n 0, 1) := by decide +kernel
theorem dJI_numberOfTrailingZeros_20 : decode cJI_numberOfTrailingZeros 20 = .ok (.ldc_w 264, 3) := by decide +kernel
theorem dJI_numberOfTrailingZeros_23 : decode cJI_numberOfTrailingZeros 23 = .ok (.if_icmp .le 11, 3) := by decide +kernel
theorem dJI_numberOfTrailingZeros_26 : decode cJI_numberOfTrailingZeros 26 = .ok (.iinc 1 16, 3) := by decide +kernel
theorem dJI_numberOfTrailingZeros_29 : decode cJI_numberOfTrailingZeros 29 = .ok (.iload_n 0, 1) := by decide +kernel
theorem dJI_numberOfTrailingZeros_30 : decode cJI_numberOfTrailingZeros 30 = .ok (.bipush 16, 2) := by decide +kernel
theorem dJI_numberOfTrailingZeros_32 : decode cJI_numberOfTrailingZeros 32 = .ok (.iushr, 1) := by decide +kernel
theorem dJI_numberOfTrailingZeros_33 : decode cJI_numberOfTrailingZeros 33 = .ok (.istore_n 0, 1) := by decide +kernel
theorem dJI_numberOfTrailingZeros_34 : decode cJI_numberOfTrailingZeros 34 = .ok (.iload_n 0, 1) := by decide +kernel
theorem dJI_numberOfTrailingZeros_35 : decode cJI_numberOfTrailingZeros 35 = .ok (.sipush 256, 3) := by decide +kernel
theorem dJI_numberOfTrailingZeros_38 : decode cJI_numberOfTrailingZeros 38 = .ok (.if_icmp .le 11, 3) := by decide +kernel
theorem dJI_numberOfTrailingZeros_41 : decode cJI_numberOfTrailingZeros 41 = .ok (.iinc 1 8, 3) := by decide +kernel
theorem dJI_numberOfTrailingZeros_44 : decode cJI_numberOfTrailingZeros 44 = .ok (.iload_n 0, 1) := by decide +kernel
theorem dJI_numberOfTrailingZeros_45 : decode cJI_numberOfTrailingZeros 45 = .ok (.bipush 8, 2) := by decide +kernel
theorem dJI_numberOfTrailingZeros_47 : decode cJI_numberOfTrailingZeros 47 = .ok (.iushr, 1) := by decide +kernel
theorem dJI_numberOfTrailingZeros_48 : decode cJI_numberOfTrailingZeros 48 = .ok (.istore_n 0, 1) := by decide +kernel
theorem dJI_numberOfTrailingZeros_49 : decode cJI_numberOfTrailingZeros 49 = .ok (.iload_n 0, 1) := by decide +kernel
theorem dJI_numberOfTrailingZeros_50 : decode cJI_numberOfTrailingZeros 50 = .ok (.bipush 16, 2) := by decide +kernel
theorem dJI_numberOfTrailingZeros_52 : decode cJI_numberOfTrailingZeros 52 = .ok (.if_icmp .le 10, 3) := by decide +kernel
theorem dJI_numberOfTrailingZeros_55 : decode cJI_numberOfTrailingZeros 55 = .ok (.iinc 1 4, 3) := by decide +kernel
theorem dJI_numberOfTrailingZeros_58 : decode cJI_numberOfTrailingZeros 58 = .ok (.iload_n 0, 1) := by decide +kernel
theorem dJI_numberOfTrailingZeros_59 : decode cJI_numberOfTrailingZeros 59 = .ok (.iconst 4, 1) := by decide +kernel
theorem dJI_numberOfTrailingZeros_60 : decode cJI_numberOfTrailingZeros 60 = .ok (.iushr, 1) := by decide +kernel
theorem dJI_numberOfTrailingZeros_61 : decode cJI_numberOfTrailingZeros 61 = .ok (.istore_n 0, 1) := by decide +kernel
theorem dJI_numberOfTrailingZeros_62 : decode cJI_numberOfTrailingZeros 62 = .ok (.iload_n 0, 1) := by decide +kernel
theorem dJI_numberOfTrailingZeros_63 : decode cJI_numberOfTrailingZeros 63 = .ok (.iconst 4, 1) := by decide +kernel
theorem dJI_numberOfTrailingZeros_64 : decode cJI_numberOfTrailingZeros 64 = .ok (.if_icmp .le 10, 3) := by decide +kernel
theorem dJI_numberOfTrailingZeros_67 : decode cJI_numberOfTrailingZeros 67 = .ok (.iinc 1 2, 3) := by decide +kernel
theorem dJI_numberOfTrailingZeros_70 : decode cJI_numberOfTrailingZeros 70 = .ok (.iload_n 0, 1) := by decide +kernel
theorem dJI_numberOfTrailingZeros_71 : decode cJI_numberOfTrailingZeros 71 = .ok (.iconst 2, 1) := by decide +kernel
theorem dJI_numberOfTrailingZeros_72 : decode cJI_numberOfTrailingZeros 72 = .ok (.iushr, 1) := by decide +kernel
theorem dJI_numberOfTrailingZeros_73 : decode cJI_numberOfTrailingZeros 73 = .ok (.istore_n 0, 1) := by decide +kernel
theorem dJI_numberOfTrailingZeros_74 : decode cJI_numberOfTrailingZeros 74 = .ok (.iload_n 1, 1) := by decide +kernel
theorem dJI_numberOfTrailingZeros_75 : decode cJI_numberOfTrailingZeros 75 = .ok (.iload_n 0, 1) := by decide +kernel
theorem dJI_numberOfTrailingZeros_76 : decode cJI_numberOfTrailingZeros 76 = .ok (.iconst 1, 1) := by decide +kernel
theorem dJI_numberOfTrailingZeros_77 : decode cJI_numberOfTrailingZeros 77 = .ok (.iushr, 1) := by decide +kernel
theorem dJI_numberOfTrailingZeros_78 : decode cJI_numberOfTrailingZeros 78 = .ok (.iadd, 1) := by decide +kernel
theorem dJI_numberOfTrailingZeros_79 : decode cJI_numberOfTrailingZeros 79 = .ok (.ireturn, 1) := by decide +kernel
