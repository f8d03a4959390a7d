theorem dX1_init_0 : decode cX1_init 0 = .ok (.aload_n 0, 1) := by decide +kernel
theorem dX1_init_1 : decode cX1_init 1 = .ok (.invokespecial 1, 3) := by decide +kernel
theorem dX1_init_4 : decode cX1_init 4 = .ok (.aload_n 0, 1) := by decide +kernel
theorem dX1_init_5 : decode cX1_init 5 = .ok (.bipush 18, 2) := by decide +kernel
theorem dX1_init_7 : decode cX1_init 7 = .ok (.newarray .int, 2) := by decide +kernel
theorem dX1_init_9 : decode cX1_init 9 = .ok (.putfield 7, 3) := by decide +kernel
theorem dX1_init_12 : decode cX1_init 12 = .ok (.aload_n 0, 1) := by decide +kernel
theorem dX1_init_13 : decode cX1_init 13 = .ok (.sipush 7200, 3) := by decide +kernel
theorem dX1_init_16 : decode cX1_init 16 = .ok (.newarray .int, 2) := by decide +kernel
theorem dX1_init_18 : decode cX1_init 18 = .ok (.putfield 13, 3) := by decide +kernel
theorem dX1_init_21 : decode cX1_init 21 = .ok (.aload_n 0, 1) := by decide +kernel
theorem dX1_init_22 : decode cX1_init 22 = .ok (.sipush 400, 3) := by decide +kernel
theorem dX1_init_25 : decode cX1_init 25 = .ok (.newarray .int, 2) := by decide +kernel
theorem dX1_init_27 : decode cX1_init 27 = .ok (.putfield 16, 3) := by decide +kernel
theorem dX1_init_30 : decode cX1_init 30 = .ok (.aload_n 0, 1) := by decide +kernel
theorem dX1_init_31 : decode cX1_init 31 = .ok (.sipush 400, 3) := by decide +kernel
theorem dX1_init_34 : decode cX1_init 34 = .ok (.newarray .int, 2) := by decide +kernel
theorem dX1_init_36 : decode cX1_init 36 = .ok (.putfield 19, 3) := by decide +kernel
theorem dX1_init_39 : decode cX1_init 39 = .ok (.aload_n 0, 1) := by decide +kernel
theorem dX1_init_40 : decode cX1_init 40 = .ok (.bipush 18, 2) := by decide +kernel
theorem dX1_init_42 : decode cX1_init 42 = .ok (.newarray .int, 2) := by decide +kernel
theorem dX1_init_44 : decode cX1_init 44 = .ok (.putfield 22, 3) := by decide +kernel
theorem dX1_init_47 : decode cX1_init 47 = .ok (.aload_n 0, 1) := by decide +kernel
theorem dX1_init_48 : decode cX1_init 48 = .ok (.iconst (-1), 1) := by decide +kernel
theorem dX1_init_49 : decode cX1_init 49 = .ok (.putfield 25, 3) := by decide +kernel
theorem dX1_init_52 : decode cX1_init 52 = .ok (.aload_n 0, 1) := by decide +kernel
theorem dX1_init_53 : decode cX1_init 53 = .ok (.sipush 4096, 3) := by decide +kernel
theorem dX1_init_56 : decode cX1_init 56 = .ok (.newarray .long, 2) := by decide +kernel
theorem dX1_init_58 : decode cX1_init 58 = .ok (.putfield 29, 3) := by decide +kernel
theorem dX1_init_61 : decode cX1_init 61 = .ok (.aload_n 0, 1) := by decide +kernel
theorem dX1_init_62 : decode cX1_init 62 = .ok (.bipush 6, 2) := by decide +kernel
theorem dX1_init_64 : decode cX1_init 64 = .ok (.newarray .long, 2) := by decide +kernel
theorem dX1_init_66 : decode cX1_init 66 = .ok (.dup, 1) := by decide +kernel
theorem dX1_init_67 : decode cX1_init 67 = .ok (.iconst 0, 1) := by decide +kernel
theorem dX1_init_68 : decode cX1_init 68 = .ok (.ldc2_w 33, 3) := by decide +kernel
theorem dX1_init_71 : decode cX1_init 71 = .ok (.lastore, 1) := by decide +kernel
theorem dX1_init_72 : decode cX1_init 72 = .ok (.dup, 1) := by decide +kernel
theorem dX1_init_73 : decode cX1_init 73 = .ok (.iconst 1, 1) := by decide +kernel
theorem dX1_init_74 : decode cX1_init 74 = .ok (.ldc2_w 35, 3) := by decide +kernel
theorem dX1_init_77 : decode cX1_init 77 = .ok (.lastore, 1) := by decide +kernel
theorem dX1_init_78 : decode cX1_init 78 = .ok (.dup, 1) := by decide +kernel
theorem dX1_init_79 : decode cX1_init 79 = .ok (.iconst 2, 1) := by decide +kernel
theorem dX1_init_80 : decode cX1_init 80 = .ok (.ldc2_w 37, 3) := by decide +kernel
theorem dX1_init_83 : decode cX1_init 83 = .ok (.lastore, 1) := by decide +kernel
theorem dX1_init_84 : decode cX1_init 84 = .ok (.dup, 1) := by decide +kernel
theorem dX1_init_85 : decode cX1_init 85 = .ok (.iconst 3, 1) := by decide +kernel
theorem dX1_init_86 : decode cX1_init 86 = .ok (.ldc2_w 39, 3) := by decide +kernel
theorem dX1_init_89 : decode cX1_init 89 = .ok (.lastore, 1) := by decide +kernel
theorem dX1_init_90 : decode cX1_init 90 = .ok (.dup, 1) := by decide +kernel
theorem dX1_init_91 : decode cX1_init 91 = .ok (.iconst 4, 1) := by decide +kernel
theorem dX1_init_92 : decode cX1_init 92 = .ok (.ldc2_w 41, 3) := by decide +kernel
theorem dX1_init_95 : decode cX1_init 95 = .ok (.lastore, 1) := by decide +kernel
theorem dX1_init_96 : decode cX1_init 96 = .ok (.dup, 1) := by decide +kernel
theorem dX1_init_97 : decode cX1_init 97 = .ok (.iconst 5, 1) := by decide +kernel
theorem dX1_init_98 : decode cX1_init 98 = .ok (.ldc2_w 43, 3) := by decide +kernel
theorem dX1_init_101 : decode cX1_init 101 = .ok (.lastore, 1) := by decide +kernel
theorem dX1_init_102 : decode cX1_init 102 = .ok (.putfield 45, 3) := by decide +kernel
theorem dX1_init_105 : decode cX1_init 105 = .ok (.aload_n 0, 1) := by decide +kernel
theorem dX1_init_106 : decode cX1_init 106 = .ok (.invokevirtual 48, 3) := by decide +kernel
theorem dX1_init_109 : decode cX1_init 109 = .ok (.return_, 1) := by decide +kernel
theorem dX1_thrown_0 : decode cX1_thrown 0 = .ok (.aload_n 0, 1) := by decide +kernel
theorem dX1_thrown_1 : decode cX1_thrown 1 = .ok (.getfield 51, 3) := by decide +kernel
theorem dX1_thrown_4 : decode cX1_thrown 4 = .ok (.ireturn, 1) := by decide +kernel
theorem dX1_throwing_0 : decode cX1_throwing 0 = .ok (.aload_n 0, 1) := by decide +kernel
theorem dX1_throwing_1 : decode cX1_throwing 1 = .ok (.iload_n 1, 1) := by decide +kernel
theorem dX1_throwing_2 : decode cX1_throwing 2 = .ok (.ifCond .eq 7, 3) := by decide +kernel
theorem dX1_throwing_5 : decode cX1_throwing 5 = .ok (.iconst 1, 1) := by decide +kernel
theorem dX1_throwing_6 : decode cX1_throwing 6 = .ok (.goto 12, 3) := by decide +kernel
theorem dX1_throwing_9 : decode cX1_throwing 9 = .ok (.iload_n 2, 1) := by decide +kernel
theorem dX1_throwing_10 : decode cX1_throwing 10 = .ok (.ifCond .eq 7, 3) := by decide +kernel
theorem dX1_throwing_13 : decode cX1_throwing 13 = .ok (.iconst 2, 1) := by decide +kernel
theorem dX1_throwing_14 : decode cX1_throwing 14 = .ok (.goto 4, 3) := by decide +kernel
theorem dX1_throwing_17 : decode cX1_throwing 17 = .ok (.iconst 0, 1) := by decide +kernel
theorem dX1_throwing_18 : decode cX1_throwing 18 = .ok (.putfield 51, 3) := by decide +kernel
theorem dX1_throwing_21 : decode cX1_throwing 21 = .ok (.aload_n 0, 1) := by decide +kernel
theorem dX1_throwing_22 : decode cX1_throwing 22 = .ok (.getfield 51, 3) := by decide +kernel
theorem dX1_throwing_25 : decode cX1_throwing 25 = .ok (.ifCond .le 7, 3) := by decide +kernel
theorem dX1_throwing_28 : decode cX1_throwing 28 = .ok (.iconst 1, 1) := by decide +kernel
theorem dX1_throwing_29 : decode cX1_throwing 29 = .ok (.goto 4, 3) := by decide +kernel
theorem dX1_throwing_32 : decode cX1_throwing 32 = .ok (.iconst 0, 1) := by decide +kernel
theorem dX1_throwing_33 : decode cX1_throwing 33 = .ok (.ireturn, 1) := by decide +kernel
theorem dX1_isLiteral_0 : decode cX1_isLiteral 0 = .ok (.iload_n 0, 1) := by decide +kernel
theorem dX1_isLiteral_1 : decode cX1_isLiteral 1 = .ok (.ifCond .eq 19, 3) := by decide +kernel
theorem dX1_isLiteral_4 : decode cX1_isLiteral 4 = .ok (.iload_n 0, 1) := by decide +kernel
theorem dX1_isLiteral_5 : decode cX1_isLiteral 5 = .ok (.bipush (-18), 2) := by decide +kernel
theorem dX1_isLiteral_7 : decode cX1_isLiteral 7 = .ok (.if_icmp .lt 13, 3) := by decide +kernel
theorem dX1_isLiteral_10 : decode cX1_isLiteral 10 = .ok (.iload_n 0, 1) := by decide +kernel
theorem dX1_isLiteral_11 : decode cX1_isLiteral 11 = .ok (.bipush 18, 2) := by decide +kernel
theorem dX1_isLiteral_13 : decode cX1_isLiteral 13 = .ok (.if_icmp .gt 7, 3) := by decide +kernel
theorem dX1_isLiteral_16 : decode cX1_isLiteral 16 = .ok (.iconst 1, 1) := by decide +kernel
theorem dX1_isLiteral_17 : decode cX1_isLiteral 17 = .ok (.goto 4, 3) := by decide +kernel
theorem dX1_isLiteral_20 : decode cX1_isLiteral 20 = .ok (.iconst 0, 1) := by decide +kernel
theorem dX1_isLiteral_21 : decode cX1_isLiteral 21 = .ok (.ireturn, 1) := by decide +kernel
theorem dX1_truth_0 : decode cX1_truth 0 = .ok (.iload_n 1, 1) := by decide +kernel
theorem dX1_truth_1 : decode cX1_truth 1 = .ok (.ifCond .ge 8, 3) := by decide +kernel
theorem dX1_truth_4 : decode cX1_truth 4 = .ok (.iload_n 1, 1) := by decide +kernel
theorem dX1_truth_5 : decode cX1_truth 5 = .ok (.ineg, 1) := by decide +kernel
theorem dX1_truth_6 : decode cX1_truth 6 = .ok (.goto 4, 3) := by decide +kernel
theorem dX1_truth_9 : decode cX1_truth 9 = .ok (.iload_n 1, 1) := by decide +kernel
theorem dX1_truth_10 : decode cX1_truth 10 = .ok (.istore_n 3, 1) := by decide +kernel
theorem dX1_truth_11 : decode cX1_truth 11 = .ok (.iload_n 3, 1) := by decide +kernel
theorem dX1_truth_12 : decode cX1_truth 12 = .ok (.bipush 7, 2) := by decide +kernel
theorem dX1_truth_14 : decode cX1_truth 14 = .ok (.if_icmp .ge 14, 3) := by decide +kernel
theorem dX1_truth_17 : decode cX1_truth 17 = .ok (.aload_n 0, 1) := by decide +kernel
theorem dX1_truth_18 : decode cX1_truth 18 = .ok (.getfield 45, 3) := by decide +kernel
theorem dX1_truth_21 : decode cX1_truth 21 = .ok (.iload_n 3, 1) := by decide +kernel
theorem dX1_truth_22 : decode cX1_truth 22 = .ok (.iconst 1, 1) := by decide +kernel
theorem dX1_truth_23 : decode cX1_truth 23 = .ok (.isub, 1) := by decide +kernel
theorem dX1_truth_24 : decode cX1_truth 24 = .ok (.laload, 1) := by decide +kernel
theorem dX1_truth_25 : decode cX1_truth 25 = .ok (.goto 22, 3) := by decide +kernel
theorem dX1_truth_28 : decode cX1_truth 28 = .ok (.iload_n 2, 1) := by decide +kernel
theorem dX1_truth_29 : decode cX1_truth 29 = .ok (.iload_n 3, 1) := by decide +kernel
theorem dX1_truth_30 : decode cX1_truth 30 = .ok (.bipush 7, 2) := by decide +kernel
theorem dX1_truth_32 : decode cX1_truth 32 = .ok (.isub, 1) := by decide +kernel
theorem dX1_truth_33 : decode cX1_truth 33 = .ok (.ishr, 1) := by decide +kernel
theorem dX1_truth_34 : decode cX1_truth 34 = .ok (.iconst 1, 1) := by decide +kernel
theorem dX1_truth_35 : decode cX1_truth 35 = .ok (.iand, 1) := by decide +kernel
theorem dX1_truth_36 : decode cX1_truth 36 = .ok (.iconst 1, 1) := by decide +kernel
theorem dX1_truth_37 : decode cX1_truth 37 = .ok (.if_icmp .ne 9, 3) := by decide +kernel
theorem dX1_truth_40 : decode cX1_truth 40 = .ok (.ldc2_w 54, 3) := by decide +kernel
theorem dX1_truth_43 : decode cX1_truth 43 = .ok (.goto 4, 3) := by decide +kernel
theorem dX1_truth_46 : decode cX1_truth 46 = .ok (.lconst 0, 1) := by decide +kernel
theorem dX1_truth_47 : decode cX1_truth 47 = .ok (.lstore 4, 2) := by decide +kernel
theorem dX1_truth_49 : decode cX1_truth 49 = .ok (.iload_n 1, 1) := by decide +kernel
theorem dX1_truth_50 : decode cX1_truth 50 = .ok (.ifCond .ge 12, 3) := by decide +kernel
theorem dX1_truth_53 : decode cX1_truth 53 = .ok (.lload 4, 2) := by decide +kernel
theorem dX1_truth_55 : decode cX1_truth 55 = .ok (.ldc2_w 54, 3) := by decide +kernel
theorem dX1_truth_58 : decode cX1_truth 58 = .ok (.lxor, 1) := by decide +kernel
theorem dX1_truth_59 : decode cX1_truth 59 = .ok (.goto 5, 3) := by decide +kernel
theorem dX1_truth_62 : decode cX1_truth 62 = .ok (.lload 4, 2) := by decide +kernel
theorem dX1_truth_64 : decode cX1_truth 64 = .ok (.lreturn, 1) := by decide +kernel
theorem dX1_apply_0 : decode cX1_apply 0 = .ok (.iconst 0, 1) := by decide +kernel
theorem dX1_apply_1 : decode cX1_apply 1 = .ok (.istore_n 2, 1) := by decide +kernel
theorem dX1_apply_2 : decode cX1_apply 2 = .ok (.iload_n 2, 1) := by decide +kernel
theorem dX1_apply_3 : decode cX1_apply 3 = .ok (.sipush 4096, 3) := by decide +kernel
theorem dX1_apply_6 : decode cX1_apply 6 = .ok (.if_icmp .ge 61, 3) := by decide +kernel
theorem dX1_apply_9 : decode cX1_apply 9 = .ok (.lconst 0, 1) := by decide +kernel
theorem dX1_apply_10 : decode cX1_apply 10 = .ok (.lstore_n 3, 1) := by decide +kernel
theorem dX1_apply_11 : decode cX1_apply 11 = .ok (.iconst 0, 1) := by decide +kernel
theorem dX1_apply_12 : decode cX1_apply 12 = .ok (.istore 5, 2) := by decide +kernel
theorem dX1_apply_14 : decode cX1_apply 14 = .ok (.iload 5, 2) := by decide +kernel
theorem dX1_apply_16 : decode cX1_apply 16 = .ok (.aload_n 0, 1) := by decide +kernel
theorem dX1_apply_17 : decode cX1_apply 17 = .ok (.getfield 16, 3) := by decide +kernel
theorem dX1_apply_20 : decode cX1_apply 20 = .ok (.iload_n 1, 1) := by decide +kernel
theorem dX1_apply_21 : decode cX1_apply 21 = .ok (.iaload, 1) := by decide +kernel
theorem dX1_apply_22 : decode cX1_apply 22 = .ok (.if_icmp .ge 29, 3) := by decide +kernel
theorem dX1_apply_25 : decode cX1_apply 25 = .ok (.lload_n 3, 1) := by decide +kernel
theorem dX1_apply_26 : decode cX1_apply 26 = .ok (.aload_n 0, 1) := by decide +kernel
theorem dX1_apply_27 : decode cX1_apply 27 = .ok (.aload_n 0, 1) := by decide +kernel
theorem dX1_apply_28 : decode cX1_apply 28 = .ok (.getfield 13, 3) := by decide +kernel
theorem dX1_apply_31 : decode cX1_apply 31 = .ok (.bipush 18, 2) := by decide +kernel
theorem dX1_apply_33 : decode cX1_apply 33 = .ok (.iload_n 1, 1) := by decide +kernel
theorem dX1_apply_34 : decode cX1_apply 34 = .ok (.imul, 1) := by decide +kernel
theorem dX1_apply_35 : decode cX1_apply 35 = .ok (.iload 5, 2) := by decide +kernel
theorem dX1_apply_37 : decode cX1_apply 37 = .ok (.iadd, 1) := by decide +kernel
theorem dX1_apply_38 : decode cX1_apply 38 = .ok (.iaload, 1) := by decide +kernel
theorem dX1_apply_39 : decode cX1_apply 39 = .ok (.iload_n 2, 1) := by decide +kernel
theorem dX1_apply_40 : decode cX1_apply 40 = .ok (.invokevirtual 56, 3) := by decide +kernel
theorem dX1_apply_43 : decode cX1_apply 43 = .ok (.lor, 1) := by decide +kernel
theorem dX1_apply_44 : decode cX1_apply 44 = .ok (.lstore_n 3, 1) := by decide +kernel
theorem dX1_apply_45 : decode cX1_apply 45 = .ok (.iinc 5 1, 3) := by decide +kernel
theorem dX1_apply_48 : decode cX1_apply 48 = .ok (.goto (-34), 3) := by decide +kernel
theorem dX1_apply_51 : decode cX1_apply 51 = .ok (.aload_n 0, 1) := by decide +kernel
theorem dX1_apply_52 : decode cX1_apply 52 = .ok (.getfield 29, 3) := by decide +kernel
theorem dX1_apply_55 : decode cX1_apply 55 = .ok (.iload_n 2, 1) := by decide +kernel
theorem dX1_apply_56 : decode cX1_apply 56 = .ok (.dup2, 1) := by decide +kernel
theorem dX1_apply_57 : decode cX1_apply 57 = .ok (.laload, 1) := by decide +kernel
theorem dX1_apply_58 : decode cX1_apply 58 = .ok (.lload_n 3, 1) := by decide +kernel
theorem dX1_apply_59 : decode cX1_apply 59 = .ok (.land, 1) := by decide +kernel
theorem dX1_apply_60 : decode cX1_apply 60 = .ok (.lastore, 1) := by decide +kernel
theorem dX1_apply_61 : decode cX1_apply 61 = .ok (.iinc 2 1, 3) := by decide +kernel
theorem dX1_apply_64 : decode cX1_apply 64 = .ok (.goto (-62), 3) := by decide +kernel
theorem dX1_apply_67 : decode cX1_apply 67 = .ok (.return_, 1) := by decide +kernel
theorem dX1_renew_0 : decode cX1_renew 0 = .ok (.iconst 0, 1) := by decide +kernel
theorem dX1_renew_1 : decode cX1_renew 1 = .ok (.istore_n 1, 1) := by decide +kernel
theorem dX1_renew_2 : decode cX1_renew 2 = .ok (.iload_n 1, 1) := by decide +kernel
theorem dX1_renew_3 : decode cX1_renew 3 = .ok (.sipush 4096, 3) := by decide +kernel
theorem dX1_renew_6 : decode cX1_renew 6 = .ok (.if_icmp .ge 18, 3) := by decide +kernel
theorem dX1_renew_9 : decode cX1_renew 9 = .ok (.aload_n 0, 1) := by decide +kernel
theorem dX1_renew_10 : decode cX1_renew 10 = .ok (.getfield 29, 3) := by decide +kernel
theorem dX1_renew_13 : decode cX1_renew 13 = .ok (.iload_n 1, 1) := by decide +kernel
theorem dX1_renew_14 : decode cX1_renew 14 = .ok (.ldc2_w 54, 3) := by decide +kernel
theorem dX1_renew_17 : decode cX1_renew 17 = .ok (.lastore, 1) := by decide +kernel
theorem dX1_renew_18 : decode cX1_renew 18 = .ok (.iinc 1 1, 3) := by decide +kernel
theorem dX1_renew_21 : decode cX1_renew 21 = .ok (.goto (-19), 3) := by decide +kernel
theorem dX1_renew_24 : decode cX1_renew 24 = .ok (.iconst 0, 1) := by decide +kernel
theorem dX1_renew_25 : decode cX1_renew 25 = .ok (.istore_n 1, 1) := by decide +kernel
theorem dX1_renew_26 : decode cX1_renew 26 = .ok (.iload_n 1, 1) := by decide +kernel
theorem dX1_renew_27 : decode cX1_renew 27 = .ok (.aload_n 0, 1) := by decide +kernel
theorem dX1_renew_28 : decode cX1_renew 28 = .ok (.getfield 60, 3) := by decide +kernel
theorem dX1_renew_31 : decode cX1_renew 31 = .ok (.if_icmp .ge 14, 3) := by decide +kernel
theorem dX1_renew_34 : decode cX1_renew 34 = .ok (.aload_n 0, 1) := by decide +kernel
theorem dX1_renew_35 : decode cX1_renew 35 = .ok (.iload_n 1, 1) := by decide +kernel
theorem dX1_renew_36 : decode cX1_renew 36 = .ok (.invokevirtual 63, 3) := by decide +kernel
theorem dX1_renew_39 : decode cX1_renew 39 = .ok (.iinc 1 1, 3) := by decide +kernel
theorem dX1_renew_42 : decode cX1_renew 42 = .ok (.goto (-16), 3) := by decide +kernel
theorem dX1_renew_45 : decode cX1_renew 45 = .ok (.return_, 1) := by decide +kernel
theorem dX1_word_0 : decode cX1_word 0 = .ok (.aload_n 0, 1) := by decide +kernel
theorem dX1_word_1 : decode cX1_word 1 = .ok (.getfield 29, 3) := by decide +kernel
theorem dX1_word_4 : decode cX1_word 4 = .ok (.iload_n 1, 1) := by decide +kernel
theorem dX1_word_5 : decode cX1_word 5 = .ok (.laload, 1) := by decide +kernel
theorem dX1_word_6 : decode cX1_word 6 = .ok (.lstore_n 3, 1) := by decide +kernel
theorem dX1_word_7 : decode cX1_word 7 = .ok (.iconst 0, 1) := by decide +kernel
theorem dX1_word_8 : decode cX1_word 8 = .ok (.istore 5, 2) := by decide +kernel
theorem dX1_word_10 : decode cX1_word 10 = .ok (.iload 5, 2) := by decide +kernel
theorem dX1_word_12 : decode cX1_word 12 = .ok (.aload_n 0, 1) := by decide +kernel
theorem dX1_word_13 : decode cX1_word 13 = .ok (.getfield 67, 3) := by decide +kernel
theorem dX1_word_16 : decode cX1_word 16 = .ok (.if_icmp .ge 36, 3) := by decide +kernel
theorem dX1_word_19 : decode cX1_word 19 = .ok (.lload_n 3, 1) := by decide +kernel
theorem dX1_word_20 : decode cX1_word 20 = .ok (.iload 5, 2) := by decide +kernel
theorem dX1_word_22 : decode cX1_word 22 = .ok (.iload_n 2, 1) := by decide +kernel
theorem dX1_word_23 : decode cX1_word 23 = .ok (.if_icmp .ne 9, 3) := by decide +kernel
theorem dX1_word_26 : decode cX1_word 26 = .ok (.ldc2_w 54, 3) := by decide +kernel
theorem dX1_word_29 : decode cX1_word 29 = .ok (.goto 15, 3) := by decide +kernel
theorem dX1_word_32 : decode cX1_word 32 = .ok (.aload_n 0, 1) := by decide +kernel
theorem dX1_word_33 : decode cX1_word 33 = .ok (.aload_n 0, 1) := by decide +kernel
theorem dX1_word_34 : decode cX1_word 34 = .ok (.getfield 22, 3) := by decide +kernel
theorem dX1_word_37 : decode cX1_word 37 = .ok (.iload 5, 2) := by decide +kernel
theorem dX1_word_39 : decode cX1_word 39 = .ok (.iaload, 1) := by decide +kernel
theorem dX1_word_40 : decode cX1_word 40 = .ok (.iload_n 1, 1) := by decide +kernel
theorem dX1_word_41 : decode cX1_word 41 = .ok (.invokevirtual 56, 3) := by decide +kernel
theorem dX1_word_44 : decode cX1_word 44 = .ok (.land, 1) := by decide +kernel
theorem dX1_word_45 : decode cX1_word 45 = .ok (.lstore_n 3, 1) := by decide +kernel
theorem dX1_word_46 : decode cX1_word 46 = .ok (.iinc 5 1, 3) := by decide +kernel
theorem dX1_word_49 : decode cX1_word 49 = .ok (.goto (-39), 3) := by decide +kernel
theorem dX1_word_52 : decode cX1_word 52 = .ok (.lload_n 3, 1) := by decide +kernel
theorem dX1_word_53 : decode cX1_word 53 = .ok (.lreturn, 1) := by decide +kernel
theorem dX1_some_0 : decode cX1_some 0 = .ok (.iconst 0, 1) := by decide +kernel
theorem dX1_some_1 : decode cX1_some 1 = .ok (.istore_n 2, 1) := by decide +kernel
theorem dX1_some_2 : decode cX1_some 2 = .ok (.iconst 0, 1) := by decide +kernel
theorem dX1_some_3 : decode cX1_some 3 = .ok (.istore_n 3, 1) := by decide +kernel
theorem dX1_some_4 : decode cX1_some 4 = .ok (.iload_n 3, 1) := by decide +kernel
theorem dX1_some_5 : decode cX1_some 5 = .ok (.sipush 4096, 3) := by decide +kernel
theorem dX1_some_8 : decode cX1_some 8 = .ok (.if_icmp .ge 30, 3) := by decide +kernel
theorem dX1_some_11 : decode cX1_some 11 = .ok (.iload_n 2, 1) := by decide +kernel
theorem dX1_some_12 : decode cX1_some 12 = .ok (.ifCond .ne 26, 3) := by decide +kernel
theorem dX1_some_15 : decode cX1_some 15 = .ok (.aload_n 0, 1) := by decide +kernel
theorem dX1_some_16 : decode cX1_some 16 = .ok (.iload_n 3, 1) := by decide +kernel
theorem dX1_some_17 : decode cX1_some 17 = .ok (.iload_n 1, 1) := by decide +kernel
theorem dX1_some_18 : decode cX1_some 18 = .ok (.invokevirtual 70, 3) := by decide +kernel
theorem dX1_some_21 : decode cX1_some 21 = .ok (.lconst 0, 1) := by decide +kernel
theorem dX1_some_22 : decode cX1_some 22 = .ok (.lcmp, 1) := by decide +kernel
theorem dX1_some_23 : decode cX1_some 23 = .ok (.ifCond .eq 7, 3) := by decide +kernel
theorem dX1_some_26 : decode cX1_some 26 = .ok (.iconst 1, 1) := by decide +kernel
theorem dX1_some_27 : decode cX1_some 27 = .ok (.goto 4, 3) := by decide +kernel
theorem dX1_some_30 : decode cX1_some 30 = .ok (.iconst 0, 1) := by decide +kernel
theorem dX1_some_31 : decode cX1_some 31 = .ok (.istore_n 2, 1) := by decide +kernel
theorem dX1_some_32 : decode cX1_some 32 = .ok (.iinc 3 1, 3) := by decide +kernel
theorem dX1_some_35 : decode cX1_some 35 = .ok (.goto (-31), 3) := by decide +kernel
theorem dX1_some_38 : decode cX1_some 38 = .ok (.iload_n 2, 1) := by decide +kernel
theorem dX1_some_39 : decode cX1_some 39 = .ok (.ireturn, 1) := by decide +kernel
theorem dX1_from_0 : decode cX1_from 0 = .ok (.iload_n 1, 1) := by decide +kernel
theorem dX1_from_1 : decode cX1_from 1 = .ok (.bipush 6, 2) := by decide +kernel
theorem dX1_from_3 : decode cX1_from 3 = .ok (.ishr, 1) := by decide +kernel
theorem dX1_from_4 : decode cX1_from 4 = .ok (.istore_n 2, 1) := by decide +kernel
theorem dX1_from_5 : decode cX1_from 5 = .ok (.iload_n 2, 1) := by decide +kernel
theorem dX1_from_6 : decode cX1_from 6 = .ok (.sipush 4096, 3) := by decide +kernel
theorem dX1_from_9 : decode cX1_from 9 = .ok (.if_icmp .ge 68, 3) := by decide +kernel
theorem dX1_from_12 : decode cX1_from 12 = .ok (.aload_n 0, 1) := by decide +kernel
theorem dX1_from_13 : decode cX1_from 13 = .ok (.iload_n 2, 1) := by decide +kernel
theorem dX1_from_14 : decode cX1_from 14 = .ok (.iconst (-1), 1) := by decide +kernel
theorem dX1_from_15 : decode cX1_from 15 = .ok (.invokevirtual 70, 3) := by decide +kernel
theorem dX1_from_18 : decode cX1_from 18 = .ok (.lstore_n 3, 1) := by decide +kernel
theorem dX1_from_19 : decode cX1_from 19 = .ok (.iconst 0, 1) := by decide +kernel
theorem dX1_from_20 : decode cX1_from 20 = .ok (.istore 5, 2) := by decide +kernel
theorem dX1_from_22 : decode cX1_from 22 = .ok (.iload 5, 2) := by decide +kernel
theorem dX1_from_24 : decode cX1_from 24 = .ok (.bipush 64, 2) := by decide +kernel
theorem dX1_from_26 : decode cX1_from 26 = .ok (.if_icmp .ge 45, 3) := by decide +kernel
theorem dX1_from_29 : decode cX1_from 29 = .ok (.lload_n 3, 1) := by decide +kernel
theorem dX1_from_30 : decode cX1_from 30 = .ok (.lconst 0, 1) := by decide +kernel
theorem dX1_from_31 : decode cX1_from 31 = .ok (.lcmp, 1) := by decide +kernel
theorem dX1_from_32 : decode cX1_from 32 = .ok (.ifCond .eq 39, 3) := by decide +kernel
theorem dX1_from_35 : decode cX1_from 35 = .ok (.lload_n 3, 1) := by decide +kernel
theorem dX1_from_36 : decode cX1_from 36 = .ok (.iload 5, 2) := by decide +kernel
theorem dX1_from_38 : decode cX1_from 38 = .ok (.lushr, 1) := by decide +kernel
theorem dX1_from_39 : decode cX1_from 39 = .ok (.lconst 1, 1) := by decide +kernel
theorem dX1_from_40 : decode cX1_from 40 = .ok (.land, 1) := by decide +kernel
theorem dX1_from_41 : decode cX1_from 41 = .ok (.lconst 1, 1) := by decide +kernel
theorem dX1_from_42 : decode cX1_from 42 = .ok (.lcmp, 1) := by decide +kernel
theorem dX1_from_43 : decode cX1_from 43 = .ok (.ifCond .ne 22, 3) := by decide +kernel
theorem dX1_from_46 : decode cX1_from 46 = .ok (.bipush 64, 2) := by decide +kernel
theorem dX1_from_48 : decode cX1_from 48 = .ok (.iload_n 2, 1) := by decide +kernel
theorem dX1_from_49 : decode cX1_from 49 = .ok (.imul, 1) := by decide +kernel
theorem dX1_from_50 : decode cX1_from 50 = .ok (.iload 5, 2) := by decide +kernel
theorem dX1_from_52 : decode cX1_from 52 = .ok (.iadd, 1) := by decide +kernel
theorem dX1_from_53 : decode cX1_from 53 = .ok (.iload_n 1, 1) := by decide +kernel
theorem dX1_from_54 : decode cX1_from 54 = .ok (.if_icmp .lt 11, 3) := by decide +kernel
theorem dX1_from_57 : decode cX1_from 57 = .ok (.bipush 64, 2) := by decide +kernel
theorem dX1_from_59 : decode cX1_from 59 = .ok (.iload_n 2, 1) := by decide +kernel
theorem dX1_from_60 : decode cX1_from 60 = .ok (.imul, 1) := by decide +kernel
theorem dX1_from_61 : decode cX1_from 61 = .ok (.iload 5, 2) := by decide +kernel
theorem dX1_from_63 : decode cX1_from 63 = .ok (.iadd, 1) := by decide +kernel
theorem dX1_from_64 : decode cX1_from 64 = .ok (.ireturn, 1) := by decide +kernel
theorem dX1_from_65 : decode cX1_from 65 = .ok (.iinc 5 1, 3) := by decide +kernel
theorem dX1_from_68 : decode cX1_from 68 = .ok (.goto (-46), 3) := by decide +kernel
theorem dX1_from_71 : decode cX1_from 71 = .ok (.iinc 2 1, 3) := by decide +kernel
theorem dX1_from_74 : decode cX1_from 74 = .ok (.goto (-69), 3) := by decide +kernel
theorem dX1_from_77 : decode cX1_from 77 = .ok (.iconst (-1), 1) := by decide +kernel
theorem dX1_from_78 : decode cX1_from 78 = .ok (.ireturn, 1) := by decide +kernel
theorem dX1_put_0 : decode cX1_put 0 = .ok (.aload_n 0, 1) := by decide +kernel
theorem dX1_put_1 : decode cX1_put 1 = .ok (.iload_n 1, 1) := by decide +kernel
theorem dX1_put_2 : decode cX1_put 2 = .ok (.invokestatic 73, 3) := by decide +kernel
theorem dX1_put_5 : decode cX1_put 5 = .ok (.ifCond .ne 7, 3) := by decide +kernel
theorem dX1_put_8 : decode cX1_put 8 = .ok (.iconst 1, 1) := by decide +kernel
theorem dX1_put_9 : decode cX1_put 9 = .ok (.goto 4, 3) := by decide +kernel
theorem dX1_put_12 : decode cX1_put 12 = .ok (.iconst 0, 1) := by decide +kernel
theorem dX1_put_13 : decode cX1_put 13 = .ok (.aload_n 0, 1) := by decide +kernel
theorem dX1_put_14 : decode cX1_put 14 = .ok (.getfield 77, 3) := by decide +kernel
theorem dX1_put_17 : decode cX1_put 17 = .ok (.bipush 18, 2) := by decide +kernel
theorem dX1_put_19 : decode cX1_put 19 = .ok (.if_icmp .ne 7, 3) := by decide +kernel
theorem dX1_put_22 : decode cX1_put 22 = .ok (.iconst 1, 1) := by decide +kernel
theorem dX1_put_23 : decode cX1_put 23 = .ok (.goto 4, 3) := by decide +kernel
theorem dX1_put_26 : decode cX1_put 26 = .ok (.iconst 0, 1) := by decide +kernel
theorem dX1_put_27 : decode cX1_put 27 = .ok (.invokevirtual 80, 3) := by decide +kernel
theorem dX1_put_30 : decode cX1_put 30 = .ok (.ifCond .eq 5, 3) := by decide +kernel
theorem dX1_put_33 : decode cX1_put 33 = .ok (.iconst 0, 1) := by decide +kernel
theorem dX1_put_34 : decode cX1_put 34 = .ok (.ireturn, 1) := by decide +kernel
theorem dX1_put_35 : decode cX1_put 35 = .ok (.aload_n 0, 1) := by decide +kernel
theorem dX1_put_36 : decode cX1_put 36 = .ok (.getfield 7, 3) := by decide +kernel
theorem dX1_put_39 : decode cX1_put 39 = .ok (.aload_n 0, 1) := by decide +kernel
theorem dX1_put_40 : decode cX1_put 40 = .ok (.getfield 77, 3) := by decide +kernel
theorem dX1_put_43 : decode cX1_put 43 = .ok (.iload_n 1, 1) := by decide +kernel
theorem dX1_put_44 : decode cX1_put 44 = .ok (.iastore, 1) := by decide +kernel
theorem dX1_put_45 : decode cX1_put 45 = .ok (.aload_n 0, 1) := by decide +kernel
theorem dX1_put_46 : decode cX1_put 46 = .ok (.dup, 1) := by decide +kernel
theorem dX1_put_47 : decode cX1_put 47 = .ok (.getfield 77, 3) := by decide +kernel
theorem dX1_put_50 : decode cX1_put 50 = .ok (.iconst 1, 1) := by decide +kernel
theorem dX1_put_51 : decode cX1_put 51 = .ok (.iadd, 1) := by decide +kernel
theorem dX1_put_52 : decode cX1_put 52 = .ok (.putfield 77, 3) := by decide +kernel
theorem dX1_put_55 : decode cX1_put 55 = .ok (.aload_n 0, 1) := by decide +kernel
theorem dX1_put_56 : decode cX1_put 56 = .ok (.getfield 77, 3) := by decide +kernel
theorem dX1_put_59 : decode cX1_put 59 = .ok (.ireturn, 1) := by decide +kernel
theorem dX1_add_0 : decode cX1_add 0 = .ok (.aload_n 0, 1) := by decide +kernel
theorem dX1_add_1 : decode cX1_add 1 = .ok (.aload_n 0, 1) := by decide +kernel
theorem dX1_add_2 : decode cX1_add 2 = .ok (.getfield 60, 3) := by decide +kernel
theorem dX1_add_5 : decode cX1_add 5 = .ok (.sipush 400, 3) := by decide +kernel
theorem dX1_add_8 : decode cX1_add 8 = .ok (.if_icmp .ne 7, 3) := by decide +kernel
theorem dX1_add_11 : decode cX1_add 11 = .ok (.iconst 1, 1) := by decide +kernel
theorem dX1_add_12 : decode cX1_add 12 = .ok (.goto 4, 3) := by decide +kernel
theorem dX1_add_15 : decode cX1_add 15 = .ok (.iconst 0, 1) := by decide +kernel
theorem dX1_add_16 : decode cX1_add 16 = .ok (.iconst 0, 1) := by decide +kernel
theorem dX1_add_17 : decode cX1_add 17 = .ok (.invokevirtual 80, 3) := by decide +kernel
theorem dX1_add_20 : decode cX1_add 20 = .ok (.ifCond .eq 5, 3) := by decide +kernel
theorem dX1_add_23 : decode cX1_add 23 = .ok (.iconst 0, 1) := by decide +kernel
theorem dX1_add_24 : decode cX1_add 24 = .ok (.ireturn, 1) := by decide +kernel
theorem dX1_add_25 : decode cX1_add 25 = .ok (.iconst 0, 1) := by decide +kernel
theorem dX1_add_26 : decode cX1_add 26 = .ok (.istore_n 1, 1) := by decide +kernel
theorem dX1_add_27 : decode cX1_add 27 = .ok (.iload_n 1, 1) := by decide +kernel
theorem dX1_add_28 : decode cX1_add 28 = .ok (.aload_n 0, 1) := by decide +kernel
theorem dX1_add_29 : decode cX1_add 29 = .ok (.getfield 77, 3) := by decide +kernel
theorem dX1_add_32 : decode cX1_add 32 = .ok (.if_icmp .ge 29, 3) := by decide +kernel
theorem dX1_add_35 : decode cX1_add 35 = .ok (.aload_n 0, 1) := by decide +kernel
theorem dX1_add_36 : decode cX1_add 36 = .ok (.getfield 13, 3) := by decide +kernel
theorem dX1_add_39 : decode cX1_add 39 = .ok (.bipush 18, 2) := by decide +kernel
theorem dX1_add_41 : decode cX1_add 41 = .ok (.aload_n 0, 1) := by decide +kernel
theorem dX1_add_42 : decode cX1_add 42 = .ok (.getfield 60, 3) := by decide +kernel
theorem dX1_add_45 : decode cX1_add 45 = .ok (.imul, 1) := by decide +kernel
theorem dX1_add_46 : decode cX1_add 46 = .ok (.iload_n 1, 1) := by decide +kernel
theorem dX1_add_47 : decode cX1_add 47 = .ok (.iadd, 1) := by decide +kernel
theorem dX1_add_48 : decode cX1_add 48 = .ok (.aload_n 0, 1) := by decide +kernel
theorem dX1_add_49 : decode cX1_add 49 = .ok (.getfield 7, 3) := by decide +kernel
theorem dX1_add_52 : decode cX1_add 52 = .ok (.iload_n 1, 1) := by decide +kernel
theorem dX1_add_53 : decode cX1_add 53 = .ok (.iaload, 1) := by decide +kernel
theorem dX1_add_54 : decode cX1_add 54 = .ok (.iastore, 1) := by decide +kernel
theorem dX1_add_55 : decode cX1_add 55 = .ok (.iinc 1 1, 3) := by decide +kernel
theorem dX1_add_58 : decode cX1_add 58 = .ok (.goto (-31), 3) := by decide +kernel
theorem dX1_add_61 : decode cX1_add 61 = .ok (.aload_n 0, 1) := by decide +kernel
theorem dX1_add_62 : decode cX1_add 62 = .ok (.getfield 16, 3) := by decide +kernel
theorem dX1_add_65 : decode cX1_add 65 = .ok (.aload_n 0, 1) := by decide +kernel
theorem dX1_add_66 : decode cX1_add 66 = .ok (.getfield 60, 3) := by decide +kernel
theorem dX1_add_69 : decode cX1_add 69 = .ok (.aload_n 0, 1) := by decide +kernel
theorem dX1_add_70 : decode cX1_add 70 = .ok (.getfield 77, 3) := by decide +kernel
theorem dX1_add_73 : decode cX1_add 73 = .ok (.iastore, 1) := by decide +kernel
theorem dX1_add_74 : decode cX1_add 74 = .ok (.aload_n 0, 1) := by decide +kernel
theorem dX1_add_75 : decode cX1_add 75 = .ok (.getfield 19, 3) := by decide +kernel
theorem dX1_add_78 : decode cX1_add 78 = .ok (.aload_n 0, 1) := by decide +kernel
theorem dX1_add_79 : decode cX1_add 79 = .ok (.getfield 60, 3) := by decide +kernel
theorem dX1_add_82 : decode cX1_add 82 = .ok (.aload_n 0, 1) := by decide +kernel
theorem dX1_add_83 : decode cX1_add 83 = .ok (.getfield 84, 3) := by decide +kernel
theorem dX1_add_86 : decode cX1_add 86 = .ok (.iastore, 1) := by decide +kernel
theorem dX1_add_87 : decode cX1_add 87 = .ok (.aload_n 0, 1) := by decide +kernel
theorem dX1_add_88 : decode cX1_add 88 = .ok (.iconst 0, 1) := by decide +kernel
theorem dX1_add_89 : decode cX1_add 89 = .ok (.putfield 77, 3) := by decide +kernel
theorem dX1_add_92 : decode cX1_add 92 = .ok (.aload_n 0, 1) := by decide +kernel
theorem dX1_add_93 : decode cX1_add 93 = .ok (.aload_n 0, 1) := by decide +kernel
theorem dX1_add_94 : decode cX1_add 94 = .ok (.getfield 60, 3) := by decide +kernel
theorem dX1_add_97 : decode cX1_add 97 = .ok (.invokevirtual 63, 3) := by decide +kernel
theorem dX1_add_100 : decode cX1_add 100 = .ok (.aload_n 0, 1) := by decide +kernel
theorem dX1_add_101 : decode cX1_add 101 = .ok (.dup, 1) := by decide +kernel
theorem dX1_add_102 : decode cX1_add 102 = .ok (.getfield 60, 3) := by decide +kernel
theorem dX1_add_105 : decode cX1_add 105 = .ok (.iconst 1, 1) := by decide +kernel
theorem dX1_add_106 : decode cX1_add 106 = .ok (.iadd, 1) := by decide +kernel
theorem dX1_add_107 : decode cX1_add 107 = .ok (.putfield 60, 3) := by decide +kernel
theorem dX1_add_110 : decode cX1_add 110 = .ok (.aload_n 0, 1) := by decide +kernel
theorem dX1_add_111 : decode cX1_add 111 = .ok (.iconst (-1), 1) := by decide +kernel
theorem dX1_add_112 : decode cX1_add 112 = .ok (.putfield 25, 3) := by decide +kernel
theorem dX1_add_115 : decode cX1_add 115 = .ok (.aload_n 0, 1) := by decide +kernel
theorem dX1_add_116 : decode cX1_add 116 = .ok (.getfield 60, 3) := by decide +kernel
theorem dX1_add_119 : decode cX1_add 119 = .ok (.ireturn, 1) := by decide +kernel
theorem dX1_open_0 : decode cX1_open 0 = .ok (.aload_n 0, 1) := by decide +kernel
theorem dX1_open_1 : decode cX1_open 1 = .ok (.aload_n 0, 1) := by decide +kernel
theorem dX1_open_2 : decode cX1_open 2 = .ok (.getfield 84, 3) := by decide +kernel
theorem dX1_open_5 : decode cX1_open 5 = .ok (.bipush 40, 2) := by decide +kernel
theorem dX1_open_7 : decode cX1_open 7 = .ok (.if_icmp .ne 7, 3) := by decide +kernel
theorem dX1_open_10 : decode cX1_open 10 = .ok (.iconst 1, 1) := by decide +kernel
theorem dX1_open_11 : decode cX1_open 11 = .ok (.goto 4, 3) := by decide +kernel
theorem dX1_open_14 : decode cX1_open 14 = .ok (.iconst 0, 1) := by decide +kernel
theorem dX1_open_15 : decode cX1_open 15 = .ok (.iconst 0, 1) := by decide +kernel
theorem dX1_open_16 : decode cX1_open 16 = .ok (.invokevirtual 80, 3) := by decide +kernel
theorem dX1_open_19 : decode cX1_open 19 = .ok (.ifCond .eq 5, 3) := by decide +kernel
theorem dX1_open_22 : decode cX1_open 22 = .ok (.iconst 0, 1) := by decide +kernel
theorem dX1_open_23 : decode cX1_open 23 = .ok (.ireturn, 1) := by decide +kernel
theorem dX1_open_24 : decode cX1_open 24 = .ok (.aload_n 0, 1) := by decide +kernel
theorem dX1_open_25 : decode cX1_open 25 = .ok (.dup, 1) := by decide +kernel
theorem dX1_open_26 : decode cX1_open 26 = .ok (.getfield 84, 3) := by decide +kernel
theorem dX1_open_29 : decode cX1_open 29 = .ok (.iconst 1, 1) := by decide +kernel
theorem dX1_open_30 : decode cX1_open 30 = .ok (.iadd, 1) := by decide +kernel
theorem dX1_open_31 : decode cX1_open 31 = .ok (.putfield 84, 3) := by decide +kernel
theorem dX1_open_34 : decode cX1_open 34 = .ok (.aload_n 0, 1) := by decide +kernel
theorem dX1_open_35 : decode cX1_open 35 = .ok (.iconst (-1), 1) := by decide +kernel
theorem dX1_open_36 : decode cX1_open 36 = .ok (.putfield 25, 3) := by decide +kernel
theorem dX1_open_39 : decode cX1_open 39 = .ok (.aload_n 0, 1) := by decide +kernel
theorem dX1_open_40 : decode cX1_open 40 = .ok (.getfield 84, 3) := by decide +kernel
theorem dX1_open_43 : decode cX1_open 43 = .ok (.ireturn, 1) := by decide +kernel
theorem dX1_close_0 : decode cX1_close 0 = .ok (.aload_n 0, 1) := by decide +kernel
theorem dX1_close_1 : decode cX1_close 1 = .ok (.aload_n 0, 1) := by decide +kernel
theorem dX1_close_2 : decode cX1_close 2 = .ok (.getfield 84, 3) := by decide +kernel
theorem dX1_close_5 : decode cX1_close 5 = .ok (.ifCond .ne 7, 3) := by decide +kernel
theorem dX1_close_8 : decode cX1_close 8 = .ok (.iconst 1, 1) := by decide +kernel
theorem dX1_close_9 : decode cX1_close 9 = .ok (.goto 4, 3) := by decide +kernel
theorem dX1_close_12 : decode cX1_close 12 = .ok (.iconst 0, 1) := by decide +kernel
theorem dX1_close_13 : decode cX1_close 13 = .ok (.iconst 0, 1) := by decide +kernel
theorem dX1_close_14 : decode cX1_close 14 = .ok (.invokevirtual 80, 3) := by decide +kernel
theorem dX1_close_17 : decode cX1_close 17 = .ok (.ifCond .eq 5, 3) := by decide +kernel
theorem dX1_close_20 : decode cX1_close 20 = .ok (.iconst 0, 1) := by decide +kernel
theorem dX1_close_21 : decode cX1_close 21 = .ok (.ireturn, 1) := by decide +kernel
theorem dX1_close_22 : decode cX1_close 22 = .ok (.aload_n 0, 1) := by decide +kernel
theorem dX1_close_23 : decode cX1_close 23 = .ok (.getfield 60, 3) := by decide +kernel
theorem dX1_close_26 : decode cX1_close 26 = .ok (.istore_n 1, 1) := by decide +kernel
theorem dX1_close_27 : decode cX1_close 27 = .ok (.aload_n 0, 1) := by decide +kernel
theorem dX1_close_28 : decode cX1_close 28 = .ok (.getfield 60, 3) := by decide +kernel
theorem dX1_close_31 : decode cX1_close 31 = .ok (.ifCond .le 34, 3) := by decide +kernel
theorem dX1_close_34 : decode cX1_close 34 = .ok (.aload_n 0, 1) := by decide +kernel
theorem dX1_close_35 : decode cX1_close 35 = .ok (.getfield 19, 3) := by decide +kernel
theorem dX1_close_38 : decode cX1_close 38 = .ok (.aload_n 0, 1) := by decide +kernel
theorem dX1_close_39 : decode cX1_close 39 = .ok (.getfield 60, 3) := by decide +kernel
theorem dX1_close_42 : decode cX1_close 42 = .ok (.iconst 1, 1) := by decide +kernel
theorem dX1_close_43 : decode cX1_close 43 = .ok (.isub, 1) := by decide +kernel
theorem dX1_close_44 : decode cX1_close 44 = .ok (.iaload, 1) := by decide +kernel
theorem dX1_close_45 : decode cX1_close 45 = .ok (.aload_n 0, 1) := by decide +kernel
theorem dX1_close_46 : decode cX1_close 46 = .ok (.getfield 84, 3) := by decide +kernel
theorem dX1_close_49 : decode cX1_close 49 = .ok (.if_icmp .ne 16, 3) := by decide +kernel
theorem dX1_close_52 : decode cX1_close 52 = .ok (.aload_n 0, 1) := by decide +kernel
theorem dX1_close_53 : decode cX1_close 53 = .ok (.dup, 1) := by decide +kernel
theorem dX1_close_54 : decode cX1_close 54 = .ok (.getfield 60, 3) := by decide +kernel
theorem dX1_close_57 : decode cX1_close 57 = .ok (.iconst 1, 1) := by decide +kernel
theorem dX1_close_58 : decode cX1_close 58 = .ok (.isub, 1) := by decide +kernel
theorem dX1_close_59 : decode cX1_close 59 = .ok (.putfield 60, 3) := by decide +kernel
theorem dX1_close_62 : decode cX1_close 62 = .ok (.goto (-35), 3) := by decide +kernel
theorem dX1_close_65 : decode cX1_close 65 = .ok (.aload_n 0, 1) := by decide +kernel
theorem dX1_close_66 : decode cX1_close 66 = .ok (.dup, 1) := by decide +kernel
theorem dX1_close_67 : decode cX1_close 67 = .ok (.getfield 84, 3) := by decide +kernel
theorem dX1_close_70 : decode cX1_close 70 = .ok (.iconst 1, 1) := by decide +kernel
theorem dX1_close_71 : decode cX1_close 71 = .ok (.isub, 1) := by decide +kernel
theorem dX1_close_72 : decode cX1_close 72 = .ok (.putfield 84, 3) := by decide +kernel
theorem dX1_close_75 : decode cX1_close 75 = .ok (.aload_n 0, 1) := by decide +kernel
theorem dX1_close_76 : decode cX1_close 76 = .ok (.iconst (-1), 1) := by decide +kernel
theorem dX1_close_77 : decode cX1_close 77 = .ok (.putfield 25, 3) := by decide +kernel
theorem dX1_close_80 : decode cX1_close 80 = .ok (.aload_n 0, 1) := by decide +kernel
theorem dX1_close_81 : decode cX1_close 81 = .ok (.getfield 60, 3) := by decide +kernel
theorem dX1_close_84 : decode cX1_close 84 = .ok (.iload_n 1, 1) := by decide +kernel
theorem dX1_close_85 : decode cX1_close 85 = .ok (.if_icmp .ge 7, 3) := by decide +kernel
theorem dX1_close_88 : decode cX1_close 88 = .ok (.aload_n 0, 1) := by decide +kernel
theorem dX1_close_89 : decode cX1_close 89 = .ok (.invokevirtual 48, 3) := by decide +kernel
theorem dX1_close_92 : decode cX1_close 92 = .ok (.iload_n 1, 1) := by decide +kernel
theorem dX1_close_93 : decode cX1_close 93 = .ok (.aload_n 0, 1) := by decide +kernel
theorem dX1_close_94 : decode cX1_close 94 = .ok (.getfield 60, 3) := by decide +kernel
theorem dX1_close_97 : decode cX1_close 97 = .ok (.isub, 1) := by decide +kernel
theorem dX1_close_98 : decode cX1_close 98 = .ok (.ireturn, 1) := by decide +kernel
theorem dX1_assume_0 : decode cX1_assume 0 = .ok (.aload_n 0, 1) := by decide +kernel
theorem dX1_assume_1 : decode cX1_assume 1 = .ok (.iload_n 1, 1) := by decide +kernel
theorem dX1_assume_2 : decode cX1_assume 2 = .ok (.invokestatic 73, 3) := by decide +kernel
theorem dX1_assume_5 : decode cX1_assume 5 = .ok (.ifCond .ne 7, 3) := by decide +kernel
theorem dX1_assume_8 : decode cX1_assume 8 = .ok (.iconst 1, 1) := by decide +kernel
theorem dX1_assume_9 : decode cX1_assume 9 = .ok (.goto 4, 3) := by decide +kernel
theorem dX1_assume_12 : decode cX1_assume 12 = .ok (.iconst 0, 1) := by decide +kernel
theorem dX1_assume_13 : decode cX1_assume 13 = .ok (.aload_n 0, 1) := by decide +kernel
theorem dX1_assume_14 : decode cX1_assume 14 = .ok (.getfield 67, 3) := by decide +kernel
theorem dX1_assume_17 : decode cX1_assume 17 = .ok (.bipush 18, 2) := by decide +kernel
theorem dX1_assume_19 : decode cX1_assume 19 = .ok (.if_icmp .ne 7, 3) := by decide +kernel
theorem dX1_assume_22 : decode cX1_assume 22 = .ok (.iconst 1, 1) := by decide +kernel
theorem dX1_assume_23 : decode cX1_assume 23 = .ok (.goto 4, 3) := by decide +kernel
theorem dX1_assume_26 : decode cX1_assume 26 = .ok (.iconst 0, 1) := by decide +kernel
theorem dX1_assume_27 : decode cX1_assume 27 = .ok (.invokevirtual 80, 3) := by decide +kernel
theorem dX1_assume_30 : decode cX1_assume 30 = .ok (.ifCond .eq 5, 3) := by decide +kernel
theorem dX1_assume_33 : decode cX1_assume 33 = .ok (.iconst 0, 1) := by decide +kernel
theorem dX1_assume_34 : decode cX1_assume 34 = .ok (.ireturn, 1) := by decide +kernel
theorem dX1_assume_35 : decode cX1_assume 35 = .ok (.aload_n 0, 1) := by decide +kernel
theorem dX1_assume_36 : decode cX1_assume 36 = .ok (.getfield 22, 3) := by decide +kernel
theorem dX1_assume_39 : decode cX1_assume 39 = .ok (.aload_n 0, 1) := by decide +kernel
theorem dX1_assume_40 : decode cX1_assume 40 = .ok (.getfield 67, 3) := by decide +kernel
theorem dX1_assume_43 : decode cX1_assume 43 = .ok (.iload_n 1, 1) := by decide +kernel
theorem dX1_assume_44 : decode cX1_assume 44 = .ok (.iastore, 1) := by decide +kernel
theorem dX1_assume_45 : decode cX1_assume 45 = .ok (.aload_n 0, 1) := by decide +kernel
theorem dX1_assume_46 : decode cX1_assume 46 = .ok (.dup, 1) := by decide +kernel
theorem dX1_assume_47 : decode cX1_assume 47 = .ok (.getfield 67, 3) := by decide +kernel
theorem dX1_assume_50 : decode cX1_assume 50 = .ok (.iconst 1, 1) := by decide +kernel
theorem dX1_assume_51 : decode cX1_assume 51 = .ok (.iadd, 1) := by decide +kernel
theorem dX1_assume_52 : decode cX1_assume 52 = .ok (.putfield 67, 3) := by decide +kernel
theorem dX1_assume_55 : decode cX1_assume 55 = .ok (.aload_n 0, 1) := by decide +kernel
theorem dX1_assume_56 : decode cX1_assume 56 = .ok (.iconst (-1), 1) := by decide +kernel
theorem dX1_assume_57 : decode cX1_assume 57 = .ok (.putfield 25, 3) := by decide +kernel
theorem dX1_assume_60 : decode cX1_assume 60 = .ok (.aload_n 0, 1) := by decide +kernel
theorem dX1_assume_61 : decode cX1_assume 61 = .ok (.getfield 67, 3) := by decide +kernel
theorem dX1_assume_64 : decode cX1_assume 64 = .ok (.ireturn, 1) := by decide +kernel
theorem dX1_free_0 : decode cX1_free 0 = .ok (.aload_n 0, 1) := by decide +kernel
theorem dX1_free_1 : decode cX1_free 1 = .ok (.iconst 0, 1) := by decide +kernel
theorem dX1_free_2 : decode cX1_free 2 = .ok (.putfield 51, 3) := by decide +kernel
theorem dX1_free_5 : decode cX1_free 5 = .ok (.aload_n 0, 1) := by decide +kernel
theorem dX1_free_6 : decode cX1_free 6 = .ok (.getfield 67, 3) := by decide +kernel
theorem dX1_free_9 : decode cX1_free 9 = .ok (.istore_n 1, 1) := by decide +kernel
theorem dX1_free_10 : decode cX1_free 10 = .ok (.aload_n 0, 1) := by decide +kernel
theorem dX1_free_11 : decode cX1_free 11 = .ok (.iconst 0, 1) := by decide +kernel
theorem dX1_free_12 : decode cX1_free 12 = .ok (.putfield 67, 3) := by decide +kernel
theorem dX1_free_15 : decode cX1_free 15 = .ok (.aload_n 0, 1) := by decide +kernel
theorem dX1_free_16 : decode cX1_free 16 = .ok (.iconst (-1), 1) := by decide +kernel
theorem dX1_free_17 : decode cX1_free 17 = .ok (.putfield 25, 3) := by decide +kernel
theorem dX1_free_20 : decode cX1_free 20 = .ok (.iload_n 1, 1) := by decide +kernel
theorem dX1_free_21 : decode cX1_free 21 = .ok (.ireturn, 1) := by decide +kernel
theorem dX1_least_0 : decode cX1_least 0 = .ok (.aload_n 0, 1) := by decide +kernel
theorem dX1_least_1 : decode cX1_least 1 = .ok (.iconst 0, 1) := by decide +kernel
theorem dX1_least_2 : decode cX1_least 2 = .ok (.putfield 51, 3) := by decide +kernel
theorem dX1_least_5 : decode cX1_least 5 = .ok (.aload_n 0, 1) := by decide +kernel
theorem dX1_least_6 : decode cX1_least 6 = .ok (.aload_n 0, 1) := by decide +kernel
theorem dX1_least_7 : decode cX1_least 7 = .ok (.iconst 0, 1) := by decide +kernel
theorem dX1_least_8 : decode cX1_least 8 = .ok (.invokevirtual 87, 3) := by decide +kernel
theorem dX1_least_11 : decode cX1_least 11 = .ok (.putfield 25, 3) := by decide +kernel
theorem dX1_least_14 : decode cX1_least 14 = .ok (.aload_n 0, 1) := by decide +kernel
theorem dX1_least_15 : decode cX1_least 15 = .ok (.getfield 25, 3) := by decide +kernel
theorem dX1_least_18 : decode cX1_least 18 = .ok (.ireturn, 1) := by decide +kernel
theorem dX1_next_0 : decode cX1_next 0 = .ok (.aload_n 0, 1) := by decide +kernel
theorem dX1_next_1 : decode cX1_next 1 = .ok (.aload_n 0, 1) := by decide +kernel
theorem dX1_next_2 : decode cX1_next 2 = .ok (.getfield 25, 3) := by decide +kernel
theorem dX1_next_5 : decode cX1_next 5 = .ok (.ifCond .ge 7, 3) := by decide +kernel
theorem dX1_next_8 : decode cX1_next 8 = .ok (.iconst 1, 1) := by decide +kernel
theorem dX1_next_9 : decode cX1_next 9 = .ok (.goto 4, 3) := by decide +kernel
theorem dX1_next_12 : decode cX1_next 12 = .ok (.iconst 0, 1) := by decide +kernel
theorem dX1_next_13 : decode cX1_next 13 = .ok (.iconst 0, 1) := by decide +kernel
theorem dX1_next_14 : decode cX1_next 14 = .ok (.invokevirtual 80, 3) := by decide +kernel
theorem dX1_next_17 : decode cX1_next 17 = .ok (.ifCond .eq 5, 3) := by decide +kernel
theorem dX1_next_20 : decode cX1_next 20 = .ok (.iconst 0, 1) := by decide +kernel
theorem dX1_next_21 : decode cX1_next 21 = .ok (.ireturn, 1) := by decide +kernel
theorem dX1_next_22 : decode cX1_next 22 = .ok (.aload_n 0, 1) := by decide +kernel
theorem dX1_next_23 : decode cX1_next 23 = .ok (.aload_n 0, 1) := by decide +kernel
theorem dX1_next_24 : decode cX1_next 24 = .ok (.aload_n 0, 1) := by decide +kernel
theorem dX1_next_25 : decode cX1_next 25 = .ok (.getfield 25, 3) := by decide +kernel
theorem dX1_next_28 : decode cX1_next 28 = .ok (.iconst 1, 1) := by decide +kernel
theorem dX1_next_29 : decode cX1_next 29 = .ok (.iadd, 1) := by decide +kernel
theorem dX1_next_30 : decode cX1_next 30 = .ok (.invokevirtual 87, 3) := by decide +kernel
theorem dX1_next_33 : decode cX1_next 33 = .ok (.putfield 25, 3) := by decide +kernel
theorem dX1_next_36 : decode cX1_next 36 = .ok (.aload_n 0, 1) := by decide +kernel
theorem dX1_next_37 : decode cX1_next 37 = .ok (.getfield 25, 3) := by decide +kernel
theorem dX1_next_40 : decode cX1_next 40 = .ok (.ireturn, 1) := by decide +kernel
theorem dX1_can_0 : decode cX1_can 0 = .ok (.aload_n 0, 1) := by decide +kernel
theorem dX1_can_1 : decode cX1_can 1 = .ok (.iconst 0, 1) := by decide +kernel
theorem dX1_can_2 : decode cX1_can 2 = .ok (.putfield 51, 3) := by decide +kernel
theorem dX1_can_5 : decode cX1_can 5 = .ok (.aload_n 0, 1) := by decide +kernel
theorem dX1_can_6 : decode cX1_can 6 = .ok (.iconst (-1), 1) := by decide +kernel
theorem dX1_can_7 : decode cX1_can 7 = .ok (.invokevirtual 91, 3) := by decide +kernel
theorem dX1_can_10 : decode cX1_can 10 = .ok (.ireturn, 1) := by decide +kernel
theorem dX1_forced_0 : decode cX1_forced 0 = .ok (.aload_n 0, 1) := by decide +kernel
theorem dX1_forced_1 : decode cX1_forced 1 = .ok (.iload_n 1, 1) := by decide +kernel
theorem dX1_forced_2 : decode cX1_forced 2 = .ok (.invokestatic 73, 3) := by decide +kernel
theorem dX1_forced_5 : decode cX1_forced 5 = .ok (.ifCond .ne 7, 3) := by decide +kernel
theorem dX1_forced_8 : decode cX1_forced 8 = .ok (.iconst 1, 1) := by decide +kernel
theorem dX1_forced_9 : decode cX1_forced 9 = .ok (.goto 4, 3) := by decide +kernel
theorem dX1_forced_12 : decode cX1_forced 12 = .ok (.iconst 0, 1) := by decide +kernel
theorem dX1_forced_13 : decode cX1_forced 13 = .ok (.iconst 0, 1) := by decide +kernel
theorem dX1_forced_14 : decode cX1_forced 14 = .ok (.invokevirtual 80, 3) := by decide +kernel
theorem dX1_forced_17 : decode cX1_forced 17 = .ok (.ifCond .eq 5, 3) := by decide +kernel
theorem dX1_forced_20 : decode cX1_forced 20 = .ok (.iconst 0, 1) := by decide +kernel
theorem dX1_forced_21 : decode cX1_forced 21 = .ok (.ireturn, 1) := by decide +kernel
theorem dX1_forced_22 : decode cX1_forced 22 = .ok (.iconst 1, 1) := by decide +kernel
theorem dX1_forced_23 : decode cX1_forced 23 = .ok (.istore_n 2, 1) := by decide +kernel
theorem dX1_forced_24 : decode cX1_forced 24 = .ok (.iconst 0, 1) := by decide +kernel
theorem dX1_forced_25 : decode cX1_forced 25 = .ok (.istore_n 3, 1) := by decide +kernel
theorem dX1_forced_26 : decode cX1_forced 26 = .ok (.iload_n 3, 1) := by decide +kernel
theorem dX1_forced_27 : decode cX1_forced 27 = .ok (.sipush 4096, 3) := by decide +kernel
theorem dX1_forced_30 : decode cX1_forced 30 = .ok (.if_icmp .ge 41, 3) := by decide +kernel
theorem dX1_forced_33 : decode cX1_forced 33 = .ok (.iload_n 2, 1) := by decide +kernel
theorem dX1_forced_34 : decode cX1_forced 34 = .ok (.ifCond .eq 37, 3) := by decide +kernel
theorem dX1_forced_37 : decode cX1_forced 37 = .ok (.aload_n 0, 1) := by decide +kernel
theorem dX1_forced_38 : decode cX1_forced 38 = .ok (.iload_n 3, 1) := by decide +kernel
theorem dX1_forced_39 : decode cX1_forced 39 = .ok (.iconst (-1), 1) := by decide +kernel
theorem dX1_forced_40 : decode cX1_forced 40 = .ok (.invokevirtual 70, 3) := by decide +kernel
theorem dX1_forced_43 : decode cX1_forced 43 = .ok (.aload_n 0, 1) := by decide +kernel
theorem dX1_forced_44 : decode cX1_forced 44 = .ok (.iload_n 1, 1) := by decide +kernel
theorem dX1_forced_45 : decode cX1_forced 45 = .ok (.iload_n 3, 1) := by decide +kernel
theorem dX1_forced_46 : decode cX1_forced 46 = .ok (.invokevirtual 56, 3) := by decide +kernel
theorem dX1_forced_49 : decode cX1_forced 49 = .ok (.ldc2_w 54, 3) := by decide +kernel
theorem dX1_forced_52 : decode cX1_forced 52 = .ok (.lxor, 1) := by decide +kernel
theorem dX1_forced_53 : decode cX1_forced 53 = .ok (.land, 1) := by decide +kernel
theorem dX1_forced_54 : decode cX1_forced 54 = .ok (.lconst 0, 1) := by decide +kernel
theorem dX1_forced_55 : decode cX1_forced 55 = .ok (.lcmp, 1) := by decide +kernel
theorem dX1_forced_56 : decode cX1_forced 56 = .ok (.ifCond .ne 7, 3) := by decide +kernel
theorem dX1_forced_59 : decode cX1_forced 59 = .ok (.iconst 1, 1) := by decide +kernel
theorem dX1_forced_60 : decode cX1_forced 60 = .ok (.goto 4, 3) := by decide +kernel
theorem dX1_forced_63 : decode cX1_forced 63 = .ok (.iconst 0, 1) := by decide +kernel
theorem dX1_forced_64 : decode cX1_forced 64 = .ok (.istore_n 2, 1) := by decide +kernel
theorem dX1_forced_65 : decode cX1_forced 65 = .ok (.iinc 3 1, 3) := by decide +kernel
theorem dX1_forced_68 : decode cX1_forced 68 = .ok (.goto (-42), 3) := by decide +kernel
theorem dX1_forced_71 : decode cX1_forced 71 = .ok (.iload_n 2, 1) := by decide +kernel
theorem dX1_forced_72 : decode cX1_forced 72 = .ok (.ireturn, 1) := by decide +kernel
theorem dX1_blames_0 : decode cX1_blames 0 = .ok (.aload_n 0, 1) := by decide +kernel
theorem dX1_blames_1 : decode cX1_blames 1 = .ok (.iload_n 1, 1) := by decide +kernel
theorem dX1_blames_2 : decode cX1_blames 2 = .ok (.ifCond .lt 11, 3) := by decide +kernel
theorem dX1_blames_5 : decode cX1_blames 5 = .ok (.iload_n 1, 1) := by decide +kernel
theorem dX1_blames_6 : decode cX1_blames 6 = .ok (.aload_n 0, 1) := by decide +kernel
theorem dX1_blames_7 : decode cX1_blames 7 = .ok (.getfield 67, 3) := by decide +kernel
theorem dX1_blames_10 : decode cX1_blames 10 = .ok (.if_icmp .lt 7, 3) := by decide +kernel
theorem dX1_blames_13 : decode cX1_blames 13 = .ok (.iconst 1, 1) := by decide +kernel
theorem dX1_blames_14 : decode cX1_blames 14 = .ok (.goto 4, 3) := by decide +kernel
theorem dX1_blames_17 : decode cX1_blames 17 = .ok (.iconst 0, 1) := by decide +kernel
theorem dX1_blames_18 : decode cX1_blames 18 = .ok (.iconst 0, 1) := by decide +kernel
theorem dX1_blames_19 : decode cX1_blames 19 = .ok (.invokevirtual 80, 3) := by decide +kernel
theorem dX1_blames_22 : decode cX1_blames 22 = .ok (.ifCond .eq 5, 3) := by decide +kernel
theorem dX1_blames_25 : decode cX1_blames 25 = .ok (.iconst 0, 1) := by decide +kernel
theorem dX1_blames_26 : decode cX1_blames 26 = .ok (.ireturn, 1) := by decide +kernel
theorem dX1_blames_27 : decode cX1_blames 27 = .ok (.aload_n 0, 1) := by decide +kernel
theorem dX1_blames_28 : decode cX1_blames 28 = .ok (.iconst (-1), 1) := by decide +kernel
theorem dX1_blames_29 : decode cX1_blames 29 = .ok (.invokevirtual 91, 3) := by decide +kernel
theorem dX1_blames_32 : decode cX1_blames 32 = .ok (.ifCond .ne 15, 3) := by decide +kernel
theorem dX1_blames_35 : decode cX1_blames 35 = .ok (.aload_n 0, 1) := by decide +kernel
theorem dX1_blames_36 : decode cX1_blames 36 = .ok (.iload_n 1, 1) := by decide +kernel
theorem dX1_blames_37 : decode cX1_blames 37 = .ok (.invokevirtual 91, 3) := by decide +kernel
theorem dX1_blames_40 : decode cX1_blames 40 = .ok (.ifCond .eq 7, 3) := by decide +kernel
theorem dX1_blames_43 : decode cX1_blames 43 = .ok (.iconst 1, 1) := by decide +kernel
theorem dX1_blames_44 : decode cX1_blames 44 = .ok (.goto 4, 3) := by decide +kernel
theorem dX1_blames_47 : decode cX1_blames 47 = .ok (.iconst 0, 1) := by decide +kernel
theorem dX1_blames_48 : decode cX1_blames 48 = .ok (.ireturn, 1) := by decide +kernel
theorem dX1_count_0 : decode cX1_count 0 = .ok (.aload_n 0, 1) := by decide +kernel
theorem dX1_count_1 : decode cX1_count 1 = .ok (.iload_n 1, 1) := by decide +kernel
theorem dX1_count_2 : decode cX1_count 2 = .ok (.iconst 1, 1) := by decide +kernel
theorem dX1_count_3 : decode cX1_count 3 = .ok (.if_icmp .lt 9, 3) := by decide +kernel
theorem dX1_count_6 : decode cX1_count 6 = .ok (.iload_n 1, 1) := by decide +kernel
theorem dX1_count_7 : decode cX1_count 7 = .ok (.bipush 64, 2) := by decide +kernel
theorem dX1_count_9 : decode cX1_count 9 = .ok (.if_icmp .le 7, 3) := by decide +kernel
theorem dX1_count_12 : decode cX1_count 12 = .ok (.iconst 1, 1) := by decide +kernel
theorem dX1_count_13 : decode cX1_count 13 = .ok (.goto 4, 3) := by decide +kernel
theorem dX1_count_16 : decode cX1_count 16 = .ok (.iconst 0, 1) := by decide +kernel
theorem dX1_count_17 : decode cX1_count 17 = .ok (.iconst 0, 1) := by decide +kernel
theorem dX1_count_18 : decode cX1_count 18 = .ok (.invokevirtual 80, 3) := by decide +kernel
theorem dX1_count_21 : decode cX1_count 21 = .ok (.ifCond .eq 5, 3) := by decide +kernel
theorem dX1_count_24 : decode cX1_count 24 = .ok (.iconst 0, 1) := by decide +kernel
theorem dX1_count_25 : decode cX1_count 25 = .ok (.ireturn, 1) := by decide +kernel
theorem dX1_count_26 : decode cX1_count 26 = .ok (.iconst 0, 1) := by decide +kernel
theorem dX1_count_27 : decode cX1_count 27 = .ok (.istore_n 2, 1) := by decide +kernel
theorem dX1_count_28 : decode cX1_count 28 = .ok (.iconst 0, 1) := by decide +kernel
theorem dX1_count_29 : decode cX1_count 29 = .ok (.istore_n 3, 1) := by decide +kernel
theorem dX1_count_30 : decode cX1_count 30 = .ok (.iload_n 3, 1) := by decide +kernel
theorem dX1_count_31 : decode cX1_count 31 = .ok (.sipush 4096, 3) := by decide +kernel
theorem dX1_count_34 : decode cX1_count 34 = .ok (.if_icmp .ge 49, 3) := by decide +kernel
theorem dX1_count_37 : decode cX1_count 37 = .ok (.iload_n 2, 1) := by decide +kernel
theorem dX1_count_38 : decode cX1_count 38 = .ok (.iload_n 1, 1) := by decide +kernel
theorem dX1_count_39 : decode cX1_count 39 = .ok (.if_icmp .ge 44, 3) := by decide +kernel
theorem dX1_count_42 : decode cX1_count 42 = .ok (.aload_n 0, 1) := by decide +kernel
theorem dX1_count_43 : decode cX1_count 43 = .ok (.iload_n 3, 1) := by decide +kernel
theorem dX1_count_44 : decode cX1_count 44 = .ok (.iconst (-1), 1) := by decide +kernel
theorem dX1_count_45 : decode cX1_count 45 = .ok (.invokevirtual 70, 3) := by decide +kernel
theorem dX1_count_48 : decode cX1_count 48 = .ok (.lstore 4, 2) := by decide +kernel
theorem dX1_count_50 : decode cX1_count 50 = .ok (.iconst 0, 1) := by decide +kernel
theorem dX1_count_51 : decode cX1_count 51 = .ok (.istore 6, 2) := by decide +kernel
theorem dX1_count_53 : decode cX1_count 53 = .ok (.iload 6, 2) := by decide +kernel
theorem dX1_count_55 : decode cX1_count 55 = .ok (.bipush 64, 2) := by decide +kernel
theorem dX1_count_57 : decode cX1_count 57 = .ok (.if_icmp .ge 20, 3) := by decide +kernel
theorem dX1_count_60 : decode cX1_count 60 = .ok (.iload_n 2, 1) := by decide +kernel
theorem dX1_count_61 : decode cX1_count 61 = .ok (.lload 4, 2) := by decide +kernel
theorem dX1_count_63 : decode cX1_count 63 = .ok (.iload 6, 2) := by decide +kernel
theorem dX1_count_65 : decode cX1_count 65 = .ok (.lushr, 1) := by decide +kernel
theorem dX1_count_66 : decode cX1_count 66 = .ok (.lconst 1, 1) := by decide +kernel
theorem dX1_count_67 : decode cX1_count 67 = .ok (.land, 1) := by decide +kernel
theorem dX1_count_68 : decode cX1_count 68 = .ok (.l2i, 1) := by decide +kernel
theorem dX1_count_69 : decode cX1_count 69 = .ok (.iadd, 1) := by decide +kernel
theorem dX1_count_70 : decode cX1_count 70 = .ok (.istore_n 2, 1) := by decide +kernel
theorem dX1_count_71 : decode cX1_count 71 = .ok (.iinc 6 1, 3) := by decide +kernel
theorem dX1_count_74 : decode cX1_count 74 = .ok (.goto (-21), 3) := by decide +kernel
theorem dX1_count_77 : decode cX1_count 77 = .ok (.iinc 3 1, 3) := by decide +kernel
theorem dX1_count_80 : decode cX1_count 80 = .ok (.goto (-50), 3) := by decide +kernel
theorem dX1_count_83 : decode cX1_count 83 = .ok (.iload_n 2, 1) := by decide +kernel
theorem dX1_count_84 : decode cX1_count 84 = .ok (.iload_n 1, 1) := by decide +kernel
theorem dX1_count_85 : decode cX1_count 85 = .ok (.if_icmp .ge 7, 3) := by decide +kernel
theorem dX1_count_88 : decode cX1_count 88 = .ok (.iload_n 2, 1) := by decide +kernel
theorem dX1_count_89 : decode cX1_count 89 = .ok (.goto 4, 3) := by decide +kernel
theorem dX1_count_92 : decode cX1_count 92 = .ok (.iload_n 1, 1) := by decide +kernel
theorem dX1_count_93 : decode cX1_count 93 = .ok (.ireturn, 1) := by decide +kernel
theorem dX1_value_0 : decode cX1_value 0 = .ok (.aload_n 0, 1) := by decide +kernel
theorem dX1_value_1 : decode cX1_value 1 = .ok (.iload_n 1, 1) := by decide +kernel
theorem dX1_value_2 : decode cX1_value 2 = .ok (.iconst 1, 1) := by decide +kernel
theorem dX1_value_3 : decode cX1_value 3 = .ok (.if_icmp .lt 9, 3) := by decide +kernel
theorem dX1_value_6 : decode cX1_value 6 = .ok (.iload_n 1, 1) := by decide +kernel
theorem dX1_value_7 : decode cX1_value 7 = .ok (.bipush 18, 2) := by decide +kernel
theorem dX1_value_9 : decode cX1_value 9 = .ok (.if_icmp .le 7, 3) := by decide +kernel
theorem dX1_value_12 : decode cX1_value 12 = .ok (.iconst 1, 1) := by decide +kernel
theorem dX1_value_13 : decode cX1_value 13 = .ok (.goto 4, 3) := by decide +kernel
theorem dX1_value_16 : decode cX1_value 16 = .ok (.iconst 0, 1) := by decide +kernel
theorem dX1_value_17 : decode cX1_value 17 = .ok (.aload_n 0, 1) := by decide +kernel
theorem dX1_value_18 : decode cX1_value 18 = .ok (.getfield 25, 3) := by decide +kernel
theorem dX1_value_21 : decode cX1_value 21 = .ok (.ifCond .ge 7, 3) := by decide +kernel
theorem dX1_value_24 : decode cX1_value 24 = .ok (.iconst 1, 1) := by decide +kernel
theorem dX1_value_25 : decode cX1_value 25 = .ok (.goto 4, 3) := by decide +kernel
theorem dX1_value_28 : decode cX1_value 28 = .ok (.iconst 0, 1) := by decide +kernel
theorem dX1_value_29 : decode cX1_value 29 = .ok (.invokevirtual 80, 3) := by decide +kernel
theorem dX1_value_32 : decode cX1_value 32 = .ok (.ifCond .eq 5, 3) := by decide +kernel
theorem dX1_value_35 : decode cX1_value 35 = .ok (.iconst 0, 1) := by decide +kernel
theorem dX1_value_36 : decode cX1_value 36 = .ok (.ireturn, 1) := by decide +kernel
theorem dX1_value_37 : decode cX1_value 37 = .ok (.aload_n 0, 1) := by decide +kernel
theorem dX1_value_38 : decode cX1_value 38 = .ok (.getfield 25, 3) := by decide +kernel
theorem dX1_value_41 : decode cX1_value 41 = .ok (.iload_n 1, 1) := by decide +kernel
theorem dX1_value_42 : decode cX1_value 42 = .ok (.iconst 1, 1) := by decide +kernel
theorem dX1_value_43 : decode cX1_value 43 = .ok (.isub, 1) := by decide +kernel
theorem dX1_value_44 : decode cX1_value 44 = .ok (.ishr, 1) := by decide +kernel
theorem dX1_value_45 : decode cX1_value 45 = .ok (.iconst 1, 1) := by decide +kernel
theorem dX1_value_46 : decode cX1_value 46 = .ok (.iand, 1) := by decide +kernel
theorem dX1_value_47 : decode cX1_value 47 = .ok (.ireturn, 1) := by decide +kernel
theorem dX1_look_0 : decode cX1_look 0 = .ok (.aload_n 0, 1) := by decide +kernel
theorem dX1_look_1 : decode cX1_look 1 = .ok (.iload_n 1, 1) := by decide +kernel
theorem dX1_look_2 : decode cX1_look 2 = .ok (.ifCond .lt 8, 3) := by decide +kernel
theorem dX1_look_5 : decode cX1_look 5 = .ok (.iload_n 1, 1) := by decide +kernel
theorem dX1_look_6 : decode cX1_look 6 = .ok (.iconst 4, 1) := by decide +kernel
theorem dX1_look_7 : decode cX1_look 7 = .ok (.if_icmp .le 7, 3) := by decide +kernel
theorem dX1_look_10 : decode cX1_look 10 = .ok (.iconst 1, 1) := by decide +kernel
theorem dX1_look_11 : decode cX1_look 11 = .ok (.goto 4, 3) := by decide +kernel
theorem dX1_look_14 : decode cX1_look 14 = .ok (.iconst 0, 1) := by decide +kernel
theorem dX1_look_15 : decode cX1_look 15 = .ok (.iconst 0, 1) := by decide +kernel
theorem dX1_look_16 : decode cX1_look 16 = .ok (.invokevirtual 80, 3) := by decide +kernel
theorem dX1_look_19 : decode cX1_look 19 = .ok (.ifCond .eq 5, 3) := by decide +kernel
theorem dX1_look_22 : decode cX1_look 22 = .ok (.iconst 0, 1) := by decide +kernel
theorem dX1_look_23 : decode cX1_look 23 = .ok (.ireturn, 1) := by decide +kernel
theorem dX1_look_24 : decode cX1_look 24 = .ok (.iload_n 1, 1) := by decide +kernel
theorem dX1_look_25 : decode cX1_look 25 = .ok (.ifCond .ne 10, 3) := by decide +kernel
theorem dX1_look_28 : decode cX1_look 28 = .ok (.aload_n 0, 1) := by decide +kernel
theorem dX1_look_29 : decode cX1_look 29 = .ok (.getfield 60, 3) := by decide +kernel
theorem dX1_look_32 : decode cX1_look 32 = .ok (.goto 51, 3) := by decide +kernel
theorem dX1_look_35 : decode cX1_look 35 = .ok (.iload_n 1, 1) := by decide +kernel
theorem dX1_look_36 : decode cX1_look 36 = .ok (.iconst 1, 1) := by decide +kernel
theorem dX1_look_37 : decode cX1_look 37 = .ok (.if_icmp .ne 10, 3) := by decide +kernel
theorem dX1_look_40 : decode cX1_look 40 = .ok (.aload_n 0, 1) := by decide +kernel
theorem dX1_look_41 : decode cX1_look 41 = .ok (.getfield 84, 3) := by decide +kernel
theorem dX1_look_44 : decode cX1_look 44 = .ok (.goto 39, 3) := by decide +kernel
theorem dX1_look_47 : decode cX1_look 47 = .ok (.iload_n 1, 1) := by decide +kernel
theorem dX1_look_48 : decode cX1_look 48 = .ok (.iconst 2, 1) := by decide +kernel
theorem dX1_look_49 : decode cX1_look 49 = .ok (.if_icmp .ne 10, 3) := by decide +kernel
theorem dX1_look_52 : decode cX1_look 52 = .ok (.aload_n 0, 1) := by decide +kernel
theorem dX1_look_53 : decode cX1_look 53 = .ok (.getfield 67, 3) := by decide +kernel
theorem dX1_look_56 : decode cX1_look 56 = .ok (.goto 27, 3) := by decide +kernel
theorem dX1_look_59 : decode cX1_look 59 = .ok (.iload_n 1, 1) := by decide +kernel
theorem dX1_look_60 : decode cX1_look 60 = .ok (.iconst 3, 1) := by decide +kernel
theorem dX1_look_61 : decode cX1_look 61 = .ok (.if_icmp .ne 10, 3) := by decide +kernel
theorem dX1_look_64 : decode cX1_look 64 = .ok (.aload_n 0, 1) := by decide +kernel
theorem dX1_look_65 : decode cX1_look 65 = .ok (.getfield 77, 3) := by decide +kernel
theorem dX1_look_68 : decode cX1_look 68 = .ok (.goto 15, 3) := by decide +kernel
theorem dX1_look_71 : decode cX1_look 71 = .ok (.aload_n 0, 1) := by decide +kernel
theorem dX1_look_72 : decode cX1_look 72 = .ok (.getfield 25, 3) := by decide +kernel
theorem dX1_look_75 : decode cX1_look 75 = .ok (.ifCond .ge 7, 3) := by decide +kernel
theorem dX1_look_78 : decode cX1_look 78 = .ok (.iconst 0, 1) := by decide +kernel
theorem dX1_look_79 : decode cX1_look 79 = .ok (.goto 4, 3) := by decide +kernel
theorem dX1_look_82 : decode cX1_look 82 = .ok (.iconst 1, 1) := by decide +kernel
theorem dX1_look_83 : decode cX1_look 83 = .ok (.ireturn, 1) := by decide +kernel
