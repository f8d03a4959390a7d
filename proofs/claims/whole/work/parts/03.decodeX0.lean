theorem dX0_init_0 : decode cX0_init 0 = .ok (.aload_n 0, 1) := by decide +kernel
theorem dX0_init_1 : decode cX0_init 1 = .ok (.invokespecial 3, 3) := by decide +kernel
theorem dX0_init_4 : decode cX0_init 4 = .ok (.aload_n 0, 1) := by decide +kernel
theorem dX0_init_5 : decode cX0_init 5 = .ok (.sipush 419, 3) := by decide +kernel
theorem dX0_init_8 : decode cX0_init 8 = .ok (.newarray .int, 2) := by decide +kernel
theorem dX0_init_10 : decode cX0_init 10 = .ok (.putfield 9, 3) := by decide +kernel
theorem dX0_init_13 : decode cX0_init 13 = .ok (.aload_n 0, 1) := by decide +kernel
theorem dX0_init_14 : decode cX0_init 14 = .ok (.sipush 419, 3) := by decide +kernel
theorem dX0_init_17 : decode cX0_init 17 = .ok (.newarray .int, 2) := by decide +kernel
theorem dX0_init_19 : decode cX0_init 19 = .ok (.putfield 13, 3) := by decide +kernel
theorem dX0_init_22 : decode cX0_init 22 = .ok (.aload_n 0, 1) := by decide +kernel
theorem dX0_init_23 : decode cX0_init 23 = .ok (.bipush 41, 2) := by decide +kernel
theorem dX0_init_25 : decode cX0_init 25 = .ok (.newarray .int, 2) := by decide +kernel
theorem dX0_init_27 : decode cX0_init 27 = .ok (.putfield 16, 3) := by decide +kernel
theorem dX0_init_30 : decode cX0_init 30 = .ok (.aload_n 0, 1) := by decide +kernel
theorem dX0_init_31 : decode cX0_init 31 = .ok (.bipush 18, 2) := by decide +kernel
theorem dX0_init_33 : decode cX0_init 33 = .ok (.newarray .int, 2) := by decide +kernel
theorem dX0_init_35 : decode cX0_init 35 = .ok (.putfield 19, 3) := by decide +kernel
theorem dX0_init_38 : decode cX0_init 38 = .ok (.aload_n 0, 1) := by decide +kernel
theorem dX0_init_39 : decode cX0_init 39 = .ok (.bipush 18, 2) := by decide +kernel
theorem dX0_init_41 : decode cX0_init 41 = .ok (.newarray .int, 2) := by decide +kernel
theorem dX0_init_43 : decode cX0_init 43 = .ok (.putfield 22, 3) := by decide +kernel
theorem dX0_init_46 : decode cX0_init 46 = .ok (.aload_n 0, 1) := by decide +kernel
theorem dX0_init_47 : decode cX0_init 47 = .ok (.bipush 18, 2) := by decide +kernel
theorem dX0_init_49 : decode cX0_init 49 = .ok (.newarray .int, 2) := by decide +kernel
theorem dX0_init_51 : decode cX0_init 51 = .ok (.putfield 25, 3) := by decide +kernel
theorem dX0_init_54 : decode cX0_init 54 = .ok (.aload_n 0, 1) := by decide +kernel
theorem dX0_init_55 : decode cX0_init 55 = .ok (.iconst (-1), 1) := by decide +kernel
theorem dX0_init_56 : decode cX0_init 56 = .ok (.putfield 28, 3) := by decide +kernel
theorem dX0_init_59 : decode cX0_init 59 = .ok (.return_, 1) := by decide +kernel
theorem dX0_put_0 : decode cX0_put 0 = .ok (.iload_n 1, 1) := by decide +kernel
theorem dX0_put_1 : decode cX0_put 1 = .ok (.invokestatic 32, 3) := by decide +kernel
theorem dX0_put_4 : decode cX0_put 4 = .ok (.ifCond .ne 13, 3) := by decide +kernel
theorem dX0_put_7 : decode cX0_put 7 = .ok (.new 36, 3) := by decide +kernel
theorem dX0_put_10 : decode cX0_put 10 = .ok (.dup, 1) := by decide +kernel
theorem dX0_put_11 : decode cX0_put 11 = .ok (.ldc 38, 2) := by decide +kernel
theorem dX0_put_13 : decode cX0_put 13 = .ok (.invokespecial 40, 3) := by decide +kernel
theorem dX0_put_16 : decode cX0_put 16 = .ok (.athrow, 1) := by decide +kernel
theorem dX0_put_17 : decode cX0_put 17 = .ok (.aload_n 0, 1) := by decide +kernel
theorem dX0_put_18 : decode cX0_put 18 = .ok (.getfield 43, 3) := by decide +kernel
theorem dX0_put_21 : decode cX0_put 21 = .ok (.bipush 18, 2) := by decide +kernel
theorem dX0_put_23 : decode cX0_put 23 = .ok (.if_icmp .lt 13, 3) := by decide +kernel
theorem dX0_put_26 : decode cX0_put 26 = .ok (.new 46, 3) := by decide +kernel
theorem dX0_put_29 : decode cX0_put 29 = .ok (.dup, 1) := by decide +kernel
theorem dX0_put_30 : decode cX0_put 30 = .ok (.ldc 48, 2) := by decide +kernel
theorem dX0_put_32 : decode cX0_put 32 = .ok (.invokespecial 50, 3) := by decide +kernel
theorem dX0_put_35 : decode cX0_put 35 = .ok (.athrow, 1) := by decide +kernel
theorem dX0_put_36 : decode cX0_put 36 = .ok (.aload_n 0, 1) := by decide +kernel
theorem dX0_put_37 : decode cX0_put 37 = .ok (.dup, 1) := by decide +kernel
theorem dX0_put_38 : decode cX0_put 38 = .ok (.getfield 51, 3) := by decide +kernel
theorem dX0_put_41 : decode cX0_put 41 = .ok (.iload_n 1, 1) := by decide +kernel
theorem dX0_put_42 : decode cX0_put 42 = .ok (.invokestatic 54, 3) := by decide +kernel
theorem dX0_put_45 : decode cX0_put 45 = .ok (.ior, 1) := by decide +kernel
theorem dX0_put_46 : decode cX0_put 46 = .ok (.putfield 51, 3) := by decide +kernel
theorem dX0_put_49 : decode cX0_put 49 = .ok (.aload_n 0, 1) := by decide +kernel
theorem dX0_put_50 : decode cX0_put 50 = .ok (.dup, 1) := by decide +kernel
theorem dX0_put_51 : decode cX0_put 51 = .ok (.getfield 58, 3) := by decide +kernel
theorem dX0_put_54 : decode cX0_put 54 = .ok (.iload_n 1, 1) := by decide +kernel
theorem dX0_put_55 : decode cX0_put 55 = .ok (.invokestatic 61, 3) := by decide +kernel
theorem dX0_put_58 : decode cX0_put 58 = .ok (.ior, 1) := by decide +kernel
theorem dX0_put_59 : decode cX0_put 59 = .ok (.putfield 58, 3) := by decide +kernel
theorem dX0_put_62 : decode cX0_put 62 = .ok (.aload_n 0, 1) := by decide +kernel
theorem dX0_put_63 : decode cX0_put 63 = .ok (.dup, 1) := by decide +kernel
theorem dX0_put_64 : decode cX0_put 64 = .ok (.getfield 43, 3) := by decide +kernel
theorem dX0_put_67 : decode cX0_put 67 = .ok (.iconst 1, 1) := by decide +kernel
theorem dX0_put_68 : decode cX0_put 68 = .ok (.iadd, 1) := by decide +kernel
theorem dX0_put_69 : decode cX0_put 69 = .ok (.putfield 43, 3) := by decide +kernel
theorem dX0_put_72 : decode cX0_put 72 = .ok (.aload_n 0, 1) := by decide +kernel
theorem dX0_put_73 : decode cX0_put 73 = .ok (.getfield 43, 3) := by decide +kernel
theorem dX0_put_76 : decode cX0_put 76 = .ok (.ireturn, 1) := by decide +kernel
theorem dX0_add_0 : decode cX0_add 0 = .ok (.aload_n 0, 1) := by decide +kernel
theorem dX0_add_1 : decode cX0_add 1 = .ok (.getfield 64, 3) := by decide +kernel
theorem dX0_add_4 : decode cX0_add 4 = .ok (.sipush 400, 3) := by decide +kernel
theorem dX0_add_7 : decode cX0_add 7 = .ok (.if_icmp .lt 13, 3) := by decide +kernel
theorem dX0_add_10 : decode cX0_add 10 = .ok (.new 46, 3) := by decide +kernel
theorem dX0_add_13 : decode cX0_add 13 = .ok (.dup, 1) := by decide +kernel
theorem dX0_add_14 : decode cX0_add 14 = .ok (.ldc 67, 2) := by decide +kernel
theorem dX0_add_16 : decode cX0_add 16 = .ok (.invokespecial 50, 3) := by decide +kernel
theorem dX0_add_19 : decode cX0_add 19 = .ok (.athrow, 1) := by decide +kernel
theorem dX0_add_20 : decode cX0_add 20 = .ok (.aload_n 0, 1) := by decide +kernel
theorem dX0_add_21 : decode cX0_add 21 = .ok (.aload_n 0, 1) := by decide +kernel
theorem dX0_add_22 : decode cX0_add 22 = .ok (.getfield 64, 3) := by decide +kernel
theorem dX0_add_25 : decode cX0_add 25 = .ok (.aload_n 0, 1) := by decide +kernel
theorem dX0_add_26 : decode cX0_add 26 = .ok (.getfield 51, 3) := by decide +kernel
theorem dX0_add_29 : decode cX0_add 29 = .ok (.aload_n 0, 1) := by decide +kernel
theorem dX0_add_30 : decode cX0_add 30 = .ok (.getfield 58, 3) := by decide +kernel
theorem dX0_add_33 : decode cX0_add 33 = .ok (.invokevirtual 69, 3) := by decide +kernel
theorem dX0_add_36 : decode cX0_add 36 = .ok (.aload_n 0, 1) := by decide +kernel
theorem dX0_add_37 : decode cX0_add 37 = .ok (.dup, 1) := by decide +kernel
theorem dX0_add_38 : decode cX0_add 38 = .ok (.getfield 64, 3) := by decide +kernel
theorem dX0_add_41 : decode cX0_add 41 = .ok (.iconst 1, 1) := by decide +kernel
theorem dX0_add_42 : decode cX0_add 42 = .ok (.iadd, 1) := by decide +kernel
theorem dX0_add_43 : decode cX0_add 43 = .ok (.putfield 64, 3) := by decide +kernel
theorem dX0_add_46 : decode cX0_add 46 = .ok (.aload_n 0, 1) := by decide +kernel
theorem dX0_add_47 : decode cX0_add 47 = .ok (.iconst 0, 1) := by decide +kernel
theorem dX0_add_48 : decode cX0_add 48 = .ok (.putfield 43, 3) := by decide +kernel
theorem dX0_add_51 : decode cX0_add 51 = .ok (.aload_n 0, 1) := by decide +kernel
theorem dX0_add_52 : decode cX0_add 52 = .ok (.iconst 0, 1) := by decide +kernel
theorem dX0_add_53 : decode cX0_add 53 = .ok (.putfield 51, 3) := by decide +kernel
theorem dX0_add_56 : decode cX0_add 56 = .ok (.aload_n 0, 1) := by decide +kernel
theorem dX0_add_57 : decode cX0_add 57 = .ok (.iconst 0, 1) := by decide +kernel
theorem dX0_add_58 : decode cX0_add 58 = .ok (.putfield 58, 3) := by decide +kernel
theorem dX0_add_61 : decode cX0_add 61 = .ok (.aload_n 0, 1) := by decide +kernel
theorem dX0_add_62 : decode cX0_add 62 = .ok (.iconst (-1), 1) := by decide +kernel
theorem dX0_add_63 : decode cX0_add 63 = .ok (.putfield 28, 3) := by decide +kernel
theorem dX0_add_66 : decode cX0_add 66 = .ok (.aload_n 0, 1) := by decide +kernel
theorem dX0_add_67 : decode cX0_add 67 = .ok (.getfield 64, 3) := by decide +kernel
theorem dX0_add_70 : decode cX0_add 70 = .ok (.ireturn, 1) := by decide +kernel
theorem dX0_open_0 : decode cX0_open 0 = .ok (.aload_n 0, 1) := by decide +kernel
theorem dX0_open_1 : decode cX0_open 1 = .ok (.getfield 73, 3) := by decide +kernel
theorem dX0_open_4 : decode cX0_open 4 = .ok (.bipush 40, 2) := by decide +kernel
theorem dX0_open_6 : decode cX0_open 6 = .ok (.if_icmp .lt 13, 3) := by decide +kernel
theorem dX0_open_9 : decode cX0_open 9 = .ok (.new 46, 3) := by decide +kernel
theorem dX0_open_12 : decode cX0_open 12 = .ok (.dup, 1) := by decide +kernel
theorem dX0_open_13 : decode cX0_open 13 = .ok (.ldc 76, 2) := by decide +kernel
theorem dX0_open_15 : decode cX0_open 15 = .ok (.invokespecial 50, 3) := by decide +kernel
theorem dX0_open_18 : decode cX0_open 18 = .ok (.athrow, 1) := by decide +kernel
theorem dX0_open_19 : decode cX0_open 19 = .ok (.aload_n 0, 1) := by decide +kernel
theorem dX0_open_20 : decode cX0_open 20 = .ok (.dup, 1) := by decide +kernel
theorem dX0_open_21 : decode cX0_open 21 = .ok (.getfield 73, 3) := by decide +kernel
theorem dX0_open_24 : decode cX0_open 24 = .ok (.iconst 1, 1) := by decide +kernel
theorem dX0_open_25 : decode cX0_open 25 = .ok (.iadd, 1) := by decide +kernel
theorem dX0_open_26 : decode cX0_open 26 = .ok (.putfield 73, 3) := by decide +kernel
theorem dX0_open_29 : decode cX0_open 29 = .ok (.aload_n 0, 1) := by decide +kernel
theorem dX0_open_30 : decode cX0_open 30 = .ok (.getfield 16, 3) := by decide +kernel
theorem dX0_open_33 : decode cX0_open 33 = .ok (.aload_n 0, 1) := by decide +kernel
theorem dX0_open_34 : decode cX0_open 34 = .ok (.getfield 73, 3) := by decide +kernel
theorem dX0_open_37 : decode cX0_open 37 = .ok (.aload_n 0, 1) := by decide +kernel
theorem dX0_open_38 : decode cX0_open 38 = .ok (.getfield 64, 3) := by decide +kernel
theorem dX0_open_41 : decode cX0_open 41 = .ok (.iastore, 1) := by decide +kernel
theorem dX0_open_42 : decode cX0_open 42 = .ok (.aload_n 0, 1) := by decide +kernel
theorem dX0_open_43 : decode cX0_open 43 = .ok (.iconst (-1), 1) := by decide +kernel
theorem dX0_open_44 : decode cX0_open 44 = .ok (.putfield 28, 3) := by decide +kernel
theorem dX0_open_47 : decode cX0_open 47 = .ok (.aload_n 0, 1) := by decide +kernel
theorem dX0_open_48 : decode cX0_open 48 = .ok (.getfield 73, 3) := by decide +kernel
theorem dX0_open_51 : decode cX0_open 51 = .ok (.ireturn, 1) := by decide +kernel
theorem dX0_close_0 : decode cX0_close 0 = .ok (.aload_n 0, 1) := by decide +kernel
theorem dX0_close_1 : decode cX0_close 1 = .ok (.getfield 73, 3) := by decide +kernel
theorem dX0_close_4 : decode cX0_close 4 = .ok (.ifCond .le 12, 3) := by decide +kernel
theorem dX0_close_7 : decode cX0_close 7 = .ok (.aload_n 0, 1) := by decide +kernel
theorem dX0_close_8 : decode cX0_close 8 = .ok (.getfield 73, 3) := by decide +kernel
theorem dX0_close_11 : decode cX0_close 11 = .ok (.bipush 40, 2) := by decide +kernel
theorem dX0_close_13 : decode cX0_close 13 = .ok (.if_icmp .le 13, 3) := by decide +kernel
theorem dX0_close_16 : decode cX0_close 16 = .ok (.new 46, 3) := by decide +kernel
theorem dX0_close_19 : decode cX0_close 19 = .ok (.dup, 1) := by decide +kernel
theorem dX0_close_20 : decode cX0_close 20 = .ok (.ldc 78, 2) := by decide +kernel
theorem dX0_close_22 : decode cX0_close 22 = .ok (.invokespecial 50, 3) := by decide +kernel
theorem dX0_close_25 : decode cX0_close 25 = .ok (.athrow, 1) := by decide +kernel
theorem dX0_close_26 : decode cX0_close 26 = .ok (.aload_n 0, 1) := by decide +kernel
theorem dX0_close_27 : decode cX0_close 27 = .ok (.getfield 64, 3) := by decide +kernel
theorem dX0_close_30 : decode cX0_close 30 = .ok (.aload_n 0, 1) := by decide +kernel
theorem dX0_close_31 : decode cX0_close 31 = .ok (.getfield 16, 3) := by decide +kernel
theorem dX0_close_34 : decode cX0_close 34 = .ok (.aload_n 0, 1) := by decide +kernel
theorem dX0_close_35 : decode cX0_close 35 = .ok (.getfield 73, 3) := by decide +kernel
theorem dX0_close_38 : decode cX0_close 38 = .ok (.iaload, 1) := by decide +kernel
theorem dX0_close_39 : decode cX0_close 39 = .ok (.isub, 1) := by decide +kernel
theorem dX0_close_40 : decode cX0_close 40 = .ok (.istore_n 1, 1) := by decide +kernel
theorem dX0_close_41 : decode cX0_close 41 = .ok (.aload_n 0, 1) := by decide +kernel
theorem dX0_close_42 : decode cX0_close 42 = .ok (.aload_n 0, 1) := by decide +kernel
theorem dX0_close_43 : decode cX0_close 43 = .ok (.getfield 16, 3) := by decide +kernel
theorem dX0_close_46 : decode cX0_close 46 = .ok (.aload_n 0, 1) := by decide +kernel
theorem dX0_close_47 : decode cX0_close 47 = .ok (.getfield 73, 3) := by decide +kernel
theorem dX0_close_50 : decode cX0_close 50 = .ok (.iaload, 1) := by decide +kernel
theorem dX0_close_51 : decode cX0_close 51 = .ok (.putfield 64, 3) := by decide +kernel
theorem dX0_close_54 : decode cX0_close 54 = .ok (.aload_n 0, 1) := by decide +kernel
theorem dX0_close_55 : decode cX0_close 55 = .ok (.dup, 1) := by decide +kernel
theorem dX0_close_56 : decode cX0_close 56 = .ok (.getfield 73, 3) := by decide +kernel
theorem dX0_close_59 : decode cX0_close 59 = .ok (.iconst 1, 1) := by decide +kernel
theorem dX0_close_60 : decode cX0_close 60 = .ok (.isub, 1) := by decide +kernel
theorem dX0_close_61 : decode cX0_close 61 = .ok (.putfield 73, 3) := by decide +kernel
theorem dX0_close_64 : decode cX0_close 64 = .ok (.aload_n 0, 1) := by decide +kernel
theorem dX0_close_65 : decode cX0_close 65 = .ok (.iconst (-1), 1) := by decide +kernel
theorem dX0_close_66 : decode cX0_close 66 = .ok (.putfield 28, 3) := by decide +kernel
theorem dX0_close_69 : decode cX0_close 69 = .ok (.iload_n 1, 1) := by decide +kernel
theorem dX0_close_70 : decode cX0_close 70 = .ok (.ireturn, 1) := by decide +kernel
theorem dX0_assume_0 : decode cX0_assume 0 = .ok (.iload_n 1, 1) := by decide +kernel
theorem dX0_assume_1 : decode cX0_assume 1 = .ok (.invokestatic 32, 3) := by decide +kernel
theorem dX0_assume_4 : decode cX0_assume 4 = .ok (.ifCond .ne 13, 3) := by decide +kernel
theorem dX0_assume_7 : decode cX0_assume 7 = .ok (.new 36, 3) := by decide +kernel
theorem dX0_assume_10 : decode cX0_assume 10 = .ok (.dup, 1) := by decide +kernel
theorem dX0_assume_11 : decode cX0_assume 11 = .ok (.ldc 38, 2) := by decide +kernel
theorem dX0_assume_13 : decode cX0_assume 13 = .ok (.invokespecial 40, 3) := by decide +kernel
theorem dX0_assume_16 : decode cX0_assume 16 = .ok (.athrow, 1) := by decide +kernel
theorem dX0_assume_17 : decode cX0_assume 17 = .ok (.aload_n 0, 1) := by decide +kernel
theorem dX0_assume_18 : decode cX0_assume 18 = .ok (.getfield 80, 3) := by decide +kernel
theorem dX0_assume_21 : decode cX0_assume 21 = .ok (.bipush 18, 2) := by decide +kernel
theorem dX0_assume_23 : decode cX0_assume 23 = .ok (.if_icmp .lt 13, 3) := by decide +kernel
theorem dX0_assume_26 : decode cX0_assume 26 = .ok (.new 46, 3) := by decide +kernel
theorem dX0_assume_29 : decode cX0_assume 29 = .ok (.dup, 1) := by decide +kernel
theorem dX0_assume_30 : decode cX0_assume 30 = .ok (.ldc 83, 2) := by decide +kernel
theorem dX0_assume_32 : decode cX0_assume 32 = .ok (.invokespecial 50, 3) := by decide +kernel
theorem dX0_assume_35 : decode cX0_assume 35 = .ok (.athrow, 1) := by decide +kernel
theorem dX0_assume_36 : decode cX0_assume 36 = .ok (.aload_n 0, 1) := by decide +kernel
theorem dX0_assume_37 : decode cX0_assume 37 = .ok (.getfield 19, 3) := by decide +kernel
theorem dX0_assume_40 : decode cX0_assume 40 = .ok (.aload_n 0, 1) := by decide +kernel
theorem dX0_assume_41 : decode cX0_assume 41 = .ok (.getfield 80, 3) := by decide +kernel
theorem dX0_assume_44 : decode cX0_assume 44 = .ok (.iload_n 1, 1) := by decide +kernel
theorem dX0_assume_45 : decode cX0_assume 45 = .ok (.iastore, 1) := by decide +kernel
theorem dX0_assume_46 : decode cX0_assume 46 = .ok (.aload_n 0, 1) := by decide +kernel
theorem dX0_assume_47 : decode cX0_assume 47 = .ok (.dup, 1) := by decide +kernel
theorem dX0_assume_48 : decode cX0_assume 48 = .ok (.getfield 80, 3) := by decide +kernel
theorem dX0_assume_51 : decode cX0_assume 51 = .ok (.iconst 1, 1) := by decide +kernel
theorem dX0_assume_52 : decode cX0_assume 52 = .ok (.iadd, 1) := by decide +kernel
theorem dX0_assume_53 : decode cX0_assume 53 = .ok (.putfield 80, 3) := by decide +kernel
theorem dX0_assume_56 : decode cX0_assume 56 = .ok (.aload_n 0, 1) := by decide +kernel
theorem dX0_assume_57 : decode cX0_assume 57 = .ok (.iconst (-1), 1) := by decide +kernel
theorem dX0_assume_58 : decode cX0_assume 58 = .ok (.putfield 28, 3) := by decide +kernel
theorem dX0_assume_61 : decode cX0_assume 61 = .ok (.aload_n 0, 1) := by decide +kernel
theorem dX0_assume_62 : decode cX0_assume 62 = .ok (.getfield 80, 3) := by decide +kernel
theorem dX0_assume_65 : decode cX0_assume 65 = .ok (.ireturn, 1) := by decide +kernel
theorem dX0_free_0 : decode cX0_free 0 = .ok (.aload_n 0, 1) := by decide +kernel
theorem dX0_free_1 : decode cX0_free 1 = .ok (.getfield 80, 3) := by decide +kernel
theorem dX0_free_4 : decode cX0_free 4 = .ok (.istore_n 1, 1) := by decide +kernel
theorem dX0_free_5 : decode cX0_free 5 = .ok (.aload_n 0, 1) := by decide +kernel
theorem dX0_free_6 : decode cX0_free 6 = .ok (.iconst 0, 1) := by decide +kernel
theorem dX0_free_7 : decode cX0_free 7 = .ok (.putfield 80, 3) := by decide +kernel
theorem dX0_free_10 : decode cX0_free 10 = .ok (.aload_n 0, 1) := by decide +kernel
theorem dX0_free_11 : decode cX0_free 11 = .ok (.iconst (-1), 1) := by decide +kernel
theorem dX0_free_12 : decode cX0_free 12 = .ok (.putfield 28, 3) := by decide +kernel
theorem dX0_free_15 : decode cX0_free 15 = .ok (.iload_n 1, 1) := by decide +kernel
theorem dX0_free_16 : decode cX0_free 16 = .ok (.ireturn, 1) := by decide +kernel
theorem dX0_least_0 : decode cX0_least 0 = .ok (.aload_n 0, 1) := by decide +kernel
theorem dX0_least_1 : decode cX0_least 1 = .ok (.aload_n 0, 1) := by decide +kernel
theorem dX0_least_2 : decode cX0_least 2 = .ok (.iconst 0, 1) := by decide +kernel
theorem dX0_least_3 : decode cX0_least 3 = .ok (.aload_n 0, 1) := by decide +kernel
theorem dX0_least_4 : decode cX0_least 4 = .ok (.iconst (-1), 1) := by decide +kernel
theorem dX0_least_5 : decode cX0_least 5 = .ok (.invokevirtual 85, 3) := by decide +kernel
theorem dX0_least_8 : decode cX0_least 8 = .ok (.invokevirtual 88, 3) := by decide +kernel
theorem dX0_least_11 : decode cX0_least 11 = .ok (.putfield 28, 3) := by decide +kernel
theorem dX0_least_14 : decode cX0_least 14 = .ok (.aload_n 0, 1) := by decide +kernel
theorem dX0_least_15 : decode cX0_least 15 = .ok (.getfield 28, 3) := by decide +kernel
theorem dX0_least_18 : decode cX0_least 18 = .ok (.ireturn, 1) := by decide +kernel
theorem dX0_next_0 : decode cX0_next 0 = .ok (.aload_n 0, 1) := by decide +kernel
theorem dX0_next_1 : decode cX0_next 1 = .ok (.getfield 28, 3) := by decide +kernel
theorem dX0_next_4 : decode cX0_next 4 = .ok (.iconst (-1), 1) := by decide +kernel
theorem dX0_next_5 : decode cX0_next 5 = .ok (.if_icmp .ne 13, 3) := by decide +kernel
theorem dX0_next_8 : decode cX0_next 8 = .ok (.new 46, 3) := by decide +kernel
theorem dX0_next_11 : decode cX0_next 11 = .ok (.dup, 1) := by decide +kernel
theorem dX0_next_12 : decode cX0_next 12 = .ok (.ldc 92, 2) := by decide +kernel
theorem dX0_next_14 : decode cX0_next 14 = .ok (.invokespecial 50, 3) := by decide +kernel
theorem dX0_next_17 : decode cX0_next 17 = .ok (.athrow, 1) := by decide +kernel
theorem dX0_next_18 : decode cX0_next 18 = .ok (.aload_n 0, 1) := by decide +kernel
theorem dX0_next_19 : decode cX0_next 19 = .ok (.aload_n 0, 1) := by decide +kernel
theorem dX0_next_20 : decode cX0_next 20 = .ok (.aload_n 0, 1) := by decide +kernel
theorem dX0_next_21 : decode cX0_next 21 = .ok (.getfield 28, 3) := by decide +kernel
theorem dX0_next_24 : decode cX0_next 24 = .ok (.iconst 1, 1) := by decide +kernel
theorem dX0_next_25 : decode cX0_next 25 = .ok (.iadd, 1) := by decide +kernel
theorem dX0_next_26 : decode cX0_next 26 = .ok (.aload_n 0, 1) := by decide +kernel
theorem dX0_next_27 : decode cX0_next 27 = .ok (.iconst (-1), 1) := by decide +kernel
theorem dX0_next_28 : decode cX0_next 28 = .ok (.invokevirtual 85, 3) := by decide +kernel
theorem dX0_next_31 : decode cX0_next 31 = .ok (.invokevirtual 88, 3) := by decide +kernel
theorem dX0_next_34 : decode cX0_next 34 = .ok (.putfield 28, 3) := by decide +kernel
theorem dX0_next_37 : decode cX0_next 37 = .ok (.aload_n 0, 1) := by decide +kernel
theorem dX0_next_38 : decode cX0_next 38 = .ok (.getfield 28, 3) := by decide +kernel
theorem dX0_next_41 : decode cX0_next 41 = .ok (.ireturn, 1) := by decide +kernel
theorem dX0_can_0 : decode cX0_can 0 = .ok (.aload_n 0, 1) := by decide +kernel
theorem dX0_can_1 : decode cX0_can 1 = .ok (.aload_n 0, 1) := by decide +kernel
theorem dX0_can_2 : decode cX0_can 2 = .ok (.iconst (-1), 1) := by decide +kernel
theorem dX0_can_3 : decode cX0_can 3 = .ok (.invokevirtual 85, 3) := by decide +kernel
theorem dX0_can_6 : decode cX0_can 6 = .ok (.invokevirtual 94, 3) := by decide +kernel
theorem dX0_can_9 : decode cX0_can 9 = .ok (.ireturn, 1) := by decide +kernel
theorem dX0_forced_0 : decode cX0_forced 0 = .ok (.iload_n 1, 1) := by decide +kernel
theorem dX0_forced_1 : decode cX0_forced 1 = .ok (.invokestatic 32, 3) := by decide +kernel
theorem dX0_forced_4 : decode cX0_forced 4 = .ok (.ifCond .ne 13, 3) := by decide +kernel
theorem dX0_forced_7 : decode cX0_forced 7 = .ok (.new 36, 3) := by decide +kernel
theorem dX0_forced_10 : decode cX0_forced 10 = .ok (.dup, 1) := by decide +kernel
theorem dX0_forced_11 : decode cX0_forced 11 = .ok (.ldc 38, 2) := by decide +kernel
theorem dX0_forced_13 : decode cX0_forced 13 = .ok (.invokespecial 40, 3) := by decide +kernel
theorem dX0_forced_16 : decode cX0_forced 16 = .ok (.athrow, 1) := by decide +kernel
theorem dX0_forced_17 : decode cX0_forced 17 = .ok (.aload_n 0, 1) := by decide +kernel
theorem dX0_forced_18 : decode cX0_forced 18 = .ok (.iconst (-1), 1) := by decide +kernel
theorem dX0_forced_19 : decode cX0_forced 19 = .ok (.invokevirtual 85, 3) := by decide +kernel
theorem dX0_forced_22 : decode cX0_forced 22 = .ok (.istore_n 2, 1) := by decide +kernel
theorem dX0_forced_23 : decode cX0_forced 23 = .ok (.aload_n 0, 1) := by decide +kernel
theorem dX0_forced_24 : decode cX0_forced 24 = .ok (.iload_n 2, 1) := by decide +kernel
theorem dX0_forced_25 : decode cX0_forced 25 = .ok (.iload_n 1, 1) := by decide +kernel
theorem dX0_forced_26 : decode cX0_forced 26 = .ok (.ineg, 1) := by decide +kernel
theorem dX0_forced_27 : decode cX0_forced 27 = .ok (.invokestatic 54, 3) := by decide +kernel
theorem dX0_forced_30 : decode cX0_forced 30 = .ok (.iload_n 1, 1) := by decide +kernel
theorem dX0_forced_31 : decode cX0_forced 31 = .ok (.ineg, 1) := by decide +kernel
theorem dX0_forced_32 : decode cX0_forced 32 = .ok (.invokestatic 61, 3) := by decide +kernel
theorem dX0_forced_35 : decode cX0_forced 35 = .ok (.invokevirtual 69, 3) := by decide +kernel
theorem dX0_forced_38 : decode cX0_forced 38 = .ok (.aload_n 0, 1) := by decide +kernel
theorem dX0_forced_39 : decode cX0_forced 39 = .ok (.iload_n 2, 1) := by decide +kernel
theorem dX0_forced_40 : decode cX0_forced 40 = .ok (.iconst 1, 1) := by decide +kernel
theorem dX0_forced_41 : decode cX0_forced 41 = .ok (.iadd, 1) := by decide +kernel
theorem dX0_forced_42 : decode cX0_forced 42 = .ok (.invokevirtual 94, 3) := by decide +kernel
theorem dX0_forced_45 : decode cX0_forced 45 = .ok (.ifCond .ne 7, 3) := by decide +kernel
theorem dX0_forced_48 : decode cX0_forced 48 = .ok (.iconst 1, 1) := by decide +kernel
theorem dX0_forced_49 : decode cX0_forced 49 = .ok (.goto 4, 3) := by decide +kernel
theorem dX0_forced_52 : decode cX0_forced 52 = .ok (.iconst 0, 1) := by decide +kernel
theorem dX0_forced_53 : decode cX0_forced 53 = .ok (.ireturn, 1) := by decide +kernel
theorem dX0_blames_0 : decode cX0_blames 0 = .ok (.iload_n 1, 1) := by decide +kernel
theorem dX0_blames_1 : decode cX0_blames 1 = .ok (.ifCond .lt 11, 3) := by decide +kernel
theorem dX0_blames_4 : decode cX0_blames 4 = .ok (.iload_n 1, 1) := by decide +kernel
theorem dX0_blames_5 : decode cX0_blames 5 = .ok (.aload_n 0, 1) := by decide +kernel
theorem dX0_blames_6 : decode cX0_blames 6 = .ok (.getfield 80, 3) := by decide +kernel
theorem dX0_blames_9 : decode cX0_blames 9 = .ok (.if_icmp .lt 13, 3) := by decide +kernel
theorem dX0_blames_12 : decode cX0_blames 12 = .ok (.new 97, 3) := by decide +kernel
theorem dX0_blames_15 : decode cX0_blames 15 = .ok (.dup, 1) := by decide +kernel
theorem dX0_blames_16 : decode cX0_blames 16 = .ok (.ldc 99, 2) := by decide +kernel
theorem dX0_blames_18 : decode cX0_blames 18 = .ok (.invokespecial 101, 3) := by decide +kernel
theorem dX0_blames_21 : decode cX0_blames 21 = .ok (.athrow, 1) := by decide +kernel
theorem dX0_blames_22 : decode cX0_blames 22 = .ok (.aload_n 0, 1) := by decide +kernel
theorem dX0_blames_23 : decode cX0_blames 23 = .ok (.aload_n 0, 1) := by decide +kernel
theorem dX0_blames_24 : decode cX0_blames 24 = .ok (.iconst (-1), 1) := by decide +kernel
theorem dX0_blames_25 : decode cX0_blames 25 = .ok (.invokevirtual 85, 3) := by decide +kernel
theorem dX0_blames_28 : decode cX0_blames 28 = .ok (.invokevirtual 94, 3) := by decide +kernel
theorem dX0_blames_31 : decode cX0_blames 31 = .ok (.ifCond .ne 19, 3) := by decide +kernel
theorem dX0_blames_34 : decode cX0_blames 34 = .ok (.aload_n 0, 1) := by decide +kernel
theorem dX0_blames_35 : decode cX0_blames 35 = .ok (.aload_n 0, 1) := by decide +kernel
theorem dX0_blames_36 : decode cX0_blames 36 = .ok (.iload_n 1, 1) := by decide +kernel
theorem dX0_blames_37 : decode cX0_blames 37 = .ok (.invokevirtual 85, 3) := by decide +kernel
theorem dX0_blames_40 : decode cX0_blames 40 = .ok (.invokevirtual 94, 3) := by decide +kernel
theorem dX0_blames_43 : decode cX0_blames 43 = .ok (.ifCond .eq 7, 3) := by decide +kernel
theorem dX0_blames_46 : decode cX0_blames 46 = .ok (.iconst 1, 1) := by decide +kernel
theorem dX0_blames_47 : decode cX0_blames 47 = .ok (.goto 4, 3) := by decide +kernel
theorem dX0_blames_50 : decode cX0_blames 50 = .ok (.iconst 0, 1) := by decide +kernel
theorem dX0_blames_51 : decode cX0_blames 51 = .ok (.ireturn, 1) := by decide +kernel
theorem dX0_count_0 : decode cX0_count 0 = .ok (.iload_n 1, 1) := by decide +kernel
theorem dX0_count_1 : decode cX0_count 1 = .ok (.iconst 1, 1) := by decide +kernel
theorem dX0_count_2 : decode cX0_count 2 = .ok (.if_icmp .lt 9, 3) := by decide +kernel
theorem dX0_count_5 : decode cX0_count 5 = .ok (.iload_n 1, 1) := by decide +kernel
theorem dX0_count_6 : decode cX0_count 6 = .ok (.bipush 64, 2) := by decide +kernel
theorem dX0_count_8 : decode cX0_count 8 = .ok (.if_icmp .le 13, 3) := by decide +kernel
theorem dX0_count_11 : decode cX0_count 11 = .ok (.new 36, 3) := by decide +kernel
theorem dX0_count_14 : decode cX0_count 14 = .ok (.dup, 1) := by decide +kernel
theorem dX0_count_15 : decode cX0_count 15 = .ok (.ldc 102, 2) := by decide +kernel
theorem dX0_count_17 : decode cX0_count 17 = .ok (.invokespecial 40, 3) := by decide +kernel
theorem dX0_count_20 : decode cX0_count 20 = .ok (.athrow, 1) := by decide +kernel
theorem dX0_count_21 : decode cX0_count 21 = .ok (.aload_n 0, 1) := by decide +kernel
theorem dX0_count_22 : decode cX0_count 22 = .ok (.iconst (-1), 1) := by decide +kernel
theorem dX0_count_23 : decode cX0_count 23 = .ok (.invokevirtual 85, 3) := by decide +kernel
theorem dX0_count_26 : decode cX0_count 26 = .ok (.istore_n 2, 1) := by decide +kernel
theorem dX0_count_27 : decode cX0_count 27 = .ok (.iconst 0, 1) := by decide +kernel
theorem dX0_count_28 : decode cX0_count 28 = .ok (.istore_n 3, 1) := by decide +kernel
theorem dX0_count_29 : decode cX0_count 29 = .ok (.iconst 0, 1) := by decide +kernel
theorem dX0_count_30 : decode cX0_count 30 = .ok (.istore 4, 2) := by decide +kernel
theorem dX0_count_32 : decode cX0_count 32 = .ok (.iload 4, 2) := by decide +kernel
theorem dX0_count_34 : decode cX0_count 34 = .ok (.iload_n 1, 1) := by decide +kernel
theorem dX0_count_35 : decode cX0_count 35 = .ok (.if_icmp .ge 31, 3) := by decide +kernel
theorem dX0_count_38 : decode cX0_count 38 = .ok (.aload_n 0, 1) := by decide +kernel
theorem dX0_count_39 : decode cX0_count 39 = .ok (.iload_n 3, 1) := by decide +kernel
theorem dX0_count_40 : decode cX0_count 40 = .ok (.iload_n 2, 1) := by decide +kernel
theorem dX0_count_41 : decode cX0_count 41 = .ok (.invokevirtual 88, 3) := by decide +kernel
theorem dX0_count_44 : decode cX0_count 44 = .ok (.istore 5, 2) := by decide +kernel
theorem dX0_count_46 : decode cX0_count 46 = .ok (.iload 5, 2) := by decide +kernel
theorem dX0_count_48 : decode cX0_count 48 = .ok (.iconst (-1), 1) := by decide +kernel
theorem dX0_count_49 : decode cX0_count 49 = .ok (.if_icmp .ne 6, 3) := by decide +kernel
theorem dX0_count_52 : decode cX0_count 52 = .ok (.iload 4, 2) := by decide +kernel
theorem dX0_count_54 : decode cX0_count 54 = .ok (.ireturn, 1) := by decide +kernel
theorem dX0_count_55 : decode cX0_count 55 = .ok (.iload 5, 2) := by decide +kernel
theorem dX0_count_57 : decode cX0_count 57 = .ok (.iconst 1, 1) := by decide +kernel
theorem dX0_count_58 : decode cX0_count 58 = .ok (.iadd, 1) := by decide +kernel
theorem dX0_count_59 : decode cX0_count 59 = .ok (.istore_n 3, 1) := by decide +kernel
theorem dX0_count_60 : decode cX0_count 60 = .ok (.iinc 4 1, 3) := by decide +kernel
theorem dX0_count_63 : decode cX0_count 63 = .ok (.goto (-31), 3) := by decide +kernel
theorem dX0_count_66 : decode cX0_count 66 = .ok (.iload_n 1, 1) := by decide +kernel
theorem dX0_count_67 : decode cX0_count 67 = .ok (.ireturn, 1) := by decide +kernel
theorem dX0_value_0 : decode cX0_value 0 = .ok (.iload_n 1, 1) := by decide +kernel
theorem dX0_value_1 : decode cX0_value 1 = .ok (.iconst 1, 1) := by decide +kernel
theorem dX0_value_2 : decode cX0_value 2 = .ok (.if_icmp .lt 9, 3) := by decide +kernel
theorem dX0_value_5 : decode cX0_value 5 = .ok (.iload_n 1, 1) := by decide +kernel
theorem dX0_value_6 : decode cX0_value 6 = .ok (.bipush 18, 2) := by decide +kernel
theorem dX0_value_8 : decode cX0_value 8 = .ok (.if_icmp .le 13, 3) := by decide +kernel
theorem dX0_value_11 : decode cX0_value 11 = .ok (.new 36, 3) := by decide +kernel
theorem dX0_value_14 : decode cX0_value 14 = .ok (.dup, 1) := by decide +kernel
theorem dX0_value_15 : decode cX0_value 15 = .ok (.ldc 104, 2) := by decide +kernel
theorem dX0_value_17 : decode cX0_value 17 = .ok (.invokespecial 40, 3) := by decide +kernel
theorem dX0_value_20 : decode cX0_value 20 = .ok (.athrow, 1) := by decide +kernel
theorem dX0_value_21 : decode cX0_value 21 = .ok (.aload_n 0, 1) := by decide +kernel
theorem dX0_value_22 : decode cX0_value 22 = .ok (.getfield 28, 3) := by decide +kernel
theorem dX0_value_25 : decode cX0_value 25 = .ok (.iconst (-1), 1) := by decide +kernel
theorem dX0_value_26 : decode cX0_value 26 = .ok (.if_icmp .ne 13, 3) := by decide +kernel
theorem dX0_value_29 : decode cX0_value 29 = .ok (.new 46, 3) := by decide +kernel
theorem dX0_value_32 : decode cX0_value 32 = .ok (.dup, 1) := by decide +kernel
theorem dX0_value_33 : decode cX0_value 33 = .ok (.ldc 92, 2) := by decide +kernel
theorem dX0_value_35 : decode cX0_value 35 = .ok (.invokespecial 50, 3) := by decide +kernel
theorem dX0_value_38 : decode cX0_value 38 = .ok (.athrow, 1) := by decide +kernel
theorem dX0_value_39 : decode cX0_value 39 = .ok (.aload_n 0, 1) := by decide +kernel
theorem dX0_value_40 : decode cX0_value 40 = .ok (.getfield 28, 3) := by decide +kernel
theorem dX0_value_43 : decode cX0_value 43 = .ok (.iload_n 1, 1) := by decide +kernel
theorem dX0_value_44 : decode cX0_value 44 = .ok (.iconst 1, 1) := by decide +kernel
theorem dX0_value_45 : decode cX0_value 45 = .ok (.isub, 1) := by decide +kernel
theorem dX0_value_46 : decode cX0_value 46 = .ok (.ishr, 1) := by decide +kernel
theorem dX0_value_47 : decode cX0_value 47 = .ok (.iconst 1, 1) := by decide +kernel
theorem dX0_value_48 : decode cX0_value 48 = .ok (.iand, 1) := by decide +kernel
theorem dX0_value_49 : decode cX0_value 49 = .ok (.ireturn, 1) := by decide +kernel
theorem dX0_look_0 : decode cX0_look 0 = .ok (.iload_n 1, 1) := by decide +kernel
theorem dX0_look_1 : decode cX0_look 1 = .ok (.tableswitch 69 0 4 #[35, 40, 45, 50, 55], 35) := by decide +kernel
theorem dX0_look_36 : decode cX0_look 36 = .ok (.aload_n 0, 1) := by decide +kernel
theorem dX0_look_37 : decode cX0_look 37 = .ok (.getfield 64, 3) := by decide +kernel
theorem dX0_look_40 : decode cX0_look 40 = .ok (.ireturn, 1) := by decide +kernel
theorem dX0_look_41 : decode cX0_look 41 = .ok (.aload_n 0, 1) := by decide +kernel
theorem dX0_look_42 : decode cX0_look 42 = .ok (.getfield 73, 3) := by decide +kernel
theorem dX0_look_45 : decode cX0_look 45 = .ok (.ireturn, 1) := by decide +kernel
theorem dX0_look_46 : decode cX0_look 46 = .ok (.aload_n 0, 1) := by decide +kernel
theorem dX0_look_47 : decode cX0_look 47 = .ok (.getfield 80, 3) := by decide +kernel
theorem dX0_look_50 : decode cX0_look 50 = .ok (.ireturn, 1) := by decide +kernel
theorem dX0_look_51 : decode cX0_look 51 = .ok (.aload_n 0, 1) := by decide +kernel
theorem dX0_look_52 : decode cX0_look 52 = .ok (.getfield 43, 3) := by decide +kernel
theorem dX0_look_55 : decode cX0_look 55 = .ok (.ireturn, 1) := by decide +kernel
theorem dX0_look_56 : decode cX0_look 56 = .ok (.aload_n 0, 1) := by decide +kernel
theorem dX0_look_57 : decode cX0_look 57 = .ok (.getfield 28, 3) := by decide +kernel
theorem dX0_look_60 : decode cX0_look 60 = .ok (.iconst (-1), 1) := by decide +kernel
theorem dX0_look_61 : decode cX0_look 61 = .ok (.if_icmp .ne 7, 3) := by decide +kernel
theorem dX0_look_64 : decode cX0_look 64 = .ok (.iconst 0, 1) := by decide +kernel
theorem dX0_look_65 : decode cX0_look 65 = .ok (.goto 4, 3) := by decide +kernel
theorem dX0_look_68 : decode cX0_look 68 = .ok (.iconst 1, 1) := by decide +kernel
theorem dX0_look_69 : decode cX0_look 69 = .ok (.ireturn, 1) := by decide +kernel
theorem dX0_look_70 : decode cX0_look 70 = .ok (.new 36, 3) := by decide +kernel
theorem dX0_look_73 : decode cX0_look 73 = .ok (.dup, 1) := by decide +kernel
theorem dX0_look_74 : decode cX0_look 74 = .ok (.ldc 106, 2) := by decide +kernel
theorem dX0_look_76 : decode cX0_look 76 = .ok (.invokespecial 40, 3) := by decide +kernel
theorem dX0_look_79 : decode cX0_look 79 = .ok (.athrow, 1) := by decide +kernel
theorem dX0_isLiteral_0 : decode cX0_isLiteral 0 = .ok (.iload_n 0, 1) := by decide +kernel
theorem dX0_isLiteral_1 : decode cX0_isLiteral 1 = .ok (.ifCond .eq 19, 3) := by decide +kernel
theorem dX0_isLiteral_4 : decode cX0_isLiteral 4 = .ok (.iload_n 0, 1) := by decide +kernel
theorem dX0_isLiteral_5 : decode cX0_isLiteral 5 = .ok (.bipush (-18), 2) := by decide +kernel
theorem dX0_isLiteral_7 : decode cX0_isLiteral 7 = .ok (.if_icmp .lt 13, 3) := by decide +kernel
theorem dX0_isLiteral_10 : decode cX0_isLiteral 10 = .ok (.iload_n 0, 1) := by decide +kernel
theorem dX0_isLiteral_11 : decode cX0_isLiteral 11 = .ok (.bipush 18, 2) := by decide +kernel
theorem dX0_isLiteral_13 : decode cX0_isLiteral 13 = .ok (.if_icmp .gt 7, 3) := by decide +kernel
theorem dX0_isLiteral_16 : decode cX0_isLiteral 16 = .ok (.iconst 1, 1) := by decide +kernel
theorem dX0_isLiteral_17 : decode cX0_isLiteral 17 = .ok (.goto 4, 3) := by decide +kernel
theorem dX0_isLiteral_20 : decode cX0_isLiteral 20 = .ok (.iconst 0, 1) := by decide +kernel
theorem dX0_isLiteral_21 : decode cX0_isLiteral 21 = .ok (.ireturn, 1) := by decide +kernel
theorem dX0_yesMask_0 : decode cX0_yesMask 0 = .ok (.iload_n 0, 1) := by decide +kernel
theorem dX0_yesMask_1 : decode cX0_yesMask 1 = .ok (.ifCond .le 11, 3) := by decide +kernel
theorem dX0_yesMask_4 : decode cX0_yesMask 4 = .ok (.iconst 1, 1) := by decide +kernel
theorem dX0_yesMask_5 : decode cX0_yesMask 5 = .ok (.iload_n 0, 1) := by decide +kernel
theorem dX0_yesMask_6 : decode cX0_yesMask 6 = .ok (.iconst 1, 1) := by decide +kernel
theorem dX0_yesMask_7 : decode cX0_yesMask 7 = .ok (.isub, 1) := by decide +kernel
theorem dX0_yesMask_8 : decode cX0_yesMask 8 = .ok (.ishl, 1) := by decide +kernel
theorem dX0_yesMask_9 : decode cX0_yesMask 9 = .ok (.goto 4, 3) := by decide +kernel
theorem dX0_yesMask_12 : decode cX0_yesMask 12 = .ok (.iconst 0, 1) := by decide +kernel
theorem dX0_yesMask_13 : decode cX0_yesMask 13 = .ok (.ireturn, 1) := by decide +kernel
theorem dX0_noMask_0 : decode cX0_noMask 0 = .ok (.iload_n 0, 1) := by decide +kernel
theorem dX0_noMask_1 : decode cX0_noMask 1 = .ok (.ifCond .ge 12, 3) := by decide +kernel
theorem dX0_noMask_4 : decode cX0_noMask 4 = .ok (.iconst 1, 1) := by decide +kernel
theorem dX0_noMask_5 : decode cX0_noMask 5 = .ok (.iload_n 0, 1) := by decide +kernel
theorem dX0_noMask_6 : decode cX0_noMask 6 = .ok (.ineg, 1) := by decide +kernel
theorem dX0_noMask_7 : decode cX0_noMask 7 = .ok (.iconst 1, 1) := by decide +kernel
theorem dX0_noMask_8 : decode cX0_noMask 8 = .ok (.isub, 1) := by decide +kernel
theorem dX0_noMask_9 : decode cX0_noMask 9 = .ok (.ishl, 1) := by decide +kernel
theorem dX0_noMask_10 : decode cX0_noMask 10 = .ok (.goto 4, 3) := by decide +kernel
theorem dX0_noMask_13 : decode cX0_noMask 13 = .ok (.iconst 0, 1) := by decide +kernel
theorem dX0_noMask_14 : decode cX0_noMask 14 = .ok (.ireturn, 1) := by decide +kernel
theorem dX0_writeRow_0 : decode cX0_writeRow 0 = .ok (.iload_n 1, 1) := by decide +kernel
theorem dX0_writeRow_1 : decode cX0_writeRow 1 = .ok (.ifCond .lt 24, 3) := by decide +kernel
theorem dX0_writeRow_4 : decode cX0_writeRow 4 = .ok (.iload_n 1, 1) := by decide +kernel
theorem dX0_writeRow_5 : decode cX0_writeRow 5 = .ok (.sipush 419, 3) := by decide +kernel
theorem dX0_writeRow_8 : decode cX0_writeRow 8 = .ok (.if_icmp .ge 17, 3) := by decide +kernel
theorem dX0_writeRow_11 : decode cX0_writeRow 11 = .ok (.aload_n 0, 1) := by decide +kernel
theorem dX0_writeRow_12 : decode cX0_writeRow 12 = .ok (.getfield 9, 3) := by decide +kernel
theorem dX0_writeRow_15 : decode cX0_writeRow 15 = .ok (.iload_n 1, 1) := by decide +kernel
theorem dX0_writeRow_16 : decode cX0_writeRow 16 = .ok (.iload_n 2, 1) := by decide +kernel
theorem dX0_writeRow_17 : decode cX0_writeRow 17 = .ok (.iastore, 1) := by decide +kernel
theorem dX0_writeRow_18 : decode cX0_writeRow 18 = .ok (.aload_n 0, 1) := by decide +kernel
theorem dX0_writeRow_19 : decode cX0_writeRow 19 = .ok (.getfield 13, 3) := by decide +kernel
theorem dX0_writeRow_22 : decode cX0_writeRow 22 = .ok (.iload_n 1, 1) := by decide +kernel
theorem dX0_writeRow_23 : decode cX0_writeRow 23 = .ok (.iload_n 3, 1) := by decide +kernel
theorem dX0_writeRow_24 : decode cX0_writeRow 24 = .ok (.iastore, 1) := by decide +kernel
theorem dX0_writeRow_25 : decode cX0_writeRow 25 = .ok (.return_, 1) := by decide +kernel
theorem dX0_writeAssumptions_0 : decode cX0_writeAssumptions 0 = .ok (.aload_n 0, 1) := by decide +kernel
theorem dX0_writeAssumptions_1 : decode cX0_writeAssumptions 1 = .ok (.getfield 64, 3) := by decide +kernel
theorem dX0_writeAssumptions_4 : decode cX0_writeAssumptions 4 = .ok (.istore_n 2, 1) := by decide +kernel
theorem dX0_writeAssumptions_5 : decode cX0_writeAssumptions 5 = .ok (.iconst 0, 1) := by decide +kernel
theorem dX0_writeAssumptions_6 : decode cX0_writeAssumptions 6 = .ok (.istore_n 3, 1) := by decide +kernel
theorem dX0_writeAssumptions_7 : decode cX0_writeAssumptions 7 = .ok (.iload_n 3, 1) := by decide +kernel
theorem dX0_writeAssumptions_8 : decode cX0_writeAssumptions 8 = .ok (.aload_n 0, 1) := by decide +kernel
theorem dX0_writeAssumptions_9 : decode cX0_writeAssumptions 9 = .ok (.getfield 80, 3) := by decide +kernel
theorem dX0_writeAssumptions_12 : decode cX0_writeAssumptions 12 = .ok (.if_icmp .ge 46, 3) := by decide +kernel
theorem dX0_writeAssumptions_15 : decode cX0_writeAssumptions 15 = .ok (.iload_n 3, 1) := by decide +kernel
theorem dX0_writeAssumptions_16 : decode cX0_writeAssumptions 16 = .ok (.bipush 18, 2) := by decide +kernel
theorem dX0_writeAssumptions_18 : decode cX0_writeAssumptions 18 = .ok (.if_icmp .ge 40, 3) := by decide +kernel
theorem dX0_writeAssumptions_21 : decode cX0_writeAssumptions 21 = .ok (.iload_n 3, 1) := by decide +kernel
theorem dX0_writeAssumptions_22 : decode cX0_writeAssumptions 22 = .ok (.iload_n 1, 1) := by decide +kernel
theorem dX0_writeAssumptions_23 : decode cX0_writeAssumptions 23 = .ok (.if_icmp .eq 29, 3) := by decide +kernel
theorem dX0_writeAssumptions_26 : decode cX0_writeAssumptions 26 = .ok (.aload_n 0, 1) := by decide +kernel
theorem dX0_writeAssumptions_27 : decode cX0_writeAssumptions 27 = .ok (.iload_n 2, 1) := by decide +kernel
theorem dX0_writeAssumptions_28 : decode cX0_writeAssumptions 28 = .ok (.aload_n 0, 1) := by decide +kernel
theorem dX0_writeAssumptions_29 : decode cX0_writeAssumptions 29 = .ok (.getfield 19, 3) := by decide +kernel
theorem dX0_writeAssumptions_32 : decode cX0_writeAssumptions 32 = .ok (.iload_n 3, 1) := by decide +kernel
theorem dX0_writeAssumptions_33 : decode cX0_writeAssumptions 33 = .ok (.iaload, 1) := by decide +kernel
theorem dX0_writeAssumptions_34 : decode cX0_writeAssumptions 34 = .ok (.invokestatic 54, 3) := by decide +kernel
theorem dX0_writeAssumptions_37 : decode cX0_writeAssumptions 37 = .ok (.aload_n 0, 1) := by decide +kernel
theorem dX0_writeAssumptions_38 : decode cX0_writeAssumptions 38 = .ok (.getfield 19, 3) := by decide +kernel
theorem dX0_writeAssumptions_41 : decode cX0_writeAssumptions 41 = .ok (.iload_n 3, 1) := by decide +kernel
theorem dX0_writeAssumptions_42 : decode cX0_writeAssumptions 42 = .ok (.iaload, 1) := by decide +kernel
theorem dX0_writeAssumptions_43 : decode cX0_writeAssumptions 43 = .ok (.invokestatic 61, 3) := by decide +kernel
theorem dX0_writeAssumptions_46 : decode cX0_writeAssumptions 46 = .ok (.invokevirtual 69, 3) := by decide +kernel
theorem dX0_writeAssumptions_49 : decode cX0_writeAssumptions 49 = .ok (.iinc 2 1, 3) := by decide +kernel
theorem dX0_writeAssumptions_52 : decode cX0_writeAssumptions 52 = .ok (.iinc 3 1, 3) := by decide +kernel
theorem dX0_writeAssumptions_55 : decode cX0_writeAssumptions 55 = .ok (.goto (-48), 3) := by decide +kernel
theorem dX0_writeAssumptions_58 : decode cX0_writeAssumptions 58 = .ok (.iload_n 2, 1) := by decide +kernel
theorem dX0_writeAssumptions_59 : decode cX0_writeAssumptions 59 = .ok (.ireturn, 1) := by decide +kernel
theorem dX0_isSatisfied_0 : decode cX0_isSatisfied 0 = .ok (.aload_n 0, 1) := by decide +kernel
theorem dX0_isSatisfied_1 : decode cX0_isSatisfied 1 = .ok (.iconst 0, 1) := by decide +kernel
theorem dX0_isSatisfied_2 : decode cX0_isSatisfied 2 = .ok (.iload_n 1, 1) := by decide +kernel
theorem dX0_isSatisfied_3 : decode cX0_isSatisfied 3 = .ok (.invokevirtual 88, 3) := by decide +kernel
theorem dX0_isSatisfied_6 : decode cX0_isSatisfied 6 = .ok (.iconst (-1), 1) := by decide +kernel
theorem dX0_isSatisfied_7 : decode cX0_isSatisfied 7 = .ok (.if_icmp .eq 7, 3) := by decide +kernel
theorem dX0_isSatisfied_10 : decode cX0_isSatisfied 10 = .ok (.iconst 1, 1) := by decide +kernel
theorem dX0_isSatisfied_11 : decode cX0_isSatisfied 11 = .ok (.goto 4, 3) := by decide +kernel
theorem dX0_isSatisfied_14 : decode cX0_isSatisfied 14 = .ok (.iconst 0, 1) := by decide +kernel
theorem dX0_isSatisfied_15 : decode cX0_isSatisfied 15 = .ok (.ireturn, 1) := by decide +kernel
theorem dX0_leastFrom_0 : decode cX0_leastFrom 0 = .ok (.iload_n 1, 1) := by decide +kernel
theorem dX0_leastFrom_1 : decode cX0_leastFrom 1 = .ok (.ldc 108, 2) := by decide +kernel
theorem dX0_leastFrom_3 : decode cX0_leastFrom 3 = .ok (.if_icmp .le 5, 3) := by decide +kernel
theorem dX0_leastFrom_6 : decode cX0_leastFrom 6 = .ok (.iconst (-1), 1) := by decide +kernel
theorem dX0_leastFrom_7 : decode cX0_leastFrom 7 = .ok (.ireturn, 1) := by decide +kernel
theorem dX0_leastFrom_8 : decode cX0_leastFrom 8 = .ok (.aload_n 0, 1) := by decide +kernel
theorem dX0_leastFrom_9 : decode cX0_leastFrom 9 = .ok (.iload_n 1, 1) := by decide +kernel
theorem dX0_leastFrom_10 : decode cX0_leastFrom 10 = .ok (.invokevirtual 109, 3) := by decide +kernel
theorem dX0_leastFrom_13 : decode cX0_leastFrom 13 = .ok (.iload_n 1, 1) := by decide +kernel
theorem dX0_leastFrom_14 : decode cX0_leastFrom 14 = .ok (.istore_n 3, 1) := by decide +kernel
theorem dX0_leastFrom_15 : decode cX0_leastFrom 15 = .ok (.iconst 0, 1) := by decide +kernel
theorem dX0_leastFrom_16 : decode cX0_leastFrom 16 = .ok (.istore 4, 2) := by decide +kernel
theorem dX0_leastFrom_18 : decode cX0_leastFrom 18 = .ok (.iload 4, 2) := by decide +kernel
theorem dX0_leastFrom_20 : decode cX0_leastFrom 20 = .ok (.ldc 108, 2) := by decide +kernel
theorem dX0_leastFrom_22 : decode cX0_leastFrom 22 = .ok (.if_icmp .gt 57, 3) := by decide +kernel
theorem dX0_leastFrom_25 : decode cX0_leastFrom 25 = .ok (.iload_n 3, 1) := by decide +kernel
theorem dX0_leastFrom_26 : decode cX0_leastFrom 26 = .ok (.iconst (-1), 1) := by decide +kernel
theorem dX0_leastFrom_27 : decode cX0_leastFrom 27 = .ok (.if_icmp .eq 52, 3) := by decide +kernel
theorem dX0_leastFrom_30 : decode cX0_leastFrom 30 = .ok (.aload_n 0, 1) := by decide +kernel
theorem dX0_leastFrom_31 : decode cX0_leastFrom 31 = .ok (.iload_n 3, 1) := by decide +kernel
theorem dX0_leastFrom_32 : decode cX0_leastFrom 32 = .ok (.iload_n 2, 1) := by decide +kernel
theorem dX0_leastFrom_33 : decode cX0_leastFrom 33 = .ok (.invokevirtual 113, 3) := by decide +kernel
theorem dX0_leastFrom_36 : decode cX0_leastFrom 36 = .ok (.istore 5, 2) := by decide +kernel
theorem dX0_leastFrom_38 : decode cX0_leastFrom 38 = .ok (.iload 5, 2) := by decide +kernel
theorem dX0_leastFrom_40 : decode cX0_leastFrom 40 = .ok (.ifCond .lt 11, 3) := by decide +kernel
theorem dX0_leastFrom_43 : decode cX0_leastFrom 43 = .ok (.iload 5, 2) := by decide +kernel
theorem dX0_leastFrom_45 : decode cX0_leastFrom 45 = .ok (.sipush 419, 3) := by decide +kernel
theorem dX0_leastFrom_48 : decode cX0_leastFrom 48 = .ok (.if_icmp .lt 5, 3) := by decide +kernel
theorem dX0_leastFrom_51 : decode cX0_leastFrom 51 = .ok (.iload_n 3, 1) := by decide +kernel
theorem dX0_leastFrom_52 : decode cX0_leastFrom 52 = .ok (.ireturn, 1) := by decide +kernel
theorem dX0_leastFrom_53 : decode cX0_leastFrom 53 = .ok (.aload_n 0, 1) := by decide +kernel
theorem dX0_leastFrom_54 : decode cX0_leastFrom 54 = .ok (.iload_n 3, 1) := by decide +kernel
theorem dX0_leastFrom_55 : decode cX0_leastFrom 55 = .ok (.aload_n 0, 1) := by decide +kernel
theorem dX0_leastFrom_56 : decode cX0_leastFrom 56 = .ok (.getfield 9, 3) := by decide +kernel
theorem dX0_leastFrom_59 : decode cX0_leastFrom 59 = .ok (.iload 5, 2) := by decide +kernel
theorem dX0_leastFrom_61 : decode cX0_leastFrom 61 = .ok (.iaload, 1) := by decide +kernel
theorem dX0_leastFrom_62 : decode cX0_leastFrom 62 = .ok (.aload_n 0, 1) := by decide +kernel
theorem dX0_leastFrom_63 : decode cX0_leastFrom 63 = .ok (.getfield 13, 3) := by decide +kernel
theorem dX0_leastFrom_66 : decode cX0_leastFrom 66 = .ok (.iload 5, 2) := by decide +kernel
theorem dX0_leastFrom_68 : decode cX0_leastFrom 68 = .ok (.iaload, 1) := by decide +kernel
theorem dX0_leastFrom_69 : decode cX0_leastFrom 69 = .ok (.invokevirtual 116, 3) := by decide +kernel
theorem dX0_leastFrom_72 : decode cX0_leastFrom 72 = .ok (.istore_n 3, 1) := by decide +kernel
theorem dX0_leastFrom_73 : decode cX0_leastFrom 73 = .ok (.iinc 4 1, 3) := by decide +kernel
theorem dX0_leastFrom_76 : decode cX0_leastFrom 76 = .ok (.goto (-58), 3) := by decide +kernel
theorem dX0_leastFrom_79 : decode cX0_leastFrom 79 = .ok (.iconst (-1), 1) := by decide +kernel
theorem dX0_leastFrom_80 : decode cX0_leastFrom 80 = .ok (.ireturn, 1) := by decide +kernel
theorem dX0_giveReasonsOfStart_0 : decode cX0_giveReasonsOfStart 0 = .ok (.iconst 0, 1) := by decide +kernel
theorem dX0_giveReasonsOfStart_1 : decode cX0_giveReasonsOfStart 1 = .ok (.istore_n 2, 1) := by decide +kernel
theorem dX0_giveReasonsOfStart_2 : decode cX0_giveReasonsOfStart 2 = .ok (.iload_n 2, 1) := by decide +kernel
theorem dX0_giveReasonsOfStart_3 : decode cX0_giveReasonsOfStart 3 = .ok (.bipush 18, 2) := by decide +kernel
theorem dX0_giveReasonsOfStart_5 : decode cX0_giveReasonsOfStart 5 = .ok (.if_icmp .ge 33, 3) := by decide +kernel
theorem dX0_giveReasonsOfStart_8 : decode cX0_giveReasonsOfStart 8 = .ok (.aload_n 0, 1) := by decide +kernel
theorem dX0_giveReasonsOfStart_9 : decode cX0_giveReasonsOfStart 9 = .ok (.getfield 22, 3) := by decide +kernel
theorem dX0_giveReasonsOfStart_12 : decode cX0_giveReasonsOfStart 12 = .ok (.iload_n 2, 1) := by decide +kernel
theorem dX0_giveReasonsOfStart_13 : decode cX0_giveReasonsOfStart 13 = .ok (.ldc 108, 2) := by decide +kernel
theorem dX0_giveReasonsOfStart_15 : decode cX0_giveReasonsOfStart 15 = .ok (.iload_n 1, 1) := by decide +kernel
theorem dX0_giveReasonsOfStart_16 : decode cX0_giveReasonsOfStart 16 = .ok (.iconst (-1), 1) := by decide +kernel
theorem dX0_giveReasonsOfStart_17 : decode cX0_giveReasonsOfStart 17 = .ok (.ixor, 1) := by decide +kernel
theorem dX0_giveReasonsOfStart_18 : decode cX0_giveReasonsOfStart 18 = .ok (.iand, 1) := by decide +kernel
theorem dX0_giveReasonsOfStart_19 : decode cX0_giveReasonsOfStart 19 = .ok (.bipush (-2), 2) := by decide +kernel
theorem dX0_giveReasonsOfStart_21 : decode cX0_giveReasonsOfStart 21 = .ok (.iload_n 2, 1) := by decide +kernel
theorem dX0_giveReasonsOfStart_22 : decode cX0_giveReasonsOfStart 22 = .ok (.ishl, 1) := by decide +kernel
theorem dX0_giveReasonsOfStart_23 : decode cX0_giveReasonsOfStart 23 = .ok (.iand, 1) := by decide +kernel
theorem dX0_giveReasonsOfStart_24 : decode cX0_giveReasonsOfStart 24 = .ok (.iastore, 1) := by decide +kernel
theorem dX0_giveReasonsOfStart_25 : decode cX0_giveReasonsOfStart 25 = .ok (.aload_n 0, 1) := by decide +kernel
theorem dX0_giveReasonsOfStart_26 : decode cX0_giveReasonsOfStart 26 = .ok (.getfield 25, 3) := by decide +kernel
theorem dX0_giveReasonsOfStart_29 : decode cX0_giveReasonsOfStart 29 = .ok (.iload_n 2, 1) := by decide +kernel
theorem dX0_giveReasonsOfStart_30 : decode cX0_giveReasonsOfStart 30 = .ok (.iconst 0, 1) := by decide +kernel
theorem dX0_giveReasonsOfStart_31 : decode cX0_giveReasonsOfStart 31 = .ok (.iastore, 1) := by decide +kernel
theorem dX0_giveReasonsOfStart_32 : decode cX0_giveReasonsOfStart 32 = .ok (.iinc 2 1, 3) := by decide +kernel
theorem dX0_giveReasonsOfStart_35 : decode cX0_giveReasonsOfStart 35 = .ok (.goto (-33), 3) := by decide +kernel
theorem dX0_giveReasonsOfStart_38 : decode cX0_giveReasonsOfStart 38 = .ok (.return_, 1) := by decide +kernel
theorem dX0_falseRow_0 : decode cX0_falseRow 0 = .ok (.iconst (-1), 1) := by decide +kernel
theorem dX0_falseRow_1 : decode cX0_falseRow 1 = .ok (.istore_n 3, 1) := by decide +kernel
theorem dX0_falseRow_2 : decode cX0_falseRow 2 = .ok (.iconst 0, 1) := by decide +kernel
theorem dX0_falseRow_3 : decode cX0_falseRow 3 = .ok (.istore 4, 2) := by decide +kernel
theorem dX0_falseRow_5 : decode cX0_falseRow 5 = .ok (.iconst 0, 1) := by decide +kernel
theorem dX0_falseRow_6 : decode cX0_falseRow 6 = .ok (.istore 5, 2) := by decide +kernel
theorem dX0_falseRow_8 : decode cX0_falseRow 8 = .ok (.iload 5, 2) := by decide +kernel
theorem dX0_falseRow_10 : decode cX0_falseRow 10 = .ok (.iload_n 2, 1) := by decide +kernel
theorem dX0_falseRow_11 : decode cX0_falseRow 11 = .ok (.if_icmp .ge 88, 3) := by decide +kernel
theorem dX0_falseRow_14 : decode cX0_falseRow 14 = .ok (.iload 5, 2) := by decide +kernel
theorem dX0_falseRow_16 : decode cX0_falseRow 16 = .ok (.sipush 419, 3) := by decide +kernel
theorem dX0_falseRow_19 : decode cX0_falseRow 19 = .ok (.if_icmp .ge 80, 3) := by decide +kernel
theorem dX0_falseRow_22 : decode cX0_falseRow 22 = .ok (.aload_n 0, 1) := by decide +kernel
theorem dX0_falseRow_23 : decode cX0_falseRow 23 = .ok (.getfield 9, 3) := by decide +kernel
theorem dX0_falseRow_26 : decode cX0_falseRow 26 = .ok (.iload 5, 2) := by decide +kernel
theorem dX0_falseRow_28 : decode cX0_falseRow 28 = .ok (.iaload, 1) := by decide +kernel
theorem dX0_falseRow_29 : decode cX0_falseRow 29 = .ok (.iload_n 1, 1) := by decide +kernel
theorem dX0_falseRow_30 : decode cX0_falseRow 30 = .ok (.iand, 1) := by decide +kernel
theorem dX0_falseRow_31 : decode cX0_falseRow 31 = .ok (.aload_n 0, 1) := by decide +kernel
theorem dX0_falseRow_32 : decode cX0_falseRow 32 = .ok (.getfield 13, 3) := by decide +kernel
theorem dX0_falseRow_35 : decode cX0_falseRow 35 = .ok (.iload 5, 2) := by decide +kernel
theorem dX0_falseRow_37 : decode cX0_falseRow 37 = .ok (.iaload, 1) := by decide +kernel
theorem dX0_falseRow_38 : decode cX0_falseRow 38 = .ok (.iload_n 1, 1) := by decide +kernel
theorem dX0_falseRow_39 : decode cX0_falseRow 39 = .ok (.iconst (-1), 1) := by decide +kernel
theorem dX0_falseRow_40 : decode cX0_falseRow 40 = .ok (.ixor, 1) := by decide +kernel
theorem dX0_falseRow_41 : decode cX0_falseRow 41 = .ok (.iand, 1) := by decide +kernel
theorem dX0_falseRow_42 : decode cX0_falseRow 42 = .ok (.ior, 1) := by decide +kernel
theorem dX0_falseRow_43 : decode cX0_falseRow 43 = .ok (.ifCond .ne 50, 3) := by decide +kernel
theorem dX0_falseRow_46 : decode cX0_falseRow 46 = .ok (.aload_n 0, 1) := by decide +kernel
theorem dX0_falseRow_47 : decode cX0_falseRow 47 = .ok (.getfield 9, 3) := by decide +kernel
theorem dX0_falseRow_50 : decode cX0_falseRow 50 = .ok (.iload 5, 2) := by decide +kernel
theorem dX0_falseRow_52 : decode cX0_falseRow 52 = .ok (.iaload, 1) := by decide +kernel
theorem dX0_falseRow_53 : decode cX0_falseRow 53 = .ok (.aload_n 0, 1) := by decide +kernel
theorem dX0_falseRow_54 : decode cX0_falseRow 54 = .ok (.getfield 13, 3) := by decide +kernel
theorem dX0_falseRow_57 : decode cX0_falseRow 57 = .ok (.iload 5, 2) := by decide +kernel
theorem dX0_falseRow_59 : decode cX0_falseRow 59 = .ok (.iaload, 1) := by decide +kernel
theorem dX0_falseRow_60 : decode cX0_falseRow 60 = .ok (.ior, 1) := by decide +kernel
theorem dX0_falseRow_61 : decode cX0_falseRow 61 = .ok (.istore 6, 2) := by decide +kernel
theorem dX0_falseRow_63 : decode cX0_falseRow 63 = .ok (.iload 6, 2) := by decide +kernel
theorem dX0_falseRow_65 : decode cX0_falseRow 65 = .ok (.iload 6, 2) := by decide +kernel
theorem dX0_falseRow_67 : decode cX0_falseRow 67 = .ok (.ineg, 1) := by decide +kernel
theorem dX0_falseRow_68 : decode cX0_falseRow 68 = .ok (.iand, 1) := by decide +kernel
theorem dX0_falseRow_69 : decode cX0_falseRow 69 = .ok (.istore 7, 2) := by decide +kernel
theorem dX0_falseRow_71 : decode cX0_falseRow 71 = .ok (.iload 7, 2) := by decide +kernel
theorem dX0_falseRow_73 : decode cX0_falseRow 73 = .ok (.ifCond .ne 6, 3) := by decide +kernel
theorem dX0_falseRow_76 : decode cX0_falseRow 76 = .ok (.iload 5, 2) := by decide +kernel
theorem dX0_falseRow_78 : decode cX0_falseRow 78 = .ok (.ireturn, 1) := by decide +kernel
theorem dX0_falseRow_79 : decode cX0_falseRow 79 = .ok (.iload 7, 2) := by decide +kernel
theorem dX0_falseRow_81 : decode cX0_falseRow 81 = .ok (.iload 4, 2) := by decide +kernel
theorem dX0_falseRow_83 : decode cX0_falseRow 83 = .ok (.if_icmp .le 10, 3) := by decide +kernel
theorem dX0_falseRow_86 : decode cX0_falseRow 86 = .ok (.iload 5, 2) := by decide +kernel
theorem dX0_falseRow_88 : decode cX0_falseRow 88 = .ok (.istore_n 3, 1) := by decide +kernel
theorem dX0_falseRow_89 : decode cX0_falseRow 89 = .ok (.iload 7, 2) := by decide +kernel
theorem dX0_falseRow_91 : decode cX0_falseRow 91 = .ok (.istore 4, 2) := by decide +kernel
theorem dX0_falseRow_93 : decode cX0_falseRow 93 = .ok (.iinc 5 1, 3) := by decide +kernel
theorem dX0_falseRow_96 : decode cX0_falseRow 96 = .ok (.goto (-88), 3) := by decide +kernel
theorem dX0_falseRow_99 : decode cX0_falseRow 99 = .ok (.iload_n 3, 1) := by decide +kernel
theorem dX0_falseRow_100 : decode cX0_falseRow 100 = .ok (.ireturn, 1) := by decide +kernel
theorem dX0_leap_0 : decode cX0_leap 0 = .ok (.iload_n 2, 1) := by decide +kernel
theorem dX0_leap_1 : decode cX0_leap 1 = .ok (.istore 4, 2) := by decide +kernel
theorem dX0_leap_3 : decode cX0_leap 3 = .ok (.iload_n 3, 1) := by decide +kernel
theorem dX0_leap_4 : decode cX0_leap 4 = .ok (.istore 5, 2) := by decide +kernel
theorem dX0_leap_6 : decode cX0_leap 6 = .ok (.iconst 0, 1) := by decide +kernel
theorem dX0_leap_7 : decode cX0_leap 7 = .ok (.istore 6, 2) := by decide +kernel
theorem dX0_leap_9 : decode cX0_leap 9 = .ok (.iload 6, 2) := by decide +kernel
theorem dX0_leap_11 : decode cX0_leap 11 = .ok (.bipush 18, 2) := by decide +kernel
theorem dX0_leap_13 : decode cX0_leap 13 = .ok (.if_icmp .ge 92, 3) := by decide +kernel
theorem dX0_leap_16 : decode cX0_leap 16 = .ok (.iconst 1, 1) := by decide +kernel
theorem dX0_leap_17 : decode cX0_leap 17 = .ok (.iload 6, 2) := by decide +kernel
theorem dX0_leap_19 : decode cX0_leap 19 = .ok (.ishl, 1) := by decide +kernel
theorem dX0_leap_20 : decode cX0_leap 20 = .ok (.istore 7, 2) := by decide +kernel
theorem dX0_leap_22 : decode cX0_leap 22 = .ok (.iload 4, 2) := by decide +kernel
theorem dX0_leap_24 : decode cX0_leap 24 = .ok (.iload 7, 2) := by decide +kernel
theorem dX0_leap_26 : decode cX0_leap 26 = .ok (.iand, 1) := by decide +kernel
theorem dX0_leap_27 : decode cX0_leap 27 = .ok (.ifCond .eq 35, 3) := by decide +kernel
theorem dX0_leap_30 : decode cX0_leap 30 = .ok (.aload_n 0, 1) := by decide +kernel
theorem dX0_leap_31 : decode cX0_leap 31 = .ok (.getfield 22, 3) := by decide +kernel
theorem dX0_leap_34 : decode cX0_leap 34 = .ok (.iload 6, 2) := by decide +kernel
theorem dX0_leap_36 : decode cX0_leap 36 = .ok (.iload 4, 2) := by decide +kernel
theorem dX0_leap_38 : decode cX0_leap 38 = .ok (.iload 7, 2) := by decide +kernel
theorem dX0_leap_40 : decode cX0_leap 40 = .ok (.iconst (-1), 1) := by decide +kernel
theorem dX0_leap_41 : decode cX0_leap 41 = .ok (.ixor, 1) := by decide +kernel
theorem dX0_leap_42 : decode cX0_leap 42 = .ok (.iand, 1) := by decide +kernel
theorem dX0_leap_43 : decode cX0_leap 43 = .ok (.iastore, 1) := by decide +kernel
theorem dX0_leap_44 : decode cX0_leap 44 = .ok (.aload_n 0, 1) := by decide +kernel
theorem dX0_leap_45 : decode cX0_leap 45 = .ok (.getfield 25, 3) := by decide +kernel
theorem dX0_leap_48 : decode cX0_leap 48 = .ok (.iload 6, 2) := by decide +kernel
theorem dX0_leap_50 : decode cX0_leap 50 = .ok (.iload 5, 2) := by decide +kernel
theorem dX0_leap_52 : decode cX0_leap 52 = .ok (.iastore, 1) := by decide +kernel
theorem dX0_leap_53 : decode cX0_leap 53 = .ok (.iload_n 1, 1) := by decide +kernel
theorem dX0_leap_54 : decode cX0_leap 54 = .ok (.iload 7, 2) := by decide +kernel
theorem dX0_leap_56 : decode cX0_leap 56 = .ok (.ior, 1) := by decide +kernel
theorem dX0_leap_57 : decode cX0_leap 57 = .ok (.iload 7, 2) := by decide +kernel
theorem dX0_leap_59 : decode cX0_leap 59 = .ok (.ineg, 1) := by decide +kernel
theorem dX0_leap_60 : decode cX0_leap 60 = .ok (.iand, 1) := by decide +kernel
theorem dX0_leap_61 : decode cX0_leap 61 = .ok (.ireturn, 1) := by decide +kernel
theorem dX0_leap_62 : decode cX0_leap 62 = .ok (.iload 5, 2) := by decide +kernel
theorem dX0_leap_64 : decode cX0_leap 64 = .ok (.iload 7, 2) := by decide +kernel
theorem dX0_leap_66 : decode cX0_leap 66 = .ok (.iand, 1) := by decide +kernel
theorem dX0_leap_67 : decode cX0_leap 67 = .ok (.ifCond .eq 32, 3) := by decide +kernel
theorem dX0_leap_70 : decode cX0_leap 70 = .ok (.iload 4, 2) := by decide +kernel
theorem dX0_leap_72 : decode cX0_leap 72 = .ok (.aload_n 0, 1) := by decide +kernel
theorem dX0_leap_73 : decode cX0_leap 73 = .ok (.getfield 22, 3) := by decide +kernel
theorem dX0_leap_76 : decode cX0_leap 76 = .ok (.iload 6, 2) := by decide +kernel
theorem dX0_leap_78 : decode cX0_leap 78 = .ok (.iaload, 1) := by decide +kernel
theorem dX0_leap_79 : decode cX0_leap 79 = .ok (.ior, 1) := by decide +kernel
theorem dX0_leap_80 : decode cX0_leap 80 = .ok (.istore 4, 2) := by decide +kernel
theorem dX0_leap_82 : decode cX0_leap 82 = .ok (.iload 5, 2) := by decide +kernel
theorem dX0_leap_84 : decode cX0_leap 84 = .ok (.iload 7, 2) := by decide +kernel
theorem dX0_leap_86 : decode cX0_leap 86 = .ok (.iconst (-1), 1) := by decide +kernel
theorem dX0_leap_87 : decode cX0_leap 87 = .ok (.ixor, 1) := by decide +kernel
theorem dX0_leap_88 : decode cX0_leap 88 = .ok (.iand, 1) := by decide +kernel
theorem dX0_leap_89 : decode cX0_leap 89 = .ok (.aload_n 0, 1) := by decide +kernel
theorem dX0_leap_90 : decode cX0_leap 90 = .ok (.getfield 25, 3) := by decide +kernel
theorem dX0_leap_93 : decode cX0_leap 93 = .ok (.iload 6, 2) := by decide +kernel
theorem dX0_leap_95 : decode cX0_leap 95 = .ok (.iaload, 1) := by decide +kernel
theorem dX0_leap_96 : decode cX0_leap 96 = .ok (.ior, 1) := by decide +kernel
theorem dX0_leap_97 : decode cX0_leap 97 = .ok (.istore 5, 2) := by decide +kernel
theorem dX0_leap_99 : decode cX0_leap 99 = .ok (.iinc 6 1, 3) := by decide +kernel
theorem dX0_leap_102 : decode cX0_leap 102 = .ok (.goto (-93), 3) := by decide +kernel
theorem dX0_leap_105 : decode cX0_leap 105 = .ok (.iconst (-1), 1) := by decide +kernel
theorem dX0_leap_106 : decode cX0_leap 106 = .ok (.ireturn, 1) := by decide +kernel
