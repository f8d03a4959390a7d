theorem dX0_init_0 : decode cX0_init 0 = .ok (.aload_n 0, 1) := by decide +kernel
theorem dX0_init_1 : decode cX0_init 1 = .ok (.invokespecial 3, 3) := by decide +kernel
theorem dX0_init_4 : decode cX0_init 4 = .ok (.aload_n 0, 1) := by decide +kernel
theorem dX0_init_5 : decode cX0_init 5 = .ok (.new 9, 3) := by decide +kernel
theorem dX0_init_8 : decode cX0_init 8 = .ok (.dup, 1) := by decide +kernel
theorem dX0_init_9 : decode cX0_init 9 = .ok (.invokespecial 11, 3) := by decide +kernel
theorem dX0_init_12 : decode cX0_init 12 = .ok (.putfield 12, 3) := by decide +kernel
theorem dX0_init_15 : decode cX0_init 15 = .ok (.aload_n 0, 1) := by decide +kernel
theorem dX0_init_16 : decode cX0_init 16 = .ok (.bipush 41, 2) := by decide +kernel
theorem dX0_init_18 : decode cX0_init 18 = .ok (.newarray .int, 2) := by decide +kernel
theorem dX0_init_20 : decode cX0_init 20 = .ok (.putfield 16, 3) := by decide +kernel
theorem dX0_init_23 : decode cX0_init 23 = .ok (.aload_n 0, 1) := by decide +kernel
theorem dX0_init_24 : decode cX0_init 24 = .ok (.bipush 18, 2) := by decide +kernel
theorem dX0_init_26 : decode cX0_init 26 = .ok (.newarray .int, 2) := by decide +kernel
theorem dX0_init_28 : decode cX0_init 28 = .ok (.putfield 20, 3) := by decide +kernel
theorem dX0_init_31 : decode cX0_init 31 = .ok (.aload_n 0, 1) := by decide +kernel
theorem dX0_init_32 : decode cX0_init 32 = .ok (.iconst (-1), 1) := by decide +kernel
theorem dX0_init_33 : decode cX0_init 33 = .ok (.putfield 23, 3) := by decide +kernel
theorem dX0_init_36 : decode cX0_init 36 = .ok (.return_, 1) := by decide +kernel
theorem dX0_put_0 : decode cX0_put 0 = .ok (.iload_n 1, 1) := by decide +kernel
theorem dX0_put_1 : decode cX0_put 1 = .ok (.invokestatic 27, 3) := by decide +kernel
theorem dX0_put_4 : decode cX0_put 4 = .ok (.ifCond .ne 13, 3) := by decide +kernel
theorem dX0_put_7 : decode cX0_put 7 = .ok (.new 31, 3) := by decide +kernel
theorem dX0_put_10 : decode cX0_put 10 = .ok (.dup, 1) := by decide +kernel
theorem dX0_put_11 : decode cX0_put 11 = .ok (.ldc 33, 2) := by decide +kernel
theorem dX0_put_13 : decode cX0_put 13 = .ok (.invokespecial 35, 3) := by decide +kernel
theorem dX0_put_16 : decode cX0_put 16 = .ok (.athrow, 1) := by decide +kernel
theorem dX0_put_17 : decode cX0_put 17 = .ok (.aload_n 0, 1) := by decide +kernel
theorem dX0_put_18 : decode cX0_put 18 = .ok (.getfield 38, 3) := by decide +kernel
theorem dX0_put_21 : decode cX0_put 21 = .ok (.bipush 18, 2) := by decide +kernel
theorem dX0_put_23 : decode cX0_put 23 = .ok (.if_icmp .lt 13, 3) := by decide +kernel
theorem dX0_put_26 : decode cX0_put 26 = .ok (.new 41, 3) := by decide +kernel
theorem dX0_put_29 : decode cX0_put 29 = .ok (.dup, 1) := by decide +kernel
theorem dX0_put_30 : decode cX0_put 30 = .ok (.ldc 43, 2) := by decide +kernel
theorem dX0_put_32 : decode cX0_put 32 = .ok (.invokespecial 45, 3) := by decide +kernel
theorem dX0_put_35 : decode cX0_put 35 = .ok (.athrow, 1) := by decide +kernel
theorem dX0_put_36 : decode cX0_put 36 = .ok (.aload_n 0, 1) := by decide +kernel
theorem dX0_put_37 : decode cX0_put 37 = .ok (.dup, 1) := by decide +kernel
theorem dX0_put_38 : decode cX0_put 38 = .ok (.getfield 46, 3) := by decide +kernel
theorem dX0_put_41 : decode cX0_put 41 = .ok (.iload_n 1, 1) := by decide +kernel
theorem dX0_put_42 : decode cX0_put 42 = .ok (.invokestatic 49, 3) := by decide +kernel
theorem dX0_put_45 : decode cX0_put 45 = .ok (.ior, 1) := by decide +kernel
theorem dX0_put_46 : decode cX0_put 46 = .ok (.putfield 46, 3) := by decide +kernel
theorem dX0_put_49 : decode cX0_put 49 = .ok (.aload_n 0, 1) := by decide +kernel
theorem dX0_put_50 : decode cX0_put 50 = .ok (.dup, 1) := by decide +kernel
theorem dX0_put_51 : decode cX0_put 51 = .ok (.getfield 53, 3) := by decide +kernel
theorem dX0_put_54 : decode cX0_put 54 = .ok (.iload_n 1, 1) := by decide +kernel
theorem dX0_put_55 : decode cX0_put 55 = .ok (.invokestatic 56, 3) := by decide +kernel
theorem dX0_put_58 : decode cX0_put 58 = .ok (.ior, 1) := by decide +kernel
theorem dX0_put_59 : decode cX0_put 59 = .ok (.putfield 53, 3) := by decide +kernel
theorem dX0_put_62 : decode cX0_put 62 = .ok (.aload_n 0, 1) := by decide +kernel
theorem dX0_put_63 : decode cX0_put 63 = .ok (.dup, 1) := by decide +kernel
theorem dX0_put_64 : decode cX0_put 64 = .ok (.getfield 38, 3) := by decide +kernel
theorem dX0_put_67 : decode cX0_put 67 = .ok (.iconst 1, 1) := by decide +kernel
theorem dX0_put_68 : decode cX0_put 68 = .ok (.iadd, 1) := by decide +kernel
theorem dX0_put_69 : decode cX0_put 69 = .ok (.putfield 38, 3) := by decide +kernel
theorem dX0_put_72 : decode cX0_put 72 = .ok (.aload_n 0, 1) := by decide +kernel
theorem dX0_put_73 : decode cX0_put 73 = .ok (.getfield 38, 3) := by decide +kernel
theorem dX0_put_76 : decode cX0_put 76 = .ok (.ireturn, 1) := by decide +kernel
theorem dX0_add_0 : decode cX0_add 0 = .ok (.aload_n 0, 1) := by decide +kernel
theorem dX0_add_1 : decode cX0_add 1 = .ok (.getfield 59, 3) := by decide +kernel
theorem dX0_add_4 : decode cX0_add 4 = .ok (.sipush 400, 3) := by decide +kernel
theorem dX0_add_7 : decode cX0_add 7 = .ok (.if_icmp .lt 13, 3) := by decide +kernel
theorem dX0_add_10 : decode cX0_add 10 = .ok (.new 41, 3) := by decide +kernel
theorem dX0_add_13 : decode cX0_add 13 = .ok (.dup, 1) := by decide +kernel
theorem dX0_add_14 : decode cX0_add 14 = .ok (.ldc 62, 2) := by decide +kernel
theorem dX0_add_16 : decode cX0_add 16 = .ok (.invokespecial 45, 3) := by decide +kernel
theorem dX0_add_19 : decode cX0_add 19 = .ok (.athrow, 1) := by decide +kernel
theorem dX0_add_20 : decode cX0_add 20 = .ok (.aload_n 0, 1) := by decide +kernel
theorem dX0_add_21 : decode cX0_add 21 = .ok (.getfield 12, 3) := by decide +kernel
theorem dX0_add_24 : decode cX0_add 24 = .ok (.aload_n 0, 1) := by decide +kernel
theorem dX0_add_25 : decode cX0_add 25 = .ok (.getfield 59, 3) := by decide +kernel
theorem dX0_add_28 : decode cX0_add 28 = .ok (.aload_n 0, 1) := by decide +kernel
theorem dX0_add_29 : decode cX0_add 29 = .ok (.getfield 46, 3) := by decide +kernel
theorem dX0_add_32 : decode cX0_add 32 = .ok (.aload_n 0, 1) := by decide +kernel
theorem dX0_add_33 : decode cX0_add 33 = .ok (.getfield 53, 3) := by decide +kernel
theorem dX0_add_36 : decode cX0_add 36 = .ok (.invokevirtual 64, 3) := by decide +kernel
theorem dX0_add_39 : decode cX0_add 39 = .ok (.aload_n 0, 1) := by decide +kernel
theorem dX0_add_40 : decode cX0_add 40 = .ok (.dup, 1) := by decide +kernel
theorem dX0_add_41 : decode cX0_add 41 = .ok (.getfield 59, 3) := by decide +kernel
theorem dX0_add_44 : decode cX0_add 44 = .ok (.iconst 1, 1) := by decide +kernel
theorem dX0_add_45 : decode cX0_add 45 = .ok (.iadd, 1) := by decide +kernel
theorem dX0_add_46 : decode cX0_add 46 = .ok (.putfield 59, 3) := by decide +kernel
theorem dX0_add_49 : decode cX0_add 49 = .ok (.aload_n 0, 1) := by decide +kernel
theorem dX0_add_50 : decode cX0_add 50 = .ok (.iconst 0, 1) := by decide +kernel
theorem dX0_add_51 : decode cX0_add 51 = .ok (.putfield 38, 3) := by decide +kernel
theorem dX0_add_54 : decode cX0_add 54 = .ok (.aload_n 0, 1) := by decide +kernel
theorem dX0_add_55 : decode cX0_add 55 = .ok (.iconst 0, 1) := by decide +kernel
theorem dX0_add_56 : decode cX0_add 56 = .ok (.putfield 46, 3) := by decide +kernel
theorem dX0_add_59 : decode cX0_add 59 = .ok (.aload_n 0, 1) := by decide +kernel
theorem dX0_add_60 : decode cX0_add 60 = .ok (.iconst 0, 1) := by decide +kernel
theorem dX0_add_61 : decode cX0_add 61 = .ok (.putfield 53, 3) := by decide +kernel
theorem dX0_add_64 : decode cX0_add 64 = .ok (.aload_n 0, 1) := by decide +kernel
theorem dX0_add_65 : decode cX0_add 65 = .ok (.iconst (-1), 1) := by decide +kernel
theorem dX0_add_66 : decode cX0_add 66 = .ok (.putfield 23, 3) := by decide +kernel
theorem dX0_add_69 : decode cX0_add 69 = .ok (.aload_n 0, 1) := by decide +kernel
theorem dX0_add_70 : decode cX0_add 70 = .ok (.getfield 59, 3) := by decide +kernel
theorem dX0_add_73 : decode cX0_add 73 = .ok (.ireturn, 1) := by decide +kernel
theorem dX0_open_0 : decode cX0_open 0 = .ok (.aload_n 0, 1) := by decide +kernel
theorem dX0_open_1 : decode cX0_open 1 = .ok (.getfield 68, 3) := by decide +kernel
theorem dX0_open_4 : decode cX0_open 4 = .ok (.bipush 40, 2) := by decide +kernel
theorem dX0_open_6 : decode cX0_open 6 = .ok (.if_icmp .lt 13, 3) := by decide +kernel
theorem dX0_open_9 : decode cX0_open 9 = .ok (.new 41, 3) := by decide +kernel
theorem dX0_open_12 : decode cX0_open 12 = .ok (.dup, 1) := by decide +kernel
theorem dX0_open_13 : decode cX0_open 13 = .ok (.ldc 71, 2) := by decide +kernel
theorem dX0_open_15 : decode cX0_open 15 = .ok (.invokespecial 45, 3) := by decide +kernel
theorem dX0_open_18 : decode cX0_open 18 = .ok (.athrow, 1) := by decide +kernel
theorem dX0_open_19 : decode cX0_open 19 = .ok (.aload_n 0, 1) := by decide +kernel
theorem dX0_open_20 : decode cX0_open 20 = .ok (.dup, 1) := by decide +kernel
theorem dX0_open_21 : decode cX0_open 21 = .ok (.getfield 68, 3) := by decide +kernel
theorem dX0_open_24 : decode cX0_open 24 = .ok (.iconst 1, 1) := by decide +kernel
theorem dX0_open_25 : decode cX0_open 25 = .ok (.iadd, 1) := by decide +kernel
theorem dX0_open_26 : decode cX0_open 26 = .ok (.putfield 68, 3) := by decide +kernel
theorem dX0_open_29 : decode cX0_open 29 = .ok (.aload_n 0, 1) := by decide +kernel
theorem dX0_open_30 : decode cX0_open 30 = .ok (.getfield 16, 3) := by decide +kernel
theorem dX0_open_33 : decode cX0_open 33 = .ok (.aload_n 0, 1) := by decide +kernel
theorem dX0_open_34 : decode cX0_open 34 = .ok (.getfield 68, 3) := by decide +kernel
theorem dX0_open_37 : decode cX0_open 37 = .ok (.aload_n 0, 1) := by decide +kernel
theorem dX0_open_38 : decode cX0_open 38 = .ok (.getfield 59, 3) := by decide +kernel
theorem dX0_open_41 : decode cX0_open 41 = .ok (.iastore, 1) := by decide +kernel
theorem dX0_open_42 : decode cX0_open 42 = .ok (.aload_n 0, 1) := by decide +kernel
theorem dX0_open_43 : decode cX0_open 43 = .ok (.iconst (-1), 1) := by decide +kernel
theorem dX0_open_44 : decode cX0_open 44 = .ok (.putfield 23, 3) := by decide +kernel
theorem dX0_open_47 : decode cX0_open 47 = .ok (.aload_n 0, 1) := by decide +kernel
theorem dX0_open_48 : decode cX0_open 48 = .ok (.getfield 68, 3) := by decide +kernel
theorem dX0_open_51 : decode cX0_open 51 = .ok (.ireturn, 1) := by decide +kernel
theorem dX0_close_0 : decode cX0_close 0 = .ok (.aload_n 0, 1) := by decide +kernel
theorem dX0_close_1 : decode cX0_close 1 = .ok (.getfield 68, 3) := by decide +kernel
theorem dX0_close_4 : decode cX0_close 4 = .ok (.ifCond .le 12, 3) := by decide +kernel
theorem dX0_close_7 : decode cX0_close 7 = .ok (.aload_n 0, 1) := by decide +kernel
theorem dX0_close_8 : decode cX0_close 8 = .ok (.getfield 68, 3) := by decide +kernel
theorem dX0_close_11 : decode cX0_close 11 = .ok (.bipush 40, 2) := by decide +kernel
theorem dX0_close_13 : decode cX0_close 13 = .ok (.if_icmp .le 13, 3) := by decide +kernel
theorem dX0_close_16 : decode cX0_close 16 = .ok (.new 41, 3) := by decide +kernel
theorem dX0_close_19 : decode cX0_close 19 = .ok (.dup, 1) := by decide +kernel
theorem dX0_close_20 : decode cX0_close 20 = .ok (.ldc 73, 2) := by decide +kernel
theorem dX0_close_22 : decode cX0_close 22 = .ok (.invokespecial 45, 3) := by decide +kernel
theorem dX0_close_25 : decode cX0_close 25 = .ok (.athrow, 1) := by decide +kernel
theorem dX0_close_26 : decode cX0_close 26 = .ok (.aload_n 0, 1) := by decide +kernel
theorem dX0_close_27 : decode cX0_close 27 = .ok (.getfield 59, 3) := by decide +kernel
theorem dX0_close_30 : decode cX0_close 30 = .ok (.aload_n 0, 1) := by decide +kernel
theorem dX0_close_31 : decode cX0_close 31 = .ok (.getfield 16, 3) := by decide +kernel
theorem dX0_close_34 : decode cX0_close 34 = .ok (.aload_n 0, 1) := by decide +kernel
theorem dX0_close_35 : decode cX0_close 35 = .ok (.getfield 68, 3) := by decide +kernel
theorem dX0_close_38 : decode cX0_close 38 = .ok (.iaload, 1) := by decide +kernel
theorem dX0_close_39 : decode cX0_close 39 = .ok (.isub, 1) := by decide +kernel
theorem dX0_close_40 : decode cX0_close 40 = .ok (.istore_n 1, 1) := by decide +kernel
theorem dX0_close_41 : decode cX0_close 41 = .ok (.aload_n 0, 1) := by decide +kernel
theorem dX0_close_42 : decode cX0_close 42 = .ok (.aload_n 0, 1) := by decide +kernel
theorem dX0_close_43 : decode cX0_close 43 = .ok (.getfield 16, 3) := by decide +kernel
theorem dX0_close_46 : decode cX0_close 46 = .ok (.aload_n 0, 1) := by decide +kernel
theorem dX0_close_47 : decode cX0_close 47 = .ok (.getfield 68, 3) := by decide +kernel
theorem dX0_close_50 : decode cX0_close 50 = .ok (.iaload, 1) := by decide +kernel
theorem dX0_close_51 : decode cX0_close 51 = .ok (.putfield 59, 3) := by decide +kernel
theorem dX0_close_54 : decode cX0_close 54 = .ok (.aload_n 0, 1) := by decide +kernel
theorem dX0_close_55 : decode cX0_close 55 = .ok (.dup, 1) := by decide +kernel
theorem dX0_close_56 : decode cX0_close 56 = .ok (.getfield 68, 3) := by decide +kernel
theorem dX0_close_59 : decode cX0_close 59 = .ok (.iconst 1, 1) := by decide +kernel
theorem dX0_close_60 : decode cX0_close 60 = .ok (.isub, 1) := by decide +kernel
theorem dX0_close_61 : decode cX0_close 61 = .ok (.putfield 68, 3) := by decide +kernel
theorem dX0_close_64 : decode cX0_close 64 = .ok (.aload_n 0, 1) := by decide +kernel
theorem dX0_close_65 : decode cX0_close 65 = .ok (.iconst (-1), 1) := by decide +kernel
theorem dX0_close_66 : decode cX0_close 66 = .ok (.putfield 23, 3) := by decide +kernel
theorem dX0_close_69 : decode cX0_close 69 = .ok (.iload_n 1, 1) := by decide +kernel
theorem dX0_close_70 : decode cX0_close 70 = .ok (.ireturn, 1) := by decide +kernel
theorem dX0_assume_0 : decode cX0_assume 0 = .ok (.iload_n 1, 1) := by decide +kernel
theorem dX0_assume_1 : decode cX0_assume 1 = .ok (.invokestatic 27, 3) := by decide +kernel
theorem dX0_assume_4 : decode cX0_assume 4 = .ok (.ifCond .ne 13, 3) := by decide +kernel
theorem dX0_assume_7 : decode cX0_assume 7 = .ok (.new 31, 3) := by decide +kernel
theorem dX0_assume_10 : decode cX0_assume 10 = .ok (.dup, 1) := by decide +kernel
theorem dX0_assume_11 : decode cX0_assume 11 = .ok (.ldc 33, 2) := by decide +kernel
theorem dX0_assume_13 : decode cX0_assume 13 = .ok (.invokespecial 35, 3) := by decide +kernel
theorem dX0_assume_16 : decode cX0_assume 16 = .ok (.athrow, 1) := by decide +kernel
theorem dX0_assume_17 : decode cX0_assume 17 = .ok (.aload_n 0, 1) := by decide +kernel
theorem dX0_assume_18 : decode cX0_assume 18 = .ok (.getfield 75, 3) := by decide +kernel
theorem dX0_assume_21 : decode cX0_assume 21 = .ok (.bipush 18, 2) := by decide +kernel
theorem dX0_assume_23 : decode cX0_assume 23 = .ok (.if_icmp .lt 13, 3) := by decide +kernel
theorem dX0_assume_26 : decode cX0_assume 26 = .ok (.new 41, 3) := by decide +kernel
theorem dX0_assume_29 : decode cX0_assume 29 = .ok (.dup, 1) := by decide +kernel
theorem dX0_assume_30 : decode cX0_assume 30 = .ok (.ldc 78, 2) := by decide +kernel
theorem dX0_assume_32 : decode cX0_assume 32 = .ok (.invokespecial 45, 3) := by decide +kernel
theorem dX0_assume_35 : decode cX0_assume 35 = .ok (.athrow, 1) := by decide +kernel
theorem dX0_assume_36 : decode cX0_assume 36 = .ok (.aload_n 0, 1) := by decide +kernel
theorem dX0_assume_37 : decode cX0_assume 37 = .ok (.getfield 20, 3) := by decide +kernel
theorem dX0_assume_40 : decode cX0_assume 40 = .ok (.aload_n 0, 1) := by decide +kernel
theorem dX0_assume_41 : decode cX0_assume 41 = .ok (.getfield 75, 3) := by decide +kernel
theorem dX0_assume_44 : decode cX0_assume 44 = .ok (.iload_n 1, 1) := by decide +kernel
theorem dX0_assume_45 : decode cX0_assume 45 = .ok (.iastore, 1) := by decide +kernel
theorem dX0_assume_46 : decode cX0_assume 46 = .ok (.aload_n 0, 1) := by decide +kernel
theorem dX0_assume_47 : decode cX0_assume 47 = .ok (.dup, 1) := by decide +kernel
theorem dX0_assume_48 : decode cX0_assume 48 = .ok (.getfield 75, 3) := by decide +kernel
theorem dX0_assume_51 : decode cX0_assume 51 = .ok (.iconst 1, 1) := by decide +kernel
theorem dX0_assume_52 : decode cX0_assume 52 = .ok (.iadd, 1) := by decide +kernel
theorem dX0_assume_53 : decode cX0_assume 53 = .ok (.putfield 75, 3) := by decide +kernel
theorem dX0_assume_56 : decode cX0_assume 56 = .ok (.aload_n 0, 1) := by decide +kernel
theorem dX0_assume_57 : decode cX0_assume 57 = .ok (.iconst (-1), 1) := by decide +kernel
theorem dX0_assume_58 : decode cX0_assume 58 = .ok (.putfield 23, 3) := by decide +kernel
theorem dX0_assume_61 : decode cX0_assume 61 = .ok (.aload_n 0, 1) := by decide +kernel
theorem dX0_assume_62 : decode cX0_assume 62 = .ok (.getfield 75, 3) := by decide +kernel
theorem dX0_assume_65 : decode cX0_assume 65 = .ok (.ireturn, 1) := by decide +kernel
theorem dX0_free_0 : decode cX0_free 0 = .ok (.aload_n 0, 1) := by decide +kernel
theorem dX0_free_1 : decode cX0_free 1 = .ok (.getfield 75, 3) := by decide +kernel
theorem dX0_free_4 : decode cX0_free 4 = .ok (.istore_n 1, 1) := by decide +kernel
theorem dX0_free_5 : decode cX0_free 5 = .ok (.aload_n 0, 1) := by decide +kernel
theorem dX0_free_6 : decode cX0_free 6 = .ok (.iconst 0, 1) := by decide +kernel
theorem dX0_free_7 : decode cX0_free 7 = .ok (.putfield 75, 3) := by decide +kernel
theorem dX0_free_10 : decode cX0_free 10 = .ok (.aload_n 0, 1) := by decide +kernel
theorem dX0_free_11 : decode cX0_free 11 = .ok (.iconst (-1), 1) := by decide +kernel
theorem dX0_free_12 : decode cX0_free 12 = .ok (.putfield 23, 3) := by decide +kernel
theorem dX0_free_15 : decode cX0_free 15 = .ok (.iload_n 1, 1) := by decide +kernel
theorem dX0_free_16 : decode cX0_free 16 = .ok (.ireturn, 1) := by decide +kernel
theorem dX0_least_0 : decode cX0_least 0 = .ok (.aload_n 0, 1) := by decide +kernel
theorem dX0_least_1 : decode cX0_least 1 = .ok (.aload_n 0, 1) := by decide +kernel
theorem dX0_least_2 : decode cX0_least 2 = .ok (.getfield 12, 3) := by decide +kernel
theorem dX0_least_5 : decode cX0_least 5 = .ok (.iconst 0, 1) := by decide +kernel
theorem dX0_least_6 : decode cX0_least 6 = .ok (.aload_n 0, 1) := by decide +kernel
theorem dX0_least_7 : decode cX0_least 7 = .ok (.iconst (-1), 1) := by decide +kernel
theorem dX0_least_8 : decode cX0_least 8 = .ok (.invokevirtual 80, 3) := by decide +kernel
theorem dX0_least_11 : decode cX0_least 11 = .ok (.invokevirtual 83, 3) := by decide +kernel
theorem dX0_least_14 : decode cX0_least 14 = .ok (.putfield 23, 3) := by decide +kernel
theorem dX0_least_17 : decode cX0_least 17 = .ok (.aload_n 0, 1) := by decide +kernel
theorem dX0_least_18 : decode cX0_least 18 = .ok (.getfield 23, 3) := by decide +kernel
theorem dX0_least_21 : decode cX0_least 21 = .ok (.ireturn, 1) := by decide +kernel
theorem dX0_next_0 : decode cX0_next 0 = .ok (.aload_n 0, 1) := by decide +kernel
theorem dX0_next_1 : decode cX0_next 1 = .ok (.getfield 23, 3) := by decide +kernel
theorem dX0_next_4 : decode cX0_next 4 = .ok (.iconst (-1), 1) := by decide +kernel
theorem dX0_next_5 : decode cX0_next 5 = .ok (.if_icmp .ne 13, 3) := by decide +kernel
theorem dX0_next_8 : decode cX0_next 8 = .ok (.new 41, 3) := by decide +kernel
theorem dX0_next_11 : decode cX0_next 11 = .ok (.dup, 1) := by decide +kernel
theorem dX0_next_12 : decode cX0_next 12 = .ok (.ldc 87, 2) := by decide +kernel
theorem dX0_next_14 : decode cX0_next 14 = .ok (.invokespecial 45, 3) := by decide +kernel
theorem dX0_next_17 : decode cX0_next 17 = .ok (.athrow, 1) := by decide +kernel
theorem dX0_next_18 : decode cX0_next 18 = .ok (.aload_n 0, 1) := by decide +kernel
theorem dX0_next_19 : decode cX0_next 19 = .ok (.aload_n 0, 1) := by decide +kernel
theorem dX0_next_20 : decode cX0_next 20 = .ok (.getfield 12, 3) := by decide +kernel
theorem dX0_next_23 : decode cX0_next 23 = .ok (.aload_n 0, 1) := by decide +kernel
theorem dX0_next_24 : decode cX0_next 24 = .ok (.getfield 23, 3) := by decide +kernel
theorem dX0_next_27 : decode cX0_next 27 = .ok (.iconst 1, 1) := by decide +kernel
theorem dX0_next_28 : decode cX0_next 28 = .ok (.iadd, 1) := by decide +kernel
theorem dX0_next_29 : decode cX0_next 29 = .ok (.aload_n 0, 1) := by decide +kernel
theorem dX0_next_30 : decode cX0_next 30 = .ok (.iconst (-1), 1) := by decide +kernel
theorem dX0_next_31 : decode cX0_next 31 = .ok (.invokevirtual 80, 3) := by decide +kernel
theorem dX0_next_34 : decode cX0_next 34 = .ok (.invokevirtual 83, 3) := by decide +kernel
theorem dX0_next_37 : decode cX0_next 37 = .ok (.putfield 23, 3) := by decide +kernel
theorem dX0_next_40 : decode cX0_next 40 = .ok (.aload_n 0, 1) := by decide +kernel
theorem dX0_next_41 : decode cX0_next 41 = .ok (.getfield 23, 3) := by decide +kernel
theorem dX0_next_44 : decode cX0_next 44 = .ok (.ireturn, 1) := by decide +kernel
theorem dX0_can_0 : decode cX0_can 0 = .ok (.aload_n 0, 1) := by decide +kernel
theorem dX0_can_1 : decode cX0_can 1 = .ok (.aload_n 0, 1) := by decide +kernel
theorem dX0_can_2 : decode cX0_can 2 = .ok (.iconst (-1), 1) := by decide +kernel
theorem dX0_can_3 : decode cX0_can 3 = .ok (.invokevirtual 80, 3) := by decide +kernel
theorem dX0_can_6 : decode cX0_can 6 = .ok (.invokevirtual 89, 3) := by decide +kernel
theorem dX0_can_9 : decode cX0_can 9 = .ok (.ireturn, 1) := by decide +kernel
theorem dX0_forced_0 : decode cX0_forced 0 = .ok (.iload_n 1, 1) := by decide +kernel
theorem dX0_forced_1 : decode cX0_forced 1 = .ok (.invokestatic 27, 3) := by decide +kernel
theorem dX0_forced_4 : decode cX0_forced 4 = .ok (.ifCond .ne 13, 3) := by decide +kernel
theorem dX0_forced_7 : decode cX0_forced 7 = .ok (.new 31, 3) := by decide +kernel
theorem dX0_forced_10 : decode cX0_forced 10 = .ok (.dup, 1) := by decide +kernel
theorem dX0_forced_11 : decode cX0_forced 11 = .ok (.ldc 33, 2) := by decide +kernel
theorem dX0_forced_13 : decode cX0_forced 13 = .ok (.invokespecial 35, 3) := by decide +kernel
theorem dX0_forced_16 : decode cX0_forced 16 = .ok (.athrow, 1) := by decide +kernel
theorem dX0_forced_17 : decode cX0_forced 17 = .ok (.aload_n 0, 1) := by decide +kernel
theorem dX0_forced_18 : decode cX0_forced 18 = .ok (.iconst (-1), 1) := by decide +kernel
theorem dX0_forced_19 : decode cX0_forced 19 = .ok (.invokevirtual 80, 3) := by decide +kernel
theorem dX0_forced_22 : decode cX0_forced 22 = .ok (.istore_n 2, 1) := by decide +kernel
theorem dX0_forced_23 : decode cX0_forced 23 = .ok (.aload_n 0, 1) := by decide +kernel
theorem dX0_forced_24 : decode cX0_forced 24 = .ok (.getfield 12, 3) := by decide +kernel
theorem dX0_forced_27 : decode cX0_forced 27 = .ok (.iload_n 2, 1) := by decide +kernel
theorem dX0_forced_28 : decode cX0_forced 28 = .ok (.iload_n 1, 1) := by decide +kernel
theorem dX0_forced_29 : decode cX0_forced 29 = .ok (.ineg, 1) := by decide +kernel
theorem dX0_forced_30 : decode cX0_forced 30 = .ok (.invokestatic 49, 3) := by decide +kernel
theorem dX0_forced_33 : decode cX0_forced 33 = .ok (.iload_n 1, 1) := by decide +kernel
theorem dX0_forced_34 : decode cX0_forced 34 = .ok (.ineg, 1) := by decide +kernel
theorem dX0_forced_35 : decode cX0_forced 35 = .ok (.invokestatic 56, 3) := by decide +kernel
theorem dX0_forced_38 : decode cX0_forced 38 = .ok (.invokevirtual 64, 3) := by decide +kernel
theorem dX0_forced_41 : decode cX0_forced 41 = .ok (.aload_n 0, 1) := by decide +kernel
theorem dX0_forced_42 : decode cX0_forced 42 = .ok (.iload_n 2, 1) := by decide +kernel
theorem dX0_forced_43 : decode cX0_forced 43 = .ok (.iconst 1, 1) := by decide +kernel
theorem dX0_forced_44 : decode cX0_forced 44 = .ok (.iadd, 1) := by decide +kernel
theorem dX0_forced_45 : decode cX0_forced 45 = .ok (.invokevirtual 89, 3) := by decide +kernel
theorem dX0_forced_48 : decode cX0_forced 48 = .ok (.ifCond .ne 7, 3) := by decide +kernel
theorem dX0_forced_51 : decode cX0_forced 51 = .ok (.iconst 1, 1) := by decide +kernel
theorem dX0_forced_52 : decode cX0_forced 52 = .ok (.goto 4, 3) := by decide +kernel
theorem dX0_forced_55 : decode cX0_forced 55 = .ok (.iconst 0, 1) := by decide +kernel
theorem dX0_forced_56 : decode cX0_forced 56 = .ok (.ireturn, 1) := by decide +kernel
theorem dX0_blames_0 : decode cX0_blames 0 = .ok (.iload_n 1, 1) := by decide +kernel
theorem dX0_blames_1 : decode cX0_blames 1 = .ok (.ifCond .lt 11, 3) := by decide +kernel
theorem dX0_blames_4 : decode cX0_blames 4 = .ok (.iload_n 1, 1) := by decide +kernel
theorem dX0_blames_5 : decode cX0_blames 5 = .ok (.aload_n 0, 1) := by decide +kernel
theorem dX0_blames_6 : decode cX0_blames 6 = .ok (.getfield 75, 3) := by decide +kernel
theorem dX0_blames_9 : decode cX0_blames 9 = .ok (.if_icmp .lt 13, 3) := by decide +kernel
theorem dX0_blames_12 : decode cX0_blames 12 = .ok (.new 92, 3) := by decide +kernel
theorem dX0_blames_15 : decode cX0_blames 15 = .ok (.dup, 1) := by decide +kernel
theorem dX0_blames_16 : decode cX0_blames 16 = .ok (.ldc 94, 2) := by decide +kernel
theorem dX0_blames_18 : decode cX0_blames 18 = .ok (.invokespecial 96, 3) := by decide +kernel
theorem dX0_blames_21 : decode cX0_blames 21 = .ok (.athrow, 1) := by decide +kernel
theorem dX0_blames_22 : decode cX0_blames 22 = .ok (.aload_n 0, 1) := by decide +kernel
theorem dX0_blames_23 : decode cX0_blames 23 = .ok (.aload_n 0, 1) := by decide +kernel
theorem dX0_blames_24 : decode cX0_blames 24 = .ok (.iconst (-1), 1) := by decide +kernel
theorem dX0_blames_25 : decode cX0_blames 25 = .ok (.invokevirtual 80, 3) := by decide +kernel
theorem dX0_blames_28 : decode cX0_blames 28 = .ok (.invokevirtual 89, 3) := by decide +kernel
theorem dX0_blames_31 : decode cX0_blames 31 = .ok (.ifCond .ne 19, 3) := by decide +kernel
theorem dX0_blames_34 : decode cX0_blames 34 = .ok (.aload_n 0, 1) := by decide +kernel
theorem dX0_blames_35 : decode cX0_blames 35 = .ok (.aload_n 0, 1) := by decide +kernel
theorem dX0_blames_36 : decode cX0_blames 36 = .ok (.iload_n 1, 1) := by decide +kernel
theorem dX0_blames_37 : decode cX0_blames 37 = .ok (.invokevirtual 80, 3) := by decide +kernel
theorem dX0_blames_40 : decode cX0_blames 40 = .ok (.invokevirtual 89, 3) := by decide +kernel
theorem dX0_blames_43 : decode cX0_blames 43 = .ok (.ifCond .eq 7, 3) := by decide +kernel
theorem dX0_blames_46 : decode cX0_blames 46 = .ok (.iconst 1, 1) := by decide +kernel
theorem dX0_blames_47 : decode cX0_blames 47 = .ok (.goto 4, 3) := by decide +kernel
theorem dX0_blames_50 : decode cX0_blames 50 = .ok (.iconst 0, 1) := by decide +kernel
theorem dX0_blames_51 : decode cX0_blames 51 = .ok (.ireturn, 1) := by decide +kernel
theorem dX0_count_0 : decode cX0_count 0 = .ok (.iload_n 1, 1) := by decide +kernel
theorem dX0_count_1 : decode cX0_count 1 = .ok (.iconst 1, 1) := by decide +kernel
theorem dX0_count_2 : decode cX0_count 2 = .ok (.if_icmp .lt 9, 3) := by decide +kernel
theorem dX0_count_5 : decode cX0_count 5 = .ok (.iload_n 1, 1) := by decide +kernel
theorem dX0_count_6 : decode cX0_count 6 = .ok (.bipush 64, 2) := by decide +kernel
theorem dX0_count_8 : decode cX0_count 8 = .ok (.if_icmp .le 13, 3) := by decide +kernel
theorem dX0_count_11 : decode cX0_count 11 = .ok (.new 31, 3) := by decide +kernel
theorem dX0_count_14 : decode cX0_count 14 = .ok (.dup, 1) := by decide +kernel
theorem dX0_count_15 : decode cX0_count 15 = .ok (.ldc 97, 2) := by decide +kernel
theorem dX0_count_17 : decode cX0_count 17 = .ok (.invokespecial 35, 3) := by decide +kernel
theorem dX0_count_20 : decode cX0_count 20 = .ok (.athrow, 1) := by decide +kernel
theorem dX0_count_21 : decode cX0_count 21 = .ok (.aload_n 0, 1) := by decide +kernel
theorem dX0_count_22 : decode cX0_count 22 = .ok (.iconst (-1), 1) := by decide +kernel
theorem dX0_count_23 : decode cX0_count 23 = .ok (.invokevirtual 80, 3) := by decide +kernel
theorem dX0_count_26 : decode cX0_count 26 = .ok (.istore_n 2, 1) := by decide +kernel
theorem dX0_count_27 : decode cX0_count 27 = .ok (.iconst 0, 1) := by decide +kernel
theorem dX0_count_28 : decode cX0_count 28 = .ok (.istore_n 3, 1) := by decide +kernel
theorem dX0_count_29 : decode cX0_count 29 = .ok (.iconst 0, 1) := by decide +kernel
theorem dX0_count_30 : decode cX0_count 30 = .ok (.istore 4, 2) := by decide +kernel
theorem dX0_count_32 : decode cX0_count 32 = .ok (.iconst 0, 1) := by decide +kernel
theorem dX0_count_33 : decode cX0_count 33 = .ok (.istore 5, 2) := by decide +kernel
theorem dX0_count_35 : decode cX0_count 35 = .ok (.iload 5, 2) := by decide +kernel
theorem dX0_count_37 : decode cX0_count 37 = .ok (.iload_n 1, 1) := by decide +kernel
theorem dX0_count_38 : decode cX0_count 38 = .ok (.if_icmp .ge 51, 3) := by decide +kernel
theorem dX0_count_41 : decode cX0_count 41 = .ok (.iload_n 3, 1) := by decide +kernel
theorem dX0_count_42 : decode cX0_count 42 = .ok (.iload_n 1, 1) := by decide +kernel
theorem dX0_count_43 : decode cX0_count 43 = .ok (.if_icmp .ge 46, 3) := by decide +kernel
theorem dX0_count_46 : decode cX0_count 46 = .ok (.aload_n 0, 1) := by decide +kernel
theorem dX0_count_47 : decode cX0_count 47 = .ok (.getfield 12, 3) := by decide +kernel
theorem dX0_count_50 : decode cX0_count 50 = .ok (.iload 4, 2) := by decide +kernel
theorem dX0_count_52 : decode cX0_count 52 = .ok (.iload_n 2, 1) := by decide +kernel
theorem dX0_count_53 : decode cX0_count 53 = .ok (.invokevirtual 83, 3) := by decide +kernel
theorem dX0_count_56 : decode cX0_count 56 = .ok (.istore 6, 2) := by decide +kernel
theorem dX0_count_58 : decode cX0_count 58 = .ok (.iload 6, 2) := by decide +kernel
theorem dX0_count_60 : decode cX0_count 60 = .ok (.iconst (-1), 1) := by decide +kernel
theorem dX0_count_61 : decode cX0_count 61 = .ok (.if_icmp .ne 5, 3) := by decide +kernel
theorem dX0_count_64 : decode cX0_count 64 = .ok (.iload_n 3, 1) := by decide +kernel
theorem dX0_count_65 : decode cX0_count 65 = .ok (.ireturn, 1) := by decide +kernel
theorem dX0_count_66 : decode cX0_count 66 = .ok (.iload_n 3, 1) := by decide +kernel
theorem dX0_count_67 : decode cX0_count 67 = .ok (.aload_n 0, 1) := by decide +kernel
theorem dX0_count_68 : decode cX0_count 68 = .ok (.getfield 12, 3) := by decide +kernel
theorem dX0_count_71 : decode cX0_count 71 = .ok (.invokevirtual 99, 3) := by decide +kernel
theorem dX0_count_74 : decode cX0_count 74 = .ok (.iadd, 1) := by decide +kernel
theorem dX0_count_75 : decode cX0_count 75 = .ok (.istore_n 3, 1) := by decide +kernel
theorem dX0_count_76 : decode cX0_count 76 = .ok (.iload 6, 2) := by decide +kernel
theorem dX0_count_78 : decode cX0_count 78 = .ok (.invokestatic 103, 3) := by decide +kernel
theorem dX0_count_81 : decode cX0_count 81 = .ok (.istore 4, 2) := by decide +kernel
theorem dX0_count_83 : decode cX0_count 83 = .ok (.iinc 5 1, 3) := by decide +kernel
theorem dX0_count_86 : decode cX0_count 86 = .ok (.goto (-51), 3) := by decide +kernel
theorem dX0_count_89 : decode cX0_count 89 = .ok (.iload_n 3, 1) := by decide +kernel
theorem dX0_count_90 : decode cX0_count 90 = .ok (.iload_n 1, 1) := by decide +kernel
theorem dX0_count_91 : decode cX0_count 91 = .ok (.invokestatic 106, 3) := by decide +kernel
theorem dX0_count_94 : decode cX0_count 94 = .ok (.ireturn, 1) := by decide +kernel
theorem dX0_value_0 : decode cX0_value 0 = .ok (.iload_n 1, 1) := by decide +kernel
theorem dX0_value_1 : decode cX0_value 1 = .ok (.iconst 1, 1) := by decide +kernel
theorem dX0_value_2 : decode cX0_value 2 = .ok (.if_icmp .lt 9, 3) := by decide +kernel
theorem dX0_value_5 : decode cX0_value 5 = .ok (.iload_n 1, 1) := by decide +kernel
theorem dX0_value_6 : decode cX0_value 6 = .ok (.bipush 18, 2) := by decide +kernel
theorem dX0_value_8 : decode cX0_value 8 = .ok (.if_icmp .le 13, 3) := by decide +kernel
theorem dX0_value_11 : decode cX0_value 11 = .ok (.new 31, 3) := by decide +kernel
theorem dX0_value_14 : decode cX0_value 14 = .ok (.dup, 1) := by decide +kernel
theorem dX0_value_15 : decode cX0_value 15 = .ok (.ldc 111, 2) := by decide +kernel
theorem dX0_value_17 : decode cX0_value 17 = .ok (.invokespecial 35, 3) := by decide +kernel
theorem dX0_value_20 : decode cX0_value 20 = .ok (.athrow, 1) := by decide +kernel
theorem dX0_value_21 : decode cX0_value 21 = .ok (.aload_n 0, 1) := by decide +kernel
theorem dX0_value_22 : decode cX0_value 22 = .ok (.getfield 23, 3) := by decide +kernel
theorem dX0_value_25 : decode cX0_value 25 = .ok (.iconst (-1), 1) := by decide +kernel
theorem dX0_value_26 : decode cX0_value 26 = .ok (.if_icmp .ne 13, 3) := by decide +kernel
theorem dX0_value_29 : decode cX0_value 29 = .ok (.new 41, 3) := by decide +kernel
theorem dX0_value_32 : decode cX0_value 32 = .ok (.dup, 1) := by decide +kernel
theorem dX0_value_33 : decode cX0_value 33 = .ok (.ldc 87, 2) := by decide +kernel
theorem dX0_value_35 : decode cX0_value 35 = .ok (.invokespecial 45, 3) := by decide +kernel
theorem dX0_value_38 : decode cX0_value 38 = .ok (.athrow, 1) := by decide +kernel
theorem dX0_value_39 : decode cX0_value 39 = .ok (.aload_n 0, 1) := by decide +kernel
theorem dX0_value_40 : decode cX0_value 40 = .ok (.getfield 23, 3) := by decide +kernel
theorem dX0_value_43 : decode cX0_value 43 = .ok (.iload_n 1, 1) := by decide +kernel
theorem dX0_value_44 : decode cX0_value 44 = .ok (.iconst 1, 1) := by decide +kernel
theorem dX0_value_45 : decode cX0_value 45 = .ok (.isub, 1) := by decide +kernel
theorem dX0_value_46 : decode cX0_value 46 = .ok (.ishr, 1) := by decide +kernel
theorem dX0_value_47 : decode cX0_value 47 = .ok (.iconst 1, 1) := by decide +kernel
theorem dX0_value_48 : decode cX0_value 48 = .ok (.iand, 1) := by decide +kernel
theorem dX0_value_49 : decode cX0_value 49 = .ok (.ireturn, 1) := by decide +kernel
theorem dX0_look_0 : decode cX0_look 0 = .ok (.iload_n 1, 1) := by decide +kernel
theorem dX0_look_1 : decode cX0_look 1 = .ok (.tableswitch 69 0 4 #[35, 40, 45, 50, 55], 35) := by decide +kernel
theorem dX0_look_36 : decode cX0_look 36 = .ok (.aload_n 0, 1) := by decide +kernel
theorem dX0_look_37 : decode cX0_look 37 = .ok (.getfield 59, 3) := by decide +kernel
theorem dX0_look_40 : decode cX0_look 40 = .ok (.ireturn, 1) := by decide +kernel
theorem dX0_look_41 : decode cX0_look 41 = .ok (.aload_n 0, 1) := by decide +kernel
theorem dX0_look_42 : decode cX0_look 42 = .ok (.getfield 68, 3) := by decide +kernel
theorem dX0_look_45 : decode cX0_look 45 = .ok (.ireturn, 1) := by decide +kernel
theorem dX0_look_46 : decode cX0_look 46 = .ok (.aload_n 0, 1) := by decide +kernel
theorem dX0_look_47 : decode cX0_look 47 = .ok (.getfield 75, 3) := by decide +kernel
theorem dX0_look_50 : decode cX0_look 50 = .ok (.ireturn, 1) := by decide +kernel
theorem dX0_look_51 : decode cX0_look 51 = .ok (.aload_n 0, 1) := by decide +kernel
theorem dX0_look_52 : decode cX0_look 52 = .ok (.getfield 38, 3) := by decide +kernel
theorem dX0_look_55 : decode cX0_look 55 = .ok (.ireturn, 1) := by decide +kernel
theorem dX0_look_56 : decode cX0_look 56 = .ok (.aload_n 0, 1) := by decide +kernel
theorem dX0_look_57 : decode cX0_look 57 = .ok (.getfield 23, 3) := by decide +kernel
theorem dX0_look_60 : decode cX0_look 60 = .ok (.iconst (-1), 1) := by decide +kernel
theorem dX0_look_61 : decode cX0_look 61 = .ok (.if_icmp .ne 7, 3) := by decide +kernel
theorem dX0_look_64 : decode cX0_look 64 = .ok (.iconst 0, 1) := by decide +kernel
theorem dX0_look_65 : decode cX0_look 65 = .ok (.goto 4, 3) := by decide +kernel
theorem dX0_look_68 : decode cX0_look 68 = .ok (.iconst 1, 1) := by decide +kernel
theorem dX0_look_69 : decode cX0_look 69 = .ok (.ireturn, 1) := by decide +kernel
theorem dX0_look_70 : decode cX0_look 70 = .ok (.new 31, 3) := by decide +kernel
theorem dX0_look_73 : decode cX0_look 73 = .ok (.dup, 1) := by decide +kernel
theorem dX0_look_74 : decode cX0_look 74 = .ok (.ldc 113, 2) := by decide +kernel
theorem dX0_look_76 : decode cX0_look 76 = .ok (.invokespecial 35, 3) := by decide +kernel
theorem dX0_look_79 : decode cX0_look 79 = .ok (.athrow, 1) := by decide +kernel
theorem dX0_isLiteral_0 : decode cX0_isLiteral 0 = .ok (.iload_n 0, 1) := by decide +kernel
theorem dX0_isLiteral_1 : decode cX0_isLiteral 1 = .ok (.ifCond .eq 19, 3) := by decide +kernel
theorem dX0_isLiteral_4 : decode cX0_isLiteral 4 = .ok (.iload_n 0, 1) := by decide +kernel
theorem dX0_isLiteral_5 : decode cX0_isLiteral 5 = .ok (.bipush (-18), 2) := by decide +kernel
theorem dX0_isLiteral_7 : decode cX0_isLiteral 7 = .ok (.if_icmp .lt 13, 3) := by decide +kernel
theorem dX0_isLiteral_10 : decode cX0_isLiteral 10 = .ok (.iload_n 0, 1) := by decide +kernel
theorem dX0_isLiteral_11 : decode cX0_isLiteral 11 = .ok (.bipush 18, 2) := by decide +kernel
theorem dX0_isLiteral_13 : decode cX0_isLiteral 13 = .ok (.if_icmp .gt 7, 3) := by decide +kernel
theorem dX0_isLiteral_16 : decode cX0_isLiteral 16 = .ok (.iconst 1, 1) := by decide +kernel
theorem dX0_isLiteral_17 : decode cX0_isLiteral 17 = .ok (.goto 4, 3) := by decide +kernel
theorem dX0_isLiteral_20 : decode cX0_isLiteral 20 = .ok (.iconst 0, 1) := by decide +kernel
theorem dX0_isLiteral_21 : decode cX0_isLiteral 21 = .ok (.ireturn, 1) := by decide +kernel
theorem dX0_yesMask_0 : decode cX0_yesMask 0 = .ok (.iload_n 0, 1) := by decide +kernel
theorem dX0_yesMask_1 : decode cX0_yesMask 1 = .ok (.ifCond .le 11, 3) := by decide +kernel
theorem dX0_yesMask_4 : decode cX0_yesMask 4 = .ok (.iconst 1, 1) := by decide +kernel
theorem dX0_yesMask_5 : decode cX0_yesMask 5 = .ok (.iload_n 0, 1) := by decide +kernel
theorem dX0_yesMask_6 : decode cX0_yesMask 6 = .ok (.iconst 1, 1) := by decide +kernel
theorem dX0_yesMask_7 : decode cX0_yesMask 7 = .ok (.isub, 1) := by decide +kernel
theorem dX0_yesMask_8 : decode cX0_yesMask 8 = .ok (.ishl, 1) := by decide +kernel
theorem dX0_yesMask_9 : decode cX0_yesMask 9 = .ok (.goto 4, 3) := by decide +kernel
theorem dX0_yesMask_12 : decode cX0_yesMask 12 = .ok (.iconst 0, 1) := by decide +kernel
theorem dX0_yesMask_13 : decode cX0_yesMask 13 = .ok (.ireturn, 1) := by decide +kernel
theorem dX0_noMask_0 : decode cX0_noMask 0 = .ok (.iload_n 0, 1) := by decide +kernel
theorem dX0_noMask_1 : decode cX0_noMask 1 = .ok (.ifCond .ge 12, 3) := by decide +kernel
theorem dX0_noMask_4 : decode cX0_noMask 4 = .ok (.iconst 1, 1) := by decide +kernel
theorem dX0_noMask_5 : decode cX0_noMask 5 = .ok (.iload_n 0, 1) := by decide +kernel
theorem dX0_noMask_6 : decode cX0_noMask 6 = .ok (.ineg, 1) := by decide +kernel
theorem dX0_noMask_7 : decode cX0_noMask 7 = .ok (.iconst 1, 1) := by decide +kernel
theorem dX0_noMask_8 : decode cX0_noMask 8 = .ok (.isub, 1) := by decide +kernel
theorem dX0_noMask_9 : decode cX0_noMask 9 = .ok (.ishl, 1) := by decide +kernel
theorem dX0_noMask_10 : decode cX0_noMask 10 = .ok (.goto 4, 3) := by decide +kernel
theorem dX0_noMask_13 : decode cX0_noMask 13 = .ok (.iconst 0, 1) := by decide +kernel
theorem dX0_noMask_14 : decode cX0_noMask 14 = .ok (.ireturn, 1) := by decide +kernel
theorem dX0_writeAssumptions_0 : decode cX0_writeAssumptions 0 = .ok (.aload_n 0, 1) := by decide +kernel
theorem dX0_writeAssumptions_1 : decode cX0_writeAssumptions 1 = .ok (.getfield 59, 3) := by decide +kernel
theorem dX0_writeAssumptions_4 : decode cX0_writeAssumptions 4 = .ok (.istore_n 2, 1) := by decide +kernel
theorem dX0_writeAssumptions_5 : decode cX0_writeAssumptions 5 = .ok (.iconst 0, 1) := by decide +kernel
theorem dX0_writeAssumptions_6 : decode cX0_writeAssumptions 6 = .ok (.istore_n 3, 1) := by decide +kernel
theorem dX0_writeAssumptions_7 : decode cX0_writeAssumptions 7 = .ok (.iload_n 3, 1) := by decide +kernel
theorem dX0_writeAssumptions_8 : decode cX0_writeAssumptions 8 = .ok (.aload_n 0, 1) := by decide +kernel
theorem dX0_writeAssumptions_9 : decode cX0_writeAssumptions 9 = .ok (.getfield 75, 3) := by decide +kernel
theorem dX0_writeAssumptions_12 : decode cX0_writeAssumptions 12 = .ok (.if_icmp .ge 49, 3) := by decide +kernel
theorem dX0_writeAssumptions_15 : decode cX0_writeAssumptions 15 = .ok (.iload_n 3, 1) := by decide +kernel
theorem dX0_writeAssumptions_16 : decode cX0_writeAssumptions 16 = .ok (.bipush 18, 2) := by decide +kernel
theorem dX0_writeAssumptions_18 : decode cX0_writeAssumptions 18 = .ok (.if_icmp .ge 43, 3) := by decide +kernel
theorem dX0_writeAssumptions_21 : decode cX0_writeAssumptions 21 = .ok (.iload_n 3, 1) := by decide +kernel
theorem dX0_writeAssumptions_22 : decode cX0_writeAssumptions 22 = .ok (.iload_n 1, 1) := by decide +kernel
theorem dX0_writeAssumptions_23 : decode cX0_writeAssumptions 23 = .ok (.if_icmp .eq 32, 3) := by decide +kernel
theorem dX0_writeAssumptions_26 : decode cX0_writeAssumptions 26 = .ok (.aload_n 0, 1) := by decide +kernel
theorem dX0_writeAssumptions_27 : decode cX0_writeAssumptions 27 = .ok (.getfield 12, 3) := by decide +kernel
theorem dX0_writeAssumptions_30 : decode cX0_writeAssumptions 30 = .ok (.iload_n 2, 1) := by decide +kernel
theorem dX0_writeAssumptions_31 : decode cX0_writeAssumptions 31 = .ok (.aload_n 0, 1) := by decide +kernel
theorem dX0_writeAssumptions_32 : decode cX0_writeAssumptions 32 = .ok (.getfield 20, 3) := by decide +kernel
theorem dX0_writeAssumptions_35 : decode cX0_writeAssumptions 35 = .ok (.iload_n 3, 1) := by decide +kernel
theorem dX0_writeAssumptions_36 : decode cX0_writeAssumptions 36 = .ok (.iaload, 1) := by decide +kernel
theorem dX0_writeAssumptions_37 : decode cX0_writeAssumptions 37 = .ok (.invokestatic 49, 3) := by decide +kernel
theorem dX0_writeAssumptions_40 : decode cX0_writeAssumptions 40 = .ok (.aload_n 0, 1) := by decide +kernel
theorem dX0_writeAssumptions_41 : decode cX0_writeAssumptions 41 = .ok (.getfield 20, 3) := by decide +kernel
theorem dX0_writeAssumptions_44 : decode cX0_writeAssumptions 44 = .ok (.iload_n 3, 1) := by decide +kernel
theorem dX0_writeAssumptions_45 : decode cX0_writeAssumptions 45 = .ok (.iaload, 1) := by decide +kernel
theorem dX0_writeAssumptions_46 : decode cX0_writeAssumptions 46 = .ok (.invokestatic 56, 3) := by decide +kernel
theorem dX0_writeAssumptions_49 : decode cX0_writeAssumptions 49 = .ok (.invokevirtual 64, 3) := by decide +kernel
theorem dX0_writeAssumptions_52 : decode cX0_writeAssumptions 52 = .ok (.iinc 2 1, 3) := by decide +kernel
theorem dX0_writeAssumptions_55 : decode cX0_writeAssumptions 55 = .ok (.iinc 3 1, 3) := by decide +kernel
theorem dX0_writeAssumptions_58 : decode cX0_writeAssumptions 58 = .ok (.goto (-51), 3) := by decide +kernel
theorem dX0_writeAssumptions_61 : decode cX0_writeAssumptions 61 = .ok (.iload_n 2, 1) := by decide +kernel
theorem dX0_writeAssumptions_62 : decode cX0_writeAssumptions 62 = .ok (.ireturn, 1) := by decide +kernel
theorem dX0_isSatisfied_0 : decode cX0_isSatisfied 0 = .ok (.aload_n 0, 1) := by decide +kernel
theorem dX0_isSatisfied_1 : decode cX0_isSatisfied 1 = .ok (.getfield 12, 3) := by decide +kernel
theorem dX0_isSatisfied_4 : decode cX0_isSatisfied 4 = .ok (.iconst 0, 1) := by decide +kernel
theorem dX0_isSatisfied_5 : decode cX0_isSatisfied 5 = .ok (.iload_n 1, 1) := by decide +kernel
theorem dX0_isSatisfied_6 : decode cX0_isSatisfied 6 = .ok (.invokevirtual 83, 3) := by decide +kernel
theorem dX0_isSatisfied_9 : decode cX0_isSatisfied 9 = .ok (.iconst (-1), 1) := by decide +kernel
theorem dX0_isSatisfied_10 : decode cX0_isSatisfied 10 = .ok (.if_icmp .eq 7, 3) := by decide +kernel
theorem dX0_isSatisfied_13 : decode cX0_isSatisfied 13 = .ok (.iconst 1, 1) := by decide +kernel
theorem dX0_isSatisfied_14 : decode cX0_isSatisfied 14 = .ok (.goto 4, 3) := by decide +kernel
theorem dX0_isSatisfied_17 : decode cX0_isSatisfied 17 = .ok (.iconst 0, 1) := by decide +kernel
theorem dX0_isSatisfied_18 : decode cX0_isSatisfied 18 = .ok (.ireturn, 1) := by decide +kernel
