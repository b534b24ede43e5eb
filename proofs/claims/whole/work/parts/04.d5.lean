theorem dX5_init_0 : decode cX5_init 0 = .ok (.aload_n 0, 1) := by decide +kernel
theorem dX5_init_1 : decode cX5_init 1 = .ok (.invokespecial 1, 3) := by decide +kernel
theorem dX5_init_4 : decode cX5_init 4 = .ok (.aload_n 0, 1) := by decide +kernel
theorem dX5_init_5 : decode cX5_init 5 = .ok (.iconst 1, 1) := by decide +kernel
theorem dX5_init_6 : decode cX5_init 6 = .ok (.putfield 7, 3) := by decide +kernel
theorem dX5_init_9 : decode cX5_init 9 = .ok (.aload_n 0, 1) := by decide +kernel
theorem dX5_init_10 : decode cX5_init 10 = .ok (.bipush 61, 2) := by decide +kernel
theorem dX5_init_12 : decode cX5_init 12 = .ok (.newarray .int, 2) := by decide +kernel
theorem dX5_init_14 : decode cX5_init 14 = .ok (.putfield 13, 3) := by decide +kernel
theorem dX5_init_17 : decode cX5_init 17 = .ok (.aload_n 0, 1) := by decide +kernel
theorem dX5_init_18 : decode cX5_init 18 = .ok (.sipush 976, 3) := by decide +kernel
theorem dX5_init_21 : decode cX5_init 21 = .ok (.newarray .int, 2) := by decide +kernel
theorem dX5_init_23 : decode cX5_init 23 = .ok (.putfield 17, 3) := by decide +kernel
theorem dX5_init_26 : decode cX5_init 26 = .ok (.aload_n 0, 1) := by decide +kernel
theorem dX5_init_27 : decode cX5_init 27 = .ok (.sipush 128, 3) := by decide +kernel
theorem dX5_init_30 : decode cX5_init 30 = .ok (.newarray .int, 2) := by decide +kernel
theorem dX5_init_32 : decode cX5_init 32 = .ok (.putfield 20, 3) := by decide +kernel
theorem dX5_init_35 : decode cX5_init 35 = .ok (.aload_n 0, 1) := by decide +kernel
theorem dX5_init_36 : decode cX5_init 36 = .ok (.sipush 128, 3) := by decide +kernel
theorem dX5_init_39 : decode cX5_init 39 = .ok (.newarray .int, 2) := by decide +kernel
theorem dX5_init_41 : decode cX5_init 41 = .ok (.putfield 23, 3) := by decide +kernel
theorem dX5_init_44 : decode cX5_init 44 = .ok (.aload_n 0, 1) := by decide +kernel
theorem dX5_init_45 : decode cX5_init 45 = .ok (.sipush 128, 3) := by decide +kernel
theorem dX5_init_48 : decode cX5_init 48 = .ok (.newarray .int, 2) := by decide +kernel
theorem dX5_init_50 : decode cX5_init 50 = .ok (.putfield 26, 3) := by decide +kernel
theorem dX5_init_53 : decode cX5_init 53 = .ok (.aload_n 0, 1) := by decide +kernel
theorem dX5_init_54 : decode cX5_init 54 = .ok (.bipush 8, 2) := by decide +kernel
theorem dX5_init_56 : decode cX5_init 56 = .ok (.newarray .int, 2) := by decide +kernel
theorem dX5_init_58 : decode cX5_init 58 = .ok (.putfield 29, 3) := by decide +kernel
theorem dX5_init_61 : decode cX5_init 61 = .ok (.aload_n 0, 1) := by decide +kernel
theorem dX5_init_62 : decode cX5_init 62 = .ok (.sipush 960, 3) := by decide +kernel
theorem dX5_init_65 : decode cX5_init 65 = .ok (.newarray .int, 2) := by decide +kernel
theorem dX5_init_67 : decode cX5_init 67 = .ok (.putfield 32, 3) := by decide +kernel
theorem dX5_init_70 : decode cX5_init 70 = .ok (.aload_n 0, 1) := by decide +kernel
theorem dX5_init_71 : decode cX5_init 71 = .ok (.bipush 60, 2) := by decide +kernel
theorem dX5_init_73 : decode cX5_init 73 = .ok (.newarray .int, 2) := by decide +kernel
theorem dX5_init_75 : decode cX5_init 75 = .ok (.putfield 35, 3) := by decide +kernel
theorem dX5_init_78 : decode cX5_init 78 = .ok (.aload_n 0, 1) := by decide +kernel
theorem dX5_init_79 : decode cX5_init 79 = .ok (.bipush 60, 2) := by decide +kernel
theorem dX5_init_81 : decode cX5_init 81 = .ok (.newarray .int, 2) := by decide +kernel
theorem dX5_init_83 : decode cX5_init 83 = .ok (.putfield 38, 3) := by decide +kernel
theorem dX5_init_86 : decode cX5_init 86 = .ok (.aload_n 0, 1) := by decide +kernel
theorem dX5_init_87 : decode cX5_init 87 = .ok (.bipush 16, 2) := by decide +kernel
theorem dX5_init_89 : decode cX5_init 89 = .ok (.newarray .int, 2) := by decide +kernel
theorem dX5_init_91 : decode cX5_init 91 = .ok (.putfield 41, 3) := by decide +kernel
theorem dX5_init_94 : decode cX5_init 94 = .ok (.aload_n 0, 1) := by decide +kernel
theorem dX5_init_95 : decode cX5_init 95 = .ok (.getfield 13, 3) := by decide +kernel
theorem dX5_init_98 : decode cX5_init 98 = .ok (.iconst 0, 1) := by decide +kernel
theorem dX5_init_99 : decode cX5_init 99 = .ok (.iconst (-1), 1) := by decide +kernel
theorem dX5_init_100 : decode cX5_init 100 = .ok (.iastore, 1) := by decide +kernel
theorem dX5_init_101 : decode cX5_init 101 = .ok (.return_, 1) := by decide +kernel
theorem dX5_thrown_0 : decode cX5_thrown 0 = .ok (.aload_n 0, 1) := by decide +kernel
theorem dX5_thrown_1 : decode cX5_thrown 1 = .ok (.getfield 44, 3) := by decide +kernel
theorem dX5_thrown_4 : decode cX5_thrown 4 = .ok (.ireturn, 1) := by decide +kernel
theorem dX5_in_0 : decode cX5_in 0 = .ok (.iload_n 0, 1) := by decide +kernel
theorem dX5_in_1 : decode cX5_in 1 = .ok (.iload_n 1, 1) := by decide +kernel
theorem dX5_in_2 : decode cX5_in 2 = .ok (.if_icmp .lt 12, 3) := by decide +kernel
theorem dX5_in_5 : decode cX5_in 5 = .ok (.iload_n 0, 1) := by decide +kernel
theorem dX5_in_6 : decode cX5_in 6 = .ok (.iload_n 2, 1) := by decide +kernel
theorem dX5_in_7 : decode cX5_in 7 = .ok (.if_icmp .gt 7, 3) := by decide +kernel
theorem dX5_in_10 : decode cX5_in 10 = .ok (.iconst 1, 1) := by decide +kernel
theorem dX5_in_11 : decode cX5_in 11 = .ok (.goto 4, 3) := by decide +kernel
theorem dX5_in_14 : decode cX5_in 14 = .ok (.iconst 0, 1) := by decide +kernel
theorem dX5_in_15 : decode cX5_in 15 = .ok (.ireturn, 1) := by decide +kernel
theorem dX5_isColumn_0 : decode cX5_isColumn 0 = .ok (.iload_n 0, 1) := by decide +kernel
theorem dX5_isColumn_1 : decode cX5_isColumn 1 = .ok (.iconst 0, 1) := by decide +kernel
theorem dX5_isColumn_2 : decode cX5_isColumn 2 = .ok (.bipush 15, 2) := by decide +kernel
theorem dX5_isColumn_4 : decode cX5_isColumn 4 = .ok (.invokestatic 47, 3) := by decide +kernel
theorem dX5_isColumn_7 : decode cX5_isColumn 7 = .ok (.ireturn, 1) := by decide +kernel
theorem dX5_isLevel_0 : decode cX5_isLevel 0 = .ok (.iload_n 0, 1) := by decide +kernel
theorem dX5_isLevel_1 : decode cX5_isLevel 1 = .ok (.iconst 0, 1) := by decide +kernel
theorem dX5_isLevel_2 : decode cX5_isLevel 2 = .ok (.bipush 7, 2) := by decide +kernel
theorem dX5_isLevel_4 : decode cX5_isLevel 4 = .ok (.invokestatic 47, 3) := by decide +kernel
theorem dX5_isLevel_7 : decode cX5_isLevel 7 = .ok (.ireturn, 1) := by decide +kernel
theorem dX5_kindAt_0 : decode cX5_kindAt 0 = .ok (.aload_n 0, 1) := by decide +kernel
theorem dX5_kindAt_1 : decode cX5_kindAt 1 = .ok (.getfield 17, 3) := by decide +kernel
theorem dX5_kindAt_4 : decode cX5_kindAt 4 = .ok (.bipush 16, 2) := by decide +kernel
theorem dX5_kindAt_6 : decode cX5_kindAt 6 = .ok (.iload_n 1, 1) := by decide +kernel
theorem dX5_kindAt_7 : decode cX5_kindAt 7 = .ok (.imul, 1) := by decide +kernel
theorem dX5_kindAt_8 : decode cX5_kindAt 8 = .ok (.iload_n 2, 1) := by decide +kernel
theorem dX5_kindAt_9 : decode cX5_kindAt 9 = .ok (.iadd, 1) := by decide +kernel
theorem dX5_kindAt_10 : decode cX5_kindAt 10 = .ok (.iaload, 1) := by decide +kernel
theorem dX5_kindAt_11 : decode cX5_kindAt 11 = .ok (.iconst 2, 1) := by decide +kernel
theorem dX5_kindAt_12 : decode cX5_kindAt 12 = .ok (.iload_n 3, 1) := by decide +kernel
theorem dX5_kindAt_13 : decode cX5_kindAt 13 = .ok (.imul, 1) := by decide +kernel
theorem dX5_kindAt_14 : decode cX5_kindAt 14 = .ok (.ishr, 1) := by decide +kernel
theorem dX5_kindAt_15 : decode cX5_kindAt 15 = .ok (.iconst 3, 1) := by decide +kernel
theorem dX5_kindAt_16 : decode cX5_kindAt 16 = .ok (.iand, 1) := by decide +kernel
theorem dX5_kindAt_17 : decode cX5_kindAt 17 = .ok (.ireturn, 1) := by decide +kernel
theorem dX5_kindNow_0 : decode cX5_kindNow 0 = .ok (.aload_n 0, 1) := by decide +kernel
theorem dX5_kindNow_1 : decode cX5_kindNow 1 = .ok (.aload_n 0, 1) := by decide +kernel
theorem dX5_kindNow_2 : decode cX5_kindNow 2 = .ok (.getfield 51, 3) := by decide +kernel
theorem dX5_kindNow_5 : decode cX5_kindNow 5 = .ok (.iload_n 1, 1) := by decide +kernel
theorem dX5_kindNow_6 : decode cX5_kindNow 6 = .ok (.iload_n 2, 1) := by decide +kernel
theorem dX5_kindNow_7 : decode cX5_kindNow 7 = .ok (.invokevirtual 54, 3) := by decide +kernel
theorem dX5_kindNow_10 : decode cX5_kindNow 10 = .ok (.ireturn, 1) := by decide +kernel
theorem dX5_grows_0 : decode cX5_grows 0 = .ok (.iconst 0, 1) := by decide +kernel
theorem dX5_grows_1 : decode cX5_grows 1 = .ok (.istore_n 1, 1) := by decide +kernel
theorem dX5_grows_2 : decode cX5_grows 2 = .ok (.iload_n 1, 1) := by decide +kernel
theorem dX5_grows_3 : decode cX5_grows 3 = .ok (.bipush 16, 2) := by decide +kernel
theorem dX5_grows_5 : decode cX5_grows 5 = .ok (.if_icmp .ge 37, 3) := by decide +kernel
theorem dX5_grows_8 : decode cX5_grows 8 = .ok (.aload_n 0, 1) := by decide +kernel
theorem dX5_grows_9 : decode cX5_grows 9 = .ok (.getfield 17, 3) := by decide +kernel
theorem dX5_grows_12 : decode cX5_grows 12 = .ok (.bipush 16, 2) := by decide +kernel
theorem dX5_grows_14 : decode cX5_grows 14 = .ok (.aload_n 0, 1) := by decide +kernel
theorem dX5_grows_15 : decode cX5_grows 15 = .ok (.getfield 7, 3) := by decide +kernel
theorem dX5_grows_18 : decode cX5_grows 18 = .ok (.imul, 1) := by decide +kernel
theorem dX5_grows_19 : decode cX5_grows 19 = .ok (.iload_n 1, 1) := by decide +kernel
theorem dX5_grows_20 : decode cX5_grows 20 = .ok (.iadd, 1) := by decide +kernel
theorem dX5_grows_21 : decode cX5_grows 21 = .ok (.aload_n 0, 1) := by decide +kernel
theorem dX5_grows_22 : decode cX5_grows 22 = .ok (.getfield 17, 3) := by decide +kernel
theorem dX5_grows_25 : decode cX5_grows 25 = .ok (.bipush 16, 2) := by decide +kernel
theorem dX5_grows_27 : decode cX5_grows 27 = .ok (.aload_n 0, 1) := by decide +kernel
theorem dX5_grows_28 : decode cX5_grows 28 = .ok (.getfield 51, 3) := by decide +kernel
theorem dX5_grows_31 : decode cX5_grows 31 = .ok (.imul, 1) := by decide +kernel
theorem dX5_grows_32 : decode cX5_grows 32 = .ok (.iload_n 1, 1) := by decide +kernel
theorem dX5_grows_33 : decode cX5_grows 33 = .ok (.iadd, 1) := by decide +kernel
theorem dX5_grows_34 : decode cX5_grows 34 = .ok (.iaload, 1) := by decide +kernel
theorem dX5_grows_35 : decode cX5_grows 35 = .ok (.iastore, 1) := by decide +kernel
theorem dX5_grows_36 : decode cX5_grows 36 = .ok (.iinc 1 1, 3) := by decide +kernel
theorem dX5_grows_39 : decode cX5_grows 39 = .ok (.goto (-37), 3) := by decide +kernel
theorem dX5_grows_42 : decode cX5_grows 42 = .ok (.aload_n 0, 1) := by decide +kernel
theorem dX5_grows_43 : decode cX5_grows 43 = .ok (.getfield 13, 3) := by decide +kernel
theorem dX5_grows_46 : decode cX5_grows 46 = .ok (.aload_n 0, 1) := by decide +kernel
theorem dX5_grows_47 : decode cX5_grows 47 = .ok (.getfield 7, 3) := by decide +kernel
theorem dX5_grows_50 : decode cX5_grows 50 = .ok (.aload_n 0, 1) := by decide +kernel
theorem dX5_grows_51 : decode cX5_grows 51 = .ok (.getfield 51, 3) := by decide +kernel
theorem dX5_grows_54 : decode cX5_grows 54 = .ok (.iastore, 1) := by decide +kernel
theorem dX5_grows_55 : decode cX5_grows 55 = .ok (.aload_n 0, 1) := by decide +kernel
theorem dX5_grows_56 : decode cX5_grows 56 = .ok (.aload_n 0, 1) := by decide +kernel
theorem dX5_grows_57 : decode cX5_grows 57 = .ok (.getfield 7, 3) := by decide +kernel
theorem dX5_grows_60 : decode cX5_grows 60 = .ok (.putfield 51, 3) := by decide +kernel
theorem dX5_grows_63 : decode cX5_grows 63 = .ok (.aload_n 0, 1) := by decide +kernel
theorem dX5_grows_64 : decode cX5_grows 64 = .ok (.dup, 1) := by decide +kernel
theorem dX5_grows_65 : decode cX5_grows 65 = .ok (.getfield 7, 3) := by decide +kernel
theorem dX5_grows_68 : decode cX5_grows 68 = .ok (.iconst 1, 1) := by decide +kernel
theorem dX5_grows_69 : decode cX5_grows 69 = .ok (.iadd, 1) := by decide +kernel
theorem dX5_grows_70 : decode cX5_grows 70 = .ok (.putfield 7, 3) := by decide +kernel
theorem dX5_grows_73 : decode cX5_grows 73 = .ok (.return_, 1) := by decide +kernel
theorem dX5_puts_0 : decode cX5_puts 0 = .ok (.bipush 16, 2) := by decide +kernel
theorem dX5_puts_2 : decode cX5_puts 2 = .ok (.aload_n 0, 1) := by decide +kernel
theorem dX5_puts_3 : decode cX5_puts 3 = .ok (.getfield 51, 3) := by decide +kernel
theorem dX5_puts_6 : decode cX5_puts 6 = .ok (.imul, 1) := by decide +kernel
theorem dX5_puts_7 : decode cX5_puts 7 = .ok (.iload_n 1, 1) := by decide +kernel
theorem dX5_puts_8 : decode cX5_puts 8 = .ok (.iadd, 1) := by decide +kernel
theorem dX5_puts_9 : decode cX5_puts 9 = .ok (.istore 4, 2) := by decide +kernel
theorem dX5_puts_11 : decode cX5_puts 11 = .ok (.aload_n 0, 1) := by decide +kernel
theorem dX5_puts_12 : decode cX5_puts 12 = .ok (.getfield 17, 3) := by decide +kernel
theorem dX5_puts_15 : decode cX5_puts 15 = .ok (.iload 4, 2) := by decide +kernel
theorem dX5_puts_17 : decode cX5_puts 17 = .ok (.aload_n 0, 1) := by decide +kernel
theorem dX5_puts_18 : decode cX5_puts 18 = .ok (.getfield 17, 3) := by decide +kernel
theorem dX5_puts_21 : decode cX5_puts 21 = .ok (.iload 4, 2) := by decide +kernel
theorem dX5_puts_23 : decode cX5_puts 23 = .ok (.iaload, 1) := by decide +kernel
theorem dX5_puts_24 : decode cX5_puts 24 = .ok (.iconst 3, 1) := by decide +kernel
theorem dX5_puts_25 : decode cX5_puts 25 = .ok (.iconst 2, 1) := by decide +kernel
theorem dX5_puts_26 : decode cX5_puts 26 = .ok (.iload_n 2, 1) := by decide +kernel
theorem dX5_puts_27 : decode cX5_puts 27 = .ok (.imul, 1) := by decide +kernel
theorem dX5_puts_28 : decode cX5_puts 28 = .ok (.ishl, 1) := by decide +kernel
theorem dX5_puts_29 : decode cX5_puts 29 = .ok (.iconst (-1), 1) := by decide +kernel
theorem dX5_puts_30 : decode cX5_puts 30 = .ok (.ixor, 1) := by decide +kernel
theorem dX5_puts_31 : decode cX5_puts 31 = .ok (.iand, 1) := by decide +kernel
theorem dX5_puts_32 : decode cX5_puts 32 = .ok (.iload_n 3, 1) := by decide +kernel
theorem dX5_puts_33 : decode cX5_puts 33 = .ok (.iconst 2, 1) := by decide +kernel
theorem dX5_puts_34 : decode cX5_puts 34 = .ok (.iload_n 2, 1) := by decide +kernel
theorem dX5_puts_35 : decode cX5_puts 35 = .ok (.imul, 1) := by decide +kernel
theorem dX5_puts_36 : decode cX5_puts 36 = .ok (.ishl, 1) := by decide +kernel
theorem dX5_puts_37 : decode cX5_puts 37 = .ok (.ior, 1) := by decide +kernel
theorem dX5_puts_38 : decode cX5_puts 38 = .ok (.iastore, 1) := by decide +kernel
theorem dX5_puts_39 : decode cX5_puts 39 = .ok (.return_, 1) := by decide +kernel
theorem dX5_set_0 : decode cX5_set 0 = .ok (.aload_n 0, 1) := by decide +kernel
theorem dX5_set_1 : decode cX5_set 1 = .ok (.iload_n 1, 1) := by decide +kernel
theorem dX5_set_2 : decode cX5_set 2 = .ok (.invokestatic 58, 3) := by decide +kernel
theorem dX5_set_5 : decode cX5_set 5 = .ok (.ifCond .eq 10, 3) := by decide +kernel
theorem dX5_set_8 : decode cX5_set 8 = .ok (.iload_n 2, 1) := by decide +kernel
theorem dX5_set_9 : decode cX5_set 9 = .ok (.invokestatic 62, 3) := by decide +kernel
theorem dX5_set_12 : decode cX5_set 12 = .ok (.ifCond .ne 7, 3) := by decide +kernel
theorem dX5_set_15 : decode cX5_set 15 = .ok (.iconst 1, 1) := by decide +kernel
theorem dX5_set_16 : decode cX5_set 16 = .ok (.goto 30, 3) := by decide +kernel
theorem dX5_set_19 : decode cX5_set 19 = .ok (.iload_n 3, 1) := by decide +kernel
theorem dX5_set_20 : decode cX5_set 20 = .ok (.iconst 0, 1) := by decide +kernel
theorem dX5_set_21 : decode cX5_set 21 = .ok (.iconst 3, 1) := by decide +kernel
theorem dX5_set_22 : decode cX5_set 22 = .ok (.invokestatic 47, 3) := by decide +kernel
theorem dX5_set_25 : decode cX5_set 25 = .ok (.ifCond .ne 7, 3) := by decide +kernel
theorem dX5_set_28 : decode cX5_set 28 = .ok (.iconst 2, 1) := by decide +kernel
theorem dX5_set_29 : decode cX5_set 29 = .ok (.goto 17, 3) := by decide +kernel
theorem dX5_set_32 : decode cX5_set 32 = .ok (.aload_n 0, 1) := by decide +kernel
theorem dX5_set_33 : decode cX5_set 33 = .ok (.getfield 7, 3) := by decide +kernel
theorem dX5_set_36 : decode cX5_set 36 = .ok (.bipush 61, 2) := by decide +kernel
theorem dX5_set_38 : decode cX5_set 38 = .ok (.if_icmp .ne 7, 3) := by decide +kernel
theorem dX5_set_41 : decode cX5_set 41 = .ok (.iconst 3, 1) := by decide +kernel
theorem dX5_set_42 : decode cX5_set 42 = .ok (.goto 4, 3) := by decide +kernel
theorem dX5_set_45 : decode cX5_set 45 = .ok (.iconst 0, 1) := by decide +kernel
theorem dX5_set_46 : decode cX5_set 46 = .ok (.putfield 44, 3) := by decide +kernel
theorem dX5_set_49 : decode cX5_set 49 = .ok (.aload_n 0, 1) := by decide +kernel
theorem dX5_set_50 : decode cX5_set 50 = .ok (.getfield 44, 3) := by decide +kernel
theorem dX5_set_53 : decode cX5_set 53 = .ok (.ifCond .le 5, 3) := by decide +kernel
theorem dX5_set_56 : decode cX5_set 56 = .ok (.iconst 0, 1) := by decide +kernel
theorem dX5_set_57 : decode cX5_set 57 = .ok (.ireturn, 1) := by decide +kernel
theorem dX5_set_58 : decode cX5_set 58 = .ok (.aload_n 0, 1) := by decide +kernel
theorem dX5_set_59 : decode cX5_set 59 = .ok (.invokevirtual 65, 3) := by decide +kernel
theorem dX5_set_62 : decode cX5_set 62 = .ok (.aload_n 0, 1) := by decide +kernel
theorem dX5_set_63 : decode cX5_set 63 = .ok (.iload_n 1, 1) := by decide +kernel
theorem dX5_set_64 : decode cX5_set 64 = .ok (.iload_n 2, 1) := by decide +kernel
theorem dX5_set_65 : decode cX5_set 65 = .ok (.iload_n 3, 1) := by decide +kernel
theorem dX5_set_66 : decode cX5_set 66 = .ok (.invokevirtual 68, 3) := by decide +kernel
theorem dX5_set_69 : decode cX5_set 69 = .ok (.aload_n 0, 1) := by decide +kernel
theorem dX5_set_70 : decode cX5_set 70 = .ok (.getfield 51, 3) := by decide +kernel
theorem dX5_set_73 : decode cX5_set 73 = .ok (.ireturn, 1) := by decide +kernel
theorem dX5_raise_0 : decode cX5_raise 0 = .ok (.aload_n 0, 1) := by decide +kernel
theorem dX5_raise_1 : decode cX5_raise 1 = .ok (.iload_n 1, 1) := by decide +kernel
theorem dX5_raise_2 : decode cX5_raise 2 = .ok (.invokestatic 58, 3) := by decide +kernel
theorem dX5_raise_5 : decode cX5_raise 5 = .ok (.ifCond .ne 7, 3) := by decide +kernel
theorem dX5_raise_8 : decode cX5_raise 8 = .ok (.iconst 1, 1) := by decide +kernel
theorem dX5_raise_9 : decode cX5_raise 9 = .ok (.goto 40, 3) := by decide +kernel
theorem dX5_raise_12 : decode cX5_raise 12 = .ok (.iload_n 2, 1) := by decide +kernel
theorem dX5_raise_13 : decode cX5_raise 13 = .ok (.iconst 0, 1) := by decide +kernel
theorem dX5_raise_14 : decode cX5_raise 14 = .ok (.bipush 8, 2) := by decide +kernel
theorem dX5_raise_16 : decode cX5_raise 16 = .ok (.invokestatic 47, 3) := by decide +kernel
theorem dX5_raise_19 : decode cX5_raise 19 = .ok (.ifCond .eq 12, 3) := by decide +kernel
theorem dX5_raise_22 : decode cX5_raise 22 = .ok (.iload_n 3, 1) := by decide +kernel
theorem dX5_raise_23 : decode cX5_raise 23 = .ok (.iconst 1, 1) := by decide +kernel
theorem dX5_raise_24 : decode cX5_raise 24 = .ok (.iconst 3, 1) := by decide +kernel
theorem dX5_raise_25 : decode cX5_raise 25 = .ok (.invokestatic 47, 3) := by decide +kernel
theorem dX5_raise_28 : decode cX5_raise 28 = .ok (.ifCond .ne 7, 3) := by decide +kernel
theorem dX5_raise_31 : decode cX5_raise 31 = .ok (.iconst 2, 1) := by decide +kernel
theorem dX5_raise_32 : decode cX5_raise 32 = .ok (.goto 17, 3) := by decide +kernel
theorem dX5_raise_35 : decode cX5_raise 35 = .ok (.aload_n 0, 1) := by decide +kernel
theorem dX5_raise_36 : decode cX5_raise 36 = .ok (.getfield 7, 3) := by decide +kernel
theorem dX5_raise_39 : decode cX5_raise 39 = .ok (.bipush 61, 2) := by decide +kernel
theorem dX5_raise_41 : decode cX5_raise 41 = .ok (.if_icmp .ne 7, 3) := by decide +kernel
theorem dX5_raise_44 : decode cX5_raise 44 = .ok (.iconst 3, 1) := by decide +kernel
theorem dX5_raise_45 : decode cX5_raise 45 = .ok (.goto 4, 3) := by decide +kernel
theorem dX5_raise_48 : decode cX5_raise 48 = .ok (.iconst 0, 1) := by decide +kernel
theorem dX5_raise_49 : decode cX5_raise 49 = .ok (.putfield 44, 3) := by decide +kernel
theorem dX5_raise_52 : decode cX5_raise 52 = .ok (.aload_n 0, 1) := by decide +kernel
theorem dX5_raise_53 : decode cX5_raise 53 = .ok (.getfield 44, 3) := by decide +kernel
theorem dX5_raise_56 : decode cX5_raise 56 = .ok (.ifCond .le 5, 3) := by decide +kernel
theorem dX5_raise_59 : decode cX5_raise 59 = .ok (.iconst 0, 1) := by decide +kernel
theorem dX5_raise_60 : decode cX5_raise 60 = .ok (.ireturn, 1) := by decide +kernel
theorem dX5_raise_61 : decode cX5_raise 61 = .ok (.aload_n 0, 1) := by decide +kernel
theorem dX5_raise_62 : decode cX5_raise 62 = .ok (.invokevirtual 65, 3) := by decide +kernel
theorem dX5_raise_65 : decode cX5_raise 65 = .ok (.iconst 0, 1) := by decide +kernel
theorem dX5_raise_66 : decode cX5_raise 66 = .ok (.istore 4, 2) := by decide +kernel
theorem dX5_raise_68 : decode cX5_raise 68 = .ok (.iload 4, 2) := by decide +kernel
theorem dX5_raise_70 : decode cX5_raise 70 = .ok (.bipush 8, 2) := by decide +kernel
theorem dX5_raise_72 : decode cX5_raise 72 = .ok (.if_icmp .ge 27, 3) := by decide +kernel
theorem dX5_raise_75 : decode cX5_raise 75 = .ok (.aload_n 0, 1) := by decide +kernel
theorem dX5_raise_76 : decode cX5_raise 76 = .ok (.iload_n 1, 1) := by decide +kernel
theorem dX5_raise_77 : decode cX5_raise 77 = .ok (.iload 4, 2) := by decide +kernel
theorem dX5_raise_79 : decode cX5_raise 79 = .ok (.iload 4, 2) := by decide +kernel
theorem dX5_raise_81 : decode cX5_raise 81 = .ok (.iload_n 2, 1) := by decide +kernel
theorem dX5_raise_82 : decode cX5_raise 82 = .ok (.if_icmp .ge 7, 3) := by decide +kernel
theorem dX5_raise_85 : decode cX5_raise 85 = .ok (.iload_n 3, 1) := by decide +kernel
theorem dX5_raise_86 : decode cX5_raise 86 = .ok (.goto 4, 3) := by decide +kernel
theorem dX5_raise_89 : decode cX5_raise 89 = .ok (.iconst 0, 1) := by decide +kernel
theorem dX5_raise_90 : decode cX5_raise 90 = .ok (.invokevirtual 68, 3) := by decide +kernel
theorem dX5_raise_93 : decode cX5_raise 93 = .ok (.iinc 4 1, 3) := by decide +kernel
theorem dX5_raise_96 : decode cX5_raise 96 = .ok (.goto (-28), 3) := by decide +kernel
theorem dX5_raise_99 : decode cX5_raise 99 = .ok (.aload_n 0, 1) := by decide +kernel
theorem dX5_raise_100 : decode cX5_raise 100 = .ok (.getfield 51, 3) := by decide +kernel
theorem dX5_raise_103 : decode cX5_raise 103 = .ok (.ireturn, 1) := by decide +kernel
theorem dX5_layer_0 : decode cX5_layer 0 = .ok (.aload_n 0, 1) := by decide +kernel
theorem dX5_layer_1 : decode cX5_layer 1 = .ok (.iload_n 1, 1) := by decide +kernel
theorem dX5_layer_2 : decode cX5_layer 2 = .ok (.invokestatic 62, 3) := by decide +kernel
theorem dX5_layer_5 : decode cX5_layer 5 = .ok (.ifCond .ne 7, 3) := by decide +kernel
theorem dX5_layer_8 : decode cX5_layer 8 = .ok (.iconst 1, 1) := by decide +kernel
theorem dX5_layer_9 : decode cX5_layer 9 = .ok (.goto 30, 3) := by decide +kernel
theorem dX5_layer_12 : decode cX5_layer 12 = .ok (.iload_n 2, 1) := by decide +kernel
theorem dX5_layer_13 : decode cX5_layer 13 = .ok (.iconst 0, 1) := by decide +kernel
theorem dX5_layer_14 : decode cX5_layer 14 = .ok (.iconst 3, 1) := by decide +kernel
theorem dX5_layer_15 : decode cX5_layer 15 = .ok (.invokestatic 47, 3) := by decide +kernel
theorem dX5_layer_18 : decode cX5_layer 18 = .ok (.ifCond .ne 7, 3) := by decide +kernel
theorem dX5_layer_21 : decode cX5_layer 21 = .ok (.iconst 2, 1) := by decide +kernel
theorem dX5_layer_22 : decode cX5_layer 22 = .ok (.goto 17, 3) := by decide +kernel
theorem dX5_layer_25 : decode cX5_layer 25 = .ok (.aload_n 0, 1) := by decide +kernel
theorem dX5_layer_26 : decode cX5_layer 26 = .ok (.getfield 7, 3) := by decide +kernel
theorem dX5_layer_29 : decode cX5_layer 29 = .ok (.bipush 61, 2) := by decide +kernel
theorem dX5_layer_31 : decode cX5_layer 31 = .ok (.if_icmp .ne 7, 3) := by decide +kernel
theorem dX5_layer_34 : decode cX5_layer 34 = .ok (.iconst 3, 1) := by decide +kernel
theorem dX5_layer_35 : decode cX5_layer 35 = .ok (.goto 4, 3) := by decide +kernel
theorem dX5_layer_38 : decode cX5_layer 38 = .ok (.iconst 0, 1) := by decide +kernel
theorem dX5_layer_39 : decode cX5_layer 39 = .ok (.putfield 44, 3) := by decide +kernel
theorem dX5_layer_42 : decode cX5_layer 42 = .ok (.aload_n 0, 1) := by decide +kernel
theorem dX5_layer_43 : decode cX5_layer 43 = .ok (.getfield 44, 3) := by decide +kernel
theorem dX5_layer_46 : decode cX5_layer 46 = .ok (.ifCond .le 5, 3) := by decide +kernel
theorem dX5_layer_49 : decode cX5_layer 49 = .ok (.iconst 0, 1) := by decide +kernel
theorem dX5_layer_50 : decode cX5_layer 50 = .ok (.ireturn, 1) := by decide +kernel
theorem dX5_layer_51 : decode cX5_layer 51 = .ok (.aload_n 0, 1) := by decide +kernel
theorem dX5_layer_52 : decode cX5_layer 52 = .ok (.invokevirtual 65, 3) := by decide +kernel
theorem dX5_layer_55 : decode cX5_layer 55 = .ok (.iconst 0, 1) := by decide +kernel
theorem dX5_layer_56 : decode cX5_layer 56 = .ok (.istore_n 3, 1) := by decide +kernel
theorem dX5_layer_57 : decode cX5_layer 57 = .ok (.iload_n 3, 1) := by decide +kernel
theorem dX5_layer_58 : decode cX5_layer 58 = .ok (.bipush 16, 2) := by decide +kernel
theorem dX5_layer_60 : decode cX5_layer 60 = .ok (.if_icmp .ge 16, 3) := by decide +kernel
theorem dX5_layer_63 : decode cX5_layer 63 = .ok (.aload_n 0, 1) := by decide +kernel
theorem dX5_layer_64 : decode cX5_layer 64 = .ok (.iload_n 3, 1) := by decide +kernel
theorem dX5_layer_65 : decode cX5_layer 65 = .ok (.iload_n 1, 1) := by decide +kernel
theorem dX5_layer_66 : decode cX5_layer 66 = .ok (.iload_n 2, 1) := by decide +kernel
theorem dX5_layer_67 : decode cX5_layer 67 = .ok (.invokevirtual 68, 3) := by decide +kernel
theorem dX5_layer_70 : decode cX5_layer 70 = .ok (.iinc 3 1, 3) := by decide +kernel
theorem dX5_layer_73 : decode cX5_layer 73 = .ok (.goto (-16), 3) := by decide +kernel
theorem dX5_layer_76 : decode cX5_layer 76 = .ok (.aload_n 0, 1) := by decide +kernel
theorem dX5_layer_77 : decode cX5_layer 77 = .ok (.getfield 51, 3) := by decide +kernel
theorem dX5_layer_80 : decode cX5_layer 80 = .ok (.ireturn, 1) := by decide +kernel
theorem dX5_kind_0 : decode cX5_kind 0 = .ok (.aload_n 0, 1) := by decide +kernel
theorem dX5_kind_1 : decode cX5_kind 1 = .ok (.iload_n 1, 1) := by decide +kernel
theorem dX5_kind_2 : decode cX5_kind 2 = .ok (.invokestatic 58, 3) := by decide +kernel
theorem dX5_kind_5 : decode cX5_kind 5 = .ok (.ifCond .eq 14, 3) := by decide +kernel
theorem dX5_kind_8 : decode cX5_kind 8 = .ok (.iload_n 2, 1) := by decide +kernel
theorem dX5_kind_9 : decode cX5_kind 9 = .ok (.invokestatic 62, 3) := by decide +kernel
theorem dX5_kind_12 : decode cX5_kind 12 = .ok (.ifCond .eq 7, 3) := by decide +kernel
theorem dX5_kind_15 : decode cX5_kind 15 = .ok (.iconst 0, 1) := by decide +kernel
theorem dX5_kind_16 : decode cX5_kind 16 = .ok (.goto 4, 3) := by decide +kernel
theorem dX5_kind_19 : decode cX5_kind 19 = .ok (.iconst 1, 1) := by decide +kernel
theorem dX5_kind_20 : decode cX5_kind 20 = .ok (.putfield 44, 3) := by decide +kernel
theorem dX5_kind_23 : decode cX5_kind 23 = .ok (.aload_n 0, 1) := by decide +kernel
theorem dX5_kind_24 : decode cX5_kind 24 = .ok (.getfield 44, 3) := by decide +kernel
theorem dX5_kind_27 : decode cX5_kind 27 = .ok (.ifCond .le 7, 3) := by decide +kernel
theorem dX5_kind_30 : decode cX5_kind 30 = .ok (.iconst 0, 1) := by decide +kernel
theorem dX5_kind_31 : decode cX5_kind 31 = .ok (.goto 9, 3) := by decide +kernel
theorem dX5_kind_34 : decode cX5_kind 34 = .ok (.aload_n 0, 1) := by decide +kernel
theorem dX5_kind_35 : decode cX5_kind 35 = .ok (.iload_n 1, 1) := by decide +kernel
theorem dX5_kind_36 : decode cX5_kind 36 = .ok (.iload_n 2, 1) := by decide +kernel
theorem dX5_kind_37 : decode cX5_kind 37 = .ok (.invokevirtual 72, 3) := by decide +kernel
theorem dX5_kind_40 : decode cX5_kind 40 = .ok (.ireturn, 1) := by decide +kernel
theorem dX5_runsOf_0 : decode cX5_runsOf 0 = .ok (.iconst 1, 1) := by decide +kernel
theorem dX5_runsOf_1 : decode cX5_runsOf 1 = .ok (.istore_n 2, 1) := by decide +kernel
theorem dX5_runsOf_2 : decode cX5_runsOf 2 = .ok (.iconst 1, 1) := by decide +kernel
theorem dX5_runsOf_3 : decode cX5_runsOf 3 = .ok (.istore_n 3, 1) := by decide +kernel
theorem dX5_runsOf_4 : decode cX5_runsOf 4 = .ok (.iload_n 3, 1) := by decide +kernel
theorem dX5_runsOf_5 : decode cX5_runsOf 5 = .ok (.bipush 8, 2) := by decide +kernel
theorem dX5_runsOf_7 : decode cX5_runsOf 7 = .ok (.if_icmp .ge 34, 3) := by decide +kernel
theorem dX5_runsOf_10 : decode cX5_runsOf 10 = .ok (.iload_n 2, 1) := by decide +kernel
theorem dX5_runsOf_11 : decode cX5_runsOf 11 = .ok (.aload_n 0, 1) := by decide +kernel
theorem dX5_runsOf_12 : decode cX5_runsOf 12 = .ok (.iload_n 1, 1) := by decide +kernel
theorem dX5_runsOf_13 : decode cX5_runsOf 13 = .ok (.iload_n 3, 1) := by decide +kernel
theorem dX5_runsOf_14 : decode cX5_runsOf 14 = .ok (.invokevirtual 72, 3) := by decide +kernel
theorem dX5_runsOf_17 : decode cX5_runsOf 17 = .ok (.aload_n 0, 1) := by decide +kernel
theorem dX5_runsOf_18 : decode cX5_runsOf 18 = .ok (.iload_n 1, 1) := by decide +kernel
theorem dX5_runsOf_19 : decode cX5_runsOf 19 = .ok (.iload_n 3, 1) := by decide +kernel
theorem dX5_runsOf_20 : decode cX5_runsOf 20 = .ok (.iconst 1, 1) := by decide +kernel
theorem dX5_runsOf_21 : decode cX5_runsOf 21 = .ok (.isub, 1) := by decide +kernel
theorem dX5_runsOf_22 : decode cX5_runsOf 22 = .ok (.invokevirtual 72, 3) := by decide +kernel
theorem dX5_runsOf_25 : decode cX5_runsOf 25 = .ok (.if_icmp .ne 7, 3) := by decide +kernel
theorem dX5_runsOf_28 : decode cX5_runsOf 28 = .ok (.iconst 0, 1) := by decide +kernel
theorem dX5_runsOf_29 : decode cX5_runsOf 29 = .ok (.goto 4, 3) := by decide +kernel
theorem dX5_runsOf_32 : decode cX5_runsOf 32 = .ok (.iconst 1, 1) := by decide +kernel
theorem dX5_runsOf_33 : decode cX5_runsOf 33 = .ok (.iadd, 1) := by decide +kernel
theorem dX5_runsOf_34 : decode cX5_runsOf 34 = .ok (.istore_n 2, 1) := by decide +kernel
theorem dX5_runsOf_35 : decode cX5_runsOf 35 = .ok (.iinc 3 1, 3) := by decide +kernel
theorem dX5_runsOf_38 : decode cX5_runsOf 38 = .ok (.goto (-34), 3) := by decide +kernel
theorem dX5_runsOf_41 : decode cX5_runsOf 41 = .ok (.iload_n 2, 1) := by decide +kernel
theorem dX5_runsOf_42 : decode cX5_runsOf 42 = .ok (.ireturn, 1) := by decide +kernel
theorem dX5_runs_0 : decode cX5_runs 0 = .ok (.aload_n 0, 1) := by decide +kernel
theorem dX5_runs_1 : decode cX5_runs 1 = .ok (.iload_n 1, 1) := by decide +kernel
theorem dX5_runs_2 : decode cX5_runs 2 = .ok (.invokestatic 58, 3) := by decide +kernel
theorem dX5_runs_5 : decode cX5_runs 5 = .ok (.ifCond .eq 7, 3) := by decide +kernel
theorem dX5_runs_8 : decode cX5_runs 8 = .ok (.iconst 0, 1) := by decide +kernel
theorem dX5_runs_9 : decode cX5_runs 9 = .ok (.goto 4, 3) := by decide +kernel
theorem dX5_runs_12 : decode cX5_runs 12 = .ok (.iconst 1, 1) := by decide +kernel
theorem dX5_runs_13 : decode cX5_runs 13 = .ok (.putfield 44, 3) := by decide +kernel
theorem dX5_runs_16 : decode cX5_runs 16 = .ok (.aload_n 0, 1) := by decide +kernel
theorem dX5_runs_17 : decode cX5_runs 17 = .ok (.getfield 44, 3) := by decide +kernel
theorem dX5_runs_20 : decode cX5_runs 20 = .ok (.ifCond .le 7, 3) := by decide +kernel
theorem dX5_runs_23 : decode cX5_runs 23 = .ok (.iconst 0, 1) := by decide +kernel
theorem dX5_runs_24 : decode cX5_runs 24 = .ok (.goto 8, 3) := by decide +kernel
theorem dX5_runs_27 : decode cX5_runs 27 = .ok (.aload_n 0, 1) := by decide +kernel
theorem dX5_runs_28 : decode cX5_runs 28 = .ok (.iload_n 1, 1) := by decide +kernel
theorem dX5_runs_29 : decode cX5_runs 29 = .ok (.invokevirtual 76, 3) := by decide +kernel
theorem dX5_runs_32 : decode cX5_runs 32 = .ok (.ireturn, 1) := by decide +kernel
theorem dX5_runLength_0 : decode cX5_runLength 0 = .ok (.aload_n 0, 1) := by decide +kernel
theorem dX5_runLength_1 : decode cX5_runLength 1 = .ok (.iload_n 1, 1) := by decide +kernel
theorem dX5_runLength_2 : decode cX5_runLength 2 = .ok (.invokestatic 58, 3) := by decide +kernel
theorem dX5_runLength_5 : decode cX5_runLength 5 = .ok (.ifCond .eq 22, 3) := by decide +kernel
theorem dX5_runLength_8 : decode cX5_runLength 8 = .ok (.iload_n 2, 1) := by decide +kernel
theorem dX5_runLength_9 : decode cX5_runLength 9 = .ok (.iconst 0, 1) := by decide +kernel
theorem dX5_runLength_10 : decode cX5_runLength 10 = .ok (.aload_n 0, 1) := by decide +kernel
theorem dX5_runLength_11 : decode cX5_runLength 11 = .ok (.iload_n 1, 1) := by decide +kernel
theorem dX5_runLength_12 : decode cX5_runLength 12 = .ok (.invokevirtual 76, 3) := by decide +kernel
theorem dX5_runLength_15 : decode cX5_runLength 15 = .ok (.iconst 1, 1) := by decide +kernel
theorem dX5_runLength_16 : decode cX5_runLength 16 = .ok (.isub, 1) := by decide +kernel
theorem dX5_runLength_17 : decode cX5_runLength 17 = .ok (.invokestatic 47, 3) := by decide +kernel
theorem dX5_runLength_20 : decode cX5_runLength 20 = .ok (.ifCond .eq 7, 3) := by decide +kernel
theorem dX5_runLength_23 : decode cX5_runLength 23 = .ok (.iconst 0, 1) := by decide +kernel
theorem dX5_runLength_24 : decode cX5_runLength 24 = .ok (.goto 4, 3) := by decide +kernel
theorem dX5_runLength_27 : decode cX5_runLength 27 = .ok (.iconst 1, 1) := by decide +kernel
theorem dX5_runLength_28 : decode cX5_runLength 28 = .ok (.putfield 44, 3) := by decide +kernel
theorem dX5_runLength_31 : decode cX5_runLength 31 = .ok (.iconst 0, 1) := by decide +kernel
theorem dX5_runLength_32 : decode cX5_runLength 32 = .ok (.istore_n 3, 1) := by decide +kernel
theorem dX5_runLength_33 : decode cX5_runLength 33 = .ok (.iconst 0, 1) := by decide +kernel
theorem dX5_runLength_34 : decode cX5_runLength 34 = .ok (.istore 4, 2) := by decide +kernel
theorem dX5_runLength_36 : decode cX5_runLength 36 = .ok (.iconst 0, 1) := by decide +kernel
theorem dX5_runLength_37 : decode cX5_runLength 37 = .ok (.istore 5, 2) := by decide +kernel
theorem dX5_runLength_39 : decode cX5_runLength 39 = .ok (.iload 5, 2) := by decide +kernel
theorem dX5_runLength_41 : decode cX5_runLength 41 = .ok (.bipush 8, 2) := by decide +kernel
theorem dX5_runLength_43 : decode cX5_runLength 43 = .ok (.if_icmp .ge 64, 3) := by decide +kernel
theorem dX5_runLength_46 : decode cX5_runLength 46 = .ok (.aload_n 0, 1) := by decide +kernel
theorem dX5_runLength_47 : decode cX5_runLength 47 = .ok (.getfield 44, 3) := by decide +kernel
theorem dX5_runLength_50 : decode cX5_runLength 50 = .ok (.ifCond .ne 57, 3) := by decide +kernel
theorem dX5_runLength_53 : decode cX5_runLength 53 = .ok (.iload 4, 2) := by decide +kernel
theorem dX5_runLength_55 : decode cX5_runLength 55 = .ok (.iload 5, 2) := by decide +kernel
theorem dX5_runLength_57 : decode cX5_runLength 57 = .ok (.ifCond .le 26, 3) := by decide +kernel
theorem dX5_runLength_60 : decode cX5_runLength 60 = .ok (.aload_n 0, 1) := by decide +kernel
theorem dX5_runLength_61 : decode cX5_runLength 61 = .ok (.iload_n 1, 1) := by decide +kernel
theorem dX5_runLength_62 : decode cX5_runLength 62 = .ok (.iload 5, 2) := by decide +kernel
theorem dX5_runLength_64 : decode cX5_runLength 64 = .ok (.invokevirtual 72, 3) := by decide +kernel
theorem dX5_runLength_67 : decode cX5_runLength 67 = .ok (.aload_n 0, 1) := by decide +kernel
theorem dX5_runLength_68 : decode cX5_runLength 68 = .ok (.iload_n 1, 1) := by decide +kernel
theorem dX5_runLength_69 : decode cX5_runLength 69 = .ok (.iload 5, 2) := by decide +kernel
theorem dX5_runLength_71 : decode cX5_runLength 71 = .ok (.iconst 1, 1) := by decide +kernel
theorem dX5_runLength_72 : decode cX5_runLength 72 = .ok (.isub, 1) := by decide +kernel
theorem dX5_runLength_73 : decode cX5_runLength 73 = .ok (.invokevirtual 72, 3) := by decide +kernel
theorem dX5_runLength_76 : decode cX5_runLength 76 = .ok (.if_icmp .eq 7, 3) := by decide +kernel
theorem dX5_runLength_79 : decode cX5_runLength 79 = .ok (.iconst 1, 1) := by decide +kernel
theorem dX5_runLength_80 : decode cX5_runLength 80 = .ok (.goto 4, 3) := by decide +kernel
theorem dX5_runLength_83 : decode cX5_runLength 83 = .ok (.iconst 0, 1) := by decide +kernel
theorem dX5_runLength_84 : decode cX5_runLength 84 = .ok (.iadd, 1) := by decide +kernel
theorem dX5_runLength_85 : decode cX5_runLength 85 = .ok (.istore 4, 2) := by decide +kernel
theorem dX5_runLength_87 : decode cX5_runLength 87 = .ok (.iload_n 3, 1) := by decide +kernel
theorem dX5_runLength_88 : decode cX5_runLength 88 = .ok (.iload 4, 2) := by decide +kernel
theorem dX5_runLength_90 : decode cX5_runLength 90 = .ok (.iload_n 2, 1) := by decide +kernel
theorem dX5_runLength_91 : decode cX5_runLength 91 = .ok (.if_icmp .ne 7, 3) := by decide +kernel
theorem dX5_runLength_94 : decode cX5_runLength 94 = .ok (.iconst 1, 1) := by decide +kernel
theorem dX5_runLength_95 : decode cX5_runLength 95 = .ok (.goto 4, 3) := by decide +kernel
theorem dX5_runLength_98 : decode cX5_runLength 98 = .ok (.iconst 0, 1) := by decide +kernel
theorem dX5_runLength_99 : decode cX5_runLength 99 = .ok (.iadd, 1) := by decide +kernel
theorem dX5_runLength_100 : decode cX5_runLength 100 = .ok (.istore_n 3, 1) := by decide +kernel
theorem dX5_runLength_101 : decode cX5_runLength 101 = .ok (.iinc 5 1, 3) := by decide +kernel
theorem dX5_runLength_104 : decode cX5_runLength 104 = .ok (.goto (-65), 3) := by decide +kernel
theorem dX5_runLength_107 : decode cX5_runLength 107 = .ok (.iload_n 3, 1) := by decide +kernel
theorem dX5_runLength_108 : decode cX5_runLength 108 = .ok (.ireturn, 1) := by decide +kernel
theorem dX5_manyBlocks_0 : decode cX5_manyBlocks 0 = .ok (.iconst 0, 1) := by decide +kernel
theorem dX5_manyBlocks_1 : decode cX5_manyBlocks 1 = .ok (.istore_n 1, 1) := by decide +kernel
theorem dX5_manyBlocks_2 : decode cX5_manyBlocks 2 = .ok (.iconst 0, 1) := by decide +kernel
theorem dX5_manyBlocks_3 : decode cX5_manyBlocks 3 = .ok (.istore_n 2, 1) := by decide +kernel
theorem dX5_manyBlocks_4 : decode cX5_manyBlocks 4 = .ok (.iload_n 2, 1) := by decide +kernel
theorem dX5_manyBlocks_5 : decode cX5_manyBlocks 5 = .ok (.bipush 16, 2) := by decide +kernel
theorem dX5_manyBlocks_7 : decode cX5_manyBlocks 7 = .ok (.if_icmp .ge 40, 3) := by decide +kernel
theorem dX5_manyBlocks_10 : decode cX5_manyBlocks 10 = .ok (.iconst 0, 1) := by decide +kernel
theorem dX5_manyBlocks_11 : decode cX5_manyBlocks 11 = .ok (.istore_n 3, 1) := by decide +kernel
theorem dX5_manyBlocks_12 : decode cX5_manyBlocks 12 = .ok (.iload_n 3, 1) := by decide +kernel
theorem dX5_manyBlocks_13 : decode cX5_manyBlocks 13 = .ok (.bipush 8, 2) := by decide +kernel
theorem dX5_manyBlocks_15 : decode cX5_manyBlocks 15 = .ok (.if_icmp .ge 26, 3) := by decide +kernel
theorem dX5_manyBlocks_18 : decode cX5_manyBlocks 18 = .ok (.iload_n 1, 1) := by decide +kernel
theorem dX5_manyBlocks_19 : decode cX5_manyBlocks 19 = .ok (.aload_n 0, 1) := by decide +kernel
theorem dX5_manyBlocks_20 : decode cX5_manyBlocks 20 = .ok (.iload_n 2, 1) := by decide +kernel
theorem dX5_manyBlocks_21 : decode cX5_manyBlocks 21 = .ok (.iload_n 3, 1) := by decide +kernel
theorem dX5_manyBlocks_22 : decode cX5_manyBlocks 22 = .ok (.invokevirtual 72, 3) := by decide +kernel
theorem dX5_manyBlocks_25 : decode cX5_manyBlocks 25 = .ok (.ifCond .le 7, 3) := by decide +kernel
theorem dX5_manyBlocks_28 : decode cX5_manyBlocks 28 = .ok (.iconst 1, 1) := by decide +kernel
theorem dX5_manyBlocks_29 : decode cX5_manyBlocks 29 = .ok (.goto 4, 3) := by decide +kernel
theorem dX5_manyBlocks_32 : decode cX5_manyBlocks 32 = .ok (.iconst 0, 1) := by decide +kernel
theorem dX5_manyBlocks_33 : decode cX5_manyBlocks 33 = .ok (.iadd, 1) := by decide +kernel
theorem dX5_manyBlocks_34 : decode cX5_manyBlocks 34 = .ok (.istore_n 1, 1) := by decide +kernel
theorem dX5_manyBlocks_35 : decode cX5_manyBlocks 35 = .ok (.iinc 3 1, 3) := by decide +kernel
theorem dX5_manyBlocks_38 : decode cX5_manyBlocks 38 = .ok (.goto (-26), 3) := by decide +kernel
theorem dX5_manyBlocks_41 : decode cX5_manyBlocks 41 = .ok (.iinc 2 1, 3) := by decide +kernel
theorem dX5_manyBlocks_44 : decode cX5_manyBlocks 44 = .ok (.goto (-40), 3) := by decide +kernel
theorem dX5_manyBlocks_47 : decode cX5_manyBlocks 47 = .ok (.iload_n 1, 1) := by decide +kernel
theorem dX5_manyBlocks_48 : decode cX5_manyBlocks 48 = .ok (.ireturn, 1) := by decide +kernel
theorem dX5_blocks_0 : decode cX5_blocks 0 = .ok (.aload_n 0, 1) := by decide +kernel
theorem dX5_blocks_1 : decode cX5_blocks 1 = .ok (.iconst 0, 1) := by decide +kernel
theorem dX5_blocks_2 : decode cX5_blocks 2 = .ok (.putfield 44, 3) := by decide +kernel
theorem dX5_blocks_5 : decode cX5_blocks 5 = .ok (.aload_n 0, 1) := by decide +kernel
theorem dX5_blocks_6 : decode cX5_blocks 6 = .ok (.invokevirtual 80, 3) := by decide +kernel
theorem dX5_blocks_9 : decode cX5_blocks 9 = .ok (.ireturn, 1) := by decide +kernel
theorem dX5_blocksOneByOne_0 : decode cX5_blocksOneByOne 0 = .ok (.aload_n 0, 1) := by decide +kernel
theorem dX5_blocksOneByOne_1 : decode cX5_blocksOneByOne 1 = .ok (.iconst 0, 1) := by decide +kernel
theorem dX5_blocksOneByOne_2 : decode cX5_blocksOneByOne 2 = .ok (.putfield 44, 3) := by decide +kernel
theorem dX5_blocksOneByOne_5 : decode cX5_blocksOneByOne 5 = .ok (.aload_n 0, 1) := by decide +kernel
theorem dX5_blocksOneByOne_6 : decode cX5_blocksOneByOne 6 = .ok (.invokevirtual 80, 3) := by decide +kernel
theorem dX5_blocksOneByOne_9 : decode cX5_blocksOneByOne 9 = .ok (.ireturn, 1) := by decide +kernel
theorem dX5_joins_0 : decode cX5_joins 0 = .ok (.aload_n 0, 1) := by decide +kernel
theorem dX5_joins_1 : decode cX5_joins 1 = .ok (.getfield 20, 3) := by decide +kernel
theorem dX5_joins_4 : decode cX5_joins 4 = .ok (.iload_n 1, 1) := by decide +kernel
theorem dX5_joins_5 : decode cX5_joins 5 = .ok (.iaload, 1) := by decide +kernel
theorem dX5_joins_6 : decode cX5_joins 6 = .ok (.iconst (-1), 1) := by decide +kernel
theorem dX5_joins_7 : decode cX5_joins 7 = .ok (.if_icmp .eq 28, 3) := by decide +kernel
theorem dX5_joins_10 : decode cX5_joins 10 = .ok (.aload_n 0, 1) := by decide +kernel
theorem dX5_joins_11 : decode cX5_joins 11 = .ok (.getfield 20, 3) := by decide +kernel
theorem dX5_joins_14 : decode cX5_joins 14 = .ok (.iload_n 2, 1) := by decide +kernel
theorem dX5_joins_15 : decode cX5_joins 15 = .ok (.iaload, 1) := by decide +kernel
theorem dX5_joins_16 : decode cX5_joins 16 = .ok (.iconst (-1), 1) := by decide +kernel
theorem dX5_joins_17 : decode cX5_joins 17 = .ok (.if_icmp .eq 18, 3) := by decide +kernel
theorem dX5_joins_20 : decode cX5_joins 20 = .ok (.aload_n 0, 1) := by decide +kernel
theorem dX5_joins_21 : decode cX5_joins 21 = .ok (.getfield 20, 3) := by decide +kernel
theorem dX5_joins_24 : decode cX5_joins 24 = .ok (.iload_n 1, 1) := by decide +kernel
theorem dX5_joins_25 : decode cX5_joins 25 = .ok (.iaload, 1) := by decide +kernel
theorem dX5_joins_26 : decode cX5_joins 26 = .ok (.aload_n 0, 1) := by decide +kernel
theorem dX5_joins_27 : decode cX5_joins 27 = .ok (.getfield 20, 3) := by decide +kernel
theorem dX5_joins_30 : decode cX5_joins 30 = .ok (.iload_n 2, 1) := by decide +kernel
theorem dX5_joins_31 : decode cX5_joins 31 = .ok (.iaload, 1) := by decide +kernel
theorem dX5_joins_32 : decode cX5_joins 32 = .ok (.if_icmp .ne 5, 3) := by decide +kernel
theorem dX5_joins_35 : decode cX5_joins 35 = .ok (.iconst 0, 1) := by decide +kernel
theorem dX5_joins_36 : decode cX5_joins 36 = .ok (.ireturn, 1) := by decide +kernel
theorem dX5_joins_37 : decode cX5_joins 37 = .ok (.aload_n 0, 1) := by decide +kernel
theorem dX5_joins_38 : decode cX5_joins 38 = .ok (.getfield 20, 3) := by decide +kernel
theorem dX5_joins_41 : decode cX5_joins 41 = .ok (.iload_n 1, 1) := by decide +kernel
theorem dX5_joins_42 : decode cX5_joins 42 = .ok (.iaload, 1) := by decide +kernel
theorem dX5_joins_43 : decode cX5_joins 43 = .ok (.aload_n 0, 1) := by decide +kernel
theorem dX5_joins_44 : decode cX5_joins 44 = .ok (.getfield 20, 3) := by decide +kernel
theorem dX5_joins_47 : decode cX5_joins 47 = .ok (.iload_n 2, 1) := by decide +kernel
theorem dX5_joins_48 : decode cX5_joins 48 = .ok (.iaload, 1) := by decide +kernel
theorem dX5_joins_49 : decode cX5_joins 49 = .ok (.if_icmp .ge 12, 3) := by decide +kernel
theorem dX5_joins_52 : decode cX5_joins 52 = .ok (.aload_n 0, 1) := by decide +kernel
theorem dX5_joins_53 : decode cX5_joins 53 = .ok (.getfield 20, 3) := by decide +kernel
theorem dX5_joins_56 : decode cX5_joins 56 = .ok (.iload_n 1, 1) := by decide +kernel
theorem dX5_joins_57 : decode cX5_joins 57 = .ok (.iaload, 1) := by decide +kernel
theorem dX5_joins_58 : decode cX5_joins 58 = .ok (.goto 9, 3) := by decide +kernel
theorem dX5_joins_61 : decode cX5_joins 61 = .ok (.aload_n 0, 1) := by decide +kernel
theorem dX5_joins_62 : decode cX5_joins 62 = .ok (.getfield 20, 3) := by decide +kernel
theorem dX5_joins_65 : decode cX5_joins 65 = .ok (.iload_n 2, 1) := by decide +kernel
theorem dX5_joins_66 : decode cX5_joins 66 = .ok (.iaload, 1) := by decide +kernel
theorem dX5_joins_67 : decode cX5_joins 67 = .ok (.istore_n 3, 1) := by decide +kernel
theorem dX5_joins_68 : decode cX5_joins 68 = .ok (.aload_n 0, 1) := by decide +kernel
theorem dX5_joins_69 : decode cX5_joins 69 = .ok (.getfield 20, 3) := by decide +kernel
theorem dX5_joins_72 : decode cX5_joins 72 = .ok (.iload_n 1, 1) := by decide +kernel
theorem dX5_joins_73 : decode cX5_joins 73 = .ok (.iload_n 3, 1) := by decide +kernel
theorem dX5_joins_74 : decode cX5_joins 74 = .ok (.iastore, 1) := by decide +kernel
theorem dX5_joins_75 : decode cX5_joins 75 = .ok (.aload_n 0, 1) := by decide +kernel
theorem dX5_joins_76 : decode cX5_joins 76 = .ok (.getfield 20, 3) := by decide +kernel
theorem dX5_joins_79 : decode cX5_joins 79 = .ok (.iload_n 2, 1) := by decide +kernel
theorem dX5_joins_80 : decode cX5_joins 80 = .ok (.iload_n 3, 1) := by decide +kernel
theorem dX5_joins_81 : decode cX5_joins 81 = .ok (.iastore, 1) := by decide +kernel
theorem dX5_joins_82 : decode cX5_joins 82 = .ok (.iconst 1, 1) := by decide +kernel
theorem dX5_joins_83 : decode cX5_joins 83 = .ok (.ireturn, 1) := by decide +kernel
theorem dX5_joinsAll_0 : decode cX5_joinsAll 0 = .ok (.iconst 0, 1) := by decide +kernel
theorem dX5_joinsAll_1 : decode cX5_joinsAll 1 = .ok (.istore_n 1, 1) := by decide +kernel
theorem dX5_joinsAll_2 : decode cX5_joinsAll 2 = .ok (.iconst 0, 1) := by decide +kernel
theorem dX5_joinsAll_3 : decode cX5_joinsAll 3 = .ok (.istore_n 2, 1) := by decide +kernel
theorem dX5_joinsAll_4 : decode cX5_joinsAll 4 = .ok (.iload_n 2, 1) := by decide +kernel
theorem dX5_joinsAll_5 : decode cX5_joinsAll 5 = .ok (.bipush 16, 2) := by decide +kernel
theorem dX5_joinsAll_7 : decode cX5_joinsAll 7 = .ok (.if_icmp .ge 127, 3) := by decide +kernel
theorem dX5_joinsAll_10 : decode cX5_joinsAll 10 = .ok (.iconst 0, 1) := by decide +kernel
theorem dX5_joinsAll_11 : decode cX5_joinsAll 11 = .ok (.istore_n 3, 1) := by decide +kernel
theorem dX5_joinsAll_12 : decode cX5_joinsAll 12 = .ok (.iload_n 3, 1) := by decide +kernel
theorem dX5_joinsAll_13 : decode cX5_joinsAll 13 = .ok (.bipush 8, 2) := by decide +kernel
theorem dX5_joinsAll_15 : decode cX5_joinsAll 15 = .ok (.if_icmp .ge 113, 3) := by decide +kernel
theorem dX5_joinsAll_18 : decode cX5_joinsAll 18 = .ok (.bipush 8, 2) := by decide +kernel
theorem dX5_joinsAll_20 : decode cX5_joinsAll 20 = .ok (.iload_n 2, 1) := by decide +kernel
theorem dX5_joinsAll_21 : decode cX5_joinsAll 21 = .ok (.imul, 1) := by decide +kernel
theorem dX5_joinsAll_22 : decode cX5_joinsAll 22 = .ok (.iload_n 3, 1) := by decide +kernel
theorem dX5_joinsAll_23 : decode cX5_joinsAll 23 = .ok (.iadd, 1) := by decide +kernel
theorem dX5_joinsAll_24 : decode cX5_joinsAll 24 = .ok (.istore 4, 2) := by decide +kernel
theorem dX5_joinsAll_26 : decode cX5_joinsAll 26 = .ok (.iload_n 3, 1) := by decide +kernel
theorem dX5_joinsAll_27 : decode cX5_joinsAll 27 = .ok (.iconst 1, 1) := by decide +kernel
theorem dX5_joinsAll_28 : decode cX5_joinsAll 28 = .ok (.iadd, 1) := by decide +kernel
theorem dX5_joinsAll_29 : decode cX5_joinsAll 29 = .ok (.bipush 8, 2) := by decide +kernel
theorem dX5_joinsAll_31 : decode cX5_joinsAll 31 = .ok (.if_icmp .ge 16, 3) := by decide +kernel
theorem dX5_joinsAll_34 : decode cX5_joinsAll 34 = .ok (.aload_n 0, 1) := by decide +kernel
theorem dX5_joinsAll_35 : decode cX5_joinsAll 35 = .ok (.iload 4, 2) := by decide +kernel
theorem dX5_joinsAll_37 : decode cX5_joinsAll 37 = .ok (.iload 4, 2) := by decide +kernel
theorem dX5_joinsAll_39 : decode cX5_joinsAll 39 = .ok (.iconst 1, 1) := by decide +kernel
theorem dX5_joinsAll_40 : decode cX5_joinsAll 40 = .ok (.iadd, 1) := by decide +kernel
theorem dX5_joinsAll_41 : decode cX5_joinsAll 41 = .ok (.invokevirtual 84, 3) := by decide +kernel
theorem dX5_joinsAll_44 : decode cX5_joinsAll 44 = .ok (.ifCond .ne 7, 3) := by decide +kernel
theorem dX5_joinsAll_47 : decode cX5_joinsAll 47 = .ok (.iload_n 1, 1) := by decide +kernel
theorem dX5_joinsAll_48 : decode cX5_joinsAll 48 = .ok (.ifCond .eq 7, 3) := by decide +kernel
theorem dX5_joinsAll_51 : decode cX5_joinsAll 51 = .ok (.iconst 1, 1) := by decide +kernel
theorem dX5_joinsAll_52 : decode cX5_joinsAll 52 = .ok (.goto 4, 3) := by decide +kernel
theorem dX5_joinsAll_55 : decode cX5_joinsAll 55 = .ok (.iconst 0, 1) := by decide +kernel
theorem dX5_joinsAll_56 : decode cX5_joinsAll 56 = .ok (.istore_n 1, 1) := by decide +kernel
theorem dX5_joinsAll_57 : decode cX5_joinsAll 57 = .ok (.iload_n 2, 1) := by decide +kernel
theorem dX5_joinsAll_58 : decode cX5_joinsAll 58 = .ok (.iconst 4, 1) := by decide +kernel
theorem dX5_joinsAll_59 : decode cX5_joinsAll 59 = .ok (.irem, 1) := by decide +kernel
theorem dX5_joinsAll_60 : decode cX5_joinsAll 60 = .ok (.iconst 1, 1) := by decide +kernel
theorem dX5_joinsAll_61 : decode cX5_joinsAll 61 = .ok (.iadd, 1) := by decide +kernel
theorem dX5_joinsAll_62 : decode cX5_joinsAll 62 = .ok (.iconst 4, 1) := by decide +kernel
theorem dX5_joinsAll_63 : decode cX5_joinsAll 63 = .ok (.if_icmp .ge 17, 3) := by decide +kernel
theorem dX5_joinsAll_66 : decode cX5_joinsAll 66 = .ok (.aload_n 0, 1) := by decide +kernel
theorem dX5_joinsAll_67 : decode cX5_joinsAll 67 = .ok (.iload 4, 2) := by decide +kernel
theorem dX5_joinsAll_69 : decode cX5_joinsAll 69 = .ok (.iload 4, 2) := by decide +kernel
theorem dX5_joinsAll_71 : decode cX5_joinsAll 71 = .ok (.bipush 8, 2) := by decide +kernel
theorem dX5_joinsAll_73 : decode cX5_joinsAll 73 = .ok (.iadd, 1) := by decide +kernel
theorem dX5_joinsAll_74 : decode cX5_joinsAll 74 = .ok (.invokevirtual 84, 3) := by decide +kernel
theorem dX5_joinsAll_77 : decode cX5_joinsAll 77 = .ok (.ifCond .ne 7, 3) := by decide +kernel
theorem dX5_joinsAll_80 : decode cX5_joinsAll 80 = .ok (.iload_n 1, 1) := by decide +kernel
theorem dX5_joinsAll_81 : decode cX5_joinsAll 81 = .ok (.ifCond .eq 7, 3) := by decide +kernel
theorem dX5_joinsAll_84 : decode cX5_joinsAll 84 = .ok (.iconst 1, 1) := by decide +kernel
theorem dX5_joinsAll_85 : decode cX5_joinsAll 85 = .ok (.goto 4, 3) := by decide +kernel
theorem dX5_joinsAll_88 : decode cX5_joinsAll 88 = .ok (.iconst 0, 1) := by decide +kernel
theorem dX5_joinsAll_89 : decode cX5_joinsAll 89 = .ok (.istore_n 1, 1) := by decide +kernel
theorem dX5_joinsAll_90 : decode cX5_joinsAll 90 = .ok (.iload_n 2, 1) := by decide +kernel
theorem dX5_joinsAll_91 : decode cX5_joinsAll 91 = .ok (.iconst 4, 1) := by decide +kernel
theorem dX5_joinsAll_92 : decode cX5_joinsAll 92 = .ok (.iadd, 1) := by decide +kernel
theorem dX5_joinsAll_93 : decode cX5_joinsAll 93 = .ok (.bipush 16, 2) := by decide +kernel
theorem dX5_joinsAll_95 : decode cX5_joinsAll 95 = .ok (.if_icmp .ge 17, 3) := by decide +kernel
theorem dX5_joinsAll_98 : decode cX5_joinsAll 98 = .ok (.aload_n 0, 1) := by decide +kernel
theorem dX5_joinsAll_99 : decode cX5_joinsAll 99 = .ok (.iload 4, 2) := by decide +kernel
theorem dX5_joinsAll_101 : decode cX5_joinsAll 101 = .ok (.iload 4, 2) := by decide +kernel
theorem dX5_joinsAll_103 : decode cX5_joinsAll 103 = .ok (.bipush 32, 2) := by decide +kernel
theorem dX5_joinsAll_105 : decode cX5_joinsAll 105 = .ok (.iadd, 1) := by decide +kernel
theorem dX5_joinsAll_106 : decode cX5_joinsAll 106 = .ok (.invokevirtual 84, 3) := by decide +kernel
theorem dX5_joinsAll_109 : decode cX5_joinsAll 109 = .ok (.ifCond .ne 7, 3) := by decide +kernel
theorem dX5_joinsAll_112 : decode cX5_joinsAll 112 = .ok (.iload_n 1, 1) := by decide +kernel
theorem dX5_joinsAll_113 : decode cX5_joinsAll 113 = .ok (.ifCond .eq 7, 3) := by decide +kernel
theorem dX5_joinsAll_116 : decode cX5_joinsAll 116 = .ok (.iconst 1, 1) := by decide +kernel
theorem dX5_joinsAll_117 : decode cX5_joinsAll 117 = .ok (.goto 4, 3) := by decide +kernel
theorem dX5_joinsAll_120 : decode cX5_joinsAll 120 = .ok (.iconst 0, 1) := by decide +kernel
theorem dX5_joinsAll_121 : decode cX5_joinsAll 121 = .ok (.istore_n 1, 1) := by decide +kernel
theorem dX5_joinsAll_122 : decode cX5_joinsAll 122 = .ok (.iinc 3 1, 3) := by decide +kernel
theorem dX5_joinsAll_125 : decode cX5_joinsAll 125 = .ok (.goto (-113), 3) := by decide +kernel
theorem dX5_joinsAll_128 : decode cX5_joinsAll 128 = .ok (.iinc 2 1, 3) := by decide +kernel
theorem dX5_joinsAll_131 : decode cX5_joinsAll 131 = .ok (.goto (-127), 3) := by decide +kernel
theorem dX5_joinsAll_134 : decode cX5_joinsAll 134 = .ok (.iload_n 1, 1) := by decide +kernel
theorem dX5_joinsAll_135 : decode cX5_joinsAll 135 = .ok (.ireturn, 1) := by decide +kernel
theorem dX5_manyPieces_0 : decode cX5_manyPieces 0 = .ok (.iconst 0, 1) := by decide +kernel
theorem dX5_manyPieces_1 : decode cX5_manyPieces 1 = .ok (.istore_n 1, 1) := by decide +kernel
theorem dX5_manyPieces_2 : decode cX5_manyPieces 2 = .ok (.iload_n 1, 1) := by decide +kernel
theorem dX5_manyPieces_3 : decode cX5_manyPieces 3 = .ok (.sipush 128, 3) := by decide +kernel
theorem dX5_manyPieces_6 : decode cX5_manyPieces 6 = .ok (.if_icmp .ge 35, 3) := by decide +kernel
theorem dX5_manyPieces_9 : decode cX5_manyPieces 9 = .ok (.aload_n 0, 1) := by decide +kernel
theorem dX5_manyPieces_10 : decode cX5_manyPieces 10 = .ok (.getfield 20, 3) := by decide +kernel
theorem dX5_manyPieces_13 : decode cX5_manyPieces 13 = .ok (.iload_n 1, 1) := by decide +kernel
theorem dX5_manyPieces_14 : decode cX5_manyPieces 14 = .ok (.aload_n 0, 1) := by decide +kernel
theorem dX5_manyPieces_15 : decode cX5_manyPieces 15 = .ok (.iload_n 1, 1) := by decide +kernel
theorem dX5_manyPieces_16 : decode cX5_manyPieces 16 = .ok (.bipush 8, 2) := by decide +kernel
theorem dX5_manyPieces_18 : decode cX5_manyPieces 18 = .ok (.idiv, 1) := by decide +kernel
theorem dX5_manyPieces_19 : decode cX5_manyPieces 19 = .ok (.iload_n 1, 1) := by decide +kernel
theorem dX5_manyPieces_20 : decode cX5_manyPieces 20 = .ok (.bipush 8, 2) := by decide +kernel
theorem dX5_manyPieces_22 : decode cX5_manyPieces 22 = .ok (.irem, 1) := by decide +kernel
theorem dX5_manyPieces_23 : decode cX5_manyPieces 23 = .ok (.invokevirtual 72, 3) := by decide +kernel
theorem dX5_manyPieces_26 : decode cX5_manyPieces 26 = .ok (.ifCond .le 7, 3) := by decide +kernel
theorem dX5_manyPieces_29 : decode cX5_manyPieces 29 = .ok (.iload_n 1, 1) := by decide +kernel
theorem dX5_manyPieces_30 : decode cX5_manyPieces 30 = .ok (.goto 4, 3) := by decide +kernel
theorem dX5_manyPieces_33 : decode cX5_manyPieces 33 = .ok (.iconst (-1), 1) := by decide +kernel
theorem dX5_manyPieces_34 : decode cX5_manyPieces 34 = .ok (.iastore, 1) := by decide +kernel
theorem dX5_manyPieces_35 : decode cX5_manyPieces 35 = .ok (.iinc 1 1, 3) := by decide +kernel
theorem dX5_manyPieces_38 : decode cX5_manyPieces 38 = .ok (.goto (-36), 3) := by decide +kernel
theorem dX5_manyPieces_41 : decode cX5_manyPieces 41 = .ok (.iconst 1, 1) := by decide +kernel
theorem dX5_manyPieces_42 : decode cX5_manyPieces 42 = .ok (.istore_n 1, 1) := by decide +kernel
theorem dX5_manyPieces_43 : decode cX5_manyPieces 43 = .ok (.iload_n 1, 1) := by decide +kernel
theorem dX5_manyPieces_44 : decode cX5_manyPieces 44 = .ok (.ifCond .eq 11, 3) := by decide +kernel
theorem dX5_manyPieces_47 : decode cX5_manyPieces 47 = .ok (.aload_n 0, 1) := by decide +kernel
theorem dX5_manyPieces_48 : decode cX5_manyPieces 48 = .ok (.invokevirtual 88, 3) := by decide +kernel
theorem dX5_manyPieces_51 : decode cX5_manyPieces 51 = .ok (.istore_n 1, 1) := by decide +kernel
theorem dX5_manyPieces_52 : decode cX5_manyPieces 52 = .ok (.goto (-9), 3) := by decide +kernel
theorem dX5_manyPieces_55 : decode cX5_manyPieces 55 = .ok (.iconst 0, 1) := by decide +kernel
theorem dX5_manyPieces_56 : decode cX5_manyPieces 56 = .ok (.istore_n 2, 1) := by decide +kernel
theorem dX5_manyPieces_57 : decode cX5_manyPieces 57 = .ok (.iconst 0, 1) := by decide +kernel
theorem dX5_manyPieces_58 : decode cX5_manyPieces 58 = .ok (.istore_n 3, 1) := by decide +kernel
theorem dX5_manyPieces_59 : decode cX5_manyPieces 59 = .ok (.iload_n 3, 1) := by decide +kernel
theorem dX5_manyPieces_60 : decode cX5_manyPieces 60 = .ok (.sipush 128, 3) := by decide +kernel
theorem dX5_manyPieces_63 : decode cX5_manyPieces 63 = .ok (.if_icmp .ge 27, 3) := by decide +kernel
theorem dX5_manyPieces_66 : decode cX5_manyPieces 66 = .ok (.iload_n 2, 1) := by decide +kernel
theorem dX5_manyPieces_67 : decode cX5_manyPieces 67 = .ok (.aload_n 0, 1) := by decide +kernel
theorem dX5_manyPieces_68 : decode cX5_manyPieces 68 = .ok (.getfield 20, 3) := by decide +kernel
theorem dX5_manyPieces_71 : decode cX5_manyPieces 71 = .ok (.iload_n 3, 1) := by decide +kernel
theorem dX5_manyPieces_72 : decode cX5_manyPieces 72 = .ok (.iaload, 1) := by decide +kernel
theorem dX5_manyPieces_73 : decode cX5_manyPieces 73 = .ok (.iload_n 3, 1) := by decide +kernel
theorem dX5_manyPieces_74 : decode cX5_manyPieces 74 = .ok (.if_icmp .ne 7, 3) := by decide +kernel
theorem dX5_manyPieces_77 : decode cX5_manyPieces 77 = .ok (.iconst 1, 1) := by decide +kernel
theorem dX5_manyPieces_78 : decode cX5_manyPieces 78 = .ok (.goto 4, 3) := by decide +kernel
theorem dX5_manyPieces_81 : decode cX5_manyPieces 81 = .ok (.iconst 0, 1) := by decide +kernel
theorem dX5_manyPieces_82 : decode cX5_manyPieces 82 = .ok (.iadd, 1) := by decide +kernel
theorem dX5_manyPieces_83 : decode cX5_manyPieces 83 = .ok (.istore_n 2, 1) := by decide +kernel
theorem dX5_manyPieces_84 : decode cX5_manyPieces 84 = .ok (.iinc 3 1, 3) := by decide +kernel
theorem dX5_manyPieces_87 : decode cX5_manyPieces 87 = .ok (.goto (-28), 3) := by decide +kernel
theorem dX5_manyPieces_90 : decode cX5_manyPieces 90 = .ok (.iload_n 2, 1) := by decide +kernel
theorem dX5_manyPieces_91 : decode cX5_manyPieces 91 = .ok (.ireturn, 1) := by decide +kernel
theorem dX5_pieces_0 : decode cX5_pieces 0 = .ok (.aload_n 0, 1) := by decide +kernel
theorem dX5_pieces_1 : decode cX5_pieces 1 = .ok (.iconst 0, 1) := by decide +kernel
theorem dX5_pieces_2 : decode cX5_pieces 2 = .ok (.putfield 44, 3) := by decide +kernel
theorem dX5_pieces_5 : decode cX5_pieces 5 = .ok (.aload_n 0, 1) := by decide +kernel
theorem dX5_pieces_6 : decode cX5_pieces 6 = .ok (.invokevirtual 92, 3) := by decide +kernel
theorem dX5_pieces_9 : decode cX5_pieces 9 = .ok (.ireturn, 1) := by decide +kernel
theorem dX5_heightNow_0 : decode cX5_heightNow 0 = .ok (.iconst 0, 1) := by decide +kernel
theorem dX5_heightNow_1 : decode cX5_heightNow 1 = .ok (.istore_n 2, 1) := by decide +kernel
theorem dX5_heightNow_2 : decode cX5_heightNow 2 = .ok (.iconst 0, 1) := by decide +kernel
theorem dX5_heightNow_3 : decode cX5_heightNow 3 = .ok (.istore_n 3, 1) := by decide +kernel
theorem dX5_heightNow_4 : decode cX5_heightNow 4 = .ok (.iload_n 3, 1) := by decide +kernel
theorem dX5_heightNow_5 : decode cX5_heightNow 5 = .ok (.bipush 8, 2) := by decide +kernel
theorem dX5_heightNow_7 : decode cX5_heightNow 7 = .ok (.if_icmp .ge 26, 3) := by decide +kernel
theorem dX5_heightNow_10 : decode cX5_heightNow 10 = .ok (.aload_n 0, 1) := by decide +kernel
theorem dX5_heightNow_11 : decode cX5_heightNow 11 = .ok (.iload_n 1, 1) := by decide +kernel
theorem dX5_heightNow_12 : decode cX5_heightNow 12 = .ok (.iload_n 3, 1) := by decide +kernel
theorem dX5_heightNow_13 : decode cX5_heightNow 13 = .ok (.invokevirtual 72, 3) := by decide +kernel
theorem dX5_heightNow_16 : decode cX5_heightNow 16 = .ok (.ifCond .le 9, 3) := by decide +kernel
theorem dX5_heightNow_19 : decode cX5_heightNow 19 = .ok (.iload_n 3, 1) := by decide +kernel
theorem dX5_heightNow_20 : decode cX5_heightNow 20 = .ok (.iconst 1, 1) := by decide +kernel
theorem dX5_heightNow_21 : decode cX5_heightNow 21 = .ok (.iadd, 1) := by decide +kernel
theorem dX5_heightNow_22 : decode cX5_heightNow 22 = .ok (.goto 4, 3) := by decide +kernel
theorem dX5_heightNow_25 : decode cX5_heightNow 25 = .ok (.iload_n 2, 1) := by decide +kernel
theorem dX5_heightNow_26 : decode cX5_heightNow 26 = .ok (.istore_n 2, 1) := by decide +kernel
theorem dX5_heightNow_27 : decode cX5_heightNow 27 = .ok (.iinc 3 1, 3) := by decide +kernel
theorem dX5_heightNow_30 : decode cX5_heightNow 30 = .ok (.goto (-26), 3) := by decide +kernel
theorem dX5_heightNow_33 : decode cX5_heightNow 33 = .ok (.iload_n 2, 1) := by decide +kernel
theorem dX5_heightNow_34 : decode cX5_heightNow 34 = .ok (.ireturn, 1) := by decide +kernel
theorem dX5_height_0 : decode cX5_height 0 = .ok (.aload_n 0, 1) := by decide +kernel
theorem dX5_height_1 : decode cX5_height 1 = .ok (.iload_n 1, 1) := by decide +kernel
theorem dX5_height_2 : decode cX5_height 2 = .ok (.invokestatic 58, 3) := by decide +kernel
theorem dX5_height_5 : decode cX5_height 5 = .ok (.ifCond .eq 7, 3) := by decide +kernel
theorem dX5_height_8 : decode cX5_height 8 = .ok (.iconst 0, 1) := by decide +kernel
theorem dX5_height_9 : decode cX5_height 9 = .ok (.goto 4, 3) := by decide +kernel
theorem dX5_height_12 : decode cX5_height 12 = .ok (.iconst 1, 1) := by decide +kernel
theorem dX5_height_13 : decode cX5_height 13 = .ok (.putfield 44, 3) := by decide +kernel
theorem dX5_height_16 : decode cX5_height 16 = .ok (.aload_n 0, 1) := by decide +kernel
theorem dX5_height_17 : decode cX5_height 17 = .ok (.getfield 44, 3) := by decide +kernel
theorem dX5_height_20 : decode cX5_height 20 = .ok (.ifCond .le 7, 3) := by decide +kernel
theorem dX5_height_23 : decode cX5_height 23 = .ok (.iconst 0, 1) := by decide +kernel
theorem dX5_height_24 : decode cX5_height 24 = .ok (.goto 8, 3) := by decide +kernel
theorem dX5_height_27 : decode cX5_height 27 = .ok (.aload_n 0, 1) := by decide +kernel
theorem dX5_height_28 : decode cX5_height 28 = .ok (.iload_n 1, 1) := by decide +kernel
theorem dX5_height_29 : decode cX5_height 29 = .ok (.invokevirtual 95, 3) := by decide +kernel
theorem dX5_height_32 : decode cX5_height 32 = .ok (.ireturn, 1) := by decide +kernel
theorem dX5_state_0 : decode cX5_state 0 = .ok (.aload_n 0, 1) := by decide +kernel
theorem dX5_state_1 : decode cX5_state 1 = .ok (.iconst 0, 1) := by decide +kernel
theorem dX5_state_2 : decode cX5_state 2 = .ok (.putfield 44, 3) := by decide +kernel
theorem dX5_state_5 : decode cX5_state 5 = .ok (.aload_n 0, 1) := by decide +kernel
theorem dX5_state_6 : decode cX5_state 6 = .ok (.getfield 51, 3) := by decide +kernel
theorem dX5_state_9 : decode cX5_state 9 = .ok (.ireturn, 1) := by decide +kernel
theorem dX5_states_0 : decode cX5_states 0 = .ok (.aload_n 0, 1) := by decide +kernel
theorem dX5_states_1 : decode cX5_states 1 = .ok (.iconst 0, 1) := by decide +kernel
theorem dX5_states_2 : decode cX5_states 2 = .ok (.putfield 44, 3) := by decide +kernel
theorem dX5_states_5 : decode cX5_states 5 = .ok (.aload_n 0, 1) := by decide +kernel
theorem dX5_states_6 : decode cX5_states 6 = .ok (.getfield 7, 3) := by decide +kernel
theorem dX5_states_9 : decode cX5_states 9 = .ok (.ireturn, 1) := by decide +kernel
theorem dX5_isState_0 : decode cX5_isState 0 = .ok (.iload_n 1, 1) := by decide +kernel
theorem dX5_isState_1 : decode cX5_isState 1 = .ok (.iconst 0, 1) := by decide +kernel
theorem dX5_isState_2 : decode cX5_isState 2 = .ok (.aload_n 0, 1) := by decide +kernel
theorem dX5_isState_3 : decode cX5_isState 3 = .ok (.getfield 7, 3) := by decide +kernel
theorem dX5_isState_6 : decode cX5_isState 6 = .ok (.iconst 1, 1) := by decide +kernel
theorem dX5_isState_7 : decode cX5_isState 7 = .ok (.isub, 1) := by decide +kernel
theorem dX5_isState_8 : decode cX5_isState 8 = .ok (.invokestatic 47, 3) := by decide +kernel
theorem dX5_isState_11 : decode cX5_isState 11 = .ok (.ireturn, 1) := by decide +kernel
theorem dX5_visit_0 : decode cX5_visit 0 = .ok (.aload_n 0, 1) := by decide +kernel
theorem dX5_visit_1 : decode cX5_visit 1 = .ok (.aload_n 0, 1) := by decide +kernel
theorem dX5_visit_2 : decode cX5_visit 2 = .ok (.iload_n 1, 1) := by decide +kernel
theorem dX5_visit_3 : decode cX5_visit 3 = .ok (.invokevirtual 98, 3) := by decide +kernel
theorem dX5_visit_6 : decode cX5_visit 6 = .ok (.ifCond .eq 7, 3) := by decide +kernel
theorem dX5_visit_9 : decode cX5_visit 9 = .ok (.iconst 0, 1) := by decide +kernel
theorem dX5_visit_10 : decode cX5_visit 10 = .ok (.goto 4, 3) := by decide +kernel
theorem dX5_visit_13 : decode cX5_visit 13 = .ok (.iconst 1, 1) := by decide +kernel
theorem dX5_visit_14 : decode cX5_visit 14 = .ok (.putfield 44, 3) := by decide +kernel
theorem dX5_visit_17 : decode cX5_visit 17 = .ok (.aload_n 0, 1) := by decide +kernel
theorem dX5_visit_18 : decode cX5_visit 18 = .ok (.getfield 44, 3) := by decide +kernel
theorem dX5_visit_21 : decode cX5_visit 21 = .ok (.ifCond .le 5, 3) := by decide +kernel
theorem dX5_visit_24 : decode cX5_visit 24 = .ok (.iconst 0, 1) := by decide +kernel
theorem dX5_visit_25 : decode cX5_visit 25 = .ok (.ireturn, 1) := by decide +kernel
theorem dX5_visit_26 : decode cX5_visit 26 = .ok (.aload_n 0, 1) := by decide +kernel
theorem dX5_visit_27 : decode cX5_visit 27 = .ok (.getfield 51, 3) := by decide +kernel
theorem dX5_visit_30 : decode cX5_visit 30 = .ok (.istore_n 2, 1) := by decide +kernel
theorem dX5_visit_31 : decode cX5_visit 31 = .ok (.aload_n 0, 1) := by decide +kernel
theorem dX5_visit_32 : decode cX5_visit 32 = .ok (.iload_n 1, 1) := by decide +kernel
theorem dX5_visit_33 : decode cX5_visit 33 = .ok (.putfield 51, 3) := by decide +kernel
theorem dX5_visit_36 : decode cX5_visit 36 = .ok (.iload_n 2, 1) := by decide +kernel
theorem dX5_visit_37 : decode cX5_visit 37 = .ok (.ireturn, 1) := by decide +kernel
theorem dX5_undo_0 : decode cX5_undo 0 = .ok (.aload_n 0, 1) := by decide +kernel
theorem dX5_undo_1 : decode cX5_undo 1 = .ok (.aload_n 0, 1) := by decide +kernel
theorem dX5_undo_2 : decode cX5_undo 2 = .ok (.getfield 51, 3) := by decide +kernel
theorem dX5_undo_5 : decode cX5_undo 5 = .ok (.ifCond .ne 7, 3) := by decide +kernel
theorem dX5_undo_8 : decode cX5_undo 8 = .ok (.iconst 1, 1) := by decide +kernel
theorem dX5_undo_9 : decode cX5_undo 9 = .ok (.goto 4, 3) := by decide +kernel
theorem dX5_undo_12 : decode cX5_undo 12 = .ok (.iconst 0, 1) := by decide +kernel
theorem dX5_undo_13 : decode cX5_undo 13 = .ok (.putfield 44, 3) := by decide +kernel
theorem dX5_undo_16 : decode cX5_undo 16 = .ok (.aload_n 0, 1) := by decide +kernel
theorem dX5_undo_17 : decode cX5_undo 17 = .ok (.getfield 44, 3) := by decide +kernel
theorem dX5_undo_20 : decode cX5_undo 20 = .ok (.ifCond .le 5, 3) := by decide +kernel
theorem dX5_undo_23 : decode cX5_undo 23 = .ok (.iconst 0, 1) := by decide +kernel
theorem dX5_undo_24 : decode cX5_undo 24 = .ok (.ireturn, 1) := by decide +kernel
theorem dX5_undo_25 : decode cX5_undo 25 = .ok (.aload_n 0, 1) := by decide +kernel
theorem dX5_undo_26 : decode cX5_undo 26 = .ok (.aload_n 0, 1) := by decide +kernel
theorem dX5_undo_27 : decode cX5_undo 27 = .ok (.getfield 13, 3) := by decide +kernel
theorem dX5_undo_30 : decode cX5_undo 30 = .ok (.aload_n 0, 1) := by decide +kernel
theorem dX5_undo_31 : decode cX5_undo 31 = .ok (.getfield 51, 3) := by decide +kernel
theorem dX5_undo_34 : decode cX5_undo 34 = .ok (.iaload, 1) := by decide +kernel
theorem dX5_undo_35 : decode cX5_undo 35 = .ok (.putfield 51, 3) := by decide +kernel
theorem dX5_undo_38 : decode cX5_undo 38 = .ok (.aload_n 0, 1) := by decide +kernel
theorem dX5_undo_39 : decode cX5_undo 39 = .ok (.getfield 51, 3) := by decide +kernel
theorem dX5_undo_42 : decode cX5_undo 42 = .ok (.ireturn, 1) := by decide +kernel
theorem dX5_manyBranches_0 : decode cX5_manyBranches 0 = .ok (.iconst 0, 1) := by decide +kernel
theorem dX5_manyBranches_1 : decode cX5_manyBranches 1 = .ok (.istore_n 1, 1) := by decide +kernel
theorem dX5_manyBranches_2 : decode cX5_manyBranches 2 = .ok (.iconst 0, 1) := by decide +kernel
theorem dX5_manyBranches_3 : decode cX5_manyBranches 3 = .ok (.istore_n 2, 1) := by decide +kernel
theorem dX5_manyBranches_4 : decode cX5_manyBranches 4 = .ok (.iload_n 2, 1) := by decide +kernel
theorem dX5_manyBranches_5 : decode cX5_manyBranches 5 = .ok (.aload_n 0, 1) := by decide +kernel
theorem dX5_manyBranches_6 : decode cX5_manyBranches 6 = .ok (.getfield 7, 3) := by decide +kernel
theorem dX5_manyBranches_9 : decode cX5_manyBranches 9 = .ok (.if_icmp .ge 30, 3) := by decide +kernel
theorem dX5_manyBranches_12 : decode cX5_manyBranches 12 = .ok (.iload_n 1, 1) := by decide +kernel
theorem dX5_manyBranches_13 : decode cX5_manyBranches 13 = .ok (.aload_n 0, 1) := by decide +kernel
theorem dX5_manyBranches_14 : decode cX5_manyBranches 14 = .ok (.getfield 13, 3) := by decide +kernel
theorem dX5_manyBranches_17 : decode cX5_manyBranches 17 = .ok (.iload_n 2, 1) := by decide +kernel
theorem dX5_manyBranches_18 : decode cX5_manyBranches 18 = .ok (.iaload, 1) := by decide +kernel
theorem dX5_manyBranches_19 : decode cX5_manyBranches 19 = .ok (.aload_n 0, 1) := by decide +kernel
theorem dX5_manyBranches_20 : decode cX5_manyBranches 20 = .ok (.getfield 51, 3) := by decide +kernel
theorem dX5_manyBranches_23 : decode cX5_manyBranches 23 = .ok (.if_icmp .ne 7, 3) := by decide +kernel
theorem dX5_manyBranches_26 : decode cX5_manyBranches 26 = .ok (.iconst 1, 1) := by decide +kernel
theorem dX5_manyBranches_27 : decode cX5_manyBranches 27 = .ok (.goto 4, 3) := by decide +kernel
theorem dX5_manyBranches_30 : decode cX5_manyBranches 30 = .ok (.iconst 0, 1) := by decide +kernel
theorem dX5_manyBranches_31 : decode cX5_manyBranches 31 = .ok (.iadd, 1) := by decide +kernel
theorem dX5_manyBranches_32 : decode cX5_manyBranches 32 = .ok (.istore_n 1, 1) := by decide +kernel
theorem dX5_manyBranches_33 : decode cX5_manyBranches 33 = .ok (.iinc 2 1, 3) := by decide +kernel
theorem dX5_manyBranches_36 : decode cX5_manyBranches 36 = .ok (.goto (-32), 3) := by decide +kernel
theorem dX5_manyBranches_39 : decode cX5_manyBranches 39 = .ok (.iload_n 1, 1) := by decide +kernel
theorem dX5_manyBranches_40 : decode cX5_manyBranches 40 = .ok (.ireturn, 1) := by decide +kernel
theorem dX5_redo_0 : decode cX5_redo 0 = .ok (.aload_n 0, 1) := by decide +kernel
theorem dX5_redo_1 : decode cX5_redo 1 = .ok (.iload_n 1, 1) := by decide +kernel
theorem dX5_redo_2 : decode cX5_redo 2 = .ok (.iconst 0, 1) := by decide +kernel
theorem dX5_redo_3 : decode cX5_redo 3 = .ok (.aload_n 0, 1) := by decide +kernel
theorem dX5_redo_4 : decode cX5_redo 4 = .ok (.invokevirtual 101, 3) := by decide +kernel
theorem dX5_redo_7 : decode cX5_redo 7 = .ok (.iconst 1, 1) := by decide +kernel
theorem dX5_redo_8 : decode cX5_redo 8 = .ok (.isub, 1) := by decide +kernel
theorem dX5_redo_9 : decode cX5_redo 9 = .ok (.invokestatic 47, 3) := by decide +kernel
theorem dX5_redo_12 : decode cX5_redo 12 = .ok (.ifCond .eq 7, 3) := by decide +kernel
theorem dX5_redo_15 : decode cX5_redo 15 = .ok (.iconst 0, 1) := by decide +kernel
theorem dX5_redo_16 : decode cX5_redo 16 = .ok (.goto 4, 3) := by decide +kernel
theorem dX5_redo_19 : decode cX5_redo 19 = .ok (.iconst 1, 1) := by decide +kernel
theorem dX5_redo_20 : decode cX5_redo 20 = .ok (.putfield 44, 3) := by decide +kernel
theorem dX5_redo_23 : decode cX5_redo 23 = .ok (.aload_n 0, 1) := by decide +kernel
theorem dX5_redo_24 : decode cX5_redo 24 = .ok (.getfield 44, 3) := by decide +kernel
theorem dX5_redo_27 : decode cX5_redo 27 = .ok (.ifCond .le 5, 3) := by decide +kernel
theorem dX5_redo_30 : decode cX5_redo 30 = .ok (.iconst 0, 1) := by decide +kernel
theorem dX5_redo_31 : decode cX5_redo 31 = .ok (.ireturn, 1) := by decide +kernel
theorem dX5_redo_32 : decode cX5_redo 32 = .ok (.aload_n 0, 1) := by decide +kernel
theorem dX5_redo_33 : decode cX5_redo 33 = .ok (.getfield 51, 3) := by decide +kernel
theorem dX5_redo_36 : decode cX5_redo 36 = .ok (.istore_n 2, 1) := by decide +kernel
theorem dX5_redo_37 : decode cX5_redo 37 = .ok (.iconst 0, 1) := by decide +kernel
theorem dX5_redo_38 : decode cX5_redo 38 = .ok (.istore_n 3, 1) := by decide +kernel
theorem dX5_redo_39 : decode cX5_redo 39 = .ok (.iconst 0, 1) := by decide +kernel
theorem dX5_redo_40 : decode cX5_redo 40 = .ok (.istore 4, 2) := by decide +kernel
theorem dX5_redo_42 : decode cX5_redo 42 = .ok (.iload 4, 2) := by decide +kernel
theorem dX5_redo_44 : decode cX5_redo 44 = .ok (.aload_n 0, 1) := by decide +kernel
theorem dX5_redo_45 : decode cX5_redo 45 = .ok (.getfield 7, 3) := by decide +kernel
theorem dX5_redo_48 : decode cX5_redo 48 = .ok (.if_icmp .ge 60, 3) := by decide +kernel
theorem dX5_redo_51 : decode cX5_redo 51 = .ok (.aload_n 0, 1) := by decide +kernel
theorem dX5_redo_52 : decode cX5_redo 52 = .ok (.getfield 13, 3) := by decide +kernel
theorem dX5_redo_55 : decode cX5_redo 55 = .ok (.iload 4, 2) := by decide +kernel
theorem dX5_redo_57 : decode cX5_redo 57 = .ok (.iaload, 1) := by decide +kernel
theorem dX5_redo_58 : decode cX5_redo 58 = .ok (.aload_n 0, 1) := by decide +kernel
theorem dX5_redo_59 : decode cX5_redo 59 = .ok (.getfield 51, 3) := by decide +kernel
theorem dX5_redo_62 : decode cX5_redo 62 = .ok (.if_icmp .ne 7, 3) := by decide +kernel
theorem dX5_redo_65 : decode cX5_redo 65 = .ok (.iconst 1, 1) := by decide +kernel
theorem dX5_redo_66 : decode cX5_redo 66 = .ok (.goto 4, 3) := by decide +kernel
theorem dX5_redo_69 : decode cX5_redo 69 = .ok (.iconst 0, 1) := by decide +kernel
theorem dX5_redo_70 : decode cX5_redo 70 = .ok (.istore 5, 2) := by decide +kernel
theorem dX5_redo_72 : decode cX5_redo 72 = .ok (.iload 5, 2) := by decide +kernel
theorem dX5_redo_74 : decode cX5_redo 74 = .ok (.ifCond .eq 13, 3) := by decide +kernel
theorem dX5_redo_77 : decode cX5_redo 77 = .ok (.iload_n 3, 1) := by decide +kernel
theorem dX5_redo_78 : decode cX5_redo 78 = .ok (.iload_n 1, 1) := by decide +kernel
theorem dX5_redo_79 : decode cX5_redo 79 = .ok (.if_icmp .ne 8, 3) := by decide +kernel
theorem dX5_redo_82 : decode cX5_redo 82 = .ok (.iload 4, 2) := by decide +kernel
theorem dX5_redo_84 : decode cX5_redo 84 = .ok (.goto 4, 3) := by decide +kernel
theorem dX5_redo_87 : decode cX5_redo 87 = .ok (.iload_n 2, 1) := by decide +kernel
theorem dX5_redo_88 : decode cX5_redo 88 = .ok (.istore_n 2, 1) := by decide +kernel
theorem dX5_redo_89 : decode cX5_redo 89 = .ok (.iload_n 3, 1) := by decide +kernel
theorem dX5_redo_90 : decode cX5_redo 90 = .ok (.iload 5, 2) := by decide +kernel
theorem dX5_redo_92 : decode cX5_redo 92 = .ok (.ifCond .eq 7, 3) := by decide +kernel
theorem dX5_redo_95 : decode cX5_redo 95 = .ok (.iconst 1, 1) := by decide +kernel
theorem dX5_redo_96 : decode cX5_redo 96 = .ok (.goto 4, 3) := by decide +kernel
theorem dX5_redo_99 : decode cX5_redo 99 = .ok (.iconst 0, 1) := by decide +kernel
theorem dX5_redo_100 : decode cX5_redo 100 = .ok (.iadd, 1) := by decide +kernel
theorem dX5_redo_101 : decode cX5_redo 101 = .ok (.istore_n 3, 1) := by decide +kernel
theorem dX5_redo_102 : decode cX5_redo 102 = .ok (.iinc 4 1, 3) := by decide +kernel
theorem dX5_redo_105 : decode cX5_redo 105 = .ok (.goto (-63), 3) := by decide +kernel
theorem dX5_redo_108 : decode cX5_redo 108 = .ok (.aload_n 0, 1) := by decide +kernel
theorem dX5_redo_109 : decode cX5_redo 109 = .ok (.iload_n 2, 1) := by decide +kernel
theorem dX5_redo_110 : decode cX5_redo 110 = .ok (.putfield 51, 3) := by decide +kernel
theorem dX5_redo_113 : decode cX5_redo 113 = .ok (.aload_n 0, 1) := by decide +kernel
theorem dX5_redo_114 : decode cX5_redo 114 = .ok (.getfield 51, 3) := by decide +kernel
theorem dX5_redo_117 : decode cX5_redo 117 = .ok (.ireturn, 1) := by decide +kernel
theorem dX5_branches_0 : decode cX5_branches 0 = .ok (.aload_n 0, 1) := by decide +kernel
theorem dX5_branches_1 : decode cX5_branches 1 = .ok (.iconst 0, 1) := by decide +kernel
theorem dX5_branches_2 : decode cX5_branches 2 = .ok (.putfield 44, 3) := by decide +kernel
theorem dX5_branches_5 : decode cX5_branches 5 = .ok (.aload_n 0, 1) := by decide +kernel
theorem dX5_branches_6 : decode cX5_branches 6 = .ok (.invokevirtual 101, 3) := by decide +kernel
theorem dX5_branches_9 : decode cX5_branches 9 = .ok (.ireturn, 1) := by decide +kernel
theorem dX5_unlike_0 : decode cX5_unlike 0 = .ok (.aload_n 0, 1) := by decide +kernel
theorem dX5_unlike_1 : decode cX5_unlike 1 = .ok (.aload_n 0, 1) := by decide +kernel
theorem dX5_unlike_2 : decode cX5_unlike 2 = .ok (.iload_n 1, 1) := by decide +kernel
theorem dX5_unlike_3 : decode cX5_unlike 3 = .ok (.invokevirtual 98, 3) := by decide +kernel
theorem dX5_unlike_6 : decode cX5_unlike 6 = .ok (.ifCond .eq 15, 3) := by decide +kernel
theorem dX5_unlike_9 : decode cX5_unlike 9 = .ok (.aload_n 0, 1) := by decide +kernel
theorem dX5_unlike_10 : decode cX5_unlike 10 = .ok (.iload_n 2, 1) := by decide +kernel
theorem dX5_unlike_11 : decode cX5_unlike 11 = .ok (.invokevirtual 98, 3) := by decide +kernel
theorem dX5_unlike_14 : decode cX5_unlike 14 = .ok (.ifCond .eq 7, 3) := by decide +kernel
theorem dX5_unlike_17 : decode cX5_unlike 17 = .ok (.iconst 0, 1) := by decide +kernel
theorem dX5_unlike_18 : decode cX5_unlike 18 = .ok (.goto 4, 3) := by decide +kernel
theorem dX5_unlike_21 : decode cX5_unlike 21 = .ok (.iconst 1, 1) := by decide +kernel
theorem dX5_unlike_22 : decode cX5_unlike 22 = .ok (.putfield 44, 3) := by decide +kernel
theorem dX5_unlike_25 : decode cX5_unlike 25 = .ok (.iconst 0, 1) := by decide +kernel
theorem dX5_unlike_26 : decode cX5_unlike 26 = .ok (.istore_n 3, 1) := by decide +kernel
theorem dX5_unlike_27 : decode cX5_unlike 27 = .ok (.iconst 0, 1) := by decide +kernel
theorem dX5_unlike_28 : decode cX5_unlike 28 = .ok (.istore 4, 2) := by decide +kernel
theorem dX5_unlike_30 : decode cX5_unlike 30 = .ok (.iload 4, 2) := by decide +kernel
theorem dX5_unlike_32 : decode cX5_unlike 32 = .ok (.bipush 16, 2) := by decide +kernel
theorem dX5_unlike_34 : decode cX5_unlike 34 = .ok (.if_icmp .ge 51, 3) := by decide +kernel
theorem dX5_unlike_37 : decode cX5_unlike 37 = .ok (.aload_n 0, 1) := by decide +kernel
theorem dX5_unlike_38 : decode cX5_unlike 38 = .ok (.getfield 44, 3) := by decide +kernel
theorem dX5_unlike_41 : decode cX5_unlike 41 = .ok (.ifCond .ne 44, 3) := by decide +kernel
theorem dX5_unlike_44 : decode cX5_unlike 44 = .ok (.iload_n 3, 1) := by decide +kernel
theorem dX5_unlike_45 : decode cX5_unlike 45 = .ok (.aload_n 0, 1) := by decide +kernel
theorem dX5_unlike_46 : decode cX5_unlike 46 = .ok (.getfield 17, 3) := by decide +kernel
theorem dX5_unlike_49 : decode cX5_unlike 49 = .ok (.bipush 16, 2) := by decide +kernel
theorem dX5_unlike_51 : decode cX5_unlike 51 = .ok (.iload_n 1, 1) := by decide +kernel
theorem dX5_unlike_52 : decode cX5_unlike 52 = .ok (.imul, 1) := by decide +kernel
theorem dX5_unlike_53 : decode cX5_unlike 53 = .ok (.iload 4, 2) := by decide +kernel
theorem dX5_unlike_55 : decode cX5_unlike 55 = .ok (.iadd, 1) := by decide +kernel
theorem dX5_unlike_56 : decode cX5_unlike 56 = .ok (.iaload, 1) := by decide +kernel
theorem dX5_unlike_57 : decode cX5_unlike 57 = .ok (.aload_n 0, 1) := by decide +kernel
theorem dX5_unlike_58 : decode cX5_unlike 58 = .ok (.getfield 17, 3) := by decide +kernel
theorem dX5_unlike_61 : decode cX5_unlike 61 = .ok (.bipush 16, 2) := by decide +kernel
theorem dX5_unlike_63 : decode cX5_unlike 63 = .ok (.iload_n 2, 1) := by decide +kernel
theorem dX5_unlike_64 : decode cX5_unlike 64 = .ok (.imul, 1) := by decide +kernel
theorem dX5_unlike_65 : decode cX5_unlike 65 = .ok (.iload 4, 2) := by decide +kernel
theorem dX5_unlike_67 : decode cX5_unlike 67 = .ok (.iadd, 1) := by decide +kernel
theorem dX5_unlike_68 : decode cX5_unlike 68 = .ok (.iaload, 1) := by decide +kernel
theorem dX5_unlike_69 : decode cX5_unlike 69 = .ok (.if_icmp .ne 7, 3) := by decide +kernel
theorem dX5_unlike_72 : decode cX5_unlike 72 = .ok (.iconst 0, 1) := by decide +kernel
theorem dX5_unlike_73 : decode cX5_unlike 73 = .ok (.goto 4, 3) := by decide +kernel
theorem dX5_unlike_76 : decode cX5_unlike 76 = .ok (.iconst 1, 1) := by decide +kernel
theorem dX5_unlike_77 : decode cX5_unlike 77 = .ok (.iadd, 1) := by decide +kernel
theorem dX5_unlike_78 : decode cX5_unlike 78 = .ok (.istore_n 3, 1) := by decide +kernel
theorem dX5_unlike_79 : decode cX5_unlike 79 = .ok (.iinc 4 1, 3) := by decide +kernel
theorem dX5_unlike_82 : decode cX5_unlike 82 = .ok (.goto (-52), 3) := by decide +kernel
theorem dX5_unlike_85 : decode cX5_unlike 85 = .ok (.iload_n 3, 1) := by decide +kernel
theorem dX5_unlike_86 : decode cX5_unlike 86 = .ok (.ireturn, 1) := by decide +kernel
theorem dX5_isDie_0 : decode cX5_isDie 0 = .ok (.iload_n 1, 1) := by decide +kernel
theorem dX5_isDie_1 : decode cX5_isDie 1 = .ok (.iconst 0, 1) := by decide +kernel
theorem dX5_isDie_2 : decode cX5_isDie 2 = .ok (.aload_n 0, 1) := by decide +kernel
theorem dX5_isDie_3 : decode cX5_isDie 3 = .ok (.getfield 104, 3) := by decide +kernel
theorem dX5_isDie_6 : decode cX5_isDie 6 = .ok (.iconst 1, 1) := by decide +kernel
theorem dX5_isDie_7 : decode cX5_isDie 7 = .ok (.isub, 1) := by decide +kernel
theorem dX5_isDie_8 : decode cX5_isDie 8 = .ok (.invokestatic 47, 3) := by decide +kernel
theorem dX5_isDie_11 : decode cX5_isDie 11 = .ok (.ireturn, 1) := by decide +kernel
theorem dX5_isCoin_0 : decode cX5_isCoin 0 = .ok (.iload_n 1, 1) := by decide +kernel
theorem dX5_isCoin_1 : decode cX5_isCoin 1 = .ok (.iconst 0, 1) := by decide +kernel
theorem dX5_isCoin_2 : decode cX5_isCoin 2 = .ok (.aload_n 0, 1) := by decide +kernel
theorem dX5_isCoin_3 : decode cX5_isCoin 3 = .ok (.getfield 107, 3) := by decide +kernel
theorem dX5_isCoin_6 : decode cX5_isCoin 6 = .ok (.iconst 1, 1) := by decide +kernel
theorem dX5_isCoin_7 : decode cX5_isCoin 7 = .ok (.isub, 1) := by decide +kernel
theorem dX5_isCoin_8 : decode cX5_isCoin 8 = .ok (.invokestatic 47, 3) := by decide +kernel
theorem dX5_isCoin_11 : decode cX5_isCoin 11 = .ok (.ireturn, 1) := by decide +kernel
theorem dX5_cut_0 : decode cX5_cut 0 = .ok (.aload_n 0, 1) := by decide +kernel
theorem dX5_cut_1 : decode cX5_cut 1 = .ok (.aload_n 0, 1) := by decide +kernel
theorem dX5_cut_2 : decode cX5_cut 2 = .ok (.invokevirtual 92, 3) := by decide +kernel
theorem dX5_cut_5 : decode cX5_cut 5 = .ok (.iconst 1, 1) := by decide +kernel
theorem dX5_cut_6 : decode cX5_cut 6 = .ok (.if_icmp .ne 12, 3) := by decide +kernel
theorem dX5_cut_9 : decode cX5_cut 9 = .ok (.aload_n 0, 1) := by decide +kernel
theorem dX5_cut_10 : decode cX5_cut 10 = .ok (.getfield 104, 3) := by decide +kernel
theorem dX5_cut_13 : decode cX5_cut 13 = .ok (.bipush 8, 2) := by decide +kernel
theorem dX5_cut_15 : decode cX5_cut 15 = .ok (.if_icmp .ne 7, 3) := by decide +kernel
theorem dX5_cut_18 : decode cX5_cut 18 = .ok (.iconst 1, 1) := by decide +kernel
theorem dX5_cut_19 : decode cX5_cut 19 = .ok (.goto 4, 3) := by decide +kernel
theorem dX5_cut_22 : decode cX5_cut 22 = .ok (.iconst 0, 1) := by decide +kernel
theorem dX5_cut_23 : decode cX5_cut 23 = .ok (.putfield 44, 3) := by decide +kernel
theorem dX5_cut_26 : decode cX5_cut 26 = .ok (.aload_n 0, 1) := by decide +kernel
theorem dX5_cut_27 : decode cX5_cut 27 = .ok (.getfield 44, 3) := by decide +kernel
theorem dX5_cut_30 : decode cX5_cut 30 = .ok (.ifCond .le 5, 3) := by decide +kernel
theorem dX5_cut_33 : decode cX5_cut 33 = .ok (.iconst 0, 1) := by decide +kernel
theorem dX5_cut_34 : decode cX5_cut 34 = .ok (.ireturn, 1) := by decide +kernel
theorem dX5_cut_35 : decode cX5_cut 35 = .ok (.iconst 0, 1) := by decide +kernel
theorem dX5_cut_36 : decode cX5_cut 36 = .ok (.istore_n 1, 1) := by decide +kernel
theorem dX5_cut_37 : decode cX5_cut 37 = .ok (.iload_n 1, 1) := by decide +kernel
theorem dX5_cut_38 : decode cX5_cut 38 = .ok (.bipush 16, 2) := by decide +kernel
theorem dX5_cut_40 : decode cX5_cut 40 = .ok (.if_icmp .ge 47, 3) := by decide +kernel
theorem dX5_cut_43 : decode cX5_cut 43 = .ok (.aload_n 0, 1) := by decide +kernel
theorem dX5_cut_44 : decode cX5_cut 44 = .ok (.getfield 23, 3) := by decide +kernel
theorem dX5_cut_47 : decode cX5_cut 47 = .ok (.bipush 16, 2) := by decide +kernel
theorem dX5_cut_49 : decode cX5_cut 49 = .ok (.aload_n 0, 1) := by decide +kernel
theorem dX5_cut_50 : decode cX5_cut 50 = .ok (.getfield 104, 3) := by decide +kernel
theorem dX5_cut_53 : decode cX5_cut 53 = .ok (.imul, 1) := by decide +kernel
theorem dX5_cut_54 : decode cX5_cut 54 = .ok (.iload_n 1, 1) := by decide +kernel
theorem dX5_cut_55 : decode cX5_cut 55 = .ok (.iadd, 1) := by decide +kernel
theorem dX5_cut_56 : decode cX5_cut 56 = .ok (.aload_n 0, 1) := by decide +kernel
theorem dX5_cut_57 : decode cX5_cut 57 = .ok (.iload_n 1, 1) := by decide +kernel
theorem dX5_cut_58 : decode cX5_cut 58 = .ok (.invokevirtual 95, 3) := by decide +kernel
theorem dX5_cut_61 : decode cX5_cut 61 = .ok (.iastore, 1) := by decide +kernel
theorem dX5_cut_62 : decode cX5_cut 62 = .ok (.aload_n 0, 1) := by decide +kernel
theorem dX5_cut_63 : decode cX5_cut 63 = .ok (.getfield 26, 3) := by decide +kernel
theorem dX5_cut_66 : decode cX5_cut 66 = .ok (.bipush 16, 2) := by decide +kernel
theorem dX5_cut_68 : decode cX5_cut 68 = .ok (.aload_n 0, 1) := by decide +kernel
theorem dX5_cut_69 : decode cX5_cut 69 = .ok (.getfield 104, 3) := by decide +kernel
theorem dX5_cut_72 : decode cX5_cut 72 = .ok (.imul, 1) := by decide +kernel
theorem dX5_cut_73 : decode cX5_cut 73 = .ok (.iload_n 1, 1) := by decide +kernel
theorem dX5_cut_74 : decode cX5_cut 74 = .ok (.iadd, 1) := by decide +kernel
theorem dX5_cut_75 : decode cX5_cut 75 = .ok (.aload_n 0, 1) := by decide +kernel
theorem dX5_cut_76 : decode cX5_cut 76 = .ok (.iload_n 1, 1) := by decide +kernel
theorem dX5_cut_77 : decode cX5_cut 77 = .ok (.invokevirtual 95, 3) := by decide +kernel
theorem dX5_cut_80 : decode cX5_cut 80 = .ok (.iastore, 1) := by decide +kernel
theorem dX5_cut_81 : decode cX5_cut 81 = .ok (.iinc 1 1, 3) := by decide +kernel
theorem dX5_cut_84 : decode cX5_cut 84 = .ok (.goto (-47), 3) := by decide +kernel
theorem dX5_cut_87 : decode cX5_cut 87 = .ok (.aload_n 0, 1) := by decide +kernel
theorem dX5_cut_88 : decode cX5_cut 88 = .ok (.getfield 29, 3) := by decide +kernel
theorem dX5_cut_91 : decode cX5_cut 91 = .ok (.aload_n 0, 1) := by decide +kernel
theorem dX5_cut_92 : decode cX5_cut 92 = .ok (.getfield 104, 3) := by decide +kernel
theorem dX5_cut_95 : decode cX5_cut 95 = .ok (.iconst 0, 1) := by decide +kernel
theorem dX5_cut_96 : decode cX5_cut 96 = .ok (.iastore, 1) := by decide +kernel
theorem dX5_cut_97 : decode cX5_cut 97 = .ok (.aload_n 0, 1) := by decide +kernel
theorem dX5_cut_98 : decode cX5_cut 98 = .ok (.dup, 1) := by decide +kernel
theorem dX5_cut_99 : decode cX5_cut 99 = .ok (.getfield 104, 3) := by decide +kernel
theorem dX5_cut_102 : decode cX5_cut 102 = .ok (.iconst 1, 1) := by decide +kernel
theorem dX5_cut_103 : decode cX5_cut 103 = .ok (.iadd, 1) := by decide +kernel
theorem dX5_cut_104 : decode cX5_cut 104 = .ok (.putfield 104, 3) := by decide +kernel
theorem dX5_cut_107 : decode cX5_cut 107 = .ok (.aload_n 0, 1) := by decide +kernel
theorem dX5_cut_108 : decode cX5_cut 108 = .ok (.getfield 104, 3) := by decide +kernel
theorem dX5_cut_111 : decode cX5_cut 111 = .ok (.iconst 1, 1) := by decide +kernel
theorem dX5_cut_112 : decode cX5_cut 112 = .ok (.isub, 1) := by decide +kernel
theorem dX5_cut_113 : decode cX5_cut 113 = .ok (.ireturn, 1) := by decide +kernel
theorem dX5_strike_0 : decode cX5_strike 0 = .ok (.aload_n 0, 1) := by decide +kernel
theorem dX5_strike_1 : decode cX5_strike 1 = .ok (.aload_n 0, 1) := by decide +kernel
theorem dX5_strike_2 : decode cX5_strike 2 = .ok (.iload_n 1, 1) := by decide +kernel
theorem dX5_strike_3 : decode cX5_strike 3 = .ok (.invokevirtual 110, 3) := by decide +kernel
theorem dX5_strike_6 : decode cX5_strike 6 = .ok (.ifCond .ne 7, 3) := by decide +kernel
theorem dX5_strike_9 : decode cX5_strike 9 = .ok (.iconst 1, 1) := by decide +kernel
theorem dX5_strike_10 : decode cX5_strike 10 = .ok (.goto 17, 3) := by decide +kernel
theorem dX5_strike_13 : decode cX5_strike 13 = .ok (.aload_n 0, 1) := by decide +kernel
theorem dX5_strike_14 : decode cX5_strike 14 = .ok (.getfield 107, 3) := by decide +kernel
theorem dX5_strike_17 : decode cX5_strike 17 = .ok (.bipush 60, 2) := by decide +kernel
theorem dX5_strike_19 : decode cX5_strike 19 = .ok (.if_icmp .ne 7, 3) := by decide +kernel
theorem dX5_strike_22 : decode cX5_strike 22 = .ok (.iconst 2, 1) := by decide +kernel
theorem dX5_strike_23 : decode cX5_strike 23 = .ok (.goto 4, 3) := by decide +kernel
theorem dX5_strike_26 : decode cX5_strike 26 = .ok (.iconst 0, 1) := by decide +kernel
theorem dX5_strike_27 : decode cX5_strike 27 = .ok (.putfield 44, 3) := by decide +kernel
theorem dX5_strike_30 : decode cX5_strike 30 = .ok (.aload_n 0, 1) := by decide +kernel
theorem dX5_strike_31 : decode cX5_strike 31 = .ok (.getfield 44, 3) := by decide +kernel
theorem dX5_strike_34 : decode cX5_strike 34 = .ok (.ifCond .le 5, 3) := by decide +kernel
theorem dX5_strike_37 : decode cX5_strike 37 = .ok (.iconst 0, 1) := by decide +kernel
theorem dX5_strike_38 : decode cX5_strike 38 = .ok (.ireturn, 1) := by decide +kernel
theorem dX5_strike_39 : decode cX5_strike 39 = .ok (.iconst 0, 1) := by decide +kernel
theorem dX5_strike_40 : decode cX5_strike 40 = .ok (.istore_n 2, 1) := by decide +kernel
theorem dX5_strike_41 : decode cX5_strike 41 = .ok (.iload_n 2, 1) := by decide +kernel
theorem dX5_strike_42 : decode cX5_strike 42 = .ok (.bipush 16, 2) := by decide +kernel
theorem dX5_strike_44 : decode cX5_strike 44 = .ok (.if_icmp .ge 34, 3) := by decide +kernel
theorem dX5_strike_47 : decode cX5_strike 47 = .ok (.aload_n 0, 1) := by decide +kernel
theorem dX5_strike_48 : decode cX5_strike 48 = .ok (.getfield 32, 3) := by decide +kernel
theorem dX5_strike_51 : decode cX5_strike 51 = .ok (.bipush 16, 2) := by decide +kernel
theorem dX5_strike_53 : decode cX5_strike 53 = .ok (.aload_n 0, 1) := by decide +kernel
theorem dX5_strike_54 : decode cX5_strike 54 = .ok (.getfield 107, 3) := by decide +kernel
theorem dX5_strike_57 : decode cX5_strike 57 = .ok (.imul, 1) := by decide +kernel
theorem dX5_strike_58 : decode cX5_strike 58 = .ok (.iload_n 2, 1) := by decide +kernel
theorem dX5_strike_59 : decode cX5_strike 59 = .ok (.iadd, 1) := by decide +kernel
theorem dX5_strike_60 : decode cX5_strike 60 = .ok (.aload_n 0, 1) := by decide +kernel
theorem dX5_strike_61 : decode cX5_strike 61 = .ok (.getfield 26, 3) := by decide +kernel
theorem dX5_strike_64 : decode cX5_strike 64 = .ok (.bipush 16, 2) := by decide +kernel
theorem dX5_strike_66 : decode cX5_strike 66 = .ok (.iload_n 1, 1) := by decide +kernel
theorem dX5_strike_67 : decode cX5_strike 67 = .ok (.imul, 1) := by decide +kernel
theorem dX5_strike_68 : decode cX5_strike 68 = .ok (.iload_n 2, 1) := by decide +kernel
theorem dX5_strike_69 : decode cX5_strike 69 = .ok (.iadd, 1) := by decide +kernel
theorem dX5_strike_70 : decode cX5_strike 70 = .ok (.iaload, 1) := by decide +kernel
theorem dX5_strike_71 : decode cX5_strike 71 = .ok (.iastore, 1) := by decide +kernel
theorem dX5_strike_72 : decode cX5_strike 72 = .ok (.iinc 2 1, 3) := by decide +kernel
theorem dX5_strike_75 : decode cX5_strike 75 = .ok (.goto (-34), 3) := by decide +kernel
theorem dX5_strike_78 : decode cX5_strike 78 = .ok (.aload_n 0, 1) := by decide +kernel
theorem dX5_strike_79 : decode cX5_strike 79 = .ok (.getfield 29, 3) := by decide +kernel
theorem dX5_strike_82 : decode cX5_strike 82 = .ok (.iload_n 1, 1) := by decide +kernel
theorem dX5_strike_83 : decode cX5_strike 83 = .ok (.dup2, 1) := by decide +kernel
theorem dX5_strike_84 : decode cX5_strike 84 = .ok (.iaload, 1) := by decide +kernel
theorem dX5_strike_85 : decode cX5_strike 85 = .ok (.iconst 1, 1) := by decide +kernel
theorem dX5_strike_86 : decode cX5_strike 86 = .ok (.iadd, 1) := by decide +kernel
theorem dX5_strike_87 : decode cX5_strike 87 = .ok (.iastore, 1) := by decide +kernel
theorem dX5_strike_88 : decode cX5_strike 88 = .ok (.aload_n 0, 1) := by decide +kernel
theorem dX5_strike_89 : decode cX5_strike 89 = .ok (.getfield 35, 3) := by decide +kernel
theorem dX5_strike_92 : decode cX5_strike 92 = .ok (.aload_n 0, 1) := by decide +kernel
theorem dX5_strike_93 : decode cX5_strike 93 = .ok (.getfield 107, 3) := by decide +kernel
theorem dX5_strike_96 : decode cX5_strike 96 = .ok (.iload_n 1, 1) := by decide +kernel
theorem dX5_strike_97 : decode cX5_strike 97 = .ok (.iastore, 1) := by decide +kernel
theorem dX5_strike_98 : decode cX5_strike 98 = .ok (.aload_n 0, 1) := by decide +kernel
theorem dX5_strike_99 : decode cX5_strike 99 = .ok (.getfield 38, 3) := by decide +kernel
theorem dX5_strike_102 : decode cX5_strike 102 = .ok (.aload_n 0, 1) := by decide +kernel
theorem dX5_strike_103 : decode cX5_strike 103 = .ok (.getfield 107, 3) := by decide +kernel
theorem dX5_strike_106 : decode cX5_strike 106 = .ok (.aload_n 0, 1) := by decide +kernel
theorem dX5_strike_107 : decode cX5_strike 107 = .ok (.getfield 29, 3) := by decide +kernel
theorem dX5_strike_110 : decode cX5_strike 110 = .ok (.iload_n 1, 1) := by decide +kernel
theorem dX5_strike_111 : decode cX5_strike 111 = .ok (.iaload, 1) := by decide +kernel
theorem dX5_strike_112 : decode cX5_strike 112 = .ok (.iastore, 1) := by decide +kernel
theorem dX5_strike_113 : decode cX5_strike 113 = .ok (.aload_n 0, 1) := by decide +kernel
theorem dX5_strike_114 : decode cX5_strike 114 = .ok (.dup, 1) := by decide +kernel
theorem dX5_strike_115 : decode cX5_strike 115 = .ok (.getfield 107, 3) := by decide +kernel
theorem dX5_strike_118 : decode cX5_strike 118 = .ok (.iconst 1, 1) := by decide +kernel
theorem dX5_strike_119 : decode cX5_strike 119 = .ok (.iadd, 1) := by decide +kernel
theorem dX5_strike_120 : decode cX5_strike 120 = .ok (.putfield 107, 3) := by decide +kernel
theorem dX5_strike_123 : decode cX5_strike 123 = .ok (.aload_n 0, 1) := by decide +kernel
theorem dX5_strike_124 : decode cX5_strike 124 = .ok (.getfield 29, 3) := by decide +kernel
theorem dX5_strike_127 : decode cX5_strike 127 = .ok (.iload_n 1, 1) := by decide +kernel
theorem dX5_strike_128 : decode cX5_strike 128 = .ok (.iaload, 1) := by decide +kernel
theorem dX5_strike_129 : decode cX5_strike 129 = .ok (.iconst 2, 1) := by decide +kernel
theorem dX5_strike_130 : decode cX5_strike 130 = .ok (.irem, 1) := by decide +kernel
theorem dX5_strike_131 : decode cX5_strike 131 = .ok (.ifCond .ne 74, 3) := by decide +kernel
theorem dX5_strike_134 : decode cX5_strike 134 = .ok (.bipush 16, 2) := by decide +kernel
theorem dX5_strike_136 : decode cX5_strike 136 = .ok (.iload_n 1, 1) := by decide +kernel
theorem dX5_strike_137 : decode cX5_strike 137 = .ok (.imul, 1) := by decide +kernel
theorem dX5_strike_138 : decode cX5_strike 138 = .ok (.istore_n 2, 1) := by decide +kernel
theorem dX5_strike_139 : decode cX5_strike 139 = .ok (.bipush 16, 2) := by decide +kernel
theorem dX5_strike_141 : decode cX5_strike 141 = .ok (.iload_n 1, 1) := by decide +kernel
theorem dX5_strike_142 : decode cX5_strike 142 = .ok (.imul, 1) := by decide +kernel
theorem dX5_strike_143 : decode cX5_strike 143 = .ok (.istore_n 3, 1) := by decide +kernel
theorem dX5_strike_144 : decode cX5_strike 144 = .ok (.iload_n 3, 1) := by decide +kernel
theorem dX5_strike_145 : decode cX5_strike 145 = .ok (.bipush 16, 2) := by decide +kernel
theorem dX5_strike_147 : decode cX5_strike 147 = .ok (.iload_n 1, 1) := by decide +kernel
theorem dX5_strike_148 : decode cX5_strike 148 = .ok (.imul, 1) := by decide +kernel
theorem dX5_strike_149 : decode cX5_strike 149 = .ok (.bipush 16, 2) := by decide +kernel
theorem dX5_strike_151 : decode cX5_strike 151 = .ok (.iadd, 1) := by decide +kernel
theorem dX5_strike_152 : decode cX5_strike 152 = .ok (.if_icmp .ge 30, 3) := by decide +kernel
theorem dX5_strike_155 : decode cX5_strike 155 = .ok (.aload_n 0, 1) := by decide +kernel
theorem dX5_strike_156 : decode cX5_strike 156 = .ok (.getfield 26, 3) := by decide +kernel
theorem dX5_strike_159 : decode cX5_strike 159 = .ok (.iload_n 3, 1) := by decide +kernel
theorem dX5_strike_160 : decode cX5_strike 160 = .ok (.iaload, 1) := by decide +kernel
theorem dX5_strike_161 : decode cX5_strike 161 = .ok (.aload_n 0, 1) := by decide +kernel
theorem dX5_strike_162 : decode cX5_strike 162 = .ok (.getfield 26, 3) := by decide +kernel
theorem dX5_strike_165 : decode cX5_strike 165 = .ok (.iload_n 2, 1) := by decide +kernel
theorem dX5_strike_166 : decode cX5_strike 166 = .ok (.iaload, 1) := by decide +kernel
theorem dX5_strike_167 : decode cX5_strike 167 = .ok (.if_icmp .le 7, 3) := by decide +kernel
theorem dX5_strike_170 : decode cX5_strike 170 = .ok (.iload_n 3, 1) := by decide +kernel
theorem dX5_strike_171 : decode cX5_strike 171 = .ok (.goto 4, 3) := by decide +kernel
theorem dX5_strike_174 : decode cX5_strike 174 = .ok (.iload_n 2, 1) := by decide +kernel
theorem dX5_strike_175 : decode cX5_strike 175 = .ok (.istore_n 2, 1) := by decide +kernel
theorem dX5_strike_176 : decode cX5_strike 176 = .ok (.iinc 3 1, 3) := by decide +kernel
theorem dX5_strike_179 : decode cX5_strike 179 = .ok (.goto (-35), 3) := by decide +kernel
theorem dX5_strike_182 : decode cX5_strike 182 = .ok (.aload_n 0, 1) := by decide +kernel
theorem dX5_strike_183 : decode cX5_strike 183 = .ok (.getfield 26, 3) := by decide +kernel
theorem dX5_strike_186 : decode cX5_strike 186 = .ok (.iload_n 2, 1) := by decide +kernel
theorem dX5_strike_187 : decode cX5_strike 187 = .ok (.dup2, 1) := by decide +kernel
theorem dX5_strike_188 : decode cX5_strike 188 = .ok (.iaload, 1) := by decide +kernel
theorem dX5_strike_189 : decode cX5_strike 189 = .ok (.aload_n 0, 1) := by decide +kernel
theorem dX5_strike_190 : decode cX5_strike 190 = .ok (.getfield 26, 3) := by decide +kernel
theorem dX5_strike_193 : decode cX5_strike 193 = .ok (.iload_n 2, 1) := by decide +kernel
theorem dX5_strike_194 : decode cX5_strike 194 = .ok (.iaload, 1) := by decide +kernel
theorem dX5_strike_195 : decode cX5_strike 195 = .ok (.ifCond .le 7, 3) := by decide +kernel
theorem dX5_strike_198 : decode cX5_strike 198 = .ok (.iconst 1, 1) := by decide +kernel
theorem dX5_strike_199 : decode cX5_strike 199 = .ok (.goto 4, 3) := by decide +kernel
theorem dX5_strike_202 : decode cX5_strike 202 = .ok (.iconst 0, 1) := by decide +kernel
theorem dX5_strike_203 : decode cX5_strike 203 = .ok (.isub, 1) := by decide +kernel
theorem dX5_strike_204 : decode cX5_strike 204 = .ok (.iastore, 1) := by decide +kernel
theorem dX5_strike_205 : decode cX5_strike 205 = .ok (.aload_n 0, 1) := by decide +kernel
theorem dX5_strike_206 : decode cX5_strike 206 = .ok (.getfield 107, 3) := by decide +kernel
theorem dX5_strike_209 : decode cX5_strike 209 = .ok (.iconst 1, 1) := by decide +kernel
theorem dX5_strike_210 : decode cX5_strike 210 = .ok (.isub, 1) := by decide +kernel
theorem dX5_strike_211 : decode cX5_strike 211 = .ok (.ireturn, 1) := by decide +kernel
theorem dX5_forge_0 : decode cX5_forge 0 = .ok (.aload_n 0, 1) := by decide +kernel
theorem dX5_forge_1 : decode cX5_forge 1 = .ok (.aload_n 0, 1) := by decide +kernel
theorem dX5_forge_2 : decode cX5_forge 2 = .ok (.iload_n 1, 1) := by decide +kernel
theorem dX5_forge_3 : decode cX5_forge 3 = .ok (.invokevirtual 113, 3) := by decide +kernel
theorem dX5_forge_6 : decode cX5_forge 6 = .ok (.ifCond .eq 11, 3) := by decide +kernel
theorem dX5_forge_9 : decode cX5_forge 9 = .ok (.aload_n 0, 1) := by decide +kernel
theorem dX5_forge_10 : decode cX5_forge 10 = .ok (.iload_n 2, 1) := by decide +kernel
theorem dX5_forge_11 : decode cX5_forge 11 = .ok (.invokevirtual 110, 3) := by decide +kernel
theorem dX5_forge_14 : decode cX5_forge 14 = .ok (.ifCond .ne 7, 3) := by decide +kernel
theorem dX5_forge_17 : decode cX5_forge 17 = .ok (.iconst 1, 1) := by decide +kernel
theorem dX5_forge_18 : decode cX5_forge 18 = .ok (.goto 18, 3) := by decide +kernel
theorem dX5_forge_21 : decode cX5_forge 21 = .ok (.iload_n 3, 1) := by decide +kernel
theorem dX5_forge_22 : decode cX5_forge 22 = .ok (.iconst 1, 1) := by decide +kernel
theorem dX5_forge_23 : decode cX5_forge 23 = .ok (.bipush 60, 2) := by decide +kernel
theorem dX5_forge_25 : decode cX5_forge 25 = .ok (.invokestatic 47, 3) := by decide +kernel
theorem dX5_forge_28 : decode cX5_forge 28 = .ok (.ifCond .ne 7, 3) := by decide +kernel
theorem dX5_forge_31 : decode cX5_forge 31 = .ok (.iconst 2, 1) := by decide +kernel
theorem dX5_forge_32 : decode cX5_forge 32 = .ok (.goto 4, 3) := by decide +kernel
theorem dX5_forge_35 : decode cX5_forge 35 = .ok (.iconst 0, 1) := by decide +kernel
theorem dX5_forge_36 : decode cX5_forge 36 = .ok (.putfield 44, 3) := by decide +kernel
theorem dX5_forge_39 : decode cX5_forge 39 = .ok (.aload_n 0, 1) := by decide +kernel
theorem dX5_forge_40 : decode cX5_forge 40 = .ok (.getfield 44, 3) := by decide +kernel
theorem dX5_forge_43 : decode cX5_forge 43 = .ok (.ifCond .ne 31, 3) := by decide +kernel
theorem dX5_forge_46 : decode cX5_forge 46 = .ok (.aload_n 0, 1) := by decide +kernel
theorem dX5_forge_47 : decode cX5_forge 47 = .ok (.aload_n 0, 1) := by decide +kernel
theorem dX5_forge_48 : decode cX5_forge 48 = .ok (.getfield 107, 3) := by decide +kernel
theorem dX5_forge_51 : decode cX5_forge 51 = .ok (.bipush 60, 2) := by decide +kernel
theorem dX5_forge_53 : decode cX5_forge 53 = .ok (.if_icmp .eq 13, 3) := by decide +kernel
theorem dX5_forge_56 : decode cX5_forge 56 = .ok (.aload_n 0, 1) := by decide +kernel
theorem dX5_forge_57 : decode cX5_forge 57 = .ok (.getfield 29, 3) := by decide +kernel
theorem dX5_forge_60 : decode cX5_forge 60 = .ok (.iload_n 2, 1) := by decide +kernel
theorem dX5_forge_61 : decode cX5_forge 61 = .ok (.iaload, 1) := by decide +kernel
theorem dX5_forge_62 : decode cX5_forge 62 = .ok (.iload_n 3, 1) := by decide +kernel
theorem dX5_forge_63 : decode cX5_forge 63 = .ok (.if_icmp .ge 7, 3) := by decide +kernel
theorem dX5_forge_66 : decode cX5_forge 66 = .ok (.iconst 3, 1) := by decide +kernel
theorem dX5_forge_67 : decode cX5_forge 67 = .ok (.goto 4, 3) := by decide +kernel
theorem dX5_forge_70 : decode cX5_forge 70 = .ok (.iconst 0, 1) := by decide +kernel
theorem dX5_forge_71 : decode cX5_forge 71 = .ok (.putfield 44, 3) := by decide +kernel
theorem dX5_forge_74 : decode cX5_forge 74 = .ok (.aload_n 0, 1) := by decide +kernel
theorem dX5_forge_75 : decode cX5_forge 75 = .ok (.getfield 44, 3) := by decide +kernel
theorem dX5_forge_78 : decode cX5_forge 78 = .ok (.ifCond .le 5, 3) := by decide +kernel
theorem dX5_forge_81 : decode cX5_forge 81 = .ok (.iconst 0, 1) := by decide +kernel
theorem dX5_forge_82 : decode cX5_forge 82 = .ok (.ireturn, 1) := by decide +kernel
theorem dX5_forge_83 : decode cX5_forge 83 = .ok (.iconst 0, 1) := by decide +kernel
theorem dX5_forge_84 : decode cX5_forge 84 = .ok (.istore 4, 2) := by decide +kernel
theorem dX5_forge_86 : decode cX5_forge 86 = .ok (.iload 4, 2) := by decide +kernel
theorem dX5_forge_88 : decode cX5_forge 88 = .ok (.bipush 16, 2) := by decide +kernel
theorem dX5_forge_90 : decode cX5_forge 90 = .ok (.if_icmp .ge 36, 3) := by decide +kernel
theorem dX5_forge_93 : decode cX5_forge 93 = .ok (.aload_n 0, 1) := by decide +kernel
theorem dX5_forge_94 : decode cX5_forge 94 = .ok (.getfield 32, 3) := by decide +kernel
theorem dX5_forge_97 : decode cX5_forge 97 = .ok (.bipush 16, 2) := by decide +kernel
theorem dX5_forge_99 : decode cX5_forge 99 = .ok (.aload_n 0, 1) := by decide +kernel
theorem dX5_forge_100 : decode cX5_forge 100 = .ok (.getfield 107, 3) := by decide +kernel
theorem dX5_forge_103 : decode cX5_forge 103 = .ok (.imul, 1) := by decide +kernel
theorem dX5_forge_104 : decode cX5_forge 104 = .ok (.iload 4, 2) := by decide +kernel
theorem dX5_forge_106 : decode cX5_forge 106 = .ok (.iadd, 1) := by decide +kernel
theorem dX5_forge_107 : decode cX5_forge 107 = .ok (.aload_n 0, 1) := by decide +kernel
theorem dX5_forge_108 : decode cX5_forge 108 = .ok (.getfield 32, 3) := by decide +kernel
theorem dX5_forge_111 : decode cX5_forge 111 = .ok (.bipush 16, 2) := by decide +kernel
theorem dX5_forge_113 : decode cX5_forge 113 = .ok (.iload_n 1, 1) := by decide +kernel
theorem dX5_forge_114 : decode cX5_forge 114 = .ok (.imul, 1) := by decide +kernel
theorem dX5_forge_115 : decode cX5_forge 115 = .ok (.iload 4, 2) := by decide +kernel
theorem dX5_forge_117 : decode cX5_forge 117 = .ok (.iadd, 1) := by decide +kernel
theorem dX5_forge_118 : decode cX5_forge 118 = .ok (.iaload, 1) := by decide +kernel
theorem dX5_forge_119 : decode cX5_forge 119 = .ok (.iastore, 1) := by decide +kernel
theorem dX5_forge_120 : decode cX5_forge 120 = .ok (.iinc 4 1, 3) := by decide +kernel
theorem dX5_forge_123 : decode cX5_forge 123 = .ok (.goto (-37), 3) := by decide +kernel
theorem dX5_forge_126 : decode cX5_forge 126 = .ok (.aload_n 0, 1) := by decide +kernel
theorem dX5_forge_127 : decode cX5_forge 127 = .ok (.getfield 35, 3) := by decide +kernel
theorem dX5_forge_130 : decode cX5_forge 130 = .ok (.aload_n 0, 1) := by decide +kernel
theorem dX5_forge_131 : decode cX5_forge 131 = .ok (.getfield 107, 3) := by decide +kernel
theorem dX5_forge_134 : decode cX5_forge 134 = .ok (.iload_n 2, 1) := by decide +kernel
theorem dX5_forge_135 : decode cX5_forge 135 = .ok (.iastore, 1) := by decide +kernel
theorem dX5_forge_136 : decode cX5_forge 136 = .ok (.aload_n 0, 1) := by decide +kernel
theorem dX5_forge_137 : decode cX5_forge 137 = .ok (.getfield 38, 3) := by decide +kernel
theorem dX5_forge_140 : decode cX5_forge 140 = .ok (.aload_n 0, 1) := by decide +kernel
theorem dX5_forge_141 : decode cX5_forge 141 = .ok (.getfield 107, 3) := by decide +kernel
theorem dX5_forge_144 : decode cX5_forge 144 = .ok (.iload_n 3, 1) := by decide +kernel
theorem dX5_forge_145 : decode cX5_forge 145 = .ok (.iastore, 1) := by decide +kernel
theorem dX5_forge_146 : decode cX5_forge 146 = .ok (.aload_n 0, 1) := by decide +kernel
theorem dX5_forge_147 : decode cX5_forge 147 = .ok (.dup, 1) := by decide +kernel
theorem dX5_forge_148 : decode cX5_forge 148 = .ok (.getfield 107, 3) := by decide +kernel
theorem dX5_forge_151 : decode cX5_forge 151 = .ok (.iconst 1, 1) := by decide +kernel
theorem dX5_forge_152 : decode cX5_forge 152 = .ok (.iadd, 1) := by decide +kernel
theorem dX5_forge_153 : decode cX5_forge 153 = .ok (.putfield 107, 3) := by decide +kernel
theorem dX5_forge_156 : decode cX5_forge 156 = .ok (.aload_n 0, 1) := by decide +kernel
theorem dX5_forge_157 : decode cX5_forge 157 = .ok (.getfield 107, 3) := by decide +kernel
theorem dX5_forge_160 : decode cX5_forge 160 = .ok (.iconst 1, 1) := by decide +kernel
theorem dX5_forge_161 : decode cX5_forge 161 = .ok (.isub, 1) := by decide +kernel
theorem dX5_forge_162 : decode cX5_forge 162 = .ok (.ireturn, 1) := by decide +kernel
theorem dX5_dieHeight_0 : decode cX5_dieHeight 0 = .ok (.aload_n 0, 1) := by decide +kernel
theorem dX5_dieHeight_1 : decode cX5_dieHeight 1 = .ok (.aload_n 0, 1) := by decide +kernel
theorem dX5_dieHeight_2 : decode cX5_dieHeight 2 = .ok (.iload_n 1, 1) := by decide +kernel
theorem dX5_dieHeight_3 : decode cX5_dieHeight 3 = .ok (.invokevirtual 110, 3) := by decide +kernel
theorem dX5_dieHeight_6 : decode cX5_dieHeight 6 = .ok (.ifCond .eq 14, 3) := by decide +kernel
theorem dX5_dieHeight_9 : decode cX5_dieHeight 9 = .ok (.iload_n 2, 1) := by decide +kernel
theorem dX5_dieHeight_10 : decode cX5_dieHeight 10 = .ok (.invokestatic 58, 3) := by decide +kernel
theorem dX5_dieHeight_13 : decode cX5_dieHeight 13 = .ok (.ifCond .eq 7, 3) := by decide +kernel
theorem dX5_dieHeight_16 : decode cX5_dieHeight 16 = .ok (.iconst 0, 1) := by decide +kernel
theorem dX5_dieHeight_17 : decode cX5_dieHeight 17 = .ok (.goto 4, 3) := by decide +kernel
theorem dX5_dieHeight_20 : decode cX5_dieHeight 20 = .ok (.iconst 1, 1) := by decide +kernel
theorem dX5_dieHeight_21 : decode cX5_dieHeight 21 = .ok (.putfield 44, 3) := by decide +kernel
theorem dX5_dieHeight_24 : decode cX5_dieHeight 24 = .ok (.aload_n 0, 1) := by decide +kernel
theorem dX5_dieHeight_25 : decode cX5_dieHeight 25 = .ok (.getfield 44, 3) := by decide +kernel
theorem dX5_dieHeight_28 : decode cX5_dieHeight 28 = .ok (.ifCond .le 7, 3) := by decide +kernel
theorem dX5_dieHeight_31 : decode cX5_dieHeight 31 = .ok (.iconst 0, 1) := by decide +kernel
theorem dX5_dieHeight_32 : decode cX5_dieHeight 32 = .ok (.goto 14, 3) := by decide +kernel
theorem dX5_dieHeight_35 : decode cX5_dieHeight 35 = .ok (.aload_n 0, 1) := by decide +kernel
theorem dX5_dieHeight_36 : decode cX5_dieHeight 36 = .ok (.getfield 26, 3) := by decide +kernel
theorem dX5_dieHeight_39 : decode cX5_dieHeight 39 = .ok (.bipush 16, 2) := by decide +kernel
theorem dX5_dieHeight_41 : decode cX5_dieHeight 41 = .ok (.iload_n 1, 1) := by decide +kernel
theorem dX5_dieHeight_42 : decode cX5_dieHeight 42 = .ok (.imul, 1) := by decide +kernel
theorem dX5_dieHeight_43 : decode cX5_dieHeight 43 = .ok (.iload_n 2, 1) := by decide +kernel
theorem dX5_dieHeight_44 : decode cX5_dieHeight 44 = .ok (.iadd, 1) := by decide +kernel
theorem dX5_dieHeight_45 : decode cX5_dieHeight 45 = .ok (.iaload, 1) := by decide +kernel
theorem dX5_dieHeight_46 : decode cX5_dieHeight 46 = .ok (.ireturn, 1) := by decide +kernel
theorem dX5_coinHeight_0 : decode cX5_coinHeight 0 = .ok (.aload_n 0, 1) := by decide +kernel
theorem dX5_coinHeight_1 : decode cX5_coinHeight 1 = .ok (.aload_n 0, 1) := by decide +kernel
theorem dX5_coinHeight_2 : decode cX5_coinHeight 2 = .ok (.iload_n 1, 1) := by decide +kernel
theorem dX5_coinHeight_3 : decode cX5_coinHeight 3 = .ok (.invokevirtual 113, 3) := by decide +kernel
theorem dX5_coinHeight_6 : decode cX5_coinHeight 6 = .ok (.ifCond .eq 14, 3) := by decide +kernel
theorem dX5_coinHeight_9 : decode cX5_coinHeight 9 = .ok (.iload_n 2, 1) := by decide +kernel
theorem dX5_coinHeight_10 : decode cX5_coinHeight 10 = .ok (.invokestatic 58, 3) := by decide +kernel
theorem dX5_coinHeight_13 : decode cX5_coinHeight 13 = .ok (.ifCond .eq 7, 3) := by decide +kernel
theorem dX5_coinHeight_16 : decode cX5_coinHeight 16 = .ok (.iconst 0, 1) := by decide +kernel
theorem dX5_coinHeight_17 : decode cX5_coinHeight 17 = .ok (.goto 4, 3) := by decide +kernel
theorem dX5_coinHeight_20 : decode cX5_coinHeight 20 = .ok (.iconst 1, 1) := by decide +kernel
theorem dX5_coinHeight_21 : decode cX5_coinHeight 21 = .ok (.putfield 44, 3) := by decide +kernel
theorem dX5_coinHeight_24 : decode cX5_coinHeight 24 = .ok (.aload_n 0, 1) := by decide +kernel
theorem dX5_coinHeight_25 : decode cX5_coinHeight 25 = .ok (.getfield 44, 3) := by decide +kernel
theorem dX5_coinHeight_28 : decode cX5_coinHeight 28 = .ok (.ifCond .le 7, 3) := by decide +kernel
theorem dX5_coinHeight_31 : decode cX5_coinHeight 31 = .ok (.iconst 0, 1) := by decide +kernel
theorem dX5_coinHeight_32 : decode cX5_coinHeight 32 = .ok (.goto 14, 3) := by decide +kernel
theorem dX5_coinHeight_35 : decode cX5_coinHeight 35 = .ok (.aload_n 0, 1) := by decide +kernel
theorem dX5_coinHeight_36 : decode cX5_coinHeight 36 = .ok (.getfield 32, 3) := by decide +kernel
theorem dX5_coinHeight_39 : decode cX5_coinHeight 39 = .ok (.bipush 16, 2) := by decide +kernel
theorem dX5_coinHeight_41 : decode cX5_coinHeight 41 = .ok (.iload_n 1, 1) := by decide +kernel
theorem dX5_coinHeight_42 : decode cX5_coinHeight 42 = .ok (.imul, 1) := by decide +kernel
theorem dX5_coinHeight_43 : decode cX5_coinHeight 43 = .ok (.iload_n 2, 1) := by decide +kernel
theorem dX5_coinHeight_44 : decode cX5_coinHeight 44 = .ok (.iadd, 1) := by decide +kernel
theorem dX5_coinHeight_45 : decode cX5_coinHeight 45 = .ok (.iaload, 1) := by decide +kernel
theorem dX5_coinHeight_46 : decode cX5_coinHeight 46 = .ok (.ireturn, 1) := by decide +kernel
theorem dX5_far_0 : decode cX5_far 0 = .ok (.iload_n 0, 1) := by decide +kernel
theorem dX5_far_1 : decode cX5_far 1 = .ok (.iload_n 1, 1) := by decide +kernel
theorem dX5_far_2 : decode cX5_far 2 = .ok (.if_icmp .le 9, 3) := by decide +kernel
theorem dX5_far_5 : decode cX5_far 5 = .ok (.iload_n 0, 1) := by decide +kernel
theorem dX5_far_6 : decode cX5_far 6 = .ok (.iload_n 1, 1) := by decide +kernel
theorem dX5_far_7 : decode cX5_far 7 = .ok (.isub, 1) := by decide +kernel
theorem dX5_far_8 : decode cX5_far 8 = .ok (.goto 6, 3) := by decide +kernel
theorem dX5_far_11 : decode cX5_far 11 = .ok (.iload_n 1, 1) := by decide +kernel
theorem dX5_far_12 : decode cX5_far 12 = .ok (.iload_n 0, 1) := by decide +kernel
theorem dX5_far_13 : decode cX5_far 13 = .ok (.isub, 1) := by decide +kernel
theorem dX5_far_14 : decode cX5_far 14 = .ok (.ireturn, 1) := by decide +kernel
theorem dX5_grade_0 : decode cX5_grade 0 = .ok (.aload_n 0, 1) := by decide +kernel
theorem dX5_grade_1 : decode cX5_grade 1 = .ok (.aload_n 0, 1) := by decide +kernel
theorem dX5_grade_2 : decode cX5_grade 2 = .ok (.iload_n 1, 1) := by decide +kernel
theorem dX5_grade_3 : decode cX5_grade 3 = .ok (.invokevirtual 113, 3) := by decide +kernel
theorem dX5_grade_6 : decode cX5_grade 6 = .ok (.ifCond .eq 7, 3) := by decide +kernel
theorem dX5_grade_9 : decode cX5_grade 9 = .ok (.iconst 0, 1) := by decide +kernel
theorem dX5_grade_10 : decode cX5_grade 10 = .ok (.goto 4, 3) := by decide +kernel
theorem dX5_grade_13 : decode cX5_grade 13 = .ok (.iconst 1, 1) := by decide +kernel
theorem dX5_grade_14 : decode cX5_grade 14 = .ok (.putfield 44, 3) := by decide +kernel
theorem dX5_grade_17 : decode cX5_grade 17 = .ok (.aload_n 0, 1) := by decide +kernel
theorem dX5_grade_18 : decode cX5_grade 18 = .ok (.getfield 44, 3) := by decide +kernel
theorem dX5_grade_21 : decode cX5_grade 21 = .ok (.ifCond .le 5, 3) := by decide +kernel
theorem dX5_grade_24 : decode cX5_grade 24 = .ok (.iconst 0, 1) := by decide +kernel
theorem dX5_grade_25 : decode cX5_grade 25 = .ok (.ireturn, 1) := by decide +kernel
theorem dX5_grade_26 : decode cX5_grade 26 = .ok (.iconst 0, 1) := by decide +kernel
theorem dX5_grade_27 : decode cX5_grade 27 = .ok (.istore_n 2, 1) := by decide +kernel
theorem dX5_grade_28 : decode cX5_grade 28 = .ok (.iconst 0, 1) := by decide +kernel
theorem dX5_grade_29 : decode cX5_grade 29 = .ok (.istore_n 3, 1) := by decide +kernel
theorem dX5_grade_30 : decode cX5_grade 30 = .ok (.iload_n 3, 1) := by decide +kernel
theorem dX5_grade_31 : decode cX5_grade 31 = .ok (.bipush 16, 2) := by decide +kernel
theorem dX5_grade_33 : decode cX5_grade 33 = .ok (.if_icmp .ge 42, 3) := by decide +kernel
theorem dX5_grade_36 : decode cX5_grade 36 = .ok (.iload_n 2, 1) := by decide +kernel
theorem dX5_grade_37 : decode cX5_grade 37 = .ok (.aload_n 0, 1) := by decide +kernel
theorem dX5_grade_38 : decode cX5_grade 38 = .ok (.getfield 32, 3) := by decide +kernel
theorem dX5_grade_41 : decode cX5_grade 41 = .ok (.bipush 16, 2) := by decide +kernel
theorem dX5_grade_43 : decode cX5_grade 43 = .ok (.iload_n 1, 1) := by decide +kernel
theorem dX5_grade_44 : decode cX5_grade 44 = .ok (.imul, 1) := by decide +kernel
theorem dX5_grade_45 : decode cX5_grade 45 = .ok (.iload_n 3, 1) := by decide +kernel
theorem dX5_grade_46 : decode cX5_grade 46 = .ok (.iadd, 1) := by decide +kernel
theorem dX5_grade_47 : decode cX5_grade 47 = .ok (.iaload, 1) := by decide +kernel
theorem dX5_grade_48 : decode cX5_grade 48 = .ok (.aload_n 0, 1) := by decide +kernel
theorem dX5_grade_49 : decode cX5_grade 49 = .ok (.getfield 23, 3) := by decide +kernel
theorem dX5_grade_52 : decode cX5_grade 52 = .ok (.bipush 16, 2) := by decide +kernel
theorem dX5_grade_54 : decode cX5_grade 54 = .ok (.aload_n 0, 1) := by decide +kernel
theorem dX5_grade_55 : decode cX5_grade 55 = .ok (.getfield 35, 3) := by decide +kernel
theorem dX5_grade_58 : decode cX5_grade 58 = .ok (.iload_n 1, 1) := by decide +kernel
theorem dX5_grade_59 : decode cX5_grade 59 = .ok (.iaload, 1) := by decide +kernel
theorem dX5_grade_60 : decode cX5_grade 60 = .ok (.imul, 1) := by decide +kernel
theorem dX5_grade_61 : decode cX5_grade 61 = .ok (.iload_n 3, 1) := by decide +kernel
theorem dX5_grade_62 : decode cX5_grade 62 = .ok (.iadd, 1) := by decide +kernel
theorem dX5_grade_63 : decode cX5_grade 63 = .ok (.iaload, 1) := by decide +kernel
theorem dX5_grade_64 : decode cX5_grade 64 = .ok (.invokestatic 116, 3) := by decide +kernel
theorem dX5_grade_67 : decode cX5_grade 67 = .ok (.iadd, 1) := by decide +kernel
theorem dX5_grade_68 : decode cX5_grade 68 = .ok (.istore_n 2, 1) := by decide +kernel
theorem dX5_grade_69 : decode cX5_grade 69 = .ok (.iinc 3 1, 3) := by decide +kernel
theorem dX5_grade_72 : decode cX5_grade 72 = .ok (.goto (-42), 3) := by decide +kernel
theorem dX5_grade_75 : decode cX5_grade 75 = .ok (.iload_n 2, 1) := by decide +kernel
theorem dX5_grade_76 : decode cX5_grade 76 = .ok (.bipush 20, 2) := by decide +kernel
theorem dX5_grade_78 : decode cX5_grade 78 = .ok (.if_icmp .le 7, 3) := by decide +kernel
theorem dX5_grade_81 : decode cX5_grade 81 = .ok (.iconst 0, 1) := by decide +kernel
theorem dX5_grade_82 : decode cX5_grade 82 = .ok (.goto 9, 3) := by decide +kernel
theorem dX5_grade_85 : decode cX5_grade 85 = .ok (.bipush 100, 2) := by decide +kernel
theorem dX5_grade_87 : decode cX5_grade 87 = .ok (.iconst 5, 1) := by decide +kernel
theorem dX5_grade_88 : decode cX5_grade 88 = .ok (.iload_n 2, 1) := by decide +kernel
theorem dX5_grade_89 : decode cX5_grade 89 = .ok (.imul, 1) := by decide +kernel
theorem dX5_grade_90 : decode cX5_grade 90 = .ok (.isub, 1) := by decide +kernel
theorem dX5_grade_91 : decode cX5_grade 91 = .ok (.ireturn, 1) := by decide +kernel
theorem dX5_laysThen_0 : decode cX5_laysThen 0 = .ok (.iconst 0, 1) := by decide +kernel
theorem dX5_laysThen_1 : decode cX5_laysThen 1 = .ok (.istore_n 3, 1) := by decide +kernel
theorem dX5_laysThen_2 : decode cX5_laysThen 2 = .ok (.iload_n 3, 1) := by decide +kernel
theorem dX5_laysThen_3 : decode cX5_laysThen 3 = .ok (.bipush 16, 2) := by decide +kernel
theorem dX5_laysThen_5 : decode cX5_laysThen 5 = .ok (.if_icmp .ge 26, 3) := by decide +kernel
theorem dX5_laysThen_8 : decode cX5_laysThen 8 = .ok (.aload_n 0, 1) := by decide +kernel
theorem dX5_laysThen_9 : decode cX5_laysThen 9 = .ok (.getfield 41, 3) := by decide +kernel
theorem dX5_laysThen_12 : decode cX5_laysThen 12 = .ok (.iload_n 3, 1) := by decide +kernel
theorem dX5_laysThen_13 : decode cX5_laysThen 13 = .ok (.aload_n 0, 1) := by decide +kernel
theorem dX5_laysThen_14 : decode cX5_laysThen 14 = .ok (.getfield 23, 3) := by decide +kernel
theorem dX5_laysThen_17 : decode cX5_laysThen 17 = .ok (.bipush 16, 2) := by decide +kernel
theorem dX5_laysThen_19 : decode cX5_laysThen 19 = .ok (.iload_n 1, 1) := by decide +kernel
theorem dX5_laysThen_20 : decode cX5_laysThen 20 = .ok (.imul, 1) := by decide +kernel
theorem dX5_laysThen_21 : decode cX5_laysThen 21 = .ok (.iload_n 3, 1) := by decide +kernel
theorem dX5_laysThen_22 : decode cX5_laysThen 22 = .ok (.iadd, 1) := by decide +kernel
theorem dX5_laysThen_23 : decode cX5_laysThen 23 = .ok (.iaload, 1) := by decide +kernel
theorem dX5_laysThen_24 : decode cX5_laysThen 24 = .ok (.iastore, 1) := by decide +kernel
theorem dX5_laysThen_25 : decode cX5_laysThen 25 = .ok (.iinc 3 1, 3) := by decide +kernel
theorem dX5_laysThen_28 : decode cX5_laysThen 28 = .ok (.goto (-26), 3) := by decide +kernel
theorem dX5_laysThen_31 : decode cX5_laysThen 31 = .ok (.iconst 2, 1) := by decide +kernel
theorem dX5_laysThen_32 : decode cX5_laysThen 32 = .ok (.istore_n 3, 1) := by decide +kernel
theorem dX5_laysThen_33 : decode cX5_laysThen 33 = .ok (.iload_n 3, 1) := by decide +kernel
theorem dX5_laysThen_34 : decode cX5_laysThen 34 = .ok (.iload_n 2, 1) := by decide +kernel
theorem dX5_laysThen_35 : decode cX5_laysThen 35 = .ok (.if_icmp .ge 79, 3) := by decide +kernel
theorem dX5_laysThen_38 : decode cX5_laysThen 38 = .ok (.iconst 0, 1) := by decide +kernel
theorem dX5_laysThen_39 : decode cX5_laysThen 39 = .ok (.istore 4, 2) := by decide +kernel
theorem dX5_laysThen_41 : decode cX5_laysThen 41 = .ok (.iconst 0, 1) := by decide +kernel
theorem dX5_laysThen_42 : decode cX5_laysThen 42 = .ok (.istore 5, 2) := by decide +kernel
theorem dX5_laysThen_44 : decode cX5_laysThen 44 = .ok (.iload 5, 2) := by decide +kernel
theorem dX5_laysThen_46 : decode cX5_laysThen 46 = .ok (.bipush 16, 2) := by decide +kernel
theorem dX5_laysThen_48 : decode cX5_laysThen 48 = .ok (.if_icmp .ge 35, 3) := by decide +kernel
theorem dX5_laysThen_51 : decode cX5_laysThen 51 = .ok (.aload_n 0, 1) := by decide +kernel
theorem dX5_laysThen_52 : decode cX5_laysThen 52 = .ok (.getfield 41, 3) := by decide +kernel
theorem dX5_laysThen_55 : decode cX5_laysThen 55 = .ok (.iload 5, 2) := by decide +kernel
theorem dX5_laysThen_57 : decode cX5_laysThen 57 = .ok (.iaload, 1) := by decide +kernel
theorem dX5_laysThen_58 : decode cX5_laysThen 58 = .ok (.aload_n 0, 1) := by decide +kernel
theorem dX5_laysThen_59 : decode cX5_laysThen 59 = .ok (.getfield 41, 3) := by decide +kernel
theorem dX5_laysThen_62 : decode cX5_laysThen 62 = .ok (.iload 4, 2) := by decide +kernel
theorem dX5_laysThen_64 : decode cX5_laysThen 64 = .ok (.iaload, 1) := by decide +kernel
theorem dX5_laysThen_65 : decode cX5_laysThen 65 = .ok (.if_icmp .le 8, 3) := by decide +kernel
theorem dX5_laysThen_68 : decode cX5_laysThen 68 = .ok (.iload 5, 2) := by decide +kernel
theorem dX5_laysThen_70 : decode cX5_laysThen 70 = .ok (.goto 5, 3) := by decide +kernel
theorem dX5_laysThen_73 : decode cX5_laysThen 73 = .ok (.iload 4, 2) := by decide +kernel
theorem dX5_laysThen_75 : decode cX5_laysThen 75 = .ok (.istore 4, 2) := by decide +kernel
theorem dX5_laysThen_77 : decode cX5_laysThen 77 = .ok (.iinc 5 1, 3) := by decide +kernel
theorem dX5_laysThen_80 : decode cX5_laysThen 80 = .ok (.goto (-36), 3) := by decide +kernel
theorem dX5_laysThen_83 : decode cX5_laysThen 83 = .ok (.aload_n 0, 1) := by decide +kernel
theorem dX5_laysThen_84 : decode cX5_laysThen 84 = .ok (.getfield 41, 3) := by decide +kernel
theorem dX5_laysThen_87 : decode cX5_laysThen 87 = .ok (.iload 4, 2) := by decide +kernel
theorem dX5_laysThen_89 : decode cX5_laysThen 89 = .ok (.dup2, 1) := by decide +kernel
theorem dX5_laysThen_90 : decode cX5_laysThen 90 = .ok (.iaload, 1) := by decide +kernel
theorem dX5_laysThen_91 : decode cX5_laysThen 91 = .ok (.aload_n 0, 1) := by decide +kernel
theorem dX5_laysThen_92 : decode cX5_laysThen 92 = .ok (.getfield 41, 3) := by decide +kernel
theorem dX5_laysThen_95 : decode cX5_laysThen 95 = .ok (.iload 4, 2) := by decide +kernel
theorem dX5_laysThen_97 : decode cX5_laysThen 97 = .ok (.iaload, 1) := by decide +kernel
theorem dX5_laysThen_98 : decode cX5_laysThen 98 = .ok (.ifCond .le 7, 3) := by decide +kernel
theorem dX5_laysThen_101 : decode cX5_laysThen 101 = .ok (.iconst 1, 1) := by decide +kernel
theorem dX5_laysThen_102 : decode cX5_laysThen 102 = .ok (.goto 4, 3) := by decide +kernel
theorem dX5_laysThen_105 : decode cX5_laysThen 105 = .ok (.iconst 0, 1) := by decide +kernel
theorem dX5_laysThen_106 : decode cX5_laysThen 106 = .ok (.isub, 1) := by decide +kernel
theorem dX5_laysThen_107 : decode cX5_laysThen 107 = .ok (.iastore, 1) := by decide +kernel
theorem dX5_laysThen_108 : decode cX5_laysThen 108 = .ok (.iinc 3 2, 3) := by decide +kernel
theorem dX5_laysThen_111 : decode cX5_laysThen 111 = .ok (.goto (-78), 3) := by decide +kernel
theorem dX5_laysThen_114 : decode cX5_laysThen 114 = .ok (.return_, 1) := by decide +kernel
theorem dX5_isForged_0 : decode cX5_isForged 0 = .ok (.aload_n 0, 1) := by decide +kernel
theorem dX5_isForged_1 : decode cX5_isForged 1 = .ok (.aload_n 0, 1) := by decide +kernel
theorem dX5_isForged_2 : decode cX5_isForged 2 = .ok (.iload_n 1, 1) := by decide +kernel
theorem dX5_isForged_3 : decode cX5_isForged 3 = .ok (.invokevirtual 113, 3) := by decide +kernel
theorem dX5_isForged_6 : decode cX5_isForged 6 = .ok (.ifCond .eq 7, 3) := by decide +kernel
theorem dX5_isForged_9 : decode cX5_isForged 9 = .ok (.iconst 0, 1) := by decide +kernel
theorem dX5_isForged_10 : decode cX5_isForged 10 = .ok (.goto 4, 3) := by decide +kernel
theorem dX5_isForged_13 : decode cX5_isForged 13 = .ok (.iconst 1, 1) := by decide +kernel
theorem dX5_isForged_14 : decode cX5_isForged 14 = .ok (.putfield 44, 3) := by decide +kernel
theorem dX5_isForged_17 : decode cX5_isForged 17 = .ok (.aload_n 0, 1) := by decide +kernel
theorem dX5_isForged_18 : decode cX5_isForged 18 = .ok (.getfield 44, 3) := by decide +kernel
theorem dX5_isForged_21 : decode cX5_isForged 21 = .ok (.ifCond .le 5, 3) := by decide +kernel
theorem dX5_isForged_24 : decode cX5_isForged 24 = .ok (.iconst 0, 1) := by decide +kernel
theorem dX5_isForged_25 : decode cX5_isForged 25 = .ok (.ireturn, 1) := by decide +kernel
theorem dX5_isForged_26 : decode cX5_isForged 26 = .ok (.aload_n 0, 1) := by decide +kernel
theorem dX5_isForged_27 : decode cX5_isForged 27 = .ok (.aload_n 0, 1) := by decide +kernel
theorem dX5_isForged_28 : decode cX5_isForged 28 = .ok (.getfield 35, 3) := by decide +kernel
theorem dX5_isForged_31 : decode cX5_isForged 31 = .ok (.iload_n 1, 1) := by decide +kernel
theorem dX5_isForged_32 : decode cX5_isForged 32 = .ok (.iaload, 1) := by decide +kernel
theorem dX5_isForged_33 : decode cX5_isForged 33 = .ok (.aload_n 0, 1) := by decide +kernel
theorem dX5_isForged_34 : decode cX5_isForged 34 = .ok (.getfield 38, 3) := by decide +kernel
theorem dX5_isForged_37 : decode cX5_isForged 37 = .ok (.iload_n 1, 1) := by decide +kernel
theorem dX5_isForged_38 : decode cX5_isForged 38 = .ok (.iaload, 1) := by decide +kernel
theorem dX5_isForged_39 : decode cX5_isForged 39 = .ok (.invokevirtual 119, 3) := by decide +kernel
theorem dX5_isForged_42 : decode cX5_isForged 42 = .ok (.iconst 0, 1) := by decide +kernel
theorem dX5_isForged_43 : decode cX5_isForged 43 = .ok (.istore_n 2, 1) := by decide +kernel
theorem dX5_isForged_44 : decode cX5_isForged 44 = .ok (.iconst 0, 1) := by decide +kernel
theorem dX5_isForged_45 : decode cX5_isForged 45 = .ok (.istore_n 3, 1) := by decide +kernel
theorem dX5_isForged_46 : decode cX5_isForged 46 = .ok (.iload_n 3, 1) := by decide +kernel
theorem dX5_isForged_47 : decode cX5_isForged 47 = .ok (.bipush 16, 2) := by decide +kernel
theorem dX5_isForged_49 : decode cX5_isForged 49 = .ok (.if_icmp .ge 39, 3) := by decide +kernel
theorem dX5_isForged_52 : decode cX5_isForged 52 = .ok (.iload_n 2, 1) := by decide +kernel
theorem dX5_isForged_53 : decode cX5_isForged 53 = .ok (.ifCond .ne 23, 3) := by decide +kernel
theorem dX5_isForged_56 : decode cX5_isForged 56 = .ok (.aload_n 0, 1) := by decide +kernel
theorem dX5_isForged_57 : decode cX5_isForged 57 = .ok (.getfield 32, 3) := by decide +kernel
theorem dX5_isForged_60 : decode cX5_isForged 60 = .ok (.bipush 16, 2) := by decide +kernel
theorem dX5_isForged_62 : decode cX5_isForged 62 = .ok (.iload_n 1, 1) := by decide +kernel
theorem dX5_isForged_63 : decode cX5_isForged 63 = .ok (.imul, 1) := by decide +kernel
theorem dX5_isForged_64 : decode cX5_isForged 64 = .ok (.iload_n 3, 1) := by decide +kernel
theorem dX5_isForged_65 : decode cX5_isForged 65 = .ok (.iadd, 1) := by decide +kernel
theorem dX5_isForged_66 : decode cX5_isForged 66 = .ok (.iaload, 1) := by decide +kernel
theorem dX5_isForged_67 : decode cX5_isForged 67 = .ok (.aload_n 0, 1) := by decide +kernel
theorem dX5_isForged_68 : decode cX5_isForged 68 = .ok (.getfield 41, 3) := by decide +kernel
theorem dX5_isForged_71 : decode cX5_isForged 71 = .ok (.iload_n 3, 1) := by decide +kernel
theorem dX5_isForged_72 : decode cX5_isForged 72 = .ok (.iaload, 1) := by decide +kernel
theorem dX5_isForged_73 : decode cX5_isForged 73 = .ok (.if_icmp .eq 7, 3) := by decide +kernel
theorem dX5_isForged_76 : decode cX5_isForged 76 = .ok (.iconst 1, 1) := by decide +kernel
theorem dX5_isForged_77 : decode cX5_isForged 77 = .ok (.goto 4, 3) := by decide +kernel
theorem dX5_isForged_80 : decode cX5_isForged 80 = .ok (.iconst 0, 1) := by decide +kernel
theorem dX5_isForged_81 : decode cX5_isForged 81 = .ok (.istore_n 2, 1) := by decide +kernel
theorem dX5_isForged_82 : decode cX5_isForged 82 = .ok (.iinc 3 1, 3) := by decide +kernel
theorem dX5_isForged_85 : decode cX5_isForged 85 = .ok (.goto (-39), 3) := by decide +kernel
theorem dX5_isForged_88 : decode cX5_isForged 88 = .ok (.iload_n 2, 1) := by decide +kernel
theorem dX5_isForged_89 : decode cX5_isForged 89 = .ok (.ireturn, 1) := by decide +kernel
theorem dX5_distance_0 : decode cX5_distance 0 = .ok (.aload_n 0, 1) := by decide +kernel
theorem dX5_distance_1 : decode cX5_distance 1 = .ok (.aload_n 0, 1) := by decide +kernel
theorem dX5_distance_2 : decode cX5_distance 2 = .ok (.iload_n 1, 1) := by decide +kernel
theorem dX5_distance_3 : decode cX5_distance 3 = .ok (.invokevirtual 113, 3) := by decide +kernel
theorem dX5_distance_6 : decode cX5_distance 6 = .ok (.ifCond .eq 15, 3) := by decide +kernel
theorem dX5_distance_9 : decode cX5_distance 9 = .ok (.aload_n 0, 1) := by decide +kernel
theorem dX5_distance_10 : decode cX5_distance 10 = .ok (.iload_n 2, 1) := by decide +kernel
theorem dX5_distance_11 : decode cX5_distance 11 = .ok (.invokevirtual 113, 3) := by decide +kernel
theorem dX5_distance_14 : decode cX5_distance 14 = .ok (.ifCond .eq 7, 3) := by decide +kernel
theorem dX5_distance_17 : decode cX5_distance 17 = .ok (.iconst 0, 1) := by decide +kernel
theorem dX5_distance_18 : decode cX5_distance 18 = .ok (.goto 4, 3) := by decide +kernel
theorem dX5_distance_21 : decode cX5_distance 21 = .ok (.iconst 1, 1) := by decide +kernel
theorem dX5_distance_22 : decode cX5_distance 22 = .ok (.putfield 44, 3) := by decide +kernel
theorem dX5_distance_25 : decode cX5_distance 25 = .ok (.iconst 0, 1) := by decide +kernel
theorem dX5_distance_26 : decode cX5_distance 26 = .ok (.istore_n 3, 1) := by decide +kernel
theorem dX5_distance_27 : decode cX5_distance 27 = .ok (.iconst 0, 1) := by decide +kernel
theorem dX5_distance_28 : decode cX5_distance 28 = .ok (.istore 4, 2) := by decide +kernel
theorem dX5_distance_30 : decode cX5_distance 30 = .ok (.iload 4, 2) := by decide +kernel
theorem dX5_distance_32 : decode cX5_distance 32 = .ok (.bipush 16, 2) := by decide +kernel
theorem dX5_distance_34 : decode cX5_distance 34 = .ok (.if_icmp .ge 46, 3) := by decide +kernel
theorem dX5_distance_37 : decode cX5_distance 37 = .ok (.aload_n 0, 1) := by decide +kernel
theorem dX5_distance_38 : decode cX5_distance 38 = .ok (.getfield 44, 3) := by decide +kernel
theorem dX5_distance_41 : decode cX5_distance 41 = .ok (.ifCond .ne 39, 3) := by decide +kernel
theorem dX5_distance_44 : decode cX5_distance 44 = .ok (.iload_n 3, 1) := by decide +kernel
theorem dX5_distance_45 : decode cX5_distance 45 = .ok (.aload_n 0, 1) := by decide +kernel
theorem dX5_distance_46 : decode cX5_distance 46 = .ok (.getfield 32, 3) := by decide +kernel
theorem dX5_distance_49 : decode cX5_distance 49 = .ok (.bipush 16, 2) := by decide +kernel
theorem dX5_distance_51 : decode cX5_distance 51 = .ok (.iload_n 1, 1) := by decide +kernel
theorem dX5_distance_52 : decode cX5_distance 52 = .ok (.imul, 1) := by decide +kernel
theorem dX5_distance_53 : decode cX5_distance 53 = .ok (.iload 4, 2) := by decide +kernel
theorem dX5_distance_55 : decode cX5_distance 55 = .ok (.iadd, 1) := by decide +kernel
theorem dX5_distance_56 : decode cX5_distance 56 = .ok (.iaload, 1) := by decide +kernel
theorem dX5_distance_57 : decode cX5_distance 57 = .ok (.aload_n 0, 1) := by decide +kernel
theorem dX5_distance_58 : decode cX5_distance 58 = .ok (.getfield 32, 3) := by decide +kernel
theorem dX5_distance_61 : decode cX5_distance 61 = .ok (.bipush 16, 2) := by decide +kernel
theorem dX5_distance_63 : decode cX5_distance 63 = .ok (.iload_n 2, 1) := by decide +kernel
theorem dX5_distance_64 : decode cX5_distance 64 = .ok (.imul, 1) := by decide +kernel
theorem dX5_distance_65 : decode cX5_distance 65 = .ok (.iload 4, 2) := by decide +kernel
theorem dX5_distance_67 : decode cX5_distance 67 = .ok (.iadd, 1) := by decide +kernel
theorem dX5_distance_68 : decode cX5_distance 68 = .ok (.iaload, 1) := by decide +kernel
theorem dX5_distance_69 : decode cX5_distance 69 = .ok (.invokestatic 116, 3) := by decide +kernel
theorem dX5_distance_72 : decode cX5_distance 72 = .ok (.iadd, 1) := by decide +kernel
theorem dX5_distance_73 : decode cX5_distance 73 = .ok (.istore_n 3, 1) := by decide +kernel
theorem dX5_distance_74 : decode cX5_distance 74 = .ok (.iinc 4 1, 3) := by decide +kernel
theorem dX5_distance_77 : decode cX5_distance 77 = .ok (.goto (-47), 3) := by decide +kernel
theorem dX5_distance_80 : decode cX5_distance 80 = .ok (.iload_n 3, 1) := by decide +kernel
theorem dX5_distance_81 : decode cX5_distance 81 = .ok (.ireturn, 1) := by decide +kernel
