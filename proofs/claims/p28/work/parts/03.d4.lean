theorem dX0_init_0 : decode cX0_init 0 = .ok (.aload_n 0, 1) := by decide +kernel
theorem dX0_init_1 : decode cX0_init 1 = .ok (.invokespecial 1, 3) := by decide +kernel
theorem dX0_init_4 : decode cX0_init 4 = .ok (.aload_n 0, 1) := by decide +kernel
theorem dX0_init_5 : decode cX0_init 5 = .ok (.aload_n 1, 1) := by decide +kernel
theorem dX0_init_6 : decode cX0_init 6 = .ok (.putfield 7, 3) := by decide +kernel
theorem dX0_init_9 : decode cX0_init 9 = .ok (.aload_n 0, 1) := by decide +kernel
theorem dX0_init_10 : decode cX0_init 10 = .ok (.aload_n 2, 1) := by decide +kernel
theorem dX0_init_11 : decode cX0_init 11 = .ok (.putfield 13, 3) := by decide +kernel
theorem dX0_init_14 : decode cX0_init 14 = .ok (.aload_n 0, 1) := by decide +kernel
theorem dX0_init_15 : decode cX0_init 15 = .ok (.aload_n 3, 1) := by decide +kernel
theorem dX0_init_16 : decode cX0_init 16 = .ok (.putfield 17, 3) := by decide +kernel
theorem dX0_init_19 : decode cX0_init 19 = .ok (.return_, 1) := by decide +kernel
theorem dX1_init_0 : decode cX1_init 0 = .ok (.aload_n 0, 1) := by decide +kernel
theorem dX1_init_1 : decode cX1_init 1 = .ok (.invokespecial 3, 3) := by decide +kernel
theorem dX1_init_4 : decode cX1_init 4 = .ok (.aload_n 0, 1) := by decide +kernel
theorem dX1_init_5 : decode cX1_init 5 = .ok (.aload_n 1, 1) := by decide +kernel
theorem dX1_init_6 : decode cX1_init 6 = .ok (.putfield 9, 3) := by decide +kernel
theorem dX1_init_9 : decode cX1_init 9 = .ok (.aload_n 0, 1) := by decide +kernel
theorem dX1_init_10 : decode cX1_init 10 = .ok (.aload_n 1, 1) := by decide +kernel
theorem dX1_init_11 : decode cX1_init 11 = .ok (.invokevirtual 15, 3) := by decide +kernel
theorem dX1_init_14 : decode cX1_init 14 = .ok (.checkcast 16, 3) := by decide +kernel
theorem dX1_init_17 : decode cX1_init 17 = .ok (.putfield 20, 3) := by decide +kernel
theorem dX1_init_20 : decode cX1_init 20 = .ok (.aload_n 0, 1) := by decide +kernel
theorem dX1_init_21 : decode cX1_init 21 = .ok (.new 23, 3) := by decide +kernel
theorem dX1_init_24 : decode cX1_init 24 = .ok (.dup, 1) := by decide +kernel
theorem dX1_init_25 : decode cX1_init 25 = .ok (.invokespecial 25, 3) := by decide +kernel
theorem dX1_init_28 : decode cX1_init 28 = .ok (.putfield 26, 3) := by decide +kernel
theorem dX1_init_31 : decode cX1_init 31 = .ok (.return_, 1) := by decide +kernel
theorem dX1_makeCoin_0 : decode cX1_makeCoin 0 = .ok (.aload_n 0, 1) := by decide +kernel
theorem dX1_makeCoin_1 : decode cX1_makeCoin 1 = .ok (.getfield 20, 3) := by decide +kernel
theorem dX1_makeCoin_4 : decode cX1_makeCoin 4 = .ok (.invokevirtual 15, 3) := by decide +kernel
theorem dX1_makeCoin_7 : decode cX1_makeCoin 7 = .ok (.checkcast 16, 3) := by decide +kernel
theorem dX1_makeCoin_10 : decode cX1_makeCoin 10 = .ok (.astore_n 1, 1) := by decide +kernel
theorem dX1_makeCoin_11 : decode cX1_makeCoin 11 = .ok (.new 30, 3) := by decide +kernel
theorem dX1_makeCoin_14 : decode cX1_makeCoin 14 = .ok (.dup, 1) := by decide +kernel
theorem dX1_makeCoin_15 : decode cX1_makeCoin 15 = .ok (.aload_n 0, 1) := by decide +kernel
theorem dX1_makeCoin_16 : decode cX1_makeCoin 16 = .ok (.aload_n 1, 1) := by decide +kernel
theorem dX1_makeCoin_17 : decode cX1_makeCoin 17 = .ok (.aload_n 1, 1) := by decide +kernel
theorem dX1_makeCoin_18 : decode cX1_makeCoin 18 = .ok (.invokespecial 32, 3) := by decide +kernel
theorem dX1_makeCoin_21 : decode cX1_makeCoin 21 = .ok (.astore_n 2, 1) := by decide +kernel
theorem dX1_makeCoin_22 : decode cX1_makeCoin 22 = .ok (.aload_n 0, 1) := by decide +kernel
theorem dX1_makeCoin_23 : decode cX1_makeCoin 23 = .ok (.getfield 26, 3) := by decide +kernel
theorem dX1_makeCoin_26 : decode cX1_makeCoin 26 = .ok (.aload_n 2, 1) := by decide +kernel
theorem dX1_makeCoin_27 : decode cX1_makeCoin 27 = .ok (.invokevirtual 35, 3) := by decide +kernel
theorem dX1_makeCoin_30 : decode cX1_makeCoin 30 = .ok (.pop, 1) := by decide +kernel
theorem dX1_makeCoin_31 : decode cX1_makeCoin 31 = .ok (.aload_n 0, 1) := by decide +kernel
theorem dX1_makeCoin_32 : decode cX1_makeCoin 32 = .ok (.getfield 26, 3) := by decide +kernel
theorem dX1_makeCoin_35 : decode cX1_makeCoin 35 = .ok (.invokevirtual 39, 3) := by decide +kernel
theorem dX1_makeCoin_38 : decode cX1_makeCoin 38 = .ok (.iconst 2, 1) := by decide +kernel
theorem dX1_makeCoin_39 : decode cX1_makeCoin 39 = .ok (.irem, 1) := by decide +kernel
theorem dX1_makeCoin_40 : decode cX1_makeCoin 40 = .ok (.ifCond .ne 7, 3) := by decide +kernel
theorem dX1_makeCoin_43 : decode cX1_makeCoin 43 = .ok (.aload_n 0, 1) := by decide +kernel
theorem dX1_makeCoin_44 : decode cX1_makeCoin 44 = .ok (.invokevirtual 43, 3) := by decide +kernel
theorem dX1_makeCoin_47 : decode cX1_makeCoin 47 = .ok (.aload_n 2, 1) := by decide +kernel
theorem dX1_makeCoin_48 : decode cX1_makeCoin 48 = .ok (.areturn, 1) := by decide +kernel
theorem dX1_wear_0 : decode cX1_wear 0 = .ok (.iconst 0, 1) := by decide +kernel
theorem dX1_wear_1 : decode cX1_wear 1 = .ok (.istore_n 1, 1) := by decide +kernel
theorem dX1_wear_2 : decode cX1_wear 2 = .ok (.iconst 1, 1) := by decide +kernel
theorem dX1_wear_3 : decode cX1_wear 3 = .ok (.istore_n 2, 1) := by decide +kernel
theorem dX1_wear_4 : decode cX1_wear 4 = .ok (.iload_n 2, 1) := by decide +kernel
theorem dX1_wear_5 : decode cX1_wear 5 = .ok (.bipush 16, 2) := by decide +kernel
theorem dX1_wear_7 : decode cX1_wear 7 = .ok (.if_icmp .ge 26, 3) := by decide +kernel
theorem dX1_wear_10 : decode cX1_wear 10 = .ok (.aload_n 0, 1) := by decide +kernel
theorem dX1_wear_11 : decode cX1_wear 11 = .ok (.getfield 20, 3) := by decide +kernel
theorem dX1_wear_14 : decode cX1_wear 14 = .ok (.iload_n 2, 1) := by decide +kernel
theorem dX1_wear_15 : decode cX1_wear 15 = .ok (.iaload, 1) := by decide +kernel
theorem dX1_wear_16 : decode cX1_wear 16 = .ok (.aload_n 0, 1) := by decide +kernel
theorem dX1_wear_17 : decode cX1_wear 17 = .ok (.getfield 20, 3) := by decide +kernel
theorem dX1_wear_20 : decode cX1_wear 20 = .ok (.iload_n 1, 1) := by decide +kernel
theorem dX1_wear_21 : decode cX1_wear 21 = .ok (.iaload, 1) := by decide +kernel
theorem dX1_wear_22 : decode cX1_wear 22 = .ok (.if_icmp .le 5, 3) := by decide +kernel
theorem dX1_wear_25 : decode cX1_wear 25 = .ok (.iload_n 2, 1) := by decide +kernel
theorem dX1_wear_26 : decode cX1_wear 26 = .ok (.istore_n 1, 1) := by decide +kernel
theorem dX1_wear_27 : decode cX1_wear 27 = .ok (.iinc 2 1, 3) := by decide +kernel
theorem dX1_wear_30 : decode cX1_wear 30 = .ok (.goto (-26), 3) := by decide +kernel
theorem dX1_wear_33 : decode cX1_wear 33 = .ok (.aload_n 0, 1) := by decide +kernel
theorem dX1_wear_34 : decode cX1_wear 34 = .ok (.getfield 20, 3) := by decide +kernel
theorem dX1_wear_37 : decode cX1_wear 37 = .ok (.iload_n 1, 1) := by decide +kernel
theorem dX1_wear_38 : decode cX1_wear 38 = .ok (.iaload, 1) := by decide +kernel
theorem dX1_wear_39 : decode cX1_wear 39 = .ok (.ifCond .le 13, 3) := by decide +kernel
theorem dX1_wear_42 : decode cX1_wear 42 = .ok (.aload_n 0, 1) := by decide +kernel
theorem dX1_wear_43 : decode cX1_wear 43 = .ok (.getfield 20, 3) := by decide +kernel
theorem dX1_wear_46 : decode cX1_wear 46 = .ok (.iload_n 1, 1) := by decide +kernel
theorem dX1_wear_47 : decode cX1_wear 47 = .ok (.dup2, 1) := by decide +kernel
theorem dX1_wear_48 : decode cX1_wear 48 = .ok (.iaload, 1) := by decide +kernel
theorem dX1_wear_49 : decode cX1_wear 49 = .ok (.iconst 1, 1) := by decide +kernel
theorem dX1_wear_50 : decode cX1_wear 50 = .ok (.isub, 1) := by decide +kernel
theorem dX1_wear_51 : decode cX1_wear 51 = .ok (.iastore, 1) := by decide +kernel
theorem dX1_wear_52 : decode cX1_wear 52 = .ok (.return_, 1) := by decide +kernel
theorem dX2_init_0 : decode cX2_init 0 = .ok (.aload_n 0, 1) := by decide +kernel
theorem dX2_init_1 : decode cX2_init 1 = .ok (.invokespecial 3, 3) := by decide +kernel
theorem dX2_init_4 : decode cX2_init 4 = .ok (.aload_n 0, 1) := by decide +kernel
theorem dX2_init_5 : decode cX2_init 5 = .ok (.sipush 128, 3) := by decide +kernel
theorem dX2_init_8 : decode cX2_init 8 = .ok (.newarray .int, 2) := by decide +kernel
theorem dX2_init_10 : decode cX2_init 10 = .ok (.putfield 9, 3) := by decide +kernel
theorem dX2_init_13 : decode cX2_init 13 = .ok (.aload_n 0, 1) := by decide +kernel
theorem dX2_init_14 : decode cX2_init 14 = .ok (.sipush 128, 3) := by decide +kernel
theorem dX2_init_17 : decode cX2_init 17 = .ok (.newarray .int, 2) := by decide +kernel
theorem dX2_init_19 : decode cX2_init 19 = .ok (.putfield 15, 3) := by decide +kernel
theorem dX2_init_22 : decode cX2_init 22 = .ok (.return_, 1) := by decide +kernel
theorem dX2_countPieces_0 : decode cX2_countPieces 0 = .ok (.aload_n 0, 1) := by decide +kernel
theorem dX2_countPieces_1 : decode cX2_countPieces 1 = .ok (.getfield 9, 3) := by decide +kernel
theorem dX2_countPieces_4 : decode cX2_countPieces 4 = .ok (.iconst 0, 1) := by decide +kernel
theorem dX2_countPieces_5 : decode cX2_countPieces 5 = .ok (.invokestatic 18, 3) := by decide +kernel
theorem dX2_countPieces_8 : decode cX2_countPieces 8 = .ok (.aload_n 0, 1) := by decide +kernel
theorem dX2_countPieces_9 : decode cX2_countPieces 9 = .ok (.iconst 0, 1) := by decide +kernel
theorem dX2_countPieces_10 : decode cX2_countPieces 10 = .ok (.putfield 24, 3) := by decide +kernel
theorem dX2_countPieces_13 : decode cX2_countPieces 13 = .ok (.iconst 0, 1) := by decide +kernel
theorem dX2_countPieces_14 : decode cX2_countPieces 14 = .ok (.istore_n 2, 1) := by decide +kernel
theorem dX2_countPieces_15 : decode cX2_countPieces 15 = .ok (.iconst 0, 1) := by decide +kernel
theorem dX2_countPieces_16 : decode cX2_countPieces 16 = .ok (.istore_n 3, 1) := by decide +kernel
theorem dX2_countPieces_17 : decode cX2_countPieces 17 = .ok (.iload_n 3, 1) := by decide +kernel
theorem dX2_countPieces_18 : decode cX2_countPieces 18 = .ok (.bipush 16, 2) := by decide +kernel
theorem dX2_countPieces_20 : decode cX2_countPieces 20 = .ok (.if_icmp .ge 58, 3) := by decide +kernel
theorem dX2_countPieces_23 : decode cX2_countPieces 23 = .ok (.iconst 0, 1) := by decide +kernel
theorem dX2_countPieces_24 : decode cX2_countPieces 24 = .ok (.istore 4, 2) := by decide +kernel
theorem dX2_countPieces_26 : decode cX2_countPieces 26 = .ok (.iload 4, 2) := by decide +kernel
theorem dX2_countPieces_28 : decode cX2_countPieces 28 = .ok (.bipush 8, 2) := by decide +kernel
theorem dX2_countPieces_30 : decode cX2_countPieces 30 = .ok (.if_icmp .ge 42, 3) := by decide +kernel
theorem dX2_countPieces_33 : decode cX2_countPieces 33 = .ok (.aload_n 0, 1) := by decide +kernel
theorem dX2_countPieces_34 : decode cX2_countPieces 34 = .ok (.getfield 24, 3) := by decide +kernel
theorem dX2_countPieces_37 : decode cX2_countPieces 37 = .ok (.istore 5, 2) := by decide +kernel
theorem dX2_countPieces_39 : decode cX2_countPieces 39 = .ok (.aload_n 0, 1) := by decide +kernel
theorem dX2_countPieces_40 : decode cX2_countPieces 40 = .ok (.aload_n 1, 1) := by decide +kernel
theorem dX2_countPieces_41 : decode cX2_countPieces 41 = .ok (.iload_n 3, 1) := by decide +kernel
theorem dX2_countPieces_42 : decode cX2_countPieces 42 = .ok (.iload 4, 2) := by decide +kernel
theorem dX2_countPieces_44 : decode cX2_countPieces 44 = .ok (.invokevirtual 28, 3) := by decide +kernel
theorem dX2_countPieces_47 : decode cX2_countPieces 47 = .ok (.aload_n 0, 1) := by decide +kernel
theorem dX2_countPieces_48 : decode cX2_countPieces 48 = .ok (.getfield 24, 3) := by decide +kernel
theorem dX2_countPieces_51 : decode cX2_countPieces 51 = .ok (.iload 5, 2) := by decide +kernel
theorem dX2_countPieces_53 : decode cX2_countPieces 53 = .ok (.if_icmp .le 13, 3) := by decide +kernel
theorem dX2_countPieces_56 : decode cX2_countPieces 56 = .ok (.iinc 2 1, 3) := by decide +kernel
theorem dX2_countPieces_59 : decode cX2_countPieces 59 = .ok (.aload_n 0, 1) := by decide +kernel
theorem dX2_countPieces_60 : decode cX2_countPieces 60 = .ok (.aload_n 1, 1) := by decide +kernel
theorem dX2_countPieces_61 : decode cX2_countPieces 61 = .ok (.iload 5, 2) := by decide +kernel
theorem dX2_countPieces_63 : decode cX2_countPieces 63 = .ok (.invokevirtual 32, 3) := by decide +kernel
theorem dX2_countPieces_66 : decode cX2_countPieces 66 = .ok (.iinc 4 1, 3) := by decide +kernel
theorem dX2_countPieces_69 : decode cX2_countPieces 69 = .ok (.goto (-43), 3) := by decide +kernel
theorem dX2_countPieces_72 : decode cX2_countPieces 72 = .ok (.iinc 3 1, 3) := by decide +kernel
theorem dX2_countPieces_75 : decode cX2_countPieces 75 = .ok (.goto (-58), 3) := by decide +kernel
theorem dX2_countPieces_78 : decode cX2_countPieces 78 = .ok (.iload_n 2, 1) := by decide +kernel
theorem dX2_countPieces_79 : decode cX2_countPieces 79 = .ok (.ireturn, 1) := by decide +kernel
theorem dX2_reachRestOfPiece_0 : decode cX2_reachRestOfPiece 0 = .ok (.iload_n 2, 1) := by decide +kernel
theorem dX2_reachRestOfPiece_1 : decode cX2_reachRestOfPiece 1 = .ok (.istore_n 3, 1) := by decide +kernel
theorem dX2_reachRestOfPiece_2 : decode cX2_reachRestOfPiece 2 = .ok (.iload_n 3, 1) := by decide +kernel
theorem dX2_reachRestOfPiece_3 : decode cX2_reachRestOfPiece 3 = .ok (.aload_n 0, 1) := by decide +kernel
theorem dX2_reachRestOfPiece_4 : decode cX2_reachRestOfPiece 4 = .ok (.getfield 24, 3) := by decide +kernel
theorem dX2_reachRestOfPiece_7 : decode cX2_reachRestOfPiece 7 = .ok (.if_icmp .ge 39, 3) := by decide +kernel
theorem dX2_reachRestOfPiece_10 : decode cX2_reachRestOfPiece 10 = .ok (.iload_n 3, 1) := by decide +kernel
theorem dX2_reachRestOfPiece_11 : decode cX2_reachRestOfPiece 11 = .ok (.sipush 128, 3) := by decide +kernel
theorem dX2_reachRestOfPiece_14 : decode cX2_reachRestOfPiece 14 = .ok (.if_icmp .ge 32, 3) := by decide +kernel
theorem dX2_reachRestOfPiece_17 : decode cX2_reachRestOfPiece 17 = .ok (.aload_n 0, 1) := by decide +kernel
theorem dX2_reachRestOfPiece_18 : decode cX2_reachRestOfPiece 18 = .ok (.aload_n 1, 1) := by decide +kernel
theorem dX2_reachRestOfPiece_19 : decode cX2_reachRestOfPiece 19 = .ok (.aload_n 0, 1) := by decide +kernel
theorem dX2_reachRestOfPiece_20 : decode cX2_reachRestOfPiece 20 = .ok (.getfield 15, 3) := by decide +kernel
theorem dX2_reachRestOfPiece_23 : decode cX2_reachRestOfPiece 23 = .ok (.iload_n 3, 1) := by decide +kernel
theorem dX2_reachRestOfPiece_24 : decode cX2_reachRestOfPiece 24 = .ok (.iaload, 1) := by decide +kernel
theorem dX2_reachRestOfPiece_25 : decode cX2_reachRestOfPiece 25 = .ok (.bipush 8, 2) := by decide +kernel
theorem dX2_reachRestOfPiece_27 : decode cX2_reachRestOfPiece 27 = .ok (.idiv, 1) := by decide +kernel
theorem dX2_reachRestOfPiece_28 : decode cX2_reachRestOfPiece 28 = .ok (.aload_n 0, 1) := by decide +kernel
theorem dX2_reachRestOfPiece_29 : decode cX2_reachRestOfPiece 29 = .ok (.getfield 15, 3) := by decide +kernel
theorem dX2_reachRestOfPiece_32 : decode cX2_reachRestOfPiece 32 = .ok (.iload_n 3, 1) := by decide +kernel
theorem dX2_reachRestOfPiece_33 : decode cX2_reachRestOfPiece 33 = .ok (.iaload, 1) := by decide +kernel
theorem dX2_reachRestOfPiece_34 : decode cX2_reachRestOfPiece 34 = .ok (.bipush 8, 2) := by decide +kernel
theorem dX2_reachRestOfPiece_36 : decode cX2_reachRestOfPiece 36 = .ok (.irem, 1) := by decide +kernel
theorem dX2_reachRestOfPiece_37 : decode cX2_reachRestOfPiece 37 = .ok (.invokevirtual 36, 3) := by decide +kernel
theorem dX2_reachRestOfPiece_40 : decode cX2_reachRestOfPiece 40 = .ok (.iinc 3 1, 3) := by decide +kernel
theorem dX2_reachRestOfPiece_43 : decode cX2_reachRestOfPiece 43 = .ok (.goto (-41), 3) := by decide +kernel
theorem dX2_reachRestOfPiece_46 : decode cX2_reachRestOfPiece 46 = .ok (.return_, 1) := by decide +kernel
theorem dX2_reachTouching_0 : decode cX2_reachTouching 0 = .ok (.aload_n 0, 1) := by decide +kernel
theorem dX2_reachTouching_1 : decode cX2_reachTouching 1 = .ok (.aload_n 1, 1) := by decide +kernel
theorem dX2_reachTouching_2 : decode cX2_reachTouching 2 = .ok (.iload_n 2, 1) := by decide +kernel
theorem dX2_reachTouching_3 : decode cX2_reachTouching 3 = .ok (.iload_n 3, 1) := by decide +kernel
theorem dX2_reachTouching_4 : decode cX2_reachTouching 4 = .ok (.iconst 1, 1) := by decide +kernel
theorem dX2_reachTouching_5 : decode cX2_reachTouching 5 = .ok (.isub, 1) := by decide +kernel
theorem dX2_reachTouching_6 : decode cX2_reachTouching 6 = .ok (.invokevirtual 28, 3) := by decide +kernel
theorem dX2_reachTouching_9 : decode cX2_reachTouching 9 = .ok (.aload_n 0, 1) := by decide +kernel
theorem dX2_reachTouching_10 : decode cX2_reachTouching 10 = .ok (.aload_n 1, 1) := by decide +kernel
theorem dX2_reachTouching_11 : decode cX2_reachTouching 11 = .ok (.iload_n 2, 1) := by decide +kernel
theorem dX2_reachTouching_12 : decode cX2_reachTouching 12 = .ok (.iload_n 3, 1) := by decide +kernel
theorem dX2_reachTouching_13 : decode cX2_reachTouching 13 = .ok (.iconst 1, 1) := by decide +kernel
theorem dX2_reachTouching_14 : decode cX2_reachTouching 14 = .ok (.iadd, 1) := by decide +kernel
theorem dX2_reachTouching_15 : decode cX2_reachTouching 15 = .ok (.invokevirtual 28, 3) := by decide +kernel
theorem dX2_reachTouching_18 : decode cX2_reachTouching 18 = .ok (.aload_n 0, 1) := by decide +kernel
theorem dX2_reachTouching_19 : decode cX2_reachTouching 19 = .ok (.aload_n 1, 1) := by decide +kernel
theorem dX2_reachTouching_20 : decode cX2_reachTouching 20 = .ok (.iload_n 2, 1) := by decide +kernel
theorem dX2_reachTouching_21 : decode cX2_reachTouching 21 = .ok (.iconst 4, 1) := by decide +kernel
theorem dX2_reachTouching_22 : decode cX2_reachTouching 22 = .ok (.isub, 1) := by decide +kernel
theorem dX2_reachTouching_23 : decode cX2_reachTouching 23 = .ok (.iload_n 3, 1) := by decide +kernel
theorem dX2_reachTouching_24 : decode cX2_reachTouching 24 = .ok (.invokevirtual 28, 3) := by decide +kernel
theorem dX2_reachTouching_27 : decode cX2_reachTouching 27 = .ok (.aload_n 0, 1) := by decide +kernel
theorem dX2_reachTouching_28 : decode cX2_reachTouching 28 = .ok (.aload_n 1, 1) := by decide +kernel
theorem dX2_reachTouching_29 : decode cX2_reachTouching 29 = .ok (.iload_n 2, 1) := by decide +kernel
theorem dX2_reachTouching_30 : decode cX2_reachTouching 30 = .ok (.iconst 4, 1) := by decide +kernel
theorem dX2_reachTouching_31 : decode cX2_reachTouching 31 = .ok (.iadd, 1) := by decide +kernel
theorem dX2_reachTouching_32 : decode cX2_reachTouching 32 = .ok (.iload_n 3, 1) := by decide +kernel
theorem dX2_reachTouching_33 : decode cX2_reachTouching 33 = .ok (.invokevirtual 28, 3) := by decide +kernel
theorem dX2_reachTouching_36 : decode cX2_reachTouching 36 = .ok (.iload_n 2, 1) := by decide +kernel
theorem dX2_reachTouching_37 : decode cX2_reachTouching 37 = .ok (.iconst 4, 1) := by decide +kernel
theorem dX2_reachTouching_38 : decode cX2_reachTouching 38 = .ok (.irem, 1) := by decide +kernel
theorem dX2_reachTouching_39 : decode cX2_reachTouching 39 = .ok (.ifCond .le 12, 3) := by decide +kernel
theorem dX2_reachTouching_42 : decode cX2_reachTouching 42 = .ok (.aload_n 0, 1) := by decide +kernel
theorem dX2_reachTouching_43 : decode cX2_reachTouching 43 = .ok (.aload_n 1, 1) := by decide +kernel
theorem dX2_reachTouching_44 : decode cX2_reachTouching 44 = .ok (.iload_n 2, 1) := by decide +kernel
theorem dX2_reachTouching_45 : decode cX2_reachTouching 45 = .ok (.iconst 1, 1) := by decide +kernel
theorem dX2_reachTouching_46 : decode cX2_reachTouching 46 = .ok (.isub, 1) := by decide +kernel
theorem dX2_reachTouching_47 : decode cX2_reachTouching 47 = .ok (.iload_n 3, 1) := by decide +kernel
theorem dX2_reachTouching_48 : decode cX2_reachTouching 48 = .ok (.invokevirtual 28, 3) := by decide +kernel
theorem dX2_reachTouching_51 : decode cX2_reachTouching 51 = .ok (.iload_n 2, 1) := by decide +kernel
theorem dX2_reachTouching_52 : decode cX2_reachTouching 52 = .ok (.iconst 4, 1) := by decide +kernel
theorem dX2_reachTouching_53 : decode cX2_reachTouching 53 = .ok (.irem, 1) := by decide +kernel
theorem dX2_reachTouching_54 : decode cX2_reachTouching 54 = .ok (.iconst 3, 1) := by decide +kernel
theorem dX2_reachTouching_55 : decode cX2_reachTouching 55 = .ok (.if_icmp .ge 12, 3) := by decide +kernel
theorem dX2_reachTouching_58 : decode cX2_reachTouching 58 = .ok (.aload_n 0, 1) := by decide +kernel
theorem dX2_reachTouching_59 : decode cX2_reachTouching 59 = .ok (.aload_n 1, 1) := by decide +kernel
theorem dX2_reachTouching_60 : decode cX2_reachTouching 60 = .ok (.iload_n 2, 1) := by decide +kernel
theorem dX2_reachTouching_61 : decode cX2_reachTouching 61 = .ok (.iconst 1, 1) := by decide +kernel
theorem dX2_reachTouching_62 : decode cX2_reachTouching 62 = .ok (.iadd, 1) := by decide +kernel
theorem dX2_reachTouching_63 : decode cX2_reachTouching 63 = .ok (.iload_n 3, 1) := by decide +kernel
theorem dX2_reachTouching_64 : decode cX2_reachTouching 64 = .ok (.invokevirtual 28, 3) := by decide +kernel
theorem dX2_reachTouching_67 : decode cX2_reachTouching 67 = .ok (.return_, 1) := by decide +kernel
theorem dX2_reach_0 : decode cX2_reach 0 = .ok (.iload_n 2, 1) := by decide +kernel
theorem dX2_reach_1 : decode cX2_reach 1 = .ok (.invokestatic 39, 3) := by decide +kernel
theorem dX2_reach_4 : decode cX2_reach 4 = .ok (.ifCond .eq 19, 3) := by decide +kernel
theorem dX2_reach_7 : decode cX2_reach 7 = .ok (.iload_n 3, 1) := by decide +kernel
theorem dX2_reach_8 : decode cX2_reach 8 = .ok (.invokestatic 43, 3) := by decide +kernel
theorem dX2_reach_11 : decode cX2_reach 11 = .ok (.ifCond .eq 12, 3) := by decide +kernel
theorem dX2_reach_14 : decode cX2_reach 14 = .ok (.aload_n 1, 1) := by decide +kernel
theorem dX2_reach_15 : decode cX2_reach 15 = .ok (.iload_n 2, 1) := by decide +kernel
theorem dX2_reach_16 : decode cX2_reach 16 = .ok (.iload_n 3, 1) := by decide +kernel
theorem dX2_reach_17 : decode cX2_reach 17 = .ok (.invokevirtual 46, 3) := by decide +kernel
theorem dX2_reach_20 : decode cX2_reach 20 = .ok (.ifCond .ne 4, 3) := by decide +kernel
theorem dX2_reach_23 : decode cX2_reach 23 = .ok (.return_, 1) := by decide +kernel
theorem dX2_reach_24 : decode cX2_reach 24 = .ok (.iload_n 2, 1) := by decide +kernel
theorem dX2_reach_25 : decode cX2_reach 25 = .ok (.bipush 8, 2) := by decide +kernel
theorem dX2_reach_27 : decode cX2_reach 27 = .ok (.imul, 1) := by decide +kernel
theorem dX2_reach_28 : decode cX2_reach 28 = .ok (.iload_n 3, 1) := by decide +kernel
theorem dX2_reach_29 : decode cX2_reach 29 = .ok (.iadd, 1) := by decide +kernel
theorem dX2_reach_30 : decode cX2_reach 30 = .ok (.istore 4, 2) := by decide +kernel
theorem dX2_reach_32 : decode cX2_reach 32 = .ok (.aload_n 0, 1) := by decide +kernel
theorem dX2_reach_33 : decode cX2_reach 33 = .ok (.getfield 9, 3) := by decide +kernel
theorem dX2_reach_36 : decode cX2_reach 36 = .ok (.iload 4, 2) := by decide +kernel
theorem dX2_reach_38 : decode cX2_reach 38 = .ok (.iaload, 1) := by decide +kernel
theorem dX2_reach_39 : decode cX2_reach 39 = .ok (.ifCond .ne 42, 3) := by decide +kernel
theorem dX2_reach_42 : decode cX2_reach 42 = .ok (.aload_n 0, 1) := by decide +kernel
theorem dX2_reach_43 : decode cX2_reach 43 = .ok (.getfield 24, 3) := by decide +kernel
theorem dX2_reach_46 : decode cX2_reach 46 = .ok (.sipush 128, 3) := by decide +kernel
theorem dX2_reach_49 : decode cX2_reach 49 = .ok (.if_icmp .ge 32, 3) := by decide +kernel
theorem dX2_reach_52 : decode cX2_reach 52 = .ok (.aload_n 0, 1) := by decide +kernel
theorem dX2_reach_53 : decode cX2_reach 53 = .ok (.getfield 9, 3) := by decide +kernel
theorem dX2_reach_56 : decode cX2_reach 56 = .ok (.iload 4, 2) := by decide +kernel
theorem dX2_reach_58 : decode cX2_reach 58 = .ok (.iconst 1, 1) := by decide +kernel
theorem dX2_reach_59 : decode cX2_reach 59 = .ok (.iastore, 1) := by decide +kernel
theorem dX2_reach_60 : decode cX2_reach 60 = .ok (.aload_n 0, 1) := by decide +kernel
theorem dX2_reach_61 : decode cX2_reach 61 = .ok (.getfield 15, 3) := by decide +kernel
theorem dX2_reach_64 : decode cX2_reach 64 = .ok (.aload_n 0, 1) := by decide +kernel
theorem dX2_reach_65 : decode cX2_reach 65 = .ok (.getfield 24, 3) := by decide +kernel
theorem dX2_reach_68 : decode cX2_reach 68 = .ok (.iload 4, 2) := by decide +kernel
theorem dX2_reach_70 : decode cX2_reach 70 = .ok (.iastore, 1) := by decide +kernel
theorem dX2_reach_71 : decode cX2_reach 71 = .ok (.aload_n 0, 1) := by decide +kernel
theorem dX2_reach_72 : decode cX2_reach 72 = .ok (.dup, 1) := by decide +kernel
theorem dX2_reach_73 : decode cX2_reach 73 = .ok (.getfield 24, 3) := by decide +kernel
theorem dX2_reach_76 : decode cX2_reach 76 = .ok (.iconst 1, 1) := by decide +kernel
theorem dX2_reach_77 : decode cX2_reach 77 = .ok (.iadd, 1) := by decide +kernel
theorem dX2_reach_78 : decode cX2_reach 78 = .ok (.putfield 24, 3) := by decide +kernel
theorem dX2_reach_81 : decode cX2_reach 81 = .ok (.return_, 1) := by decide +kernel
theorem dX3_init_0 : decode cX3_init 0 = .ok (.aload_n 0, 1) := by decide +kernel
theorem dX3_init_1 : decode cX3_init 1 = .ok (.invokespecial 3, 3) := by decide +kernel
theorem dX3_init_4 : decode cX3_init 4 = .ok (.aload_n 0, 1) := by decide +kernel
theorem dX3_init_5 : decode cX3_init 5 = .ok (.iload_n 1, 1) := by decide +kernel
theorem dX3_init_6 : decode cX3_init 6 = .ok (.putfield 9, 3) := by decide +kernel
theorem dX3_init_9 : decode cX3_init 9 = .ok (.aload_n 0, 1) := by decide +kernel
theorem dX3_init_10 : decode cX3_init 10 = .ok (.aload_n 2, 1) := by decide +kernel
theorem dX3_init_11 : decode cX3_init 11 = .ok (.putfield 15, 3) := by decide +kernel
theorem dX3_init_14 : decode cX3_init 14 = .ok (.aload_n 0, 1) := by decide +kernel
theorem dX3_init_15 : decode cX3_init 15 = .ok (.aload_n 3, 1) := by decide +kernel
theorem dX3_init_16 : decode cX3_init 16 = .ok (.putfield 19, 3) := by decide +kernel
theorem dX3_init_19 : decode cX3_init 19 = .ok (.return_, 1) := by decide +kernel
theorem dX3_kindAt_0 : decode cX3_kindAt 0 = .ok (.iload_n 1, 1) := by decide +kernel
theorem dX3_kindAt_1 : decode cX3_kindAt 1 = .ok (.invokestatic 23, 3) := by decide +kernel
theorem dX3_kindAt_4 : decode cX3_kindAt 4 = .ok (.ifCond .eq 10, 3) := by decide +kernel
theorem dX3_kindAt_7 : decode cX3_kindAt 7 = .ok (.iload_n 2, 1) := by decide +kernel
theorem dX3_kindAt_8 : decode cX3_kindAt 8 = .ok (.invokestatic 27, 3) := by decide +kernel
theorem dX3_kindAt_11 : decode cX3_kindAt 11 = .ok (.ifCond .ne 5, 3) := by decide +kernel
theorem dX3_kindAt_14 : decode cX3_kindAt 14 = .ok (.iconst 0, 1) := by decide +kernel
theorem dX3_kindAt_15 : decode cX3_kindAt 15 = .ok (.ireturn, 1) := by decide +kernel
theorem dX3_kindAt_16 : decode cX3_kindAt 16 = .ok (.aload_n 0, 1) := by decide +kernel
theorem dX3_kindAt_17 : decode cX3_kindAt 17 = .ok (.getfield 19, 3) := by decide +kernel
theorem dX3_kindAt_20 : decode cX3_kindAt 20 = .ok (.iload_n 1, 1) := by decide +kernel
theorem dX3_kindAt_21 : decode cX3_kindAt 21 = .ok (.bipush 8, 2) := by decide +kernel
theorem dX3_kindAt_23 : decode cX3_kindAt 23 = .ok (.imul, 1) := by decide +kernel
theorem dX3_kindAt_24 : decode cX3_kindAt 24 = .ok (.iload_n 2, 1) := by decide +kernel
theorem dX3_kindAt_25 : decode cX3_kindAt 25 = .ok (.iadd, 1) := by decide +kernel
theorem dX3_kindAt_26 : decode cX3_kindAt 26 = .ok (.iaload, 1) := by decide +kernel
theorem dX3_kindAt_27 : decode cX3_kindAt 27 = .ok (.ireturn, 1) := by decide +kernel
theorem dX3_put_0 : decode cX3_put 0 = .ok (.iload_n 1, 1) := by decide +kernel
theorem dX3_put_1 : decode cX3_put 1 = .ok (.invokestatic 23, 3) := by decide +kernel
theorem dX3_put_4 : decode cX3_put 4 = .ok (.ifCond .eq 22, 3) := by decide +kernel
theorem dX3_put_7 : decode cX3_put 7 = .ok (.iload_n 2, 1) := by decide +kernel
theorem dX3_put_8 : decode cX3_put 8 = .ok (.invokestatic 27, 3) := by decide +kernel
theorem dX3_put_11 : decode cX3_put 11 = .ok (.ifCond .eq 15, 3) := by decide +kernel
theorem dX3_put_14 : decode cX3_put 14 = .ok (.aload_n 0, 1) := by decide +kernel
theorem dX3_put_15 : decode cX3_put 15 = .ok (.getfield 19, 3) := by decide +kernel
theorem dX3_put_18 : decode cX3_put 18 = .ok (.iload_n 1, 1) := by decide +kernel
theorem dX3_put_19 : decode cX3_put 19 = .ok (.bipush 8, 2) := by decide +kernel
theorem dX3_put_21 : decode cX3_put 21 = .ok (.imul, 1) := by decide +kernel
theorem dX3_put_22 : decode cX3_put 22 = .ok (.iload_n 2, 1) := by decide +kernel
theorem dX3_put_23 : decode cX3_put 23 = .ok (.iadd, 1) := by decide +kernel
theorem dX3_put_24 : decode cX3_put 24 = .ok (.iload_n 3, 1) := by decide +kernel
theorem dX3_put_25 : decode cX3_put 25 = .ok (.iastore, 1) := by decide +kernel
theorem dX3_put_26 : decode cX3_put 26 = .ok (.return_, 1) := by decide +kernel
theorem dX3_endsRun_0 : decode cX3_endsRun 0 = .ok (.iload_n 2, 1) := by decide +kernel
theorem dX3_endsRun_1 : decode cX3_endsRun 1 = .ok (.bipush 7, 2) := by decide +kernel
theorem dX3_endsRun_3 : decode cX3_endsRun 3 = .ok (.if_icmp .eq 20, 3) := by decide +kernel
theorem dX3_endsRun_6 : decode cX3_endsRun 6 = .ok (.aload_n 0, 1) := by decide +kernel
theorem dX3_endsRun_7 : decode cX3_endsRun 7 = .ok (.iload_n 1, 1) := by decide +kernel
theorem dX3_endsRun_8 : decode cX3_endsRun 8 = .ok (.iload_n 2, 1) := by decide +kernel
theorem dX3_endsRun_9 : decode cX3_endsRun 9 = .ok (.invokevirtual 30, 3) := by decide +kernel
theorem dX3_endsRun_12 : decode cX3_endsRun 12 = .ok (.aload_n 0, 1) := by decide +kernel
theorem dX3_endsRun_13 : decode cX3_endsRun 13 = .ok (.iload_n 1, 1) := by decide +kernel
theorem dX3_endsRun_14 : decode cX3_endsRun 14 = .ok (.iload_n 2, 1) := by decide +kernel
theorem dX3_endsRun_15 : decode cX3_endsRun 15 = .ok (.iconst 1, 1) := by decide +kernel
theorem dX3_endsRun_16 : decode cX3_endsRun 16 = .ok (.iadd, 1) := by decide +kernel
theorem dX3_endsRun_17 : decode cX3_endsRun 17 = .ok (.invokevirtual 30, 3) := by decide +kernel
theorem dX3_endsRun_20 : decode cX3_endsRun 20 = .ok (.if_icmp .eq 7, 3) := by decide +kernel
theorem dX3_endsRun_23 : decode cX3_endsRun 23 = .ok (.iconst 1, 1) := by decide +kernel
theorem dX3_endsRun_24 : decode cX3_endsRun 24 = .ok (.goto 4, 3) := by decide +kernel
theorem dX3_endsRun_27 : decode cX3_endsRun 27 = .ok (.iconst 0, 1) := by decide +kernel
theorem dX3_endsRun_28 : decode cX3_endsRun 28 = .ok (.ireturn, 1) := by decide +kernel
theorem dX3_countRuns_0 : decode cX3_countRuns 0 = .ok (.iconst 0, 1) := by decide +kernel
theorem dX3_countRuns_1 : decode cX3_countRuns 1 = .ok (.istore_n 2, 1) := by decide +kernel
theorem dX3_countRuns_2 : decode cX3_countRuns 2 = .ok (.iconst 0, 1) := by decide +kernel
theorem dX3_countRuns_3 : decode cX3_countRuns 3 = .ok (.istore_n 3, 1) := by decide +kernel
theorem dX3_countRuns_4 : decode cX3_countRuns 4 = .ok (.iload_n 3, 1) := by decide +kernel
theorem dX3_countRuns_5 : decode cX3_countRuns 5 = .ok (.bipush 8, 2) := by decide +kernel
theorem dX3_countRuns_7 : decode cX3_countRuns 7 = .ok (.if_icmp .ge 21, 3) := by decide +kernel
theorem dX3_countRuns_10 : decode cX3_countRuns 10 = .ok (.aload_n 0, 1) := by decide +kernel
theorem dX3_countRuns_11 : decode cX3_countRuns 11 = .ok (.iload_n 1, 1) := by decide +kernel
theorem dX3_countRuns_12 : decode cX3_countRuns 12 = .ok (.iload_n 3, 1) := by decide +kernel
theorem dX3_countRuns_13 : decode cX3_countRuns 13 = .ok (.invokevirtual 34, 3) := by decide +kernel
theorem dX3_countRuns_16 : decode cX3_countRuns 16 = .ok (.ifCond .eq 6, 3) := by decide +kernel
theorem dX3_countRuns_19 : decode cX3_countRuns 19 = .ok (.iinc 2 1, 3) := by decide +kernel
theorem dX3_countRuns_22 : decode cX3_countRuns 22 = .ok (.iinc 3 1, 3) := by decide +kernel
theorem dX3_countRuns_25 : decode cX3_countRuns 25 = .ok (.goto (-21), 3) := by decide +kernel
theorem dX3_countRuns_28 : decode cX3_countRuns 28 = .ok (.iload_n 2, 1) := by decide +kernel
theorem dX3_countRuns_29 : decode cX3_countRuns 29 = .ok (.ireturn, 1) := by decide +kernel
theorem dX3_lengthOfRun_0 : decode cX3_lengthOfRun 0 = .ok (.iconst 0, 1) := by decide +kernel
theorem dX3_lengthOfRun_1 : decode cX3_lengthOfRun 1 = .ok (.istore_n 3, 1) := by decide +kernel
theorem dX3_lengthOfRun_2 : decode cX3_lengthOfRun 2 = .ok (.iconst 0, 1) := by decide +kernel
theorem dX3_lengthOfRun_3 : decode cX3_lengthOfRun 3 = .ok (.istore 4, 2) := by decide +kernel
theorem dX3_lengthOfRun_5 : decode cX3_lengthOfRun 5 = .ok (.iconst 0, 1) := by decide +kernel
theorem dX3_lengthOfRun_6 : decode cX3_lengthOfRun 6 = .ok (.istore 5, 2) := by decide +kernel
theorem dX3_lengthOfRun_8 : decode cX3_lengthOfRun 8 = .ok (.iload 5, 2) := by decide +kernel
theorem dX3_lengthOfRun_10 : decode cX3_lengthOfRun 10 = .ok (.bipush 8, 2) := by decide +kernel
theorem dX3_lengthOfRun_12 : decode cX3_lengthOfRun 12 = .ok (.if_icmp .ge 30, 3) := by decide +kernel
theorem dX3_lengthOfRun_15 : decode cX3_lengthOfRun 15 = .ok (.iload_n 3, 1) := by decide +kernel
theorem dX3_lengthOfRun_16 : decode cX3_lengthOfRun 16 = .ok (.iload_n 2, 1) := by decide +kernel
theorem dX3_lengthOfRun_17 : decode cX3_lengthOfRun 17 = .ok (.if_icmp .ne 6, 3) := by decide +kernel
theorem dX3_lengthOfRun_20 : decode cX3_lengthOfRun 20 = .ok (.iinc 4 1, 3) := by decide +kernel
theorem dX3_lengthOfRun_23 : decode cX3_lengthOfRun 23 = .ok (.aload_n 0, 1) := by decide +kernel
theorem dX3_lengthOfRun_24 : decode cX3_lengthOfRun 24 = .ok (.iload_n 1, 1) := by decide +kernel
theorem dX3_lengthOfRun_25 : decode cX3_lengthOfRun 25 = .ok (.iload 5, 2) := by decide +kernel
theorem dX3_lengthOfRun_27 : decode cX3_lengthOfRun 27 = .ok (.invokevirtual 34, 3) := by decide +kernel
theorem dX3_lengthOfRun_30 : decode cX3_lengthOfRun 30 = .ok (.ifCond .eq 6, 3) := by decide +kernel
theorem dX3_lengthOfRun_33 : decode cX3_lengthOfRun 33 = .ok (.iinc 3 1, 3) := by decide +kernel
theorem dX3_lengthOfRun_36 : decode cX3_lengthOfRun 36 = .ok (.iinc 5 1, 3) := by decide +kernel
theorem dX3_lengthOfRun_39 : decode cX3_lengthOfRun 39 = .ok (.goto (-31), 3) := by decide +kernel
theorem dX3_lengthOfRun_42 : decode cX3_lengthOfRun 42 = .ok (.iload 4, 2) := by decide +kernel
theorem dX3_lengthOfRun_44 : decode cX3_lengthOfRun 44 = .ok (.ireturn, 1) := by decide +kernel
theorem dX3_countBlocksByRuns_0 : decode cX3_countBlocksByRuns 0 = .ok (.iconst 0, 1) := by decide +kernel
theorem dX3_countBlocksByRuns_1 : decode cX3_countBlocksByRuns 1 = .ok (.istore_n 2, 1) := by decide +kernel
theorem dX3_countBlocksByRuns_2 : decode cX3_countBlocksByRuns 2 = .ok (.iconst 0, 1) := by decide +kernel
theorem dX3_countBlocksByRuns_3 : decode cX3_countBlocksByRuns 3 = .ok (.istore_n 3, 1) := by decide +kernel
theorem dX3_countBlocksByRuns_4 : decode cX3_countBlocksByRuns 4 = .ok (.iconst 0, 1) := by decide +kernel
theorem dX3_countBlocksByRuns_5 : decode cX3_countBlocksByRuns 5 = .ok (.istore 4, 2) := by decide +kernel
theorem dX3_countBlocksByRuns_7 : decode cX3_countBlocksByRuns 7 = .ok (.iload 4, 2) := by decide +kernel
theorem dX3_countBlocksByRuns_9 : decode cX3_countBlocksByRuns 9 = .ok (.bipush 8, 2) := by decide +kernel
theorem dX3_countBlocksByRuns_11 : decode cX3_countBlocksByRuns 11 = .ok (.if_icmp .ge 38, 3) := by decide +kernel
theorem dX3_countBlocksByRuns_14 : decode cX3_countBlocksByRuns 14 = .ok (.iinc 3 1, 3) := by decide +kernel
theorem dX3_countBlocksByRuns_17 : decode cX3_countBlocksByRuns 17 = .ok (.aload_n 0, 1) := by decide +kernel
theorem dX3_countBlocksByRuns_18 : decode cX3_countBlocksByRuns 18 = .ok (.iload_n 1, 1) := by decide +kernel
theorem dX3_countBlocksByRuns_19 : decode cX3_countBlocksByRuns 19 = .ok (.iload 4, 2) := by decide +kernel
theorem dX3_countBlocksByRuns_21 : decode cX3_countBlocksByRuns 21 = .ok (.invokevirtual 34, 3) := by decide +kernel
theorem dX3_countBlocksByRuns_24 : decode cX3_countBlocksByRuns 24 = .ok (.ifCond .eq 19, 3) := by decide +kernel
theorem dX3_countBlocksByRuns_27 : decode cX3_countBlocksByRuns 27 = .ok (.aload_n 0, 1) := by decide +kernel
theorem dX3_countBlocksByRuns_28 : decode cX3_countBlocksByRuns 28 = .ok (.iload_n 1, 1) := by decide +kernel
theorem dX3_countBlocksByRuns_29 : decode cX3_countBlocksByRuns 29 = .ok (.iload 4, 2) := by decide +kernel
theorem dX3_countBlocksByRuns_31 : decode cX3_countBlocksByRuns 31 = .ok (.invokevirtual 30, 3) := by decide +kernel
theorem dX3_countBlocksByRuns_34 : decode cX3_countBlocksByRuns 34 = .ok (.ifCond .eq 7, 3) := by decide +kernel
theorem dX3_countBlocksByRuns_37 : decode cX3_countBlocksByRuns 37 = .ok (.iload_n 2, 1) := by decide +kernel
theorem dX3_countBlocksByRuns_38 : decode cX3_countBlocksByRuns 38 = .ok (.iload_n 3, 1) := by decide +kernel
theorem dX3_countBlocksByRuns_39 : decode cX3_countBlocksByRuns 39 = .ok (.iadd, 1) := by decide +kernel
theorem dX3_countBlocksByRuns_40 : decode cX3_countBlocksByRuns 40 = .ok (.istore_n 2, 1) := by decide +kernel
theorem dX3_countBlocksByRuns_41 : decode cX3_countBlocksByRuns 41 = .ok (.iconst 0, 1) := by decide +kernel
theorem dX3_countBlocksByRuns_42 : decode cX3_countBlocksByRuns 42 = .ok (.istore_n 3, 1) := by decide +kernel
theorem dX3_countBlocksByRuns_43 : decode cX3_countBlocksByRuns 43 = .ok (.iinc 4 1, 3) := by decide +kernel
theorem dX3_countBlocksByRuns_46 : decode cX3_countBlocksByRuns 46 = .ok (.goto (-39), 3) := by decide +kernel
theorem dX3_countBlocksByRuns_49 : decode cX3_countBlocksByRuns 49 = .ok (.iload_n 2, 1) := by decide +kernel
theorem dX3_countBlocksByRuns_50 : decode cX3_countBlocksByRuns 50 = .ok (.ireturn, 1) := by decide +kernel
theorem dX3_heightOf_0 : decode cX3_heightOf 0 = .ok (.bipush 7, 2) := by decide +kernel
theorem dX3_heightOf_2 : decode cX3_heightOf 2 = .ok (.istore_n 2, 1) := by decide +kernel
theorem dX3_heightOf_3 : decode cX3_heightOf 3 = .ok (.iload_n 2, 1) := by decide +kernel
theorem dX3_heightOf_4 : decode cX3_heightOf 4 = .ok (.ifCond .lt 22, 3) := by decide +kernel
theorem dX3_heightOf_7 : decode cX3_heightOf 7 = .ok (.aload_n 0, 1) := by decide +kernel
theorem dX3_heightOf_8 : decode cX3_heightOf 8 = .ok (.iload_n 1, 1) := by decide +kernel
theorem dX3_heightOf_9 : decode cX3_heightOf 9 = .ok (.iload_n 2, 1) := by decide +kernel
theorem dX3_heightOf_10 : decode cX3_heightOf 10 = .ok (.invokevirtual 30, 3) := by decide +kernel
theorem dX3_heightOf_13 : decode cX3_heightOf 13 = .ok (.ifCond .eq 7, 3) := by decide +kernel
theorem dX3_heightOf_16 : decode cX3_heightOf 16 = .ok (.iload_n 2, 1) := by decide +kernel
theorem dX3_heightOf_17 : decode cX3_heightOf 17 = .ok (.iconst 1, 1) := by decide +kernel
theorem dX3_heightOf_18 : decode cX3_heightOf 18 = .ok (.iadd, 1) := by decide +kernel
theorem dX3_heightOf_19 : decode cX3_heightOf 19 = .ok (.ireturn, 1) := by decide +kernel
theorem dX3_heightOf_20 : decode cX3_heightOf 20 = .ok (.iinc 2 (-1), 3) := by decide +kernel
theorem dX3_heightOf_23 : decode cX3_heightOf 23 = .ok (.goto (-20), 3) := by decide +kernel
theorem dX3_heightOf_26 : decode cX3_heightOf 26 = .ok (.iconst 0, 1) := by decide +kernel
theorem dX3_heightOf_27 : decode cX3_heightOf 27 = .ok (.ireturn, 1) := by decide +kernel
theorem dX3_copyHeights_0 : decode cX3_copyHeights 0 = .ok (.bipush 16, 2) := by decide +kernel
theorem dX3_copyHeights_2 : decode cX3_copyHeights 2 = .ok (.newarray .int, 2) := by decide +kernel
theorem dX3_copyHeights_4 : decode cX3_copyHeights 4 = .ok (.astore_n 1, 1) := by decide +kernel
theorem dX3_copyHeights_5 : decode cX3_copyHeights 5 = .ok (.iconst 0, 1) := by decide +kernel
theorem dX3_copyHeights_6 : decode cX3_copyHeights 6 = .ok (.istore_n 2, 1) := by decide +kernel
theorem dX3_copyHeights_7 : decode cX3_copyHeights 7 = .ok (.iload_n 2, 1) := by decide +kernel
theorem dX3_copyHeights_8 : decode cX3_copyHeights 8 = .ok (.bipush 16, 2) := by decide +kernel
theorem dX3_copyHeights_10 : decode cX3_copyHeights 10 = .ok (.if_icmp .ge 17, 3) := by decide +kernel
theorem dX3_copyHeights_13 : decode cX3_copyHeights 13 = .ok (.aload_n 1, 1) := by decide +kernel
theorem dX3_copyHeights_14 : decode cX3_copyHeights 14 = .ok (.iload_n 2, 1) := by decide +kernel
theorem dX3_copyHeights_15 : decode cX3_copyHeights 15 = .ok (.aload_n 0, 1) := by decide +kernel
theorem dX3_copyHeights_16 : decode cX3_copyHeights 16 = .ok (.iload_n 2, 1) := by decide +kernel
theorem dX3_copyHeights_17 : decode cX3_copyHeights 17 = .ok (.invokevirtual 38, 3) := by decide +kernel
theorem dX3_copyHeights_20 : decode cX3_copyHeights 20 = .ok (.iastore, 1) := by decide +kernel
theorem dX3_copyHeights_21 : decode cX3_copyHeights 21 = .ok (.iinc 2 1, 3) := by decide +kernel
theorem dX3_copyHeights_24 : decode cX3_copyHeights 24 = .ok (.goto (-17), 3) := by decide +kernel
theorem dX3_copyHeights_27 : decode cX3_copyHeights 27 = .ok (.aload_n 1, 1) := by decide +kernel
theorem dX3_copyHeights_28 : decode cX3_copyHeights 28 = .ok (.areturn, 1) := by decide +kernel
theorem dX3_hasColumnAlike_0 : decode cX3_hasColumnAlike 0 = .ok (.iconst 0, 1) := by decide +kernel
theorem dX3_hasColumnAlike_1 : decode cX3_hasColumnAlike 1 = .ok (.istore_n 3, 1) := by decide +kernel
theorem dX3_hasColumnAlike_2 : decode cX3_hasColumnAlike 2 = .ok (.iload_n 3, 1) := by decide +kernel
theorem dX3_hasColumnAlike_3 : decode cX3_hasColumnAlike 3 = .ok (.bipush 8, 2) := by decide +kernel
theorem dX3_hasColumnAlike_5 : decode cX3_hasColumnAlike 5 = .ok (.if_icmp .ge 26, 3) := by decide +kernel
theorem dX3_hasColumnAlike_8 : decode cX3_hasColumnAlike 8 = .ok (.aload_n 0, 1) := by decide +kernel
theorem dX3_hasColumnAlike_9 : decode cX3_hasColumnAlike 9 = .ok (.iload_n 2, 1) := by decide +kernel
theorem dX3_hasColumnAlike_10 : decode cX3_hasColumnAlike 10 = .ok (.iload_n 3, 1) := by decide +kernel
theorem dX3_hasColumnAlike_11 : decode cX3_hasColumnAlike 11 = .ok (.invokevirtual 30, 3) := by decide +kernel
theorem dX3_hasColumnAlike_14 : decode cX3_hasColumnAlike 14 = .ok (.aload_n 1, 1) := by decide +kernel
theorem dX3_hasColumnAlike_15 : decode cX3_hasColumnAlike 15 = .ok (.iload_n 2, 1) := by decide +kernel
theorem dX3_hasColumnAlike_16 : decode cX3_hasColumnAlike 16 = .ok (.iload_n 3, 1) := by decide +kernel
theorem dX3_hasColumnAlike_17 : decode cX3_hasColumnAlike 17 = .ok (.invokevirtual 30, 3) := by decide +kernel
theorem dX3_hasColumnAlike_20 : decode cX3_hasColumnAlike 20 = .ok (.if_icmp .eq 5, 3) := by decide +kernel
theorem dX3_hasColumnAlike_23 : decode cX3_hasColumnAlike 23 = .ok (.iconst 0, 1) := by decide +kernel
theorem dX3_hasColumnAlike_24 : decode cX3_hasColumnAlike 24 = .ok (.ireturn, 1) := by decide +kernel
theorem dX3_hasColumnAlike_25 : decode cX3_hasColumnAlike 25 = .ok (.iinc 3 1, 3) := by decide +kernel
theorem dX3_hasColumnAlike_28 : decode cX3_hasColumnAlike 28 = .ok (.goto (-26), 3) := by decide +kernel
theorem dX3_hasColumnAlike_31 : decode cX3_hasColumnAlike 31 = .ok (.iconst 1, 1) := by decide +kernel
theorem dX3_hasColumnAlike_32 : decode cX3_hasColumnAlike 32 = .ok (.ireturn, 1) := by decide +kernel
theorem dX4_init_0 : decode cX4_init 0 = .ok (.aload_n 0, 1) := by decide +kernel
theorem dX4_init_1 : decode cX4_init 1 = .ok (.invokespecial 3, 3) := by decide +kernel
theorem dX4_init_4 : decode cX4_init 4 = .ok (.aload_n 0, 1) := by decide +kernel
theorem dX4_init_5 : decode cX4_init 5 = .ok (.new 9, 3) := by decide +kernel
theorem dX4_init_8 : decode cX4_init 8 = .ok (.dup, 1) := by decide +kernel
theorem dX4_init_9 : decode cX4_init 9 = .ok (.invokespecial 11, 3) := by decide +kernel
theorem dX4_init_12 : decode cX4_init 12 = .ok (.putfield 12, 3) := by decide +kernel
theorem dX4_init_15 : decode cX4_init 15 = .ok (.aload_n 0, 1) := by decide +kernel
theorem dX4_init_16 : decode cX4_init 16 = .ok (.new 9, 3) := by decide +kernel
theorem dX4_init_19 : decode cX4_init 19 = .ok (.dup, 1) := by decide +kernel
theorem dX4_init_20 : decode cX4_init 20 = .ok (.invokespecial 11, 3) := by decide +kernel
theorem dX4_init_23 : decode cX4_init 23 = .ok (.putfield 16, 3) := by decide +kernel
theorem dX4_init_26 : decode cX4_init 26 = .ok (.aload_n 0, 1) := by decide +kernel
theorem dX4_init_27 : decode cX4_init 27 = .ok (.new 9, 3) := by decide +kernel
theorem dX4_init_30 : decode cX4_init 30 = .ok (.dup, 1) := by decide +kernel
theorem dX4_init_31 : decode cX4_init 31 = .ok (.invokespecial 11, 3) := by decide +kernel
theorem dX4_init_34 : decode cX4_init 34 = .ok (.putfield 19, 3) := by decide +kernel
theorem dX4_init_37 : decode cX4_init 37 = .ok (.aload_n 0, 1) := by decide +kernel
theorem dX4_init_38 : decode cX4_init 38 = .ok (.new 22, 3) := by decide +kernel
theorem dX4_init_41 : decode cX4_init 41 = .ok (.dup, 1) := by decide +kernel
theorem dX4_init_42 : decode cX4_init 42 = .ok (.invokespecial 24, 3) := by decide +kernel
theorem dX4_init_45 : decode cX4_init 45 = .ok (.putfield 25, 3) := by decide +kernel
theorem dX4_init_48 : decode cX4_init 48 = .ok (.aload_n 0, 1) := by decide +kernel
theorem dX4_init_49 : decode cX4_init 49 = .ok (.new 29, 3) := by decide +kernel
theorem dX4_init_52 : decode cX4_init 52 = .ok (.dup, 1) := by decide +kernel
theorem dX4_init_53 : decode cX4_init 53 = .ok (.iconst 0, 1) := by decide +kernel
theorem dX4_init_54 : decode cX4_init 54 = .ok (.aconst_null, 1) := by decide +kernel
theorem dX4_init_55 : decode cX4_init 55 = .ok (.sipush 128, 3) := by decide +kernel
theorem dX4_init_58 : decode cX4_init 58 = .ok (.newarray .int, 2) := by decide +kernel
theorem dX4_init_60 : decode cX4_init 60 = .ok (.invokespecial 31, 3) := by decide +kernel
theorem dX4_init_63 : decode cX4_init 63 = .ok (.putfield 34, 3) := by decide +kernel
theorem dX4_init_66 : decode cX4_init 66 = .ok (.aload_n 0, 1) := by decide +kernel
theorem dX4_init_67 : decode cX4_init 67 = .ok (.getfield 12, 3) := by decide +kernel
theorem dX4_init_70 : decode cX4_init 70 = .ok (.aload_n 0, 1) := by decide +kernel
theorem dX4_init_71 : decode cX4_init 71 = .ok (.getfield 34, 3) := by decide +kernel
theorem dX4_init_74 : decode cX4_init 74 = .ok (.invokevirtual 38, 3) := by decide +kernel
theorem dX4_init_77 : decode cX4_init 77 = .ok (.pop, 1) := by decide +kernel
theorem dX4_init_78 : decode cX4_init 78 = .ok (.return_, 1) := by decide +kernel
theorem dX4_set_0 : decode cX4_set 0 = .ok (.iload_n 1, 1) := by decide +kernel
theorem dX4_set_1 : decode cX4_set 1 = .ok (.invokestatic 42, 3) := by decide +kernel
theorem dX4_set_4 : decode cX4_set 4 = .ok (.iload_n 2, 1) := by decide +kernel
theorem dX4_set_5 : decode cX4_set 5 = .ok (.invokestatic 46, 3) := by decide +kernel
theorem dX4_set_8 : decode cX4_set 8 = .ok (.iload_n 3, 1) := by decide +kernel
theorem dX4_set_9 : decode cX4_set 9 = .ok (.invokestatic 49, 3) := by decide +kernel
theorem dX4_set_12 : decode cX4_set 12 = .ok (.aload_n 0, 1) := by decide +kernel
theorem dX4_set_13 : decode cX4_set 13 = .ok (.invokevirtual 52, 3) := by decide +kernel
theorem dX4_set_16 : decode cX4_set 16 = .ok (.aload_n 0, 1) := by decide +kernel
theorem dX4_set_17 : decode cX4_set 17 = .ok (.invokevirtual 55, 3) := by decide +kernel
theorem dX4_set_20 : decode cX4_set 20 = .ok (.aload_n 0, 1) := by decide +kernel
theorem dX4_set_21 : decode cX4_set 21 = .ok (.getfield 34, 3) := by decide +kernel
theorem dX4_set_24 : decode cX4_set 24 = .ok (.iload_n 1, 1) := by decide +kernel
theorem dX4_set_25 : decode cX4_set 25 = .ok (.iload_n 2, 1) := by decide +kernel
theorem dX4_set_26 : decode cX4_set 26 = .ok (.iload_n 3, 1) := by decide +kernel
theorem dX4_set_27 : decode cX4_set 27 = .ok (.invokevirtual 58, 3) := by decide +kernel
theorem dX4_set_30 : decode cX4_set 30 = .ok (.aload_n 0, 1) := by decide +kernel
theorem dX4_set_31 : decode cX4_set 31 = .ok (.getfield 34, 3) := by decide +kernel
theorem dX4_set_34 : decode cX4_set 34 = .ok (.getfield 62, 3) := by decide +kernel
theorem dX4_set_37 : decode cX4_set 37 = .ok (.ireturn, 1) := by decide +kernel
theorem dX4_raise_0 : decode cX4_raise 0 = .ok (.iload_n 1, 1) := by decide +kernel
theorem dX4_raise_1 : decode cX4_raise 1 = .ok (.invokestatic 42, 3) := by decide +kernel
theorem dX4_raise_4 : decode cX4_raise 4 = .ok (.iload_n 2, 1) := by decide +kernel
theorem dX4_raise_5 : decode cX4_raise 5 = .ok (.invokestatic 66, 3) := by decide +kernel
theorem dX4_raise_8 : decode cX4_raise 8 = .ok (.iload_n 3, 1) := by decide +kernel
theorem dX4_raise_9 : decode cX4_raise 9 = .ok (.invokestatic 69, 3) := by decide +kernel
theorem dX4_raise_12 : decode cX4_raise 12 = .ok (.aload_n 0, 1) := by decide +kernel
theorem dX4_raise_13 : decode cX4_raise 13 = .ok (.invokevirtual 52, 3) := by decide +kernel
theorem dX4_raise_16 : decode cX4_raise 16 = .ok (.aload_n 0, 1) := by decide +kernel
theorem dX4_raise_17 : decode cX4_raise 17 = .ok (.invokevirtual 55, 3) := by decide +kernel
theorem dX4_raise_20 : decode cX4_raise 20 = .ok (.iconst 0, 1) := by decide +kernel
theorem dX4_raise_21 : decode cX4_raise 21 = .ok (.istore 4, 2) := by decide +kernel
theorem dX4_raise_23 : decode cX4_raise 23 = .ok (.iload 4, 2) := by decide +kernel
theorem dX4_raise_25 : decode cX4_raise 25 = .ok (.bipush 8, 2) := by decide +kernel
theorem dX4_raise_27 : decode cX4_raise 27 = .ok (.if_icmp .ge 30, 3) := by decide +kernel
theorem dX4_raise_30 : decode cX4_raise 30 = .ok (.aload_n 0, 1) := by decide +kernel
theorem dX4_raise_31 : decode cX4_raise 31 = .ok (.getfield 34, 3) := by decide +kernel
theorem dX4_raise_34 : decode cX4_raise 34 = .ok (.iload_n 1, 1) := by decide +kernel
theorem dX4_raise_35 : decode cX4_raise 35 = .ok (.iload 4, 2) := by decide +kernel
theorem dX4_raise_37 : decode cX4_raise 37 = .ok (.iload 4, 2) := by decide +kernel
theorem dX4_raise_39 : decode cX4_raise 39 = .ok (.iload_n 2, 1) := by decide +kernel
theorem dX4_raise_40 : decode cX4_raise 40 = .ok (.if_icmp .ge 7, 3) := by decide +kernel
theorem dX4_raise_43 : decode cX4_raise 43 = .ok (.iload_n 3, 1) := by decide +kernel
theorem dX4_raise_44 : decode cX4_raise 44 = .ok (.goto 4, 3) := by decide +kernel
theorem dX4_raise_47 : decode cX4_raise 47 = .ok (.iconst 0, 1) := by decide +kernel
theorem dX4_raise_48 : decode cX4_raise 48 = .ok (.invokevirtual 58, 3) := by decide +kernel
theorem dX4_raise_51 : decode cX4_raise 51 = .ok (.iinc 4 1, 3) := by decide +kernel
theorem dX4_raise_54 : decode cX4_raise 54 = .ok (.goto (-31), 3) := by decide +kernel
theorem dX4_raise_57 : decode cX4_raise 57 = .ok (.aload_n 0, 1) := by decide +kernel
theorem dX4_raise_58 : decode cX4_raise 58 = .ok (.getfield 34, 3) := by decide +kernel
theorem dX4_raise_61 : decode cX4_raise 61 = .ok (.getfield 62, 3) := by decide +kernel
theorem dX4_raise_64 : decode cX4_raise 64 = .ok (.ireturn, 1) := by decide +kernel
theorem dX4_layer_0 : decode cX4_layer 0 = .ok (.iload_n 1, 1) := by decide +kernel
theorem dX4_layer_1 : decode cX4_layer 1 = .ok (.invokestatic 46, 3) := by decide +kernel
theorem dX4_layer_4 : decode cX4_layer 4 = .ok (.iload_n 2, 1) := by decide +kernel
theorem dX4_layer_5 : decode cX4_layer 5 = .ok (.invokestatic 49, 3) := by decide +kernel
theorem dX4_layer_8 : decode cX4_layer 8 = .ok (.aload_n 0, 1) := by decide +kernel
theorem dX4_layer_9 : decode cX4_layer 9 = .ok (.invokevirtual 52, 3) := by decide +kernel
theorem dX4_layer_12 : decode cX4_layer 12 = .ok (.aload_n 0, 1) := by decide +kernel
theorem dX4_layer_13 : decode cX4_layer 13 = .ok (.invokevirtual 55, 3) := by decide +kernel
theorem dX4_layer_16 : decode cX4_layer 16 = .ok (.iconst 0, 1) := by decide +kernel
theorem dX4_layer_17 : decode cX4_layer 17 = .ok (.istore_n 3, 1) := by decide +kernel
theorem dX4_layer_18 : decode cX4_layer 18 = .ok (.iload_n 3, 1) := by decide +kernel
theorem dX4_layer_19 : decode cX4_layer 19 = .ok (.bipush 16, 2) := by decide +kernel
theorem dX4_layer_21 : decode cX4_layer 21 = .ok (.if_icmp .ge 19, 3) := by decide +kernel
theorem dX4_layer_24 : decode cX4_layer 24 = .ok (.aload_n 0, 1) := by decide +kernel
theorem dX4_layer_25 : decode cX4_layer 25 = .ok (.getfield 34, 3) := by decide +kernel
theorem dX4_layer_28 : decode cX4_layer 28 = .ok (.iload_n 3, 1) := by decide +kernel
theorem dX4_layer_29 : decode cX4_layer 29 = .ok (.iload_n 1, 1) := by decide +kernel
theorem dX4_layer_30 : decode cX4_layer 30 = .ok (.iload_n 2, 1) := by decide +kernel
theorem dX4_layer_31 : decode cX4_layer 31 = .ok (.invokevirtual 58, 3) := by decide +kernel
theorem dX4_layer_34 : decode cX4_layer 34 = .ok (.iinc 3 1, 3) := by decide +kernel
theorem dX4_layer_37 : decode cX4_layer 37 = .ok (.goto (-19), 3) := by decide +kernel
theorem dX4_layer_40 : decode cX4_layer 40 = .ok (.aload_n 0, 1) := by decide +kernel
theorem dX4_layer_41 : decode cX4_layer 41 = .ok (.getfield 34, 3) := by decide +kernel
theorem dX4_layer_44 : decode cX4_layer 44 = .ok (.getfield 62, 3) := by decide +kernel
theorem dX4_layer_47 : decode cX4_layer 47 = .ok (.ireturn, 1) := by decide +kernel
theorem dX4_kind_0 : decode cX4_kind 0 = .ok (.iload_n 1, 1) := by decide +kernel
theorem dX4_kind_1 : decode cX4_kind 1 = .ok (.invokestatic 42, 3) := by decide +kernel
theorem dX4_kind_4 : decode cX4_kind 4 = .ok (.iload_n 2, 1) := by decide +kernel
theorem dX4_kind_5 : decode cX4_kind 5 = .ok (.invokestatic 46, 3) := by decide +kernel
theorem dX4_kind_8 : decode cX4_kind 8 = .ok (.aload_n 0, 1) := by decide +kernel
theorem dX4_kind_9 : decode cX4_kind 9 = .ok (.getfield 34, 3) := by decide +kernel
theorem dX4_kind_12 : decode cX4_kind 12 = .ok (.iload_n 1, 1) := by decide +kernel
theorem dX4_kind_13 : decode cX4_kind 13 = .ok (.iload_n 2, 1) := by decide +kernel
theorem dX4_kind_14 : decode cX4_kind 14 = .ok (.invokevirtual 72, 3) := by decide +kernel
theorem dX4_kind_17 : decode cX4_kind 17 = .ok (.ireturn, 1) := by decide +kernel
theorem dX4_runs_0 : decode cX4_runs 0 = .ok (.iload_n 1, 1) := by decide +kernel
theorem dX4_runs_1 : decode cX4_runs 1 = .ok (.invokestatic 42, 3) := by decide +kernel
theorem dX4_runs_4 : decode cX4_runs 4 = .ok (.aload_n 0, 1) := by decide +kernel
theorem dX4_runs_5 : decode cX4_runs 5 = .ok (.getfield 34, 3) := by decide +kernel
theorem dX4_runs_8 : decode cX4_runs 8 = .ok (.iload_n 1, 1) := by decide +kernel
theorem dX4_runs_9 : decode cX4_runs 9 = .ok (.invokevirtual 76, 3) := by decide +kernel
theorem dX4_runs_12 : decode cX4_runs 12 = .ok (.ireturn, 1) := by decide +kernel
theorem dX4_runLength_0 : decode cX4_runLength 0 = .ok (.iload_n 1, 1) := by decide +kernel
theorem dX4_runLength_1 : decode cX4_runLength 1 = .ok (.invokestatic 42, 3) := by decide +kernel
theorem dX4_runLength_4 : decode cX4_runLength 4 = .ok (.iload_n 2, 1) := by decide +kernel
theorem dX4_runLength_5 : decode cX4_runLength 5 = .ok (.ifCond .lt 15, 3) := by decide +kernel
theorem dX4_runLength_8 : decode cX4_runLength 8 = .ok (.iload_n 2, 1) := by decide +kernel
theorem dX4_runLength_9 : decode cX4_runLength 9 = .ok (.aload_n 0, 1) := by decide +kernel
theorem dX4_runLength_10 : decode cX4_runLength 10 = .ok (.getfield 34, 3) := by decide +kernel
theorem dX4_runLength_13 : decode cX4_runLength 13 = .ok (.iload_n 1, 1) := by decide +kernel
theorem dX4_runLength_14 : decode cX4_runLength 14 = .ok (.invokevirtual 76, 3) := by decide +kernel
theorem dX4_runLength_17 : decode cX4_runLength 17 = .ok (.if_icmp .lt 13, 3) := by decide +kernel
theorem dX4_runLength_20 : decode cX4_runLength 20 = .ok (.new 80, 3) := by decide +kernel
theorem dX4_runLength_23 : decode cX4_runLength 23 = .ok (.dup, 1) := by decide +kernel
theorem dX4_runLength_24 : decode cX4_runLength 24 = .ok (.ldc 82, 2) := by decide +kernel
theorem dX4_runLength_26 : decode cX4_runLength 26 = .ok (.invokespecial 84, 3) := by decide +kernel
theorem dX4_runLength_29 : decode cX4_runLength 29 = .ok (.athrow, 1) := by decide +kernel
theorem dX4_runLength_30 : decode cX4_runLength 30 = .ok (.aload_n 0, 1) := by decide +kernel
theorem dX4_runLength_31 : decode cX4_runLength 31 = .ok (.getfield 34, 3) := by decide +kernel
theorem dX4_runLength_34 : decode cX4_runLength 34 = .ok (.iload_n 1, 1) := by decide +kernel
theorem dX4_runLength_35 : decode cX4_runLength 35 = .ok (.iload_n 2, 1) := by decide +kernel
theorem dX4_runLength_36 : decode cX4_runLength 36 = .ok (.invokevirtual 87, 3) := by decide +kernel
theorem dX4_runLength_39 : decode cX4_runLength 39 = .ok (.ireturn, 1) := by decide +kernel
theorem dX4_blocks_0 : decode cX4_blocks 0 = .ok (.iconst 0, 1) := by decide +kernel
theorem dX4_blocks_1 : decode cX4_blocks 1 = .ok (.istore_n 1, 1) := by decide +kernel
theorem dX4_blocks_2 : decode cX4_blocks 2 = .ok (.iconst 0, 1) := by decide +kernel
theorem dX4_blocks_3 : decode cX4_blocks 3 = .ok (.istore_n 2, 1) := by decide +kernel
theorem dX4_blocks_4 : decode cX4_blocks 4 = .ok (.iload_n 2, 1) := by decide +kernel
theorem dX4_blocks_5 : decode cX4_blocks 5 = .ok (.bipush 16, 2) := by decide +kernel
theorem dX4_blocks_7 : decode cX4_blocks 7 = .ok (.if_icmp .ge 20, 3) := by decide +kernel
theorem dX4_blocks_10 : decode cX4_blocks 10 = .ok (.iload_n 1, 1) := by decide +kernel
theorem dX4_blocks_11 : decode cX4_blocks 11 = .ok (.aload_n 0, 1) := by decide +kernel
theorem dX4_blocks_12 : decode cX4_blocks 12 = .ok (.getfield 34, 3) := by decide +kernel
theorem dX4_blocks_15 : decode cX4_blocks 15 = .ok (.iload_n 2, 1) := by decide +kernel
theorem dX4_blocks_16 : decode cX4_blocks 16 = .ok (.invokevirtual 90, 3) := by decide +kernel
theorem dX4_blocks_19 : decode cX4_blocks 19 = .ok (.iadd, 1) := by decide +kernel
theorem dX4_blocks_20 : decode cX4_blocks 20 = .ok (.istore_n 1, 1) := by decide +kernel
theorem dX4_blocks_21 : decode cX4_blocks 21 = .ok (.iinc 2 1, 3) := by decide +kernel
theorem dX4_blocks_24 : decode cX4_blocks 24 = .ok (.goto (-20), 3) := by decide +kernel
theorem dX4_blocks_27 : decode cX4_blocks 27 = .ok (.iload_n 1, 1) := by decide +kernel
theorem dX4_blocks_28 : decode cX4_blocks 28 = .ok (.ireturn, 1) := by decide +kernel
theorem dX4_blocksOneByOne_0 : decode cX4_blocksOneByOne 0 = .ok (.iconst 0, 1) := by decide +kernel
theorem dX4_blocksOneByOne_1 : decode cX4_blocksOneByOne 1 = .ok (.istore_n 1, 1) := by decide +kernel
theorem dX4_blocksOneByOne_2 : decode cX4_blocksOneByOne 2 = .ok (.iconst 0, 1) := by decide +kernel
theorem dX4_blocksOneByOne_3 : decode cX4_blocksOneByOne 3 = .ok (.istore_n 2, 1) := by decide +kernel
theorem dX4_blocksOneByOne_4 : decode cX4_blocksOneByOne 4 = .ok (.iload_n 2, 1) := by decide +kernel
theorem dX4_blocksOneByOne_5 : decode cX4_blocksOneByOne 5 = .ok (.bipush 16, 2) := by decide +kernel
theorem dX4_blocksOneByOne_7 : decode cX4_blocksOneByOne 7 = .ok (.if_icmp .ge 38, 3) := by decide +kernel
theorem dX4_blocksOneByOne_10 : decode cX4_blocksOneByOne 10 = .ok (.iconst 0, 1) := by decide +kernel
theorem dX4_blocksOneByOne_11 : decode cX4_blocksOneByOne 11 = .ok (.istore_n 3, 1) := by decide +kernel
theorem dX4_blocksOneByOne_12 : decode cX4_blocksOneByOne 12 = .ok (.iload_n 3, 1) := by decide +kernel
theorem dX4_blocksOneByOne_13 : decode cX4_blocksOneByOne 13 = .ok (.bipush 8, 2) := by decide +kernel
theorem dX4_blocksOneByOne_15 : decode cX4_blocksOneByOne 15 = .ok (.if_icmp .ge 24, 3) := by decide +kernel
theorem dX4_blocksOneByOne_18 : decode cX4_blocksOneByOne 18 = .ok (.aload_n 0, 1) := by decide +kernel
theorem dX4_blocksOneByOne_19 : decode cX4_blocksOneByOne 19 = .ok (.getfield 34, 3) := by decide +kernel
theorem dX4_blocksOneByOne_22 : decode cX4_blocksOneByOne 22 = .ok (.iload_n 2, 1) := by decide +kernel
theorem dX4_blocksOneByOne_23 : decode cX4_blocksOneByOne 23 = .ok (.iload_n 3, 1) := by decide +kernel
theorem dX4_blocksOneByOne_24 : decode cX4_blocksOneByOne 24 = .ok (.invokevirtual 72, 3) := by decide +kernel
theorem dX4_blocksOneByOne_27 : decode cX4_blocksOneByOne 27 = .ok (.ifCond .eq 6, 3) := by decide +kernel
theorem dX4_blocksOneByOne_30 : decode cX4_blocksOneByOne 30 = .ok (.iinc 1 1, 3) := by decide +kernel
theorem dX4_blocksOneByOne_33 : decode cX4_blocksOneByOne 33 = .ok (.iinc 3 1, 3) := by decide +kernel
theorem dX4_blocksOneByOne_36 : decode cX4_blocksOneByOne 36 = .ok (.goto (-24), 3) := by decide +kernel
theorem dX4_blocksOneByOne_39 : decode cX4_blocksOneByOne 39 = .ok (.iinc 2 1, 3) := by decide +kernel
theorem dX4_blocksOneByOne_42 : decode cX4_blocksOneByOne 42 = .ok (.goto (-38), 3) := by decide +kernel
theorem dX4_blocksOneByOne_45 : decode cX4_blocksOneByOne 45 = .ok (.iload_n 1, 1) := by decide +kernel
theorem dX4_blocksOneByOne_46 : decode cX4_blocksOneByOne 46 = .ok (.ireturn, 1) := by decide +kernel
theorem dX4_pieces_0 : decode cX4_pieces 0 = .ok (.aload_n 0, 1) := by decide +kernel
theorem dX4_pieces_1 : decode cX4_pieces 1 = .ok (.getfield 25, 3) := by decide +kernel
theorem dX4_pieces_4 : decode cX4_pieces 4 = .ok (.aload_n 0, 1) := by decide +kernel
theorem dX4_pieces_5 : decode cX4_pieces 5 = .ok (.getfield 34, 3) := by decide +kernel
theorem dX4_pieces_8 : decode cX4_pieces 8 = .ok (.invokevirtual 93, 3) := by decide +kernel
theorem dX4_pieces_11 : decode cX4_pieces 11 = .ok (.ireturn, 1) := by decide +kernel
theorem dX4_height_0 : decode cX4_height 0 = .ok (.iload_n 1, 1) := by decide +kernel
theorem dX4_height_1 : decode cX4_height 1 = .ok (.invokestatic 42, 3) := by decide +kernel
theorem dX4_height_4 : decode cX4_height 4 = .ok (.aload_n 0, 1) := by decide +kernel
theorem dX4_height_5 : decode cX4_height 5 = .ok (.getfield 34, 3) := by decide +kernel
theorem dX4_height_8 : decode cX4_height 8 = .ok (.iload_n 1, 1) := by decide +kernel
theorem dX4_height_9 : decode cX4_height 9 = .ok (.invokevirtual 97, 3) := by decide +kernel
theorem dX4_height_12 : decode cX4_height 12 = .ok (.ireturn, 1) := by decide +kernel
theorem dX4_state_0 : decode cX4_state 0 = .ok (.aload_n 0, 1) := by decide +kernel
theorem dX4_state_1 : decode cX4_state 1 = .ok (.getfield 34, 3) := by decide +kernel
theorem dX4_state_4 : decode cX4_state 4 = .ok (.getfield 62, 3) := by decide +kernel
theorem dX4_state_7 : decode cX4_state 7 = .ok (.ireturn, 1) := by decide +kernel
theorem dX4_states_0 : decode cX4_states 0 = .ok (.aload_n 0, 1) := by decide +kernel
theorem dX4_states_1 : decode cX4_states 1 = .ok (.getfield 12, 3) := by decide +kernel
theorem dX4_states_4 : decode cX4_states 4 = .ok (.invokevirtual 100, 3) := by decide +kernel
theorem dX4_states_7 : decode cX4_states 7 = .ok (.ireturn, 1) := by decide +kernel
theorem dX4_visit_0 : decode cX4_visit 0 = .ok (.aload_n 0, 1) := by decide +kernel
theorem dX4_visit_1 : decode cX4_visit 1 = .ok (.iload_n 1, 1) := by decide +kernel
theorem dX4_visit_2 : decode cX4_visit 2 = .ok (.invokevirtual 104, 3) := by decide +kernel
theorem dX4_visit_5 : decode cX4_visit 5 = .ok (.aload_n 0, 1) := by decide +kernel
theorem dX4_visit_6 : decode cX4_visit 6 = .ok (.getfield 34, 3) := by decide +kernel
theorem dX4_visit_9 : decode cX4_visit 9 = .ok (.getfield 62, 3) := by decide +kernel
theorem dX4_visit_12 : decode cX4_visit 12 = .ok (.istore_n 2, 1) := by decide +kernel
theorem dX4_visit_13 : decode cX4_visit 13 = .ok (.aload_n 0, 1) := by decide +kernel
theorem dX4_visit_14 : decode cX4_visit 14 = .ok (.aload_n 0, 1) := by decide +kernel
theorem dX4_visit_15 : decode cX4_visit 15 = .ok (.getfield 12, 3) := by decide +kernel
theorem dX4_visit_18 : decode cX4_visit 18 = .ok (.iload_n 1, 1) := by decide +kernel
theorem dX4_visit_19 : decode cX4_visit 19 = .ok (.invokevirtual 107, 3) := by decide +kernel
theorem dX4_visit_22 : decode cX4_visit 22 = .ok (.checkcast 29, 3) := by decide +kernel
theorem dX4_visit_25 : decode cX4_visit 25 = .ok (.putfield 34, 3) := by decide +kernel
theorem dX4_visit_28 : decode cX4_visit 28 = .ok (.iload_n 2, 1) := by decide +kernel
theorem dX4_visit_29 : decode cX4_visit 29 = .ok (.ireturn, 1) := by decide +kernel
theorem dX4_undo_0 : decode cX4_undo 0 = .ok (.aload_n 0, 1) := by decide +kernel
theorem dX4_undo_1 : decode cX4_undo 1 = .ok (.getfield 34, 3) := by decide +kernel
theorem dX4_undo_4 : decode cX4_undo 4 = .ok (.getfield 111, 3) := by decide +kernel
theorem dX4_undo_7 : decode cX4_undo 7 = .ok (.astore_n 1, 1) := by decide +kernel
theorem dX4_undo_8 : decode cX4_undo 8 = .ok (.aload_n 1, 1) := by decide +kernel
theorem dX4_undo_9 : decode cX4_undo 9 = .ok (.ifnonnull 13, 3) := by decide +kernel
theorem dX4_undo_12 : decode cX4_undo 12 = .ok (.new 114, 3) := by decide +kernel
theorem dX4_undo_15 : decode cX4_undo 15 = .ok (.dup, 1) := by decide +kernel
theorem dX4_undo_16 : decode cX4_undo 16 = .ok (.ldc 116, 2) := by decide +kernel
theorem dX4_undo_18 : decode cX4_undo 18 = .ok (.invokespecial 118, 3) := by decide +kernel
theorem dX4_undo_21 : decode cX4_undo 21 = .ok (.athrow, 1) := by decide +kernel
theorem dX4_undo_22 : decode cX4_undo 22 = .ok (.aload_n 0, 1) := by decide +kernel
theorem dX4_undo_23 : decode cX4_undo 23 = .ok (.aload_n 1, 1) := by decide +kernel
theorem dX4_undo_24 : decode cX4_undo 24 = .ok (.putfield 34, 3) := by decide +kernel
theorem dX4_undo_27 : decode cX4_undo 27 = .ok (.aload_n 0, 1) := by decide +kernel
theorem dX4_undo_28 : decode cX4_undo 28 = .ok (.getfield 34, 3) := by decide +kernel
theorem dX4_undo_31 : decode cX4_undo 31 = .ok (.getfield 62, 3) := by decide +kernel
theorem dX4_undo_34 : decode cX4_undo 34 = .ok (.ireturn, 1) := by decide +kernel
theorem dX4_redo_0 : decode cX4_redo 0 = .ok (.aload_n 0, 1) := by decide +kernel
theorem dX4_redo_1 : decode cX4_redo 1 = .ok (.iload_n 1, 1) := by decide +kernel
theorem dX4_redo_2 : decode cX4_redo 2 = .ok (.invokevirtual 119, 3) := by decide +kernel
theorem dX4_redo_5 : decode cX4_redo 5 = .ok (.astore_n 2, 1) := by decide +kernel
theorem dX4_redo_6 : decode cX4_redo 6 = .ok (.aload_n 2, 1) := by decide +kernel
theorem dX4_redo_7 : decode cX4_redo 7 = .ok (.ifnonnull 13, 3) := by decide +kernel
theorem dX4_redo_10 : decode cX4_redo 10 = .ok (.new 80, 3) := by decide +kernel
theorem dX4_redo_13 : decode cX4_redo 13 = .ok (.dup, 1) := by decide +kernel
theorem dX4_redo_14 : decode cX4_redo 14 = .ok (.ldc 123, 2) := by decide +kernel
theorem dX4_redo_16 : decode cX4_redo 16 = .ok (.invokespecial 84, 3) := by decide +kernel
theorem dX4_redo_19 : decode cX4_redo 19 = .ok (.athrow, 1) := by decide +kernel
theorem dX4_redo_20 : decode cX4_redo 20 = .ok (.aload_n 0, 1) := by decide +kernel
theorem dX4_redo_21 : decode cX4_redo 21 = .ok (.aload_n 2, 1) := by decide +kernel
theorem dX4_redo_22 : decode cX4_redo 22 = .ok (.putfield 34, 3) := by decide +kernel
theorem dX4_redo_25 : decode cX4_redo 25 = .ok (.aload_n 0, 1) := by decide +kernel
theorem dX4_redo_26 : decode cX4_redo 26 = .ok (.getfield 34, 3) := by decide +kernel
theorem dX4_redo_29 : decode cX4_redo 29 = .ok (.getfield 62, 3) := by decide +kernel
theorem dX4_redo_32 : decode cX4_redo 32 = .ok (.ireturn, 1) := by decide +kernel
theorem dX4_branches_0 : decode cX4_branches 0 = .ok (.iconst 0, 1) := by decide +kernel
theorem dX4_branches_1 : decode cX4_branches 1 = .ok (.istore_n 1, 1) := by decide +kernel
theorem dX4_branches_2 : decode cX4_branches 2 = .ok (.iconst 0, 1) := by decide +kernel
theorem dX4_branches_3 : decode cX4_branches 3 = .ok (.istore_n 2, 1) := by decide +kernel
theorem dX4_branches_4 : decode cX4_branches 4 = .ok (.iload_n 2, 1) := by decide +kernel
theorem dX4_branches_5 : decode cX4_branches 5 = .ok (.aload_n 0, 1) := by decide +kernel
theorem dX4_branches_6 : decode cX4_branches 6 = .ok (.getfield 12, 3) := by decide +kernel
theorem dX4_branches_9 : decode cX4_branches 9 = .ok (.invokevirtual 100, 3) := by decide +kernel
theorem dX4_branches_12 : decode cX4_branches 12 = .ok (.if_icmp .ge 33, 3) := by decide +kernel
theorem dX4_branches_15 : decode cX4_branches 15 = .ok (.aload_n 0, 1) := by decide +kernel
theorem dX4_branches_16 : decode cX4_branches 16 = .ok (.getfield 12, 3) := by decide +kernel
theorem dX4_branches_19 : decode cX4_branches 19 = .ok (.iload_n 2, 1) := by decide +kernel
theorem dX4_branches_20 : decode cX4_branches 20 = .ok (.invokevirtual 107, 3) := by decide +kernel
theorem dX4_branches_23 : decode cX4_branches 23 = .ok (.checkcast 29, 3) := by decide +kernel
theorem dX4_branches_26 : decode cX4_branches 26 = .ok (.getfield 111, 3) := by decide +kernel
theorem dX4_branches_29 : decode cX4_branches 29 = .ok (.aload_n 0, 1) := by decide +kernel
theorem dX4_branches_30 : decode cX4_branches 30 = .ok (.getfield 34, 3) := by decide +kernel
theorem dX4_branches_33 : decode cX4_branches 33 = .ok (.if_acmp .ne 6, 3) := by decide +kernel
theorem dX4_branches_36 : decode cX4_branches 36 = .ok (.iinc 1 1, 3) := by decide +kernel
theorem dX4_branches_39 : decode cX4_branches 39 = .ok (.iinc 2 1, 3) := by decide +kernel
theorem dX4_branches_42 : decode cX4_branches 42 = .ok (.goto (-38), 3) := by decide +kernel
theorem dX4_branches_45 : decode cX4_branches 45 = .ok (.iload_n 1, 1) := by decide +kernel
theorem dX4_branches_46 : decode cX4_branches 46 = .ok (.ireturn, 1) := by decide +kernel
theorem dX4_unlike_0 : decode cX4_unlike 0 = .ok (.aload_n 0, 1) := by decide +kernel
theorem dX4_unlike_1 : decode cX4_unlike 1 = .ok (.iload_n 1, 1) := by decide +kernel
theorem dX4_unlike_2 : decode cX4_unlike 2 = .ok (.invokevirtual 104, 3) := by decide +kernel
theorem dX4_unlike_5 : decode cX4_unlike 5 = .ok (.aload_n 0, 1) := by decide +kernel
theorem dX4_unlike_6 : decode cX4_unlike 6 = .ok (.iload_n 2, 1) := by decide +kernel
theorem dX4_unlike_7 : decode cX4_unlike 7 = .ok (.invokevirtual 104, 3) := by decide +kernel
theorem dX4_unlike_10 : decode cX4_unlike 10 = .ok (.aload_n 0, 1) := by decide +kernel
theorem dX4_unlike_11 : decode cX4_unlike 11 = .ok (.getfield 12, 3) := by decide +kernel
theorem dX4_unlike_14 : decode cX4_unlike 14 = .ok (.iload_n 1, 1) := by decide +kernel
theorem dX4_unlike_15 : decode cX4_unlike 15 = .ok (.invokevirtual 107, 3) := by decide +kernel
theorem dX4_unlike_18 : decode cX4_unlike 18 = .ok (.checkcast 29, 3) := by decide +kernel
theorem dX4_unlike_21 : decode cX4_unlike 21 = .ok (.astore_n 3, 1) := by decide +kernel
theorem dX4_unlike_22 : decode cX4_unlike 22 = .ok (.aload_n 0, 1) := by decide +kernel
theorem dX4_unlike_23 : decode cX4_unlike 23 = .ok (.getfield 12, 3) := by decide +kernel
theorem dX4_unlike_26 : decode cX4_unlike 26 = .ok (.iload_n 2, 1) := by decide +kernel
theorem dX4_unlike_27 : decode cX4_unlike 27 = .ok (.invokevirtual 107, 3) := by decide +kernel
theorem dX4_unlike_30 : decode cX4_unlike 30 = .ok (.checkcast 29, 3) := by decide +kernel
theorem dX4_unlike_33 : decode cX4_unlike 33 = .ok (.astore 4, 2) := by decide +kernel
theorem dX4_unlike_35 : decode cX4_unlike 35 = .ok (.iconst 0, 1) := by decide +kernel
theorem dX4_unlike_36 : decode cX4_unlike 36 = .ok (.istore 5, 2) := by decide +kernel
theorem dX4_unlike_38 : decode cX4_unlike 38 = .ok (.iconst 0, 1) := by decide +kernel
theorem dX4_unlike_39 : decode cX4_unlike 39 = .ok (.istore 6, 2) := by decide +kernel
theorem dX4_unlike_41 : decode cX4_unlike 41 = .ok (.iload 6, 2) := by decide +kernel
theorem dX4_unlike_43 : decode cX4_unlike 43 = .ok (.bipush 16, 2) := by decide +kernel
theorem dX4_unlike_45 : decode cX4_unlike 45 = .ok (.if_icmp .ge 23, 3) := by decide +kernel
theorem dX4_unlike_48 : decode cX4_unlike 48 = .ok (.aload_n 3, 1) := by decide +kernel
theorem dX4_unlike_49 : decode cX4_unlike 49 = .ok (.aload 4, 2) := by decide +kernel
theorem dX4_unlike_51 : decode cX4_unlike 51 = .ok (.iload 6, 2) := by decide +kernel
theorem dX4_unlike_53 : decode cX4_unlike 53 = .ok (.invokevirtual 125, 3) := by decide +kernel
theorem dX4_unlike_56 : decode cX4_unlike 56 = .ok (.ifCond .ne 6, 3) := by decide +kernel
theorem dX4_unlike_59 : decode cX4_unlike 59 = .ok (.iinc 5 1, 3) := by decide +kernel
theorem dX4_unlike_62 : decode cX4_unlike 62 = .ok (.iinc 6 1, 3) := by decide +kernel
theorem dX4_unlike_65 : decode cX4_unlike 65 = .ok (.goto (-24), 3) := by decide +kernel
theorem dX4_unlike_68 : decode cX4_unlike 68 = .ok (.iload 5, 2) := by decide +kernel
theorem dX4_unlike_70 : decode cX4_unlike 70 = .ok (.ireturn, 1) := by decide +kernel
theorem dX4_cut_0 : decode cX4_cut 0 = .ok (.aload_n 0, 1) := by decide +kernel
theorem dX4_cut_1 : decode cX4_cut 1 = .ok (.getfield 16, 3) := by decide +kernel
theorem dX4_cut_4 : decode cX4_cut 4 = .ok (.invokevirtual 100, 3) := by decide +kernel
theorem dX4_cut_7 : decode cX4_cut 7 = .ok (.bipush 8, 2) := by decide +kernel
theorem dX4_cut_9 : decode cX4_cut 9 = .ok (.if_icmp .lt 13, 3) := by decide +kernel
theorem dX4_cut_12 : decode cX4_cut 12 = .ok (.new 114, 3) := by decide +kernel
theorem dX4_cut_15 : decode cX4_cut 15 = .ok (.dup, 1) := by decide +kernel
theorem dX4_cut_16 : decode cX4_cut 16 = .ok (.ldc 129, 2) := by decide +kernel
theorem dX4_cut_18 : decode cX4_cut 18 = .ok (.invokespecial 118, 3) := by decide +kernel
theorem dX4_cut_21 : decode cX4_cut 21 = .ok (.athrow, 1) := by decide +kernel
theorem dX4_cut_22 : decode cX4_cut 22 = .ok (.aload_n 0, 1) := by decide +kernel
theorem dX4_cut_23 : decode cX4_cut 23 = .ok (.getfield 25, 3) := by decide +kernel
theorem dX4_cut_26 : decode cX4_cut 26 = .ok (.aload_n 0, 1) := by decide +kernel
theorem dX4_cut_27 : decode cX4_cut 27 = .ok (.getfield 34, 3) := by decide +kernel
theorem dX4_cut_30 : decode cX4_cut 30 = .ok (.invokevirtual 93, 3) := by decide +kernel
theorem dX4_cut_33 : decode cX4_cut 33 = .ok (.iconst 1, 1) := by decide +kernel
theorem dX4_cut_34 : decode cX4_cut 34 = .ok (.if_icmp .eq 13, 3) := by decide +kernel
theorem dX4_cut_37 : decode cX4_cut 37 = .ok (.new 114, 3) := by decide +kernel
theorem dX4_cut_40 : decode cX4_cut 40 = .ok (.dup, 1) := by decide +kernel
theorem dX4_cut_41 : decode cX4_cut 41 = .ok (.ldc 131, 2) := by decide +kernel
theorem dX4_cut_43 : decode cX4_cut 43 = .ok (.invokespecial 118, 3) := by decide +kernel
theorem dX4_cut_46 : decode cX4_cut 46 = .ok (.athrow, 1) := by decide +kernel
theorem dX4_cut_47 : decode cX4_cut 47 = .ok (.aload_n 0, 1) := by decide +kernel
theorem dX4_cut_48 : decode cX4_cut 48 = .ok (.getfield 16, 3) := by decide +kernel
theorem dX4_cut_51 : decode cX4_cut 51 = .ok (.new 133, 3) := by decide +kernel
theorem dX4_cut_54 : decode cX4_cut 54 = .ok (.dup, 1) := by decide +kernel
theorem dX4_cut_55 : decode cX4_cut 55 = .ok (.aload_n 0, 1) := by decide +kernel
theorem dX4_cut_56 : decode cX4_cut 56 = .ok (.getfield 34, 3) := by decide +kernel
theorem dX4_cut_59 : decode cX4_cut 59 = .ok (.invokevirtual 135, 3) := by decide +kernel
theorem dX4_cut_62 : decode cX4_cut 62 = .ok (.invokespecial 139, 3) := by decide +kernel
theorem dX4_cut_65 : decode cX4_cut 65 = .ok (.invokevirtual 38, 3) := by decide +kernel
theorem dX4_cut_68 : decode cX4_cut 68 = .ok (.pop, 1) := by decide +kernel
theorem dX4_cut_69 : decode cX4_cut 69 = .ok (.aload_n 0, 1) := by decide +kernel
theorem dX4_cut_70 : decode cX4_cut 70 = .ok (.getfield 16, 3) := by decide +kernel
theorem dX4_cut_73 : decode cX4_cut 73 = .ok (.invokevirtual 100, 3) := by decide +kernel
theorem dX4_cut_76 : decode cX4_cut 76 = .ok (.iconst 1, 1) := by decide +kernel
theorem dX4_cut_77 : decode cX4_cut 77 = .ok (.isub, 1) := by decide +kernel
theorem dX4_cut_78 : decode cX4_cut 78 = .ok (.ireturn, 1) := by decide +kernel
theorem dX4_strike_0 : decode cX4_strike 0 = .ok (.aload_n 0, 1) := by decide +kernel
theorem dX4_strike_1 : decode cX4_strike 1 = .ok (.iload_n 1, 1) := by decide +kernel
theorem dX4_strike_2 : decode cX4_strike 2 = .ok (.invokevirtual 142, 3) := by decide +kernel
theorem dX4_strike_5 : decode cX4_strike 5 = .ok (.aload_n 0, 1) := by decide +kernel
theorem dX4_strike_6 : decode cX4_strike 6 = .ok (.invokevirtual 145, 3) := by decide +kernel
theorem dX4_strike_9 : decode cX4_strike 9 = .ok (.aload_n 0, 1) := by decide +kernel
theorem dX4_strike_10 : decode cX4_strike 10 = .ok (.aload_n 0, 1) := by decide +kernel
theorem dX4_strike_11 : decode cX4_strike 11 = .ok (.getfield 16, 3) := by decide +kernel
theorem dX4_strike_14 : decode cX4_strike 14 = .ok (.iload_n 1, 1) := by decide +kernel
theorem dX4_strike_15 : decode cX4_strike 15 = .ok (.invokevirtual 107, 3) := by decide +kernel
theorem dX4_strike_18 : decode cX4_strike 18 = .ok (.checkcast 133, 3) := by decide +kernel
theorem dX4_strike_21 : decode cX4_strike 21 = .ok (.invokevirtual 148, 3) := by decide +kernel
theorem dX4_strike_24 : decode cX4_strike 24 = .ok (.invokevirtual 152, 3) := by decide +kernel
theorem dX4_strike_27 : decode cX4_strike 27 = .ok (.ireturn, 1) := by decide +kernel
theorem dX4_forge_0 : decode cX4_forge 0 = .ok (.aload_n 0, 1) := by decide +kernel
theorem dX4_forge_1 : decode cX4_forge 1 = .ok (.iload_n 1, 1) := by decide +kernel
theorem dX4_forge_2 : decode cX4_forge 2 = .ok (.invokevirtual 156, 3) := by decide +kernel
theorem dX4_forge_5 : decode cX4_forge 5 = .ok (.aload_n 0, 1) := by decide +kernel
theorem dX4_forge_6 : decode cX4_forge 6 = .ok (.iload_n 2, 1) := by decide +kernel
theorem dX4_forge_7 : decode cX4_forge 7 = .ok (.invokevirtual 142, 3) := by decide +kernel
theorem dX4_forge_10 : decode cX4_forge 10 = .ok (.iload_n 3, 1) := by decide +kernel
theorem dX4_forge_11 : decode cX4_forge 11 = .ok (.iconst 1, 1) := by decide +kernel
theorem dX4_forge_12 : decode cX4_forge 12 = .ok (.if_icmp .lt 9, 3) := by decide +kernel
theorem dX4_forge_15 : decode cX4_forge 15 = .ok (.iload_n 3, 1) := by decide +kernel
theorem dX4_forge_16 : decode cX4_forge 16 = .ok (.bipush 60, 2) := by decide +kernel
theorem dX4_forge_18 : decode cX4_forge 18 = .ok (.if_icmp .le 13, 3) := by decide +kernel
theorem dX4_forge_21 : decode cX4_forge 21 = .ok (.new 159, 3) := by decide +kernel
theorem dX4_forge_24 : decode cX4_forge 24 = .ok (.dup, 1) := by decide +kernel
theorem dX4_forge_25 : decode cX4_forge 25 = .ok (.ldc 161, 2) := by decide +kernel
theorem dX4_forge_27 : decode cX4_forge 27 = .ok (.invokespecial 163, 3) := by decide +kernel
theorem dX4_forge_30 : decode cX4_forge 30 = .ok (.athrow, 1) := by decide +kernel
theorem dX4_forge_31 : decode cX4_forge 31 = .ok (.aload_n 0, 1) := by decide +kernel
theorem dX4_forge_32 : decode cX4_forge 32 = .ok (.invokevirtual 145, 3) := by decide +kernel
theorem dX4_forge_35 : decode cX4_forge 35 = .ok (.aload_n 0, 1) := by decide +kernel
theorem dX4_forge_36 : decode cX4_forge 36 = .ok (.getfield 16, 3) := by decide +kernel
theorem dX4_forge_39 : decode cX4_forge 39 = .ok (.iload_n 2, 1) := by decide +kernel
theorem dX4_forge_40 : decode cX4_forge 40 = .ok (.invokevirtual 107, 3) := by decide +kernel
theorem dX4_forge_43 : decode cX4_forge 43 = .ok (.checkcast 133, 3) := by decide +kernel
theorem dX4_forge_46 : decode cX4_forge 46 = .ok (.astore 4, 2) := by decide +kernel
theorem dX4_forge_48 : decode cX4_forge 48 = .ok (.iload_n 3, 1) := by decide +kernel
theorem dX4_forge_49 : decode cX4_forge 49 = .ok (.aload 4, 2) := by decide +kernel
theorem dX4_forge_51 : decode cX4_forge 51 = .ok (.getfield 164, 3) := by decide +kernel
theorem dX4_forge_54 : decode cX4_forge 54 = .ok (.invokevirtual 100, 3) := by decide +kernel
theorem dX4_forge_57 : decode cX4_forge 57 = .ok (.if_icmp .le 13, 3) := by decide +kernel
theorem dX4_forge_60 : decode cX4_forge 60 = .ok (.new 114, 3) := by decide +kernel
theorem dX4_forge_63 : decode cX4_forge 63 = .ok (.dup, 1) := by decide +kernel
theorem dX4_forge_64 : decode cX4_forge 64 = .ok (.ldc 167, 2) := by decide +kernel
theorem dX4_forge_66 : decode cX4_forge 66 = .ok (.invokespecial 118, 3) := by decide +kernel
theorem dX4_forge_69 : decode cX4_forge 69 = .ok (.athrow, 1) := by decide +kernel
theorem dX4_forge_70 : decode cX4_forge 70 = .ok (.aload 4, 2) := by decide +kernel
theorem dX4_forge_72 : decode cX4_forge 72 = .ok (.getfield 164, 3) := by decide +kernel
theorem dX4_forge_75 : decode cX4_forge 75 = .ok (.iload_n 3, 1) := by decide +kernel
theorem dX4_forge_76 : decode cX4_forge 76 = .ok (.iconst 1, 1) := by decide +kernel
theorem dX4_forge_77 : decode cX4_forge 77 = .ok (.isub, 1) := by decide +kernel
theorem dX4_forge_78 : decode cX4_forge 78 = .ok (.invokevirtual 107, 3) := by decide +kernel
theorem dX4_forge_81 : decode cX4_forge 81 = .ok (.checkcast 169, 3) := by decide +kernel
theorem dX4_forge_84 : decode cX4_forge 84 = .ok (.getfield 171, 3) := by decide +kernel
theorem dX4_forge_87 : decode cX4_forge 87 = .ok (.astore 5, 2) := by decide +kernel
theorem dX4_forge_89 : decode cX4_forge 89 = .ok (.aload_n 0, 1) := by decide +kernel
theorem dX4_forge_90 : decode cX4_forge 90 = .ok (.new 169, 3) := by decide +kernel
theorem dX4_forge_93 : decode cX4_forge 93 = .ok (.dup, 1) := by decide +kernel
theorem dX4_forge_94 : decode cX4_forge 94 = .ok (.aload 4, 2) := by decide +kernel
theorem dX4_forge_96 : decode cX4_forge 96 = .ok (.aload_n 0, 1) := by decide +kernel
theorem dX4_forge_97 : decode cX4_forge 97 = .ok (.getfield 19, 3) := by decide +kernel
theorem dX4_forge_100 : decode cX4_forge 100 = .ok (.iload_n 1, 1) := by decide +kernel
theorem dX4_forge_101 : decode cX4_forge 101 = .ok (.invokevirtual 107, 3) := by decide +kernel
theorem dX4_forge_104 : decode cX4_forge 104 = .ok (.checkcast 169, 3) := by decide +kernel
theorem dX4_forge_107 : decode cX4_forge 107 = .ok (.getfield 171, 3) := by decide +kernel
theorem dX4_forge_110 : decode cX4_forge 110 = .ok (.aload 5, 2) := by decide +kernel
theorem dX4_forge_112 : decode cX4_forge 112 = .ok (.invokespecial 175, 3) := by decide +kernel
theorem dX4_forge_115 : decode cX4_forge 115 = .ok (.invokevirtual 152, 3) := by decide +kernel
theorem dX4_forge_118 : decode cX4_forge 118 = .ok (.ireturn, 1) := by decide +kernel
theorem dX4_dieHeight_0 : decode cX4_dieHeight 0 = .ok (.aload_n 0, 1) := by decide +kernel
theorem dX4_dieHeight_1 : decode cX4_dieHeight 1 = .ok (.iload_n 1, 1) := by decide +kernel
theorem dX4_dieHeight_2 : decode cX4_dieHeight 2 = .ok (.invokevirtual 142, 3) := by decide +kernel
theorem dX4_dieHeight_5 : decode cX4_dieHeight 5 = .ok (.iload_n 2, 1) := by decide +kernel
theorem dX4_dieHeight_6 : decode cX4_dieHeight 6 = .ok (.invokestatic 42, 3) := by decide +kernel
theorem dX4_dieHeight_9 : decode cX4_dieHeight 9 = .ok (.aload_n 0, 1) := by decide +kernel
theorem dX4_dieHeight_10 : decode cX4_dieHeight 10 = .ok (.getfield 16, 3) := by decide +kernel
theorem dX4_dieHeight_13 : decode cX4_dieHeight 13 = .ok (.iload_n 1, 1) := by decide +kernel
theorem dX4_dieHeight_14 : decode cX4_dieHeight 14 = .ok (.invokevirtual 107, 3) := by decide +kernel
theorem dX4_dieHeight_17 : decode cX4_dieHeight 17 = .ok (.checkcast 133, 3) := by decide +kernel
theorem dX4_dieHeight_20 : decode cX4_dieHeight 20 = .ok (.getfield 178, 3) := by decide +kernel
theorem dX4_dieHeight_23 : decode cX4_dieHeight 23 = .ok (.iload_n 2, 1) := by decide +kernel
theorem dX4_dieHeight_24 : decode cX4_dieHeight 24 = .ok (.iaload, 1) := by decide +kernel
theorem dX4_dieHeight_25 : decode cX4_dieHeight 25 = .ok (.ireturn, 1) := by decide +kernel
theorem dX4_coinHeight_0 : decode cX4_coinHeight 0 = .ok (.aload_n 0, 1) := by decide +kernel
theorem dX4_coinHeight_1 : decode cX4_coinHeight 1 = .ok (.iload_n 1, 1) := by decide +kernel
theorem dX4_coinHeight_2 : decode cX4_coinHeight 2 = .ok (.invokevirtual 156, 3) := by decide +kernel
theorem dX4_coinHeight_5 : decode cX4_coinHeight 5 = .ok (.iload_n 2, 1) := by decide +kernel
theorem dX4_coinHeight_6 : decode cX4_coinHeight 6 = .ok (.invokestatic 42, 3) := by decide +kernel
theorem dX4_coinHeight_9 : decode cX4_coinHeight 9 = .ok (.aload_n 0, 1) := by decide +kernel
theorem dX4_coinHeight_10 : decode cX4_coinHeight 10 = .ok (.getfield 19, 3) := by decide +kernel
theorem dX4_coinHeight_13 : decode cX4_coinHeight 13 = .ok (.iload_n 1, 1) := by decide +kernel
theorem dX4_coinHeight_14 : decode cX4_coinHeight 14 = .ok (.invokevirtual 107, 3) := by decide +kernel
theorem dX4_coinHeight_17 : decode cX4_coinHeight 17 = .ok (.checkcast 169, 3) := by decide +kernel
theorem dX4_coinHeight_20 : decode cX4_coinHeight 20 = .ok (.getfield 171, 3) := by decide +kernel
theorem dX4_coinHeight_23 : decode cX4_coinHeight 23 = .ok (.iload_n 2, 1) := by decide +kernel
theorem dX4_coinHeight_24 : decode cX4_coinHeight 24 = .ok (.iaload, 1) := by decide +kernel
theorem dX4_coinHeight_25 : decode cX4_coinHeight 25 = .ok (.ireturn, 1) := by decide +kernel
theorem dX4_grade_0 : decode cX4_grade 0 = .ok (.aload_n 0, 1) := by decide +kernel
theorem dX4_grade_1 : decode cX4_grade 1 = .ok (.iload_n 1, 1) := by decide +kernel
theorem dX4_grade_2 : decode cX4_grade 2 = .ok (.invokevirtual 156, 3) := by decide +kernel
theorem dX4_grade_5 : decode cX4_grade 5 = .ok (.aload_n 0, 1) := by decide +kernel
theorem dX4_grade_6 : decode cX4_grade 6 = .ok (.getfield 19, 3) := by decide +kernel
theorem dX4_grade_9 : decode cX4_grade 9 = .ok (.iload_n 1, 1) := by decide +kernel
theorem dX4_grade_10 : decode cX4_grade 10 = .ok (.invokevirtual 107, 3) := by decide +kernel
theorem dX4_grade_13 : decode cX4_grade 13 = .ok (.checkcast 169, 3) := by decide +kernel
theorem dX4_grade_16 : decode cX4_grade 16 = .ok (.astore_n 2, 1) := by decide +kernel
theorem dX4_grade_17 : decode cX4_grade 17 = .ok (.aload_n 2, 1) := by decide +kernel
theorem dX4_grade_18 : decode cX4_grade 18 = .ok (.getfield 171, 3) := by decide +kernel
theorem dX4_grade_21 : decode cX4_grade 21 = .ok (.aload_n 2, 1) := by decide +kernel
theorem dX4_grade_22 : decode cX4_grade 22 = .ok (.getfield 179, 3) := by decide +kernel
theorem dX4_grade_25 : decode cX4_grade 25 = .ok (.getfield 183, 3) := by decide +kernel
theorem dX4_grade_28 : decode cX4_grade 28 = .ok (.invokestatic 186, 3) := by decide +kernel
theorem dX4_grade_31 : decode cX4_grade 31 = .ok (.istore_n 3, 1) := by decide +kernel
theorem dX4_grade_32 : decode cX4_grade 32 = .ok (.iconst 0, 1) := by decide +kernel
theorem dX4_grade_33 : decode cX4_grade 33 = .ok (.bipush 100, 2) := by decide +kernel
theorem dX4_grade_35 : decode cX4_grade 35 = .ok (.iconst 5, 1) := by decide +kernel
theorem dX4_grade_36 : decode cX4_grade 36 = .ok (.iload_n 3, 1) := by decide +kernel
theorem dX4_grade_37 : decode cX4_grade 37 = .ok (.imul, 1) := by decide +kernel
theorem dX4_grade_38 : decode cX4_grade 38 = .ok (.isub, 1) := by decide +kernel
theorem dX4_grade_39 : decode cX4_grade 39 = .ok (.invokestatic 190, 3) := by decide +kernel
theorem dX4_grade_42 : decode cX4_grade 42 = .ok (.ireturn, 1) := by decide +kernel
theorem dX4_isForged_0 : decode cX4_isForged 0 = .ok (.aload_n 0, 1) := by decide +kernel
theorem dX4_isForged_1 : decode cX4_isForged 1 = .ok (.iload_n 1, 1) := by decide +kernel
theorem dX4_isForged_2 : decode cX4_isForged 2 = .ok (.invokevirtual 156, 3) := by decide +kernel
theorem dX4_isForged_5 : decode cX4_isForged 5 = .ok (.aload_n 0, 1) := by decide +kernel
theorem dX4_isForged_6 : decode cX4_isForged 6 = .ok (.getfield 19, 3) := by decide +kernel
theorem dX4_isForged_9 : decode cX4_isForged 9 = .ok (.iload_n 1, 1) := by decide +kernel
theorem dX4_isForged_10 : decode cX4_isForged 10 = .ok (.invokevirtual 107, 3) := by decide +kernel
theorem dX4_isForged_13 : decode cX4_isForged 13 = .ok (.checkcast 169, 3) := by decide +kernel
theorem dX4_isForged_16 : decode cX4_isForged 16 = .ok (.astore_n 2, 1) := by decide +kernel
theorem dX4_isForged_17 : decode cX4_isForged 17 = .ok (.aload_n 2, 1) := by decide +kernel
theorem dX4_isForged_18 : decode cX4_isForged 18 = .ok (.getfield 171, 3) := by decide +kernel
theorem dX4_isForged_21 : decode cX4_isForged 21 = .ok (.aload_n 2, 1) := by decide +kernel
theorem dX4_isForged_22 : decode cX4_isForged 22 = .ok (.getfield 195, 3) := by decide +kernel
theorem dX4_isForged_25 : decode cX4_isForged 25 = .ok (.invokestatic 186, 3) := by decide +kernel
theorem dX4_isForged_28 : decode cX4_isForged 28 = .ok (.ifCond .eq 7, 3) := by decide +kernel
theorem dX4_isForged_31 : decode cX4_isForged 31 = .ok (.iconst 1, 1) := by decide +kernel
theorem dX4_isForged_32 : decode cX4_isForged 32 = .ok (.goto 4, 3) := by decide +kernel
theorem dX4_isForged_35 : decode cX4_isForged 35 = .ok (.iconst 0, 1) := by decide +kernel
theorem dX4_isForged_36 : decode cX4_isForged 36 = .ok (.ireturn, 1) := by decide +kernel
theorem dX4_distance_0 : decode cX4_distance 0 = .ok (.aload_n 0, 1) := by decide +kernel
theorem dX4_distance_1 : decode cX4_distance 1 = .ok (.iload_n 1, 1) := by decide +kernel
theorem dX4_distance_2 : decode cX4_distance 2 = .ok (.invokevirtual 156, 3) := by decide +kernel
theorem dX4_distance_5 : decode cX4_distance 5 = .ok (.aload_n 0, 1) := by decide +kernel
theorem dX4_distance_6 : decode cX4_distance 6 = .ok (.iload_n 2, 1) := by decide +kernel
theorem dX4_distance_7 : decode cX4_distance 7 = .ok (.invokevirtual 156, 3) := by decide +kernel
theorem dX4_distance_10 : decode cX4_distance 10 = .ok (.aload_n 0, 1) := by decide +kernel
theorem dX4_distance_11 : decode cX4_distance 11 = .ok (.getfield 19, 3) := by decide +kernel
theorem dX4_distance_14 : decode cX4_distance 14 = .ok (.iload_n 1, 1) := by decide +kernel
theorem dX4_distance_15 : decode cX4_distance 15 = .ok (.invokevirtual 107, 3) := by decide +kernel
theorem dX4_distance_18 : decode cX4_distance 18 = .ok (.checkcast 169, 3) := by decide +kernel
theorem dX4_distance_21 : decode cX4_distance 21 = .ok (.getfield 171, 3) := by decide +kernel
theorem dX4_distance_24 : decode cX4_distance 24 = .ok (.aload_n 0, 1) := by decide +kernel
theorem dX4_distance_25 : decode cX4_distance 25 = .ok (.getfield 19, 3) := by decide +kernel
theorem dX4_distance_28 : decode cX4_distance 28 = .ok (.iload_n 2, 1) := by decide +kernel
theorem dX4_distance_29 : decode cX4_distance 29 = .ok (.invokevirtual 107, 3) := by decide +kernel
theorem dX4_distance_32 : decode cX4_distance 32 = .ok (.checkcast 169, 3) := by decide +kernel
theorem dX4_distance_35 : decode cX4_distance 35 = .ok (.getfield 171, 3) := by decide +kernel
theorem dX4_distance_38 : decode cX4_distance 38 = .ok (.invokestatic 186, 3) := by decide +kernel
theorem dX4_distance_41 : decode cX4_distance 41 = .ok (.ireturn, 1) := by decide +kernel
theorem dX4_beginState_0 : decode cX4_beginState 0 = .ok (.aload_n 0, 1) := by decide +kernel
theorem dX4_beginState_1 : decode cX4_beginState 1 = .ok (.new 29, 3) := by decide +kernel
theorem dX4_beginState_4 : decode cX4_beginState 4 = .ok (.dup, 1) := by decide +kernel
theorem dX4_beginState_5 : decode cX4_beginState 5 = .ok (.aload_n 0, 1) := by decide +kernel
theorem dX4_beginState_6 : decode cX4_beginState 6 = .ok (.getfield 12, 3) := by decide +kernel
theorem dX4_beginState_9 : decode cX4_beginState 9 = .ok (.invokevirtual 100, 3) := by decide +kernel
theorem dX4_beginState_12 : decode cX4_beginState 12 = .ok (.aload_n 0, 1) := by decide +kernel
theorem dX4_beginState_13 : decode cX4_beginState 13 = .ok (.getfield 34, 3) := by decide +kernel
theorem dX4_beginState_16 : decode cX4_beginState 16 = .ok (.aload_n 0, 1) := by decide +kernel
theorem dX4_beginState_17 : decode cX4_beginState 17 = .ok (.getfield 34, 3) := by decide +kernel
theorem dX4_beginState_20 : decode cX4_beginState 20 = .ok (.getfield 198, 3) := by decide +kernel
theorem dX4_beginState_23 : decode cX4_beginState 23 = .ok (.invokevirtual 201, 3) := by decide +kernel
theorem dX4_beginState_26 : decode cX4_beginState 26 = .ok (.checkcast 202, 3) := by decide +kernel
theorem dX4_beginState_29 : decode cX4_beginState 29 = .ok (.invokespecial 31, 3) := by decide +kernel
theorem dX4_beginState_32 : decode cX4_beginState 32 = .ok (.putfield 34, 3) := by decide +kernel
theorem dX4_beginState_35 : decode cX4_beginState 35 = .ok (.aload_n 0, 1) := by decide +kernel
theorem dX4_beginState_36 : decode cX4_beginState 36 = .ok (.getfield 12, 3) := by decide +kernel
theorem dX4_beginState_39 : decode cX4_beginState 39 = .ok (.aload_n 0, 1) := by decide +kernel
theorem dX4_beginState_40 : decode cX4_beginState 40 = .ok (.getfield 34, 3) := by decide +kernel
theorem dX4_beginState_43 : decode cX4_beginState 43 = .ok (.invokevirtual 38, 3) := by decide +kernel
theorem dX4_beginState_46 : decode cX4_beginState 46 = .ok (.pop, 1) := by decide +kernel
theorem dX4_beginState_47 : decode cX4_beginState 47 = .ok (.return_, 1) := by decide +kernel
theorem dX4_findChild_0 : decode cX4_findChild 0 = .ok (.iconst 0, 1) := by decide +kernel
theorem dX4_findChild_1 : decode cX4_findChild 1 = .ok (.istore_n 2, 1) := by decide +kernel
theorem dX4_findChild_2 : decode cX4_findChild 2 = .ok (.iconst 0, 1) := by decide +kernel
theorem dX4_findChild_3 : decode cX4_findChild 3 = .ok (.istore_n 3, 1) := by decide +kernel
theorem dX4_findChild_4 : decode cX4_findChild 4 = .ok (.iload_n 3, 1) := by decide +kernel
theorem dX4_findChild_5 : decode cX4_findChild 5 = .ok (.aload_n 0, 1) := by decide +kernel
theorem dX4_findChild_6 : decode cX4_findChild 6 = .ok (.getfield 12, 3) := by decide +kernel
theorem dX4_findChild_9 : decode cX4_findChild 9 = .ok (.invokevirtual 100, 3) := by decide +kernel
theorem dX4_findChild_12 : decode cX4_findChild 12 = .ok (.if_icmp .ge 45, 3) := by decide +kernel
theorem dX4_findChild_15 : decode cX4_findChild 15 = .ok (.aload_n 0, 1) := by decide +kernel
theorem dX4_findChild_16 : decode cX4_findChild 16 = .ok (.getfield 12, 3) := by decide +kernel
theorem dX4_findChild_19 : decode cX4_findChild 19 = .ok (.iload_n 3, 1) := by decide +kernel
theorem dX4_findChild_20 : decode cX4_findChild 20 = .ok (.invokevirtual 107, 3) := by decide +kernel
theorem dX4_findChild_23 : decode cX4_findChild 23 = .ok (.checkcast 29, 3) := by decide +kernel
theorem dX4_findChild_26 : decode cX4_findChild 26 = .ok (.astore 4, 2) := by decide +kernel
theorem dX4_findChild_28 : decode cX4_findChild 28 = .ok (.aload 4, 2) := by decide +kernel
theorem dX4_findChild_30 : decode cX4_findChild 30 = .ok (.getfield 111, 3) := by decide +kernel
theorem dX4_findChild_33 : decode cX4_findChild 33 = .ok (.aload_n 0, 1) := by decide +kernel
theorem dX4_findChild_34 : decode cX4_findChild 34 = .ok (.getfield 34, 3) := by decide +kernel
theorem dX4_findChild_37 : decode cX4_findChild 37 = .ok (.if_acmp .ne 14, 3) := by decide +kernel
theorem dX4_findChild_40 : decode cX4_findChild 40 = .ok (.iload_n 2, 1) := by decide +kernel
theorem dX4_findChild_41 : decode cX4_findChild 41 = .ok (.iload_n 1, 1) := by decide +kernel
theorem dX4_findChild_42 : decode cX4_findChild 42 = .ok (.if_icmp .ne 6, 3) := by decide +kernel
theorem dX4_findChild_45 : decode cX4_findChild 45 = .ok (.aload 4, 2) := by decide +kernel
theorem dX4_findChild_47 : decode cX4_findChild 47 = .ok (.areturn, 1) := by decide +kernel
theorem dX4_findChild_48 : decode cX4_findChild 48 = .ok (.iinc 2 1, 3) := by decide +kernel
theorem dX4_findChild_51 : decode cX4_findChild 51 = .ok (.iinc 3 1, 3) := by decide +kernel
theorem dX4_findChild_54 : decode cX4_findChild 54 = .ok (.goto (-50), 3) := by decide +kernel
theorem dX4_findChild_57 : decode cX4_findChild 57 = .ok (.aconst_null, 1) := by decide +kernel
theorem dX4_findChild_58 : decode cX4_findChild 58 = .ok (.areturn, 1) := by decide +kernel
theorem dX4_keepCoin_0 : decode cX4_keepCoin 0 = .ok (.aload_n 0, 1) := by decide +kernel
theorem dX4_keepCoin_1 : decode cX4_keepCoin 1 = .ok (.getfield 19, 3) := by decide +kernel
theorem dX4_keepCoin_4 : decode cX4_keepCoin 4 = .ok (.aload_n 1, 1) := by decide +kernel
theorem dX4_keepCoin_5 : decode cX4_keepCoin 5 = .ok (.invokevirtual 38, 3) := by decide +kernel
theorem dX4_keepCoin_8 : decode cX4_keepCoin 8 = .ok (.pop, 1) := by decide +kernel
theorem dX4_keepCoin_9 : decode cX4_keepCoin 9 = .ok (.aload_n 0, 1) := by decide +kernel
theorem dX4_keepCoin_10 : decode cX4_keepCoin 10 = .ok (.getfield 19, 3) := by decide +kernel
theorem dX4_keepCoin_13 : decode cX4_keepCoin 13 = .ok (.invokevirtual 100, 3) := by decide +kernel
theorem dX4_keepCoin_16 : decode cX4_keepCoin 16 = .ok (.iconst 1, 1) := by decide +kernel
theorem dX4_keepCoin_17 : decode cX4_keepCoin 17 = .ok (.isub, 1) := by decide +kernel
theorem dX4_keepCoin_18 : decode cX4_keepCoin 18 = .ok (.ireturn, 1) := by decide +kernel
theorem dX4_distanceOfRows_0 : decode cX4_distanceOfRows 0 = .ok (.iconst 0, 1) := by decide +kernel
theorem dX4_distanceOfRows_1 : decode cX4_distanceOfRows 1 = .ok (.istore_n 2, 1) := by decide +kernel
theorem dX4_distanceOfRows_2 : decode cX4_distanceOfRows 2 = .ok (.iconst 0, 1) := by decide +kernel
theorem dX4_distanceOfRows_3 : decode cX4_distanceOfRows 3 = .ok (.istore_n 3, 1) := by decide +kernel
theorem dX4_distanceOfRows_4 : decode cX4_distanceOfRows 4 = .ok (.iload_n 3, 1) := by decide +kernel
theorem dX4_distanceOfRows_5 : decode cX4_distanceOfRows 5 = .ok (.aload_n 0, 1) := by decide +kernel
theorem dX4_distanceOfRows_6 : decode cX4_distanceOfRows 6 = .ok (.arraylength, 1) := by decide +kernel
theorem dX4_distanceOfRows_7 : decode cX4_distanceOfRows 7 = .ok (.if_icmp .ge 28, 3) := by decide +kernel
theorem dX4_distanceOfRows_10 : decode cX4_distanceOfRows 10 = .ok (.iload_n 3, 1) := by decide +kernel
theorem dX4_distanceOfRows_11 : decode cX4_distanceOfRows 11 = .ok (.aload_n 1, 1) := by decide +kernel
theorem dX4_distanceOfRows_12 : decode cX4_distanceOfRows 12 = .ok (.arraylength, 1) := by decide +kernel
theorem dX4_distanceOfRows_13 : decode cX4_distanceOfRows 13 = .ok (.if_icmp .ge 22, 3) := by decide +kernel
theorem dX4_distanceOfRows_16 : decode cX4_distanceOfRows 16 = .ok (.iload_n 2, 1) := by decide +kernel
theorem dX4_distanceOfRows_17 : decode cX4_distanceOfRows 17 = .ok (.aload_n 0, 1) := by decide +kernel
theorem dX4_distanceOfRows_18 : decode cX4_distanceOfRows 18 = .ok (.iload_n 3, 1) := by decide +kernel
theorem dX4_distanceOfRows_19 : decode cX4_distanceOfRows 19 = .ok (.iaload, 1) := by decide +kernel
theorem dX4_distanceOfRows_20 : decode cX4_distanceOfRows 20 = .ok (.aload_n 1, 1) := by decide +kernel
theorem dX4_distanceOfRows_21 : decode cX4_distanceOfRows 21 = .ok (.iload_n 3, 1) := by decide +kernel
theorem dX4_distanceOfRows_22 : decode cX4_distanceOfRows 22 = .ok (.iaload, 1) := by decide +kernel
theorem dX4_distanceOfRows_23 : decode cX4_distanceOfRows 23 = .ok (.isub, 1) := by decide +kernel
theorem dX4_distanceOfRows_24 : decode cX4_distanceOfRows 24 = .ok (.invokestatic 206, 3) := by decide +kernel
theorem dX4_distanceOfRows_27 : decode cX4_distanceOfRows 27 = .ok (.iadd, 1) := by decide +kernel
theorem dX4_distanceOfRows_28 : decode cX4_distanceOfRows 28 = .ok (.istore_n 2, 1) := by decide +kernel
theorem dX4_distanceOfRows_29 : decode cX4_distanceOfRows 29 = .ok (.iinc 3 1, 3) := by decide +kernel
theorem dX4_distanceOfRows_32 : decode cX4_distanceOfRows 32 = .ok (.goto (-28), 3) := by decide +kernel
theorem dX4_distanceOfRows_35 : decode cX4_distanceOfRows 35 = .ok (.iload_n 2, 1) := by decide +kernel
theorem dX4_distanceOfRows_36 : decode cX4_distanceOfRows 36 = .ok (.ireturn, 1) := by decide +kernel
theorem dX4_isColumn_0 : decode cX4_isColumn 0 = .ok (.iload_n 0, 1) := by decide +kernel
theorem dX4_isColumn_1 : decode cX4_isColumn 1 = .ok (.ifCond .lt 13, 3) := by decide +kernel
theorem dX4_isColumn_4 : decode cX4_isColumn 4 = .ok (.iload_n 0, 1) := by decide +kernel
theorem dX4_isColumn_5 : decode cX4_isColumn 5 = .ok (.bipush 16, 2) := by decide +kernel
theorem dX4_isColumn_7 : decode cX4_isColumn 7 = .ok (.if_icmp .ge 7, 3) := by decide +kernel
theorem dX4_isColumn_10 : decode cX4_isColumn 10 = .ok (.iconst 1, 1) := by decide +kernel
theorem dX4_isColumn_11 : decode cX4_isColumn 11 = .ok (.goto 4, 3) := by decide +kernel
theorem dX4_isColumn_14 : decode cX4_isColumn 14 = .ok (.iconst 0, 1) := by decide +kernel
theorem dX4_isColumn_15 : decode cX4_isColumn 15 = .ok (.ireturn, 1) := by decide +kernel
theorem dX4_isLevel_0 : decode cX4_isLevel 0 = .ok (.iload_n 0, 1) := by decide +kernel
theorem dX4_isLevel_1 : decode cX4_isLevel 1 = .ok (.ifCond .lt 13, 3) := by decide +kernel
theorem dX4_isLevel_4 : decode cX4_isLevel 4 = .ok (.iload_n 0, 1) := by decide +kernel
theorem dX4_isLevel_5 : decode cX4_isLevel 5 = .ok (.bipush 8, 2) := by decide +kernel
theorem dX4_isLevel_7 : decode cX4_isLevel 7 = .ok (.if_icmp .ge 7, 3) := by decide +kernel
theorem dX4_isLevel_10 : decode cX4_isLevel 10 = .ok (.iconst 1, 1) := by decide +kernel
theorem dX4_isLevel_11 : decode cX4_isLevel 11 = .ok (.goto 4, 3) := by decide +kernel
theorem dX4_isLevel_14 : decode cX4_isLevel 14 = .ok (.iconst 0, 1) := by decide +kernel
theorem dX4_isLevel_15 : decode cX4_isLevel 15 = .ok (.ireturn, 1) := by decide +kernel
theorem dX4_checkColumn_0 : decode cX4_checkColumn 0 = .ok (.iload_n 0, 1) := by decide +kernel
theorem dX4_checkColumn_1 : decode cX4_checkColumn 1 = .ok (.invokestatic 209, 3) := by decide +kernel
theorem dX4_checkColumn_4 : decode cX4_checkColumn 4 = .ok (.ifCond .ne 13, 3) := by decide +kernel
theorem dX4_checkColumn_7 : decode cX4_checkColumn 7 = .ok (.new 80, 3) := by decide +kernel
theorem dX4_checkColumn_10 : decode cX4_checkColumn 10 = .ok (.dup, 1) := by decide +kernel
theorem dX4_checkColumn_11 : decode cX4_checkColumn 11 = .ok (.ldc 213, 2) := by decide +kernel
theorem dX4_checkColumn_13 : decode cX4_checkColumn 13 = .ok (.invokespecial 84, 3) := by decide +kernel
theorem dX4_checkColumn_16 : decode cX4_checkColumn 16 = .ok (.athrow, 1) := by decide +kernel
theorem dX4_checkColumn_17 : decode cX4_checkColumn 17 = .ok (.return_, 1) := by decide +kernel
theorem dX4_checkLevel_0 : decode cX4_checkLevel 0 = .ok (.iload_n 0, 1) := by decide +kernel
theorem dX4_checkLevel_1 : decode cX4_checkLevel 1 = .ok (.invokestatic 215, 3) := by decide +kernel
theorem dX4_checkLevel_4 : decode cX4_checkLevel 4 = .ok (.ifCond .ne 13, 3) := by decide +kernel
theorem dX4_checkLevel_7 : decode cX4_checkLevel 7 = .ok (.new 80, 3) := by decide +kernel
theorem dX4_checkLevel_10 : decode cX4_checkLevel 10 = .ok (.dup, 1) := by decide +kernel
theorem dX4_checkLevel_11 : decode cX4_checkLevel 11 = .ok (.ldc 218, 2) := by decide +kernel
theorem dX4_checkLevel_13 : decode cX4_checkLevel 13 = .ok (.invokespecial 84, 3) := by decide +kernel
theorem dX4_checkLevel_16 : decode cX4_checkLevel 16 = .ok (.athrow, 1) := by decide +kernel
theorem dX4_checkLevel_17 : decode cX4_checkLevel 17 = .ok (.return_, 1) := by decide +kernel
theorem dX4_checkHeight_0 : decode cX4_checkHeight 0 = .ok (.iload_n 0, 1) := by decide +kernel
theorem dX4_checkHeight_1 : decode cX4_checkHeight 1 = .ok (.ifCond .lt 9, 3) := by decide +kernel
theorem dX4_checkHeight_4 : decode cX4_checkHeight 4 = .ok (.iload_n 0, 1) := by decide +kernel
theorem dX4_checkHeight_5 : decode cX4_checkHeight 5 = .ok (.bipush 8, 2) := by decide +kernel
theorem dX4_checkHeight_7 : decode cX4_checkHeight 7 = .ok (.if_icmp .le 13, 3) := by decide +kernel
theorem dX4_checkHeight_10 : decode cX4_checkHeight 10 = .ok (.new 159, 3) := by decide +kernel
theorem dX4_checkHeight_13 : decode cX4_checkHeight 13 = .ok (.dup, 1) := by decide +kernel
theorem dX4_checkHeight_14 : decode cX4_checkHeight 14 = .ok (.ldc 220, 2) := by decide +kernel
theorem dX4_checkHeight_16 : decode cX4_checkHeight 16 = .ok (.invokespecial 163, 3) := by decide +kernel
theorem dX4_checkHeight_19 : decode cX4_checkHeight 19 = .ok (.athrow, 1) := by decide +kernel
theorem dX4_checkHeight_20 : decode cX4_checkHeight 20 = .ok (.return_, 1) := by decide +kernel
theorem dX4_checkKindOrAir_0 : decode cX4_checkKindOrAir 0 = .ok (.iload_n 0, 1) := by decide +kernel
theorem dX4_checkKindOrAir_1 : decode cX4_checkKindOrAir 1 = .ok (.ifCond .lt 8, 3) := by decide +kernel
theorem dX4_checkKindOrAir_4 : decode cX4_checkKindOrAir 4 = .ok (.iload_n 0, 1) := by decide +kernel
theorem dX4_checkKindOrAir_5 : decode cX4_checkKindOrAir 5 = .ok (.iconst 3, 1) := by decide +kernel
theorem dX4_checkKindOrAir_6 : decode cX4_checkKindOrAir 6 = .ok (.if_icmp .le 13, 3) := by decide +kernel
theorem dX4_checkKindOrAir_9 : decode cX4_checkKindOrAir 9 = .ok (.new 159, 3) := by decide +kernel
theorem dX4_checkKindOrAir_12 : decode cX4_checkKindOrAir 12 = .ok (.dup, 1) := by decide +kernel
theorem dX4_checkKindOrAir_13 : decode cX4_checkKindOrAir 13 = .ok (.ldc 222, 2) := by decide +kernel
theorem dX4_checkKindOrAir_15 : decode cX4_checkKindOrAir 15 = .ok (.invokespecial 163, 3) := by decide +kernel
theorem dX4_checkKindOrAir_18 : decode cX4_checkKindOrAir 18 = .ok (.athrow, 1) := by decide +kernel
theorem dX4_checkKindOrAir_19 : decode cX4_checkKindOrAir 19 = .ok (.return_, 1) := by decide +kernel
theorem dX4_checkKindOfBlock_0 : decode cX4_checkKindOfBlock 0 = .ok (.iload_n 0, 1) := by decide +kernel
theorem dX4_checkKindOfBlock_1 : decode cX4_checkKindOfBlock 1 = .ok (.ifCond .le 8, 3) := by decide +kernel
theorem dX4_checkKindOfBlock_4 : decode cX4_checkKindOfBlock 4 = .ok (.iload_n 0, 1) := by decide +kernel
theorem dX4_checkKindOfBlock_5 : decode cX4_checkKindOfBlock 5 = .ok (.iconst 3, 1) := by decide +kernel
theorem dX4_checkKindOfBlock_6 : decode cX4_checkKindOfBlock 6 = .ok (.if_icmp .le 13, 3) := by decide +kernel
theorem dX4_checkKindOfBlock_9 : decode cX4_checkKindOfBlock 9 = .ok (.new 159, 3) := by decide +kernel
theorem dX4_checkKindOfBlock_12 : decode cX4_checkKindOfBlock 12 = .ok (.dup, 1) := by decide +kernel
theorem dX4_checkKindOfBlock_13 : decode cX4_checkKindOfBlock 13 = .ok (.ldc 222, 2) := by decide +kernel
theorem dX4_checkKindOfBlock_15 : decode cX4_checkKindOfBlock 15 = .ok (.invokespecial 163, 3) := by decide +kernel
theorem dX4_checkKindOfBlock_18 : decode cX4_checkKindOfBlock 18 = .ok (.athrow, 1) := by decide +kernel
theorem dX4_checkKindOfBlock_19 : decode cX4_checkKindOfBlock 19 = .ok (.return_, 1) := by decide +kernel
theorem dX4_checkState_0 : decode cX4_checkState 0 = .ok (.iload_n 1, 1) := by decide +kernel
theorem dX4_checkState_1 : decode cX4_checkState 1 = .ok (.ifCond .lt 14, 3) := by decide +kernel
theorem dX4_checkState_4 : decode cX4_checkState 4 = .ok (.iload_n 1, 1) := by decide +kernel
theorem dX4_checkState_5 : decode cX4_checkState 5 = .ok (.aload_n 0, 1) := by decide +kernel
theorem dX4_checkState_6 : decode cX4_checkState 6 = .ok (.getfield 12, 3) := by decide +kernel
theorem dX4_checkState_9 : decode cX4_checkState 9 = .ok (.invokevirtual 100, 3) := by decide +kernel
theorem dX4_checkState_12 : decode cX4_checkState 12 = .ok (.if_icmp .lt 13, 3) := by decide +kernel
theorem dX4_checkState_15 : decode cX4_checkState 15 = .ok (.new 80, 3) := by decide +kernel
theorem dX4_checkState_18 : decode cX4_checkState 18 = .ok (.dup, 1) := by decide +kernel
theorem dX4_checkState_19 : decode cX4_checkState 19 = .ok (.ldc 224, 2) := by decide +kernel
theorem dX4_checkState_21 : decode cX4_checkState 21 = .ok (.invokespecial 84, 3) := by decide +kernel
theorem dX4_checkState_24 : decode cX4_checkState 24 = .ok (.athrow, 1) := by decide +kernel
theorem dX4_checkState_25 : decode cX4_checkState 25 = .ok (.return_, 1) := by decide +kernel
theorem dX4_checkDie_0 : decode cX4_checkDie 0 = .ok (.iload_n 1, 1) := by decide +kernel
theorem dX4_checkDie_1 : decode cX4_checkDie 1 = .ok (.ifCond .lt 14, 3) := by decide +kernel
theorem dX4_checkDie_4 : decode cX4_checkDie 4 = .ok (.iload_n 1, 1) := by decide +kernel
theorem dX4_checkDie_5 : decode cX4_checkDie 5 = .ok (.aload_n 0, 1) := by decide +kernel
theorem dX4_checkDie_6 : decode cX4_checkDie 6 = .ok (.getfield 16, 3) := by decide +kernel
theorem dX4_checkDie_9 : decode cX4_checkDie 9 = .ok (.invokevirtual 100, 3) := by decide +kernel
theorem dX4_checkDie_12 : decode cX4_checkDie 12 = .ok (.if_icmp .lt 13, 3) := by decide +kernel
theorem dX4_checkDie_15 : decode cX4_checkDie 15 = .ok (.new 80, 3) := by decide +kernel
theorem dX4_checkDie_18 : decode cX4_checkDie 18 = .ok (.dup, 1) := by decide +kernel
theorem dX4_checkDie_19 : decode cX4_checkDie 19 = .ok (.ldc 226, 2) := by decide +kernel
theorem dX4_checkDie_21 : decode cX4_checkDie 21 = .ok (.invokespecial 84, 3) := by decide +kernel
theorem dX4_checkDie_24 : decode cX4_checkDie 24 = .ok (.athrow, 1) := by decide +kernel
theorem dX4_checkDie_25 : decode cX4_checkDie 25 = .ok (.return_, 1) := by decide +kernel
theorem dX4_checkCoin_0 : decode cX4_checkCoin 0 = .ok (.iload_n 1, 1) := by decide +kernel
theorem dX4_checkCoin_1 : decode cX4_checkCoin 1 = .ok (.ifCond .lt 14, 3) := by decide +kernel
theorem dX4_checkCoin_4 : decode cX4_checkCoin 4 = .ok (.iload_n 1, 1) := by decide +kernel
theorem dX4_checkCoin_5 : decode cX4_checkCoin 5 = .ok (.aload_n 0, 1) := by decide +kernel
theorem dX4_checkCoin_6 : decode cX4_checkCoin 6 = .ok (.getfield 19, 3) := by decide +kernel
theorem dX4_checkCoin_9 : decode cX4_checkCoin 9 = .ok (.invokevirtual 100, 3) := by decide +kernel
theorem dX4_checkCoin_12 : decode cX4_checkCoin 12 = .ok (.if_icmp .lt 13, 3) := by decide +kernel
theorem dX4_checkCoin_15 : decode cX4_checkCoin 15 = .ok (.new 80, 3) := by decide +kernel
theorem dX4_checkCoin_18 : decode cX4_checkCoin 18 = .ok (.dup, 1) := by decide +kernel
theorem dX4_checkCoin_19 : decode cX4_checkCoin 19 = .ok (.ldc 228, 2) := by decide +kernel
theorem dX4_checkCoin_21 : decode cX4_checkCoin 21 = .ok (.invokespecial 84, 3) := by decide +kernel
theorem dX4_checkCoin_24 : decode cX4_checkCoin 24 = .ok (.athrow, 1) := by decide +kernel
theorem dX4_checkCoin_25 : decode cX4_checkCoin 25 = .ok (.return_, 1) := by decide +kernel
theorem dX4_checkRoomForState_0 : decode cX4_checkRoomForState 0 = .ok (.aload_n 0, 1) := by decide +kernel
theorem dX4_checkRoomForState_1 : decode cX4_checkRoomForState 1 = .ok (.getfield 12, 3) := by decide +kernel
theorem dX4_checkRoomForState_4 : decode cX4_checkRoomForState 4 = .ok (.invokevirtual 100, 3) := by decide +kernel
theorem dX4_checkRoomForState_7 : decode cX4_checkRoomForState 7 = .ok (.bipush 61, 2) := by decide +kernel
theorem dX4_checkRoomForState_9 : decode cX4_checkRoomForState 9 = .ok (.if_icmp .lt 13, 3) := by decide +kernel
theorem dX4_checkRoomForState_12 : decode cX4_checkRoomForState 12 = .ok (.new 114, 3) := by decide +kernel
theorem dX4_checkRoomForState_15 : decode cX4_checkRoomForState 15 = .ok (.dup, 1) := by decide +kernel
theorem dX4_checkRoomForState_16 : decode cX4_checkRoomForState 16 = .ok (.ldc 230, 2) := by decide +kernel
theorem dX4_checkRoomForState_18 : decode cX4_checkRoomForState 18 = .ok (.invokespecial 118, 3) := by decide +kernel
theorem dX4_checkRoomForState_21 : decode cX4_checkRoomForState 21 = .ok (.athrow, 1) := by decide +kernel
theorem dX4_checkRoomForState_22 : decode cX4_checkRoomForState 22 = .ok (.return_, 1) := by decide +kernel
theorem dX4_checkRoomForCoin_0 : decode cX4_checkRoomForCoin 0 = .ok (.aload_n 0, 1) := by decide +kernel
theorem dX4_checkRoomForCoin_1 : decode cX4_checkRoomForCoin 1 = .ok (.getfield 19, 3) := by decide +kernel
theorem dX4_checkRoomForCoin_4 : decode cX4_checkRoomForCoin 4 = .ok (.invokevirtual 100, 3) := by decide +kernel
theorem dX4_checkRoomForCoin_7 : decode cX4_checkRoomForCoin 7 = .ok (.bipush 60, 2) := by decide +kernel
theorem dX4_checkRoomForCoin_9 : decode cX4_checkRoomForCoin 9 = .ok (.if_icmp .lt 13, 3) := by decide +kernel
theorem dX4_checkRoomForCoin_12 : decode cX4_checkRoomForCoin 12 = .ok (.new 114, 3) := by decide +kernel
theorem dX4_checkRoomForCoin_15 : decode cX4_checkRoomForCoin 15 = .ok (.dup, 1) := by decide +kernel
theorem dX4_checkRoomForCoin_16 : decode cX4_checkRoomForCoin 16 = .ok (.ldc 232, 2) := by decide +kernel
theorem dX4_checkRoomForCoin_18 : decode cX4_checkRoomForCoin 18 = .ok (.invokespecial 118, 3) := by decide +kernel
theorem dX4_checkRoomForCoin_21 : decode cX4_checkRoomForCoin 21 = .ok (.athrow, 1) := by decide +kernel
theorem dX4_checkRoomForCoin_22 : decode cX4_checkRoomForCoin 22 = .ok (.return_, 1) := by decide +kernel
theorem dJ9_abs_0f7a4_0 : decode cJ9_abs_0f7a4 0 = .ok (.iload_n 0, 1) := by decide +kernel
theorem dJ9_abs_0f7a4_1 : decode cJ9_abs_0f7a4 1 = .ok (.ifCond .ge 8, 3) := by decide +kernel
theorem dJ9_abs_0f7a4_4 : decode cJ9_abs_0f7a4 4 = .ok (.iload_n 0, 1) := by decide +kernel
theorem dJ9_abs_0f7a4_5 : decode cJ9_abs_0f7a4 5 = .ok (.ineg, 1) := by decide +kernel
theorem dJ9_abs_0f7a4_6 : decode cJ9_abs_0f7a4 6 = .ok (.goto 4, 3) := by decide +kernel
theorem dJ9_abs_0f7a4_9 : decode cJ9_abs_0f7a4 9 = .ok (.iload_n 0, 1) := by decide +kernel
theorem dJ9_abs_0f7a4_10 : decode cJ9_abs_0f7a4 10 = .ok (.ireturn, 1) := by decide +kernel
theorem dJ9_max_7cf53_0 : decode cJ9_max_7cf53 0 = .ok (.iload_n 0, 1) := by decide +kernel
theorem dJ9_max_7cf53_1 : decode cJ9_max_7cf53 1 = .ok (.iload_n 1, 1) := by decide +kernel
theorem dJ9_max_7cf53_2 : decode cJ9_max_7cf53 2 = .ok (.if_icmp .lt 7, 3) := by decide +kernel
theorem dJ9_max_7cf53_5 : decode cJ9_max_7cf53 5 = .ok (.iload_n 0, 1) := by decide +kernel
theorem dJ9_max_7cf53_6 : decode cJ9_max_7cf53 6 = .ok (.goto 4, 3) := by decide +kernel
theorem dJ9_max_7cf53_9 : decode cJ9_max_7cf53 9 = .ok (.iload_n 1, 1) := by decide +kernel
theorem dJ9_max_7cf53_10 : decode cJ9_max_7cf53 10 = .ok (.ireturn, 1) := by decide +kernel
theorem dJ9_min_7cf53_0 : decode cJ9_min_7cf53 0 = .ok (.iload_n 0, 1) := by decide +kernel
theorem dJ9_min_7cf53_1 : decode cJ9_min_7cf53 1 = .ok (.iload_n 1, 1) := by decide +kernel
theorem dJ9_min_7cf53_2 : decode cJ9_min_7cf53 2 = .ok (.if_icmp .gt 7, 3) := by decide +kernel
theorem dJ9_min_7cf53_5 : decode cJ9_min_7cf53 5 = .ok (.iload_n 0, 1) := by decide +kernel
theorem dJ9_min_7cf53_6 : decode cJ9_min_7cf53 6 = .ok (.goto 4, 3) := by decide +kernel
theorem dJ9_min_7cf53_9 : decode cJ9_min_7cf53 9 = .ok (.iload_n 1, 1) := by decide +kernel
theorem dJ9_min_7cf53_10 : decode cJ9_min_7cf53 10 = .ok (.ireturn, 1) := by decide +kernel
theorem dJxa1e45_init_da8c8_0 : decode cJxa1e45_init_da8c8 0 = .ok (.aload_n 0, 1) := by decide +kernel
theorem dJxa1e45_init_da8c8_1 : decode cJxa1e45_init_da8c8 1 = .ok (.invokespecial 1, 3) := by decide +kernel
theorem dJxa1e45_init_da8c8_4 : decode cJxa1e45_init_da8c8 4 = .ok (.return_, 1) := by decide +kernel
theorem dJxc12de_init_da8c8_0 : decode cJxc12de_init_da8c8 0 = .ok (.aload_n 0, 1) := by decide +kernel
theorem dJxc12de_init_da8c8_1 : decode cJxc12de_init_da8c8 1 = .ok (.invokespecial 1, 3) := by decide +kernel
theorem dJxc12de_init_da8c8_4 : decode cJxc12de_init_da8c8 4 = .ok (.aload_n 0, 1) := by decide +kernel
theorem dJxc12de_init_da8c8_5 : decode cJxc12de_init_da8c8 5 = .ok (.iconst 0, 1) := by decide +kernel
theorem dJxc12de_init_da8c8_6 : decode cJxc12de_init_da8c8 6 = .ok (.putfield 7, 3) := by decide +kernel
theorem dJxc12de_init_da8c8_9 : decode cJxc12de_init_da8c8 9 = .ok (.return_, 1) := by decide +kernel
theorem dJx4a65c_init_da8c8_0 : decode cJx4a65c_init_da8c8 0 = .ok (.aload_n 0, 1) := by decide +kernel
theorem dJx4a65c_init_da8c8_1 : decode cJx4a65c_init_da8c8 1 = .ok (.invokespecial 1, 3) := by decide +kernel
theorem dJx4a65c_init_da8c8_4 : decode cJx4a65c_init_da8c8 4 = .ok (.aload_n 0, 1) := by decide +kernel
theorem dJx4a65c_init_da8c8_5 : decode cJx4a65c_init_da8c8 5 = .ok (.getstatic 39, 3) := by decide +kernel
theorem dJx4a65c_init_da8c8_8 : decode cJx4a65c_init_da8c8 8 = .ok (.putfield 9, 3) := by decide +kernel
theorem dJx4a65c_init_da8c8_11 : decode cJx4a65c_init_da8c8 11 = .ok (.return_, 1) := by decide +kernel
theorem dJx4a65c_grow_92f84_0 : decode cJx4a65c_grow_92f84 0 = .ok (.aload_n 0, 1) := by decide +kernel
theorem dJx4a65c_grow_92f84_1 : decode cJx4a65c_grow_92f84 1 = .ok (.getfield 9, 3) := by decide +kernel
theorem dJx4a65c_grow_92f84_4 : decode cJx4a65c_grow_92f84 4 = .ok (.arraylength, 1) := by decide +kernel
theorem dJx4a65c_grow_92f84_5 : decode cJx4a65c_grow_92f84 5 = .ok (.istore_n 2, 1) := by decide +kernel
theorem dJx4a65c_grow_92f84_6 : decode cJx4a65c_grow_92f84 6 = .ok (.iload_n 2, 1) := by decide +kernel
theorem dJx4a65c_grow_92f84_7 : decode cJx4a65c_grow_92f84 7 = .ok (.ifCond .gt 13, 3) := by decide +kernel
theorem dJx4a65c_grow_92f84_10 : decode cJx4a65c_grow_92f84 10 = .ok (.aload_n 0, 1) := by decide +kernel
theorem dJx4a65c_grow_92f84_11 : decode cJx4a65c_grow_92f84 11 = .ok (.getfield 9, 3) := by decide +kernel
theorem dJx4a65c_grow_92f84_14 : decode cJx4a65c_grow_92f84 14 = .ok (.getstatic 39, 3) := by decide +kernel
theorem dJx4a65c_grow_92f84_17 : decode cJx4a65c_grow_92f84 17 = .ok (.if_acmp .eq 28, 3) := by decide +kernel
theorem dJx4a65c_grow_92f84_20 : decode cJx4a65c_grow_92f84 20 = .ok (.iload_n 2, 1) := by decide +kernel
theorem dJx4a65c_grow_92f84_21 : decode cJx4a65c_grow_92f84 21 = .ok (.iload_n 1, 1) := by decide +kernel
theorem dJx4a65c_grow_92f84_22 : decode cJx4a65c_grow_92f84 22 = .ok (.iload_n 2, 1) := by decide +kernel
theorem dJx4a65c_grow_92f84_23 : decode cJx4a65c_grow_92f84 23 = .ok (.isub, 1) := by decide +kernel
theorem dJx4a65c_grow_92f84_24 : decode cJx4a65c_grow_92f84 24 = .ok (.iload_n 2, 1) := by decide +kernel
theorem dJx4a65c_grow_92f84_25 : decode cJx4a65c_grow_92f84 25 = .ok (.iconst 1, 1) := by decide +kernel
theorem dJx4a65c_grow_92f84_26 : decode cJx4a65c_grow_92f84 26 = .ok (.ishr, 1) := by decide +kernel
theorem dJx4a65c_grow_92f84_27 : decode cJx4a65c_grow_92f84 27 = .ok (.invokestatic 73, 3) := by decide +kernel
theorem dJx4a65c_grow_92f84_30 : decode cJx4a65c_grow_92f84 30 = .ok (.istore_n 3, 1) := by decide +kernel
theorem dJx4a65c_grow_92f84_31 : decode cJx4a65c_grow_92f84 31 = .ok (.aload_n 0, 1) := by decide +kernel
theorem dJx4a65c_grow_92f84_32 : decode cJx4a65c_grow_92f84 32 = .ok (.aload_n 0, 1) := by decide +kernel
theorem dJx4a65c_grow_92f84_33 : decode cJx4a65c_grow_92f84 33 = .ok (.getfield 9, 3) := by decide +kernel
theorem dJx4a65c_grow_92f84_36 : decode cJx4a65c_grow_92f84 36 = .ok (.iload_n 3, 1) := by decide +kernel
theorem dJx4a65c_grow_92f84_37 : decode cJx4a65c_grow_92f84 37 = .ok (.invokestatic 66, 3) := by decide +kernel
theorem dJx4a65c_grow_92f84_40 : decode cJx4a65c_grow_92f84 40 = .ok (.dup_x1, 1) := by decide +kernel
theorem dJx4a65c_grow_92f84_41 : decode cJx4a65c_grow_92f84 41 = .ok (.putfield 9, 3) := by decide +kernel
theorem dJx4a65c_grow_92f84_44 : decode cJx4a65c_grow_92f84 44 = .ok (.areturn, 1) := by decide +kernel
theorem dJx4a65c_grow_92f84_45 : decode cJx4a65c_grow_92f84 45 = .ok (.aload_n 0, 1) := by decide +kernel
theorem dJx4a65c_grow_92f84_46 : decode cJx4a65c_grow_92f84 46 = .ok (.bipush 10, 2) := by decide +kernel
theorem dJx4a65c_grow_92f84_48 : decode cJx4a65c_grow_92f84 48 = .ok (.iload_n 1, 1) := by decide +kernel
theorem dJx4a65c_grow_92f84_49 : decode cJx4a65c_grow_92f84 49 = .ok (.invokestatic 79, 3) := by decide +kernel
theorem dJx4a65c_grow_92f84_52 : decode cJx4a65c_grow_92f84 52 = .ok (.anewarray 7, 3) := by decide +kernel
theorem dJx4a65c_grow_92f84_55 : decode cJx4a65c_grow_92f84 55 = .ok (.dup_x1, 1) := by decide +kernel
theorem dJx4a65c_grow_92f84_56 : decode cJx4a65c_grow_92f84 56 = .ok (.putfield 9, 3) := by decide +kernel
theorem dJx4a65c_grow_92f84_59 : decode cJx4a65c_grow_92f84 59 = .ok (.areturn, 1) := by decide +kernel
theorem dJx4a65c_grow_d5877_0 : decode cJx4a65c_grow_d5877 0 = .ok (.aload_n 0, 1) := by decide +kernel
theorem dJx4a65c_grow_d5877_1 : decode cJx4a65c_grow_d5877 1 = .ok (.aload_n 0, 1) := by decide +kernel
theorem dJx4a65c_grow_d5877_2 : decode cJx4a65c_grow_d5877 2 = .ok (.getfield 48, 3) := by decide +kernel
theorem dJx4a65c_grow_d5877_5 : decode cJx4a65c_grow_d5877 5 = .ok (.iconst 1, 1) := by decide +kernel
theorem dJx4a65c_grow_d5877_6 : decode cJx4a65c_grow_d5877 6 = .ok (.iadd, 1) := by decide +kernel
theorem dJx4a65c_grow_d5877_7 : decode cJx4a65c_grow_d5877 7 = .ok (.invokevirtual 69, 3) := by decide +kernel
theorem dJx4a65c_grow_d5877_10 : decode cJx4a65c_grow_d5877 10 = .ok (.areturn, 1) := by decide +kernel
theorem dJx4a65c_size_8abf5_0 : decode cJx4a65c_size_8abf5 0 = .ok (.aload_n 0, 1) := by decide +kernel
theorem dJx4a65c_size_8abf5_1 : decode cJx4a65c_size_8abf5 1 = .ok (.getfield 48, 3) := by decide +kernel
theorem dJx4a65c_size_8abf5_4 : decode cJx4a65c_size_8abf5 4 = .ok (.ireturn, 1) := by decide +kernel
theorem dJx4a65c_elementData_915e3_0 : decode cJx4a65c_elementData_915e3 0 = .ok (.aload_n 0, 1) := by decide +kernel
theorem dJx4a65c_elementData_915e3_1 : decode cJx4a65c_elementData_915e3 1 = .ok (.getfield 9, 3) := by decide +kernel
theorem dJx4a65c_elementData_915e3_4 : decode cJx4a65c_elementData_915e3 4 = .ok (.iload_n 1, 1) := by decide +kernel
theorem dJx4a65c_elementData_915e3_5 : decode cJx4a65c_elementData_915e3 5 = .ok (.aaload, 1) := by decide +kernel
theorem dJx4a65c_elementData_915e3_6 : decode cJx4a65c_elementData_915e3 6 = .ok (.areturn, 1) := by decide +kernel
theorem dJx4a65c_get_915e3_0 : decode cJx4a65c_get_915e3 0 = .ok (.iload_n 1, 1) := by decide +kernel
theorem dJx4a65c_get_915e3_1 : decode cJx4a65c_get_915e3 1 = .ok (.aload_n 0, 1) := by decide +kernel
theorem dJx4a65c_get_915e3_2 : decode cJx4a65c_get_915e3 2 = .ok (.getfield 48, 3) := by decide +kernel
theorem dJx4a65c_get_915e3_5 : decode cJx4a65c_get_915e3 5 = .ok (.invokestatic 118, 3) := by decide +kernel
theorem dJx4a65c_get_915e3_8 : decode cJx4a65c_get_915e3 8 = .ok (.pop, 1) := by decide +kernel
theorem dJx4a65c_get_915e3_9 : decode cJx4a65c_get_915e3 9 = .ok (.aload_n 0, 1) := by decide +kernel
theorem dJx4a65c_get_915e3_10 : decode cJx4a65c_get_915e3 10 = .ok (.iload_n 1, 1) := by decide +kernel
theorem dJx4a65c_get_915e3_11 : decode cJx4a65c_get_915e3 11 = .ok (.invokevirtual 123, 3) := by decide +kernel
theorem dJx4a65c_get_915e3_14 : decode cJx4a65c_get_915e3 14 = .ok (.areturn, 1) := by decide +kernel
theorem dJx4a65c_add_72be8_0 : decode cJx4a65c_add_72be8 0 = .ok (.iload_n 3, 1) := by decide +kernel
theorem dJx4a65c_add_72be8_1 : decode cJx4a65c_add_72be8 1 = .ok (.aload_n 2, 1) := by decide +kernel
theorem dJx4a65c_add_72be8_2 : decode cJx4a65c_add_72be8 2 = .ok (.arraylength, 1) := by decide +kernel
theorem dJx4a65c_add_72be8_3 : decode cJx4a65c_add_72be8 3 = .ok (.if_icmp .ne 8, 3) := by decide +kernel
theorem dJx4a65c_add_72be8_6 : decode cJx4a65c_add_72be8 6 = .ok (.aload_n 0, 1) := by decide +kernel
theorem dJx4a65c_add_72be8_7 : decode cJx4a65c_add_72be8 7 = .ok (.invokevirtual 129, 3) := by decide +kernel
theorem dJx4a65c_add_72be8_10 : decode cJx4a65c_add_72be8 10 = .ok (.astore_n 2, 1) := by decide +kernel
theorem dJx4a65c_add_72be8_11 : decode cJx4a65c_add_72be8 11 = .ok (.aload_n 2, 1) := by decide +kernel
theorem dJx4a65c_add_72be8_12 : decode cJx4a65c_add_72be8 12 = .ok (.iload_n 3, 1) := by decide +kernel
theorem dJx4a65c_add_72be8_13 : decode cJx4a65c_add_72be8 13 = .ok (.aload_n 1, 1) := by decide +kernel
theorem dJx4a65c_add_72be8_14 : decode cJx4a65c_add_72be8 14 = .ok (.aastore, 1) := by decide +kernel
theorem dJx4a65c_add_72be8_15 : decode cJx4a65c_add_72be8 15 = .ok (.aload_n 0, 1) := by decide +kernel
theorem dJx4a65c_add_72be8_16 : decode cJx4a65c_add_72be8 16 = .ok (.iload_n 3, 1) := by decide +kernel
theorem dJx4a65c_add_72be8_17 : decode cJx4a65c_add_72be8 17 = .ok (.iconst 1, 1) := by decide +kernel
theorem dJx4a65c_add_72be8_18 : decode cJx4a65c_add_72be8 18 = .ok (.iadd, 1) := by decide +kernel
theorem dJx4a65c_add_72be8_19 : decode cJx4a65c_add_72be8 19 = .ok (.putfield 48, 3) := by decide +kernel
theorem dJx4a65c_add_72be8_22 : decode cJx4a65c_add_72be8 22 = .ok (.return_, 1) := by decide +kernel
theorem dJx4a65c_add_9ea2d_0 : decode cJx4a65c_add_9ea2d 0 = .ok (.aload_n 0, 1) := by decide +kernel
theorem dJx4a65c_add_9ea2d_1 : decode cJx4a65c_add_9ea2d 1 = .ok (.dup, 1) := by decide +kernel
theorem dJx4a65c_add_9ea2d_2 : decode cJx4a65c_add_9ea2d 2 = .ok (.getfield 63, 3) := by decide +kernel
theorem dJx4a65c_add_9ea2d_5 : decode cJx4a65c_add_9ea2d 5 = .ok (.iconst 1, 1) := by decide +kernel
theorem dJx4a65c_add_9ea2d_6 : decode cJx4a65c_add_9ea2d 6 = .ok (.iadd, 1) := by decide +kernel
theorem dJx4a65c_add_9ea2d_7 : decode cJx4a65c_add_9ea2d 7 = .ok (.putfield 63, 3) := by decide +kernel
theorem dJx4a65c_add_9ea2d_10 : decode cJx4a65c_add_9ea2d 10 = .ok (.aload_n 0, 1) := by decide +kernel
theorem dJx4a65c_add_9ea2d_11 : decode cJx4a65c_add_9ea2d 11 = .ok (.aload_n 1, 1) := by decide +kernel
theorem dJx4a65c_add_9ea2d_12 : decode cJx4a65c_add_9ea2d 12 = .ok (.aload_n 0, 1) := by decide +kernel
theorem dJx4a65c_add_9ea2d_13 : decode cJx4a65c_add_9ea2d 13 = .ok (.getfield 9, 3) := by decide +kernel
theorem dJx4a65c_add_9ea2d_16 : decode cJx4a65c_add_9ea2d 16 = .ok (.aload_n 0, 1) := by decide +kernel
theorem dJx4a65c_add_9ea2d_17 : decode cJx4a65c_add_9ea2d 17 = .ok (.getfield 48, 3) := by decide +kernel
theorem dJx4a65c_add_9ea2d_20 : decode cJx4a65c_add_9ea2d 20 = .ok (.invokevirtual 131, 3) := by decide +kernel
theorem dJx4a65c_add_9ea2d_23 : decode cJx4a65c_add_9ea2d 23 = .ok (.iconst 1, 1) := by decide +kernel
theorem dJx4a65c_add_9ea2d_24 : decode cJx4a65c_add_9ea2d 24 = .ok (.ireturn, 1) := by decide +kernel
theorem dJ7_fill_53178_0 : decode cJ7_fill_53178 0 = .ok (.iconst 0, 1) := by decide +kernel
theorem dJ7_fill_53178_1 : decode cJ7_fill_53178 1 = .ok (.istore_n 2, 1) := by decide +kernel
theorem dJ7_fill_53178_2 : decode cJ7_fill_53178 2 = .ok (.aload_n 0, 1) := by decide +kernel
theorem dJ7_fill_53178_3 : decode cJ7_fill_53178 3 = .ok (.arraylength, 1) := by decide +kernel
theorem dJ7_fill_53178_4 : decode cJ7_fill_53178 4 = .ok (.istore_n 3, 1) := by decide +kernel
theorem dJ7_fill_53178_5 : decode cJ7_fill_53178 5 = .ok (.iload_n 2, 1) := by decide +kernel
theorem dJ7_fill_53178_6 : decode cJ7_fill_53178 6 = .ok (.iload_n 3, 1) := by decide +kernel
theorem dJ7_fill_53178_7 : decode cJ7_fill_53178 7 = .ok (.if_icmp .ge 13, 3) := by decide +kernel
theorem dJ7_fill_53178_10 : decode cJ7_fill_53178 10 = .ok (.aload_n 0, 1) := by decide +kernel
theorem dJ7_fill_53178_11 : decode cJ7_fill_53178 11 = .ok (.iload_n 2, 1) := by decide +kernel
theorem dJ7_fill_53178_12 : decode cJ7_fill_53178 12 = .ok (.iload_n 1, 1) := by decide +kernel
theorem dJ7_fill_53178_13 : decode cJ7_fill_53178 13 = .ok (.iastore, 1) := by decide +kernel
theorem dJ7_fill_53178_14 : decode cJ7_fill_53178 14 = .ok (.iinc 2 1, 3) := by decide +kernel
theorem dJ7_fill_53178_17 : decode cJ7_fill_53178 17 = .ok (.goto (-12), 3) := by decide +kernel
theorem dJ7_fill_53178_20 : decode cJ7_fill_53178 20 = .ok (.return_, 1) := by decide +kernel
theorem dJ7_copyOf_1904c_0 : decode cJ7_copyOf_1904c 0 = .ok (.aload_n 0, 1) := by decide +kernel
theorem dJ7_copyOf_1904c_1 : decode cJ7_copyOf_1904c 1 = .ok (.iload_n 1, 1) := by decide +kernel
theorem dJ7_copyOf_1904c_2 : decode cJ7_copyOf_1904c 2 = .ok (.aload_n 0, 1) := by decide +kernel
theorem dJ7_copyOf_1904c_3 : decode cJ7_copyOf_1904c 3 = .ok (.invokevirtual 86, 3) := by decide +kernel
theorem dJ7_copyOf_1904c_6 : decode cJ7_copyOf_1904c 6 = .ok (.invokestatic 300, 3) := by decide +kernel
theorem dJ7_copyOf_1904c_9 : decode cJ7_copyOf_1904c 9 = .ok (.areturn, 1) := by decide +kernel
theorem dJ7_copyOf_6403c_0 : decode cJ7_copyOf_6403c 0 = .ok (.aload_n 2, 1) := by decide +kernel
theorem dJ7_copyOf_6403c_1 : decode cJ7_copyOf_6403c 1 = .ok (.ldc 110, 2) := by decide +kernel
theorem dJ7_copyOf_6403c_3 : decode cJ7_copyOf_6403c 3 = .ok (.if_acmp .ne 10, 3) := by decide +kernel
theorem dJ7_copyOf_6403c_6 : decode cJ7_copyOf_6403c 6 = .ok (.iload_n 1, 1) := by decide +kernel
theorem dJ7_copyOf_6403c_7 : decode cJ7_copyOf_6403c 7 = .ok (.anewarray 2, 3) := by decide +kernel
theorem dJ7_copyOf_6403c_10 : decode cJ7_copyOf_6403c 10 = .ok (.goto 14, 3) := by decide +kernel
theorem dJ7_copyOf_6403c_13 : decode cJ7_copyOf_6403c 13 = .ok (.aload_n 2, 1) := by decide +kernel
theorem dJ7_copyOf_6403c_14 : decode cJ7_copyOf_6403c 14 = .ok (.invokevirtual 90, 3) := by decide +kernel
theorem dJ7_copyOf_6403c_17 : decode cJ7_copyOf_6403c 17 = .ok (.iload_n 1, 1) := by decide +kernel
theorem dJ7_copyOf_6403c_18 : decode cJ7_copyOf_6403c 18 = .ok (.invokestatic 95, 3) := by decide +kernel
theorem dJ7_copyOf_6403c_21 : decode cJ7_copyOf_6403c 21 = .ok (.checkcast 110, 3) := by decide +kernel
theorem dJ7_copyOf_6403c_24 : decode cJ7_copyOf_6403c 24 = .ok (.astore_n 3, 1) := by decide +kernel
theorem dJ7_copyOf_6403c_25 : decode cJ7_copyOf_6403c 25 = .ok (.aload_n 0, 1) := by decide +kernel
theorem dJ7_copyOf_6403c_26 : decode cJ7_copyOf_6403c 26 = .ok (.iconst 0, 1) := by decide +kernel
theorem dJ7_copyOf_6403c_27 : decode cJ7_copyOf_6403c 27 = .ok (.aload_n 3, 1) := by decide +kernel
theorem dJ7_copyOf_6403c_28 : decode cJ7_copyOf_6403c 28 = .ok (.iconst 0, 1) := by decide +kernel
theorem dJ7_copyOf_6403c_29 : decode cJ7_copyOf_6403c 29 = .ok (.aload_n 0, 1) := by decide +kernel
theorem dJ7_copyOf_6403c_30 : decode cJ7_copyOf_6403c 30 = .ok (.arraylength, 1) := by decide +kernel
theorem dJ7_copyOf_6403c_31 : decode cJ7_copyOf_6403c 31 = .ok (.iload_n 1, 1) := by decide +kernel
theorem dJ7_copyOf_6403c_32 : decode cJ7_copyOf_6403c 32 = .ok (.invokestatic 304, 3) := by decide +kernel
theorem dJ7_copyOf_6403c_35 : decode cJ7_copyOf_6403c 35 = .ok (.invokestatic 150, 3) := by decide +kernel
theorem dJ7_copyOf_6403c_38 : decode cJ7_copyOf_6403c 38 = .ok (.aload_n 3, 1) := by decide +kernel
theorem dJ7_copyOf_6403c_39 : decode cJ7_copyOf_6403c 39 = .ok (.areturn, 1) := by decide +kernel
theorem dJ15_checkIndex_7cf53_0 : decode cJ15_checkIndex_7cf53 0 = .ok (.iload_n 0, 1) := by decide +kernel
theorem dJ15_checkIndex_7cf53_1 : decode cJ15_checkIndex_7cf53 1 = .ok (.iload_n 1, 1) := by decide +kernel
theorem dJ15_checkIndex_7cf53_2 : decode cJ15_checkIndex_7cf53 2 = .ok (.aconst_null, 1) := by decide +kernel
theorem dJ15_checkIndex_7cf53_3 : decode cJ15_checkIndex_7cf53 3 = .ok (.invokestatic 105, 3) := by decide +kernel
theorem dJ15_checkIndex_7cf53_6 : decode cJ15_checkIndex_7cf53 6 = .ok (.ireturn, 1) := by decide +kernel
theorem dJ8_newLength_cabcc_0 : decode cJ8_newLength_cabcc 0 = .ok (.iload_n 0, 1) := by decide +kernel
theorem dJ8_newLength_cabcc_1 : decode cJ8_newLength_cabcc 1 = .ok (.iload_n 1, 1) := by decide +kernel
theorem dJ8_newLength_cabcc_2 : decode cJ8_newLength_cabcc 2 = .ok (.iload_n 2, 1) := by decide +kernel
theorem dJ8_newLength_cabcc_3 : decode cJ8_newLength_cabcc 3 = .ok (.invokestatic 194, 3) := by decide +kernel
theorem dJ8_newLength_cabcc_6 : decode cJ8_newLength_cabcc 6 = .ok (.iadd, 1) := by decide +kernel
theorem dJ8_newLength_cabcc_7 : decode cJ8_newLength_cabcc 7 = .ok (.istore_n 3, 1) := by decide +kernel
theorem dJ8_newLength_cabcc_8 : decode cJ8_newLength_cabcc 8 = .ok (.iconst 0, 1) := by decide +kernel
theorem dJ8_newLength_cabcc_9 : decode cJ8_newLength_cabcc 9 = .ok (.iload_n 3, 1) := by decide +kernel
theorem dJ8_newLength_cabcc_10 : decode cJ8_newLength_cabcc 10 = .ok (.if_icmp .ge 11, 3) := by decide +kernel
theorem dJ8_newLength_cabcc_13 : decode cJ8_newLength_cabcc 13 = .ok (.iload_n 3, 1) := by decide +kernel
theorem dJ8_newLength_cabcc_14 : decode cJ8_newLength_cabcc 14 = .ok (.ldc 200, 2) := by decide +kernel
theorem dJ8_newLength_cabcc_16 : decode cJ8_newLength_cabcc 16 = .ok (.if_icmp .gt 5, 3) := by decide +kernel
theorem dJ8_newLength_cabcc_19 : decode cJ8_newLength_cabcc 19 = .ok (.iload_n 3, 1) := by decide +kernel
theorem dJ8_newLength_cabcc_20 : decode cJ8_newLength_cabcc 20 = .ok (.ireturn, 1) := by decide +kernel
theorem dJ8_newLength_cabcc_21 : decode cJ8_newLength_cabcc 21 = .ok (.iload_n 0, 1) := by decide +kernel
theorem dJ8_newLength_cabcc_22 : decode cJ8_newLength_cabcc 22 = .ok (.iload_n 1, 1) := by decide +kernel
theorem dJ8_newLength_cabcc_23 : decode cJ8_newLength_cabcc 23 = .ok (.invokestatic 201, 3) := by decide +kernel
theorem dJ8_newLength_cabcc_26 : decode cJ8_newLength_cabcc 26 = .ok (.ireturn, 1) := by decide +kernel
theorem dJ8_hugeLength_7cf53_0 : decode cJ8_hugeLength_7cf53 0 = .ok (.iload_n 0, 1) := by decide +kernel
theorem dJ8_hugeLength_7cf53_1 : decode cJ8_hugeLength_7cf53 1 = .ok (.iload_n 1, 1) := by decide +kernel
theorem dJ8_hugeLength_7cf53_2 : decode cJ8_hugeLength_7cf53 2 = .ok (.iadd, 1) := by decide +kernel
theorem dJ8_hugeLength_7cf53_3 : decode cJ8_hugeLength_7cf53 3 = .ok (.istore_n 2, 1) := by decide +kernel
theorem dJ8_hugeLength_7cf53_4 : decode cJ8_hugeLength_7cf53 4 = .ok (.iload_n 2, 1) := by decide +kernel
theorem dJ8_hugeLength_7cf53_5 : decode cJ8_hugeLength_7cf53 5 = .ok (.ifCond .ge 44, 3) := by decide +kernel
theorem dJ8_hugeLength_7cf53_8 : decode cJ8_hugeLength_7cf53 8 = .ok (.new 204, 3) := by decide +kernel
theorem dJ8_hugeLength_7cf53_11 : decode cJ8_hugeLength_7cf53 11 = .ok (.dup, 1) := by decide +kernel
theorem dJ8_hugeLength_7cf53_12 : decode cJ8_hugeLength_7cf53 12 = .ok (.new 89, 3) := by decide +kernel
theorem dJ8_hugeLength_7cf53_15 : decode cJ8_hugeLength_7cf53 15 = .ok (.dup, 1) := by decide +kernel
theorem dJ8_hugeLength_7cf53_16 : decode cJ8_hugeLength_7cf53 16 = .ok (.invokespecial 91, 3) := by decide +kernel
theorem dJ8_hugeLength_7cf53_19 : decode cJ8_hugeLength_7cf53 19 = .ok (.ldc 206, 2) := by decide +kernel
theorem dJ8_hugeLength_7cf53_21 : decode cJ8_hugeLength_7cf53 21 = .ok (.invokevirtual 94, 3) := by decide +kernel
theorem dJ8_hugeLength_7cf53_24 : decode cJ8_hugeLength_7cf53 24 = .ok (.iload_n 0, 1) := by decide +kernel
theorem dJ8_hugeLength_7cf53_25 : decode cJ8_hugeLength_7cf53 25 = .ok (.invokevirtual 98, 3) := by decide +kernel
theorem dJ8_hugeLength_7cf53_28 : decode cJ8_hugeLength_7cf53 28 = .ok (.ldc 208, 2) := by decide +kernel
theorem dJ8_hugeLength_7cf53_30 : decode cJ8_hugeLength_7cf53 30 = .ok (.invokevirtual 94, 3) := by decide +kernel
theorem dJ8_hugeLength_7cf53_33 : decode cJ8_hugeLength_7cf53 33 = .ok (.iload_n 1, 1) := by decide +kernel
theorem dJ8_hugeLength_7cf53_34 : decode cJ8_hugeLength_7cf53 34 = .ok (.invokevirtual 98, 3) := by decide +kernel
theorem dJ8_hugeLength_7cf53_37 : decode cJ8_hugeLength_7cf53 37 = .ok (.ldc 210, 2) := by decide +kernel
theorem dJ8_hugeLength_7cf53_39 : decode cJ8_hugeLength_7cf53 39 = .ok (.invokevirtual 94, 3) := by decide +kernel
theorem dJ8_hugeLength_7cf53_42 : decode cJ8_hugeLength_7cf53 42 = .ok (.invokevirtual 101, 3) := by decide +kernel
theorem dJ8_hugeLength_7cf53_45 : decode cJ8_hugeLength_7cf53 45 = .ok (.invokespecial 212, 3) := by decide +kernel
theorem dJ8_hugeLength_7cf53_48 : decode cJ8_hugeLength_7cf53 48 = .ok (.athrow, 1) := by decide +kernel
theorem dJ8_hugeLength_7cf53_49 : decode cJ8_hugeLength_7cf53 49 = .ok (.iload_n 2, 1) := by decide +kernel
theorem dJ8_hugeLength_7cf53_50 : decode cJ8_hugeLength_7cf53 50 = .ok (.ldc 200, 2) := by decide +kernel
theorem dJ8_hugeLength_7cf53_52 : decode cJ8_hugeLength_7cf53 52 = .ok (.if_icmp .gt 6, 3) := by decide +kernel
theorem dJ8_hugeLength_7cf53_55 : decode cJ8_hugeLength_7cf53 55 = .ok (.ldc 200, 2) := by decide +kernel
theorem dJ8_hugeLength_7cf53_57 : decode cJ8_hugeLength_7cf53 57 = .ok (.ireturn, 1) := by decide +kernel
theorem dJ8_hugeLength_7cf53_58 : decode cJ8_hugeLength_7cf53 58 = .ok (.iload_n 2, 1) := by decide +kernel
theorem dJ8_hugeLength_7cf53_59 : decode cJ8_hugeLength_7cf53 59 = .ok (.ireturn, 1) := by decide +kernel
theorem dJ3_checkIndex_8e157_0 : decode cJ3_checkIndex_8e157 0 = .ok (.iload_n 0, 1) := by decide +kernel
theorem dJ3_checkIndex_8e157_1 : decode cJ3_checkIndex_8e157 1 = .ok (.ifCond .lt 8, 3) := by decide +kernel
theorem dJ3_checkIndex_8e157_4 : decode cJ3_checkIndex_8e157 4 = .ok (.iload_n 0, 1) := by decide +kernel
theorem dJ3_checkIndex_8e157_5 : decode cJ3_checkIndex_8e157 5 = .ok (.iload_n 1, 1) := by decide +kernel
theorem dJ3_checkIndex_8e157_6 : decode cJ3_checkIndex_8e157 6 = .ok (.if_icmp .lt 10, 3) := by decide +kernel
theorem dJ3_checkIndex_8e157_9 : decode cJ3_checkIndex_8e157 9 = .ok (.aload_n 2, 1) := by decide +kernel
theorem dJ3_checkIndex_8e157_10 : decode cJ3_checkIndex_8e157 10 = .ok (.iload_n 0, 1) := by decide +kernel
theorem dJ3_checkIndex_8e157_11 : decode cJ3_checkIndex_8e157 11 = .ok (.iload_n 1, 1) := by decide +kernel
theorem dJ3_checkIndex_8e157_12 : decode cJ3_checkIndex_8e157 12 = .ok (.invokestatic 95, 3) := by decide +kernel
theorem dJ3_checkIndex_8e157_15 : decode cJ3_checkIndex_8e157 15 = .ok (.athrow, 1) := by decide +kernel
theorem dJ3_checkIndex_8e157_16 : decode cJ3_checkIndex_8e157 16 = .ok (.iload_n 0, 1) := by decide +kernel
theorem dJ3_checkIndex_8e157_17 : decode cJ3_checkIndex_8e157 17 = .ok (.ireturn, 1) := by decide +kernel
