theorem dX0_init_0 : decode cX0_init 0 = .ok (.aload_n 0, 1) := by decide +kernel
theorem dX0_init_1 : decode cX0_init 1 = .ok (.invokespecial 3, 3) := by decide +kernel
theorem dX0_init_4 : decode cX0_init 4 = .ok (.aload_n 0, 1) := by decide +kernel
theorem dX0_init_5 : decode cX0_init 5 = .ok (.bipush 50, 2) := by decide +kernel
theorem dX0_init_7 : decode cX0_init 7 = .ok (.newarray .int, 2) := by decide +kernel
theorem dX0_init_9 : decode cX0_init 9 = .ok (.putfield 9, 3) := by decide +kernel
theorem dX0_init_12 : decode cX0_init 12 = .ok (.aload_n 0, 1) := by decide +kernel
theorem dX0_init_13 : decode cX0_init 13 = .ok (.bipush 50, 2) := by decide +kernel
theorem dX0_init_15 : decode cX0_init 15 = .ok (.newarray .int, 2) := by decide +kernel
theorem dX0_init_17 : decode cX0_init 17 = .ok (.putfield 15, 3) := by decide +kernel
theorem dX0_init_20 : decode cX0_init 20 = .ok (.return_, 1) := by decide +kernel
theorem dX0_putIn_0 : decode cX0_putIn 0 = .ok (.aload_n 0, 1) := by decide +kernel
theorem dX0_putIn_1 : decode cX0_putIn 1 = .ok (.iload_n 1, 1) := by decide +kernel
theorem dX0_putIn_2 : decode cX0_putIn 2 = .ok (.putfield 18, 3) := by decide +kernel
theorem dX0_putIn_5 : decode cX0_putIn 5 = .ok (.aload_n 0, 1) := by decide +kernel
theorem dX0_putIn_6 : decode cX0_putIn 6 = .ok (.iload_n 2, 1) := by decide +kernel
theorem dX0_putIn_7 : decode cX0_putIn 7 = .ok (.putfield 22, 3) := by decide +kernel
theorem dX0_putIn_10 : decode cX0_putIn 10 = .ok (.aload_n 0, 1) := by decide +kernel
theorem dX0_putIn_11 : decode cX0_putIn 11 = .ok (.iconst 0, 1) := by decide +kernel
theorem dX0_putIn_12 : decode cX0_putIn 12 = .ok (.putfield 25, 3) := by decide +kernel
theorem dX0_putIn_15 : decode cX0_putIn 15 = .ok (.aload_n 0, 1) := by decide +kernel
theorem dX0_putIn_16 : decode cX0_putIn 16 = .ok (.iconst 0, 1) := by decide +kernel
theorem dX0_putIn_17 : decode cX0_putIn 17 = .ok (.putfield 28, 3) := by decide +kernel
theorem dX0_putIn_20 : decode cX0_putIn 20 = .ok (.aload_n 0, 1) := by decide +kernel
theorem dX0_putIn_21 : decode cX0_putIn 21 = .ok (.iconst 0, 1) := by decide +kernel
theorem dX0_putIn_22 : decode cX0_putIn 22 = .ok (.putfield 31, 3) := by decide +kernel
theorem dX0_putIn_25 : decode cX0_putIn 25 = .ok (.return_, 1) := by decide +kernel
theorem dX0_becomeLike_0 : decode cX0_becomeLike 0 = .ok (.aload_n 0, 1) := by decide +kernel
theorem dX0_becomeLike_1 : decode cX0_becomeLike 1 = .ok (.aload_n 1, 1) := by decide +kernel
theorem dX0_becomeLike_2 : decode cX0_becomeLike 2 = .ok (.getfield 18, 3) := by decide +kernel
theorem dX0_becomeLike_5 : decode cX0_becomeLike 5 = .ok (.putfield 18, 3) := by decide +kernel
theorem dX0_becomeLike_8 : decode cX0_becomeLike 8 = .ok (.aload_n 0, 1) := by decide +kernel
theorem dX0_becomeLike_9 : decode cX0_becomeLike 9 = .ok (.aload_n 1, 1) := by decide +kernel
theorem dX0_becomeLike_10 : decode cX0_becomeLike 10 = .ok (.getfield 22, 3) := by decide +kernel
theorem dX0_becomeLike_13 : decode cX0_becomeLike 13 = .ok (.putfield 22, 3) := by decide +kernel
theorem dX0_becomeLike_16 : decode cX0_becomeLike 16 = .ok (.aload_n 0, 1) := by decide +kernel
theorem dX0_becomeLike_17 : decode cX0_becomeLike 17 = .ok (.aload_n 1, 1) := by decide +kernel
theorem dX0_becomeLike_18 : decode cX0_becomeLike 18 = .ok (.getfield 25, 3) := by decide +kernel
theorem dX0_becomeLike_21 : decode cX0_becomeLike 21 = .ok (.putfield 25, 3) := by decide +kernel
theorem dX0_becomeLike_24 : decode cX0_becomeLike 24 = .ok (.aload_n 0, 1) := by decide +kernel
theorem dX0_becomeLike_25 : decode cX0_becomeLike 25 = .ok (.aload_n 1, 1) := by decide +kernel
theorem dX0_becomeLike_26 : decode cX0_becomeLike 26 = .ok (.getfield 28, 3) := by decide +kernel
theorem dX0_becomeLike_29 : decode cX0_becomeLike 29 = .ok (.putfield 28, 3) := by decide +kernel
theorem dX0_becomeLike_32 : decode cX0_becomeLike 32 = .ok (.aload_n 0, 1) := by decide +kernel
theorem dX0_becomeLike_33 : decode cX0_becomeLike 33 = .ok (.aload_n 1, 1) := by decide +kernel
theorem dX0_becomeLike_34 : decode cX0_becomeLike 34 = .ok (.getfield 31, 3) := by decide +kernel
theorem dX0_becomeLike_37 : decode cX0_becomeLike 37 = .ok (.putfield 31, 3) := by decide +kernel
theorem dX0_becomeLike_40 : decode cX0_becomeLike 40 = .ok (.aload_n 1, 1) := by decide +kernel
theorem dX0_becomeLike_41 : decode cX0_becomeLike 41 = .ok (.getfield 9, 3) := by decide +kernel
theorem dX0_becomeLike_44 : decode cX0_becomeLike 44 = .ok (.iconst 0, 1) := by decide +kernel
theorem dX0_becomeLike_45 : decode cX0_becomeLike 45 = .ok (.aload_n 0, 1) := by decide +kernel
theorem dX0_becomeLike_46 : decode cX0_becomeLike 46 = .ok (.getfield 9, 3) := by decide +kernel
theorem dX0_becomeLike_49 : decode cX0_becomeLike 49 = .ok (.iconst 0, 1) := by decide +kernel
theorem dX0_becomeLike_50 : decode cX0_becomeLike 50 = .ok (.bipush 50, 2) := by decide +kernel
theorem dX0_becomeLike_52 : decode cX0_becomeLike 52 = .ok (.invokestatic 34, 3) := by decide +kernel
theorem dX0_becomeLike_55 : decode cX0_becomeLike 55 = .ok (.aload_n 1, 1) := by decide +kernel
theorem dX0_becomeLike_56 : decode cX0_becomeLike 56 = .ok (.getfield 15, 3) := by decide +kernel
theorem dX0_becomeLike_59 : decode cX0_becomeLike 59 = .ok (.iconst 0, 1) := by decide +kernel
theorem dX0_becomeLike_60 : decode cX0_becomeLike 60 = .ok (.aload_n 0, 1) := by decide +kernel
theorem dX0_becomeLike_61 : decode cX0_becomeLike 61 = .ok (.getfield 15, 3) := by decide +kernel
theorem dX0_becomeLike_64 : decode cX0_becomeLike 64 = .ok (.iconst 0, 1) := by decide +kernel
theorem dX0_becomeLike_65 : decode cX0_becomeLike 65 = .ok (.bipush 50, 2) := by decide +kernel
theorem dX0_becomeLike_67 : decode cX0_becomeLike 67 = .ok (.invokestatic 34, 3) := by decide +kernel
theorem dX0_becomeLike_70 : decode cX0_becomeLike 70 = .ok (.return_, 1) := by decide +kernel
theorem dX0_ringNow_0 : decode cX0_ringNow 0 = .ok (.aload_n 0, 1) := by decide +kernel
theorem dX0_ringNow_1 : decode cX0_ringNow 1 = .ok (.getfield 18, 3) := by decide +kernel
theorem dX0_ringNow_4 : decode cX0_ringNow 4 = .ok (.sipush 1000, 3) := by decide +kernel
theorem dX0_ringNow_7 : decode cX0_ringNow 7 = .ok (.idiv, 1) := by decide +kernel
theorem dX0_ringNow_8 : decode cX0_ringNow 8 = .ok (.ireturn, 1) := by decide +kernel
theorem dX0_move_0 : decode cX0_move 0 = .ok (.aload_n 0, 1) := by decide +kernel
theorem dX0_move_1 : decode cX0_move 1 = .ok (.invokevirtual 40, 3) := by decide +kernel
theorem dX0_move_4 : decode cX0_move 4 = .ok (.istore 4, 2) := by decide +kernel
theorem dX0_move_6 : decode cX0_move 6 = .ok (.aload_n 0, 1) := by decide +kernel
theorem dX0_move_7 : decode cX0_move 7 = .ok (.aload_n 0, 1) := by decide +kernel
theorem dX0_move_8 : decode cX0_move 8 = .ok (.getfield 22, 3) := by decide +kernel
theorem dX0_move_11 : decode cX0_move 11 = .ok (.iload_n 1, 1) := by decide +kernel
theorem dX0_move_12 : decode cX0_move 12 = .ok (.iadd, 1) := by decide +kernel
theorem dX0_move_13 : decode cX0_move 13 = .ok (.sipush 3600, 3) := by decide +kernel
theorem dX0_move_16 : decode cX0_move 16 = .ok (.invokestatic 44, 3) := by decide +kernel
theorem dX0_move_19 : decode cX0_move 19 = .ok (.putfield 22, 3) := by decide +kernel
theorem dX0_move_22 : decode cX0_move 22 = .ok (.aload_n 0, 1) := by decide +kernel
theorem dX0_move_23 : decode cX0_move 23 = .ok (.iconst 0, 1) := by decide +kernel
theorem dX0_move_24 : decode cX0_move 24 = .ok (.iload_n 3, 1) := by decide +kernel
theorem dX0_move_25 : decode cX0_move 25 = .ok (.aload_n 0, 1) := by decide +kernel
theorem dX0_move_26 : decode cX0_move 26 = .ok (.getfield 18, 3) := by decide +kernel
theorem dX0_move_29 : decode cX0_move 29 = .ok (.iload_n 2, 1) := by decide +kernel
theorem dX0_move_30 : decode cX0_move 30 = .ok (.iadd, 1) := by decide +kernel
theorem dX0_move_31 : decode cX0_move 31 = .ok (.invokestatic 50, 3) := by decide +kernel
theorem dX0_move_34 : decode cX0_move 34 = .ok (.invokestatic 53, 3) := by decide +kernel
theorem dX0_move_37 : decode cX0_move 37 = .ok (.putfield 18, 3) := by decide +kernel
theorem dX0_move_40 : decode cX0_move 40 = .ok (.aload_n 0, 1) := by decide +kernel
theorem dX0_move_41 : decode cX0_move 41 = .ok (.invokevirtual 40, 3) := by decide +kernel
theorem dX0_move_44 : decode cX0_move 44 = .ok (.iload 4, 2) := by decide +kernel
theorem dX0_move_46 : decode cX0_move 46 = .ok (.if_icmp .eq 13, 3) := by decide +kernel
theorem dX0_move_49 : decode cX0_move 49 = .ok (.aload_n 0, 1) := by decide +kernel
theorem dX0_move_50 : decode cX0_move 50 = .ok (.dup, 1) := by decide +kernel
theorem dX0_move_51 : decode cX0_move 51 = .ok (.getfield 28, 3) := by decide +kernel
theorem dX0_move_54 : decode cX0_move 54 = .ok (.iconst 1, 1) := by decide +kernel
theorem dX0_move_55 : decode cX0_move 55 = .ok (.iadd, 1) := by decide +kernel
theorem dX0_move_56 : decode cX0_move 56 = .ok (.putfield 28, 3) := by decide +kernel
theorem dX0_move_59 : decode cX0_move 59 = .ok (.aload_n 0, 1) := by decide +kernel
theorem dX0_move_60 : decode cX0_move 60 = .ok (.invokevirtual 56, 3) := by decide +kernel
theorem dX0_move_63 : decode cX0_move 63 = .ok (.return_, 1) := by decide +kernel
theorem dX0_keepPosition_0 : decode cX0_keepPosition 0 = .ok (.aload_n 0, 1) := by decide +kernel
theorem dX0_keepPosition_1 : decode cX0_keepPosition 1 = .ok (.getfield 9, 3) := by decide +kernel
theorem dX0_keepPosition_4 : decode cX0_keepPosition 4 = .ok (.aload_n 0, 1) := by decide +kernel
theorem dX0_keepPosition_5 : decode cX0_keepPosition 5 = .ok (.getfield 31, 3) := by decide +kernel
theorem dX0_keepPosition_8 : decode cX0_keepPosition 8 = .ok (.aload_n 0, 1) := by decide +kernel
theorem dX0_keepPosition_9 : decode cX0_keepPosition 9 = .ok (.getfield 18, 3) := by decide +kernel
theorem dX0_keepPosition_12 : decode cX0_keepPosition 12 = .ok (.iastore, 1) := by decide +kernel
theorem dX0_keepPosition_13 : decode cX0_keepPosition 13 = .ok (.aload_n 0, 1) := by decide +kernel
theorem dX0_keepPosition_14 : decode cX0_keepPosition 14 = .ok (.getfield 15, 3) := by decide +kernel
theorem dX0_keepPosition_17 : decode cX0_keepPosition 17 = .ok (.aload_n 0, 1) := by decide +kernel
theorem dX0_keepPosition_18 : decode cX0_keepPosition 18 = .ok (.getfield 31, 3) := by decide +kernel
theorem dX0_keepPosition_21 : decode cX0_keepPosition 21 = .ok (.aload_n 0, 1) := by decide +kernel
theorem dX0_keepPosition_22 : decode cX0_keepPosition 22 = .ok (.getfield 22, 3) := by decide +kernel
theorem dX0_keepPosition_25 : decode cX0_keepPosition 25 = .ok (.iastore, 1) := by decide +kernel
theorem dX0_keepPosition_26 : decode cX0_keepPosition 26 = .ok (.aload_n 0, 1) := by decide +kernel
theorem dX0_keepPosition_27 : decode cX0_keepPosition 27 = .ok (.aload_n 0, 1) := by decide +kernel
theorem dX0_keepPosition_28 : decode cX0_keepPosition 28 = .ok (.getfield 31, 3) := by decide +kernel
theorem dX0_keepPosition_31 : decode cX0_keepPosition 31 = .ok (.bipush 49, 2) := by decide +kernel
theorem dX0_keepPosition_33 : decode cX0_keepPosition 33 = .ok (.if_icmp .ge 12, 3) := by decide +kernel
theorem dX0_keepPosition_36 : decode cX0_keepPosition 36 = .ok (.aload_n 0, 1) := by decide +kernel
theorem dX0_keepPosition_37 : decode cX0_keepPosition 37 = .ok (.getfield 31, 3) := by decide +kernel
theorem dX0_keepPosition_40 : decode cX0_keepPosition 40 = .ok (.iconst 1, 1) := by decide +kernel
theorem dX0_keepPosition_41 : decode cX0_keepPosition 41 = .ok (.iadd, 1) := by decide +kernel
theorem dX0_keepPosition_42 : decode cX0_keepPosition 42 = .ok (.goto 4, 3) := by decide +kernel
theorem dX0_keepPosition_45 : decode cX0_keepPosition 45 = .ok (.iconst 0, 1) := by decide +kernel
theorem dX0_keepPosition_46 : decode cX0_keepPosition 46 = .ok (.putfield 31, 3) := by decide +kernel
theorem dX0_keepPosition_49 : decode cX0_keepPosition 49 = .ok (.aload_n 0, 1) := by decide +kernel
theorem dX0_keepPosition_50 : decode cX0_keepPosition 50 = .ok (.bipush 50, 2) := by decide +kernel
theorem dX0_keepPosition_52 : decode cX0_keepPosition 52 = .ok (.aload_n 0, 1) := by decide +kernel
theorem dX0_keepPosition_53 : decode cX0_keepPosition 53 = .ok (.getfield 25, 3) := by decide +kernel
theorem dX0_keepPosition_56 : decode cX0_keepPosition 56 = .ok (.iconst 1, 1) := by decide +kernel
theorem dX0_keepPosition_57 : decode cX0_keepPosition 57 = .ok (.iadd, 1) := by decide +kernel
theorem dX0_keepPosition_58 : decode cX0_keepPosition 58 = .ok (.invokestatic 50, 3) := by decide +kernel
theorem dX0_keepPosition_61 : decode cX0_keepPosition 61 = .ok (.putfield 25, 3) := by decide +kernel
theorem dX0_keepPosition_64 : decode cX0_keepPosition 64 = .ok (.return_, 1) := by decide +kernel
theorem dX0_placeBack_0 : decode cX0_placeBack 0 = .ok (.aload_n 0, 1) := by decide +kernel
theorem dX0_placeBack_1 : decode cX0_placeBack 1 = .ok (.getfield 9, 3) := by decide +kernel
theorem dX0_placeBack_4 : decode cX0_placeBack 4 = .ok (.aload_n 0, 1) := by decide +kernel
theorem dX0_placeBack_5 : decode cX0_placeBack 5 = .ok (.getfield 31, 3) := by decide +kernel
theorem dX0_placeBack_8 : decode cX0_placeBack 8 = .ok (.iconst 1, 1) := by decide +kernel
theorem dX0_placeBack_9 : decode cX0_placeBack 9 = .ok (.isub, 1) := by decide +kernel
theorem dX0_placeBack_10 : decode cX0_placeBack 10 = .ok (.iload_n 1, 1) := by decide +kernel
theorem dX0_placeBack_11 : decode cX0_placeBack 11 = .ok (.isub, 1) := by decide +kernel
theorem dX0_placeBack_12 : decode cX0_placeBack 12 = .ok (.bipush 50, 2) := by decide +kernel
theorem dX0_placeBack_14 : decode cX0_placeBack 14 = .ok (.invokestatic 44, 3) := by decide +kernel
theorem dX0_placeBack_17 : decode cX0_placeBack 17 = .ok (.iaload, 1) := by decide +kernel
theorem dX0_placeBack_18 : decode cX0_placeBack 18 = .ok (.ireturn, 1) := by decide +kernel
theorem dX0_angleBack_0 : decode cX0_angleBack 0 = .ok (.aload_n 0, 1) := by decide +kernel
theorem dX0_angleBack_1 : decode cX0_angleBack 1 = .ok (.getfield 15, 3) := by decide +kernel
theorem dX0_angleBack_4 : decode cX0_angleBack 4 = .ok (.aload_n 0, 1) := by decide +kernel
theorem dX0_angleBack_5 : decode cX0_angleBack 5 = .ok (.getfield 31, 3) := by decide +kernel
theorem dX0_angleBack_8 : decode cX0_angleBack 8 = .ok (.iconst 1, 1) := by decide +kernel
theorem dX0_angleBack_9 : decode cX0_angleBack 9 = .ok (.isub, 1) := by decide +kernel
theorem dX0_angleBack_10 : decode cX0_angleBack 10 = .ok (.iload_n 1, 1) := by decide +kernel
theorem dX0_angleBack_11 : decode cX0_angleBack 11 = .ok (.isub, 1) := by decide +kernel
theorem dX0_angleBack_12 : decode cX0_angleBack 12 = .ok (.bipush 50, 2) := by decide +kernel
theorem dX0_angleBack_14 : decode cX0_angleBack 14 = .ok (.invokestatic 44, 3) := by decide +kernel
theorem dX0_angleBack_17 : decode cX0_angleBack 17 = .ok (.iaload, 1) := by decide +kernel
theorem dX0_angleBack_18 : decode cX0_angleBack 18 = .ok (.ireturn, 1) := by decide +kernel
theorem dX0_isNear_0 : decode cX0_isNear 0 = .ok (.aload_n 0, 1) := by decide +kernel
theorem dX0_isNear_1 : decode cX0_isNear 1 = .ok (.getfield 22, 3) := by decide +kernel
theorem dX0_isNear_4 : decode cX0_isNear 4 = .ok (.aload_n 1, 1) := by decide +kernel
theorem dX0_isNear_5 : decode cX0_isNear 5 = .ok (.getfield 22, 3) := by decide +kernel
theorem dX0_isNear_8 : decode cX0_isNear 8 = .ok (.isub, 1) := by decide +kernel
theorem dX0_isNear_9 : decode cX0_isNear 9 = .ok (.invokestatic 59, 3) := by decide +kernel
theorem dX0_isNear_12 : decode cX0_isNear 12 = .ok (.istore_n 3, 1) := by decide +kernel
theorem dX0_isNear_13 : decode cX0_isNear 13 = .ok (.aload_n 0, 1) := by decide +kernel
theorem dX0_isNear_14 : decode cX0_isNear 14 = .ok (.invokevirtual 40, 3) := by decide +kernel
theorem dX0_isNear_17 : decode cX0_isNear 17 = .ok (.aload_n 1, 1) := by decide +kernel
theorem dX0_isNear_18 : decode cX0_isNear 18 = .ok (.invokevirtual 40, 3) := by decide +kernel
theorem dX0_isNear_21 : decode cX0_isNear 21 = .ok (.if_icmp .ne 20, 3) := by decide +kernel
theorem dX0_isNear_24 : decode cX0_isNear 24 = .ok (.iload_n 3, 1) := by decide +kernel
theorem dX0_isNear_25 : decode cX0_isNear 25 = .ok (.sipush 3600, 3) := by decide +kernel
theorem dX0_isNear_28 : decode cX0_isNear 28 = .ok (.iload_n 3, 1) := by decide +kernel
theorem dX0_isNear_29 : decode cX0_isNear 29 = .ok (.isub, 1) := by decide +kernel
theorem dX0_isNear_30 : decode cX0_isNear 30 = .ok (.invokestatic 50, 3) := by decide +kernel
theorem dX0_isNear_33 : decode cX0_isNear 33 = .ok (.iload_n 2, 1) := by decide +kernel
theorem dX0_isNear_34 : decode cX0_isNear 34 = .ok (.if_icmp .gt 7, 3) := by decide +kernel
theorem dX0_isNear_37 : decode cX0_isNear 37 = .ok (.iconst 1, 1) := by decide +kernel
theorem dX0_isNear_38 : decode cX0_isNear 38 = .ok (.goto 4, 3) := by decide +kernel
theorem dX0_isNear_41 : decode cX0_isNear 41 = .ok (.iconst 0, 1) := by decide +kernel
theorem dX0_isNear_42 : decode cX0_isNear 42 = .ok (.ireturn, 1) := by decide +kernel
theorem dX1_init_0 : decode cX1_init 0 = .ok (.aload_n 0, 1) := by decide +kernel
theorem dX1_init_1 : decode cX1_init 1 = .ok (.invokespecial 3, 3) := by decide +kernel
theorem dX1_init_4 : decode cX1_init 4 = .ok (.aload_n 0, 1) := by decide +kernel
theorem dX1_init_5 : decode cX1_init 5 = .ok (.bipush 60, 2) := by decide +kernel
theorem dX1_init_7 : decode cX1_init 7 = .ok (.newarray .char, 2) := by decide +kernel
theorem dX1_init_9 : decode cX1_init 9 = .ok (.putfield 9, 3) := by decide +kernel
theorem dX1_init_12 : decode cX1_init 12 = .ok (.return_, 1) := by decide +kernel
theorem dX1_append_0 : decode cX1_append 0 = .ok (.aload_n 0, 1) := by decide +kernel
theorem dX1_append_1 : decode cX1_append 1 = .ok (.getfield 15, 3) := by decide +kernel
theorem dX1_append_4 : decode cX1_append 4 = .ok (.ifCond .lt 32, 3) := by decide +kernel
theorem dX1_append_7 : decode cX1_append 7 = .ok (.aload_n 0, 1) := by decide +kernel
theorem dX1_append_8 : decode cX1_append 8 = .ok (.getfield 15, 3) := by decide +kernel
theorem dX1_append_11 : decode cX1_append 11 = .ok (.bipush 60, 2) := by decide +kernel
theorem dX1_append_13 : decode cX1_append 13 = .ok (.if_icmp .ge 23, 3) := by decide +kernel
theorem dX1_append_16 : decode cX1_append 16 = .ok (.aload_n 0, 1) := by decide +kernel
theorem dX1_append_17 : decode cX1_append 17 = .ok (.getfield 9, 3) := by decide +kernel
theorem dX1_append_20 : decode cX1_append 20 = .ok (.aload_n 0, 1) := by decide +kernel
theorem dX1_append_21 : decode cX1_append 21 = .ok (.getfield 15, 3) := by decide +kernel
theorem dX1_append_24 : decode cX1_append 24 = .ok (.iload_n 1, 1) := by decide +kernel
theorem dX1_append_25 : decode cX1_append 25 = .ok (.castore, 1) := by decide +kernel
theorem dX1_append_26 : decode cX1_append 26 = .ok (.aload_n 0, 1) := by decide +kernel
theorem dX1_append_27 : decode cX1_append 27 = .ok (.dup, 1) := by decide +kernel
theorem dX1_append_28 : decode cX1_append 28 = .ok (.getfield 15, 3) := by decide +kernel
theorem dX1_append_31 : decode cX1_append 31 = .ok (.iconst 1, 1) := by decide +kernel
theorem dX1_append_32 : decode cX1_append 32 = .ok (.iadd, 1) := by decide +kernel
theorem dX1_append_33 : decode cX1_append 33 = .ok (.putfield 15, 3) := by decide +kernel
theorem dX1_append_36 : decode cX1_append 36 = .ok (.return_, 1) := by decide +kernel
theorem dX1_firstFault_0 : decode cX1_firstFault 0 = .ok (.aload_n 0, 1) := by decide +kernel
theorem dX1_firstFault_1 : decode cX1_firstFault 1 = .ok (.iconst 0, 1) := by decide +kernel
theorem dX1_firstFault_2 : decode cX1_firstFault 2 = .ok (.putfield 19, 3) := by decide +kernel
theorem dX1_firstFault_5 : decode cX1_firstFault 5 = .ok (.iconst 0, 1) := by decide +kernel
theorem dX1_firstFault_6 : decode cX1_firstFault 6 = .ok (.istore_n 1, 1) := by decide +kernel
theorem dX1_firstFault_7 : decode cX1_firstFault 7 = .ok (.iload_n 1, 1) := by decide +kernel
theorem dX1_firstFault_8 : decode cX1_firstFault 8 = .ok (.bipush 60, 2) := by decide +kernel
theorem dX1_firstFault_10 : decode cX1_firstFault 10 = .ok (.if_icmp .ge 49, 3) := by decide +kernel
theorem dX1_firstFault_13 : decode cX1_firstFault 13 = .ok (.aload_n 0, 1) := by decide +kernel
theorem dX1_firstFault_14 : decode cX1_firstFault 14 = .ok (.invokevirtual 22, 3) := by decide +kernel
theorem dX1_firstFault_17 : decode cX1_firstFault 17 = .ok (.ifCond .ne 8, 3) := by decide +kernel
theorem dX1_firstFault_20 : decode cX1_firstFault 20 = .ok (.aload_n 0, 1) := by decide +kernel
theorem dX1_firstFault_21 : decode cX1_firstFault 21 = .ok (.getfield 19, 3) := by decide +kernel
theorem dX1_firstFault_24 : decode cX1_firstFault 24 = .ok (.ireturn, 1) := by decide +kernel
theorem dX1_firstFault_25 : decode cX1_firstFault 25 = .ok (.aload_n 0, 1) := by decide +kernel
theorem dX1_firstFault_26 : decode cX1_firstFault 26 = .ok (.getfield 19, 3) := by decide +kernel
theorem dX1_firstFault_29 : decode cX1_firstFault 29 = .ok (.aload_n 0, 1) := by decide +kernel
theorem dX1_firstFault_30 : decode cX1_firstFault 30 = .ok (.getfield 15, 3) := by decide +kernel
theorem dX1_firstFault_33 : decode cX1_firstFault 33 = .ok (.if_icmp .ne 6, 3) := by decide +kernel
theorem dX1_firstFault_36 : decode cX1_firstFault 36 = .ok (.bipush (-6), 2) := by decide +kernel
theorem dX1_firstFault_38 : decode cX1_firstFault 38 = .ok (.ireturn, 1) := by decide +kernel
theorem dX1_firstFault_39 : decode cX1_firstFault 39 = .ok (.aload_n 0, 1) := by decide +kernel
theorem dX1_firstFault_40 : decode cX1_firstFault 40 = .ok (.bipush 44, 2) := by decide +kernel
theorem dX1_firstFault_42 : decode cX1_firstFault 42 = .ok (.invokevirtual 26, 3) := by decide +kernel
theorem dX1_firstFault_45 : decode cX1_firstFault 45 = .ok (.ifCond .ne 8, 3) := by decide +kernel
theorem dX1_firstFault_48 : decode cX1_firstFault 48 = .ok (.aload_n 0, 1) := by decide +kernel
theorem dX1_firstFault_49 : decode cX1_firstFault 49 = .ok (.getfield 19, 3) := by decide +kernel
theorem dX1_firstFault_52 : decode cX1_firstFault 52 = .ok (.ireturn, 1) := by decide +kernel
theorem dX1_firstFault_53 : decode cX1_firstFault 53 = .ok (.iinc 1 1, 3) := by decide +kernel
theorem dX1_firstFault_56 : decode cX1_firstFault 56 = .ok (.goto (-49), 3) := by decide +kernel
theorem dX1_firstFault_59 : decode cX1_firstFault 59 = .ok (.aload_n 0, 1) := by decide +kernel
theorem dX1_firstFault_60 : decode cX1_firstFault 60 = .ok (.getfield 19, 3) := by decide +kernel
theorem dX1_firstFault_63 : decode cX1_firstFault 63 = .ok (.ireturn, 1) := by decide +kernel
theorem dX1_readStep_0 : decode cX1_readStep 0 = .ok (.aload_n 0, 1) := by decide +kernel
theorem dX1_readStep_1 : decode cX1_readStep 1 = .ok (.aload_n 0, 1) := by decide +kernel
theorem dX1_readStep_2 : decode cX1_readStep 2 = .ok (.invokevirtual 30, 3) := by decide +kernel
theorem dX1_readStep_5 : decode cX1_readStep 5 = .ok (.putfield 34, 3) := by decide +kernel
theorem dX1_readStep_8 : decode cX1_readStep 8 = .ok (.aload_n 0, 1) := by decide +kernel
theorem dX1_readStep_9 : decode cX1_readStep 9 = .ok (.bipush 116, 2) := by decide +kernel
theorem dX1_readStep_11 : decode cX1_readStep 11 = .ok (.invokevirtual 26, 3) := by decide +kernel
theorem dX1_readStep_14 : decode cX1_readStep 14 = .ok (.ifCond .eq 28, 3) := by decide +kernel
theorem dX1_readStep_17 : decode cX1_readStep 17 = .ok (.aload_n 0, 1) := by decide +kernel
theorem dX1_readStep_18 : decode cX1_readStep 18 = .ok (.aload_n 0, 1) := by decide +kernel
theorem dX1_readStep_19 : decode cX1_readStep 19 = .ok (.iconst 1, 1) := by decide +kernel
theorem dX1_readStep_20 : decode cX1_readStep 20 = .ok (.sipush 999, 3) := by decide +kernel
theorem dX1_readStep_23 : decode cX1_readStep 23 = .ok (.invokevirtual 38, 3) := by decide +kernel
theorem dX1_readStep_26 : decode cX1_readStep 26 = .ok (.putfield 42, 3) := by decide +kernel
theorem dX1_readStep_29 : decode cX1_readStep 29 = .ok (.aload_n 0, 1) := by decide +kernel
theorem dX1_readStep_30 : decode cX1_readStep 30 = .ok (.getfield 42, 3) := by decide +kernel
theorem dX1_readStep_33 : decode cX1_readStep 33 = .ok (.ifCond .lt 7, 3) := by decide +kernel
theorem dX1_readStep_36 : decode cX1_readStep 36 = .ok (.iconst 1, 1) := by decide +kernel
theorem dX1_readStep_37 : decode cX1_readStep 37 = .ok (.goto 4, 3) := by decide +kernel
theorem dX1_readStep_40 : decode cX1_readStep 40 = .ok (.iconst 0, 1) := by decide +kernel
theorem dX1_readStep_41 : decode cX1_readStep 41 = .ok (.ireturn, 1) := by decide +kernel
theorem dX1_readStep_42 : decode cX1_readStep 42 = .ok (.aload_n 0, 1) := by decide +kernel
theorem dX1_readStep_43 : decode cX1_readStep 43 = .ok (.bipush 118, 2) := by decide +kernel
theorem dX1_readStep_45 : decode cX1_readStep 45 = .ok (.invokevirtual 26, 3) := by decide +kernel
theorem dX1_readStep_48 : decode cX1_readStep 48 = .ok (.ifCond .eq 32, 3) := by decide +kernel
theorem dX1_readStep_51 : decode cX1_readStep 51 = .ok (.aload_n 0, 1) := by decide +kernel
theorem dX1_readStep_52 : decode cX1_readStep 52 = .ok (.invokevirtual 45, 3) := by decide +kernel
theorem dX1_readStep_55 : decode cX1_readStep 55 = .ok (.ifCond .eq 23, 3) := by decide +kernel
theorem dX1_readStep_58 : decode cX1_readStep 58 = .ok (.aload_n 0, 1) := by decide +kernel
theorem dX1_readStep_59 : decode cX1_readStep 59 = .ok (.bipush 58, 2) := by decide +kernel
theorem dX1_readStep_61 : decode cX1_readStep 61 = .ok (.invokevirtual 26, 3) := by decide +kernel
theorem dX1_readStep_64 : decode cX1_readStep 64 = .ok (.ifCond .eq 14, 3) := by decide +kernel
theorem dX1_readStep_67 : decode cX1_readStep 67 = .ok (.aload_n 0, 1) := by decide +kernel
theorem dX1_readStep_68 : decode cX1_readStep 68 = .ok (.invokevirtual 48, 3) := by decide +kernel
theorem dX1_readStep_71 : decode cX1_readStep 71 = .ok (.ifCond .eq 7, 3) := by decide +kernel
theorem dX1_readStep_74 : decode cX1_readStep 74 = .ok (.iconst 1, 1) := by decide +kernel
theorem dX1_readStep_75 : decode cX1_readStep 75 = .ok (.goto 4, 3) := by decide +kernel
theorem dX1_readStep_78 : decode cX1_readStep 78 = .ok (.iconst 0, 1) := by decide +kernel
theorem dX1_readStep_79 : decode cX1_readStep 79 = .ok (.ireturn, 1) := by decide +kernel
theorem dX1_readStep_80 : decode cX1_readStep 80 = .ok (.aload_n 0, 1) := by decide +kernel
theorem dX1_readStep_81 : decode cX1_readStep 81 = .ok (.bipush 100, 2) := by decide +kernel
theorem dX1_readStep_83 : decode cX1_readStep 83 = .ok (.invokevirtual 26, 3) := by decide +kernel
theorem dX1_readStep_86 : decode cX1_readStep 86 = .ok (.ifCond .eq 60, 3) := by decide +kernel
theorem dX1_readStep_89 : decode cX1_readStep 89 = .ok (.aload_n 0, 1) := by decide +kernel
theorem dX1_readStep_90 : decode cX1_readStep 90 = .ok (.invokevirtual 51, 3) := by decide +kernel
theorem dX1_readStep_93 : decode cX1_readStep 93 = .ok (.ifCond .eq 53, 3) := by decide +kernel
theorem dX1_readStep_96 : decode cX1_readStep 96 = .ok (.aload_n 0, 1) := by decide +kernel
theorem dX1_readStep_97 : decode cX1_readStep 97 = .ok (.invokevirtual 54, 3) := by decide +kernel
theorem dX1_readStep_100 : decode cX1_readStep 100 = .ok (.ifCond .eq 46, 3) := by decide +kernel
theorem dX1_readStep_103 : decode cX1_readStep 103 = .ok (.aload_n 0, 1) := by decide +kernel
theorem dX1_readStep_104 : decode cX1_readStep 104 = .ok (.invokevirtual 45, 3) := by decide +kernel
theorem dX1_readStep_107 : decode cX1_readStep 107 = .ok (.ifCond .eq 39, 3) := by decide +kernel
theorem dX1_readStep_110 : decode cX1_readStep 110 = .ok (.aload_n 0, 1) := by decide +kernel
theorem dX1_readStep_111 : decode cX1_readStep 111 = .ok (.bipush 58, 2) := by decide +kernel
theorem dX1_readStep_113 : decode cX1_readStep 113 = .ok (.invokevirtual 26, 3) := by decide +kernel
theorem dX1_readStep_116 : decode cX1_readStep 116 = .ok (.ifCond .eq 30, 3) := by decide +kernel
theorem dX1_readStep_119 : decode cX1_readStep 119 = .ok (.aload_n 0, 1) := by decide +kernel
theorem dX1_readStep_120 : decode cX1_readStep 120 = .ok (.invokevirtual 57, 3) := by decide +kernel
theorem dX1_readStep_123 : decode cX1_readStep 123 = .ok (.ifCond .eq 23, 3) := by decide +kernel
theorem dX1_readStep_126 : decode cX1_readStep 126 = .ok (.aload_n 0, 1) := by decide +kernel
theorem dX1_readStep_127 : decode cX1_readStep 127 = .ok (.bipush 61, 2) := by decide +kernel
theorem dX1_readStep_129 : decode cX1_readStep 129 = .ok (.invokevirtual 26, 3) := by decide +kernel
theorem dX1_readStep_132 : decode cX1_readStep 132 = .ok (.ifCond .eq 14, 3) := by decide +kernel
theorem dX1_readStep_135 : decode cX1_readStep 135 = .ok (.aload_n 0, 1) := by decide +kernel
theorem dX1_readStep_136 : decode cX1_readStep 136 = .ok (.invokevirtual 60, 3) := by decide +kernel
theorem dX1_readStep_139 : decode cX1_readStep 139 = .ok (.ifCond .eq 7, 3) := by decide +kernel
theorem dX1_readStep_142 : decode cX1_readStep 142 = .ok (.iconst 1, 1) := by decide +kernel
theorem dX1_readStep_143 : decode cX1_readStep 143 = .ok (.goto 4, 3) := by decide +kernel
theorem dX1_readStep_146 : decode cX1_readStep 146 = .ok (.iconst 0, 1) := by decide +kernel
theorem dX1_readStep_147 : decode cX1_readStep 147 = .ok (.ireturn, 1) := by decide +kernel
theorem dX1_readRing_0 : decode cX1_readRing 0 = .ok (.aload_n 0, 1) := by decide +kernel
theorem dX1_readRing_1 : decode cX1_readRing 1 = .ok (.aload_n 0, 1) := by decide +kernel
theorem dX1_readRing_2 : decode cX1_readRing 2 = .ok (.iconst 0, 1) := by decide +kernel
theorem dX1_readRing_3 : decode cX1_readRing 3 = .ok (.bipush 11, 2) := by decide +kernel
theorem dX1_readRing_5 : decode cX1_readRing 5 = .ok (.invokevirtual 38, 3) := by decide +kernel
theorem dX1_readRing_8 : decode cX1_readRing 8 = .ok (.putfield 63, 3) := by decide +kernel
theorem dX1_readRing_11 : decode cX1_readRing 11 = .ok (.aload_n 0, 1) := by decide +kernel
theorem dX1_readRing_12 : decode cX1_readRing 12 = .ok (.getfield 63, 3) := by decide +kernel
theorem dX1_readRing_15 : decode cX1_readRing 15 = .ok (.ifCond .lt 7, 3) := by decide +kernel
theorem dX1_readRing_18 : decode cX1_readRing 18 = .ok (.iconst 1, 1) := by decide +kernel
theorem dX1_readRing_19 : decode cX1_readRing 19 = .ok (.goto 4, 3) := by decide +kernel
theorem dX1_readRing_22 : decode cX1_readRing 22 = .ok (.iconst 0, 1) := by decide +kernel
theorem dX1_readRing_23 : decode cX1_readRing 23 = .ok (.ireturn, 1) := by decide +kernel
theorem dX1_readVelocity_0 : decode cX1_readVelocity 0 = .ok (.aload_n 0, 1) := by decide +kernel
theorem dX1_readVelocity_1 : decode cX1_readVelocity 1 = .ok (.bipush 45, 2) := by decide +kernel
theorem dX1_readVelocity_3 : decode cX1_readVelocity 3 = .ok (.invokevirtual 26, 3) := by decide +kernel
theorem dX1_readVelocity_6 : decode cX1_readVelocity 6 = .ok (.istore_n 1, 1) := by decide +kernel
theorem dX1_readVelocity_7 : decode cX1_readVelocity 7 = .ok (.aload_n 0, 1) := by decide +kernel
theorem dX1_readVelocity_8 : decode cX1_readVelocity 8 = .ok (.iconst 0, 1) := by decide +kernel
theorem dX1_readVelocity_9 : decode cX1_readVelocity 9 = .ok (.sipush 1500, 3) := by decide +kernel
theorem dX1_readVelocity_12 : decode cX1_readVelocity 12 = .ok (.invokevirtual 38, 3) := by decide +kernel
theorem dX1_readVelocity_15 : decode cX1_readVelocity 15 = .ok (.istore_n 2, 1) := by decide +kernel
theorem dX1_readVelocity_16 : decode cX1_readVelocity 16 = .ok (.aload_n 0, 1) := by decide +kernel
theorem dX1_readVelocity_17 : decode cX1_readVelocity 17 = .ok (.iload_n 1, 1) := by decide +kernel
theorem dX1_readVelocity_18 : decode cX1_readVelocity 18 = .ok (.ifCond .eq 8, 3) := by decide +kernel
theorem dX1_readVelocity_21 : decode cX1_readVelocity 21 = .ok (.iload_n 2, 1) := by decide +kernel
theorem dX1_readVelocity_22 : decode cX1_readVelocity 22 = .ok (.ineg, 1) := by decide +kernel
theorem dX1_readVelocity_23 : decode cX1_readVelocity 23 = .ok (.goto 4, 3) := by decide +kernel
theorem dX1_readVelocity_26 : decode cX1_readVelocity 26 = .ok (.iload_n 2, 1) := by decide +kernel
theorem dX1_readVelocity_27 : decode cX1_readVelocity 27 = .ok (.putfield 42, 3) := by decide +kernel
theorem dX1_readVelocity_30 : decode cX1_readVelocity 30 = .ok (.iload_n 2, 1) := by decide +kernel
theorem dX1_readVelocity_31 : decode cX1_readVelocity 31 = .ok (.ifCond .lt 7, 3) := by decide +kernel
theorem dX1_readVelocity_34 : decode cX1_readVelocity 34 = .ok (.iconst 1, 1) := by decide +kernel
theorem dX1_readVelocity_35 : decode cX1_readVelocity 35 = .ok (.goto 4, 3) := by decide +kernel
theorem dX1_readVelocity_38 : decode cX1_readVelocity 38 = .ok (.iconst 0, 1) := by decide +kernel
theorem dX1_readVelocity_39 : decode cX1_readVelocity 39 = .ok (.ireturn, 1) := by decide +kernel
theorem dX1_readColour_0 : decode cX1_readColour 0 = .ok (.aload_n 0, 1) := by decide +kernel
theorem dX1_readColour_1 : decode cX1_readColour 1 = .ok (.aload_n 0, 1) := by decide +kernel
theorem dX1_readColour_2 : decode cX1_readColour 2 = .ok (.invokevirtual 30, 3) := by decide +kernel
theorem dX1_readColour_5 : decode cX1_readColour 5 = .ok (.bipush 97, 2) := by decide +kernel
theorem dX1_readColour_7 : decode cX1_readColour 7 = .ok (.isub, 1) := by decide +kernel
theorem dX1_readColour_8 : decode cX1_readColour 8 = .ok (.putfield 66, 3) := by decide +kernel
theorem dX1_readColour_11 : decode cX1_readColour 11 = .ok (.aload_n 0, 1) := by decide +kernel
theorem dX1_readColour_12 : decode cX1_readColour 12 = .ok (.bipush 97, 2) := by decide +kernel
theorem dX1_readColour_14 : decode cX1_readColour 14 = .ok (.invokevirtual 26, 3) := by decide +kernel
theorem dX1_readColour_17 : decode cX1_readColour 17 = .ok (.ifCond .ne 21, 3) := by decide +kernel
theorem dX1_readColour_20 : decode cX1_readColour 20 = .ok (.aload_n 0, 1) := by decide +kernel
theorem dX1_readColour_21 : decode cX1_readColour 21 = .ok (.bipush 98, 2) := by decide +kernel
theorem dX1_readColour_23 : decode cX1_readColour 23 = .ok (.invokevirtual 26, 3) := by decide +kernel
theorem dX1_readColour_26 : decode cX1_readColour 26 = .ok (.ifCond .ne 12, 3) := by decide +kernel
theorem dX1_readColour_29 : decode cX1_readColour 29 = .ok (.aload_n 0, 1) := by decide +kernel
theorem dX1_readColour_30 : decode cX1_readColour 30 = .ok (.bipush 99, 2) := by decide +kernel
theorem dX1_readColour_32 : decode cX1_readColour 32 = .ok (.invokevirtual 26, 3) := by decide +kernel
theorem dX1_readColour_35 : decode cX1_readColour 35 = .ok (.ifCond .eq 7, 3) := by decide +kernel
theorem dX1_readColour_38 : decode cX1_readColour 38 = .ok (.iconst 1, 1) := by decide +kernel
theorem dX1_readColour_39 : decode cX1_readColour 39 = .ok (.goto 4, 3) := by decide +kernel
theorem dX1_readColour_42 : decode cX1_readColour 42 = .ok (.iconst 0, 1) := by decide +kernel
theorem dX1_readColour_43 : decode cX1_readColour 43 = .ok (.ireturn, 1) := by decide +kernel
theorem dX1_readLayer_0 : decode cX1_readLayer 0 = .ok (.aload_n 0, 1) := by decide +kernel
theorem dX1_readLayer_1 : decode cX1_readLayer 1 = .ok (.aload_n 0, 1) := by decide +kernel
theorem dX1_readLayer_2 : decode cX1_readLayer 2 = .ok (.invokevirtual 30, 3) := by decide +kernel
theorem dX1_readLayer_5 : decode cX1_readLayer 5 = .ok (.bipush 94, 2) := by decide +kernel
theorem dX1_readLayer_7 : decode cX1_readLayer 7 = .ok (.if_icmp .ne 7, 3) := by decide +kernel
theorem dX1_readLayer_10 : decode cX1_readLayer 10 = .ok (.iconst 0, 1) := by decide +kernel
theorem dX1_readLayer_11 : decode cX1_readLayer 11 = .ok (.goto 4, 3) := by decide +kernel
theorem dX1_readLayer_14 : decode cX1_readLayer 14 = .ok (.iconst 1, 1) := by decide +kernel
theorem dX1_readLayer_15 : decode cX1_readLayer 15 = .ok (.putfield 69, 3) := by decide +kernel
theorem dX1_readLayer_18 : decode cX1_readLayer 18 = .ok (.aload_n 0, 1) := by decide +kernel
theorem dX1_readLayer_19 : decode cX1_readLayer 19 = .ok (.bipush 94, 2) := by decide +kernel
theorem dX1_readLayer_21 : decode cX1_readLayer 21 = .ok (.invokevirtual 26, 3) := by decide +kernel
theorem dX1_readLayer_24 : decode cX1_readLayer 24 = .ok (.ifCond .ne 12, 3) := by decide +kernel
theorem dX1_readLayer_27 : decode cX1_readLayer 27 = .ok (.aload_n 0, 1) := by decide +kernel
theorem dX1_readLayer_28 : decode cX1_readLayer 28 = .ok (.bipush 95, 2) := by decide +kernel
theorem dX1_readLayer_30 : decode cX1_readLayer 30 = .ok (.invokevirtual 26, 3) := by decide +kernel
theorem dX1_readLayer_33 : decode cX1_readLayer 33 = .ok (.ifCond .eq 7, 3) := by decide +kernel
theorem dX1_readLayer_36 : decode cX1_readLayer 36 = .ok (.iconst 1, 1) := by decide +kernel
theorem dX1_readLayer_37 : decode cX1_readLayer 37 = .ok (.goto 4, 3) := by decide +kernel
theorem dX1_readLayer_40 : decode cX1_readLayer 40 = .ok (.iconst 0, 1) := by decide +kernel
theorem dX1_readLayer_41 : decode cX1_readLayer 41 = .ok (.ireturn, 1) := by decide +kernel
theorem dX1_readSector_0 : decode cX1_readSector 0 = .ok (.aload_n 0, 1) := by decide +kernel
theorem dX1_readSector_1 : decode cX1_readSector 1 = .ok (.aload_n 0, 1) := by decide +kernel
theorem dX1_readSector_2 : decode cX1_readSector 2 = .ok (.iconst 0, 1) := by decide +kernel
theorem dX1_readSector_3 : decode cX1_readSector 3 = .ok (.bipush 23, 2) := by decide +kernel
theorem dX1_readSector_5 : decode cX1_readSector 5 = .ok (.invokevirtual 38, 3) := by decide +kernel
theorem dX1_readSector_8 : decode cX1_readSector 8 = .ok (.putfield 72, 3) := by decide +kernel
theorem dX1_readSector_11 : decode cX1_readSector 11 = .ok (.aload_n 0, 1) := by decide +kernel
theorem dX1_readSector_12 : decode cX1_readSector 12 = .ok (.getfield 72, 3) := by decide +kernel
theorem dX1_readSector_15 : decode cX1_readSector 15 = .ok (.ifCond .lt 7, 3) := by decide +kernel
theorem dX1_readSector_18 : decode cX1_readSector 18 = .ok (.iconst 1, 1) := by decide +kernel
theorem dX1_readSector_19 : decode cX1_readSector 19 = .ok (.goto 4, 3) := by decide +kernel
theorem dX1_readSector_22 : decode cX1_readSector 22 = .ok (.iconst 0, 1) := by decide +kernel
theorem dX1_readSector_23 : decode cX1_readSector 23 = .ok (.ireturn, 1) := by decide +kernel
theorem dX1_readAmount_0 : decode cX1_readAmount 0 = .ok (.aload_n 0, 1) := by decide +kernel
theorem dX1_readAmount_1 : decode cX1_readAmount 1 = .ok (.aload_n 0, 1) := by decide +kernel
theorem dX1_readAmount_2 : decode cX1_readAmount 2 = .ok (.iconst 1, 1) := by decide +kernel
theorem dX1_readAmount_3 : decode cX1_readAmount 3 = .ok (.ldc 75, 2) := by decide +kernel
theorem dX1_readAmount_5 : decode cX1_readAmount 5 = .ok (.invokevirtual 38, 3) := by decide +kernel
theorem dX1_readAmount_8 : decode cX1_readAmount 8 = .ok (.putfield 42, 3) := by decide +kernel
theorem dX1_readAmount_11 : decode cX1_readAmount 11 = .ok (.aload_n 0, 1) := by decide +kernel
theorem dX1_readAmount_12 : decode cX1_readAmount 12 = .ok (.getfield 42, 3) := by decide +kernel
theorem dX1_readAmount_15 : decode cX1_readAmount 15 = .ok (.ifCond .lt 7, 3) := by decide +kernel
theorem dX1_readAmount_18 : decode cX1_readAmount 18 = .ok (.iconst 1, 1) := by decide +kernel
theorem dX1_readAmount_19 : decode cX1_readAmount 19 = .ok (.goto 4, 3) := by decide +kernel
theorem dX1_readAmount_22 : decode cX1_readAmount 22 = .ok (.iconst 0, 1) := by decide +kernel
theorem dX1_readAmount_23 : decode cX1_readAmount 23 = .ok (.ireturn, 1) := by decide +kernel
theorem dX1_readNumber_0 : decode cX1_readNumber 0 = .ok (.aload_n 0, 1) := by decide +kernel
theorem dX1_readNumber_1 : decode cX1_readNumber 1 = .ok (.invokevirtual 76, 3) := by decide +kernel
theorem dX1_readNumber_4 : decode cX1_readNumber 4 = .ok (.istore_n 3, 1) := by decide +kernel
theorem dX1_readNumber_5 : decode cX1_readNumber 5 = .ok (.iload_n 3, 1) := by decide +kernel
theorem dX1_readNumber_6 : decode cX1_readNumber 6 = .ok (.iload_n 1, 1) := by decide +kernel
theorem dX1_readNumber_7 : decode cX1_readNumber 7 = .ok (.if_icmp .ge 5, 3) := by decide +kernel
theorem dX1_readNumber_10 : decode cX1_readNumber 10 = .ok (.iconst (-1), 1) := by decide +kernel
theorem dX1_readNumber_11 : decode cX1_readNumber 11 = .ok (.ireturn, 1) := by decide +kernel
theorem dX1_readNumber_12 : decode cX1_readNumber 12 = .ok (.aload_n 0, 1) := by decide +kernel
theorem dX1_readNumber_13 : decode cX1_readNumber 13 = .ok (.dup, 1) := by decide +kernel
theorem dX1_readNumber_14 : decode cX1_readNumber 14 = .ok (.getfield 19, 3) := by decide +kernel
theorem dX1_readNumber_17 : decode cX1_readNumber 17 = .ok (.iconst 1, 1) := by decide +kernel
theorem dX1_readNumber_18 : decode cX1_readNumber 18 = .ok (.iadd, 1) := by decide +kernel
theorem dX1_readNumber_19 : decode cX1_readNumber 19 = .ok (.putfield 19, 3) := by decide +kernel
theorem dX1_readNumber_22 : decode cX1_readNumber 22 = .ok (.iload_n 3, 1) := by decide +kernel
theorem dX1_readNumber_23 : decode cX1_readNumber 23 = .ok (.ifCond .le 60, 3) := by decide +kernel
theorem dX1_readNumber_26 : decode cX1_readNumber 26 = .ok (.aload_n 0, 1) := by decide +kernel
theorem dX1_readNumber_27 : decode cX1_readNumber 27 = .ok (.getfield 19, 3) := by decide +kernel
theorem dX1_readNumber_30 : decode cX1_readNumber 30 = .ok (.aload_n 0, 1) := by decide +kernel
theorem dX1_readNumber_31 : decode cX1_readNumber 31 = .ok (.getfield 15, 3) := by decide +kernel
theorem dX1_readNumber_34 : decode cX1_readNumber 34 = .ok (.if_icmp .ge 49, 3) := by decide +kernel
theorem dX1_readNumber_37 : decode cX1_readNumber 37 = .ok (.aload_n 0, 1) := by decide +kernel
theorem dX1_readNumber_38 : decode cX1_readNumber 38 = .ok (.invokevirtual 76, 3) := by decide +kernel
theorem dX1_readNumber_41 : decode cX1_readNumber 41 = .ok (.istore 4, 2) := by decide +kernel
theorem dX1_readNumber_43 : decode cX1_readNumber 43 = .ok (.iload 4, 2) := by decide +kernel
theorem dX1_readNumber_45 : decode cX1_readNumber 45 = .ok (.ifCond .lt 38, 3) := by decide +kernel
theorem dX1_readNumber_48 : decode cX1_readNumber 48 = .ok (.iload_n 3, 1) := by decide +kernel
theorem dX1_readNumber_49 : decode cX1_readNumber 49 = .ok (.bipush 10, 2) := by decide +kernel
theorem dX1_readNumber_51 : decode cX1_readNumber 51 = .ok (.imul, 1) := by decide +kernel
theorem dX1_readNumber_52 : decode cX1_readNumber 52 = .ok (.iload 4, 2) := by decide +kernel
theorem dX1_readNumber_54 : decode cX1_readNumber 54 = .ok (.iadd, 1) := by decide +kernel
theorem dX1_readNumber_55 : decode cX1_readNumber 55 = .ok (.iload_n 2, 1) := by decide +kernel
theorem dX1_readNumber_56 : decode cX1_readNumber 56 = .ok (.if_icmp .le 6, 3) := by decide +kernel
theorem dX1_readNumber_59 : decode cX1_readNumber 59 = .ok (.goto 24, 3) := by decide +kernel
theorem dX1_readNumber_62 : decode cX1_readNumber 62 = .ok (.iload_n 3, 1) := by decide +kernel
theorem dX1_readNumber_63 : decode cX1_readNumber 63 = .ok (.bipush 10, 2) := by decide +kernel
theorem dX1_readNumber_65 : decode cX1_readNumber 65 = .ok (.imul, 1) := by decide +kernel
theorem dX1_readNumber_66 : decode cX1_readNumber 66 = .ok (.iload 4, 2) := by decide +kernel
theorem dX1_readNumber_68 : decode cX1_readNumber 68 = .ok (.iadd, 1) := by decide +kernel
theorem dX1_readNumber_69 : decode cX1_readNumber 69 = .ok (.istore_n 3, 1) := by decide +kernel
theorem dX1_readNumber_70 : decode cX1_readNumber 70 = .ok (.aload_n 0, 1) := by decide +kernel
theorem dX1_readNumber_71 : decode cX1_readNumber 71 = .ok (.dup, 1) := by decide +kernel
theorem dX1_readNumber_72 : decode cX1_readNumber 72 = .ok (.getfield 19, 3) := by decide +kernel
theorem dX1_readNumber_75 : decode cX1_readNumber 75 = .ok (.iconst 1, 1) := by decide +kernel
theorem dX1_readNumber_76 : decode cX1_readNumber 76 = .ok (.iadd, 1) := by decide +kernel
theorem dX1_readNumber_77 : decode cX1_readNumber 77 = .ok (.putfield 19, 3) := by decide +kernel
theorem dX1_readNumber_80 : decode cX1_readNumber 80 = .ok (.goto (-58), 3) := by decide +kernel
theorem dX1_readNumber_83 : decode cX1_readNumber 83 = .ok (.iload_n 3, 1) := by decide +kernel
theorem dX1_readNumber_84 : decode cX1_readNumber 84 = .ok (.ireturn, 1) := by decide +kernel
theorem dX1_digit_0 : decode cX1_digit 0 = .ok (.aload_n 0, 1) := by decide +kernel
theorem dX1_digit_1 : decode cX1_digit 1 = .ok (.invokevirtual 30, 3) := by decide +kernel
theorem dX1_digit_4 : decode cX1_digit 4 = .ok (.istore_n 1, 1) := by decide +kernel
theorem dX1_digit_5 : decode cX1_digit 5 = .ok (.iload_n 1, 1) := by decide +kernel
theorem dX1_digit_6 : decode cX1_digit 6 = .ok (.bipush 48, 2) := by decide +kernel
theorem dX1_digit_8 : decode cX1_digit 8 = .ok (.if_icmp .lt 16, 3) := by decide +kernel
theorem dX1_digit_11 : decode cX1_digit 11 = .ok (.iload_n 1, 1) := by decide +kernel
theorem dX1_digit_12 : decode cX1_digit 12 = .ok (.bipush 57, 2) := by decide +kernel
theorem dX1_digit_14 : decode cX1_digit 14 = .ok (.if_icmp .gt 10, 3) := by decide +kernel
theorem dX1_digit_17 : decode cX1_digit 17 = .ok (.iload_n 1, 1) := by decide +kernel
theorem dX1_digit_18 : decode cX1_digit 18 = .ok (.bipush 48, 2) := by decide +kernel
theorem dX1_digit_20 : decode cX1_digit 20 = .ok (.isub, 1) := by decide +kernel
theorem dX1_digit_21 : decode cX1_digit 21 = .ok (.goto 4, 3) := by decide +kernel
theorem dX1_digit_24 : decode cX1_digit 24 = .ok (.iconst (-1), 1) := by decide +kernel
theorem dX1_digit_25 : decode cX1_digit 25 = .ok (.ireturn, 1) := by decide +kernel
theorem dX1_take_0 : decode cX1_take 0 = .ok (.aload_n 0, 1) := by decide +kernel
theorem dX1_take_1 : decode cX1_take 1 = .ok (.invokevirtual 30, 3) := by decide +kernel
theorem dX1_take_4 : decode cX1_take 4 = .ok (.iload_n 1, 1) := by decide +kernel
theorem dX1_take_5 : decode cX1_take 5 = .ok (.if_icmp .eq 5, 3) := by decide +kernel
theorem dX1_take_8 : decode cX1_take 8 = .ok (.iconst 0, 1) := by decide +kernel
theorem dX1_take_9 : decode cX1_take 9 = .ok (.ireturn, 1) := by decide +kernel
theorem dX1_take_10 : decode cX1_take 10 = .ok (.aload_n 0, 1) := by decide +kernel
theorem dX1_take_11 : decode cX1_take 11 = .ok (.dup, 1) := by decide +kernel
theorem dX1_take_12 : decode cX1_take 12 = .ok (.getfield 19, 3) := by decide +kernel
theorem dX1_take_15 : decode cX1_take 15 = .ok (.iconst 1, 1) := by decide +kernel
theorem dX1_take_16 : decode cX1_take 16 = .ok (.iadd, 1) := by decide +kernel
theorem dX1_take_17 : decode cX1_take 17 = .ok (.putfield 19, 3) := by decide +kernel
theorem dX1_take_20 : decode cX1_take 20 = .ok (.iconst 1, 1) := by decide +kernel
theorem dX1_take_21 : decode cX1_take 21 = .ok (.ireturn, 1) := by decide +kernel
theorem dX1_character_0 : decode cX1_character 0 = .ok (.aload_n 0, 1) := by decide +kernel
theorem dX1_character_1 : decode cX1_character 1 = .ok (.getfield 19, 3) := by decide +kernel
theorem dX1_character_4 : decode cX1_character 4 = .ok (.ifCond .lt 35, 3) := by decide +kernel
theorem dX1_character_7 : decode cX1_character 7 = .ok (.aload_n 0, 1) := by decide +kernel
theorem dX1_character_8 : decode cX1_character 8 = .ok (.getfield 19, 3) := by decide +kernel
theorem dX1_character_11 : decode cX1_character 11 = .ok (.aload_n 0, 1) := by decide +kernel
theorem dX1_character_12 : decode cX1_character 12 = .ok (.getfield 15, 3) := by decide +kernel
theorem dX1_character_15 : decode cX1_character 15 = .ok (.if_icmp .ge 24, 3) := by decide +kernel
theorem dX1_character_18 : decode cX1_character 18 = .ok (.aload_n 0, 1) := by decide +kernel
theorem dX1_character_19 : decode cX1_character 19 = .ok (.getfield 19, 3) := by decide +kernel
theorem dX1_character_22 : decode cX1_character 22 = .ok (.bipush 60, 2) := by decide +kernel
theorem dX1_character_24 : decode cX1_character 24 = .ok (.if_icmp .ge 15, 3) := by decide +kernel
theorem dX1_character_27 : decode cX1_character 27 = .ok (.aload_n 0, 1) := by decide +kernel
theorem dX1_character_28 : decode cX1_character 28 = .ok (.getfield 9, 3) := by decide +kernel
theorem dX1_character_31 : decode cX1_character 31 = .ok (.aload_n 0, 1) := by decide +kernel
theorem dX1_character_32 : decode cX1_character 32 = .ok (.getfield 19, 3) := by decide +kernel
theorem dX1_character_35 : decode cX1_character 35 = .ok (.caload, 1) := by decide +kernel
theorem dX1_character_36 : decode cX1_character 36 = .ok (.goto 4, 3) := by decide +kernel
theorem dX1_character_39 : decode cX1_character 39 = .ok (.iconst 0, 1) := by decide +kernel
theorem dX1_character_40 : decode cX1_character 40 = .ok (.ireturn, 1) := by decide +kernel
theorem dX2_init_0 : decode cX2_init 0 = .ok (.aload_n 0, 1) := by decide +kernel
theorem dX2_init_1 : decode cX2_init 1 = .ok (.invokespecial 3, 3) := by decide +kernel
theorem dX2_init_4 : decode cX2_init 4 = .ok (.aload_n 0, 1) := by decide +kernel
theorem dX2_init_5 : decode cX2_init 5 = .ok (.bipush 7, 2) := by decide +kernel
theorem dX2_init_7 : decode cX2_init 7 = .ok (.newarray .int, 2) := by decide +kernel
theorem dX2_init_9 : decode cX2_init 9 = .ok (.putfield 9, 3) := by decide +kernel
theorem dX2_init_12 : decode cX2_init 12 = .ok (.aload_n 0, 1) := by decide +kernel
theorem dX2_init_13 : decode cX2_init 13 = .ok (.bipush 12, 2) := by decide +kernel
theorem dX2_init_15 : decode cX2_init 15 = .ok (.newarray .int, 2) := by decide +kernel
theorem dX2_init_17 : decode cX2_init 17 = .ok (.putfield 15, 3) := by decide +kernel
theorem dX2_init_20 : decode cX2_init 20 = .ok (.aload_n 0, 1) := by decide +kernel
theorem dX2_init_21 : decode cX2_init 21 = .ok (.bipush 12, 2) := by decide +kernel
theorem dX2_init_23 : decode cX2_init 23 = .ok (.newarray .int, 2) := by decide +kernel
theorem dX2_init_25 : decode cX2_init 25 = .ok (.putfield 18, 3) := by decide +kernel
theorem dX2_init_28 : decode cX2_init 28 = .ok (.aload_n 0, 1) := by decide +kernel
theorem dX2_init_29 : decode cX2_init 29 = .ok (.iconst 3, 1) := by decide +kernel
theorem dX2_init_30 : decode cX2_init 30 = .ok (.newarray .int, 2) := by decide +kernel
theorem dX2_init_32 : decode cX2_init 32 = .ok (.putfield 21, 3) := by decide +kernel
theorem dX2_init_35 : decode cX2_init 35 = .ok (.aload_n 0, 1) := by decide +kernel
theorem dX2_init_36 : decode cX2_init 36 = .ok (.iconst 3, 1) := by decide +kernel
theorem dX2_init_37 : decode cX2_init 37 = .ok (.sipush 576, 3) := by decide +kernel
theorem dX2_init_40 : decode cX2_init 40 = .ok (.multianewarray 24 2, 4) := by decide +kernel
theorem dX2_init_44 : decode cX2_init 44 = .ok (.putfield 26, 3) := by decide +kernel
theorem dX2_init_47 : decode cX2_init 47 = .ok (.aload_n 0, 1) := by decide +kernel
theorem dX2_init_48 : decode cX2_init 48 = .ok (.bipush 6, 2) := by decide +kernel
theorem dX2_init_50 : decode cX2_init 50 = .ok (.anewarray 29, 3) := by decide +kernel
theorem dX2_init_53 : decode cX2_init 53 = .ok (.putfield 31, 3) := by decide +kernel
theorem dX2_init_56 : decode cX2_init 56 = .ok (.aload_n 0, 1) := by decide +kernel
theorem dX2_init_57 : decode cX2_init 57 = .ok (.bipush 12, 2) := by decide +kernel
theorem dX2_init_59 : decode cX2_init 59 = .ok (.newarray .int, 2) := by decide +kernel
theorem dX2_init_61 : decode cX2_init 61 = .ok (.putfield 35, 3) := by decide +kernel
theorem dX2_init_64 : decode cX2_init 64 = .ok (.aload_n 0, 1) := by decide +kernel
theorem dX2_init_65 : decode cX2_init 65 = .ok (.bipush 12, 2) := by decide +kernel
theorem dX2_init_67 : decode cX2_init 67 = .ok (.newarray .int, 2) := by decide +kernel
theorem dX2_init_69 : decode cX2_init 69 = .ok (.putfield 38, 3) := by decide +kernel
theorem dX2_init_72 : decode cX2_init 72 = .ok (.aload_n 0, 1) := by decide +kernel
theorem dX2_init_73 : decode cX2_init 73 = .ok (.sipush 576, 3) := by decide +kernel
theorem dX2_init_76 : decode cX2_init 76 = .ok (.newarray .int, 2) := by decide +kernel
theorem dX2_init_78 : decode cX2_init 78 = .ok (.putfield 41, 3) := by decide +kernel
theorem dX2_init_81 : decode cX2_init 81 = .ok (.iconst 0, 1) := by decide +kernel
theorem dX2_init_82 : decode cX2_init 82 = .ok (.istore_n 1, 1) := by decide +kernel
theorem dX2_init_83 : decode cX2_init 83 = .ok (.iload_n 1, 1) := by decide +kernel
theorem dX2_init_84 : decode cX2_init 84 = .ok (.bipush 6, 2) := by decide +kernel
theorem dX2_init_86 : decode cX2_init 86 = .ok (.if_icmp .ge 22, 3) := by decide +kernel
theorem dX2_init_89 : decode cX2_init 89 = .ok (.aload_n 0, 1) := by decide +kernel
theorem dX2_init_90 : decode cX2_init 90 = .ok (.getfield 31, 3) := by decide +kernel
theorem dX2_init_93 : decode cX2_init 93 = .ok (.iload_n 1, 1) := by decide +kernel
theorem dX2_init_94 : decode cX2_init 94 = .ok (.new 29, 3) := by decide +kernel
theorem dX2_init_97 : decode cX2_init 97 = .ok (.dup, 1) := by decide +kernel
theorem dX2_init_98 : decode cX2_init 98 = .ok (.invokespecial 44, 3) := by decide +kernel
theorem dX2_init_101 : decode cX2_init 101 = .ok (.aastore, 1) := by decide +kernel
theorem dX2_init_102 : decode cX2_init 102 = .ok (.iinc 1 1, 3) := by decide +kernel
theorem dX2_init_105 : decode cX2_init 105 = .ok (.goto (-22), 3) := by decide +kernel
theorem dX2_init_108 : decode cX2_init 108 = .ok (.aload_n 0, 1) := by decide +kernel
theorem dX2_init_109 : decode cX2_init 109 = .ok (.bipush 6, 2) := by decide +kernel
theorem dX2_init_111 : decode cX2_init 111 = .ok (.invokevirtual 45, 3) := by decide +kernel
theorem dX2_init_114 : decode cX2_init 114 = .ok (.return_, 1) := by decide +kernel
theorem dX2_startAgain_0 : decode cX2_startAgain 0 = .ok (.aload_n 0, 1) := by decide +kernel
theorem dX2_startAgain_1 : decode cX2_startAgain 1 = .ok (.iload_n 1, 1) := by decide +kernel
theorem dX2_startAgain_2 : decode cX2_startAgain 2 = .ok (.putfield 49, 3) := by decide +kernel
theorem dX2_startAgain_5 : decode cX2_startAgain 5 = .ok (.aload_n 0, 1) := by decide +kernel
theorem dX2_startAgain_6 : decode cX2_startAgain 6 = .ok (.iconst 0, 1) := by decide +kernel
theorem dX2_startAgain_7 : decode cX2_startAgain 7 = .ok (.putfield 53, 3) := by decide +kernel
theorem dX2_startAgain_10 : decode cX2_startAgain 10 = .ok (.aload_n 0, 1) := by decide +kernel
theorem dX2_startAgain_11 : decode cX2_startAgain 11 = .ok (.iconst 0, 1) := by decide +kernel
theorem dX2_startAgain_12 : decode cX2_startAgain 12 = .ok (.putfield 56, 3) := by decide +kernel
theorem dX2_startAgain_15 : decode cX2_startAgain 15 = .ok (.getstatic 59, 3) := by decide +kernel
theorem dX2_startAgain_18 : decode cX2_startAgain 18 = .ok (.iconst 0, 1) := by decide +kernel
theorem dX2_startAgain_19 : decode cX2_startAgain 19 = .ok (.aload_n 0, 1) := by decide +kernel
theorem dX2_startAgain_20 : decode cX2_startAgain 20 = .ok (.getfield 9, 3) := by decide +kernel
theorem dX2_startAgain_23 : decode cX2_startAgain 23 = .ok (.iconst 0, 1) := by decide +kernel
theorem dX2_startAgain_24 : decode cX2_startAgain 24 = .ok (.bipush 7, 2) := by decide +kernel
theorem dX2_startAgain_26 : decode cX2_startAgain 26 = .ok (.invokestatic 62, 3) := by decide +kernel
theorem dX2_startAgain_29 : decode cX2_startAgain 29 = .ok (.aload_n 0, 1) := by decide +kernel
theorem dX2_startAgain_30 : decode cX2_startAgain 30 = .ok (.getfield 15, 3) := by decide +kernel
theorem dX2_startAgain_33 : decode cX2_startAgain 33 = .ok (.iconst 0, 1) := by decide +kernel
theorem dX2_startAgain_34 : decode cX2_startAgain 34 = .ok (.invokestatic 68, 3) := by decide +kernel
theorem dX2_startAgain_37 : decode cX2_startAgain 37 = .ok (.aload_n 0, 1) := by decide +kernel
theorem dX2_startAgain_38 : decode cX2_startAgain 38 = .ok (.getfield 18, 3) := by decide +kernel
theorem dX2_startAgain_41 : decode cX2_startAgain 41 = .ok (.iconst 0, 1) := by decide +kernel
theorem dX2_startAgain_42 : decode cX2_startAgain 42 = .ok (.invokestatic 68, 3) := by decide +kernel
theorem dX2_startAgain_45 : decode cX2_startAgain 45 = .ok (.aload_n 0, 1) := by decide +kernel
theorem dX2_startAgain_46 : decode cX2_startAgain 46 = .ok (.getfield 21, 3) := by decide +kernel
theorem dX2_startAgain_49 : decode cX2_startAgain 49 = .ok (.iconst 0, 1) := by decide +kernel
theorem dX2_startAgain_50 : decode cX2_startAgain 50 = .ok (.invokestatic 68, 3) := by decide +kernel
theorem dX2_startAgain_53 : decode cX2_startAgain 53 = .ok (.iconst 0, 1) := by decide +kernel
theorem dX2_startAgain_54 : decode cX2_startAgain 54 = .ok (.istore_n 2, 1) := by decide +kernel
theorem dX2_startAgain_55 : decode cX2_startAgain 55 = .ok (.iload_n 2, 1) := by decide +kernel
theorem dX2_startAgain_56 : decode cX2_startAgain 56 = .ok (.iconst 3, 1) := by decide +kernel
theorem dX2_startAgain_57 : decode cX2_startAgain 57 = .ok (.if_icmp .ge 19, 3) := by decide +kernel
theorem dX2_startAgain_60 : decode cX2_startAgain 60 = .ok (.aload_n 0, 1) := by decide +kernel
theorem dX2_startAgain_61 : decode cX2_startAgain 61 = .ok (.getfield 26, 3) := by decide +kernel
theorem dX2_startAgain_64 : decode cX2_startAgain 64 = .ok (.iload_n 2, 1) := by decide +kernel
theorem dX2_startAgain_65 : decode cX2_startAgain 65 = .ok (.aaload, 1) := by decide +kernel
theorem dX2_startAgain_66 : decode cX2_startAgain 66 = .ok (.iconst 0, 1) := by decide +kernel
theorem dX2_startAgain_67 : decode cX2_startAgain 67 = .ok (.invokestatic 68, 3) := by decide +kernel
theorem dX2_startAgain_70 : decode cX2_startAgain 70 = .ok (.iinc 2 1, 3) := by decide +kernel
theorem dX2_startAgain_73 : decode cX2_startAgain 73 = .ok (.goto (-18), 3) := by decide +kernel
theorem dX2_startAgain_76 : decode cX2_startAgain 76 = .ok (.return_, 1) := by decide +kernel
theorem dX2_becomeLike_0 : decode cX2_becomeLike 0 = .ok (.aload_n 0, 1) := by decide +kernel
theorem dX2_becomeLike_1 : decode cX2_becomeLike 1 = .ok (.aload_n 1, 1) := by decide +kernel
theorem dX2_becomeLike_2 : decode cX2_becomeLike 2 = .ok (.getfield 49, 3) := by decide +kernel
theorem dX2_becomeLike_5 : decode cX2_becomeLike 5 = .ok (.putfield 49, 3) := by decide +kernel
theorem dX2_becomeLike_8 : decode cX2_becomeLike 8 = .ok (.aload_n 0, 1) := by decide +kernel
theorem dX2_becomeLike_9 : decode cX2_becomeLike 9 = .ok (.aload_n 1, 1) := by decide +kernel
theorem dX2_becomeLike_10 : decode cX2_becomeLike 10 = .ok (.getfield 53, 3) := by decide +kernel
theorem dX2_becomeLike_13 : decode cX2_becomeLike 13 = .ok (.putfield 53, 3) := by decide +kernel
theorem dX2_becomeLike_16 : decode cX2_becomeLike 16 = .ok (.aload_n 0, 1) := by decide +kernel
theorem dX2_becomeLike_17 : decode cX2_becomeLike 17 = .ok (.aload_n 1, 1) := by decide +kernel
theorem dX2_becomeLike_18 : decode cX2_becomeLike 18 = .ok (.getfield 56, 3) := by decide +kernel
theorem dX2_becomeLike_21 : decode cX2_becomeLike 21 = .ok (.putfield 56, 3) := by decide +kernel
theorem dX2_becomeLike_24 : decode cX2_becomeLike 24 = .ok (.aload_n 1, 1) := by decide +kernel
theorem dX2_becomeLike_25 : decode cX2_becomeLike 25 = .ok (.getfield 9, 3) := by decide +kernel
theorem dX2_becomeLike_28 : decode cX2_becomeLike 28 = .ok (.iconst 0, 1) := by decide +kernel
theorem dX2_becomeLike_29 : decode cX2_becomeLike 29 = .ok (.aload_n 0, 1) := by decide +kernel
theorem dX2_becomeLike_30 : decode cX2_becomeLike 30 = .ok (.getfield 9, 3) := by decide +kernel
theorem dX2_becomeLike_33 : decode cX2_becomeLike 33 = .ok (.iconst 0, 1) := by decide +kernel
theorem dX2_becomeLike_34 : decode cX2_becomeLike 34 = .ok (.bipush 7, 2) := by decide +kernel
theorem dX2_becomeLike_36 : decode cX2_becomeLike 36 = .ok (.invokestatic 62, 3) := by decide +kernel
theorem dX2_becomeLike_39 : decode cX2_becomeLike 39 = .ok (.aload_n 1, 1) := by decide +kernel
theorem dX2_becomeLike_40 : decode cX2_becomeLike 40 = .ok (.getfield 15, 3) := by decide +kernel
theorem dX2_becomeLike_43 : decode cX2_becomeLike 43 = .ok (.iconst 0, 1) := by decide +kernel
theorem dX2_becomeLike_44 : decode cX2_becomeLike 44 = .ok (.aload_n 0, 1) := by decide +kernel
theorem dX2_becomeLike_45 : decode cX2_becomeLike 45 = .ok (.getfield 15, 3) := by decide +kernel
theorem dX2_becomeLike_48 : decode cX2_becomeLike 48 = .ok (.iconst 0, 1) := by decide +kernel
theorem dX2_becomeLike_49 : decode cX2_becomeLike 49 = .ok (.bipush 12, 2) := by decide +kernel
theorem dX2_becomeLike_51 : decode cX2_becomeLike 51 = .ok (.invokestatic 62, 3) := by decide +kernel
theorem dX2_becomeLike_54 : decode cX2_becomeLike 54 = .ok (.aload_n 1, 1) := by decide +kernel
theorem dX2_becomeLike_55 : decode cX2_becomeLike 55 = .ok (.getfield 18, 3) := by decide +kernel
theorem dX2_becomeLike_58 : decode cX2_becomeLike 58 = .ok (.iconst 0, 1) := by decide +kernel
theorem dX2_becomeLike_59 : decode cX2_becomeLike 59 = .ok (.aload_n 0, 1) := by decide +kernel
theorem dX2_becomeLike_60 : decode cX2_becomeLike 60 = .ok (.getfield 18, 3) := by decide +kernel
theorem dX2_becomeLike_63 : decode cX2_becomeLike 63 = .ok (.iconst 0, 1) := by decide +kernel
theorem dX2_becomeLike_64 : decode cX2_becomeLike 64 = .ok (.bipush 12, 2) := by decide +kernel
theorem dX2_becomeLike_66 : decode cX2_becomeLike 66 = .ok (.invokestatic 62, 3) := by decide +kernel
theorem dX2_becomeLike_69 : decode cX2_becomeLike 69 = .ok (.aload_n 1, 1) := by decide +kernel
theorem dX2_becomeLike_70 : decode cX2_becomeLike 70 = .ok (.getfield 21, 3) := by decide +kernel
theorem dX2_becomeLike_73 : decode cX2_becomeLike 73 = .ok (.iconst 0, 1) := by decide +kernel
theorem dX2_becomeLike_74 : decode cX2_becomeLike 74 = .ok (.aload_n 0, 1) := by decide +kernel
theorem dX2_becomeLike_75 : decode cX2_becomeLike 75 = .ok (.getfield 21, 3) := by decide +kernel
theorem dX2_becomeLike_78 : decode cX2_becomeLike 78 = .ok (.iconst 0, 1) := by decide +kernel
theorem dX2_becomeLike_79 : decode cX2_becomeLike 79 = .ok (.iconst 3, 1) := by decide +kernel
theorem dX2_becomeLike_80 : decode cX2_becomeLike 80 = .ok (.invokestatic 62, 3) := by decide +kernel
theorem dX2_becomeLike_83 : decode cX2_becomeLike 83 = .ok (.iconst 0, 1) := by decide +kernel
theorem dX2_becomeLike_84 : decode cX2_becomeLike 84 = .ok (.istore_n 2, 1) := by decide +kernel
theorem dX2_becomeLike_85 : decode cX2_becomeLike 85 = .ok (.iload_n 2, 1) := by decide +kernel
theorem dX2_becomeLike_86 : decode cX2_becomeLike 86 = .ok (.iconst 3, 1) := by decide +kernel
theorem dX2_becomeLike_87 : decode cX2_becomeLike 87 = .ok (.if_icmp .ge 31, 3) := by decide +kernel
theorem dX2_becomeLike_90 : decode cX2_becomeLike 90 = .ok (.aload_n 1, 1) := by decide +kernel
theorem dX2_becomeLike_91 : decode cX2_becomeLike 91 = .ok (.getfield 26, 3) := by decide +kernel
theorem dX2_becomeLike_94 : decode cX2_becomeLike 94 = .ok (.iload_n 2, 1) := by decide +kernel
theorem dX2_becomeLike_95 : decode cX2_becomeLike 95 = .ok (.aaload, 1) := by decide +kernel
theorem dX2_becomeLike_96 : decode cX2_becomeLike 96 = .ok (.iconst 0, 1) := by decide +kernel
theorem dX2_becomeLike_97 : decode cX2_becomeLike 97 = .ok (.aload_n 0, 1) := by decide +kernel
theorem dX2_becomeLike_98 : decode cX2_becomeLike 98 = .ok (.getfield 26, 3) := by decide +kernel
theorem dX2_becomeLike_101 : decode cX2_becomeLike 101 = .ok (.iload_n 2, 1) := by decide +kernel
theorem dX2_becomeLike_102 : decode cX2_becomeLike 102 = .ok (.aaload, 1) := by decide +kernel
theorem dX2_becomeLike_103 : decode cX2_becomeLike 103 = .ok (.iconst 0, 1) := by decide +kernel
theorem dX2_becomeLike_104 : decode cX2_becomeLike 104 = .ok (.aload_n 0, 1) := by decide +kernel
theorem dX2_becomeLike_105 : decode cX2_becomeLike 105 = .ok (.getfield 41, 3) := by decide +kernel
theorem dX2_becomeLike_108 : decode cX2_becomeLike 108 = .ok (.arraylength, 1) := by decide +kernel
theorem dX2_becomeLike_109 : decode cX2_becomeLike 109 = .ok (.invokestatic 62, 3) := by decide +kernel
theorem dX2_becomeLike_112 : decode cX2_becomeLike 112 = .ok (.iinc 2 1, 3) := by decide +kernel
theorem dX2_becomeLike_115 : decode cX2_becomeLike 115 = .ok (.goto (-30), 3) := by decide +kernel
theorem dX2_becomeLike_118 : decode cX2_becomeLike 118 = .ok (.iconst 0, 1) := by decide +kernel
theorem dX2_becomeLike_119 : decode cX2_becomeLike 119 = .ok (.istore_n 2, 1) := by decide +kernel
theorem dX2_becomeLike_120 : decode cX2_becomeLike 120 = .ok (.iload_n 2, 1) := by decide +kernel
theorem dX2_becomeLike_121 : decode cX2_becomeLike 121 = .ok (.aload_n 0, 1) := by decide +kernel
theorem dX2_becomeLike_122 : decode cX2_becomeLike 122 = .ok (.getfield 56, 3) := by decide +kernel
theorem dX2_becomeLike_125 : decode cX2_becomeLike 125 = .ok (.if_icmp .ge 24, 3) := by decide +kernel
theorem dX2_becomeLike_128 : decode cX2_becomeLike 128 = .ok (.aload_n 0, 1) := by decide +kernel
theorem dX2_becomeLike_129 : decode cX2_becomeLike 129 = .ok (.getfield 31, 3) := by decide +kernel
theorem dX2_becomeLike_132 : decode cX2_becomeLike 132 = .ok (.iload_n 2, 1) := by decide +kernel
theorem dX2_becomeLike_133 : decode cX2_becomeLike 133 = .ok (.aaload, 1) := by decide +kernel
theorem dX2_becomeLike_134 : decode cX2_becomeLike 134 = .ok (.aload_n 1, 1) := by decide +kernel
theorem dX2_becomeLike_135 : decode cX2_becomeLike 135 = .ok (.getfield 31, 3) := by decide +kernel
theorem dX2_becomeLike_138 : decode cX2_becomeLike 138 = .ok (.iload_n 2, 1) := by decide +kernel
theorem dX2_becomeLike_139 : decode cX2_becomeLike 139 = .ok (.aaload, 1) := by decide +kernel
theorem dX2_becomeLike_140 : decode cX2_becomeLike 140 = .ok (.invokevirtual 74, 3) := by decide +kernel
theorem dX2_becomeLike_143 : decode cX2_becomeLike 143 = .ok (.iinc 2 1, 3) := by decide +kernel
theorem dX2_becomeLike_146 : decode cX2_becomeLike 146 = .ok (.goto (-26), 3) := by decide +kernel
theorem dX2_becomeLike_149 : decode cX2_becomeLike 149 = .ok (.return_, 1) := by decide +kernel
theorem dX2_hasRing_0 : decode cX2_hasRing 0 = .ok (.iload_n 1, 1) := by decide +kernel
theorem dX2_hasRing_1 : decode cX2_hasRing 1 = .ok (.ifCond .lt 15, 3) := by decide +kernel
theorem dX2_hasRing_4 : decode cX2_hasRing 4 = .ok (.iload_n 1, 1) := by decide +kernel
theorem dX2_hasRing_5 : decode cX2_hasRing 5 = .ok (.aload_n 0, 1) := by decide +kernel
theorem dX2_hasRing_6 : decode cX2_hasRing 6 = .ok (.getfield 49, 3) := by decide +kernel
theorem dX2_hasRing_9 : decode cX2_hasRing 9 = .ok (.if_icmp .ge 7, 3) := by decide +kernel
theorem dX2_hasRing_12 : decode cX2_hasRing 12 = .ok (.iconst 1, 1) := by decide +kernel
theorem dX2_hasRing_13 : decode cX2_hasRing 13 = .ok (.goto 4, 3) := by decide +kernel
theorem dX2_hasRing_16 : decode cX2_hasRing 16 = .ok (.iconst 0, 1) := by decide +kernel
theorem dX2_hasRing_17 : decode cX2_hasRing 17 = .ok (.ireturn, 1) := by decide +kernel
theorem dX2_hasMarker_0 : decode cX2_hasMarker 0 = .ok (.iload_n 1, 1) := by decide +kernel
theorem dX2_hasMarker_1 : decode cX2_hasMarker 1 = .ok (.ifCond .lt 15, 3) := by decide +kernel
theorem dX2_hasMarker_4 : decode cX2_hasMarker 4 = .ok (.iload_n 1, 1) := by decide +kernel
theorem dX2_hasMarker_5 : decode cX2_hasMarker 5 = .ok (.aload_n 0, 1) := by decide +kernel
theorem dX2_hasMarker_6 : decode cX2_hasMarker 6 = .ok (.getfield 56, 3) := by decide +kernel
theorem dX2_hasMarker_9 : decode cX2_hasMarker 9 = .ok (.if_icmp .ge 7, 3) := by decide +kernel
theorem dX2_hasMarker_12 : decode cX2_hasMarker 12 = .ok (.iconst 1, 1) := by decide +kernel
theorem dX2_hasMarker_13 : decode cX2_hasMarker 13 = .ok (.goto 4, 3) := by decide +kernel
theorem dX2_hasMarker_16 : decode cX2_hasMarker 16 = .ok (.iconst 0, 1) := by decide +kernel
theorem dX2_hasMarker_17 : decode cX2_hasMarker 17 = .ok (.ireturn, 1) := by decide +kernel
theorem dX2_lastPlace_0 : decode cX2_lastPlace 0 = .ok (.sipush 1000, 3) := by decide +kernel
theorem dX2_lastPlace_3 : decode cX2_lastPlace 3 = .ok (.aload_n 0, 1) := by decide +kernel
theorem dX2_lastPlace_4 : decode cX2_lastPlace 4 = .ok (.getfield 49, 3) := by decide +kernel
theorem dX2_lastPlace_7 : decode cX2_lastPlace 7 = .ok (.imul, 1) := by decide +kernel
theorem dX2_lastPlace_8 : decode cX2_lastPlace 8 = .ok (.iconst 1, 1) := by decide +kernel
theorem dX2_lastPlace_9 : decode cX2_lastPlace 9 = .ok (.isub, 1) := by decide +kernel
theorem dX2_lastPlace_10 : decode cX2_lastPlace 10 = .ok (.ireturn, 1) := by decide +kernel
theorem dX2_weightOf_0 : decode cX2_weightOf 0 = .ok (.iconst 2, 1) := by decide +kernel
theorem dX2_weightOf_1 : decode cX2_weightOf 1 = .ok (.iload_n 0, 1) := by decide +kernel
theorem dX2_weightOf_2 : decode cX2_weightOf 2 = .ok (.imul, 1) := by decide +kernel
theorem dX2_weightOf_3 : decode cX2_weightOf 3 = .ok (.iconst 1, 1) := by decide +kernel
theorem dX2_weightOf_4 : decode cX2_weightOf 4 = .ok (.iadd, 1) := by decide +kernel
theorem dX2_weightOf_5 : decode cX2_weightOf 5 = .ok (.ireturn, 1) := by decide +kernel
theorem dX2_velocityOf_0 : decode cX2_velocityOf 0 = .ok (.aload_n 0, 1) := by decide +kernel
theorem dX2_velocityOf_1 : decode cX2_velocityOf 1 = .ok (.getfield 15, 3) := by decide +kernel
theorem dX2_velocityOf_4 : decode cX2_velocityOf 4 = .ok (.iload_n 1, 1) := by decide +kernel
theorem dX2_velocityOf_5 : decode cX2_velocityOf 5 = .ok (.iaload, 1) := by decide +kernel
theorem dX2_velocityOf_6 : decode cX2_velocityOf 6 = .ok (.iload_n 1, 1) := by decide +kernel
theorem dX2_velocityOf_7 : decode cX2_velocityOf 7 = .ok (.invokestatic 78, 3) := by decide +kernel
theorem dX2_velocityOf_10 : decode cX2_velocityOf 10 = .ok (.invokestatic 82, 3) := by decide +kernel
theorem dX2_velocityOf_13 : decode cX2_velocityOf 13 = .ok (.ireturn, 1) := by decide +kernel
theorem dX2_giveVelocity_0 : decode cX2_giveVelocity 0 = .ok (.aload_n 0, 1) := by decide +kernel
theorem dX2_giveVelocity_1 : decode cX2_giveVelocity 1 = .ok (.getfield 15, 3) := by decide +kernel
theorem dX2_giveVelocity_4 : decode cX2_giveVelocity 4 = .ok (.iload_n 1, 1) := by decide +kernel
theorem dX2_giveVelocity_5 : decode cX2_giveVelocity 5 = .ok (.iload_n 2, 1) := by decide +kernel
theorem dX2_giveVelocity_6 : decode cX2_giveVelocity 6 = .ok (.iload_n 1, 1) := by decide +kernel
theorem dX2_giveVelocity_7 : decode cX2_giveVelocity 7 = .ok (.invokestatic 78, 3) := by decide +kernel
theorem dX2_giveVelocity_10 : decode cX2_giveVelocity 10 = .ok (.imul, 1) := by decide +kernel
theorem dX2_giveVelocity_11 : decode cX2_giveVelocity 11 = .ok (.iastore, 1) := by decide +kernel
theorem dX2_giveVelocity_12 : decode cX2_giveVelocity 12 = .ok (.return_, 1) := by decide +kernel
theorem dX2_giveVelocities_0 : decode cX2_giveVelocities 0 = .ok (.iconst 1, 1) := by decide +kernel
theorem dX2_giveVelocities_1 : decode cX2_giveVelocities 1 = .ok (.aload_n 0, 1) := by decide +kernel
theorem dX2_giveVelocities_2 : decode cX2_giveVelocities 2 = .ok (.getfield 49, 3) := by decide +kernel
theorem dX2_giveVelocities_5 : decode cX2_giveVelocities 5 = .ok (.iconst 1, 1) := by decide +kernel
theorem dX2_giveVelocities_6 : decode cX2_giveVelocities 6 = .ok (.isub, 1) := by decide +kernel
theorem dX2_giveVelocities_7 : decode cX2_giveVelocities 7 = .ok (.invokestatic 88, 3) := by decide +kernel
theorem dX2_giveVelocities_10 : decode cX2_giveVelocities 10 = .ok (.istore_n 3, 1) := by decide +kernel
theorem dX2_giveVelocities_11 : decode cX2_giveVelocities 11 = .ok (.iconst 0, 1) := by decide +kernel
theorem dX2_giveVelocities_12 : decode cX2_giveVelocities 12 = .ok (.istore 4, 2) := by decide +kernel
theorem dX2_giveVelocities_14 : decode cX2_giveVelocities 14 = .ok (.iload 4, 2) := by decide +kernel
theorem dX2_giveVelocities_16 : decode cX2_giveVelocities 16 = .ok (.aload_n 0, 1) := by decide +kernel
theorem dX2_giveVelocities_17 : decode cX2_giveVelocities 17 = .ok (.getfield 49, 3) := by decide +kernel
theorem dX2_giveVelocities_20 : decode cX2_giveVelocities 20 = .ok (.if_icmp .ge 25, 3) := by decide +kernel
theorem dX2_giveVelocities_23 : decode cX2_giveVelocities 23 = .ok (.aload_n 0, 1) := by decide +kernel
theorem dX2_giveVelocities_24 : decode cX2_giveVelocities 24 = .ok (.iload 4, 2) := by decide +kernel
theorem dX2_giveVelocities_26 : decode cX2_giveVelocities 26 = .ok (.iload_n 1, 1) := by decide +kernel
theorem dX2_giveVelocities_27 : decode cX2_giveVelocities 27 = .ok (.iload_n 2, 1) := by decide +kernel
theorem dX2_giveVelocities_28 : decode cX2_giveVelocities 28 = .ok (.iload_n 1, 1) := by decide +kernel
theorem dX2_giveVelocities_29 : decode cX2_giveVelocities 29 = .ok (.isub, 1) := by decide +kernel
theorem dX2_giveVelocities_30 : decode cX2_giveVelocities 30 = .ok (.iload 4, 2) := by decide +kernel
theorem dX2_giveVelocities_32 : decode cX2_giveVelocities 32 = .ok (.imul, 1) := by decide +kernel
theorem dX2_giveVelocities_33 : decode cX2_giveVelocities 33 = .ok (.iload_n 3, 1) := by decide +kernel
theorem dX2_giveVelocities_34 : decode cX2_giveVelocities 34 = .ok (.idiv, 1) := by decide +kernel
theorem dX2_giveVelocities_35 : decode cX2_giveVelocities 35 = .ok (.iadd, 1) := by decide +kernel
theorem dX2_giveVelocities_36 : decode cX2_giveVelocities 36 = .ok (.invokevirtual 91, 3) := by decide +kernel
theorem dX2_giveVelocities_39 : decode cX2_giveVelocities 39 = .ok (.iinc 4 1, 3) := by decide +kernel
theorem dX2_giveVelocities_42 : decode cX2_giveVelocities 42 = .ok (.goto (-28), 3) := by decide +kernel
theorem dX2_giveVelocities_45 : decode cX2_giveVelocities 45 = .ok (.return_, 1) := by decide +kernel
theorem dX2_pushOf_0 : decode cX2_pushOf 0 = .ok (.aload_n 0, 1) := by decide +kernel
theorem dX2_pushOf_1 : decode cX2_pushOf 1 = .ok (.getfield 9, 3) := by decide +kernel
theorem dX2_pushOf_4 : decode cX2_pushOf 4 = .ok (.iconst 5, 1) := by decide +kernel
theorem dX2_pushOf_5 : decode cX2_pushOf 5 = .ok (.iaload, 1) := by decide +kernel
theorem dX2_pushOf_6 : decode cX2_pushOf 6 = .ok (.aload_n 0, 1) := by decide +kernel
theorem dX2_pushOf_7 : decode cX2_pushOf 7 = .ok (.iload_n 1, 1) := by decide +kernel
theorem dX2_pushOf_8 : decode cX2_pushOf 8 = .ok (.invokevirtual 95, 3) := by decide +kernel
theorem dX2_pushOf_11 : decode cX2_pushOf 11 = .ok (.aload_n 0, 1) := by decide +kernel
theorem dX2_pushOf_12 : decode cX2_pushOf 12 = .ok (.getfield 9, 3) := by decide +kernel
theorem dX2_pushOf_15 : decode cX2_pushOf 15 = .ok (.iconst 4, 1) := by decide +kernel
theorem dX2_pushOf_16 : decode cX2_pushOf 16 = .ok (.iaload, 1) := by decide +kernel
theorem dX2_pushOf_17 : decode cX2_pushOf 17 = .ok (.isub, 1) := by decide +kernel
theorem dX2_pushOf_18 : decode cX2_pushOf 18 = .ok (.imul, 1) := by decide +kernel
theorem dX2_pushOf_19 : decode cX2_pushOf 19 = .ok (.bipush 100, 2) := by decide +kernel
theorem dX2_pushOf_21 : decode cX2_pushOf 21 = .ok (.idiv, 1) := by decide +kernel
theorem dX2_pushOf_22 : decode cX2_pushOf 22 = .ok (.istore_n 2, 1) := by decide +kernel
theorem dX2_pushOf_23 : decode cX2_pushOf 23 = .ok (.sipush (-500), 3) := by decide +kernel
theorem dX2_pushOf_26 : decode cX2_pushOf 26 = .ok (.sipush 500, 3) := by decide +kernel
theorem dX2_pushOf_29 : decode cX2_pushOf 29 = .ok (.iload_n 2, 1) := by decide +kernel
theorem dX2_pushOf_30 : decode cX2_pushOf 30 = .ok (.invokestatic 98, 3) := by decide +kernel
theorem dX2_pushOf_33 : decode cX2_pushOf 33 = .ok (.invokestatic 88, 3) := by decide +kernel
theorem dX2_pushOf_36 : decode cX2_pushOf 36 = .ok (.ireturn, 1) := by decide +kernel
theorem dX2_allMomenta_0 : decode cX2_allMomenta 0 = .ok (.iconst 0, 1) := by decide +kernel
theorem dX2_allMomenta_1 : decode cX2_allMomenta 1 = .ok (.istore_n 1, 1) := by decide +kernel
theorem dX2_allMomenta_2 : decode cX2_allMomenta 2 = .ok (.iconst 0, 1) := by decide +kernel
theorem dX2_allMomenta_3 : decode cX2_allMomenta 3 = .ok (.istore_n 2, 1) := by decide +kernel
theorem dX2_allMomenta_4 : decode cX2_allMomenta 4 = .ok (.iload_n 2, 1) := by decide +kernel
theorem dX2_allMomenta_5 : decode cX2_allMomenta 5 = .ok (.aload_n 0, 1) := by decide +kernel
theorem dX2_allMomenta_6 : decode cX2_allMomenta 6 = .ok (.getfield 49, 3) := by decide +kernel
theorem dX2_allMomenta_9 : decode cX2_allMomenta 9 = .ok (.if_icmp .ge 18, 3) := by decide +kernel
theorem dX2_allMomenta_12 : decode cX2_allMomenta 12 = .ok (.iload_n 1, 1) := by decide +kernel
theorem dX2_allMomenta_13 : decode cX2_allMomenta 13 = .ok (.aload_n 0, 1) := by decide +kernel
theorem dX2_allMomenta_14 : decode cX2_allMomenta 14 = .ok (.getfield 15, 3) := by decide +kernel
theorem dX2_allMomenta_17 : decode cX2_allMomenta 17 = .ok (.iload_n 2, 1) := by decide +kernel
theorem dX2_allMomenta_18 : decode cX2_allMomenta 18 = .ok (.iaload, 1) := by decide +kernel
theorem dX2_allMomenta_19 : decode cX2_allMomenta 19 = .ok (.iadd, 1) := by decide +kernel
theorem dX2_allMomenta_20 : decode cX2_allMomenta 20 = .ok (.istore_n 1, 1) := by decide +kernel
theorem dX2_allMomenta_21 : decode cX2_allMomenta 21 = .ok (.iinc 2 1, 3) := by decide +kernel
theorem dX2_allMomenta_24 : decode cX2_allMomenta 24 = .ok (.goto (-20), 3) := by decide +kernel
theorem dX2_allMomenta_27 : decode cX2_allMomenta 27 = .ok (.iload_n 1, 1) := by decide +kernel
theorem dX2_allMomenta_28 : decode cX2_allMomenta 28 = .ok (.ireturn, 1) := by decide +kernel
theorem dX2_greatestShear_0 : decode cX2_greatestShear 0 = .ok (.iconst 0, 1) := by decide +kernel
theorem dX2_greatestShear_1 : decode cX2_greatestShear 1 = .ok (.istore_n 1, 1) := by decide +kernel
theorem dX2_greatestShear_2 : decode cX2_greatestShear 2 = .ok (.iconst 0, 1) := by decide +kernel
theorem dX2_greatestShear_3 : decode cX2_greatestShear 3 = .ok (.istore_n 2, 1) := by decide +kernel
theorem dX2_greatestShear_4 : decode cX2_greatestShear 4 = .ok (.iload_n 2, 1) := by decide +kernel
theorem dX2_greatestShear_5 : decode cX2_greatestShear 5 = .ok (.aload_n 0, 1) := by decide +kernel
theorem dX2_greatestShear_6 : decode cX2_greatestShear 6 = .ok (.getfield 49, 3) := by decide +kernel
theorem dX2_greatestShear_9 : decode cX2_greatestShear 9 = .ok (.iconst 1, 1) := by decide +kernel
theorem dX2_greatestShear_10 : decode cX2_greatestShear 10 = .ok (.isub, 1) := by decide +kernel
theorem dX2_greatestShear_11 : decode cX2_greatestShear 11 = .ok (.if_icmp .ge 30, 3) := by decide +kernel
theorem dX2_greatestShear_14 : decode cX2_greatestShear 14 = .ok (.iload_n 1, 1) := by decide +kernel
theorem dX2_greatestShear_15 : decode cX2_greatestShear 15 = .ok (.aload_n 0, 1) := by decide +kernel
theorem dX2_greatestShear_16 : decode cX2_greatestShear 16 = .ok (.iload_n 2, 1) := by decide +kernel
theorem dX2_greatestShear_17 : decode cX2_greatestShear 17 = .ok (.invokevirtual 95, 3) := by decide +kernel
theorem dX2_greatestShear_20 : decode cX2_greatestShear 20 = .ok (.aload_n 0, 1) := by decide +kernel
theorem dX2_greatestShear_21 : decode cX2_greatestShear 21 = .ok (.iload_n 2, 1) := by decide +kernel
theorem dX2_greatestShear_22 : decode cX2_greatestShear 22 = .ok (.iconst 1, 1) := by decide +kernel
theorem dX2_greatestShear_23 : decode cX2_greatestShear 23 = .ok (.iadd, 1) := by decide +kernel
theorem dX2_greatestShear_24 : decode cX2_greatestShear 24 = .ok (.invokevirtual 95, 3) := by decide +kernel
theorem dX2_greatestShear_27 : decode cX2_greatestShear 27 = .ok (.isub, 1) := by decide +kernel
theorem dX2_greatestShear_28 : decode cX2_greatestShear 28 = .ok (.invokestatic 101, 3) := by decide +kernel
theorem dX2_greatestShear_31 : decode cX2_greatestShear 31 = .ok (.invokestatic 88, 3) := by decide +kernel
theorem dX2_greatestShear_34 : decode cX2_greatestShear 34 = .ok (.istore_n 1, 1) := by decide +kernel
theorem dX2_greatestShear_35 : decode cX2_greatestShear 35 = .ok (.iinc 2 1, 3) := by decide +kernel
theorem dX2_greatestShear_38 : decode cX2_greatestShear 38 = .ok (.goto (-34), 3) := by decide +kernel
theorem dX2_greatestShear_41 : decode cX2_greatestShear 41 = .ok (.iload_n 1, 1) := by decide +kernel
theorem dX2_greatestShear_42 : decode cX2_greatestShear 42 = .ok (.ireturn, 1) := by decide +kernel
theorem dX2_turnsWithFloor_0 : decode cX2_turnsWithFloor 0 = .ok (.iconst 0, 1) := by decide +kernel
theorem dX2_turnsWithFloor_1 : decode cX2_turnsWithFloor 1 = .ok (.istore_n 2, 1) := by decide +kernel
theorem dX2_turnsWithFloor_2 : decode cX2_turnsWithFloor 2 = .ok (.iload_n 2, 1) := by decide +kernel
theorem dX2_turnsWithFloor_3 : decode cX2_turnsWithFloor 3 = .ok (.aload_n 0, 1) := by decide +kernel
theorem dX2_turnsWithFloor_4 : decode cX2_turnsWithFloor 4 = .ok (.getfield 49, 3) := by decide +kernel
theorem dX2_turnsWithFloor_7 : decode cX2_turnsWithFloor 7 = .ok (.if_icmp .ge 30, 3) := by decide +kernel
theorem dX2_turnsWithFloor_10 : decode cX2_turnsWithFloor 10 = .ok (.aload_n 0, 1) := by decide +kernel
theorem dX2_turnsWithFloor_11 : decode cX2_turnsWithFloor 11 = .ok (.iload_n 2, 1) := by decide +kernel
theorem dX2_turnsWithFloor_12 : decode cX2_turnsWithFloor 12 = .ok (.invokevirtual 95, 3) := by decide +kernel
theorem dX2_turnsWithFloor_15 : decode cX2_turnsWithFloor 15 = .ok (.aload_n 0, 1) := by decide +kernel
theorem dX2_turnsWithFloor_16 : decode cX2_turnsWithFloor 16 = .ok (.getfield 9, 3) := by decide +kernel
theorem dX2_turnsWithFloor_19 : decode cX2_turnsWithFloor 19 = .ok (.iconst 4, 1) := by decide +kernel
theorem dX2_turnsWithFloor_20 : decode cX2_turnsWithFloor 20 = .ok (.iaload, 1) := by decide +kernel
theorem dX2_turnsWithFloor_21 : decode cX2_turnsWithFloor 21 = .ok (.isub, 1) := by decide +kernel
theorem dX2_turnsWithFloor_22 : decode cX2_turnsWithFloor 22 = .ok (.invokestatic 101, 3) := by decide +kernel
theorem dX2_turnsWithFloor_25 : decode cX2_turnsWithFloor 25 = .ok (.iload_n 1, 1) := by decide +kernel
theorem dX2_turnsWithFloor_26 : decode cX2_turnsWithFloor 26 = .ok (.if_icmp .le 5, 3) := by decide +kernel
theorem dX2_turnsWithFloor_29 : decode cX2_turnsWithFloor 29 = .ok (.iconst 0, 1) := by decide +kernel
theorem dX2_turnsWithFloor_30 : decode cX2_turnsWithFloor 30 = .ok (.ireturn, 1) := by decide +kernel
theorem dX2_turnsWithFloor_31 : decode cX2_turnsWithFloor 31 = .ok (.iinc 2 1, 3) := by decide +kernel
theorem dX2_turnsWithFloor_34 : decode cX2_turnsWithFloor 34 = .ok (.goto (-32), 3) := by decide +kernel
theorem dX2_turnsWithFloor_37 : decode cX2_turnsWithFloor 37 = .ok (.iconst 1, 1) := by decide +kernel
theorem dX2_turnsWithFloor_38 : decode cX2_turnsWithFloor 38 = .ok (.ireturn, 1) := by decide +kernel
theorem dX2_rowOf_0 : decode cX2_rowOf 0 = .ok (.iload_n 0, 1) := by decide +kernel
theorem dX2_rowOf_1 : decode cX2_rowOf 1 = .ok (.bipush 12, 2) := by decide +kernel
theorem dX2_rowOf_3 : decode cX2_rowOf 3 = .ok (.imul, 1) := by decide +kernel
theorem dX2_rowOf_4 : decode cX2_rowOf 4 = .ok (.iload_n 1, 1) := by decide +kernel
theorem dX2_rowOf_5 : decode cX2_rowOf 5 = .ok (.iadd, 1) := by decide +kernel
theorem dX2_rowOf_6 : decode cX2_rowOf 6 = .ok (.bipush 24, 2) := by decide +kernel
theorem dX2_rowOf_8 : decode cX2_rowOf 8 = .ok (.imul, 1) := by decide +kernel
theorem dX2_rowOf_9 : decode cX2_rowOf 9 = .ok (.ireturn, 1) := by decide +kernel
theorem dX2_cellIn_0 : decode cX2_cellIn 0 = .ok (.iload_n 1, 1) := by decide +kernel
theorem dX2_cellIn_1 : decode cX2_cellIn 1 = .ok (.iload_n 2, 1) := by decide +kernel
theorem dX2_cellIn_2 : decode cX2_cellIn 2 = .ok (.invokestatic 104, 3) := by decide +kernel
theorem dX2_cellIn_5 : decode cX2_cellIn 5 = .ok (.iload_n 3, 1) := by decide +kernel
theorem dX2_cellIn_6 : decode cX2_cellIn 6 = .ok (.aload_n 0, 1) := by decide +kernel
theorem dX2_cellIn_7 : decode cX2_cellIn 7 = .ok (.getfield 18, 3) := by decide +kernel
theorem dX2_cellIn_10 : decode cX2_cellIn 10 = .ok (.iload_n 2, 1) := by decide +kernel
theorem dX2_cellIn_11 : decode cX2_cellIn 11 = .ok (.iaload, 1) := by decide +kernel
theorem dX2_cellIn_12 : decode cX2_cellIn 12 = .ok (.sipush 150, 3) := by decide +kernel
theorem dX2_cellIn_15 : decode cX2_cellIn 15 = .ok (.idiv, 1) := by decide +kernel
theorem dX2_cellIn_16 : decode cX2_cellIn 16 = .ok (.isub, 1) := by decide +kernel
theorem dX2_cellIn_17 : decode cX2_cellIn 17 = .ok (.bipush 24, 2) := by decide +kernel
theorem dX2_cellIn_19 : decode cX2_cellIn 19 = .ok (.invokestatic 107, 3) := by decide +kernel
theorem dX2_cellIn_22 : decode cX2_cellIn 22 = .ok (.iadd, 1) := by decide +kernel
theorem dX2_cellIn_23 : decode cX2_cellIn 23 = .ok (.ireturn, 1) := by decide +kernel
theorem dX2_amountInRing_0 : decode cX2_amountInRing 0 = .ok (.aload_n 0, 1) := by decide +kernel
theorem dX2_amountInRing_1 : decode cX2_amountInRing 1 = .ok (.iload_n 1, 1) := by decide +kernel
theorem dX2_amountInRing_2 : decode cX2_amountInRing 2 = .ok (.iconst 0, 1) := by decide +kernel
theorem dX2_amountInRing_3 : decode cX2_amountInRing 3 = .ok (.iload_n 2, 1) := by decide +kernel
theorem dX2_amountInRing_4 : decode cX2_amountInRing 4 = .ok (.invokevirtual 110, 3) := by decide +kernel
theorem dX2_amountInRing_7 : decode cX2_amountInRing 7 = .ok (.aload_n 0, 1) := by decide +kernel
theorem dX2_amountInRing_8 : decode cX2_amountInRing 8 = .ok (.iload_n 1, 1) := by decide +kernel
theorem dX2_amountInRing_9 : decode cX2_amountInRing 9 = .ok (.iconst 1, 1) := by decide +kernel
theorem dX2_amountInRing_10 : decode cX2_amountInRing 10 = .ok (.iload_n 2, 1) := by decide +kernel
theorem dX2_amountInRing_11 : decode cX2_amountInRing 11 = .ok (.invokevirtual 110, 3) := by decide +kernel
theorem dX2_amountInRing_14 : decode cX2_amountInRing 14 = .ok (.iadd, 1) := by decide +kernel
theorem dX2_amountInRing_15 : decode cX2_amountInRing 15 = .ok (.ireturn, 1) := by decide +kernel
theorem dX2_amountInTop_0 : decode cX2_amountInTop 0 = .ok (.iconst 0, 1) := by decide +kernel
theorem dX2_amountInTop_1 : decode cX2_amountInTop 1 = .ok (.istore_n 2, 1) := by decide +kernel
theorem dX2_amountInTop_2 : decode cX2_amountInTop 2 = .ok (.iconst 0, 1) := by decide +kernel
theorem dX2_amountInTop_3 : decode cX2_amountInTop 3 = .ok (.istore_n 3, 1) := by decide +kernel
theorem dX2_amountInTop_4 : decode cX2_amountInTop 4 = .ok (.iload_n 3, 1) := by decide +kernel
theorem dX2_amountInTop_5 : decode cX2_amountInTop 5 = .ok (.aload_n 0, 1) := by decide +kernel
theorem dX2_amountInTop_6 : decode cX2_amountInTop 6 = .ok (.getfield 49, 3) := by decide +kernel
theorem dX2_amountInTop_9 : decode cX2_amountInTop 9 = .ok (.if_icmp .ge 19, 3) := by decide +kernel
theorem dX2_amountInTop_12 : decode cX2_amountInTop 12 = .ok (.iload_n 2, 1) := by decide +kernel
theorem dX2_amountInTop_13 : decode cX2_amountInTop 13 = .ok (.aload_n 0, 1) := by decide +kernel
theorem dX2_amountInTop_14 : decode cX2_amountInTop 14 = .ok (.iload_n 1, 1) := by decide +kernel
theorem dX2_amountInTop_15 : decode cX2_amountInTop 15 = .ok (.iconst 0, 1) := by decide +kernel
theorem dX2_amountInTop_16 : decode cX2_amountInTop 16 = .ok (.iload_n 3, 1) := by decide +kernel
theorem dX2_amountInTop_17 : decode cX2_amountInTop 17 = .ok (.invokevirtual 110, 3) := by decide +kernel
theorem dX2_amountInTop_20 : decode cX2_amountInTop 20 = .ok (.iadd, 1) := by decide +kernel
theorem dX2_amountInTop_21 : decode cX2_amountInTop 21 = .ok (.istore_n 2, 1) := by decide +kernel
theorem dX2_amountInTop_22 : decode cX2_amountInTop 22 = .ok (.iinc 3 1, 3) := by decide +kernel
theorem dX2_amountInTop_25 : decode cX2_amountInTop 25 = .ok (.goto (-21), 3) := by decide +kernel
theorem dX2_amountInTop_28 : decode cX2_amountInTop 28 = .ok (.iload_n 2, 1) := by decide +kernel
theorem dX2_amountInTop_29 : decode cX2_amountInTop 29 = .ok (.ireturn, 1) := by decide +kernel
theorem dX2_amountInRow_0 : decode cX2_amountInRow 0 = .ok (.aload_n 0, 1) := by decide +kernel
theorem dX2_amountInRow_1 : decode cX2_amountInRow 1 = .ok (.getfield 26, 3) := by decide +kernel
theorem dX2_amountInRow_4 : decode cX2_amountInRow 4 = .ok (.iload_n 1, 1) := by decide +kernel
theorem dX2_amountInRow_5 : decode cX2_amountInRow 5 = .ok (.aaload, 1) := by decide +kernel
theorem dX2_amountInRow_6 : decode cX2_amountInRow 6 = .ok (.astore 4, 2) := by decide +kernel
theorem dX2_amountInRow_8 : decode cX2_amountInRow 8 = .ok (.iload_n 2, 1) := by decide +kernel
theorem dX2_amountInRow_9 : decode cX2_amountInRow 9 = .ok (.iload_n 3, 1) := by decide +kernel
theorem dX2_amountInRow_10 : decode cX2_amountInRow 10 = .ok (.invokestatic 104, 3) := by decide +kernel
theorem dX2_amountInRow_13 : decode cX2_amountInRow 13 = .ok (.istore 5, 2) := by decide +kernel
theorem dX2_amountInRow_15 : decode cX2_amountInRow 15 = .ok (.iconst 0, 1) := by decide +kernel
theorem dX2_amountInRow_16 : decode cX2_amountInRow 16 = .ok (.istore 6, 2) := by decide +kernel
theorem dX2_amountInRow_18 : decode cX2_amountInRow 18 = .ok (.iload 5, 2) := by decide +kernel
theorem dX2_amountInRow_20 : decode cX2_amountInRow 20 = .ok (.istore 7, 2) := by decide +kernel
theorem dX2_amountInRow_22 : decode cX2_amountInRow 22 = .ok (.iload 7, 2) := by decide +kernel
theorem dX2_amountInRow_24 : decode cX2_amountInRow 24 = .ok (.iload 5, 2) := by decide +kernel
theorem dX2_amountInRow_26 : decode cX2_amountInRow 26 = .ok (.bipush 24, 2) := by decide +kernel
theorem dX2_amountInRow_28 : decode cX2_amountInRow 28 = .ok (.iadd, 1) := by decide +kernel
theorem dX2_amountInRow_29 : decode cX2_amountInRow 29 = .ok (.if_icmp .ge 19, 3) := by decide +kernel
theorem dX2_amountInRow_32 : decode cX2_amountInRow 32 = .ok (.iload 6, 2) := by decide +kernel
theorem dX2_amountInRow_34 : decode cX2_amountInRow 34 = .ok (.aload 4, 2) := by decide +kernel
theorem dX2_amountInRow_36 : decode cX2_amountInRow 36 = .ok (.iload 7, 2) := by decide +kernel
theorem dX2_amountInRow_38 : decode cX2_amountInRow 38 = .ok (.iaload, 1) := by decide +kernel
theorem dX2_amountInRow_39 : decode cX2_amountInRow 39 = .ok (.iadd, 1) := by decide +kernel
theorem dX2_amountInRow_40 : decode cX2_amountInRow 40 = .ok (.istore 6, 2) := by decide +kernel
theorem dX2_amountInRow_42 : decode cX2_amountInRow 42 = .ok (.iinc 7 1, 3) := by decide +kernel
theorem dX2_amountInRow_45 : decode cX2_amountInRow 45 = .ok (.goto (-23), 3) := by decide +kernel
theorem dX2_amountInRow_48 : decode cX2_amountInRow 48 = .ok (.iload 6, 2) := by decide +kernel
theorem dX2_amountInRow_50 : decode cX2_amountInRow 50 = .ok (.ireturn, 1) := by decide +kernel
theorem dX2_cellsWith_0 : decode cX2_cellsWith 0 = .ok (.aload_n 0, 1) := by decide +kernel
theorem dX2_cellsWith_1 : decode cX2_cellsWith 1 = .ok (.getfield 26, 3) := by decide +kernel
theorem dX2_cellsWith_4 : decode cX2_cellsWith 4 = .ok (.iload_n 1, 1) := by decide +kernel
theorem dX2_cellsWith_5 : decode cX2_cellsWith 5 = .ok (.aaload, 1) := by decide +kernel
theorem dX2_cellsWith_6 : decode cX2_cellsWith 6 = .ok (.astore_n 2, 1) := by decide +kernel
theorem dX2_cellsWith_7 : decode cX2_cellsWith 7 = .ok (.iconst 0, 1) := by decide +kernel
theorem dX2_cellsWith_8 : decode cX2_cellsWith 8 = .ok (.istore_n 3, 1) := by decide +kernel
theorem dX2_cellsWith_9 : decode cX2_cellsWith 9 = .ok (.iconst 0, 1) := by decide +kernel
theorem dX2_cellsWith_10 : decode cX2_cellsWith 10 = .ok (.istore 4, 2) := by decide +kernel
theorem dX2_cellsWith_12 : decode cX2_cellsWith 12 = .ok (.iload 4, 2) := by decide +kernel
theorem dX2_cellsWith_14 : decode cX2_cellsWith 14 = .ok (.aload_n 2, 1) := by decide +kernel
theorem dX2_cellsWith_15 : decode cX2_cellsWith 15 = .ok (.arraylength, 1) := by decide +kernel
theorem dX2_cellsWith_16 : decode cX2_cellsWith 16 = .ok (.if_icmp .ge 19, 3) := by decide +kernel
theorem dX2_cellsWith_19 : decode cX2_cellsWith 19 = .ok (.aload_n 2, 1) := by decide +kernel
theorem dX2_cellsWith_20 : decode cX2_cellsWith 20 = .ok (.iload 4, 2) := by decide +kernel
theorem dX2_cellsWith_22 : decode cX2_cellsWith 22 = .ok (.iaload, 1) := by decide +kernel
theorem dX2_cellsWith_23 : decode cX2_cellsWith 23 = .ok (.ifCond .le 6, 3) := by decide +kernel
theorem dX2_cellsWith_26 : decode cX2_cellsWith 26 = .ok (.iinc 3 1, 3) := by decide +kernel
theorem dX2_cellsWith_29 : decode cX2_cellsWith 29 = .ok (.iinc 4 1, 3) := by decide +kernel
theorem dX2_cellsWith_32 : decode cX2_cellsWith 32 = .ok (.goto (-20), 3) := by decide +kernel
theorem dX2_cellsWith_35 : decode cX2_cellsWith 35 = .ok (.iload_n 3, 1) := by decide +kernel
theorem dX2_cellsWith_36 : decode cX2_cellsWith 36 = .ok (.ireturn, 1) := by decide +kernel
theorem dX2_greatestAmount_0 : decode cX2_greatestAmount 0 = .ok (.aload_n 0, 1) := by decide +kernel
theorem dX2_greatestAmount_1 : decode cX2_greatestAmount 1 = .ok (.getfield 26, 3) := by decide +kernel
theorem dX2_greatestAmount_4 : decode cX2_greatestAmount 4 = .ok (.iload_n 1, 1) := by decide +kernel
theorem dX2_greatestAmount_5 : decode cX2_greatestAmount 5 = .ok (.aaload, 1) := by decide +kernel
theorem dX2_greatestAmount_6 : decode cX2_greatestAmount 6 = .ok (.astore_n 2, 1) := by decide +kernel
theorem dX2_greatestAmount_7 : decode cX2_greatestAmount 7 = .ok (.iconst 0, 1) := by decide +kernel
theorem dX2_greatestAmount_8 : decode cX2_greatestAmount 8 = .ok (.istore_n 3, 1) := by decide +kernel
theorem dX2_greatestAmount_9 : decode cX2_greatestAmount 9 = .ok (.iconst 0, 1) := by decide +kernel
theorem dX2_greatestAmount_10 : decode cX2_greatestAmount 10 = .ok (.istore 4, 2) := by decide +kernel
theorem dX2_greatestAmount_12 : decode cX2_greatestAmount 12 = .ok (.iload 4, 2) := by decide +kernel
theorem dX2_greatestAmount_14 : decode cX2_greatestAmount 14 = .ok (.aload_n 2, 1) := by decide +kernel
theorem dX2_greatestAmount_15 : decode cX2_greatestAmount 15 = .ok (.arraylength, 1) := by decide +kernel
theorem dX2_greatestAmount_16 : decode cX2_greatestAmount 16 = .ok (.if_icmp .ge 18, 3) := by decide +kernel
theorem dX2_greatestAmount_19 : decode cX2_greatestAmount 19 = .ok (.iload_n 3, 1) := by decide +kernel
theorem dX2_greatestAmount_20 : decode cX2_greatestAmount 20 = .ok (.aload_n 2, 1) := by decide +kernel
theorem dX2_greatestAmount_21 : decode cX2_greatestAmount 21 = .ok (.iload 4, 2) := by decide +kernel
theorem dX2_greatestAmount_23 : decode cX2_greatestAmount 23 = .ok (.iaload, 1) := by decide +kernel
theorem dX2_greatestAmount_24 : decode cX2_greatestAmount 24 = .ok (.invokestatic 88, 3) := by decide +kernel
theorem dX2_greatestAmount_27 : decode cX2_greatestAmount 27 = .ok (.istore_n 3, 1) := by decide +kernel
theorem dX2_greatestAmount_28 : decode cX2_greatestAmount 28 = .ok (.iinc 4 1, 3) := by decide +kernel
theorem dX2_greatestAmount_31 : decode cX2_greatestAmount 31 = .ok (.goto (-19), 3) := by decide +kernel
theorem dX2_greatestAmount_34 : decode cX2_greatestAmount 34 = .ok (.iload_n 3, 1) := by decide +kernel
theorem dX2_greatestAmount_35 : decode cX2_greatestAmount 35 = .ok (.ireturn, 1) := by decide +kernel
theorem dX2_meanPlace_0 : decode cX2_meanPlace 0 = .ok (.aload_n 0, 1) := by decide +kernel
theorem dX2_meanPlace_1 : decode cX2_meanPlace 1 = .ok (.getfield 21, 3) := by decide +kernel
theorem dX2_meanPlace_4 : decode cX2_meanPlace 4 = .ok (.iload_n 1, 1) := by decide +kernel
theorem dX2_meanPlace_5 : decode cX2_meanPlace 5 = .ok (.iaload, 1) := by decide +kernel
theorem dX2_meanPlace_6 : decode cX2_meanPlace 6 = .ok (.ifCond .ne 7, 3) := by decide +kernel
theorem dX2_meanPlace_9 : decode cX2_meanPlace 9 = .ok (.ldc2_w 114, 3) := by decide +kernel
theorem dX2_meanPlace_12 : decode cX2_meanPlace 12 = .ok (.lreturn, 1) := by decide +kernel
theorem dX2_meanPlace_13 : decode cX2_meanPlace 13 = .ok (.lconst 0, 1) := by decide +kernel
theorem dX2_meanPlace_14 : decode cX2_meanPlace 14 = .ok (.lstore_n 2, 1) := by decide +kernel
theorem dX2_meanPlace_15 : decode cX2_meanPlace 15 = .ok (.iconst 0, 1) := by decide +kernel
theorem dX2_meanPlace_16 : decode cX2_meanPlace 16 = .ok (.istore 4, 2) := by decide +kernel
theorem dX2_meanPlace_18 : decode cX2_meanPlace 18 = .ok (.iload 4, 2) := by decide +kernel
theorem dX2_meanPlace_20 : decode cX2_meanPlace 20 = .ok (.aload_n 0, 1) := by decide +kernel
theorem dX2_meanPlace_21 : decode cX2_meanPlace 21 = .ok (.getfield 49, 3) := by decide +kernel
theorem dX2_meanPlace_24 : decode cX2_meanPlace 24 = .ok (.if_icmp .ge 24, 3) := by decide +kernel
theorem dX2_meanPlace_27 : decode cX2_meanPlace 27 = .ok (.lload_n 2, 1) := by decide +kernel
theorem dX2_meanPlace_28 : decode cX2_meanPlace 28 = .ok (.iload 4, 2) := by decide +kernel
theorem dX2_meanPlace_30 : decode cX2_meanPlace 30 = .ok (.i2l, 1) := by decide +kernel
theorem dX2_meanPlace_31 : decode cX2_meanPlace 31 = .ok (.aload_n 0, 1) := by decide +kernel
theorem dX2_meanPlace_32 : decode cX2_meanPlace 32 = .ok (.iload_n 1, 1) := by decide +kernel
theorem dX2_meanPlace_33 : decode cX2_meanPlace 33 = .ok (.iload 4, 2) := by decide +kernel
theorem dX2_meanPlace_35 : decode cX2_meanPlace 35 = .ok (.invokevirtual 116, 3) := by decide +kernel
theorem dX2_meanPlace_38 : decode cX2_meanPlace 38 = .ok (.i2l, 1) := by decide +kernel
theorem dX2_meanPlace_39 : decode cX2_meanPlace 39 = .ok (.lmul, 1) := by decide +kernel
theorem dX2_meanPlace_40 : decode cX2_meanPlace 40 = .ok (.ladd, 1) := by decide +kernel
theorem dX2_meanPlace_41 : decode cX2_meanPlace 41 = .ok (.lstore_n 2, 1) := by decide +kernel
theorem dX2_meanPlace_42 : decode cX2_meanPlace 42 = .ok (.iinc 4 1, 3) := by decide +kernel
theorem dX2_meanPlace_45 : decode cX2_meanPlace 45 = .ok (.goto (-27), 3) := by decide +kernel
theorem dX2_meanPlace_48 : decode cX2_meanPlace 48 = .ok (.ldc2_w 119, 3) := by decide +kernel
theorem dX2_meanPlace_51 : decode cX2_meanPlace 51 = .ok (.lload_n 2, 1) := by decide +kernel
theorem dX2_meanPlace_52 : decode cX2_meanPlace 52 = .ok (.lmul, 1) := by decide +kernel
theorem dX2_meanPlace_53 : decode cX2_meanPlace 53 = .ok (.aload_n 0, 1) := by decide +kernel
theorem dX2_meanPlace_54 : decode cX2_meanPlace 54 = .ok (.getfield 21, 3) := by decide +kernel
theorem dX2_meanPlace_57 : decode cX2_meanPlace 57 = .ok (.iload_n 1, 1) := by decide +kernel
theorem dX2_meanPlace_58 : decode cX2_meanPlace 58 = .ok (.iaload, 1) := by decide +kernel
theorem dX2_meanPlace_59 : decode cX2_meanPlace 59 = .ok (.i2l, 1) := by decide +kernel
theorem dX2_meanPlace_60 : decode cX2_meanPlace 60 = .ok (.ldiv, 1) := by decide +kernel
theorem dX2_meanPlace_61 : decode cX2_meanPlace 61 = .ok (.lreturn, 1) := by decide +kernel
theorem dX2_unevenness_0 : decode cX2_unevenness 0 = .ok (.aload_n 0, 1) := by decide +kernel
theorem dX2_unevenness_1 : decode cX2_unevenness 1 = .ok (.getfield 21, 3) := by decide +kernel
theorem dX2_unevenness_4 : decode cX2_unevenness 4 = .ok (.iload_n 1, 1) := by decide +kernel
theorem dX2_unevenness_5 : decode cX2_unevenness 5 = .ok (.iaload, 1) := by decide +kernel
theorem dX2_unevenness_6 : decode cX2_unevenness 6 = .ok (.i2l, 1) := by decide +kernel
theorem dX2_unevenness_7 : decode cX2_unevenness 7 = .ok (.lstore_n 2, 1) := by decide +kernel
theorem dX2_unevenness_8 : decode cX2_unevenness 8 = .ok (.iconst 1, 1) := by decide +kernel
theorem dX2_unevenness_9 : decode cX2_unevenness 9 = .ok (.iconst 2, 1) := by decide +kernel
theorem dX2_unevenness_10 : decode cX2_unevenness 10 = .ok (.aload_n 0, 1) := by decide +kernel
theorem dX2_unevenness_11 : decode cX2_unevenness 11 = .ok (.getfield 49, 3) := by decide +kernel
theorem dX2_unevenness_14 : decode cX2_unevenness 14 = .ok (.imul, 1) := by decide +kernel
theorem dX2_unevenness_15 : decode cX2_unevenness 15 = .ok (.bipush 24, 2) := by decide +kernel
theorem dX2_unevenness_17 : decode cX2_unevenness 17 = .ok (.imul, 1) := by decide +kernel
theorem dX2_unevenness_18 : decode cX2_unevenness 18 = .ok (.invokestatic 88, 3) := by decide +kernel
theorem dX2_unevenness_21 : decode cX2_unevenness 21 = .ok (.i2l, 1) := by decide +kernel
theorem dX2_unevenness_22 : decode cX2_unevenness 22 = .ok (.lstore 4, 2) := by decide +kernel
theorem dX2_unevenness_24 : decode cX2_unevenness 24 = .ok (.lconst 0, 1) := by decide +kernel
theorem dX2_unevenness_25 : decode cX2_unevenness 25 = .ok (.lstore 6, 2) := by decide +kernel
theorem dX2_unevenness_27 : decode cX2_unevenness 27 = .ok (.iconst 0, 1) := by decide +kernel
theorem dX2_unevenness_28 : decode cX2_unevenness 28 = .ok (.istore 8, 2) := by decide +kernel
theorem dX2_unevenness_30 : decode cX2_unevenness 30 = .ok (.iload 8, 2) := by decide +kernel
theorem dX2_unevenness_32 : decode cX2_unevenness 32 = .ok (.iconst 1, 1) := by decide +kernel
theorem dX2_unevenness_33 : decode cX2_unevenness 33 = .ok (.if_icmp .gt 65, 3) := by decide +kernel
theorem dX2_unevenness_36 : decode cX2_unevenness 36 = .ok (.iload 8, 2) := by decide +kernel
theorem dX2_unevenness_38 : decode cX2_unevenness 38 = .ok (.iconst 0, 1) := by decide +kernel
theorem dX2_unevenness_39 : decode cX2_unevenness 39 = .ok (.invokestatic 104, 3) := by decide +kernel
theorem dX2_unevenness_42 : decode cX2_unevenness 42 = .ok (.istore 9, 2) := by decide +kernel
theorem dX2_unevenness_44 : decode cX2_unevenness 44 = .ok (.iload 9, 2) := by decide +kernel
theorem dX2_unevenness_46 : decode cX2_unevenness 46 = .ok (.istore 10, 2) := by decide +kernel
theorem dX2_unevenness_48 : decode cX2_unevenness 48 = .ok (.iload 10, 2) := by decide +kernel
theorem dX2_unevenness_50 : decode cX2_unevenness 50 = .ok (.iload 9, 2) := by decide +kernel
theorem dX2_unevenness_52 : decode cX2_unevenness 52 = .ok (.aload_n 0, 1) := by decide +kernel
theorem dX2_unevenness_53 : decode cX2_unevenness 53 = .ok (.getfield 49, 3) := by decide +kernel
theorem dX2_unevenness_56 : decode cX2_unevenness 56 = .ok (.bipush 24, 2) := by decide +kernel
theorem dX2_unevenness_58 : decode cX2_unevenness 58 = .ok (.imul, 1) := by decide +kernel
theorem dX2_unevenness_59 : decode cX2_unevenness 59 = .ok (.iadd, 1) := by decide +kernel
theorem dX2_unevenness_60 : decode cX2_unevenness 60 = .ok (.if_icmp .ge 32, 3) := by decide +kernel
theorem dX2_unevenness_63 : decode cX2_unevenness 63 = .ok (.lload 6, 2) := by decide +kernel
theorem dX2_unevenness_65 : decode cX2_unevenness 65 = .ok (.aload_n 0, 1) := by decide +kernel
theorem dX2_unevenness_66 : decode cX2_unevenness 66 = .ok (.getfield 26, 3) := by decide +kernel
theorem dX2_unevenness_69 : decode cX2_unevenness 69 = .ok (.iload_n 1, 1) := by decide +kernel
theorem dX2_unevenness_70 : decode cX2_unevenness 70 = .ok (.aaload, 1) := by decide +kernel
theorem dX2_unevenness_71 : decode cX2_unevenness 71 = .ok (.iload 10, 2) := by decide +kernel
theorem dX2_unevenness_73 : decode cX2_unevenness 73 = .ok (.iaload, 1) := by decide +kernel
theorem dX2_unevenness_74 : decode cX2_unevenness 74 = .ok (.i2l, 1) := by decide +kernel
theorem dX2_unevenness_75 : decode cX2_unevenness 75 = .ok (.lload 4, 2) := by decide +kernel
theorem dX2_unevenness_77 : decode cX2_unevenness 77 = .ok (.lmul, 1) := by decide +kernel
theorem dX2_unevenness_78 : decode cX2_unevenness 78 = .ok (.lload_n 2, 1) := by decide +kernel
theorem dX2_unevenness_79 : decode cX2_unevenness 79 = .ok (.lsub, 1) := by decide +kernel
theorem dX2_unevenness_80 : decode cX2_unevenness 80 = .ok (.invokestatic 121, 3) := by decide +kernel
theorem dX2_unevenness_83 : decode cX2_unevenness 83 = .ok (.ladd, 1) := by decide +kernel
theorem dX2_unevenness_84 : decode cX2_unevenness 84 = .ok (.lstore 6, 2) := by decide +kernel
theorem dX2_unevenness_86 : decode cX2_unevenness 86 = .ok (.iinc 10 1, 3) := by decide +kernel
theorem dX2_unevenness_89 : decode cX2_unevenness 89 = .ok (.goto (-41), 3) := by decide +kernel
theorem dX2_unevenness_92 : decode cX2_unevenness 92 = .ok (.iinc 8 1, 3) := by decide +kernel
theorem dX2_unevenness_95 : decode cX2_unevenness 95 = .ok (.goto (-65), 3) := by decide +kernel
theorem dX2_unevenness_98 : decode cX2_unevenness 98 = .ok (.lload 6, 2) := by decide +kernel
theorem dX2_unevenness_100 : decode cX2_unevenness 100 = .ok (.lload 4, 2) := by decide +kernel
theorem dX2_unevenness_102 : decode cX2_unevenness 102 = .ok (.ldiv, 1) := by decide +kernel
theorem dX2_unevenness_103 : decode cX2_unevenness 103 = .ok (.lreturn, 1) := by decide +kernel
theorem dX2_makeTick_0 : decode cX2_makeTick 0 = .ok (.aload_n 0, 1) := by decide +kernel
theorem dX2_makeTick_1 : decode cX2_makeTick 1 = .ok (.invokevirtual 124, 3) := by decide +kernel
theorem dX2_makeTick_4 : decode cX2_makeTick 4 = .ok (.iconst 0, 1) := by decide +kernel
theorem dX2_makeTick_5 : decode cX2_makeTick 5 = .ok (.istore_n 1, 1) := by decide +kernel
theorem dX2_makeTick_6 : decode cX2_makeTick 6 = .ok (.iload_n 1, 1) := by decide +kernel
theorem dX2_makeTick_7 : decode cX2_makeTick 7 = .ok (.iconst 3, 1) := by decide +kernel
theorem dX2_makeTick_8 : decode cX2_makeTick 8 = .ok (.if_icmp .ge 23, 3) := by decide +kernel
theorem dX2_makeTick_11 : decode cX2_makeTick 11 = .ok (.aload_n 0, 1) := by decide +kernel
theorem dX2_makeTick_12 : decode cX2_makeTick 12 = .ok (.getfield 21, 3) := by decide +kernel
theorem dX2_makeTick_15 : decode cX2_makeTick 15 = .ok (.iload_n 1, 1) := by decide +kernel
theorem dX2_makeTick_16 : decode cX2_makeTick 16 = .ok (.iaload, 1) := by decide +kernel
theorem dX2_makeTick_17 : decode cX2_makeTick 17 = .ok (.ifCond .le 8, 3) := by decide +kernel
theorem dX2_makeTick_20 : decode cX2_makeTick 20 = .ok (.aload_n 0, 1) := by decide +kernel
theorem dX2_makeTick_21 : decode cX2_makeTick 21 = .ok (.iload_n 1, 1) := by decide +kernel
theorem dX2_makeTick_22 : decode cX2_makeTick 22 = .ok (.invokevirtual 127, 3) := by decide +kernel
theorem dX2_makeTick_25 : decode cX2_makeTick 25 = .ok (.iinc 1 1, 3) := by decide +kernel
theorem dX2_makeTick_28 : decode cX2_makeTick 28 = .ok (.goto (-22), 3) := by decide +kernel
theorem dX2_makeTick_31 : decode cX2_makeTick 31 = .ok (.aload_n 0, 1) := by decide +kernel
theorem dX2_makeTick_32 : decode cX2_makeTick 32 = .ok (.invokevirtual 130, 3) := by decide +kernel
theorem dX2_makeTick_35 : decode cX2_makeTick 35 = .ok (.aload_n 0, 1) := by decide +kernel
theorem dX2_makeTick_36 : decode cX2_makeTick 36 = .ok (.dup, 1) := by decide +kernel
theorem dX2_makeTick_37 : decode cX2_makeTick 37 = .ok (.getfield 53, 3) := by decide +kernel
theorem dX2_makeTick_40 : decode cX2_makeTick 40 = .ok (.iconst 1, 1) := by decide +kernel
theorem dX2_makeTick_41 : decode cX2_makeTick 41 = .ok (.iadd, 1) := by decide +kernel
theorem dX2_makeTick_42 : decode cX2_makeTick 42 = .ok (.putfield 53, 3) := by decide +kernel
theorem dX2_makeTick_45 : decode cX2_makeTick 45 = .ok (.return_, 1) := by decide +kernel
theorem dX2_turn_0 : decode cX2_turn 0 = .ok (.aload_n 0, 1) := by decide +kernel
theorem dX2_turn_1 : decode cX2_turn 1 = .ok (.invokevirtual 133, 3) := by decide +kernel
theorem dX2_turn_4 : decode cX2_turn 4 = .ok (.iconst 0, 1) := by decide +kernel
theorem dX2_turn_5 : decode cX2_turn 5 = .ok (.istore_n 1, 1) := by decide +kernel
theorem dX2_turn_6 : decode cX2_turn 6 = .ok (.iload_n 1, 1) := by decide +kernel
theorem dX2_turn_7 : decode cX2_turn 7 = .ok (.aload_n 0, 1) := by decide +kernel
theorem dX2_turn_8 : decode cX2_turn 8 = .ok (.getfield 49, 3) := by decide +kernel
theorem dX2_turn_11 : decode cX2_turn 11 = .ok (.if_icmp .ge 56, 3) := by decide +kernel
theorem dX2_turn_14 : decode cX2_turn 14 = .ok (.aload_n 0, 1) := by decide +kernel
theorem dX2_turn_15 : decode cX2_turn 15 = .ok (.getfield 35, 3) := by decide +kernel
theorem dX2_turn_18 : decode cX2_turn 18 = .ok (.iload_n 1, 1) := by decide +kernel
theorem dX2_turn_19 : decode cX2_turn 19 = .ok (.aload_n 0, 1) := by decide +kernel
theorem dX2_turn_20 : decode cX2_turn 20 = .ok (.iload_n 1, 1) := by decide +kernel
theorem dX2_turn_21 : decode cX2_turn 21 = .ok (.invokevirtual 95, 3) := by decide +kernel
theorem dX2_turn_24 : decode cX2_turn 24 = .ok (.iastore, 1) := by decide +kernel
theorem dX2_turn_25 : decode cX2_turn 25 = .ok (.aload_n 0, 1) := by decide +kernel
theorem dX2_turn_26 : decode cX2_turn 26 = .ok (.getfield 38, 3) := by decide +kernel
theorem dX2_turn_29 : decode cX2_turn 29 = .ok (.iload_n 1, 1) := by decide +kernel
theorem dX2_turn_30 : decode cX2_turn 30 = .ok (.aload_n 0, 1) := by decide +kernel
theorem dX2_turn_31 : decode cX2_turn 31 = .ok (.iload_n 1, 1) := by decide +kernel
theorem dX2_turn_32 : decode cX2_turn 32 = .ok (.invokevirtual 136, 3) := by decide +kernel
theorem dX2_turn_35 : decode cX2_turn 35 = .ok (.iastore, 1) := by decide +kernel
theorem dX2_turn_36 : decode cX2_turn 36 = .ok (.aload_n 0, 1) := by decide +kernel
theorem dX2_turn_37 : decode cX2_turn 37 = .ok (.getfield 18, 3) := by decide +kernel
theorem dX2_turn_40 : decode cX2_turn 40 = .ok (.iload_n 1, 1) := by decide +kernel
theorem dX2_turn_41 : decode cX2_turn 41 = .ok (.aload_n 0, 1) := by decide +kernel
theorem dX2_turn_42 : decode cX2_turn 42 = .ok (.getfield 18, 3) := by decide +kernel
theorem dX2_turn_45 : decode cX2_turn 45 = .ok (.iload_n 1, 1) := by decide +kernel
theorem dX2_turn_46 : decode cX2_turn 46 = .ok (.iaload, 1) := by decide +kernel
theorem dX2_turn_47 : decode cX2_turn 47 = .ok (.aload_n 0, 1) := by decide +kernel
theorem dX2_turn_48 : decode cX2_turn 48 = .ok (.getfield 35, 3) := by decide +kernel
theorem dX2_turn_51 : decode cX2_turn 51 = .ok (.iload_n 1, 1) := by decide +kernel
theorem dX2_turn_52 : decode cX2_turn 52 = .ok (.iaload, 1) := by decide +kernel
theorem dX2_turn_53 : decode cX2_turn 53 = .ok (.iadd, 1) := by decide +kernel
theorem dX2_turn_54 : decode cX2_turn 54 = .ok (.sipush 3600, 3) := by decide +kernel
theorem dX2_turn_57 : decode cX2_turn 57 = .ok (.invokestatic 107, 3) := by decide +kernel
theorem dX2_turn_60 : decode cX2_turn 60 = .ok (.iastore, 1) := by decide +kernel
theorem dX2_turn_61 : decode cX2_turn 61 = .ok (.iinc 1 1, 3) := by decide +kernel
theorem dX2_turn_64 : decode cX2_turn 64 = .ok (.goto (-58), 3) := by decide +kernel
theorem dX2_turn_67 : decode cX2_turn 67 = .ok (.return_, 1) := by decide +kernel
theorem dX2_changeMomenta_0 : decode cX2_changeMomenta 0 = .ok (.iconst 0, 1) := by decide +kernel
theorem dX2_changeMomenta_1 : decode cX2_changeMomenta 1 = .ok (.istore_n 1, 1) := by decide +kernel
theorem dX2_changeMomenta_2 : decode cX2_changeMomenta 2 = .ok (.iload_n 1, 1) := by decide +kernel
theorem dX2_changeMomenta_3 : decode cX2_changeMomenta 3 = .ok (.aload_n 0, 1) := by decide +kernel
theorem dX2_changeMomenta_4 : decode cX2_changeMomenta 4 = .ok (.getfield 49, 3) := by decide +kernel
theorem dX2_changeMomenta_7 : decode cX2_changeMomenta 7 = .ok (.if_icmp .ge 20, 3) := by decide +kernel
theorem dX2_changeMomenta_10 : decode cX2_changeMomenta 10 = .ok (.aload_n 0, 1) := by decide +kernel
theorem dX2_changeMomenta_11 : decode cX2_changeMomenta 11 = .ok (.getfield 35, 3) := by decide +kernel
theorem dX2_changeMomenta_14 : decode cX2_changeMomenta 14 = .ok (.iload_n 1, 1) := by decide +kernel
theorem dX2_changeMomenta_15 : decode cX2_changeMomenta 15 = .ok (.aload_n 0, 1) := by decide +kernel
theorem dX2_changeMomenta_16 : decode cX2_changeMomenta 16 = .ok (.iload_n 1, 1) := by decide +kernel
theorem dX2_changeMomenta_17 : decode cX2_changeMomenta 17 = .ok (.invokevirtual 95, 3) := by decide +kernel
theorem dX2_changeMomenta_20 : decode cX2_changeMomenta 20 = .ok (.iastore, 1) := by decide +kernel
theorem dX2_changeMomenta_21 : decode cX2_changeMomenta 21 = .ok (.iinc 1 1, 3) := by decide +kernel
theorem dX2_changeMomenta_24 : decode cX2_changeMomenta 24 = .ok (.goto (-22), 3) := by decide +kernel
theorem dX2_changeMomenta_27 : decode cX2_changeMomenta 27 = .ok (.aload_n 0, 1) := by decide +kernel
theorem dX2_changeMomenta_28 : decode cX2_changeMomenta 28 = .ok (.getfield 49, 3) := by decide +kernel
theorem dX2_changeMomenta_31 : decode cX2_changeMomenta 31 = .ok (.iconst 1, 1) := by decide +kernel
theorem dX2_changeMomenta_32 : decode cX2_changeMomenta 32 = .ok (.isub, 1) := by decide +kernel
theorem dX2_changeMomenta_33 : decode cX2_changeMomenta 33 = .ok (.istore_n 1, 1) := by decide +kernel
theorem dX2_changeMomenta_34 : decode cX2_changeMomenta 34 = .ok (.iconst 0, 1) := by decide +kernel
theorem dX2_changeMomenta_35 : decode cX2_changeMomenta 35 = .ok (.istore_n 2, 1) := by decide +kernel
theorem dX2_changeMomenta_36 : decode cX2_changeMomenta 36 = .ok (.iload_n 2, 1) := by decide +kernel
theorem dX2_changeMomenta_37 : decode cX2_changeMomenta 37 = .ok (.iload_n 1, 1) := by decide +kernel
theorem dX2_changeMomenta_38 : decode cX2_changeMomenta 38 = .ok (.if_icmp .ge 57, 3) := by decide +kernel
theorem dX2_changeMomenta_41 : decode cX2_changeMomenta 41 = .ok (.aload_n 0, 1) := by decide +kernel
theorem dX2_changeMomenta_42 : decode cX2_changeMomenta 42 = .ok (.getfield 9, 3) := by decide +kernel
theorem dX2_changeMomenta_45 : decode cX2_changeMomenta 45 = .ok (.iconst 0, 1) := by decide +kernel
theorem dX2_changeMomenta_46 : decode cX2_changeMomenta 46 = .ok (.iaload, 1) := by decide +kernel
theorem dX2_changeMomenta_47 : decode cX2_changeMomenta 47 = .ok (.aload_n 0, 1) := by decide +kernel
theorem dX2_changeMomenta_48 : decode cX2_changeMomenta 48 = .ok (.getfield 35, 3) := by decide +kernel
theorem dX2_changeMomenta_51 : decode cX2_changeMomenta 51 = .ok (.iload_n 2, 1) := by decide +kernel
theorem dX2_changeMomenta_52 : decode cX2_changeMomenta 52 = .ok (.iaload, 1) := by decide +kernel
theorem dX2_changeMomenta_53 : decode cX2_changeMomenta 53 = .ok (.aload_n 0, 1) := by decide +kernel
theorem dX2_changeMomenta_54 : decode cX2_changeMomenta 54 = .ok (.getfield 35, 3) := by decide +kernel
theorem dX2_changeMomenta_57 : decode cX2_changeMomenta 57 = .ok (.iload_n 2, 1) := by decide +kernel
theorem dX2_changeMomenta_58 : decode cX2_changeMomenta 58 = .ok (.iconst 1, 1) := by decide +kernel
theorem dX2_changeMomenta_59 : decode cX2_changeMomenta 59 = .ok (.iadd, 1) := by decide +kernel
theorem dX2_changeMomenta_60 : decode cX2_changeMomenta 60 = .ok (.iaload, 1) := by decide +kernel
theorem dX2_changeMomenta_61 : decode cX2_changeMomenta 61 = .ok (.isub, 1) := by decide +kernel
theorem dX2_changeMomenta_62 : decode cX2_changeMomenta 62 = .ok (.imul, 1) := by decide +kernel
theorem dX2_changeMomenta_63 : decode cX2_changeMomenta 63 = .ok (.bipush 100, 2) := by decide +kernel
theorem dX2_changeMomenta_65 : decode cX2_changeMomenta 65 = .ok (.idiv, 1) := by decide +kernel
theorem dX2_changeMomenta_66 : decode cX2_changeMomenta 66 = .ok (.istore_n 3, 1) := by decide +kernel
theorem dX2_changeMomenta_67 : decode cX2_changeMomenta 67 = .ok (.aload_n 0, 1) := by decide +kernel
theorem dX2_changeMomenta_68 : decode cX2_changeMomenta 68 = .ok (.getfield 15, 3) := by decide +kernel
theorem dX2_changeMomenta_71 : decode cX2_changeMomenta 71 = .ok (.iload_n 2, 1) := by decide +kernel
theorem dX2_changeMomenta_72 : decode cX2_changeMomenta 72 = .ok (.dup2, 1) := by decide +kernel
theorem dX2_changeMomenta_73 : decode cX2_changeMomenta 73 = .ok (.iaload, 1) := by decide +kernel
theorem dX2_changeMomenta_74 : decode cX2_changeMomenta 74 = .ok (.iload_n 3, 1) := by decide +kernel
theorem dX2_changeMomenta_75 : decode cX2_changeMomenta 75 = .ok (.isub, 1) := by decide +kernel
theorem dX2_changeMomenta_76 : decode cX2_changeMomenta 76 = .ok (.iastore, 1) := by decide +kernel
theorem dX2_changeMomenta_77 : decode cX2_changeMomenta 77 = .ok (.aload_n 0, 1) := by decide +kernel
theorem dX2_changeMomenta_78 : decode cX2_changeMomenta 78 = .ok (.getfield 15, 3) := by decide +kernel
theorem dX2_changeMomenta_81 : decode cX2_changeMomenta 81 = .ok (.iload_n 2, 1) := by decide +kernel
theorem dX2_changeMomenta_82 : decode cX2_changeMomenta 82 = .ok (.iconst 1, 1) := by decide +kernel
theorem dX2_changeMomenta_83 : decode cX2_changeMomenta 83 = .ok (.iadd, 1) := by decide +kernel
theorem dX2_changeMomenta_84 : decode cX2_changeMomenta 84 = .ok (.dup2, 1) := by decide +kernel
theorem dX2_changeMomenta_85 : decode cX2_changeMomenta 85 = .ok (.iaload, 1) := by decide +kernel
theorem dX2_changeMomenta_86 : decode cX2_changeMomenta 86 = .ok (.iload_n 3, 1) := by decide +kernel
theorem dX2_changeMomenta_87 : decode cX2_changeMomenta 87 = .ok (.iadd, 1) := by decide +kernel
theorem dX2_changeMomenta_88 : decode cX2_changeMomenta 88 = .ok (.iastore, 1) := by decide +kernel
theorem dX2_changeMomenta_89 : decode cX2_changeMomenta 89 = .ok (.iinc 2 1, 3) := by decide +kernel
theorem dX2_changeMomenta_92 : decode cX2_changeMomenta 92 = .ok (.goto (-56), 3) := by decide +kernel
theorem dX2_changeMomenta_95 : decode cX2_changeMomenta 95 = .ok (.aload_n 0, 1) := by decide +kernel
theorem dX2_changeMomenta_96 : decode cX2_changeMomenta 96 = .ok (.getfield 15, 3) := by decide +kernel
theorem dX2_changeMomenta_99 : decode cX2_changeMomenta 99 = .ok (.iload_n 1, 1) := by decide +kernel
theorem dX2_changeMomenta_100 : decode cX2_changeMomenta 100 = .ok (.dup2, 1) := by decide +kernel
theorem dX2_changeMomenta_101 : decode cX2_changeMomenta 101 = .ok (.iaload, 1) := by decide +kernel
theorem dX2_changeMomenta_102 : decode cX2_changeMomenta 102 = .ok (.aload_n 0, 1) := by decide +kernel
theorem dX2_changeMomenta_103 : decode cX2_changeMomenta 103 = .ok (.getfield 9, 3) := by decide +kernel
theorem dX2_changeMomenta_106 : decode cX2_changeMomenta 106 = .ok (.iconst 1, 1) := by decide +kernel
theorem dX2_changeMomenta_107 : decode cX2_changeMomenta 107 = .ok (.iaload, 1) := by decide +kernel
theorem dX2_changeMomenta_108 : decode cX2_changeMomenta 108 = .ok (.aload_n 0, 1) := by decide +kernel
theorem dX2_changeMomenta_109 : decode cX2_changeMomenta 109 = .ok (.getfield 9, 3) := by decide +kernel
theorem dX2_changeMomenta_112 : decode cX2_changeMomenta 112 = .ok (.iconst 2, 1) := by decide +kernel
theorem dX2_changeMomenta_113 : decode cX2_changeMomenta 113 = .ok (.iaload, 1) := by decide +kernel
theorem dX2_changeMomenta_114 : decode cX2_changeMomenta 114 = .ok (.aload_n 0, 1) := by decide +kernel
theorem dX2_changeMomenta_115 : decode cX2_changeMomenta 115 = .ok (.getfield 35, 3) := by decide +kernel
theorem dX2_changeMomenta_118 : decode cX2_changeMomenta 118 = .ok (.iload_n 1, 1) := by decide +kernel
theorem dX2_changeMomenta_119 : decode cX2_changeMomenta 119 = .ok (.iaload, 1) := by decide +kernel
theorem dX2_changeMomenta_120 : decode cX2_changeMomenta 120 = .ok (.isub, 1) := by decide +kernel
theorem dX2_changeMomenta_121 : decode cX2_changeMomenta 121 = .ok (.imul, 1) := by decide +kernel
theorem dX2_changeMomenta_122 : decode cX2_changeMomenta 122 = .ok (.bipush 100, 2) := by decide +kernel
theorem dX2_changeMomenta_124 : decode cX2_changeMomenta 124 = .ok (.idiv, 1) := by decide +kernel
theorem dX2_changeMomenta_125 : decode cX2_changeMomenta 125 = .ok (.iadd, 1) := by decide +kernel
theorem dX2_changeMomenta_126 : decode cX2_changeMomenta 126 = .ok (.iastore, 1) := by decide +kernel
theorem dX2_changeMomenta_127 : decode cX2_changeMomenta 127 = .ok (.iconst 0, 1) := by decide +kernel
theorem dX2_changeMomenta_128 : decode cX2_changeMomenta 128 = .ok (.istore_n 2, 1) := by decide +kernel
theorem dX2_changeMomenta_129 : decode cX2_changeMomenta 129 = .ok (.iload_n 2, 1) := by decide +kernel
theorem dX2_changeMomenta_130 : decode cX2_changeMomenta 130 = .ok (.aload_n 0, 1) := by decide +kernel
theorem dX2_changeMomenta_131 : decode cX2_changeMomenta 131 = .ok (.getfield 49, 3) := by decide +kernel
theorem dX2_changeMomenta_134 : decode cX2_changeMomenta 134 = .ok (.if_icmp .ge 47, 3) := by decide +kernel
theorem dX2_changeMomenta_137 : decode cX2_changeMomenta 137 = .ok (.aload_n 0, 1) := by decide +kernel
theorem dX2_changeMomenta_138 : decode cX2_changeMomenta 138 = .ok (.getfield 15, 3) := by decide +kernel
theorem dX2_changeMomenta_141 : decode cX2_changeMomenta 141 = .ok (.iload_n 2, 1) := by decide +kernel
theorem dX2_changeMomenta_142 : decode cX2_changeMomenta 142 = .ok (.dup2, 1) := by decide +kernel
theorem dX2_changeMomenta_143 : decode cX2_changeMomenta 143 = .ok (.iaload, 1) := by decide +kernel
theorem dX2_changeMomenta_144 : decode cX2_changeMomenta 144 = .ok (.aload_n 0, 1) := by decide +kernel
theorem dX2_changeMomenta_145 : decode cX2_changeMomenta 145 = .ok (.getfield 9, 3) := by decide +kernel
theorem dX2_changeMomenta_148 : decode cX2_changeMomenta 148 = .ok (.iconst 3, 1) := by decide +kernel
theorem dX2_changeMomenta_149 : decode cX2_changeMomenta 149 = .ok (.iaload, 1) := by decide +kernel
theorem dX2_changeMomenta_150 : decode cX2_changeMomenta 150 = .ok (.aload_n 0, 1) := by decide +kernel
theorem dX2_changeMomenta_151 : decode cX2_changeMomenta 151 = .ok (.getfield 9, 3) := by decide +kernel
theorem dX2_changeMomenta_154 : decode cX2_changeMomenta 154 = .ok (.iconst 4, 1) := by decide +kernel
theorem dX2_changeMomenta_155 : decode cX2_changeMomenta 155 = .ok (.iaload, 1) := by decide +kernel
theorem dX2_changeMomenta_156 : decode cX2_changeMomenta 156 = .ok (.aload_n 0, 1) := by decide +kernel
theorem dX2_changeMomenta_157 : decode cX2_changeMomenta 157 = .ok (.getfield 35, 3) := by decide +kernel
theorem dX2_changeMomenta_160 : decode cX2_changeMomenta 160 = .ok (.iload_n 2, 1) := by decide +kernel
theorem dX2_changeMomenta_161 : decode cX2_changeMomenta 161 = .ok (.iaload, 1) := by decide +kernel
theorem dX2_changeMomenta_162 : decode cX2_changeMomenta 162 = .ok (.isub, 1) := by decide +kernel
theorem dX2_changeMomenta_163 : decode cX2_changeMomenta 163 = .ok (.imul, 1) := by decide +kernel
theorem dX2_changeMomenta_164 : decode cX2_changeMomenta 164 = .ok (.iload_n 2, 1) := by decide +kernel
theorem dX2_changeMomenta_165 : decode cX2_changeMomenta 165 = .ok (.invokestatic 78, 3) := by decide +kernel
theorem dX2_changeMomenta_168 : decode cX2_changeMomenta 168 = .ok (.imul, 1) := by decide +kernel
theorem dX2_changeMomenta_169 : decode cX2_changeMomenta 169 = .ok (.sipush 1000, 3) := by decide +kernel
theorem dX2_changeMomenta_172 : decode cX2_changeMomenta 172 = .ok (.idiv, 1) := by decide +kernel
theorem dX2_changeMomenta_173 : decode cX2_changeMomenta 173 = .ok (.iadd, 1) := by decide +kernel
theorem dX2_changeMomenta_174 : decode cX2_changeMomenta 174 = .ok (.iastore, 1) := by decide +kernel
theorem dX2_changeMomenta_175 : decode cX2_changeMomenta 175 = .ok (.iinc 2 1, 3) := by decide +kernel
theorem dX2_changeMomenta_178 : decode cX2_changeMomenta 178 = .ok (.goto (-49), 3) := by decide +kernel
theorem dX2_changeMomenta_181 : decode cX2_changeMomenta 181 = .ok (.return_, 1) := by decide +kernel
theorem dX2_carry_0 : decode cX2_carry 0 = .ok (.aload_n 0, 1) := by decide +kernel
theorem dX2_carry_1 : decode cX2_carry 1 = .ok (.getfield 26, 3) := by decide +kernel
theorem dX2_carry_4 : decode cX2_carry 4 = .ok (.iload_n 1, 1) := by decide +kernel
theorem dX2_carry_5 : decode cX2_carry 5 = .ok (.aaload, 1) := by decide +kernel
theorem dX2_carry_6 : decode cX2_carry 6 = .ok (.astore_n 2, 1) := by decide +kernel
theorem dX2_carry_7 : decode cX2_carry 7 = .ok (.aload_n 2, 1) := by decide +kernel
theorem dX2_carry_8 : decode cX2_carry 8 = .ok (.iconst 0, 1) := by decide +kernel
theorem dX2_carry_9 : decode cX2_carry 9 = .ok (.aload_n 0, 1) := by decide +kernel
theorem dX2_carry_10 : decode cX2_carry 10 = .ok (.getfield 41, 3) := by decide +kernel
theorem dX2_carry_13 : decode cX2_carry 13 = .ok (.iconst 0, 1) := by decide +kernel
theorem dX2_carry_14 : decode cX2_carry 14 = .ok (.aload_n 0, 1) := by decide +kernel
theorem dX2_carry_15 : decode cX2_carry 15 = .ok (.getfield 41, 3) := by decide +kernel
theorem dX2_carry_18 : decode cX2_carry 18 = .ok (.arraylength, 1) := by decide +kernel
theorem dX2_carry_19 : decode cX2_carry 19 = .ok (.invokestatic 62, 3) := by decide +kernel
theorem dX2_carry_22 : decode cX2_carry 22 = .ok (.iconst 0, 1) := by decide +kernel
theorem dX2_carry_23 : decode cX2_carry 23 = .ok (.istore_n 3, 1) := by decide +kernel
theorem dX2_carry_24 : decode cX2_carry 24 = .ok (.iload_n 3, 1) := by decide +kernel
theorem dX2_carry_25 : decode cX2_carry 25 = .ok (.aload_n 0, 1) := by decide +kernel
theorem dX2_carry_26 : decode cX2_carry 26 = .ok (.getfield 49, 3) := by decide +kernel
theorem dX2_carry_29 : decode cX2_carry 29 = .ok (.if_icmp .ge 82, 3) := by decide +kernel
theorem dX2_carry_32 : decode cX2_carry 32 = .ok (.aload_n 0, 1) := by decide +kernel
theorem dX2_carry_33 : decode cX2_carry 33 = .ok (.getfield 38, 3) := by decide +kernel
theorem dX2_carry_36 : decode cX2_carry 36 = .ok (.iload_n 3, 1) := by decide +kernel
theorem dX2_carry_37 : decode cX2_carry 37 = .ok (.iaload, 1) := by decide +kernel
theorem dX2_carry_38 : decode cX2_carry 38 = .ok (.ifCond .le 7, 3) := by decide +kernel
theorem dX2_carry_41 : decode cX2_carry 41 = .ok (.iconst 1, 1) := by decide +kernel
theorem dX2_carry_42 : decode cX2_carry 42 = .ok (.goto 4, 3) := by decide +kernel
theorem dX2_carry_45 : decode cX2_carry 45 = .ok (.iconst 0, 1) := by decide +kernel
theorem dX2_carry_46 : decode cX2_carry 46 = .ok (.istore 4, 2) := by decide +kernel
theorem dX2_carry_48 : decode cX2_carry 48 = .ok (.aload_n 0, 1) := by decide +kernel
theorem dX2_carry_49 : decode cX2_carry 49 = .ok (.getfield 38, 3) := by decide +kernel
theorem dX2_carry_52 : decode cX2_carry 52 = .ok (.iload_n 3, 1) := by decide +kernel
theorem dX2_carry_53 : decode cX2_carry 53 = .ok (.iaload, 1) := by decide +kernel
theorem dX2_carry_54 : decode cX2_carry 54 = .ok (.invokestatic 101, 3) := by decide +kernel
theorem dX2_carry_57 : decode cX2_carry 57 = .ok (.istore 5, 2) := by decide +kernel
theorem dX2_carry_59 : decode cX2_carry 59 = .ok (.aload_n 0, 1) := by decide +kernel
theorem dX2_carry_60 : decode cX2_carry 60 = .ok (.aload_n 2, 1) := by decide +kernel
theorem dX2_carry_61 : decode cX2_carry 61 = .ok (.iconst 1, 1) := by decide +kernel
theorem dX2_carry_62 : decode cX2_carry 62 = .ok (.iload_n 3, 1) := by decide +kernel
theorem dX2_carry_63 : decode cX2_carry 63 = .ok (.iload 4, 2) := by decide +kernel
theorem dX2_carry_65 : decode cX2_carry 65 = .ok (.ifCond .eq 9, 3) := by decide +kernel
theorem dX2_carry_68 : decode cX2_carry 68 = .ok (.iload_n 3, 1) := by decide +kernel
theorem dX2_carry_69 : decode cX2_carry 69 = .ok (.iconst 1, 1) := by decide +kernel
theorem dX2_carry_70 : decode cX2_carry 70 = .ok (.isub, 1) := by decide +kernel
theorem dX2_carry_71 : decode cX2_carry 71 = .ok (.goto 6, 3) := by decide +kernel
theorem dX2_carry_74 : decode cX2_carry 74 = .ok (.iload_n 3, 1) := by decide +kernel
theorem dX2_carry_75 : decode cX2_carry 75 = .ok (.iconst 1, 1) := by decide +kernel
theorem dX2_carry_76 : decode cX2_carry 76 = .ok (.iadd, 1) := by decide +kernel
theorem dX2_carry_77 : decode cX2_carry 77 = .ok (.iload 5, 2) := by decide +kernel
theorem dX2_carry_79 : decode cX2_carry 79 = .ok (.invokevirtual 139, 3) := by decide +kernel
theorem dX2_carry_82 : decode cX2_carry 82 = .ok (.aload_n 0, 1) := by decide +kernel
theorem dX2_carry_83 : decode cX2_carry 83 = .ok (.aload_n 2, 1) := by decide +kernel
theorem dX2_carry_84 : decode cX2_carry 84 = .ok (.iconst 0, 1) := by decide +kernel
theorem dX2_carry_85 : decode cX2_carry 85 = .ok (.iload_n 3, 1) := by decide +kernel
theorem dX2_carry_86 : decode cX2_carry 86 = .ok (.iload 4, 2) := by decide +kernel
theorem dX2_carry_88 : decode cX2_carry 88 = .ok (.ifCond .eq 9, 3) := by decide +kernel
theorem dX2_carry_91 : decode cX2_carry 91 = .ok (.iload_n 3, 1) := by decide +kernel
theorem dX2_carry_92 : decode cX2_carry 92 = .ok (.iconst 1, 1) := by decide +kernel
theorem dX2_carry_93 : decode cX2_carry 93 = .ok (.iadd, 1) := by decide +kernel
theorem dX2_carry_94 : decode cX2_carry 94 = .ok (.goto 6, 3) := by decide +kernel
theorem dX2_carry_97 : decode cX2_carry 97 = .ok (.iload_n 3, 1) := by decide +kernel
theorem dX2_carry_98 : decode cX2_carry 98 = .ok (.iconst 1, 1) := by decide +kernel
theorem dX2_carry_99 : decode cX2_carry 99 = .ok (.isub, 1) := by decide +kernel
theorem dX2_carry_100 : decode cX2_carry 100 = .ok (.iload 5, 2) := by decide +kernel
theorem dX2_carry_102 : decode cX2_carry 102 = .ok (.invokevirtual 139, 3) := by decide +kernel
theorem dX2_carry_105 : decode cX2_carry 105 = .ok (.iinc 3 1, 3) := by decide +kernel
theorem dX2_carry_108 : decode cX2_carry 108 = .ok (.goto (-84), 3) := by decide +kernel
theorem dX2_carry_111 : decode cX2_carry 111 = .ok (.aload_n 0, 1) := by decide +kernel
theorem dX2_carry_112 : decode cX2_carry 112 = .ok (.getfield 9, 3) := by decide +kernel
theorem dX2_carry_115 : decode cX2_carry 115 = .ok (.bipush 6, 2) := by decide +kernel
theorem dX2_carry_117 : decode cX2_carry 117 = .ok (.iaload, 1) := by decide +kernel
theorem dX2_carry_118 : decode cX2_carry 118 = .ok (.ifCond .le 8, 3) := by decide +kernel
theorem dX2_carry_121 : decode cX2_carry 121 = .ok (.aload_n 0, 1) := by decide +kernel
theorem dX2_carry_122 : decode cX2_carry 122 = .ok (.aload_n 2, 1) := by decide +kernel
theorem dX2_carry_123 : decode cX2_carry 123 = .ok (.invokevirtual 143, 3) := by decide +kernel
theorem dX2_carry_126 : decode cX2_carry 126 = .ok (.return_, 1) := by decide +kernel
theorem dX2_moveRow_0 : decode cX2_moveRow 0 = .ok (.iload 5, 2) := by decide +kernel
theorem dX2_moveRow_2 : decode cX2_moveRow 2 = .ok (.ifCond .eq 12, 3) := by decide +kernel
theorem dX2_moveRow_5 : decode cX2_moveRow 5 = .ok (.aload_n 0, 1) := by decide +kernel
theorem dX2_moveRow_6 : decode cX2_moveRow 6 = .ok (.iload 4, 2) := by decide +kernel
theorem dX2_moveRow_8 : decode cX2_moveRow 8 = .ok (.invokevirtual 147, 3) := by decide +kernel
theorem dX2_moveRow_11 : decode cX2_moveRow 11 = .ok (.ifCond .ne 4, 3) := by decide +kernel
theorem dX2_moveRow_14 : decode cX2_moveRow 14 = .ok (.return_, 1) := by decide +kernel
theorem dX2_moveRow_15 : decode cX2_moveRow 15 = .ok (.iload_n 2, 1) := by decide +kernel
theorem dX2_moveRow_16 : decode cX2_moveRow 16 = .ok (.iload_n 3, 1) := by decide +kernel
theorem dX2_moveRow_17 : decode cX2_moveRow 17 = .ok (.invokestatic 104, 3) := by decide +kernel
theorem dX2_moveRow_20 : decode cX2_moveRow 20 = .ok (.istore 6, 2) := by decide +kernel
theorem dX2_moveRow_22 : decode cX2_moveRow 22 = .ok (.iload_n 2, 1) := by decide +kernel
theorem dX2_moveRow_23 : decode cX2_moveRow 23 = .ok (.iload 4, 2) := by decide +kernel
theorem dX2_moveRow_25 : decode cX2_moveRow 25 = .ok (.invokestatic 104, 3) := by decide +kernel
theorem dX2_moveRow_28 : decode cX2_moveRow 28 = .ok (.istore 7, 2) := by decide +kernel
theorem dX2_moveRow_30 : decode cX2_moveRow 30 = .ok (.aload_n 0, 1) := by decide +kernel
theorem dX2_moveRow_31 : decode cX2_moveRow 31 = .ok (.getfield 18, 3) := by decide +kernel
theorem dX2_moveRow_34 : decode cX2_moveRow 34 = .ok (.iload_n 3, 1) := by decide +kernel
theorem dX2_moveRow_35 : decode cX2_moveRow 35 = .ok (.iaload, 1) := by decide +kernel
theorem dX2_moveRow_36 : decode cX2_moveRow 36 = .ok (.sipush 150, 3) := by decide +kernel
theorem dX2_moveRow_39 : decode cX2_moveRow 39 = .ok (.idiv, 1) := by decide +kernel
theorem dX2_moveRow_40 : decode cX2_moveRow 40 = .ok (.aload_n 0, 1) := by decide +kernel
theorem dX2_moveRow_41 : decode cX2_moveRow 41 = .ok (.getfield 18, 3) := by decide +kernel
theorem dX2_moveRow_44 : decode cX2_moveRow 44 = .ok (.iload 4, 2) := by decide +kernel
theorem dX2_moveRow_46 : decode cX2_moveRow 46 = .ok (.iaload, 1) := by decide +kernel
theorem dX2_moveRow_47 : decode cX2_moveRow 47 = .ok (.sipush 150, 3) := by decide +kernel
theorem dX2_moveRow_50 : decode cX2_moveRow 50 = .ok (.idiv, 1) := by decide +kernel
theorem dX2_moveRow_51 : decode cX2_moveRow 51 = .ok (.isub, 1) := by decide +kernel
theorem dX2_moveRow_52 : decode cX2_moveRow 52 = .ok (.bipush 24, 2) := by decide +kernel
theorem dX2_moveRow_54 : decode cX2_moveRow 54 = .ok (.invokestatic 107, 3) := by decide +kernel
theorem dX2_moveRow_57 : decode cX2_moveRow 57 = .ok (.istore 8, 2) := by decide +kernel
theorem dX2_moveRow_59 : decode cX2_moveRow 59 = .ok (.iconst 0, 1) := by decide +kernel
theorem dX2_moveRow_60 : decode cX2_moveRow 60 = .ok (.istore 9, 2) := by decide +kernel
theorem dX2_moveRow_62 : decode cX2_moveRow 62 = .ok (.iload 9, 2) := by decide +kernel
theorem dX2_moveRow_64 : decode cX2_moveRow 64 = .ok (.bipush 24, 2) := by decide +kernel
theorem dX2_moveRow_66 : decode cX2_moveRow 66 = .ok (.if_icmp .ge 81, 3) := by decide +kernel
theorem dX2_moveRow_69 : decode cX2_moveRow 69 = .ok (.aload_n 0, 1) := by decide +kernel
theorem dX2_moveRow_70 : decode cX2_moveRow 70 = .ok (.getfield 41, 3) := by decide +kernel
theorem dX2_moveRow_73 : decode cX2_moveRow 73 = .ok (.iload 6, 2) := by decide +kernel
theorem dX2_moveRow_75 : decode cX2_moveRow 75 = .ok (.iload 9, 2) := by decide +kernel
theorem dX2_moveRow_77 : decode cX2_moveRow 77 = .ok (.iadd, 1) := by decide +kernel
theorem dX2_moveRow_78 : decode cX2_moveRow 78 = .ok (.iaload, 1) := by decide +kernel
theorem dX2_moveRow_79 : decode cX2_moveRow 79 = .ok (.istore 10, 2) := by decide +kernel
theorem dX2_moveRow_81 : decode cX2_moveRow 81 = .ok (.iload 10, 2) := by decide +kernel
theorem dX2_moveRow_83 : decode cX2_moveRow 83 = .ok (.ifCond .le 41, 3) := by decide +kernel
theorem dX2_moveRow_86 : decode cX2_moveRow 86 = .ok (.iload 10, 2) := by decide +kernel
theorem dX2_moveRow_88 : decode cX2_moveRow 88 = .ok (.i2l, 1) := by decide +kernel
theorem dX2_moveRow_89 : decode cX2_moveRow 89 = .ok (.iload 5, 2) := by decide +kernel
theorem dX2_moveRow_91 : decode cX2_moveRow 91 = .ok (.i2l, 1) := by decide +kernel
theorem dX2_moveRow_92 : decode cX2_moveRow 92 = .ok (.lmul, 1) := by decide +kernel
theorem dX2_moveRow_93 : decode cX2_moveRow 93 = .ok (.ldc2_w 119, 3) := by decide +kernel
theorem dX2_moveRow_96 : decode cX2_moveRow 96 = .ok (.ldiv, 1) := by decide +kernel
theorem dX2_moveRow_97 : decode cX2_moveRow 97 = .ok (.l2i, 1) := by decide +kernel
theorem dX2_moveRow_98 : decode cX2_moveRow 98 = .ok (.istore 11, 2) := by decide +kernel
theorem dX2_moveRow_100 : decode cX2_moveRow 100 = .ok (.aload_n 1, 1) := by decide +kernel
theorem dX2_moveRow_101 : decode cX2_moveRow 101 = .ok (.iload 6, 2) := by decide +kernel
theorem dX2_moveRow_103 : decode cX2_moveRow 103 = .ok (.iload 9, 2) := by decide +kernel
theorem dX2_moveRow_105 : decode cX2_moveRow 105 = .ok (.iadd, 1) := by decide +kernel
theorem dX2_moveRow_106 : decode cX2_moveRow 106 = .ok (.dup2, 1) := by decide +kernel
theorem dX2_moveRow_107 : decode cX2_moveRow 107 = .ok (.iaload, 1) := by decide +kernel
theorem dX2_moveRow_108 : decode cX2_moveRow 108 = .ok (.iload 11, 2) := by decide +kernel
theorem dX2_moveRow_110 : decode cX2_moveRow 110 = .ok (.isub, 1) := by decide +kernel
theorem dX2_moveRow_111 : decode cX2_moveRow 111 = .ok (.iastore, 1) := by decide +kernel
theorem dX2_moveRow_112 : decode cX2_moveRow 112 = .ok (.aload_n 1, 1) := by decide +kernel
theorem dX2_moveRow_113 : decode cX2_moveRow 113 = .ok (.iload 7, 2) := by decide +kernel
theorem dX2_moveRow_115 : decode cX2_moveRow 115 = .ok (.iload 8, 2) := by decide +kernel
theorem dX2_moveRow_117 : decode cX2_moveRow 117 = .ok (.iadd, 1) := by decide +kernel
theorem dX2_moveRow_118 : decode cX2_moveRow 118 = .ok (.dup2, 1) := by decide +kernel
theorem dX2_moveRow_119 : decode cX2_moveRow 119 = .ok (.iaload, 1) := by decide +kernel
theorem dX2_moveRow_120 : decode cX2_moveRow 120 = .ok (.iload 11, 2) := by decide +kernel
theorem dX2_moveRow_122 : decode cX2_moveRow 122 = .ok (.iadd, 1) := by decide +kernel
theorem dX2_moveRow_123 : decode cX2_moveRow 123 = .ok (.iastore, 1) := by decide +kernel
theorem dX2_moveRow_124 : decode cX2_moveRow 124 = .ok (.iload 8, 2) := by decide +kernel
theorem dX2_moveRow_126 : decode cX2_moveRow 126 = .ok (.bipush 23, 2) := by decide +kernel
theorem dX2_moveRow_128 : decode cX2_moveRow 128 = .ok (.if_icmp .ge 10, 3) := by decide +kernel
theorem dX2_moveRow_131 : decode cX2_moveRow 131 = .ok (.iload 8, 2) := by decide +kernel
theorem dX2_moveRow_133 : decode cX2_moveRow 133 = .ok (.iconst 1, 1) := by decide +kernel
theorem dX2_moveRow_134 : decode cX2_moveRow 134 = .ok (.iadd, 1) := by decide +kernel
theorem dX2_moveRow_135 : decode cX2_moveRow 135 = .ok (.goto 4, 3) := by decide +kernel
theorem dX2_moveRow_138 : decode cX2_moveRow 138 = .ok (.iconst 0, 1) := by decide +kernel
theorem dX2_moveRow_139 : decode cX2_moveRow 139 = .ok (.istore 8, 2) := by decide +kernel
theorem dX2_moveRow_141 : decode cX2_moveRow 141 = .ok (.iinc 9 1, 3) := by decide +kernel
theorem dX2_moveRow_144 : decode cX2_moveRow 144 = .ok (.goto (-82), 3) := by decide +kernel
theorem dX2_moveRow_147 : decode cX2_moveRow 147 = .ok (.return_, 1) := by decide +kernel
theorem dX2_mixLayers_0 : decode cX2_mixLayers 0 = .ok (.iconst 1, 1) := by decide +kernel
theorem dX2_mixLayers_1 : decode cX2_mixLayers 1 = .ok (.iconst 0, 1) := by decide +kernel
theorem dX2_mixLayers_2 : decode cX2_mixLayers 2 = .ok (.invokestatic 104, 3) := by decide +kernel
theorem dX2_mixLayers_5 : decode cX2_mixLayers 5 = .ok (.istore_n 2, 1) := by decide +kernel
theorem dX2_mixLayers_6 : decode cX2_mixLayers 6 = .ok (.iconst 0, 1) := by decide +kernel
theorem dX2_mixLayers_7 : decode cX2_mixLayers 7 = .ok (.istore_n 3, 1) := by decide +kernel
theorem dX2_mixLayers_8 : decode cX2_mixLayers 8 = .ok (.iload_n 3, 1) := by decide +kernel
theorem dX2_mixLayers_9 : decode cX2_mixLayers 9 = .ok (.aload_n 0, 1) := by decide +kernel
theorem dX2_mixLayers_10 : decode cX2_mixLayers 10 = .ok (.getfield 49, 3) := by decide +kernel
theorem dX2_mixLayers_13 : decode cX2_mixLayers 13 = .ok (.bipush 24, 2) := by decide +kernel
theorem dX2_mixLayers_15 : decode cX2_mixLayers 15 = .ok (.imul, 1) := by decide +kernel
theorem dX2_mixLayers_16 : decode cX2_mixLayers 16 = .ok (.if_icmp .ge 63, 3) := by decide +kernel
theorem dX2_mixLayers_19 : decode cX2_mixLayers 19 = .ok (.aload_n 1, 1) := by decide +kernel
theorem dX2_mixLayers_20 : decode cX2_mixLayers 20 = .ok (.iload_n 3, 1) := by decide +kernel
theorem dX2_mixLayers_21 : decode cX2_mixLayers 21 = .ok (.iaload, 1) := by decide +kernel
theorem dX2_mixLayers_22 : decode cX2_mixLayers 22 = .ok (.aload_n 1, 1) := by decide +kernel
theorem dX2_mixLayers_23 : decode cX2_mixLayers 23 = .ok (.iload_n 2, 1) := by decide +kernel
theorem dX2_mixLayers_24 : decode cX2_mixLayers 24 = .ok (.iaload, 1) := by decide +kernel
theorem dX2_mixLayers_25 : decode cX2_mixLayers 25 = .ok (.isub, 1) := by decide +kernel
theorem dX2_mixLayers_26 : decode cX2_mixLayers 26 = .ok (.i2l, 1) := by decide +kernel
theorem dX2_mixLayers_27 : decode cX2_mixLayers 27 = .ok (.lstore 4, 2) := by decide +kernel
theorem dX2_mixLayers_29 : decode cX2_mixLayers 29 = .ok (.lload 4, 2) := by decide +kernel
theorem dX2_mixLayers_31 : decode cX2_mixLayers 31 = .ok (.lconst 0, 1) := by decide +kernel
theorem dX2_mixLayers_32 : decode cX2_mixLayers 32 = .ok (.lcmp, 1) := by decide +kernel
theorem dX2_mixLayers_33 : decode cX2_mixLayers 33 = .ok (.ifCond .eq 37, 3) := by decide +kernel
theorem dX2_mixLayers_36 : decode cX2_mixLayers 36 = .ok (.lload 4, 2) := by decide +kernel
theorem dX2_mixLayers_38 : decode cX2_mixLayers 38 = .ok (.aload_n 0, 1) := by decide +kernel
theorem dX2_mixLayers_39 : decode cX2_mixLayers 39 = .ok (.getfield 9, 3) := by decide +kernel
theorem dX2_mixLayers_42 : decode cX2_mixLayers 42 = .ok (.bipush 6, 2) := by decide +kernel
theorem dX2_mixLayers_44 : decode cX2_mixLayers 44 = .ok (.iaload, 1) := by decide +kernel
theorem dX2_mixLayers_45 : decode cX2_mixLayers 45 = .ok (.i2l, 1) := by decide +kernel
theorem dX2_mixLayers_46 : decode cX2_mixLayers 46 = .ok (.lmul, 1) := by decide +kernel
theorem dX2_mixLayers_47 : decode cX2_mixLayers 47 = .ok (.ldc2_w 151, 3) := by decide +kernel
theorem dX2_mixLayers_50 : decode cX2_mixLayers 50 = .ok (.ldiv, 1) := by decide +kernel
theorem dX2_mixLayers_51 : decode cX2_mixLayers 51 = .ok (.l2i, 1) := by decide +kernel
theorem dX2_mixLayers_52 : decode cX2_mixLayers 52 = .ok (.istore 6, 2) := by decide +kernel
theorem dX2_mixLayers_54 : decode cX2_mixLayers 54 = .ok (.aload_n 1, 1) := by decide +kernel
theorem dX2_mixLayers_55 : decode cX2_mixLayers 55 = .ok (.iload_n 3, 1) := by decide +kernel
theorem dX2_mixLayers_56 : decode cX2_mixLayers 56 = .ok (.dup2, 1) := by decide +kernel
theorem dX2_mixLayers_57 : decode cX2_mixLayers 57 = .ok (.iaload, 1) := by decide +kernel
theorem dX2_mixLayers_58 : decode cX2_mixLayers 58 = .ok (.iload 6, 2) := by decide +kernel
theorem dX2_mixLayers_60 : decode cX2_mixLayers 60 = .ok (.isub, 1) := by decide +kernel
theorem dX2_mixLayers_61 : decode cX2_mixLayers 61 = .ok (.iastore, 1) := by decide +kernel
theorem dX2_mixLayers_62 : decode cX2_mixLayers 62 = .ok (.aload_n 1, 1) := by decide +kernel
theorem dX2_mixLayers_63 : decode cX2_mixLayers 63 = .ok (.iload_n 2, 1) := by decide +kernel
theorem dX2_mixLayers_64 : decode cX2_mixLayers 64 = .ok (.dup2, 1) := by decide +kernel
theorem dX2_mixLayers_65 : decode cX2_mixLayers 65 = .ok (.iaload, 1) := by decide +kernel
theorem dX2_mixLayers_66 : decode cX2_mixLayers 66 = .ok (.iload 6, 2) := by decide +kernel
theorem dX2_mixLayers_68 : decode cX2_mixLayers 68 = .ok (.iadd, 1) := by decide +kernel
theorem dX2_mixLayers_69 : decode cX2_mixLayers 69 = .ok (.iastore, 1) := by decide +kernel
theorem dX2_mixLayers_70 : decode cX2_mixLayers 70 = .ok (.iinc 2 1, 3) := by decide +kernel
theorem dX2_mixLayers_73 : decode cX2_mixLayers 73 = .ok (.iinc 3 1, 3) := by decide +kernel
theorem dX2_mixLayers_76 : decode cX2_mixLayers 76 = .ok (.goto (-68), 3) := by decide +kernel
theorem dX2_mixLayers_79 : decode cX2_mixLayers 79 = .ok (.return_, 1) := by decide +kernel
theorem dX2_moveMarkers_0 : decode cX2_moveMarkers 0 = .ok (.iconst 0, 1) := by decide +kernel
theorem dX2_moveMarkers_1 : decode cX2_moveMarkers 1 = .ok (.istore_n 1, 1) := by decide +kernel
theorem dX2_moveMarkers_2 : decode cX2_moveMarkers 2 = .ok (.iload_n 1, 1) := by decide +kernel
theorem dX2_moveMarkers_3 : decode cX2_moveMarkers 3 = .ok (.aload_n 0, 1) := by decide +kernel
theorem dX2_moveMarkers_4 : decode cX2_moveMarkers 4 = .ok (.getfield 56, 3) := by decide +kernel
theorem dX2_moveMarkers_7 : decode cX2_moveMarkers 7 = .ok (.if_icmp .ge 49, 3) := by decide +kernel
theorem dX2_moveMarkers_10 : decode cX2_moveMarkers 10 = .ok (.aload_n 0, 1) := by decide +kernel
theorem dX2_moveMarkers_11 : decode cX2_moveMarkers 11 = .ok (.getfield 31, 3) := by decide +kernel
theorem dX2_moveMarkers_14 : decode cX2_moveMarkers 14 = .ok (.iload_n 1, 1) := by decide +kernel
theorem dX2_moveMarkers_15 : decode cX2_moveMarkers 15 = .ok (.aaload, 1) := by decide +kernel
theorem dX2_moveMarkers_16 : decode cX2_moveMarkers 16 = .ok (.astore_n 2, 1) := by decide +kernel
theorem dX2_moveMarkers_17 : decode cX2_moveMarkers 17 = .ok (.aload_n 2, 1) := by decide +kernel
theorem dX2_moveMarkers_18 : decode cX2_moveMarkers 18 = .ok (.invokevirtual 153, 3) := by decide +kernel
theorem dX2_moveMarkers_21 : decode cX2_moveMarkers 21 = .ok (.istore_n 3, 1) := by decide +kernel
theorem dX2_moveMarkers_22 : decode cX2_moveMarkers 22 = .ok (.aload_n 0, 1) := by decide +kernel
theorem dX2_moveMarkers_23 : decode cX2_moveMarkers 23 = .ok (.iload_n 3, 1) := by decide +kernel
theorem dX2_moveMarkers_24 : decode cX2_moveMarkers 24 = .ok (.invokevirtual 147, 3) := by decide +kernel
theorem dX2_moveMarkers_27 : decode cX2_moveMarkers 27 = .ok (.ifCond .eq 23, 3) := by decide +kernel
theorem dX2_moveMarkers_30 : decode cX2_moveMarkers 30 = .ok (.aload_n 2, 1) := by decide +kernel
theorem dX2_moveMarkers_31 : decode cX2_moveMarkers 31 = .ok (.aload_n 0, 1) := by decide +kernel
theorem dX2_moveMarkers_32 : decode cX2_moveMarkers 32 = .ok (.getfield 35, 3) := by decide +kernel
theorem dX2_moveMarkers_35 : decode cX2_moveMarkers 35 = .ok (.iload_n 3, 1) := by decide +kernel
theorem dX2_moveMarkers_36 : decode cX2_moveMarkers 36 = .ok (.iaload, 1) := by decide +kernel
theorem dX2_moveMarkers_37 : decode cX2_moveMarkers 37 = .ok (.aload_n 0, 1) := by decide +kernel
theorem dX2_moveMarkers_38 : decode cX2_moveMarkers 38 = .ok (.getfield 38, 3) := by decide +kernel
theorem dX2_moveMarkers_41 : decode cX2_moveMarkers 41 = .ok (.iload_n 3, 1) := by decide +kernel
theorem dX2_moveMarkers_42 : decode cX2_moveMarkers 42 = .ok (.iaload, 1) := by decide +kernel
theorem dX2_moveMarkers_43 : decode cX2_moveMarkers 43 = .ok (.aload_n 0, 1) := by decide +kernel
theorem dX2_moveMarkers_44 : decode cX2_moveMarkers 44 = .ok (.invokevirtual 157, 3) := by decide +kernel
theorem dX2_moveMarkers_47 : decode cX2_moveMarkers 47 = .ok (.invokevirtual 160, 3) := by decide +kernel
theorem dX2_moveMarkers_50 : decode cX2_moveMarkers 50 = .ok (.iinc 1 1, 3) := by decide +kernel
theorem dX2_moveMarkers_53 : decode cX2_moveMarkers 53 = .ok (.goto (-51), 3) := by decide +kernel
theorem dX2_moveMarkers_56 : decode cX2_moveMarkers 56 = .ok (.return_, 1) := by decide +kernel
theorem dX3_init_0 : decode cX3_init 0 = .ok (.aload_n 0, 1) := by decide +kernel
theorem dX3_init_1 : decode cX3_init 1 = .ok (.invokespecial 1, 3) := by decide +kernel
theorem dX3_init_4 : decode cX3_init 4 = .ok (.aload_n 0, 1) := by decide +kernel
theorem dX3_init_5 : decode cX3_init 5 = .ok (.new 7, 3) := by decide +kernel
theorem dX3_init_8 : decode cX3_init 8 = .ok (.dup, 1) := by decide +kernel
theorem dX3_init_9 : decode cX3_init 9 = .ok (.invokespecial 9, 3) := by decide +kernel
theorem dX3_init_12 : decode cX3_init 12 = .ok (.putfield 10, 3) := by decide +kernel
theorem dX3_init_15 : decode cX3_init 15 = .ok (.aload_n 0, 1) := by decide +kernel
theorem dX3_init_16 : decode cX3_init 16 = .ok (.new 7, 3) := by decide +kernel
theorem dX3_init_19 : decode cX3_init 19 = .ok (.dup, 1) := by decide +kernel
theorem dX3_init_20 : decode cX3_init 20 = .ok (.invokespecial 9, 3) := by decide +kernel
theorem dX3_init_23 : decode cX3_init 23 = .ok (.putfield 16, 3) := by decide +kernel
theorem dX3_init_26 : decode cX3_init 26 = .ok (.aload_n 0, 1) := by decide +kernel
theorem dX3_init_27 : decode cX3_init 27 = .ok (.iconst 2, 1) := by decide +kernel
theorem dX3_init_28 : decode cX3_init 28 = .ok (.anewarray 7, 3) := by decide +kernel
theorem dX3_init_31 : decode cX3_init 31 = .ok (.putfield 19, 3) := by decide +kernel
theorem dX3_init_34 : decode cX3_init 34 = .ok (.iconst 0, 1) := by decide +kernel
theorem dX3_init_35 : decode cX3_init 35 = .ok (.istore_n 1, 1) := by decide +kernel
theorem dX3_init_36 : decode cX3_init 36 = .ok (.iload_n 1, 1) := by decide +kernel
theorem dX3_init_37 : decode cX3_init 37 = .ok (.iconst 2, 1) := by decide +kernel
theorem dX3_init_38 : decode cX3_init 38 = .ok (.if_icmp .ge 22, 3) := by decide +kernel
theorem dX3_init_41 : decode cX3_init 41 = .ok (.aload_n 0, 1) := by decide +kernel
theorem dX3_init_42 : decode cX3_init 42 = .ok (.getfield 19, 3) := by decide +kernel
theorem dX3_init_45 : decode cX3_init 45 = .ok (.iload_n 1, 1) := by decide +kernel
theorem dX3_init_46 : decode cX3_init 46 = .ok (.new 7, 3) := by decide +kernel
theorem dX3_init_49 : decode cX3_init 49 = .ok (.dup, 1) := by decide +kernel
theorem dX3_init_50 : decode cX3_init 50 = .ok (.invokespecial 9, 3) := by decide +kernel
theorem dX3_init_53 : decode cX3_init 53 = .ok (.aastore, 1) := by decide +kernel
theorem dX3_init_54 : decode cX3_init 54 = .ok (.iinc 1 1, 3) := by decide +kernel
theorem dX3_init_57 : decode cX3_init 57 = .ok (.goto (-21), 3) := by decide +kernel
theorem dX3_init_60 : decode cX3_init 60 = .ok (.aload_n 0, 1) := by decide +kernel
theorem dX3_init_61 : decode cX3_init 61 = .ok (.iconst 2, 1) := by decide +kernel
theorem dX3_init_62 : decode cX3_init 62 = .ok (.newarray .boolean, 2) := by decide +kernel
theorem dX3_init_64 : decode cX3_init 64 = .ok (.putfield 23, 3) := by decide +kernel
theorem dX3_init_67 : decode cX3_init 67 = .ok (.aload_n 0, 1) := by decide +kernel
theorem dX3_init_68 : decode cX3_init 68 = .ok (.new 27, 3) := by decide +kernel
theorem dX3_init_71 : decode cX3_init 71 = .ok (.dup, 1) := by decide +kernel
theorem dX3_init_72 : decode cX3_init 72 = .ok (.invokespecial 29, 3) := by decide +kernel
theorem dX3_init_75 : decode cX3_init 75 = .ok (.putfield 30, 3) := by decide +kernel
theorem dX3_init_78 : decode cX3_init 78 = .ok (.return_, 1) := by decide +kernel
theorem dX3_setUp_0 : decode cX3_setUp 0 = .ok (.iload_n 1, 1) := by decide +kernel
theorem dX3_setUp_1 : decode cX3_setUp 1 = .ok (.iconst 2, 1) := by decide +kernel
theorem dX3_setUp_2 : decode cX3_setUp 2 = .ok (.bipush 12, 2) := by decide +kernel
theorem dX3_setUp_4 : decode cX3_setUp 4 = .ok (.invokestatic 34, 3) := by decide +kernel
theorem dX3_setUp_7 : decode cX3_setUp 7 = .ok (.ifCond .ne 6, 3) := by decide +kernel
theorem dX3_setUp_10 : decode cX3_setUp 10 = .ok (.bipush (-2), 2) := by decide +kernel
theorem dX3_setUp_12 : decode cX3_setUp 12 = .ok (.ireturn, 1) := by decide +kernel
theorem dX3_setUp_13 : decode cX3_setUp 13 = .ok (.aload_n 0, 1) := by decide +kernel
theorem dX3_setUp_14 : decode cX3_setUp 14 = .ok (.getfield 10, 3) := by decide +kernel
theorem dX3_setUp_17 : decode cX3_setUp 17 = .ok (.getfield 38, 3) := by decide +kernel
theorem dX3_setUp_20 : decode cX3_setUp 20 = .ok (.istore_n 2, 1) := by decide +kernel
theorem dX3_setUp_21 : decode cX3_setUp 21 = .ok (.aload_n 0, 1) := by decide +kernel
theorem dX3_setUp_22 : decode cX3_setUp 22 = .ok (.getfield 10, 3) := by decide +kernel
theorem dX3_setUp_25 : decode cX3_setUp 25 = .ok (.iload_n 1, 1) := by decide +kernel
theorem dX3_setUp_26 : decode cX3_setUp 26 = .ok (.invokevirtual 42, 3) := by decide +kernel
theorem dX3_setUp_29 : decode cX3_setUp 29 = .ok (.iload_n 2, 1) := by decide +kernel
theorem dX3_setUp_30 : decode cX3_setUp 30 = .ok (.ireturn, 1) := by decide +kernel
theorem dX3_set_0 : decode cX3_set 0 = .ok (.iload_n 1, 1) := by decide +kernel
theorem dX3_set_1 : decode cX3_set 1 = .ok (.iconst 0, 1) := by decide +kernel
theorem dX3_set_2 : decode cX3_set 2 = .ok (.bipush 6, 2) := by decide +kernel
theorem dX3_set_4 : decode cX3_set 4 = .ok (.invokestatic 34, 3) := by decide +kernel
theorem dX3_set_7 : decode cX3_set 7 = .ok (.ifCond .eq 20, 3) := by decide +kernel
theorem dX3_set_10 : decode cX3_set 10 = .ok (.iload_n 2, 1) := by decide +kernel
theorem dX3_set_11 : decode cX3_set 11 = .ok (.getstatic 46, 3) := by decide +kernel
theorem dX3_set_14 : decode cX3_set 14 = .ok (.iload_n 1, 1) := by decide +kernel
theorem dX3_set_15 : decode cX3_set 15 = .ok (.iaload, 1) := by decide +kernel
theorem dX3_set_16 : decode cX3_set 16 = .ok (.getstatic 50, 3) := by decide +kernel
theorem dX3_set_19 : decode cX3_set 19 = .ok (.iload_n 1, 1) := by decide +kernel
theorem dX3_set_20 : decode cX3_set 20 = .ok (.iaload, 1) := by decide +kernel
theorem dX3_set_21 : decode cX3_set 21 = .ok (.invokestatic 34, 3) := by decide +kernel
theorem dX3_set_24 : decode cX3_set 24 = .ok (.ifCond .ne 6, 3) := by decide +kernel
theorem dX3_set_27 : decode cX3_set 27 = .ok (.ldc 53, 2) := by decide +kernel
theorem dX3_set_29 : decode cX3_set 29 = .ok (.ireturn, 1) := by decide +kernel
theorem dX3_set_30 : decode cX3_set 30 = .ok (.aload_n 0, 1) := by decide +kernel
theorem dX3_set_31 : decode cX3_set 31 = .ok (.getfield 10, 3) := by decide +kernel
theorem dX3_set_34 : decode cX3_set 34 = .ok (.getfield 54, 3) := by decide +kernel
theorem dX3_set_37 : decode cX3_set 37 = .ok (.iload_n 1, 1) := by decide +kernel
theorem dX3_set_38 : decode cX3_set 38 = .ok (.iaload, 1) := by decide +kernel
theorem dX3_set_39 : decode cX3_set 39 = .ok (.istore_n 3, 1) := by decide +kernel
theorem dX3_set_40 : decode cX3_set 40 = .ok (.aload_n 0, 1) := by decide +kernel
theorem dX3_set_41 : decode cX3_set 41 = .ok (.getfield 10, 3) := by decide +kernel
theorem dX3_set_44 : decode cX3_set 44 = .ok (.getfield 54, 3) := by decide +kernel
theorem dX3_set_47 : decode cX3_set 47 = .ok (.iload_n 1, 1) := by decide +kernel
theorem dX3_set_48 : decode cX3_set 48 = .ok (.iload_n 2, 1) := by decide +kernel
theorem dX3_set_49 : decode cX3_set 49 = .ok (.iastore, 1) := by decide +kernel
theorem dX3_set_50 : decode cX3_set 50 = .ok (.iload_n 3, 1) := by decide +kernel
theorem dX3_set_51 : decode cX3_set 51 = .ok (.ireturn, 1) := by decide +kernel
theorem dX3_spin_0 : decode cX3_spin 0 = .ok (.aload_n 0, 1) := by decide +kernel
theorem dX3_spin_1 : decode cX3_spin 1 = .ok (.getfield 10, 3) := by decide +kernel
theorem dX3_spin_4 : decode cX3_spin 4 = .ok (.iload_n 1, 1) := by decide +kernel
theorem dX3_spin_5 : decode cX3_spin 5 = .ok (.invokevirtual 57, 3) := by decide +kernel
theorem dX3_spin_8 : decode cX3_spin 8 = .ok (.ifCond .ne 6, 3) := by decide +kernel
theorem dX3_spin_11 : decode cX3_spin 11 = .ok (.ldc 61, 2) := by decide +kernel
theorem dX3_spin_13 : decode cX3_spin 13 = .ok (.ireturn, 1) := by decide +kernel
theorem dX3_spin_14 : decode cX3_spin 14 = .ok (.iload_n 2, 1) := by decide +kernel
theorem dX3_spin_15 : decode cX3_spin 15 = .ok (.invokestatic 62, 3) := by decide +kernel
theorem dX3_spin_18 : decode cX3_spin 18 = .ok (.ifCond .ne 6, 3) := by decide +kernel
theorem dX3_spin_21 : decode cX3_spin 21 = .ok (.ldc 53, 2) := by decide +kernel
theorem dX3_spin_23 : decode cX3_spin 23 = .ok (.ireturn, 1) := by decide +kernel
theorem dX3_spin_24 : decode cX3_spin 24 = .ok (.aload_n 0, 1) := by decide +kernel
theorem dX3_spin_25 : decode cX3_spin 25 = .ok (.getfield 10, 3) := by decide +kernel
theorem dX3_spin_28 : decode cX3_spin 28 = .ok (.iload_n 1, 1) := by decide +kernel
theorem dX3_spin_29 : decode cX3_spin 29 = .ok (.invokevirtual 65, 3) := by decide +kernel
theorem dX3_spin_32 : decode cX3_spin 32 = .ok (.istore_n 3, 1) := by decide +kernel
theorem dX3_spin_33 : decode cX3_spin 33 = .ok (.aload_n 0, 1) := by decide +kernel
theorem dX3_spin_34 : decode cX3_spin 34 = .ok (.getfield 10, 3) := by decide +kernel
theorem dX3_spin_37 : decode cX3_spin 37 = .ok (.iload_n 1, 1) := by decide +kernel
theorem dX3_spin_38 : decode cX3_spin 38 = .ok (.iload_n 2, 1) := by decide +kernel
theorem dX3_spin_39 : decode cX3_spin 39 = .ok (.invokevirtual 69, 3) := by decide +kernel
theorem dX3_spin_42 : decode cX3_spin 42 = .ok (.iload_n 3, 1) := by decide +kernel
theorem dX3_spin_43 : decode cX3_spin 43 = .ok (.ireturn, 1) := by decide +kernel
theorem dX3_spinAll_0 : decode cX3_spinAll 0 = .ok (.iload_n 1, 1) := by decide +kernel
theorem dX3_spinAll_1 : decode cX3_spinAll 1 = .ok (.invokestatic 62, 3) := by decide +kernel
theorem dX3_spinAll_4 : decode cX3_spinAll 4 = .ok (.ifCond .eq 10, 3) := by decide +kernel
theorem dX3_spinAll_7 : decode cX3_spinAll 7 = .ok (.iload_n 2, 1) := by decide +kernel
theorem dX3_spinAll_8 : decode cX3_spinAll 8 = .ok (.invokestatic 62, 3) := by decide +kernel
theorem dX3_spinAll_11 : decode cX3_spinAll 11 = .ok (.ifCond .ne 6, 3) := by decide +kernel
theorem dX3_spinAll_14 : decode cX3_spinAll 14 = .ok (.ldc 53, 2) := by decide +kernel
theorem dX3_spinAll_16 : decode cX3_spinAll 16 = .ok (.ireturn, 1) := by decide +kernel
theorem dX3_spinAll_17 : decode cX3_spinAll 17 = .ok (.aload_n 0, 1) := by decide +kernel
theorem dX3_spinAll_18 : decode cX3_spinAll 18 = .ok (.getfield 10, 3) := by decide +kernel
theorem dX3_spinAll_21 : decode cX3_spinAll 21 = .ok (.iload_n 1, 1) := by decide +kernel
theorem dX3_spinAll_22 : decode cX3_spinAll 22 = .ok (.iload_n 2, 1) := by decide +kernel
theorem dX3_spinAll_23 : decode cX3_spinAll 23 = .ok (.invokevirtual 73, 3) := by decide +kernel
theorem dX3_spinAll_26 : decode cX3_spinAll 26 = .ok (.aload_n 0, 1) := by decide +kernel
theorem dX3_spinAll_27 : decode cX3_spinAll 27 = .ok (.getfield 10, 3) := by decide +kernel
theorem dX3_spinAll_30 : decode cX3_spinAll 30 = .ok (.invokevirtual 76, 3) := by decide +kernel
theorem dX3_spinAll_33 : decode cX3_spinAll 33 = .ok (.ireturn, 1) := by decide +kernel
theorem dX3_pour_0 : decode cX3_pour 0 = .ok (.aload_n 0, 1) := by decide +kernel
theorem dX3_pour_1 : decode cX3_pour 1 = .ok (.iload_n 1, 1) := by decide +kernel
theorem dX3_pour_2 : decode cX3_pour 2 = .ok (.iload_n 2, 1) := by decide +kernel
theorem dX3_pour_3 : decode cX3_pour 3 = .ok (.iload_n 3, 1) := by decide +kernel
theorem dX3_pour_4 : decode cX3_pour 4 = .ok (.iload 4, 2) := by decide +kernel
theorem dX3_pour_6 : decode cX3_pour 6 = .ok (.invokevirtual 80, 3) := by decide +kernel
theorem dX3_pour_9 : decode cX3_pour 9 = .ok (.ifCond .ne 5, 3) := by decide +kernel
theorem dX3_pour_12 : decode cX3_pour 12 = .ok (.iconst (-1), 1) := by decide +kernel
theorem dX3_pour_13 : decode cX3_pour 13 = .ok (.ireturn, 1) := by decide +kernel
theorem dX3_pour_14 : decode cX3_pour 14 = .ok (.iload 5, 2) := by decide +kernel
theorem dX3_pour_16 : decode cX3_pour 16 = .ok (.iconst 1, 1) := by decide +kernel
theorem dX3_pour_17 : decode cX3_pour 17 = .ok (.ldc 84, 2) := by decide +kernel
theorem dX3_pour_19 : decode cX3_pour 19 = .ok (.invokestatic 34, 3) := by decide +kernel
theorem dX3_pour_22 : decode cX3_pour 22 = .ok (.ifCond .ne 6, 3) := by decide +kernel
theorem dX3_pour_25 : decode cX3_pour 25 = .ok (.bipush (-2), 2) := by decide +kernel
theorem dX3_pour_27 : decode cX3_pour 27 = .ok (.ireturn, 1) := by decide +kernel
theorem dX3_pour_28 : decode cX3_pour 28 = .ok (.iload 5, 2) := by decide +kernel
theorem dX3_pour_30 : decode cX3_pour 30 = .ok (.ldc 85, 2) := by decide +kernel
theorem dX3_pour_32 : decode cX3_pour 32 = .ok (.aload_n 0, 1) := by decide +kernel
theorem dX3_pour_33 : decode cX3_pour 33 = .ok (.getfield 10, 3) := by decide +kernel
theorem dX3_pour_36 : decode cX3_pour 36 = .ok (.getfield 86, 3) := by decide +kernel
theorem dX3_pour_39 : decode cX3_pour 39 = .ok (.iload_n 1, 1) := by decide +kernel
theorem dX3_pour_40 : decode cX3_pour 40 = .ok (.iaload, 1) := by decide +kernel
theorem dX3_pour_41 : decode cX3_pour 41 = .ok (.isub, 1) := by decide +kernel
theorem dX3_pour_42 : decode cX3_pour 42 = .ok (.if_icmp .le 6, 3) := by decide +kernel
theorem dX3_pour_45 : decode cX3_pour 45 = .ok (.bipush (-4), 2) := by decide +kernel
theorem dX3_pour_47 : decode cX3_pour 47 = .ok (.ireturn, 1) := by decide +kernel
theorem dX3_pour_48 : decode cX3_pour 48 = .ok (.aload_n 0, 1) := by decide +kernel
theorem dX3_pour_49 : decode cX3_pour 49 = .ok (.getfield 10, 3) := by decide +kernel
theorem dX3_pour_52 : decode cX3_pour 52 = .ok (.getfield 89, 3) := by decide +kernel
theorem dX3_pour_55 : decode cX3_pour 55 = .ok (.iload_n 1, 1) := by decide +kernel
theorem dX3_pour_56 : decode cX3_pour 56 = .ok (.aaload, 1) := by decide +kernel
theorem dX3_pour_57 : decode cX3_pour 57 = .ok (.aload_n 0, 1) := by decide +kernel
theorem dX3_pour_58 : decode cX3_pour 58 = .ok (.getfield 10, 3) := by decide +kernel
theorem dX3_pour_61 : decode cX3_pour 61 = .ok (.iload_n 2, 1) := by decide +kernel
theorem dX3_pour_62 : decode cX3_pour 62 = .ok (.iload_n 3, 1) := by decide +kernel
theorem dX3_pour_63 : decode cX3_pour 63 = .ok (.iload 4, 2) := by decide +kernel
theorem dX3_pour_65 : decode cX3_pour 65 = .ok (.invokevirtual 93, 3) := by decide +kernel
theorem dX3_pour_68 : decode cX3_pour 68 = .ok (.dup2, 1) := by decide +kernel
theorem dX3_pour_69 : decode cX3_pour 69 = .ok (.iaload, 1) := by decide +kernel
theorem dX3_pour_70 : decode cX3_pour 70 = .ok (.iload 5, 2) := by decide +kernel
theorem dX3_pour_72 : decode cX3_pour 72 = .ok (.iadd, 1) := by decide +kernel
theorem dX3_pour_73 : decode cX3_pour 73 = .ok (.iastore, 1) := by decide +kernel
theorem dX3_pour_74 : decode cX3_pour 74 = .ok (.aload_n 0, 1) := by decide +kernel
theorem dX3_pour_75 : decode cX3_pour 75 = .ok (.getfield 10, 3) := by decide +kernel
theorem dX3_pour_78 : decode cX3_pour 78 = .ok (.getfield 86, 3) := by decide +kernel
theorem dX3_pour_81 : decode cX3_pour 81 = .ok (.iload_n 1, 1) := by decide +kernel
theorem dX3_pour_82 : decode cX3_pour 82 = .ok (.dup2, 1) := by decide +kernel
theorem dX3_pour_83 : decode cX3_pour 83 = .ok (.iaload, 1) := by decide +kernel
theorem dX3_pour_84 : decode cX3_pour 84 = .ok (.iload 5, 2) := by decide +kernel
theorem dX3_pour_86 : decode cX3_pour 86 = .ok (.iadd, 1) := by decide +kernel
theorem dX3_pour_87 : decode cX3_pour 87 = .ok (.iastore, 1) := by decide +kernel
theorem dX3_pour_88 : decode cX3_pour 88 = .ok (.aload_n 0, 1) := by decide +kernel
theorem dX3_pour_89 : decode cX3_pour 89 = .ok (.getfield 10, 3) := by decide +kernel
theorem dX3_pour_92 : decode cX3_pour 92 = .ok (.getfield 86, 3) := by decide +kernel
theorem dX3_pour_95 : decode cX3_pour 95 = .ok (.iload_n 1, 1) := by decide +kernel
theorem dX3_pour_96 : decode cX3_pour 96 = .ok (.iaload, 1) := by decide +kernel
theorem dX3_pour_97 : decode cX3_pour 97 = .ok (.ireturn, 1) := by decide +kernel
theorem dX3_tick_0 : decode cX3_tick 0 = .ok (.iload_n 1, 1) := by decide +kernel
theorem dX3_tick_1 : decode cX3_tick 1 = .ok (.iconst 1, 1) := by decide +kernel
theorem dX3_tick_2 : decode cX3_tick 2 = .ok (.sipush 1000, 3) := by decide +kernel
theorem dX3_tick_5 : decode cX3_tick 5 = .ok (.invokestatic 34, 3) := by decide +kernel
theorem dX3_tick_8 : decode cX3_tick 8 = .ok (.ifCond .ne 6, 3) := by decide +kernel
theorem dX3_tick_11 : decode cX3_tick 11 = .ok (.bipush (-2), 2) := by decide +kernel
theorem dX3_tick_13 : decode cX3_tick 13 = .ok (.ireturn, 1) := by decide +kernel
theorem dX3_tick_14 : decode cX3_tick 14 = .ok (.iload_n 1, 1) := by decide +kernel
theorem dX3_tick_15 : decode cX3_tick 15 = .ok (.ldc 97, 2) := by decide +kernel
theorem dX3_tick_17 : decode cX3_tick 17 = .ok (.aload_n 0, 1) := by decide +kernel
theorem dX3_tick_18 : decode cX3_tick 18 = .ok (.getfield 10, 3) := by decide +kernel
theorem dX3_tick_21 : decode cX3_tick 21 = .ok (.getfield 98, 3) := by decide +kernel
theorem dX3_tick_24 : decode cX3_tick 24 = .ok (.isub, 1) := by decide +kernel
theorem dX3_tick_25 : decode cX3_tick 25 = .ok (.if_icmp .le 6, 3) := by decide +kernel
theorem dX3_tick_28 : decode cX3_tick 28 = .ok (.bipush (-5), 2) := by decide +kernel
theorem dX3_tick_30 : decode cX3_tick 30 = .ok (.ireturn, 1) := by decide +kernel
theorem dX3_tick_31 : decode cX3_tick 31 = .ok (.iconst 0, 1) := by decide +kernel
theorem dX3_tick_32 : decode cX3_tick 32 = .ok (.istore_n 2, 1) := by decide +kernel
theorem dX3_tick_33 : decode cX3_tick 33 = .ok (.iload_n 2, 1) := by decide +kernel
theorem dX3_tick_34 : decode cX3_tick 34 = .ok (.iload_n 1, 1) := by decide +kernel
theorem dX3_tick_35 : decode cX3_tick 35 = .ok (.if_icmp .ge 16, 3) := by decide +kernel
theorem dX3_tick_38 : decode cX3_tick 38 = .ok (.aload_n 0, 1) := by decide +kernel
theorem dX3_tick_39 : decode cX3_tick 39 = .ok (.getfield 10, 3) := by decide +kernel
theorem dX3_tick_42 : decode cX3_tick 42 = .ok (.invokevirtual 101, 3) := by decide +kernel
theorem dX3_tick_45 : decode cX3_tick 45 = .ok (.iinc 2 1, 3) := by decide +kernel
theorem dX3_tick_48 : decode cX3_tick 48 = .ok (.goto (-15), 3) := by decide +kernel
theorem dX3_tick_51 : decode cX3_tick 51 = .ok (.aload_n 0, 1) := by decide +kernel
theorem dX3_tick_52 : decode cX3_tick 52 = .ok (.getfield 10, 3) := by decide +kernel
theorem dX3_tick_55 : decode cX3_tick 55 = .ok (.getfield 98, 3) := by decide +kernel
theorem dX3_tick_58 : decode cX3_tick 58 = .ok (.ireturn, 1) := by decide +kernel
theorem dX3_ring_0 : decode cX3_ring 0 = .ok (.aload_n 0, 1) := by decide +kernel
theorem dX3_ring_1 : decode cX3_ring 1 = .ok (.getfield 10, 3) := by decide +kernel
theorem dX3_ring_4 : decode cX3_ring 4 = .ok (.iload_n 1, 1) := by decide +kernel
theorem dX3_ring_5 : decode cX3_ring 5 = .ok (.invokevirtual 57, 3) := by decide +kernel
theorem dX3_ring_8 : decode cX3_ring 8 = .ok (.ifCond .ne 6, 3) := by decide +kernel
theorem dX3_ring_11 : decode cX3_ring 11 = .ok (.ldc 61, 2) := by decide +kernel
theorem dX3_ring_13 : decode cX3_ring 13 = .ok (.ireturn, 1) := by decide +kernel
theorem dX3_ring_14 : decode cX3_ring 14 = .ok (.iload_n 2, 1) := by decide +kernel
theorem dX3_ring_15 : decode cX3_ring 15 = .ok (.tableswitch 109 0 6 #[41, 50, 60, 70, 79, 89, 99], 41) := by decide +kernel
theorem dX3_ring_56 : decode cX3_ring 56 = .ok (.aload_n 0, 1) := by decide +kernel
theorem dX3_ring_57 : decode cX3_ring 57 = .ok (.getfield 10, 3) := by decide +kernel
theorem dX3_ring_60 : decode cX3_ring 60 = .ok (.iload_n 1, 1) := by decide +kernel
theorem dX3_ring_61 : decode cX3_ring 61 = .ok (.invokevirtual 65, 3) := by decide +kernel
theorem dX3_ring_64 : decode cX3_ring 64 = .ok (.ireturn, 1) := by decide +kernel
theorem dX3_ring_65 : decode cX3_ring 65 = .ok (.aload_n 0, 1) := by decide +kernel
theorem dX3_ring_66 : decode cX3_ring 66 = .ok (.getfield 10, 3) := by decide +kernel
theorem dX3_ring_69 : decode cX3_ring 69 = .ok (.getfield 104, 3) := by decide +kernel
theorem dX3_ring_72 : decode cX3_ring 72 = .ok (.iload_n 1, 1) := by decide +kernel
theorem dX3_ring_73 : decode cX3_ring 73 = .ok (.iaload, 1) := by decide +kernel
theorem dX3_ring_74 : decode cX3_ring 74 = .ok (.ireturn, 1) := by decide +kernel
theorem dX3_ring_75 : decode cX3_ring 75 = .ok (.aload_n 0, 1) := by decide +kernel
theorem dX3_ring_76 : decode cX3_ring 76 = .ok (.getfield 10, 3) := by decide +kernel
theorem dX3_ring_79 : decode cX3_ring 79 = .ok (.getfield 107, 3) := by decide +kernel
theorem dX3_ring_82 : decode cX3_ring 82 = .ok (.iload_n 1, 1) := by decide +kernel
theorem dX3_ring_83 : decode cX3_ring 83 = .ok (.iaload, 1) := by decide +kernel
theorem dX3_ring_84 : decode cX3_ring 84 = .ok (.ireturn, 1) := by decide +kernel
theorem dX3_ring_85 : decode cX3_ring 85 = .ok (.aload_n 0, 1) := by decide +kernel
theorem dX3_ring_86 : decode cX3_ring 86 = .ok (.getfield 10, 3) := by decide +kernel
theorem dX3_ring_89 : decode cX3_ring 89 = .ok (.iload_n 1, 1) := by decide +kernel
theorem dX3_ring_90 : decode cX3_ring 90 = .ok (.invokevirtual 110, 3) := by decide +kernel
theorem dX3_ring_93 : decode cX3_ring 93 = .ok (.ireturn, 1) := by decide +kernel
theorem dX3_ring_94 : decode cX3_ring 94 = .ok (.aload_n 0, 1) := by decide +kernel
theorem dX3_ring_95 : decode cX3_ring 95 = .ok (.getfield 10, 3) := by decide +kernel
theorem dX3_ring_98 : decode cX3_ring 98 = .ok (.iconst 0, 1) := by decide +kernel
theorem dX3_ring_99 : decode cX3_ring 99 = .ok (.iload_n 1, 1) := by decide +kernel
theorem dX3_ring_100 : decode cX3_ring 100 = .ok (.invokevirtual 113, 3) := by decide +kernel
theorem dX3_ring_103 : decode cX3_ring 103 = .ok (.ireturn, 1) := by decide +kernel
theorem dX3_ring_104 : decode cX3_ring 104 = .ok (.aload_n 0, 1) := by decide +kernel
theorem dX3_ring_105 : decode cX3_ring 105 = .ok (.getfield 10, 3) := by decide +kernel
theorem dX3_ring_108 : decode cX3_ring 108 = .ok (.iconst 1, 1) := by decide +kernel
theorem dX3_ring_109 : decode cX3_ring 109 = .ok (.iload_n 1, 1) := by decide +kernel
theorem dX3_ring_110 : decode cX3_ring 110 = .ok (.invokevirtual 113, 3) := by decide +kernel
theorem dX3_ring_113 : decode cX3_ring 113 = .ok (.ireturn, 1) := by decide +kernel
theorem dX3_ring_114 : decode cX3_ring 114 = .ok (.aload_n 0, 1) := by decide +kernel
theorem dX3_ring_115 : decode cX3_ring 115 = .ok (.getfield 10, 3) := by decide +kernel
theorem dX3_ring_118 : decode cX3_ring 118 = .ok (.iconst 2, 1) := by decide +kernel
theorem dX3_ring_119 : decode cX3_ring 119 = .ok (.iload_n 1, 1) := by decide +kernel
theorem dX3_ring_120 : decode cX3_ring 120 = .ok (.invokevirtual 113, 3) := by decide +kernel
theorem dX3_ring_123 : decode cX3_ring 123 = .ok (.ireturn, 1) := by decide +kernel
theorem dX3_ring_124 : decode cX3_ring 124 = .ok (.ldc 53, 2) := by decide +kernel
theorem dX3_ring_126 : decode cX3_ring 126 = .ok (.ireturn, 1) := by decide +kernel
theorem dX3_dye_0 : decode cX3_dye 0 = .ok (.aload_n 0, 1) := by decide +kernel
theorem dX3_dye_1 : decode cX3_dye 1 = .ok (.iload_n 1, 1) := by decide +kernel
theorem dX3_dye_2 : decode cX3_dye 2 = .ok (.iload_n 2, 1) := by decide +kernel
theorem dX3_dye_3 : decode cX3_dye 3 = .ok (.iload_n 3, 1) := by decide +kernel
theorem dX3_dye_4 : decode cX3_dye 4 = .ok (.iload 4, 2) := by decide +kernel
theorem dX3_dye_6 : decode cX3_dye 6 = .ok (.invokevirtual 80, 3) := by decide +kernel
theorem dX3_dye_9 : decode cX3_dye 9 = .ok (.ifCond .ne 5, 3) := by decide +kernel
theorem dX3_dye_12 : decode cX3_dye 12 = .ok (.iconst (-1), 1) := by decide +kernel
theorem dX3_dye_13 : decode cX3_dye 13 = .ok (.ireturn, 1) := by decide +kernel
theorem dX3_dye_14 : decode cX3_dye 14 = .ok (.aload_n 0, 1) := by decide +kernel
theorem dX3_dye_15 : decode cX3_dye 15 = .ok (.getfield 10, 3) := by decide +kernel
theorem dX3_dye_18 : decode cX3_dye 18 = .ok (.getfield 89, 3) := by decide +kernel
theorem dX3_dye_21 : decode cX3_dye 21 = .ok (.iload_n 1, 1) := by decide +kernel
theorem dX3_dye_22 : decode cX3_dye 22 = .ok (.aaload, 1) := by decide +kernel
theorem dX3_dye_23 : decode cX3_dye 23 = .ok (.aload_n 0, 1) := by decide +kernel
theorem dX3_dye_24 : decode cX3_dye 24 = .ok (.getfield 10, 3) := by decide +kernel
theorem dX3_dye_27 : decode cX3_dye 27 = .ok (.iload_n 2, 1) := by decide +kernel
theorem dX3_dye_28 : decode cX3_dye 28 = .ok (.iload_n 3, 1) := by decide +kernel
theorem dX3_dye_29 : decode cX3_dye 29 = .ok (.iload 4, 2) := by decide +kernel
theorem dX3_dye_31 : decode cX3_dye 31 = .ok (.invokevirtual 93, 3) := by decide +kernel
theorem dX3_dye_34 : decode cX3_dye 34 = .ok (.iaload, 1) := by decide +kernel
theorem dX3_dye_35 : decode cX3_dye 35 = .ok (.ireturn, 1) := by decide +kernel
theorem dX3_colour_0 : decode cX3_colour 0 = .ok (.iload_n 1, 1) := by decide +kernel
theorem dX3_colour_1 : decode cX3_colour 1 = .ok (.invokestatic 117, 3) := by decide +kernel
theorem dX3_colour_4 : decode cX3_colour 4 = .ok (.ifCond .ne 7, 3) := by decide +kernel
theorem dX3_colour_7 : decode cX3_colour 7 = .ok (.ldc2_w 120, 3) := by decide +kernel
theorem dX3_colour_10 : decode cX3_colour 10 = .ok (.lreturn, 1) := by decide +kernel
theorem dX3_colour_11 : decode cX3_colour 11 = .ok (.iload_n 2, 1) := by decide +kernel
theorem dX3_colour_12 : decode cX3_colour 12 = .ok (.tableswitch 99 0 5 #[40, 51, 61, 71, 81, 90], 40) := by decide +kernel
theorem dX3_colour_52 : decode cX3_colour 52 = .ok (.aload_n 0, 1) := by decide +kernel
theorem dX3_colour_53 : decode cX3_colour 53 = .ok (.getfield 10, 3) := by decide +kernel
theorem dX3_colour_56 : decode cX3_colour 56 = .ok (.getfield 86, 3) := by decide +kernel
theorem dX3_colour_59 : decode cX3_colour 59 = .ok (.iload_n 1, 1) := by decide +kernel
theorem dX3_colour_60 : decode cX3_colour 60 = .ok (.iaload, 1) := by decide +kernel
theorem dX3_colour_61 : decode cX3_colour 61 = .ok (.i2l, 1) := by decide +kernel
theorem dX3_colour_62 : decode cX3_colour 62 = .ok (.lreturn, 1) := by decide +kernel
theorem dX3_colour_63 : decode cX3_colour 63 = .ok (.aload_n 0, 1) := by decide +kernel
theorem dX3_colour_64 : decode cX3_colour 64 = .ok (.getfield 10, 3) := by decide +kernel
theorem dX3_colour_67 : decode cX3_colour 67 = .ok (.iload_n 1, 1) := by decide +kernel
theorem dX3_colour_68 : decode cX3_colour 68 = .ok (.invokevirtual 122, 3) := by decide +kernel
theorem dX3_colour_71 : decode cX3_colour 71 = .ok (.i2l, 1) := by decide +kernel
theorem dX3_colour_72 : decode cX3_colour 72 = .ok (.lreturn, 1) := by decide +kernel
theorem dX3_colour_73 : decode cX3_colour 73 = .ok (.aload_n 0, 1) := by decide +kernel
theorem dX3_colour_74 : decode cX3_colour 74 = .ok (.getfield 10, 3) := by decide +kernel
theorem dX3_colour_77 : decode cX3_colour 77 = .ok (.iload_n 1, 1) := by decide +kernel
theorem dX3_colour_78 : decode cX3_colour 78 = .ok (.invokevirtual 125, 3) := by decide +kernel
theorem dX3_colour_81 : decode cX3_colour 81 = .ok (.i2l, 1) := by decide +kernel
theorem dX3_colour_82 : decode cX3_colour 82 = .ok (.lreturn, 1) := by decide +kernel
theorem dX3_colour_83 : decode cX3_colour 83 = .ok (.aload_n 0, 1) := by decide +kernel
theorem dX3_colour_84 : decode cX3_colour 84 = .ok (.getfield 10, 3) := by decide +kernel
theorem dX3_colour_87 : decode cX3_colour 87 = .ok (.iload_n 1, 1) := by decide +kernel
theorem dX3_colour_88 : decode cX3_colour 88 = .ok (.invokevirtual 128, 3) := by decide +kernel
theorem dX3_colour_91 : decode cX3_colour 91 = .ok (.i2l, 1) := by decide +kernel
theorem dX3_colour_92 : decode cX3_colour 92 = .ok (.lreturn, 1) := by decide +kernel
theorem dX3_colour_93 : decode cX3_colour 93 = .ok (.aload_n 0, 1) := by decide +kernel
theorem dX3_colour_94 : decode cX3_colour 94 = .ok (.getfield 10, 3) := by decide +kernel
theorem dX3_colour_97 : decode cX3_colour 97 = .ok (.iload_n 1, 1) := by decide +kernel
theorem dX3_colour_98 : decode cX3_colour 98 = .ok (.invokevirtual 131, 3) := by decide +kernel
theorem dX3_colour_101 : decode cX3_colour 101 = .ok (.lreturn, 1) := by decide +kernel
theorem dX3_colour_102 : decode cX3_colour 102 = .ok (.aload_n 0, 1) := by decide +kernel
theorem dX3_colour_103 : decode cX3_colour 103 = .ok (.getfield 10, 3) := by decide +kernel
theorem dX3_colour_106 : decode cX3_colour 106 = .ok (.iload_n 1, 1) := by decide +kernel
theorem dX3_colour_107 : decode cX3_colour 107 = .ok (.invokevirtual 135, 3) := by decide +kernel
theorem dX3_colour_110 : decode cX3_colour 110 = .ok (.lreturn, 1) := by decide +kernel
theorem dX3_colour_111 : decode cX3_colour 111 = .ok (.ldc2_w 138, 3) := by decide +kernel
theorem dX3_colour_114 : decode cX3_colour 114 = .ok (.lreturn, 1) := by decide +kernel
theorem dX3_state_0 : decode cX3_state 0 = .ok (.iload_n 1, 1) := by decide +kernel
theorem dX3_state_1 : decode cX3_state 1 = .ok (.bipush 6, 2) := by decide +kernel
theorem dX3_state_3 : decode cX3_state 3 = .ok (.bipush 12, 2) := by decide +kernel
theorem dX3_state_5 : decode cX3_state 5 = .ok (.invokestatic 34, 3) := by decide +kernel
theorem dX3_state_8 : decode cX3_state 8 = .ok (.ifCond .eq 16, 3) := by decide +kernel
theorem dX3_state_11 : decode cX3_state 11 = .ok (.aload_n 0, 1) := by decide +kernel
theorem dX3_state_12 : decode cX3_state 12 = .ok (.getfield 10, 3) := by decide +kernel
theorem dX3_state_15 : decode cX3_state 15 = .ok (.getfield 54, 3) := by decide +kernel
theorem dX3_state_18 : decode cX3_state 18 = .ok (.iload_n 1, 1) := by decide +kernel
theorem dX3_state_19 : decode cX3_state 19 = .ok (.bipush 6, 2) := by decide +kernel
theorem dX3_state_21 : decode cX3_state 21 = .ok (.isub, 1) := by decide +kernel
theorem dX3_state_22 : decode cX3_state 22 = .ok (.iaload, 1) := by decide +kernel
theorem dX3_state_23 : decode cX3_state 23 = .ok (.ireturn, 1) := by decide +kernel
theorem dX3_state_24 : decode cX3_state 24 = .ok (.iload_n 1, 1) := by decide +kernel
theorem dX3_state_25 : decode cX3_state 25 = .ok (.tableswitch 87 0 5 #[39, 47, 55, 63, 71, 79], 39) := by decide +kernel
theorem dX3_state_64 : decode cX3_state 64 = .ok (.aload_n 0, 1) := by decide +kernel
theorem dX3_state_65 : decode cX3_state 65 = .ok (.getfield 10, 3) := by decide +kernel
theorem dX3_state_68 : decode cX3_state 68 = .ok (.getfield 98, 3) := by decide +kernel
theorem dX3_state_71 : decode cX3_state 71 = .ok (.ireturn, 1) := by decide +kernel
theorem dX3_state_72 : decode cX3_state 72 = .ok (.aload_n 0, 1) := by decide +kernel
theorem dX3_state_73 : decode cX3_state 73 = .ok (.getfield 10, 3) := by decide +kernel
theorem dX3_state_76 : decode cX3_state 76 = .ok (.getfield 38, 3) := by decide +kernel
theorem dX3_state_79 : decode cX3_state 79 = .ok (.ireturn, 1) := by decide +kernel
theorem dX3_state_80 : decode cX3_state 80 = .ok (.aload_n 0, 1) := by decide +kernel
theorem dX3_state_81 : decode cX3_state 81 = .ok (.getfield 10, 3) := by decide +kernel
theorem dX3_state_84 : decode cX3_state 84 = .ok (.getfield 140, 3) := by decide +kernel
theorem dX3_state_87 : decode cX3_state 87 = .ok (.ireturn, 1) := by decide +kernel
theorem dX3_state_88 : decode cX3_state 88 = .ok (.aload_n 0, 1) := by decide +kernel
theorem dX3_state_89 : decode cX3_state 89 = .ok (.getfield 10, 3) := by decide +kernel
theorem dX3_state_92 : decode cX3_state 92 = .ok (.invokevirtual 76, 3) := by decide +kernel
theorem dX3_state_95 : decode cX3_state 95 = .ok (.ireturn, 1) := by decide +kernel
theorem dX3_state_96 : decode cX3_state 96 = .ok (.aload_n 0, 1) := by decide +kernel
theorem dX3_state_97 : decode cX3_state 97 = .ok (.getfield 10, 3) := by decide +kernel
theorem dX3_state_100 : decode cX3_state 100 = .ok (.invokevirtual 143, 3) := by decide +kernel
theorem dX3_state_103 : decode cX3_state 103 = .ok (.ireturn, 1) := by decide +kernel
theorem dX3_state_104 : decode cX3_state 104 = .ok (.aload_n 0, 1) := by decide +kernel
theorem dX3_state_105 : decode cX3_state 105 = .ok (.getfield 30, 3) := by decide +kernel
theorem dX3_state_108 : decode cX3_state 108 = .ok (.getfield 146, 3) := by decide +kernel
theorem dX3_state_111 : decode cX3_state 111 = .ok (.ireturn, 1) := by decide +kernel
theorem dX3_state_112 : decode cX3_state 112 = .ok (.ldc 53, 2) := by decide +kernel
theorem dX3_state_114 : decode cX3_state 114 = .ok (.ireturn, 1) := by decide +kernel
theorem dX3_marker_0 : decode cX3_marker 0 = .ok (.iload_n 1, 1) := by decide +kernel
theorem dX3_marker_1 : decode cX3_marker 1 = .ok (.iconst 0, 1) := by decide +kernel
theorem dX3_marker_2 : decode cX3_marker 2 = .ok (.aload_n 0, 1) := by decide +kernel
theorem dX3_marker_3 : decode cX3_marker 3 = .ok (.getfield 10, 3) := by decide +kernel
theorem dX3_marker_6 : decode cX3_marker 6 = .ok (.invokevirtual 149, 3) := by decide +kernel
theorem dX3_marker_9 : decode cX3_marker 9 = .ok (.invokestatic 34, 3) := by decide +kernel
theorem dX3_marker_12 : decode cX3_marker 12 = .ok (.ifCond .eq 14, 3) := by decide +kernel
theorem dX3_marker_15 : decode cX3_marker 15 = .ok (.iload_n 2, 1) := by decide +kernel
theorem dX3_marker_16 : decode cX3_marker 16 = .ok (.iconst 0, 1) := by decide +kernel
theorem dX3_marker_17 : decode cX3_marker 17 = .ok (.sipush 3599, 3) := by decide +kernel
theorem dX3_marker_20 : decode cX3_marker 20 = .ok (.invokestatic 34, 3) := by decide +kernel
theorem dX3_marker_23 : decode cX3_marker 23 = .ok (.ifCond .ne 6, 3) := by decide +kernel
theorem dX3_marker_26 : decode cX3_marker 26 = .ok (.bipush (-2), 2) := by decide +kernel
theorem dX3_marker_28 : decode cX3_marker 28 = .ok (.ireturn, 1) := by decide +kernel
theorem dX3_marker_29 : decode cX3_marker 29 = .ok (.aload_n 0, 1) := by decide +kernel
theorem dX3_marker_30 : decode cX3_marker 30 = .ok (.getfield 10, 3) := by decide +kernel
theorem dX3_marker_33 : decode cX3_marker 33 = .ok (.getfield 140, 3) := by decide +kernel
theorem dX3_marker_36 : decode cX3_marker 36 = .ok (.istore_n 3, 1) := by decide +kernel
theorem dX3_marker_37 : decode cX3_marker 37 = .ok (.iload_n 3, 1) := by decide +kernel
theorem dX3_marker_38 : decode cX3_marker 38 = .ok (.bipush 6, 2) := by decide +kernel
theorem dX3_marker_40 : decode cX3_marker 40 = .ok (.if_icmp .lt 6, 3) := by decide +kernel
theorem dX3_marker_43 : decode cX3_marker 43 = .ok (.bipush (-4), 2) := by decide +kernel
theorem dX3_marker_45 : decode cX3_marker 45 = .ok (.ireturn, 1) := by decide +kernel
theorem dX3_marker_46 : decode cX3_marker 46 = .ok (.aload_n 0, 1) := by decide +kernel
theorem dX3_marker_47 : decode cX3_marker 47 = .ok (.getfield 10, 3) := by decide +kernel
theorem dX3_marker_50 : decode cX3_marker 50 = .ok (.getfield 152, 3) := by decide +kernel
theorem dX3_marker_53 : decode cX3_marker 53 = .ok (.iload_n 3, 1) := by decide +kernel
theorem dX3_marker_54 : decode cX3_marker 54 = .ok (.aaload, 1) := by decide +kernel
theorem dX3_marker_55 : decode cX3_marker 55 = .ok (.iload_n 1, 1) := by decide +kernel
theorem dX3_marker_56 : decode cX3_marker 56 = .ok (.iload_n 2, 1) := by decide +kernel
theorem dX3_marker_57 : decode cX3_marker 57 = .ok (.invokevirtual 156, 3) := by decide +kernel
theorem dX3_marker_60 : decode cX3_marker 60 = .ok (.aload_n 0, 1) := by decide +kernel
theorem dX3_marker_61 : decode cX3_marker 61 = .ok (.getfield 10, 3) := by decide +kernel
theorem dX3_marker_64 : decode cX3_marker 64 = .ok (.iload_n 3, 1) := by decide +kernel
theorem dX3_marker_65 : decode cX3_marker 65 = .ok (.iconst 1, 1) := by decide +kernel
theorem dX3_marker_66 : decode cX3_marker 66 = .ok (.iadd, 1) := by decide +kernel
theorem dX3_marker_67 : decode cX3_marker 67 = .ok (.putfield 140, 3) := by decide +kernel
theorem dX3_marker_70 : decode cX3_marker 70 = .ok (.iload_n 3, 1) := by decide +kernel
theorem dX3_marker_71 : decode cX3_marker 71 = .ok (.ireturn, 1) := by decide +kernel
theorem dX3_where_0 : decode cX3_where 0 = .ok (.aload_n 0, 1) := by decide +kernel
theorem dX3_where_1 : decode cX3_where 1 = .ok (.getfield 10, 3) := by decide +kernel
theorem dX3_where_4 : decode cX3_where 4 = .ok (.iload_n 1, 1) := by decide +kernel
theorem dX3_where_5 : decode cX3_where 5 = .ok (.invokevirtual 161, 3) := by decide +kernel
theorem dX3_where_8 : decode cX3_where 8 = .ok (.ifCond .ne 5, 3) := by decide +kernel
theorem dX3_where_11 : decode cX3_where 11 = .ok (.iconst (-1), 1) := by decide +kernel
theorem dX3_where_12 : decode cX3_where 12 = .ok (.ireturn, 1) := by decide +kernel
theorem dX3_where_13 : decode cX3_where 13 = .ok (.aload_n 0, 1) := by decide +kernel
theorem dX3_where_14 : decode cX3_where 14 = .ok (.getfield 10, 3) := by decide +kernel
theorem dX3_where_17 : decode cX3_where 17 = .ok (.getfield 152, 3) := by decide +kernel
theorem dX3_where_20 : decode cX3_where 20 = .ok (.iload_n 1, 1) := by decide +kernel
theorem dX3_where_21 : decode cX3_where 21 = .ok (.aaload, 1) := by decide +kernel
theorem dX3_where_22 : decode cX3_where 22 = .ok (.astore_n 3, 1) := by decide +kernel
theorem dX3_where_23 : decode cX3_where 23 = .ok (.iload_n 2, 1) := by decide +kernel
theorem dX3_where_24 : decode cX3_where 24 = .ok (.tableswitch 61 0 4 #[36, 41, 46, 51, 56], 36) := by decide +kernel
theorem dX3_where_60 : decode cX3_where 60 = .ok (.aload_n 3, 1) := by decide +kernel
theorem dX3_where_61 : decode cX3_where 61 = .ok (.getfield 164, 3) := by decide +kernel
theorem dX3_where_64 : decode cX3_where 64 = .ok (.ireturn, 1) := by decide +kernel
theorem dX3_where_65 : decode cX3_where 65 = .ok (.aload_n 3, 1) := by decide +kernel
theorem dX3_where_66 : decode cX3_where 66 = .ok (.getfield 167, 3) := by decide +kernel
theorem dX3_where_69 : decode cX3_where 69 = .ok (.ireturn, 1) := by decide +kernel
theorem dX3_where_70 : decode cX3_where 70 = .ok (.aload_n 3, 1) := by decide +kernel
theorem dX3_where_71 : decode cX3_where 71 = .ok (.invokevirtual 170, 3) := by decide +kernel
theorem dX3_where_74 : decode cX3_where 74 = .ok (.ireturn, 1) := by decide +kernel
theorem dX3_where_75 : decode cX3_where 75 = .ok (.aload_n 3, 1) := by decide +kernel
theorem dX3_where_76 : decode cX3_where 76 = .ok (.getfield 173, 3) := by decide +kernel
theorem dX3_where_79 : decode cX3_where 79 = .ok (.ireturn, 1) := by decide +kernel
theorem dX3_where_80 : decode cX3_where 80 = .ok (.aload_n 3, 1) := by decide +kernel
theorem dX3_where_81 : decode cX3_where 81 = .ok (.getfield 176, 3) := by decide +kernel
theorem dX3_where_84 : decode cX3_where 84 = .ok (.ireturn, 1) := by decide +kernel
theorem dX3_where_85 : decode cX3_where 85 = .ok (.bipush (-2), 2) := by decide +kernel
theorem dX3_where_87 : decode cX3_where 87 = .ok (.ireturn, 1) := by decide +kernel
theorem dX3_path_0 : decode cX3_path 0 = .ok (.aload_n 0, 1) := by decide +kernel
theorem dX3_path_1 : decode cX3_path 1 = .ok (.getfield 10, 3) := by decide +kernel
theorem dX3_path_4 : decode cX3_path 4 = .ok (.iload_n 1, 1) := by decide +kernel
theorem dX3_path_5 : decode cX3_path 5 = .ok (.invokevirtual 161, 3) := by decide +kernel
theorem dX3_path_8 : decode cX3_path 8 = .ok (.ifCond .ne 5, 3) := by decide +kernel
theorem dX3_path_11 : decode cX3_path 11 = .ok (.iconst (-1), 1) := by decide +kernel
theorem dX3_path_12 : decode cX3_path 12 = .ok (.ireturn, 1) := by decide +kernel
theorem dX3_path_13 : decode cX3_path 13 = .ok (.iload_n 3, 1) := by decide +kernel
theorem dX3_path_14 : decode cX3_path 14 = .ok (.iconst 0, 1) := by decide +kernel
theorem dX3_path_15 : decode cX3_path 15 = .ok (.iconst 1, 1) := by decide +kernel
theorem dX3_path_16 : decode cX3_path 16 = .ok (.invokestatic 34, 3) := by decide +kernel
theorem dX3_path_19 : decode cX3_path 19 = .ok (.ifCond .ne 6, 3) := by decide +kernel
theorem dX3_path_22 : decode cX3_path 22 = .ok (.bipush (-2), 2) := by decide +kernel
theorem dX3_path_24 : decode cX3_path 24 = .ok (.ireturn, 1) := by decide +kernel
theorem dX3_path_25 : decode cX3_path 25 = .ok (.aload_n 0, 1) := by decide +kernel
theorem dX3_path_26 : decode cX3_path 26 = .ok (.getfield 10, 3) := by decide +kernel
theorem dX3_path_29 : decode cX3_path 29 = .ok (.getfield 152, 3) := by decide +kernel
theorem dX3_path_32 : decode cX3_path 32 = .ok (.iload_n 1, 1) := by decide +kernel
theorem dX3_path_33 : decode cX3_path 33 = .ok (.aaload, 1) := by decide +kernel
theorem dX3_path_34 : decode cX3_path 34 = .ok (.astore 4, 2) := by decide +kernel
theorem dX3_path_36 : decode cX3_path 36 = .ok (.iload_n 2, 1) := by decide +kernel
theorem dX3_path_37 : decode cX3_path 37 = .ok (.iconst 0, 1) := by decide +kernel
theorem dX3_path_38 : decode cX3_path 38 = .ok (.aload 4, 2) := by decide +kernel
theorem dX3_path_40 : decode cX3_path 40 = .ok (.getfield 173, 3) := by decide +kernel
theorem dX3_path_43 : decode cX3_path 43 = .ok (.iconst 1, 1) := by decide +kernel
theorem dX3_path_44 : decode cX3_path 44 = .ok (.isub, 1) := by decide +kernel
theorem dX3_path_45 : decode cX3_path 45 = .ok (.invokestatic 34, 3) := by decide +kernel
theorem dX3_path_48 : decode cX3_path 48 = .ok (.ifCond .ne 6, 3) := by decide +kernel
theorem dX3_path_51 : decode cX3_path 51 = .ok (.bipush (-6), 2) := by decide +kernel
theorem dX3_path_53 : decode cX3_path 53 = .ok (.ireturn, 1) := by decide +kernel
theorem dX3_path_54 : decode cX3_path 54 = .ok (.iload_n 3, 1) := by decide +kernel
theorem dX3_path_55 : decode cX3_path 55 = .ok (.ifCond .ne 12, 3) := by decide +kernel
theorem dX3_path_58 : decode cX3_path 58 = .ok (.aload 4, 2) := by decide +kernel
theorem dX3_path_60 : decode cX3_path 60 = .ok (.iload_n 2, 1) := by decide +kernel
theorem dX3_path_61 : decode cX3_path 61 = .ok (.invokevirtual 179, 3) := by decide +kernel
theorem dX3_path_64 : decode cX3_path 64 = .ok (.goto 9, 3) := by decide +kernel
theorem dX3_path_67 : decode cX3_path 67 = .ok (.aload 4, 2) := by decide +kernel
theorem dX3_path_69 : decode cX3_path 69 = .ok (.iload_n 2, 1) := by decide +kernel
theorem dX3_path_70 : decode cX3_path 70 = .ok (.invokevirtual 182, 3) := by decide +kernel
theorem dX3_path_73 : decode cX3_path 73 = .ok (.ireturn, 1) := by decide +kernel
theorem dX3_settles_0 : decode cX3_settles 0 = .ok (.iload_n 1, 1) := by decide +kernel
theorem dX3_settles_1 : decode cX3_settles 1 = .ok (.iconst 0, 1) := by decide +kernel
theorem dX3_settles_2 : decode cX3_settles 2 = .ok (.sipush 1000, 3) := by decide +kernel
theorem dX3_settles_5 : decode cX3_settles 5 = .ok (.invokestatic 34, 3) := by decide +kernel
theorem dX3_settles_8 : decode cX3_settles 8 = .ok (.ifCond .eq 14, 3) := by decide +kernel
theorem dX3_settles_11 : decode cX3_settles 11 = .ok (.iload_n 2, 1) := by decide +kernel
theorem dX3_settles_12 : decode cX3_settles 12 = .ok (.iconst 1, 1) := by decide +kernel
theorem dX3_settles_13 : decode cX3_settles 13 = .ok (.sipush 1000, 3) := by decide +kernel
theorem dX3_settles_16 : decode cX3_settles 16 = .ok (.invokestatic 34, 3) := by decide +kernel
theorem dX3_settles_19 : decode cX3_settles 19 = .ok (.ifCond .ne 6, 3) := by decide +kernel
theorem dX3_settles_22 : decode cX3_settles 22 = .ok (.bipush (-2), 2) := by decide +kernel
theorem dX3_settles_24 : decode cX3_settles 24 = .ok (.ireturn, 1) := by decide +kernel
theorem dX3_settles_25 : decode cX3_settles 25 = .ok (.aload_n 0, 1) := by decide +kernel
theorem dX3_settles_26 : decode cX3_settles 26 = .ok (.getfield 16, 3) := by decide +kernel
theorem dX3_settles_29 : decode cX3_settles 29 = .ok (.aload_n 0, 1) := by decide +kernel
theorem dX3_settles_30 : decode cX3_settles 30 = .ok (.getfield 10, 3) := by decide +kernel
theorem dX3_settles_33 : decode cX3_settles 33 = .ok (.invokevirtual 185, 3) := by decide +kernel
theorem dX3_settles_36 : decode cX3_settles 36 = .ok (.iconst 0, 1) := by decide +kernel
theorem dX3_settles_37 : decode cX3_settles 37 = .ok (.istore_n 3, 1) := by decide +kernel
theorem dX3_settles_38 : decode cX3_settles 38 = .ok (.iload_n 3, 1) := by decide +kernel
theorem dX3_settles_39 : decode cX3_settles 39 = .ok (.iload_n 2, 1) := by decide +kernel
theorem dX3_settles_40 : decode cX3_settles 40 = .ok (.if_icmp .gt 29, 3) := by decide +kernel
theorem dX3_settles_43 : decode cX3_settles 43 = .ok (.aload_n 0, 1) := by decide +kernel
theorem dX3_settles_44 : decode cX3_settles 44 = .ok (.getfield 16, 3) := by decide +kernel
theorem dX3_settles_47 : decode cX3_settles 47 = .ok (.iload_n 1, 1) := by decide +kernel
theorem dX3_settles_48 : decode cX3_settles 48 = .ok (.invokevirtual 189, 3) := by decide +kernel
theorem dX3_settles_51 : decode cX3_settles 51 = .ok (.ifCond .eq 5, 3) := by decide +kernel
theorem dX3_settles_54 : decode cX3_settles 54 = .ok (.iload_n 3, 1) := by decide +kernel
theorem dX3_settles_55 : decode cX3_settles 55 = .ok (.ireturn, 1) := by decide +kernel
theorem dX3_settles_56 : decode cX3_settles 56 = .ok (.aload_n 0, 1) := by decide +kernel
theorem dX3_settles_57 : decode cX3_settles 57 = .ok (.getfield 16, 3) := by decide +kernel
theorem dX3_settles_60 : decode cX3_settles 60 = .ok (.invokevirtual 192, 3) := by decide +kernel
theorem dX3_settles_63 : decode cX3_settles 63 = .ok (.iinc 3 1, 3) := by decide +kernel
theorem dX3_settles_66 : decode cX3_settles 66 = .ok (.goto (-28), 3) := by decide +kernel
theorem dX3_settles_69 : decode cX3_settles 69 = .ok (.bipush (-6), 2) := by decide +kernel
theorem dX3_settles_71 : decode cX3_settles 71 = .ok (.ireturn, 1) := by decide +kernel
theorem dX3_arrives_0 : decode cX3_arrives 0 = .ok (.iload_n 1, 1) := by decide +kernel
theorem dX3_arrives_1 : decode cX3_arrives 1 = .ok (.invokestatic 117, 3) := by decide +kernel
theorem dX3_arrives_4 : decode cX3_arrives 4 = .ok (.ifCond .eq 14, 3) := by decide +kernel
theorem dX3_arrives_7 : decode cX3_arrives 7 = .ok (.aload_n 0, 1) := by decide +kernel
theorem dX3_arrives_8 : decode cX3_arrives 8 = .ok (.getfield 10, 3) := by decide +kernel
theorem dX3_arrives_11 : decode cX3_arrives 11 = .ok (.iload_n 2, 1) := by decide +kernel
theorem dX3_arrives_12 : decode cX3_arrives 12 = .ok (.invokevirtual 57, 3) := by decide +kernel
theorem dX3_arrives_15 : decode cX3_arrives 15 = .ok (.ifCond .ne 5, 3) := by decide +kernel
theorem dX3_arrives_18 : decode cX3_arrives 18 = .ok (.iconst (-1), 1) := by decide +kernel
theorem dX3_arrives_19 : decode cX3_arrives 19 = .ok (.ireturn, 1) := by decide +kernel
theorem dX3_arrives_20 : decode cX3_arrives 20 = .ok (.iload_n 3, 1) := by decide +kernel
theorem dX3_arrives_21 : decode cX3_arrives 21 = .ok (.iconst 1, 1) := by decide +kernel
theorem dX3_arrives_22 : decode cX3_arrives 22 = .ok (.sipush 1000, 3) := by decide +kernel
theorem dX3_arrives_25 : decode cX3_arrives 25 = .ok (.invokestatic 34, 3) := by decide +kernel
theorem dX3_arrives_28 : decode cX3_arrives 28 = .ok (.ifCond .eq 15, 3) := by decide +kernel
theorem dX3_arrives_31 : decode cX3_arrives 31 = .ok (.iload 4, 2) := by decide +kernel
theorem dX3_arrives_33 : decode cX3_arrives 33 = .ok (.iconst 1, 1) := by decide +kernel
theorem dX3_arrives_34 : decode cX3_arrives 34 = .ok (.sipush 500, 3) := by decide +kernel
theorem dX3_arrives_37 : decode cX3_arrives 37 = .ok (.invokestatic 34, 3) := by decide +kernel
theorem dX3_arrives_40 : decode cX3_arrives 40 = .ok (.ifCond .ne 6, 3) := by decide +kernel
theorem dX3_arrives_43 : decode cX3_arrives 43 = .ok (.bipush (-2), 2) := by decide +kernel
theorem dX3_arrives_45 : decode cX3_arrives 45 = .ok (.ireturn, 1) := by decide +kernel
theorem dX3_arrives_46 : decode cX3_arrives 46 = .ok (.aload_n 0, 1) := by decide +kernel
theorem dX3_arrives_47 : decode cX3_arrives 47 = .ok (.getfield 10, 3) := by decide +kernel
theorem dX3_arrives_50 : decode cX3_arrives 50 = .ok (.getfield 86, 3) := by decide +kernel
theorem dX3_arrives_53 : decode cX3_arrives 53 = .ok (.iload_n 1, 1) := by decide +kernel
theorem dX3_arrives_54 : decode cX3_arrives 54 = .ok (.iaload, 1) := by decide +kernel
theorem dX3_arrives_55 : decode cX3_arrives 55 = .ok (.ifCond .ne 6, 3) := by decide +kernel
theorem dX3_arrives_58 : decode cX3_arrives 58 = .ok (.bipush (-5), 2) := by decide +kernel
theorem dX3_arrives_60 : decode cX3_arrives 60 = .ok (.ireturn, 1) := by decide +kernel
theorem dX3_arrives_61 : decode cX3_arrives 61 = .ok (.iload_n 3, 1) := by decide +kernel
theorem dX3_arrives_62 : decode cX3_arrives 62 = .ok (.i2l, 1) := by decide +kernel
theorem dX3_arrives_63 : decode cX3_arrives 63 = .ok (.aload_n 0, 1) := by decide +kernel
theorem dX3_arrives_64 : decode cX3_arrives 64 = .ok (.getfield 10, 3) := by decide +kernel
theorem dX3_arrives_67 : decode cX3_arrives 67 = .ok (.getfield 86, 3) := by decide +kernel
theorem dX3_arrives_70 : decode cX3_arrives 70 = .ok (.iload_n 1, 1) := by decide +kernel
theorem dX3_arrives_71 : decode cX3_arrives 71 = .ok (.iaload, 1) := by decide +kernel
theorem dX3_arrives_72 : decode cX3_arrives 72 = .ok (.i2l, 1) := by decide +kernel
theorem dX3_arrives_73 : decode cX3_arrives 73 = .ok (.lmul, 1) := by decide +kernel
theorem dX3_arrives_74 : decode cX3_arrives 74 = .ok (.lstore 5, 2) := by decide +kernel
theorem dX3_arrives_76 : decode cX3_arrives 76 = .ok (.aload_n 0, 1) := by decide +kernel
theorem dX3_arrives_77 : decode cX3_arrives 77 = .ok (.getfield 16, 3) := by decide +kernel
theorem dX3_arrives_80 : decode cX3_arrives 80 = .ok (.aload_n 0, 1) := by decide +kernel
theorem dX3_arrives_81 : decode cX3_arrives 81 = .ok (.getfield 10, 3) := by decide +kernel
theorem dX3_arrives_84 : decode cX3_arrives 84 = .ok (.invokevirtual 185, 3) := by decide +kernel
theorem dX3_arrives_87 : decode cX3_arrives 87 = .ok (.iconst 0, 1) := by decide +kernel
theorem dX3_arrives_88 : decode cX3_arrives 88 = .ok (.istore 7, 2) := by decide +kernel
theorem dX3_arrives_90 : decode cX3_arrives 90 = .ok (.iload 7, 2) := by decide +kernel
theorem dX3_arrives_92 : decode cX3_arrives 92 = .ok (.iload 4, 2) := by decide +kernel
theorem dX3_arrives_94 : decode cX3_arrives 94 = .ok (.if_icmp .gt 47, 3) := by decide +kernel
theorem dX3_arrives_97 : decode cX3_arrives 97 = .ok (.ldc2_w 195, 3) := by decide +kernel
theorem dX3_arrives_100 : decode cX3_arrives 100 = .ok (.aload_n 0, 1) := by decide +kernel
theorem dX3_arrives_101 : decode cX3_arrives 101 = .ok (.getfield 16, 3) := by decide +kernel
theorem dX3_arrives_104 : decode cX3_arrives 104 = .ok (.iload_n 1, 1) := by decide +kernel
theorem dX3_arrives_105 : decode cX3_arrives 105 = .ok (.iload_n 2, 1) := by decide +kernel
theorem dX3_arrives_106 : decode cX3_arrives 106 = .ok (.invokevirtual 113, 3) := by decide +kernel
theorem dX3_arrives_109 : decode cX3_arrives 109 = .ok (.i2l, 1) := by decide +kernel
theorem dX3_arrives_110 : decode cX3_arrives 110 = .ok (.lmul, 1) := by decide +kernel
theorem dX3_arrives_111 : decode cX3_arrives 111 = .ok (.lload 5, 2) := by decide +kernel
theorem dX3_arrives_113 : decode cX3_arrives 113 = .ok (.lcmp, 1) := by decide +kernel
theorem dX3_arrives_114 : decode cX3_arrives 114 = .ok (.ifCond .lt 6, 3) := by decide +kernel
theorem dX3_arrives_117 : decode cX3_arrives 117 = .ok (.iload 7, 2) := by decide +kernel
theorem dX3_arrives_119 : decode cX3_arrives 119 = .ok (.ireturn, 1) := by decide +kernel
theorem dX3_arrives_120 : decode cX3_arrives 120 = .ok (.aload_n 0, 1) := by decide +kernel
theorem dX3_arrives_121 : decode cX3_arrives 121 = .ok (.getfield 16, 3) := by decide +kernel
theorem dX3_arrives_124 : decode cX3_arrives 124 = .ok (.invokevirtual 192, 3) := by decide +kernel
theorem dX3_arrives_127 : decode cX3_arrives 127 = .ok (.aload_n 0, 1) := by decide +kernel
theorem dX3_arrives_128 : decode cX3_arrives 128 = .ok (.getfield 16, 3) := by decide +kernel
theorem dX3_arrives_131 : decode cX3_arrives 131 = .ok (.iload_n 1, 1) := by decide +kernel
theorem dX3_arrives_132 : decode cX3_arrives 132 = .ok (.invokevirtual 197, 3) := by decide +kernel
theorem dX3_arrives_135 : decode cX3_arrives 135 = .ok (.iinc 7 1, 3) := by decide +kernel
theorem dX3_arrives_138 : decode cX3_arrives 138 = .ok (.goto (-48), 3) := by decide +kernel
theorem dX3_arrives_141 : decode cX3_arrives 141 = .ok (.bipush (-6), 2) := by decide +kernel
theorem dX3_arrives_143 : decode cX3_arrives 143 = .ok (.ireturn, 1) := by decide +kernel
theorem dX3_meet_0 : decode cX3_meet 0 = .ok (.aload_n 0, 1) := by decide +kernel
theorem dX3_meet_1 : decode cX3_meet 1 = .ok (.getfield 10, 3) := by decide +kernel
theorem dX3_meet_4 : decode cX3_meet 4 = .ok (.iload_n 1, 1) := by decide +kernel
theorem dX3_meet_5 : decode cX3_meet 5 = .ok (.invokevirtual 161, 3) := by decide +kernel
theorem dX3_meet_8 : decode cX3_meet 8 = .ok (.ifCond .eq 14, 3) := by decide +kernel
theorem dX3_meet_11 : decode cX3_meet 11 = .ok (.aload_n 0, 1) := by decide +kernel
theorem dX3_meet_12 : decode cX3_meet 12 = .ok (.getfield 10, 3) := by decide +kernel
theorem dX3_meet_15 : decode cX3_meet 15 = .ok (.iload_n 2, 1) := by decide +kernel
theorem dX3_meet_16 : decode cX3_meet 16 = .ok (.invokevirtual 161, 3) := by decide +kernel
theorem dX3_meet_19 : decode cX3_meet 19 = .ok (.ifCond .ne 5, 3) := by decide +kernel
theorem dX3_meet_22 : decode cX3_meet 22 = .ok (.iconst (-1), 1) := by decide +kernel
theorem dX3_meet_23 : decode cX3_meet 23 = .ok (.ireturn, 1) := by decide +kernel
theorem dX3_meet_24 : decode cX3_meet 24 = .ok (.iload_n 3, 1) := by decide +kernel
theorem dX3_meet_25 : decode cX3_meet 25 = .ok (.iconst 0, 1) := by decide +kernel
theorem dX3_meet_26 : decode cX3_meet 26 = .ok (.sipush 1800, 3) := by decide +kernel
theorem dX3_meet_29 : decode cX3_meet 29 = .ok (.invokestatic 34, 3) := by decide +kernel
theorem dX3_meet_32 : decode cX3_meet 32 = .ok (.ifCond .eq 15, 3) := by decide +kernel
theorem dX3_meet_35 : decode cX3_meet 35 = .ok (.iload 4, 2) := by decide +kernel
theorem dX3_meet_37 : decode cX3_meet 37 = .ok (.iconst 1, 1) := by decide +kernel
theorem dX3_meet_38 : decode cX3_meet 38 = .ok (.sipush 1000, 3) := by decide +kernel
theorem dX3_meet_41 : decode cX3_meet 41 = .ok (.invokestatic 34, 3) := by decide +kernel
theorem dX3_meet_44 : decode cX3_meet 44 = .ok (.ifCond .ne 6, 3) := by decide +kernel
theorem dX3_meet_47 : decode cX3_meet 47 = .ok (.bipush (-2), 2) := by decide +kernel
theorem dX3_meet_49 : decode cX3_meet 49 = .ok (.ireturn, 1) := by decide +kernel
theorem dX3_meet_50 : decode cX3_meet 50 = .ok (.aload_n 0, 1) := by decide +kernel
theorem dX3_meet_51 : decode cX3_meet 51 = .ok (.getfield 16, 3) := by decide +kernel
theorem dX3_meet_54 : decode cX3_meet 54 = .ok (.aload_n 0, 1) := by decide +kernel
theorem dX3_meet_55 : decode cX3_meet 55 = .ok (.getfield 10, 3) := by decide +kernel
theorem dX3_meet_58 : decode cX3_meet 58 = .ok (.invokevirtual 185, 3) := by decide +kernel
theorem dX3_meet_61 : decode cX3_meet 61 = .ok (.iconst 0, 1) := by decide +kernel
theorem dX3_meet_62 : decode cX3_meet 62 = .ok (.istore 5, 2) := by decide +kernel
theorem dX3_meet_64 : decode cX3_meet 64 = .ok (.iload 5, 2) := by decide +kernel
theorem dX3_meet_66 : decode cX3_meet 66 = .ok (.iload 4, 2) := by decide +kernel
theorem dX3_meet_68 : decode cX3_meet 68 = .ok (.if_icmp .gt 51, 3) := by decide +kernel
theorem dX3_meet_71 : decode cX3_meet 71 = .ok (.aload_n 0, 1) := by decide +kernel
theorem dX3_meet_72 : decode cX3_meet 72 = .ok (.getfield 16, 3) := by decide +kernel
theorem dX3_meet_75 : decode cX3_meet 75 = .ok (.getfield 152, 3) := by decide +kernel
theorem dX3_meet_78 : decode cX3_meet 78 = .ok (.iload_n 1, 1) := by decide +kernel
theorem dX3_meet_79 : decode cX3_meet 79 = .ok (.aaload, 1) := by decide +kernel
theorem dX3_meet_80 : decode cX3_meet 80 = .ok (.aload_n 0, 1) := by decide +kernel
theorem dX3_meet_81 : decode cX3_meet 81 = .ok (.getfield 16, 3) := by decide +kernel
theorem dX3_meet_84 : decode cX3_meet 84 = .ok (.getfield 152, 3) := by decide +kernel
theorem dX3_meet_87 : decode cX3_meet 87 = .ok (.iload_n 2, 1) := by decide +kernel
theorem dX3_meet_88 : decode cX3_meet 88 = .ok (.aaload, 1) := by decide +kernel
theorem dX3_meet_89 : decode cX3_meet 89 = .ok (.iload_n 3, 1) := by decide +kernel
theorem dX3_meet_90 : decode cX3_meet 90 = .ok (.invokevirtual 200, 3) := by decide +kernel
theorem dX3_meet_93 : decode cX3_meet 93 = .ok (.ifCond .eq 6, 3) := by decide +kernel
theorem dX3_meet_96 : decode cX3_meet 96 = .ok (.iload 5, 2) := by decide +kernel
theorem dX3_meet_98 : decode cX3_meet 98 = .ok (.ireturn, 1) := by decide +kernel
theorem dX3_meet_99 : decode cX3_meet 99 = .ok (.aload_n 0, 1) := by decide +kernel
theorem dX3_meet_100 : decode cX3_meet 100 = .ok (.getfield 16, 3) := by decide +kernel
theorem dX3_meet_103 : decode cX3_meet 103 = .ok (.invokevirtual 192, 3) := by decide +kernel
theorem dX3_meet_106 : decode cX3_meet 106 = .ok (.aload_n 0, 1) := by decide +kernel
theorem dX3_meet_107 : decode cX3_meet 107 = .ok (.getfield 16, 3) := by decide +kernel
theorem dX3_meet_110 : decode cX3_meet 110 = .ok (.invokevirtual 204, 3) := by decide +kernel
theorem dX3_meet_113 : decode cX3_meet 113 = .ok (.iinc 5 1, 3) := by decide +kernel
theorem dX3_meet_116 : decode cX3_meet 116 = .ok (.goto (-52), 3) := by decide +kernel
theorem dX3_meet_119 : decode cX3_meet 119 = .ok (.bipush (-6), 2) := by decide +kernel
theorem dX3_meet_121 : decode cX3_meet 121 = .ok (.ireturn, 1) := by decide +kernel
theorem dX3_leastEkman_0 : decode cX3_leastEkman 0 = .ok (.iload_n 1, 1) := by decide +kernel
theorem dX3_leastEkman_1 : decode cX3_leastEkman 1 = .ok (.invokestatic 117, 3) := by decide +kernel
theorem dX3_leastEkman_4 : decode cX3_leastEkman 4 = .ok (.ifCond .ne 5, 3) := by decide +kernel
theorem dX3_leastEkman_7 : decode cX3_leastEkman 7 = .ok (.iconst (-1), 1) := by decide +kernel
theorem dX3_leastEkman_8 : decode cX3_leastEkman 8 = .ok (.ireturn, 1) := by decide +kernel
theorem dX3_leastEkman_9 : decode cX3_leastEkman 9 = .ok (.iload_n 2, 1) := by decide +kernel
theorem dX3_leastEkman_10 : decode cX3_leastEkman 10 = .ok (.iconst 0, 1) := by decide +kernel
theorem dX3_leastEkman_11 : decode cX3_leastEkman 11 = .ok (.sipush 11000, 3) := by decide +kernel
theorem dX3_leastEkman_14 : decode cX3_leastEkman 14 = .ok (.invokestatic 34, 3) := by decide +kernel
theorem dX3_leastEkman_17 : decode cX3_leastEkman 17 = .ok (.ifCond .eq 13, 3) := by decide +kernel
theorem dX3_leastEkman_20 : decode cX3_leastEkman 20 = .ok (.iload_n 3, 1) := by decide +kernel
theorem dX3_leastEkman_21 : decode cX3_leastEkman 21 = .ok (.iconst 1, 1) := by decide +kernel
theorem dX3_leastEkman_22 : decode cX3_leastEkman 22 = .ok (.bipush 50, 2) := by decide +kernel
theorem dX3_leastEkman_24 : decode cX3_leastEkman 24 = .ok (.invokestatic 34, 3) := by decide +kernel
theorem dX3_leastEkman_27 : decode cX3_leastEkman 27 = .ok (.ifCond .ne 6, 3) := by decide +kernel
theorem dX3_leastEkman_30 : decode cX3_leastEkman 30 = .ok (.bipush (-2), 2) := by decide +kernel
theorem dX3_leastEkman_32 : decode cX3_leastEkman 32 = .ok (.ireturn, 1) := by decide +kernel
theorem dX3_leastEkman_33 : decode cX3_leastEkman 33 = .ok (.aload_n 0, 1) := by decide +kernel
theorem dX3_leastEkman_34 : decode cX3_leastEkman 34 = .ok (.getfield 10, 3) := by decide +kernel
theorem dX3_leastEkman_37 : decode cX3_leastEkman 37 = .ok (.getfield 86, 3) := by decide +kernel
theorem dX3_leastEkman_40 : decode cX3_leastEkman 40 = .ok (.iload_n 1, 1) := by decide +kernel
theorem dX3_leastEkman_41 : decode cX3_leastEkman 41 = .ok (.iaload, 1) := by decide +kernel
theorem dX3_leastEkman_42 : decode cX3_leastEkman 42 = .ok (.ifCond .ne 6, 3) := by decide +kernel
theorem dX3_leastEkman_45 : decode cX3_leastEkman 45 = .ok (.bipush (-5), 2) := by decide +kernel
theorem dX3_leastEkman_47 : decode cX3_leastEkman 47 = .ok (.ireturn, 1) := by decide +kernel
theorem dX3_leastEkman_48 : decode cX3_leastEkman 48 = .ok (.iconst 0, 1) := by decide +kernel
theorem dX3_leastEkman_49 : decode cX3_leastEkman 49 = .ok (.istore 4, 2) := by decide +kernel
theorem dX3_leastEkman_51 : decode cX3_leastEkman 51 = .ok (.iload 4, 2) := by decide +kernel
theorem dX3_leastEkman_53 : decode cX3_leastEkman 53 = .ok (.getstatic 50, 3) := by decide +kernel
theorem dX3_leastEkman_56 : decode cX3_leastEkman 56 = .ok (.iconst 5, 1) := by decide +kernel
theorem dX3_leastEkman_57 : decode cX3_leastEkman 57 = .ok (.iaload, 1) := by decide +kernel
theorem dX3_leastEkman_58 : decode cX3_leastEkman 58 = .ok (.if_icmp .gt 26, 3) := by decide +kernel
theorem dX3_leastEkman_61 : decode cX3_leastEkman 61 = .ok (.aload_n 0, 1) := by decide +kernel
theorem dX3_leastEkman_62 : decode cX3_leastEkman 62 = .ok (.iload 4, 2) := by decide +kernel
theorem dX3_leastEkman_64 : decode cX3_leastEkman 64 = .ok (.iload_n 1, 1) := by decide +kernel
theorem dX3_leastEkman_65 : decode cX3_leastEkman 65 = .ok (.iload_n 3, 1) := by decide +kernel
theorem dX3_leastEkman_66 : decode cX3_leastEkman 66 = .ok (.invokevirtual 207, 3) := by decide +kernel
theorem dX3_leastEkman_69 : decode cX3_leastEkman 69 = .ok (.iload_n 2, 1) := by decide +kernel
theorem dX3_leastEkman_70 : decode cX3_leastEkman 70 = .ok (.i2l, 1) := by decide +kernel
theorem dX3_leastEkman_71 : decode cX3_leastEkman 71 = .ok (.lcmp, 1) := by decide +kernel
theorem dX3_leastEkman_72 : decode cX3_leastEkman 72 = .ok (.ifCond .gt 6, 3) := by decide +kernel
theorem dX3_leastEkman_75 : decode cX3_leastEkman 75 = .ok (.iload 4, 2) := by decide +kernel
theorem dX3_leastEkman_77 : decode cX3_leastEkman 77 = .ok (.ireturn, 1) := by decide +kernel
theorem dX3_leastEkman_78 : decode cX3_leastEkman 78 = .ok (.iinc 4 1, 3) := by decide +kernel
theorem dX3_leastEkman_81 : decode cX3_leastEkman 81 = .ok (.goto (-30), 3) := by decide +kernel
theorem dX3_leastEkman_84 : decode cX3_leastEkman 84 = .ok (.bipush (-6), 2) := by decide +kernel
theorem dX3_leastEkman_86 : decode cX3_leastEkman 86 = .ok (.ireturn, 1) := by decide +kernel
theorem dX3_placeWith_0 : decode cX3_placeWith 0 = .ok (.aload_n 0, 1) := by decide +kernel
theorem dX3_placeWith_1 : decode cX3_placeWith 1 = .ok (.getfield 16, 3) := by decide +kernel
theorem dX3_placeWith_4 : decode cX3_placeWith 4 = .ok (.aload_n 0, 1) := by decide +kernel
theorem dX3_placeWith_5 : decode cX3_placeWith 5 = .ok (.getfield 10, 3) := by decide +kernel
theorem dX3_placeWith_8 : decode cX3_placeWith 8 = .ok (.invokevirtual 185, 3) := by decide +kernel
theorem dX3_placeWith_11 : decode cX3_placeWith 11 = .ok (.aload_n 0, 1) := by decide +kernel
theorem dX3_placeWith_12 : decode cX3_placeWith 12 = .ok (.getfield 16, 3) := by decide +kernel
theorem dX3_placeWith_15 : decode cX3_placeWith 15 = .ok (.getfield 54, 3) := by decide +kernel
theorem dX3_placeWith_18 : decode cX3_placeWith 18 = .ok (.iconst 5, 1) := by decide +kernel
theorem dX3_placeWith_19 : decode cX3_placeWith 19 = .ok (.iload_n 1, 1) := by decide +kernel
theorem dX3_placeWith_20 : decode cX3_placeWith 20 = .ok (.iastore, 1) := by decide +kernel
theorem dX3_placeWith_21 : decode cX3_placeWith 21 = .ok (.iconst 0, 1) := by decide +kernel
theorem dX3_placeWith_22 : decode cX3_placeWith 22 = .ok (.istore 4, 2) := by decide +kernel
theorem dX3_placeWith_24 : decode cX3_placeWith 24 = .ok (.iload 4, 2) := by decide +kernel
theorem dX3_placeWith_26 : decode cX3_placeWith 26 = .ok (.iload_n 3, 1) := by decide +kernel
theorem dX3_placeWith_27 : decode cX3_placeWith 27 = .ok (.if_icmp .ge 24, 3) := by decide +kernel
theorem dX3_placeWith_30 : decode cX3_placeWith 30 = .ok (.aload_n 0, 1) := by decide +kernel
theorem dX3_placeWith_31 : decode cX3_placeWith 31 = .ok (.getfield 16, 3) := by decide +kernel
theorem dX3_placeWith_34 : decode cX3_placeWith 34 = .ok (.invokevirtual 192, 3) := by decide +kernel
theorem dX3_placeWith_37 : decode cX3_placeWith 37 = .ok (.aload_n 0, 1) := by decide +kernel
theorem dX3_placeWith_38 : decode cX3_placeWith 38 = .ok (.getfield 16, 3) := by decide +kernel
theorem dX3_placeWith_41 : decode cX3_placeWith 41 = .ok (.iload_n 2, 1) := by decide +kernel
theorem dX3_placeWith_42 : decode cX3_placeWith 42 = .ok (.invokevirtual 197, 3) := by decide +kernel
theorem dX3_placeWith_45 : decode cX3_placeWith 45 = .ok (.iinc 4 1, 3) := by decide +kernel
theorem dX3_placeWith_48 : decode cX3_placeWith 48 = .ok (.goto (-24), 3) := by decide +kernel
theorem dX3_placeWith_51 : decode cX3_placeWith 51 = .ok (.aload_n 0, 1) := by decide +kernel
theorem dX3_placeWith_52 : decode cX3_placeWith 52 = .ok (.getfield 16, 3) := by decide +kernel
theorem dX3_placeWith_55 : decode cX3_placeWith 55 = .ok (.iload_n 2, 1) := by decide +kernel
theorem dX3_placeWith_56 : decode cX3_placeWith 56 = .ok (.invokevirtual 131, 3) := by decide +kernel
theorem dX3_placeWith_59 : decode cX3_placeWith 59 = .ok (.lreturn, 1) := by decide +kernel
theorem dX3_say_0 : decode cX3_say 0 = .ok (.iload_n 1, 1) := by decide +kernel
theorem dX3_say_1 : decode cX3_say 1 = .ok (.bipush 33, 2) := by decide +kernel
theorem dX3_say_3 : decode cX3_say 3 = .ok (.bipush 126, 2) := by decide +kernel
theorem dX3_say_5 : decode cX3_say 5 = .ok (.invokestatic 34, 3) := by decide +kernel
theorem dX3_say_8 : decode cX3_say 8 = .ok (.ifCond .ne 6, 3) := by decide +kernel
theorem dX3_say_11 : decode cX3_say 11 = .ok (.bipush (-2), 2) := by decide +kernel
theorem dX3_say_13 : decode cX3_say 13 = .ok (.ireturn, 1) := by decide +kernel
theorem dX3_say_14 : decode cX3_say 14 = .ok (.aload_n 0, 1) := by decide +kernel
theorem dX3_say_15 : decode cX3_say 15 = .ok (.getfield 30, 3) := by decide +kernel
theorem dX3_say_18 : decode cX3_say 18 = .ok (.getfield 146, 3) := by decide +kernel
theorem dX3_say_21 : decode cX3_say 21 = .ok (.bipush 60, 2) := by decide +kernel
theorem dX3_say_23 : decode cX3_say 23 = .ok (.if_icmp .lt 6, 3) := by decide +kernel
theorem dX3_say_26 : decode cX3_say 26 = .ok (.bipush (-4), 2) := by decide +kernel
theorem dX3_say_28 : decode cX3_say 28 = .ok (.ireturn, 1) := by decide +kernel
theorem dX3_say_29 : decode cX3_say 29 = .ok (.aload_n 0, 1) := by decide +kernel
theorem dX3_say_30 : decode cX3_say 30 = .ok (.getfield 30, 3) := by decide +kernel
theorem dX3_say_33 : decode cX3_say 33 = .ok (.iload_n 1, 1) := by decide +kernel
theorem dX3_say_34 : decode cX3_say 34 = .ok (.i2c, 1) := by decide +kernel
theorem dX3_say_35 : decode cX3_say 35 = .ok (.invokevirtual 211, 3) := by decide +kernel
theorem dX3_say_38 : decode cX3_say 38 = .ok (.aload_n 0, 1) := by decide +kernel
theorem dX3_say_39 : decode cX3_say 39 = .ok (.getfield 30, 3) := by decide +kernel
theorem dX3_say_42 : decode cX3_say 42 = .ok (.getfield 146, 3) := by decide +kernel
theorem dX3_say_45 : decode cX3_say 45 = .ok (.ireturn, 1) := by decide +kernel
theorem dX3_wipe_0 : decode cX3_wipe 0 = .ok (.aload_n 0, 1) := by decide +kernel
theorem dX3_wipe_1 : decode cX3_wipe 1 = .ok (.getfield 30, 3) := by decide +kernel
theorem dX3_wipe_4 : decode cX3_wipe 4 = .ok (.getfield 146, 3) := by decide +kernel
theorem dX3_wipe_7 : decode cX3_wipe 7 = .ok (.istore_n 1, 1) := by decide +kernel
theorem dX3_wipe_8 : decode cX3_wipe 8 = .ok (.aload_n 0, 1) := by decide +kernel
theorem dX3_wipe_9 : decode cX3_wipe 9 = .ok (.getfield 30, 3) := by decide +kernel
theorem dX3_wipe_12 : decode cX3_wipe 12 = .ok (.iconst 0, 1) := by decide +kernel
theorem dX3_wipe_13 : decode cX3_wipe 13 = .ok (.putfield 146, 3) := by decide +kernel
theorem dX3_wipe_16 : decode cX3_wipe 16 = .ok (.iload_n 1, 1) := by decide +kernel
theorem dX3_wipe_17 : decode cX3_wipe 17 = .ok (.ireturn, 1) := by decide +kernel
theorem dX3_fault_0 : decode cX3_fault 0 = .ok (.aload_n 0, 1) := by decide +kernel
theorem dX3_fault_1 : decode cX3_fault 1 = .ok (.getfield 30, 3) := by decide +kernel
theorem dX3_fault_4 : decode cX3_fault 4 = .ok (.invokevirtual 215, 3) := by decide +kernel
theorem dX3_fault_7 : decode cX3_fault 7 = .ok (.ireturn, 1) := by decide +kernel
theorem dX3_carryOut_0 : decode cX3_carryOut 0 = .ok (.aload_n 0, 1) := by decide +kernel
theorem dX3_carryOut_1 : decode cX3_carryOut 1 = .ok (.getfield 30, 3) := by decide +kernel
theorem dX3_carryOut_4 : decode cX3_carryOut 4 = .ok (.invokevirtual 215, 3) := by decide +kernel
theorem dX3_carryOut_7 : decode cX3_carryOut 7 = .ok (.bipush (-6), 2) := by decide +kernel
theorem dX3_carryOut_9 : decode cX3_carryOut 9 = .ok (.if_icmp .eq 6, 3) := by decide +kernel
theorem dX3_carryOut_12 : decode cX3_carryOut 12 = .ok (.bipush (-3), 2) := by decide +kernel
theorem dX3_carryOut_14 : decode cX3_carryOut 14 = .ok (.ireturn, 1) := by decide +kernel
theorem dX3_carryOut_15 : decode cX3_carryOut 15 = .ok (.iconst 0, 1) := by decide +kernel
theorem dX3_carryOut_16 : decode cX3_carryOut 16 = .ok (.istore_n 1, 1) := by decide +kernel
theorem dX3_carryOut_17 : decode cX3_carryOut 17 = .ok (.aload_n 0, 1) := by decide +kernel
theorem dX3_carryOut_18 : decode cX3_carryOut 18 = .ok (.getfield 30, 3) := by decide +kernel
theorem dX3_carryOut_21 : decode cX3_carryOut 21 = .ok (.iconst 0, 1) := by decide +kernel
theorem dX3_carryOut_22 : decode cX3_carryOut 22 = .ok (.putfield 218, 3) := by decide +kernel
theorem dX3_carryOut_25 : decode cX3_carryOut 25 = .ok (.iconst 0, 1) := by decide +kernel
theorem dX3_carryOut_26 : decode cX3_carryOut 26 = .ok (.istore_n 2, 1) := by decide +kernel
theorem dX3_carryOut_27 : decode cX3_carryOut 27 = .ok (.iload_n 2, 1) := by decide +kernel
theorem dX3_carryOut_28 : decode cX3_carryOut 28 = .ok (.bipush 60, 2) := by decide +kernel
theorem dX3_carryOut_30 : decode cX3_carryOut 30 = .ok (.if_icmp .ge 47, 3) := by decide +kernel
theorem dX3_carryOut_33 : decode cX3_carryOut 33 = .ok (.aload_n 0, 1) := by decide +kernel
theorem dX3_carryOut_34 : decode cX3_carryOut 34 = .ok (.getfield 30, 3) := by decide +kernel
theorem dX3_carryOut_37 : decode cX3_carryOut 37 = .ok (.invokevirtual 221, 3) := by decide +kernel
theorem dX3_carryOut_40 : decode cX3_carryOut 40 = .ok (.ifCond .eq 37, 3) := by decide +kernel
theorem dX3_carryOut_43 : decode cX3_carryOut 43 = .ok (.aload_n 0, 1) := by decide +kernel
theorem dX3_carryOut_44 : decode cX3_carryOut 44 = .ok (.invokevirtual 225, 3) := by decide +kernel
theorem dX3_carryOut_47 : decode cX3_carryOut 47 = .ok (.ifCond .ne 6, 3) := by decide +kernel
theorem dX3_carryOut_50 : decode cX3_carryOut 50 = .ok (.goto 27, 3) := by decide +kernel
theorem dX3_carryOut_53 : decode cX3_carryOut 53 = .ok (.iinc 1 1, 3) := by decide +kernel
theorem dX3_carryOut_56 : decode cX3_carryOut 56 = .ok (.aload_n 0, 1) := by decide +kernel
theorem dX3_carryOut_57 : decode cX3_carryOut 57 = .ok (.getfield 30, 3) := by decide +kernel
theorem dX3_carryOut_60 : decode cX3_carryOut 60 = .ok (.bipush 44, 2) := by decide +kernel
theorem dX3_carryOut_62 : decode cX3_carryOut 62 = .ok (.invokevirtual 228, 3) := by decide +kernel
theorem dX3_carryOut_65 : decode cX3_carryOut 65 = .ok (.ifCond .ne 6, 3) := by decide +kernel
theorem dX3_carryOut_68 : decode cX3_carryOut 68 = .ok (.goto 9, 3) := by decide +kernel
theorem dX3_carryOut_71 : decode cX3_carryOut 71 = .ok (.iinc 2 1, 3) := by decide +kernel
theorem dX3_carryOut_74 : decode cX3_carryOut 74 = .ok (.goto (-47), 3) := by decide +kernel
theorem dX3_carryOut_77 : decode cX3_carryOut 77 = .ok (.aload_n 0, 1) := by decide +kernel
theorem dX3_carryOut_78 : decode cX3_carryOut 78 = .ok (.getfield 30, 3) := by decide +kernel
theorem dX3_carryOut_81 : decode cX3_carryOut 81 = .ok (.iconst 0, 1) := by decide +kernel
theorem dX3_carryOut_82 : decode cX3_carryOut 82 = .ok (.putfield 146, 3) := by decide +kernel
theorem dX3_carryOut_85 : decode cX3_carryOut 85 = .ok (.iload_n 1, 1) := by decide +kernel
theorem dX3_carryOut_86 : decode cX3_carryOut 86 = .ok (.ireturn, 1) := by decide +kernel
theorem dX3_carriedOut_0 : decode cX3_carriedOut 0 = .ok (.aload_n 0, 1) := by decide +kernel
theorem dX3_carriedOut_1 : decode cX3_carriedOut 1 = .ok (.getfield 30, 3) := by decide +kernel
theorem dX3_carriedOut_4 : decode cX3_carriedOut 4 = .ok (.getfield 232, 3) := by decide +kernel
theorem dX3_carriedOut_7 : decode cX3_carriedOut 7 = .ok (.bipush 116, 2) := by decide +kernel
theorem dX3_carriedOut_9 : decode cX3_carriedOut 9 = .ok (.if_icmp .ne 23, 3) := by decide +kernel
theorem dX3_carriedOut_12 : decode cX3_carriedOut 12 = .ok (.aload_n 0, 1) := by decide +kernel
theorem dX3_carriedOut_13 : decode cX3_carriedOut 13 = .ok (.aload_n 0, 1) := by decide +kernel
theorem dX3_carriedOut_14 : decode cX3_carriedOut 14 = .ok (.getfield 30, 3) := by decide +kernel
theorem dX3_carriedOut_17 : decode cX3_carriedOut 17 = .ok (.getfield 236, 3) := by decide +kernel
theorem dX3_carriedOut_20 : decode cX3_carriedOut 20 = .ok (.invokevirtual 239, 3) := by decide +kernel
theorem dX3_carriedOut_23 : decode cX3_carriedOut 23 = .ok (.ifCond .lt 7, 3) := by decide +kernel
theorem dX3_carriedOut_26 : decode cX3_carriedOut 26 = .ok (.iconst 1, 1) := by decide +kernel
theorem dX3_carriedOut_27 : decode cX3_carriedOut 27 = .ok (.goto 4, 3) := by decide +kernel
theorem dX3_carriedOut_30 : decode cX3_carriedOut 30 = .ok (.iconst 0, 1) := by decide +kernel
theorem dX3_carriedOut_31 : decode cX3_carriedOut 31 = .ok (.ireturn, 1) := by decide +kernel
theorem dX3_carriedOut_32 : decode cX3_carriedOut 32 = .ok (.aload_n 0, 1) := by decide +kernel
theorem dX3_carriedOut_33 : decode cX3_carriedOut 33 = .ok (.getfield 30, 3) := by decide +kernel
theorem dX3_carriedOut_36 : decode cX3_carriedOut 36 = .ok (.getfield 232, 3) := by decide +kernel
theorem dX3_carriedOut_39 : decode cX3_carriedOut 39 = .ok (.bipush 118, 2) := by decide +kernel
theorem dX3_carriedOut_41 : decode cX3_carriedOut 41 = .ok (.if_icmp .ne 32, 3) := by decide +kernel
theorem dX3_carriedOut_44 : decode cX3_carriedOut 44 = .ok (.aload_n 0, 1) := by decide +kernel
theorem dX3_carriedOut_45 : decode cX3_carriedOut 45 = .ok (.aload_n 0, 1) := by decide +kernel
theorem dX3_carriedOut_46 : decode cX3_carriedOut 46 = .ok (.getfield 30, 3) := by decide +kernel
theorem dX3_carriedOut_49 : decode cX3_carriedOut 49 = .ok (.getfield 242, 3) := by decide +kernel
theorem dX3_carriedOut_52 : decode cX3_carriedOut 52 = .ok (.aload_n 0, 1) := by decide +kernel
theorem dX3_carriedOut_53 : decode cX3_carriedOut 53 = .ok (.getfield 30, 3) := by decide +kernel
theorem dX3_carriedOut_56 : decode cX3_carriedOut 56 = .ok (.getfield 236, 3) := by decide +kernel
theorem dX3_carriedOut_59 : decode cX3_carriedOut 59 = .ok (.invokevirtual 245, 3) := by decide +kernel
theorem dX3_carriedOut_62 : decode cX3_carriedOut 62 = .ok (.ldc 248, 2) := by decide +kernel
theorem dX3_carriedOut_64 : decode cX3_carriedOut 64 = .ok (.if_icmp .le 7, 3) := by decide +kernel
theorem dX3_carriedOut_67 : decode cX3_carriedOut 67 = .ok (.iconst 1, 1) := by decide +kernel
theorem dX3_carriedOut_68 : decode cX3_carriedOut 68 = .ok (.goto 4, 3) := by decide +kernel
theorem dX3_carriedOut_71 : decode cX3_carriedOut 71 = .ok (.iconst 0, 1) := by decide +kernel
theorem dX3_carriedOut_72 : decode cX3_carriedOut 72 = .ok (.ireturn, 1) := by decide +kernel
theorem dX3_carriedOut_73 : decode cX3_carriedOut 73 = .ok (.aload_n 0, 1) := by decide +kernel
theorem dX3_carriedOut_74 : decode cX3_carriedOut 74 = .ok (.aload_n 0, 1) := by decide +kernel
theorem dX3_carriedOut_75 : decode cX3_carriedOut 75 = .ok (.getfield 30, 3) := by decide +kernel
theorem dX3_carriedOut_78 : decode cX3_carriedOut 78 = .ok (.getfield 249, 3) := by decide +kernel
theorem dX3_carriedOut_81 : decode cX3_carriedOut 81 = .ok (.aload_n 0, 1) := by decide +kernel
theorem dX3_carriedOut_82 : decode cX3_carriedOut 82 = .ok (.getfield 30, 3) := by decide +kernel
theorem dX3_carriedOut_85 : decode cX3_carriedOut 85 = .ok (.getfield 252, 3) := by decide +kernel
theorem dX3_carriedOut_88 : decode cX3_carriedOut 88 = .ok (.aload_n 0, 1) := by decide +kernel
theorem dX3_carriedOut_89 : decode cX3_carriedOut 89 = .ok (.getfield 30, 3) := by decide +kernel
theorem dX3_carriedOut_92 : decode cX3_carriedOut 92 = .ok (.getfield 242, 3) := by decide +kernel
theorem dX3_carriedOut_95 : decode cX3_carriedOut 95 = .ok (.aload_n 0, 1) := by decide +kernel
theorem dX3_carriedOut_96 : decode cX3_carriedOut 96 = .ok (.getfield 30, 3) := by decide +kernel
theorem dX3_carriedOut_99 : decode cX3_carriedOut 99 = .ok (.getfield 255, 3) := by decide +kernel
theorem dX3_carriedOut_102 : decode cX3_carriedOut 102 = .ok (.aload_n 0, 1) := by decide +kernel
theorem dX3_carriedOut_103 : decode cX3_carriedOut 103 = .ok (.getfield 30, 3) := by decide +kernel
theorem dX3_carriedOut_106 : decode cX3_carriedOut 106 = .ok (.getfield 236, 3) := by decide +kernel
theorem dX3_carriedOut_109 : decode cX3_carriedOut 109 = .ok (.invokevirtual 258, 3) := by decide +kernel
theorem dX3_carriedOut_112 : decode cX3_carriedOut 112 = .ok (.ifCond .lt 7, 3) := by decide +kernel
theorem dX3_carriedOut_115 : decode cX3_carriedOut 115 = .ok (.iconst 1, 1) := by decide +kernel
theorem dX3_carriedOut_116 : decode cX3_carriedOut 116 = .ok (.goto 4, 3) := by decide +kernel
theorem dX3_carriedOut_119 : decode cX3_carriedOut 119 = .ok (.iconst 0, 1) := by decide +kernel
theorem dX3_carriedOut_120 : decode cX3_carriedOut 120 = .ok (.ireturn, 1) := by decide +kernel
theorem dX3_save_0 : decode cX3_save 0 = .ok (.iload_n 1, 1) := by decide +kernel
theorem dX3_save_1 : decode cX3_save 1 = .ok (.iconst 0, 1) := by decide +kernel
theorem dX3_save_2 : decode cX3_save 2 = .ok (.iconst 1, 1) := by decide +kernel
theorem dX3_save_3 : decode cX3_save 3 = .ok (.invokestatic 34, 3) := by decide +kernel
theorem dX3_save_6 : decode cX3_save 6 = .ok (.ifCond .ne 6, 3) := by decide +kernel
theorem dX3_save_9 : decode cX3_save 9 = .ok (.bipush (-2), 2) := by decide +kernel
theorem dX3_save_11 : decode cX3_save 11 = .ok (.ireturn, 1) := by decide +kernel
theorem dX3_save_12 : decode cX3_save 12 = .ok (.aload_n 0, 1) := by decide +kernel
theorem dX3_save_13 : decode cX3_save 13 = .ok (.getfield 19, 3) := by decide +kernel
theorem dX3_save_16 : decode cX3_save 16 = .ok (.iload_n 1, 1) := by decide +kernel
theorem dX3_save_17 : decode cX3_save 17 = .ok (.aaload, 1) := by decide +kernel
theorem dX3_save_18 : decode cX3_save 18 = .ok (.aload_n 0, 1) := by decide +kernel
theorem dX3_save_19 : decode cX3_save 19 = .ok (.getfield 10, 3) := by decide +kernel
theorem dX3_save_22 : decode cX3_save 22 = .ok (.invokevirtual 185, 3) := by decide +kernel
theorem dX3_save_25 : decode cX3_save 25 = .ok (.aload_n 0, 1) := by decide +kernel
theorem dX3_save_26 : decode cX3_save 26 = .ok (.getfield 23, 3) := by decide +kernel
theorem dX3_save_29 : decode cX3_save 29 = .ok (.iload_n 1, 1) := by decide +kernel
theorem dX3_save_30 : decode cX3_save 30 = .ok (.iconst 1, 1) := by decide +kernel
theorem dX3_save_31 : decode cX3_save 31 = .ok (.bastore, 1) := by decide +kernel
theorem dX3_save_32 : decode cX3_save 32 = .ok (.aload_n 0, 1) := by decide +kernel
theorem dX3_save_33 : decode cX3_save 33 = .ok (.getfield 10, 3) := by decide +kernel
theorem dX3_save_36 : decode cX3_save 36 = .ok (.getfield 98, 3) := by decide +kernel
theorem dX3_save_39 : decode cX3_save 39 = .ok (.ireturn, 1) := by decide +kernel
theorem dX3_restore_0 : decode cX3_restore 0 = .ok (.iload_n 1, 1) := by decide +kernel
theorem dX3_restore_1 : decode cX3_restore 1 = .ok (.iconst 0, 1) := by decide +kernel
theorem dX3_restore_2 : decode cX3_restore 2 = .ok (.iconst 1, 1) := by decide +kernel
theorem dX3_restore_3 : decode cX3_restore 3 = .ok (.invokestatic 34, 3) := by decide +kernel
theorem dX3_restore_6 : decode cX3_restore 6 = .ok (.ifCond .ne 6, 3) := by decide +kernel
theorem dX3_restore_9 : decode cX3_restore 9 = .ok (.bipush (-2), 2) := by decide +kernel
theorem dX3_restore_11 : decode cX3_restore 11 = .ok (.ireturn, 1) := by decide +kernel
theorem dX3_restore_12 : decode cX3_restore 12 = .ok (.aload_n 0, 1) := by decide +kernel
theorem dX3_restore_13 : decode cX3_restore 13 = .ok (.getfield 23, 3) := by decide +kernel
theorem dX3_restore_16 : decode cX3_restore 16 = .ok (.iload_n 1, 1) := by decide +kernel
theorem dX3_restore_17 : decode cX3_restore 17 = .ok (.baload, 1) := by decide +kernel
theorem dX3_restore_18 : decode cX3_restore 18 = .ok (.ifCond .ne 6, 3) := by decide +kernel
theorem dX3_restore_21 : decode cX3_restore 21 = .ok (.bipush (-5), 2) := by decide +kernel
theorem dX3_restore_23 : decode cX3_restore 23 = .ok (.ireturn, 1) := by decide +kernel
theorem dX3_restore_24 : decode cX3_restore 24 = .ok (.aload_n 0, 1) := by decide +kernel
theorem dX3_restore_25 : decode cX3_restore 25 = .ok (.getfield 10, 3) := by decide +kernel
theorem dX3_restore_28 : decode cX3_restore 28 = .ok (.aload_n 0, 1) := by decide +kernel
theorem dX3_restore_29 : decode cX3_restore 29 = .ok (.getfield 19, 3) := by decide +kernel
theorem dX3_restore_32 : decode cX3_restore 32 = .ok (.iload_n 1, 1) := by decide +kernel
theorem dX3_restore_33 : decode cX3_restore 33 = .ok (.aaload, 1) := by decide +kernel
theorem dX3_restore_34 : decode cX3_restore 34 = .ok (.invokevirtual 185, 3) := by decide +kernel
theorem dX3_restore_37 : decode cX3_restore 37 = .ok (.aload_n 0, 1) := by decide +kernel
theorem dX3_restore_38 : decode cX3_restore 38 = .ok (.getfield 10, 3) := by decide +kernel
theorem dX3_restore_41 : decode cX3_restore 41 = .ok (.getfield 98, 3) := by decide +kernel
theorem dX3_restore_44 : decode cX3_restore 44 = .ok (.ireturn, 1) := by decide +kernel
theorem dX3_isPlaceOfDye_0 : decode cX3_isPlaceOfDye 0 = .ok (.iload_n 1, 1) := by decide +kernel
theorem dX3_isPlaceOfDye_1 : decode cX3_isPlaceOfDye 1 = .ok (.invokestatic 117, 3) := by decide +kernel
theorem dX3_isPlaceOfDye_4 : decode cX3_isPlaceOfDye 4 = .ok (.ifCond .eq 38, 3) := by decide +kernel
theorem dX3_isPlaceOfDye_7 : decode cX3_isPlaceOfDye 7 = .ok (.iload_n 2, 1) := by decide +kernel
theorem dX3_isPlaceOfDye_8 : decode cX3_isPlaceOfDye 8 = .ok (.iconst 0, 1) := by decide +kernel
theorem dX3_isPlaceOfDye_9 : decode cX3_isPlaceOfDye 9 = .ok (.iconst 1, 1) := by decide +kernel
theorem dX3_isPlaceOfDye_10 : decode cX3_isPlaceOfDye 10 = .ok (.invokestatic 34, 3) := by decide +kernel
theorem dX3_isPlaceOfDye_13 : decode cX3_isPlaceOfDye 13 = .ok (.ifCond .eq 29, 3) := by decide +kernel
theorem dX3_isPlaceOfDye_16 : decode cX3_isPlaceOfDye 16 = .ok (.aload_n 0, 1) := by decide +kernel
theorem dX3_isPlaceOfDye_17 : decode cX3_isPlaceOfDye 17 = .ok (.getfield 10, 3) := by decide +kernel
theorem dX3_isPlaceOfDye_20 : decode cX3_isPlaceOfDye 20 = .ok (.iload_n 3, 1) := by decide +kernel
theorem dX3_isPlaceOfDye_21 : decode cX3_isPlaceOfDye 21 = .ok (.invokevirtual 57, 3) := by decide +kernel
theorem dX3_isPlaceOfDye_24 : decode cX3_isPlaceOfDye 24 = .ok (.ifCond .eq 18, 3) := by decide +kernel
theorem dX3_isPlaceOfDye_27 : decode cX3_isPlaceOfDye 27 = .ok (.iload 4, 2) := by decide +kernel
theorem dX3_isPlaceOfDye_29 : decode cX3_isPlaceOfDye 29 = .ok (.iconst 0, 1) := by decide +kernel
theorem dX3_isPlaceOfDye_30 : decode cX3_isPlaceOfDye 30 = .ok (.bipush 23, 2) := by decide +kernel
theorem dX3_isPlaceOfDye_32 : decode cX3_isPlaceOfDye 32 = .ok (.invokestatic 34, 3) := by decide +kernel
theorem dX3_isPlaceOfDye_35 : decode cX3_isPlaceOfDye 35 = .ok (.ifCond .eq 7, 3) := by decide +kernel
theorem dX3_isPlaceOfDye_38 : decode cX3_isPlaceOfDye 38 = .ok (.iconst 1, 1) := by decide +kernel
theorem dX3_isPlaceOfDye_39 : decode cX3_isPlaceOfDye 39 = .ok (.goto 4, 3) := by decide +kernel
theorem dX3_isPlaceOfDye_42 : decode cX3_isPlaceOfDye 42 = .ok (.iconst 0, 1) := by decide +kernel
theorem dX3_isPlaceOfDye_43 : decode cX3_isPlaceOfDye 43 = .ok (.ireturn, 1) := by decide +kernel
theorem dX3_isColour_0 : decode cX3_isColour 0 = .ok (.iload_n 0, 1) := by decide +kernel
theorem dX3_isColour_1 : decode cX3_isColour 1 = .ok (.iconst 0, 1) := by decide +kernel
theorem dX3_isColour_2 : decode cX3_isColour 2 = .ok (.iconst 2, 1) := by decide +kernel
theorem dX3_isColour_3 : decode cX3_isColour 3 = .ok (.invokestatic 34, 3) := by decide +kernel
theorem dX3_isColour_6 : decode cX3_isColour 6 = .ok (.ireturn, 1) := by decide +kernel
theorem dX3_isSpeed_0 : decode cX3_isSpeed 0 = .ok (.iload_n 0, 1) := by decide +kernel
theorem dX3_isSpeed_1 : decode cX3_isSpeed 1 = .ok (.sipush (-1500), 3) := by decide +kernel
theorem dX3_isSpeed_4 : decode cX3_isSpeed 4 = .ok (.sipush 1500, 3) := by decide +kernel
theorem dX3_isSpeed_7 : decode cX3_isSpeed 7 = .ok (.invokestatic 34, 3) := by decide +kernel
theorem dX3_isSpeed_10 : decode cX3_isSpeed 10 = .ok (.ireturn, 1) := by decide +kernel
theorem dX3_within_0 : decode cX3_within 0 = .ok (.iload_n 0, 1) := by decide +kernel
theorem dX3_within_1 : decode cX3_within 1 = .ok (.iload_n 1, 1) := by decide +kernel
theorem dX3_within_2 : decode cX3_within 2 = .ok (.if_icmp .lt 12, 3) := by decide +kernel
theorem dX3_within_5 : decode cX3_within 5 = .ok (.iload_n 0, 1) := by decide +kernel
theorem dX3_within_6 : decode cX3_within 6 = .ok (.iload_n 2, 1) := by decide +kernel
theorem dX3_within_7 : decode cX3_within 7 = .ok (.if_icmp .gt 7, 3) := by decide +kernel
theorem dX3_within_10 : decode cX3_within 10 = .ok (.iconst 1, 1) := by decide +kernel
theorem dX3_within_11 : decode cX3_within 11 = .ok (.goto 4, 3) := by decide +kernel
theorem dX3_within_14 : decode cX3_within 14 = .ok (.iconst 0, 1) := by decide +kernel
theorem dX3_within_15 : decode cX3_within 15 = .ok (.ireturn, 1) := by decide +kernel
theorem dJ9_floorDiv_7cf53_0 : decode cJ9_floorDiv_7cf53 0 = .ok (.iload_n 0, 1) := by decide +kernel
theorem dJ9_floorDiv_7cf53_1 : decode cJ9_floorDiv_7cf53 1 = .ok (.iload_n 1, 1) := by decide +kernel
theorem dJ9_floorDiv_7cf53_2 : decode cJ9_floorDiv_7cf53 2 = .ok (.idiv, 1) := by decide +kernel
theorem dJ9_floorDiv_7cf53_3 : decode cJ9_floorDiv_7cf53 3 = .ok (.istore_n 2, 1) := by decide +kernel
theorem dJ9_floorDiv_7cf53_4 : decode cJ9_floorDiv_7cf53 4 = .ok (.iload_n 0, 1) := by decide +kernel
theorem dJ9_floorDiv_7cf53_5 : decode cJ9_floorDiv_7cf53 5 = .ok (.iload_n 1, 1) := by decide +kernel
theorem dJ9_floorDiv_7cf53_6 : decode cJ9_floorDiv_7cf53 6 = .ok (.ixor, 1) := by decide +kernel
theorem dJ9_floorDiv_7cf53_7 : decode cJ9_floorDiv_7cf53 7 = .ok (.ifCond .ge 14, 3) := by decide +kernel
theorem dJ9_floorDiv_7cf53_10 : decode cJ9_floorDiv_7cf53 10 = .ok (.iload_n 2, 1) := by decide +kernel
theorem dJ9_floorDiv_7cf53_11 : decode cJ9_floorDiv_7cf53 11 = .ok (.iload_n 1, 1) := by decide +kernel
theorem dJ9_floorDiv_7cf53_12 : decode cJ9_floorDiv_7cf53 12 = .ok (.imul, 1) := by decide +kernel
theorem dJ9_floorDiv_7cf53_13 : decode cJ9_floorDiv_7cf53 13 = .ok (.iload_n 0, 1) := by decide +kernel
theorem dJ9_floorDiv_7cf53_14 : decode cJ9_floorDiv_7cf53 14 = .ok (.if_icmp .eq 7, 3) := by decide +kernel
theorem dJ9_floorDiv_7cf53_17 : decode cJ9_floorDiv_7cf53 17 = .ok (.iload_n 2, 1) := by decide +kernel
theorem dJ9_floorDiv_7cf53_18 : decode cJ9_floorDiv_7cf53 18 = .ok (.iconst 1, 1) := by decide +kernel
theorem dJ9_floorDiv_7cf53_19 : decode cJ9_floorDiv_7cf53 19 = .ok (.isub, 1) := by decide +kernel
theorem dJ9_floorDiv_7cf53_20 : decode cJ9_floorDiv_7cf53 20 = .ok (.ireturn, 1) := by decide +kernel
theorem dJ9_floorDiv_7cf53_21 : decode cJ9_floorDiv_7cf53 21 = .ok (.iload_n 2, 1) := by decide +kernel
theorem dJ9_floorDiv_7cf53_22 : decode cJ9_floorDiv_7cf53 22 = .ok (.ireturn, 1) := by decide +kernel
theorem dJ9_floorMod_7cf53_0 : decode cJ9_floorMod_7cf53 0 = .ok (.iload_n 0, 1) := by decide +kernel
theorem dJ9_floorMod_7cf53_1 : decode cJ9_floorMod_7cf53 1 = .ok (.iload_n 1, 1) := by decide +kernel
theorem dJ9_floorMod_7cf53_2 : decode cJ9_floorMod_7cf53 2 = .ok (.irem, 1) := by decide +kernel
theorem dJ9_floorMod_7cf53_3 : decode cJ9_floorMod_7cf53 3 = .ok (.istore_n 2, 1) := by decide +kernel
theorem dJ9_floorMod_7cf53_4 : decode cJ9_floorMod_7cf53 4 = .ok (.iload_n 0, 1) := by decide +kernel
theorem dJ9_floorMod_7cf53_5 : decode cJ9_floorMod_7cf53 5 = .ok (.iload_n 1, 1) := by decide +kernel
theorem dJ9_floorMod_7cf53_6 : decode cJ9_floorMod_7cf53 6 = .ok (.ixor, 1) := by decide +kernel
theorem dJ9_floorMod_7cf53_7 : decode cJ9_floorMod_7cf53 7 = .ok (.ifCond .ge 11, 3) := by decide +kernel
theorem dJ9_floorMod_7cf53_10 : decode cJ9_floorMod_7cf53 10 = .ok (.iload_n 2, 1) := by decide +kernel
theorem dJ9_floorMod_7cf53_11 : decode cJ9_floorMod_7cf53 11 = .ok (.ifCond .eq 7, 3) := by decide +kernel
theorem dJ9_floorMod_7cf53_14 : decode cJ9_floorMod_7cf53 14 = .ok (.iload_n 2, 1) := by decide +kernel
theorem dJ9_floorMod_7cf53_15 : decode cJ9_floorMod_7cf53 15 = .ok (.iload_n 1, 1) := by decide +kernel
theorem dJ9_floorMod_7cf53_16 : decode cJ9_floorMod_7cf53 16 = .ok (.iadd, 1) := by decide +kernel
theorem dJ9_floorMod_7cf53_17 : decode cJ9_floorMod_7cf53 17 = .ok (.ireturn, 1) := by decide +kernel
theorem dJ9_floorMod_7cf53_18 : decode cJ9_floorMod_7cf53 18 = .ok (.iload_n 2, 1) := by decide +kernel
theorem dJ9_floorMod_7cf53_19 : decode cJ9_floorMod_7cf53 19 = .ok (.ireturn, 1) := by decide +kernel
theorem dJ9_abs_0f7a4_0 : decode cJ9_abs_0f7a4 0 = .ok (.iload_n 0, 1) := by decide +kernel
theorem dJ9_abs_0f7a4_1 : decode cJ9_abs_0f7a4 1 = .ok (.ifCond .ge 8, 3) := by decide +kernel
theorem dJ9_abs_0f7a4_4 : decode cJ9_abs_0f7a4 4 = .ok (.iload_n 0, 1) := by decide +kernel
theorem dJ9_abs_0f7a4_5 : decode cJ9_abs_0f7a4 5 = .ok (.ineg, 1) := by decide +kernel
theorem dJ9_abs_0f7a4_6 : decode cJ9_abs_0f7a4 6 = .ok (.goto 4, 3) := by decide +kernel
theorem dJ9_abs_0f7a4_9 : decode cJ9_abs_0f7a4 9 = .ok (.iload_n 0, 1) := by decide +kernel
theorem dJ9_abs_0f7a4_10 : decode cJ9_abs_0f7a4 10 = .ok (.ireturn, 1) := by decide +kernel
theorem dJ9_abs_067f4_0 : decode cJ9_abs_067f4 0 = .ok (.lload_n 0, 1) := by decide +kernel
theorem dJ9_abs_067f4_1 : decode cJ9_abs_067f4 1 = .ok (.lconst 0, 1) := by decide +kernel
theorem dJ9_abs_067f4_2 : decode cJ9_abs_067f4 2 = .ok (.lcmp, 1) := by decide +kernel
theorem dJ9_abs_067f4_3 : decode cJ9_abs_067f4 3 = .ok (.ifCond .ge 8, 3) := by decide +kernel
theorem dJ9_abs_067f4_6 : decode cJ9_abs_067f4 6 = .ok (.lload_n 0, 1) := by decide +kernel
theorem dJ9_abs_067f4_7 : decode cJ9_abs_067f4 7 = .ok (.lneg, 1) := by decide +kernel
theorem dJ9_abs_067f4_8 : decode cJ9_abs_067f4 8 = .ok (.goto 4, 3) := by decide +kernel
theorem dJ9_abs_067f4_11 : decode cJ9_abs_067f4 11 = .ok (.lload_n 0, 1) := by decide +kernel
theorem dJ9_abs_067f4_12 : decode cJ9_abs_067f4 12 = .ok (.lreturn, 1) := by decide +kernel
theorem dJ9_max_7cf53_0 : decode cJ9_max_7cf53 0 = .ok (.iload_n 0, 1) := by decide +kernel
theorem dJ9_max_7cf53_1 : decode cJ9_max_7cf53 1 = .ok (.iload_n 1, 1) := by decide +kernel
theorem dJ9_max_7cf53_2 : decode cJ9_max_7cf53 2 = .ok (.if_icmp .lt 7, 3) := by decide +kernel
theorem dJ9_max_7cf53_5 : decode cJ9_max_7cf53 5 = .ok (.iload_n 0, 1) := by decide +kernel
theorem dJ9_max_7cf53_6 : decode cJ9_max_7cf53 6 = .ok (.goto 4, 3) := by decide +kernel
theorem dJ9_max_7cf53_9 : decode cJ9_max_7cf53 9 = .ok (.iload_n 1, 1) := by decide +kernel
theorem dJ9_max_7cf53_10 : decode cJ9_max_7cf53 10 = .ok (.ireturn, 1) := by decide +kernel
theorem dJ9_min_7cf53_0 : decode cJ9_min_7cf53 0 = .ok (.iload_n 0, 1) := by decide +kernel
theorem dJ9_min_7cf53_1 : decode cJ9_min_7cf53 1 = .ok (.iload_n 1, 1) := by decide +kernel
theorem dJ9_min_7cf53_2 : decode cJ9_min_7cf53 2 = .ok (.if_icmp .gt 7, 3) := by decide +kernel
theorem dJ9_min_7cf53_5 : decode cJ9_min_7cf53 5 = .ok (.iload_n 0, 1) := by decide +kernel
theorem dJ9_min_7cf53_6 : decode cJ9_min_7cf53 6 = .ok (.goto 4, 3) := by decide +kernel
theorem dJ9_min_7cf53_9 : decode cJ9_min_7cf53 9 = .ok (.iload_n 1, 1) := by decide +kernel
theorem dJ9_min_7cf53_10 : decode cJ9_min_7cf53 10 = .ok (.ireturn, 1) := by decide +kernel
theorem dJ7_fill_53178_0 : decode cJ7_fill_53178 0 = .ok (.iconst 0, 1) := by decide +kernel
theorem dJ7_fill_53178_1 : decode cJ7_fill_53178 1 = .ok (.istore_n 2, 1) := by decide +kernel
theorem dJ7_fill_53178_2 : decode cJ7_fill_53178 2 = .ok (.aload_n 0, 1) := by decide +kernel
theorem dJ7_fill_53178_3 : decode cJ7_fill_53178 3 = .ok (.arraylength, 1) := by decide +kernel
theorem dJ7_fill_53178_4 : decode cJ7_fill_53178 4 = .ok (.istore_n 3, 1) := by decide +kernel
theorem dJ7_fill_53178_5 : decode cJ7_fill_53178 5 = .ok (.iload_n 2, 1) := by decide +kernel
theorem dJ7_fill_53178_6 : decode cJ7_fill_53178 6 = .ok (.iload_n 3, 1) := by decide +kernel
theorem dJ7_fill_53178_7 : decode cJ7_fill_53178 7 = .ok (.if_icmp .ge 13, 3) := by decide +kernel
theorem dJ7_fill_53178_10 : decode cJ7_fill_53178 10 = .ok (.aload_n 0, 1) := by decide +kernel
theorem dJ7_fill_53178_11 : decode cJ7_fill_53178 11 = .ok (.iload_n 2, 1) := by decide +kernel
theorem dJ7_fill_53178_12 : decode cJ7_fill_53178 12 = .ok (.iload_n 1, 1) := by decide +kernel
theorem dJ7_fill_53178_13 : decode cJ7_fill_53178 13 = .ok (.iastore, 1) := by decide +kernel
theorem dJ7_fill_53178_14 : decode cJ7_fill_53178 14 = .ok (.iinc 2 1, 3) := by decide +kernel
theorem dJ7_fill_53178_17 : decode cJ7_fill_53178 17 = .ok (.goto (-12), 3) := by decide +kernel
theorem dJ7_fill_53178_20 : decode cJ7_fill_53178 20 = .ok (.return_, 1) := by decide +kernel
theorem dL_cell_0 : decode cL_cell 0 = .ok (.iload_n 1, 1) := by decide +kernel
theorem dL_cell_1 : decode cL_cell 1 = .ok (.aload_n 0, 1) := by decide +kernel
theorem dL_cell_2 : decode cL_cell 2 = .ok (.arraylength, 1) := by decide +kernel
theorem dL_cell_3 : decode cL_cell 3 = .ok (.if_icmp .ge 9, 3) := by decide +kernel
theorem dL_cell_6 : decode cL_cell 6 = .ok (.aload_n 0, 1) := by decide +kernel
theorem dL_cell_7 : decode cL_cell 7 = .ok (.iload_n 1, 1) := by decide +kernel
theorem dL_cell_8 : decode cL_cell 8 = .ok (.iaload, 1) := by decide +kernel
theorem dL_cell_9 : decode cL_cell 9 = .ok (.goto 11, 3) := by decide +kernel
theorem dL_cell_12 : decode cL_cell 12 = .ok (.ldc 7, 2) := by decide +kernel
theorem dL_cell_14 : decode cL_cell 14 = .ok (.iload_n 1, 1) := by decide +kernel
theorem dL_cell_15 : decode cL_cell 15 = .ok (.sipush 1499, 3) := by decide +kernel
theorem dL_cell_18 : decode cL_cell 18 = .ok (.iadd, 1) := by decide +kernel
theorem dL_cell_19 : decode cL_cell 19 = .ok (.imul, 1) := by decide +kernel
theorem dL_cell_20 : decode cL_cell 20 = .ok (.ireturn, 1) := by decide +kernel
theorem dL_up_0 : decode cL_up 0 = .ok (.iload_n 0, 1) := by decide +kernel
theorem dL_up_1 : decode cL_up 1 = .ok (.ldc 8, 2) := by decide +kernel
theorem dL_up_3 : decode cL_up 3 = .ok (.iand, 1) := by decide +kernel
theorem dL_up_4 : decode cL_up 4 = .ok (.iload_n 1, 1) := by decide +kernel
theorem dL_up_5 : decode cL_up 5 = .ok (.irem, 1) := by decide +kernel
theorem dL_up_6 : decode cL_up 6 = .ok (.ireturn, 1) := by decide +kernel
theorem dL_law_0 : decode cL_law 0 = .ok (.new 9, 3) := by decide +kernel
theorem dL_law_3 : decode cL_law 3 = .ok (.dup, 1) := by decide +kernel
theorem dL_law_4 : decode cL_law 4 = .ok (.invokespecial 11, 3) := by decide +kernel
theorem dL_law_7 : decode cL_law 7 = .ok (.astore_n 1, 1) := by decide +kernel
theorem dL_law_8 : decode cL_law 8 = .ok (.iconst 0, 1) := by decide +kernel
theorem dL_law_9 : decode cL_law 9 = .ok (.istore_n 2, 1) := by decide +kernel
theorem dL_law_10 : decode cL_law 10 = .ok (.aload_n 1, 1) := by decide +kernel
theorem dL_law_11 : decode cL_law 11 = .ok (.aload_n 0, 1) := by decide +kernel
theorem dL_law_12 : decode cL_law 12 = .ok (.iload_n 2, 1) := by decide +kernel
theorem dL_law_13 : decode cL_law 13 = .ok (.iinc 2 1, 3) := by decide +kernel
theorem dL_law_16 : decode cL_law 16 = .ok (.invokestatic 12, 3) := by decide +kernel
theorem dL_law_19 : decode cL_law 19 = .ok (.invokestatic 18, 3) := by decide +kernel
theorem dL_law_22 : decode cL_law 22 = .ok (.ifCond .ne 5, 3) := by decide +kernel
theorem dL_law_25 : decode cL_law 25 = .ok (.iconst 0, 1) := by decide +kernel
theorem dL_law_26 : decode cL_law 26 = .ok (.ireturn, 1) := by decide +kernel
theorem dL_law_27 : decode cL_law 27 = .ok (.aload_n 0, 1) := by decide +kernel
theorem dL_law_28 : decode cL_law 28 = .ok (.iload_n 2, 1) := by decide +kernel
theorem dL_law_29 : decode cL_law 29 = .ok (.iinc 2 1, 3) := by decide +kernel
theorem dL_law_32 : decode cL_law 32 = .ok (.invokestatic 12, 3) := by decide +kernel
theorem dL_law_35 : decode cL_law 35 = .ok (.istore_n 3, 1) := by decide +kernel
theorem dL_law_36 : decode cL_law 36 = .ok (.iconst 2, 1) := by decide +kernel
theorem dL_law_37 : decode cL_law 37 = .ok (.iload_n 3, 1) := by decide +kernel
theorem dL_law_38 : decode cL_law 38 = .ok (.bipush 11, 2) := by decide +kernel
theorem dL_law_40 : decode cL_law 40 = .ok (.invokestatic 22, 3) := by decide +kernel
theorem dL_law_43 : decode cL_law 43 = .ok (.iadd, 1) := by decide +kernel
theorem dL_law_44 : decode cL_law 44 = .ok (.istore 4, 2) := by decide +kernel
theorem dL_law_46 : decode cL_law 46 = .ok (.aload_n 1, 1) := by decide +kernel
theorem dL_law_47 : decode cL_law 47 = .ok (.iload 4, 2) := by decide +kernel
theorem dL_law_49 : decode cL_law 49 = .ok (.invokevirtual 26, 3) := by decide +kernel
theorem dL_law_52 : decode cL_law 52 = .ok (.bipush 6, 2) := by decide +kernel
theorem dL_law_54 : decode cL_law 54 = .ok (.if_icmp .eq 5, 3) := by decide +kernel
theorem dL_law_57 : decode cL_law 57 = .ok (.iconst 0, 1) := by decide +kernel
theorem dL_law_58 : decode cL_law 58 = .ok (.ireturn, 1) := by decide +kernel
theorem dL_law_59 : decode cL_law 59 = .ok (.iconst 3, 1) := by decide +kernel
theorem dL_law_60 : decode cL_law 60 = .ok (.newarray .int, 2) := by decide +kernel
theorem dL_law_62 : decode cL_law 62 = .ok (.astore 5, 2) := by decide +kernel
theorem dL_law_64 : decode cL_law 64 = .ok (.iconst 0, 1) := by decide +kernel
theorem dL_law_65 : decode cL_law 65 = .ok (.istore 6, 2) := by decide +kernel
theorem dL_law_67 : decode cL_law 67 = .ok (.iload 6, 2) := by decide +kernel
theorem dL_law_69 : decode cL_law 69 = .ok (.bipush 20, 2) := by decide +kernel
theorem dL_law_71 : decode cL_law 71 = .ok (.if_icmp .ge 63, 3) := by decide +kernel
theorem dL_law_74 : decode cL_law 74 = .ok (.aload_n 0, 1) := by decide +kernel
theorem dL_law_75 : decode cL_law 75 = .ok (.iload_n 2, 1) := by decide +kernel
theorem dL_law_76 : decode cL_law 76 = .ok (.iinc 2 1, 3) := by decide +kernel
theorem dL_law_79 : decode cL_law 79 = .ok (.invokestatic 12, 3) := by decide +kernel
theorem dL_law_82 : decode cL_law 82 = .ok (.istore_n 3, 1) := by decide +kernel
theorem dL_law_83 : decode cL_law 83 = .ok (.aload_n 1, 1) := by decide +kernel
theorem dL_law_84 : decode cL_law 84 = .ok (.aload 5, 2) := by decide +kernel
theorem dL_law_86 : decode cL_law 86 = .ok (.iload_n 3, 1) := by decide +kernel
theorem dL_law_87 : decode cL_law 87 = .ok (.aload_n 0, 1) := by decide +kernel
theorem dL_law_88 : decode cL_law 88 = .ok (.iload_n 2, 1) := by decide +kernel
theorem dL_law_89 : decode cL_law 89 = .ok (.iinc 2 1, 3) := by decide +kernel
theorem dL_law_92 : decode cL_law 92 = .ok (.invokestatic 12, 3) := by decide +kernel
theorem dL_law_95 : decode cL_law 95 = .ok (.aload_n 0, 1) := by decide +kernel
theorem dL_law_96 : decode cL_law 96 = .ok (.iload_n 2, 1) := by decide +kernel
theorem dL_law_97 : decode cL_law 97 = .ok (.iinc 2 1, 3) := by decide +kernel
theorem dL_law_100 : decode cL_law 100 = .ok (.invokestatic 12, 3) := by decide +kernel
theorem dL_law_103 : decode cL_law 103 = .ok (.invokestatic 30, 3) := by decide +kernel
theorem dL_law_106 : decode cL_law 106 = .ok (.ifCond .eq 20, 3) := by decide +kernel
theorem dL_law_109 : decode cL_law 109 = .ok (.iload 6, 2) := by decide +kernel
theorem dL_law_111 : decode cL_law 111 = .ok (.iconst 4, 1) := by decide +kernel
theorem dL_law_112 : decode cL_law 112 = .ok (.irem, 1) := by decide +kernel
theorem dL_law_113 : decode cL_law 113 = .ok (.iconst 3, 1) := by decide +kernel
theorem dL_law_114 : decode cL_law 114 = .ok (.if_icmp .ne 14, 3) := by decide +kernel
theorem dL_law_117 : decode cL_law 117 = .ok (.aload_n 1, 1) := by decide +kernel
theorem dL_law_118 : decode cL_law 118 = .ok (.aload 5, 2) := by decide +kernel
theorem dL_law_120 : decode cL_law 120 = .ok (.invokestatic 34, 3) := by decide +kernel
theorem dL_law_123 : decode cL_law 123 = .ok (.ifCond .ne 5, 3) := by decide +kernel
theorem dL_law_126 : decode cL_law 126 = .ok (.iconst 0, 1) := by decide +kernel
theorem dL_law_127 : decode cL_law 127 = .ok (.ireturn, 1) := by decide +kernel
theorem dL_law_128 : decode cL_law 128 = .ok (.iinc 6 1, 3) := by decide +kernel
theorem dL_law_131 : decode cL_law 131 = .ok (.goto (-64), 3) := by decide +kernel
theorem dL_law_134 : decode cL_law 134 = .ok (.aload_n 0, 1) := by decide +kernel
theorem dL_law_135 : decode cL_law 135 = .ok (.iload_n 2, 1) := by decide +kernel
theorem dL_law_136 : decode cL_law 136 = .ok (.iinc 2 1, 3) := by decide +kernel
theorem dL_law_139 : decode cL_law 139 = .ok (.invokestatic 12, 3) := by decide +kernel
theorem dL_law_142 : decode cL_law 142 = .ok (.istore_n 3, 1) := by decide +kernel
theorem dL_law_143 : decode cL_law 143 = .ok (.aload_n 1, 1) := by decide +kernel
theorem dL_law_144 : decode cL_law 144 = .ok (.iload_n 3, 1) := by decide +kernel
theorem dL_law_145 : decode cL_law 145 = .ok (.invokestatic 38, 3) := by decide +kernel
theorem dL_law_148 : decode cL_law 148 = .ok (.ifCond .eq 96, 3) := by decide +kernel
theorem dL_law_151 : decode cL_law 151 = .ok (.aload_n 1, 1) := by decide +kernel
theorem dL_law_152 : decode cL_law 152 = .ok (.iload_n 3, 1) := by decide +kernel
theorem dL_law_153 : decode cL_law 153 = .ok (.invokestatic 41, 3) := by decide +kernel
theorem dL_law_156 : decode cL_law 156 = .ok (.ifCond .eq 88, 3) := by decide +kernel
theorem dL_law_159 : decode cL_law 159 = .ok (.aload_n 1, 1) := by decide +kernel
theorem dL_law_160 : decode cL_law 160 = .ok (.aload 5, 2) := by decide +kernel
theorem dL_law_162 : decode cL_law 162 = .ok (.aload_n 0, 1) := by decide +kernel
theorem dL_law_163 : decode cL_law 163 = .ok (.iload_n 2, 1) := by decide +kernel
theorem dL_law_164 : decode cL_law 164 = .ok (.iinc 2 1, 3) := by decide +kernel
theorem dL_law_167 : decode cL_law 167 = .ok (.invokestatic 12, 3) := by decide +kernel
theorem dL_law_170 : decode cL_law 170 = .ok (.invokestatic 44, 3) := by decide +kernel
theorem dL_law_173 : decode cL_law 173 = .ok (.ifCond .eq 71, 3) := by decide +kernel
theorem dL_law_176 : decode cL_law 176 = .ok (.aload_n 1, 1) := by decide +kernel
theorem dL_law_177 : decode cL_law 177 = .ok (.aload_n 0, 1) := by decide +kernel
theorem dL_law_178 : decode cL_law 178 = .ok (.iload_n 2, 1) := by decide +kernel
theorem dL_law_179 : decode cL_law 179 = .ok (.iinc 2 1, 3) := by decide +kernel
theorem dL_law_182 : decode cL_law 182 = .ok (.invokestatic 12, 3) := by decide +kernel
theorem dL_law_185 : decode cL_law 185 = .ok (.invokestatic 48, 3) := by decide +kernel
theorem dL_law_188 : decode cL_law 188 = .ok (.ifCond .eq 56, 3) := by decide +kernel
theorem dL_law_191 : decode cL_law 191 = .ok (.aload_n 1, 1) := by decide +kernel
theorem dL_law_192 : decode cL_law 192 = .ok (.aload 5, 2) := by decide +kernel
theorem dL_law_194 : decode cL_law 194 = .ok (.aload_n 0, 1) := by decide +kernel
theorem dL_law_195 : decode cL_law 195 = .ok (.iload_n 2, 1) := by decide +kernel
theorem dL_law_196 : decode cL_law 196 = .ok (.iinc 2 1, 3) := by decide +kernel
theorem dL_law_199 : decode cL_law 199 = .ok (.invokestatic 12, 3) := by decide +kernel
theorem dL_law_202 : decode cL_law 202 = .ok (.invokestatic 51, 3) := by decide +kernel
theorem dL_law_205 : decode cL_law 205 = .ok (.ifCond .eq 39, 3) := by decide +kernel
theorem dL_law_208 : decode cL_law 208 = .ok (.aload_n 1, 1) := by decide +kernel
theorem dL_law_209 : decode cL_law 209 = .ok (.aload_n 0, 1) := by decide +kernel
theorem dL_law_210 : decode cL_law 210 = .ok (.iload_n 2, 1) := by decide +kernel
theorem dL_law_211 : decode cL_law 211 = .ok (.iinc 2 1, 3) := by decide +kernel
theorem dL_law_214 : decode cL_law 214 = .ok (.invokestatic 12, 3) := by decide +kernel
theorem dL_law_217 : decode cL_law 217 = .ok (.invokestatic 54, 3) := by decide +kernel
theorem dL_law_220 : decode cL_law 220 = .ok (.ifCond .eq 24, 3) := by decide +kernel
theorem dL_law_223 : decode cL_law 223 = .ok (.aload_n 1, 1) := by decide +kernel
theorem dL_law_224 : decode cL_law 224 = .ok (.aload 5, 2) := by decide +kernel
theorem dL_law_226 : decode cL_law 226 = .ok (.aload_n 0, 1) := by decide +kernel
theorem dL_law_227 : decode cL_law 227 = .ok (.iload_n 2, 1) := by decide +kernel
theorem dL_law_228 : decode cL_law 228 = .ok (.iinc 2 1, 3) := by decide +kernel
theorem dL_law_231 : decode cL_law 231 = .ok (.invokestatic 12, 3) := by decide +kernel
theorem dL_law_234 : decode cL_law 234 = .ok (.invokestatic 57, 3) := by decide +kernel
theorem dL_law_237 : decode cL_law 237 = .ok (.ifCond .eq 7, 3) := by decide +kernel
theorem dL_law_240 : decode cL_law 240 = .ok (.iconst 1, 1) := by decide +kernel
theorem dL_law_241 : decode cL_law 241 = .ok (.goto 4, 3) := by decide +kernel
theorem dL_law_244 : decode cL_law 244 = .ok (.iconst 0, 1) := by decide +kernel
theorem dL_law_245 : decode cL_law 245 = .ok (.ireturn, 1) := by decide +kernel
theorem dL_act_0 : decode cL_act 0 = .ok (.aload_n 0, 1) := by decide +kernel
theorem dL_act_1 : decode cL_act 1 = .ok (.iconst 1, 1) := by decide +kernel
theorem dL_act_2 : decode cL_act 2 = .ok (.invokevirtual 60, 3) := by decide +kernel
theorem dL_act_5 : decode cL_act 5 = .ok (.istore 5, 2) := by decide +kernel
theorem dL_act_7 : decode cL_act 7 = .ok (.iload_n 3, 1) := by decide +kernel
theorem dL_act_8 : decode cL_act 8 = .ok (.iload 5, 2) := by decide +kernel
theorem dL_act_10 : decode cL_act 10 = .ok (.invokestatic 22, 3) := by decide +kernel
theorem dL_act_13 : decode cL_act 13 = .ok (.istore 6, 2) := by decide +kernel
theorem dL_act_15 : decode cL_act 15 = .ok (.iload_n 2, 1) := by decide +kernel
theorem dL_act_16 : decode cL_act 16 = .ok (.bipush 9, 2) := by decide +kernel
theorem dL_act_18 : decode cL_act 18 = .ok (.invokestatic 22, 3) := by decide +kernel
theorem dL_act_21 : decode cL_act 21 = .ok (.tableswitch 445 0 7 #[47, 47, 47, 64, 64, 175, 278, 343], 47) := by decide +kernel
theorem dL_act_68 : decode cL_act 68 = .ok (.iconst 1, 1) := by decide +kernel
theorem dL_act_69 : decode cL_act 69 = .ok (.iload_n 3, 1) := by decide +kernel
theorem dL_act_70 : decode cL_act 70 = .ok (.bipush 9, 2) := by decide +kernel
theorem dL_act_72 : decode cL_act 72 = .ok (.invokestatic 22, 3) := by decide +kernel
theorem dL_act_75 : decode cL_act 75 = .ok (.iadd, 1) := by decide +kernel
theorem dL_act_76 : decode cL_act 76 = .ok (.istore 7, 2) := by decide +kernel
theorem dL_act_78 : decode cL_act 78 = .ok (.aload_n 0, 1) := by decide +kernel
theorem dL_act_79 : decode cL_act 79 = .ok (.iload 7, 2) := by decide +kernel
theorem dL_act_81 : decode cL_act 81 = .ok (.invokestatic 63, 3) := by decide +kernel
theorem dL_act_84 : decode cL_act 84 = .ok (.ireturn, 1) := by decide +kernel
theorem dL_act_85 : decode cL_act 85 = .ok (.iload_n 3, 1) := by decide +kernel
theorem dL_act_86 : decode cL_act 86 = .ok (.iconst 4, 1) := by decide +kernel
theorem dL_act_87 : decode cL_act 87 = .ok (.ishr, 1) := by decide +kernel
theorem dL_act_88 : decode cL_act 88 = .ok (.iconst 3, 1) := by decide +kernel
theorem dL_act_89 : decode cL_act 89 = .ok (.invokestatic 22, 3) := by decide +kernel
theorem dL_act_92 : decode cL_act 92 = .ok (.istore 7, 2) := by decide +kernel
theorem dL_act_94 : decode cL_act 94 = .ok (.iload_n 3, 1) := by decide +kernel
theorem dL_act_95 : decode cL_act 95 = .ok (.bipush 6, 2) := by decide +kernel
theorem dL_act_97 : decode cL_act 97 = .ok (.ishr, 1) := by decide +kernel
theorem dL_act_98 : decode cL_act 98 = .ok (.iconst 2, 1) := by decide +kernel
theorem dL_act_99 : decode cL_act 99 = .ok (.invokestatic 22, 3) := by decide +kernel
theorem dL_act_102 : decode cL_act 102 = .ok (.istore 8, 2) := by decide +kernel
theorem dL_act_104 : decode cL_act 104 = .ok (.iload_n 3, 1) := by decide +kernel
theorem dL_act_105 : decode cL_act 105 = .ok (.bipush 7, 2) := by decide +kernel
theorem dL_act_107 : decode cL_act 107 = .ok (.ishr, 1) := by decide +kernel
theorem dL_act_108 : decode cL_act 108 = .ok (.bipush 24, 2) := by decide +kernel
theorem dL_act_110 : decode cL_act 110 = .ok (.invokestatic 22, 3) := by decide +kernel
theorem dL_act_113 : decode cL_act 113 = .ok (.istore 9, 2) := by decide +kernel
theorem dL_act_115 : decode cL_act 115 = .ok (.iconst 1, 1) := by decide +kernel
theorem dL_act_116 : decode cL_act 116 = .ok (.iload 4, 2) := by decide +kernel
theorem dL_act_118 : decode cL_act 118 = .ok (.ldc 66, 2) := by decide +kernel
theorem dL_act_120 : decode cL_act 120 = .ok (.invokestatic 22, 3) := by decide +kernel
theorem dL_act_123 : decode cL_act 123 = .ok (.iadd, 1) := by decide +kernel
theorem dL_act_124 : decode cL_act 124 = .ok (.istore 10, 2) := by decide +kernel
theorem dL_act_126 : decode cL_act 126 = .ok (.aload_n 0, 1) := by decide +kernel
theorem dL_act_127 : decode cL_act 127 = .ok (.iload 7, 2) := by decide +kernel
theorem dL_act_129 : decode cL_act 129 = .ok (.iload 8, 2) := by decide +kernel
theorem dL_act_131 : decode cL_act 131 = .ok (.iload 6, 2) := by decide +kernel
theorem dL_act_133 : decode cL_act 133 = .ok (.iload 9, 2) := by decide +kernel
theorem dL_act_135 : decode cL_act 135 = .ok (.invokevirtual 67, 3) := by decide +kernel
theorem dL_act_138 : decode cL_act 138 = .ok (.istore 11, 2) := by decide +kernel
theorem dL_act_140 : decode cL_act 140 = .ok (.aload_n 1, 1) := by decide +kernel
theorem dL_act_141 : decode cL_act 141 = .ok (.iload 7, 2) := by decide +kernel
theorem dL_act_143 : decode cL_act 143 = .ok (.dup2, 1) := by decide +kernel
theorem dL_act_144 : decode cL_act 144 = .ok (.iaload, 1) := by decide +kernel
theorem dL_act_145 : decode cL_act 145 = .ok (.iload 10, 2) := by decide +kernel
theorem dL_act_147 : decode cL_act 147 = .ok (.iadd, 1) := by decide +kernel
theorem dL_act_148 : decode cL_act 148 = .ok (.iastore, 1) := by decide +kernel
theorem dL_act_149 : decode cL_act 149 = .ok (.aload_n 0, 1) := by decide +kernel
theorem dL_act_150 : decode cL_act 150 = .ok (.iload 7, 2) := by decide +kernel
theorem dL_act_152 : decode cL_act 152 = .ok (.iload 8, 2) := by decide +kernel
theorem dL_act_154 : decode cL_act 154 = .ok (.iload 6, 2) := by decide +kernel
theorem dL_act_156 : decode cL_act 156 = .ok (.iload 9, 2) := by decide +kernel
theorem dL_act_158 : decode cL_act 158 = .ok (.iload 10, 2) := by decide +kernel
theorem dL_act_160 : decode cL_act 160 = .ok (.invokevirtual 71, 3) := by decide +kernel
theorem dL_act_163 : decode cL_act 163 = .ok (.aload_n 1, 1) := by decide +kernel
theorem dL_act_164 : decode cL_act 164 = .ok (.iload 7, 2) := by decide +kernel
theorem dL_act_166 : decode cL_act 166 = .ok (.iaload, 1) := by decide +kernel
theorem dL_act_167 : decode cL_act 167 = .ok (.if_icmp .ne 27, 3) := by decide +kernel
theorem dL_act_170 : decode cL_act 170 = .ok (.aload_n 0, 1) := by decide +kernel
theorem dL_act_171 : decode cL_act 171 = .ok (.iload 7, 2) := by decide +kernel
theorem dL_act_173 : decode cL_act 173 = .ok (.iload 8, 2) := by decide +kernel
theorem dL_act_175 : decode cL_act 175 = .ok (.iload 6, 2) := by decide +kernel
theorem dL_act_177 : decode cL_act 177 = .ok (.iload 9, 2) := by decide +kernel
theorem dL_act_179 : decode cL_act 179 = .ok (.invokevirtual 67, 3) := by decide +kernel
theorem dL_act_182 : decode cL_act 182 = .ok (.iload 11, 2) := by decide +kernel
theorem dL_act_184 : decode cL_act 184 = .ok (.iload 10, 2) := by decide +kernel
theorem dL_act_186 : decode cL_act 186 = .ok (.iadd, 1) := by decide +kernel
theorem dL_act_187 : decode cL_act 187 = .ok (.if_icmp .ne 7, 3) := by decide +kernel
theorem dL_act_190 : decode cL_act 190 = .ok (.iconst 1, 1) := by decide +kernel
theorem dL_act_191 : decode cL_act 191 = .ok (.goto 4, 3) := by decide +kernel
theorem dL_act_194 : decode cL_act 194 = .ok (.iconst 0, 1) := by decide +kernel
theorem dL_act_195 : decode cL_act 195 = .ok (.ireturn, 1) := by decide +kernel
theorem dL_act_196 : decode cL_act 196 = .ok (.aload_n 0, 1) := by decide +kernel
theorem dL_act_197 : decode cL_act 197 = .ok (.iconst 3, 1) := by decide +kernel
theorem dL_act_198 : decode cL_act 198 = .ok (.invokevirtual 60, 3) := by decide +kernel
theorem dL_act_201 : decode cL_act 201 = .ok (.aload_n 0, 1) := by decide +kernel
theorem dL_act_202 : decode cL_act 202 = .ok (.iload 6, 2) := by decide +kernel
theorem dL_act_204 : decode cL_act 204 = .ok (.iconst 1, 1) := by decide +kernel
theorem dL_act_205 : decode cL_act 205 = .ok (.invokevirtual 75, 3) := by decide +kernel
theorem dL_act_208 : decode cL_act 208 = .ok (.isub, 1) := by decide +kernel
theorem dL_act_209 : decode cL_act 209 = .ok (.istore 7, 2) := by decide +kernel
theorem dL_act_211 : decode cL_act 211 = .ok (.aload_n 0, 1) := by decide +kernel
theorem dL_act_212 : decode cL_act 212 = .ok (.iload 6, 2) := by decide +kernel
theorem dL_act_214 : decode cL_act 214 = .ok (.iload 4, 2) := by decide +kernel
theorem dL_act_216 : decode cL_act 216 = .ok (.sipush 1501, 3) := by decide +kernel
theorem dL_act_219 : decode cL_act 219 = .ok (.irem, 1) := by decide +kernel
theorem dL_act_220 : decode cL_act 220 = .ok (.invokevirtual 78, 3) := by decide +kernel
theorem dL_act_223 : decode cL_act 223 = .ok (.ldc 81, 2) := by decide +kernel
theorem dL_act_225 : decode cL_act 225 = .ok (.if_icmp .ne 7, 3) := by decide +kernel
theorem dL_act_228 : decode cL_act 228 = .ok (.iconst 1, 1) := by decide +kernel
theorem dL_act_229 : decode cL_act 229 = .ok (.goto 4, 3) := by decide +kernel
theorem dL_act_232 : decode cL_act 232 = .ok (.iconst 0, 1) := by decide +kernel
theorem dL_act_233 : decode cL_act 233 = .ok (.ifCond .ne 64, 3) := by decide +kernel
theorem dL_act_236 : decode cL_act 236 = .ok (.aload_n 0, 1) := by decide +kernel
theorem dL_act_237 : decode cL_act 237 = .ok (.iload 6, 2) := by decide +kernel
theorem dL_act_239 : decode cL_act 239 = .ok (.iconst 0, 1) := by decide +kernel
theorem dL_act_240 : decode cL_act 240 = .ok (.invokevirtual 75, 3) := by decide +kernel
theorem dL_act_243 : decode cL_act 243 = .ok (.iload 4, 2) := by decide +kernel
theorem dL_act_245 : decode cL_act 245 = .ok (.sipush 1501, 3) := by decide +kernel
theorem dL_act_248 : decode cL_act 248 = .ok (.irem, 1) := by decide +kernel
theorem dL_act_249 : decode cL_act 249 = .ok (.if_icmp .ne 48, 3) := by decide +kernel
theorem dL_act_252 : decode cL_act 252 = .ok (.aload_n 0, 1) := by decide +kernel
theorem dL_act_253 : decode cL_act 253 = .ok (.iload 6, 2) := by decide +kernel
theorem dL_act_255 : decode cL_act 255 = .ok (.iconst 1, 1) := by decide +kernel
theorem dL_act_256 : decode cL_act 256 = .ok (.invokevirtual 75, 3) := by decide +kernel
theorem dL_act_259 : decode cL_act 259 = .ok (.iload 4, 2) := by decide +kernel
theorem dL_act_261 : decode cL_act 261 = .ok (.sipush 1501, 3) := by decide +kernel
theorem dL_act_264 : decode cL_act 264 = .ok (.irem, 1) := by decide +kernel
theorem dL_act_265 : decode cL_act 265 = .ok (.iconst 2, 1) := by decide +kernel
theorem dL_act_266 : decode cL_act 266 = .ok (.iload 6, 2) := by decide +kernel
theorem dL_act_268 : decode cL_act 268 = .ok (.imul, 1) := by decide +kernel
theorem dL_act_269 : decode cL_act 269 = .ok (.iconst 1, 1) := by decide +kernel
theorem dL_act_270 : decode cL_act 270 = .ok (.iadd, 1) := by decide +kernel
theorem dL_act_271 : decode cL_act 271 = .ok (.imul, 1) := by decide +kernel
theorem dL_act_272 : decode cL_act 272 = .ok (.if_icmp .ne 25, 3) := by decide +kernel
theorem dL_act_275 : decode cL_act 275 = .ok (.aload_n 0, 1) := by decide +kernel
theorem dL_act_276 : decode cL_act 276 = .ok (.iconst 3, 1) := by decide +kernel
theorem dL_act_277 : decode cL_act 277 = .ok (.invokevirtual 60, 3) := by decide +kernel
theorem dL_act_280 : decode cL_act 280 = .ok (.iload 7, 2) := by decide +kernel
theorem dL_act_282 : decode cL_act 282 = .ok (.aload_n 0, 1) := by decide +kernel
theorem dL_act_283 : decode cL_act 283 = .ok (.iload 6, 2) := by decide +kernel
theorem dL_act_285 : decode cL_act 285 = .ok (.iconst 1, 1) := by decide +kernel
theorem dL_act_286 : decode cL_act 286 = .ok (.invokevirtual 75, 3) := by decide +kernel
theorem dL_act_289 : decode cL_act 289 = .ok (.iadd, 1) := by decide +kernel
theorem dL_act_290 : decode cL_act 290 = .ok (.if_icmp .ne 7, 3) := by decide +kernel
theorem dL_act_293 : decode cL_act 293 = .ok (.iconst 1, 1) := by decide +kernel
theorem dL_act_294 : decode cL_act 294 = .ok (.goto 4, 3) := by decide +kernel
theorem dL_act_297 : decode cL_act 297 = .ok (.iconst 0, 1) := by decide +kernel
theorem dL_act_298 : decode cL_act 298 = .ok (.ireturn, 1) := by decide +kernel
theorem dL_act_299 : decode cL_act 299 = .ok (.aload_n 0, 1) := by decide +kernel
theorem dL_act_300 : decode cL_act 300 = .ok (.iload_n 3, 1) := by decide +kernel
theorem dL_act_301 : decode cL_act 301 = .ok (.sipush 700, 3) := by decide +kernel
theorem dL_act_304 : decode cL_act 304 = .ok (.irem, 1) := by decide +kernel
theorem dL_act_305 : decode cL_act 305 = .ok (.iload 4, 2) := by decide +kernel
theorem dL_act_307 : decode cL_act 307 = .ok (.sipush 700, 3) := by decide +kernel
theorem dL_act_310 : decode cL_act 310 = .ok (.irem, 1) := by decide +kernel
theorem dL_act_311 : decode cL_act 311 = .ok (.invokevirtual 82, 3) := by decide +kernel
theorem dL_act_314 : decode cL_act 314 = .ok (.istore 7, 2) := by decide +kernel
theorem dL_act_316 : decode cL_act 316 = .ok (.iload 7, 2) := by decide +kernel
theorem dL_act_318 : decode cL_act 318 = .ok (.aload_n 0, 1) := by decide +kernel
theorem dL_act_319 : decode cL_act 319 = .ok (.iconst 3, 1) := by decide +kernel
theorem dL_act_320 : decode cL_act 320 = .ok (.invokevirtual 60, 3) := by decide +kernel
theorem dL_act_323 : decode cL_act 323 = .ok (.if_icmp .ne 39, 3) := by decide +kernel
theorem dL_act_326 : decode cL_act 326 = .ok (.aload_n 0, 1) := by decide +kernel
theorem dL_act_327 : decode cL_act 327 = .ok (.iconst 0, 1) := by decide +kernel
theorem dL_act_328 : decode cL_act 328 = .ok (.iconst 0, 1) := by decide +kernel
theorem dL_act_329 : decode cL_act 329 = .ok (.invokevirtual 75, 3) := by decide +kernel
theorem dL_act_332 : decode cL_act 332 = .ok (.iload_n 3, 1) := by decide +kernel
theorem dL_act_333 : decode cL_act 333 = .ok (.sipush 700, 3) := by decide +kernel
theorem dL_act_336 : decode cL_act 336 = .ok (.irem, 1) := by decide +kernel
theorem dL_act_337 : decode cL_act 337 = .ok (.if_icmp .ne 25, 3) := by decide +kernel
theorem dL_act_340 : decode cL_act 340 = .ok (.aload_n 0, 1) := by decide +kernel
theorem dL_act_341 : decode cL_act 341 = .ok (.iload 5, 2) := by decide +kernel
theorem dL_act_343 : decode cL_act 343 = .ok (.iconst 1, 1) := by decide +kernel
theorem dL_act_344 : decode cL_act 344 = .ok (.isub, 1) := by decide +kernel
theorem dL_act_345 : decode cL_act 345 = .ok (.iconst 0, 1) := by decide +kernel
theorem dL_act_346 : decode cL_act 346 = .ok (.invokevirtual 75, 3) := by decide +kernel
theorem dL_act_349 : decode cL_act 349 = .ok (.iload 4, 2) := by decide +kernel
theorem dL_act_351 : decode cL_act 351 = .ok (.sipush 700, 3) := by decide +kernel
theorem dL_act_354 : decode cL_act 354 = .ok (.irem, 1) := by decide +kernel
theorem dL_act_355 : decode cL_act 355 = .ok (.if_icmp .ne 7, 3) := by decide +kernel
theorem dL_act_358 : decode cL_act 358 = .ok (.iconst 1, 1) := by decide +kernel
theorem dL_act_359 : decode cL_act 359 = .ok (.goto 4, 3) := by decide +kernel
theorem dL_act_362 : decode cL_act 362 = .ok (.iconst 0, 1) := by decide +kernel
theorem dL_act_363 : decode cL_act 363 = .ok (.ireturn, 1) := by decide +kernel
theorem dL_act_364 : decode cL_act 364 = .ok (.iload_n 3, 1) := by decide +kernel
theorem dL_act_365 : decode cL_act 365 = .ok (.bipush 7, 2) := by decide +kernel
theorem dL_act_367 : decode cL_act 367 = .ok (.invokestatic 22, 3) := by decide +kernel
theorem dL_act_370 : decode cL_act 370 = .ok (.istore 7, 2) := by decide +kernel
theorem dL_act_372 : decode cL_act 372 = .ok (.iload 7, 2) := by decide +kernel
theorem dL_act_374 : decode cL_act 374 = .ok (.iconst 2, 1) := by decide +kernel
theorem dL_act_375 : decode cL_act 375 = .ok (.if_icmp .eq 9, 3) := by decide +kernel
theorem dL_act_378 : decode cL_act 378 = .ok (.iload 7, 2) := by decide +kernel
theorem dL_act_380 : decode cL_act 380 = .ok (.iconst 4, 1) := by decide +kernel
theorem dL_act_381 : decode cL_act 381 = .ok (.if_icmp .ne 12, 3) := by decide +kernel
theorem dL_act_384 : decode cL_act 384 = .ok (.iload 4, 2) := by decide +kernel
theorem dL_act_386 : decode cL_act 386 = .ok (.sipush 700, 3) := by decide +kernel
theorem dL_act_389 : decode cL_act 389 = .ok (.irem, 1) := by decide +kernel
theorem dL_act_390 : decode cL_act 390 = .ok (.goto 45, 3) := by decide +kernel
theorem dL_act_393 : decode cL_act 393 = .ok (.iload 7, 2) := by decide +kernel
theorem dL_act_395 : decode cL_act 395 = .ok (.iconst 5, 1) := by decide +kernel
theorem dL_act_396 : decode cL_act 396 = .ok (.if_icmp .ne 14, 3) := by decide +kernel
theorem dL_act_399 : decode cL_act 399 = .ok (.iload 4, 2) := by decide +kernel
theorem dL_act_401 : decode cL_act 401 = .ok (.sipush 201, 3) := by decide +kernel
theorem dL_act_404 : decode cL_act 404 = .ok (.invokestatic 22, 3) := by decide +kernel
theorem dL_act_407 : decode cL_act 407 = .ok (.goto 28, 3) := by decide +kernel
theorem dL_act_410 : decode cL_act 410 = .ok (.iload 7, 2) := by decide +kernel
theorem dL_act_412 : decode cL_act 412 = .ok (.bipush 6, 2) := by decide +kernel
theorem dL_act_414 : decode cL_act 414 = .ok (.if_icmp .ne 14, 3) := by decide +kernel
theorem dL_act_417 : decode cL_act 417 = .ok (.iload 4, 2) := by decide +kernel
theorem dL_act_419 : decode cL_act 419 = .ok (.sipush 501, 3) := by decide +kernel
theorem dL_act_422 : decode cL_act 422 = .ok (.invokestatic 22, 3) := by decide +kernel
theorem dL_act_425 : decode cL_act 425 = .ok (.goto 10, 3) := by decide +kernel
theorem dL_act_428 : decode cL_act 428 = .ok (.iload 4, 2) := by decide +kernel
theorem dL_act_430 : decode cL_act 430 = .ok (.bipush 101, 2) := by decide +kernel
theorem dL_act_432 : decode cL_act 432 = .ok (.invokestatic 22, 3) := by decide +kernel
theorem dL_act_435 : decode cL_act 435 = .ok (.istore 8, 2) := by decide +kernel
theorem dL_act_437 : decode cL_act 437 = .ok (.aload_n 0, 1) := by decide +kernel
theorem dL_act_438 : decode cL_act 438 = .ok (.iload 7, 2) := by decide +kernel
theorem dL_act_440 : decode cL_act 440 = .ok (.iload 8, 2) := by decide +kernel
theorem dL_act_442 : decode cL_act 442 = .ok (.invokevirtual 85, 3) := by decide +kernel
theorem dL_act_445 : decode cL_act 445 = .ok (.pop, 1) := by decide +kernel
theorem dL_act_446 : decode cL_act 446 = .ok (.aload_n 0, 1) := by decide +kernel
theorem dL_act_447 : decode cL_act 447 = .ok (.bipush 6, 2) := by decide +kernel
theorem dL_act_449 : decode cL_act 449 = .ok (.iload 7, 2) := by decide +kernel
theorem dL_act_451 : decode cL_act 451 = .ok (.iadd, 1) := by decide +kernel
theorem dL_act_452 : decode cL_act 452 = .ok (.invokevirtual 60, 3) := by decide +kernel
theorem dL_act_455 : decode cL_act 455 = .ok (.iload 8, 2) := by decide +kernel
theorem dL_act_457 : decode cL_act 457 = .ok (.if_icmp .ne 7, 3) := by decide +kernel
theorem dL_act_460 : decode cL_act 460 = .ok (.iconst 1, 1) := by decide +kernel
theorem dL_act_461 : decode cL_act 461 = .ok (.goto 4, 3) := by decide +kernel
theorem dL_act_464 : decode cL_act 464 = .ok (.iconst 0, 1) := by decide +kernel
theorem dL_act_465 : decode cL_act 465 = .ok (.ireturn, 1) := by decide +kernel
theorem dL_act_466 : decode cL_act 466 = .ok (.aload_n 0, 1) := by decide +kernel
theorem dL_act_467 : decode cL_act 467 = .ok (.iconst 2, 1) := by decide +kernel
theorem dL_act_468 : decode cL_act 468 = .ok (.invokevirtual 60, 3) := by decide +kernel
theorem dL_act_471 : decode cL_act 471 = .ok (.istore 7, 2) := by decide +kernel
theorem dL_act_473 : decode cL_act 473 = .ok (.iload_n 3, 1) := by decide +kernel
theorem dL_act_474 : decode cL_act 474 = .ok (.sipush 1000, 3) := by decide +kernel
theorem dL_act_477 : decode cL_act 477 = .ok (.iload 5, 2) := by decide +kernel
theorem dL_act_479 : decode cL_act 479 = .ok (.imul, 1) := by decide +kernel
theorem dL_act_480 : decode cL_act 480 = .ok (.invokestatic 22, 3) := by decide +kernel
theorem dL_act_483 : decode cL_act 483 = .ok (.istore 8, 2) := by decide +kernel
theorem dL_act_485 : decode cL_act 485 = .ok (.aload_n 0, 1) := by decide +kernel
theorem dL_act_486 : decode cL_act 486 = .ok (.iload 8, 2) := by decide +kernel
theorem dL_act_488 : decode cL_act 488 = .ok (.iload 4, 2) := by decide +kernel
theorem dL_act_490 : decode cL_act 490 = .ok (.sipush 3600, 3) := by decide +kernel
theorem dL_act_493 : decode cL_act 493 = .ok (.invokestatic 22, 3) := by decide +kernel
theorem dL_act_496 : decode cL_act 496 = .ok (.invokevirtual 88, 3) := by decide +kernel
theorem dL_act_499 : decode cL_act 499 = .ok (.istore 9, 2) := by decide +kernel
theorem dL_act_501 : decode cL_act 501 = .ok (.iload 7, 2) := by decide +kernel
theorem dL_act_503 : decode cL_act 503 = .ok (.bipush 6, 2) := by decide +kernel
theorem dL_act_505 : decode cL_act 505 = .ok (.if_icmp .ne 18, 3) := by decide +kernel
theorem dL_act_508 : decode cL_act 508 = .ok (.iload 9, 2) := by decide +kernel
theorem dL_act_510 : decode cL_act 510 = .ok (.bipush (-4), 2) := by decide +kernel
theorem dL_act_512 : decode cL_act 512 = .ok (.if_icmp .ne 7, 3) := by decide +kernel
theorem dL_act_515 : decode cL_act 515 = .ok (.iconst 1, 1) := by decide +kernel
theorem dL_act_516 : decode cL_act 516 = .ok (.goto 57, 3) := by decide +kernel
theorem dL_act_519 : decode cL_act 519 = .ok (.iconst 0, 1) := by decide +kernel
theorem dL_act_520 : decode cL_act 520 = .ok (.goto 53, 3) := by decide +kernel
theorem dL_act_523 : decode cL_act 523 = .ok (.iload 9, 2) := by decide +kernel
theorem dL_act_525 : decode cL_act 525 = .ok (.iload 7, 2) := by decide +kernel
theorem dL_act_527 : decode cL_act 527 = .ok (.if_icmp .ne 45, 3) := by decide +kernel
theorem dL_act_530 : decode cL_act 530 = .ok (.aload_n 0, 1) := by decide +kernel
theorem dL_act_531 : decode cL_act 531 = .ok (.iload 9, 2) := by decide +kernel
theorem dL_act_533 : decode cL_act 533 = .ok (.iconst 0, 1) := by decide +kernel
theorem dL_act_534 : decode cL_act 534 = .ok (.invokevirtual 91, 3) := by decide +kernel
theorem dL_act_537 : decode cL_act 537 = .ok (.iload 8, 2) := by decide +kernel
theorem dL_act_539 : decode cL_act 539 = .ok (.if_icmp .ne 33, 3) := by decide +kernel
theorem dL_act_542 : decode cL_act 542 = .ok (.aload_n 0, 1) := by decide +kernel
theorem dL_act_543 : decode cL_act 543 = .ok (.iload 9, 2) := by decide +kernel
theorem dL_act_545 : decode cL_act 545 = .ok (.iconst 2, 1) := by decide +kernel
theorem dL_act_546 : decode cL_act 546 = .ok (.invokevirtual 91, 3) := by decide +kernel
theorem dL_act_549 : decode cL_act 549 = .ok (.iload 8, 2) := by decide +kernel
theorem dL_act_551 : decode cL_act 551 = .ok (.sipush 1000, 3) := by decide +kernel
theorem dL_act_554 : decode cL_act 554 = .ok (.idiv, 1) := by decide +kernel
theorem dL_act_555 : decode cL_act 555 = .ok (.if_icmp .ne 17, 3) := by decide +kernel
theorem dL_act_558 : decode cL_act 558 = .ok (.aload_n 0, 1) := by decide +kernel
theorem dL_act_559 : decode cL_act 559 = .ok (.iload 9, 2) := by decide +kernel
theorem dL_act_561 : decode cL_act 561 = .ok (.iconst 3, 1) := by decide +kernel
theorem dL_act_562 : decode cL_act 562 = .ok (.invokevirtual 91, 3) := by decide +kernel
theorem dL_act_565 : decode cL_act 565 = .ok (.ifCond .ne 7, 3) := by decide +kernel
theorem dL_act_568 : decode cL_act 568 = .ok (.iconst 1, 1) := by decide +kernel
theorem dL_act_569 : decode cL_act 569 = .ok (.goto 4, 3) := by decide +kernel
theorem dL_act_572 : decode cL_act 572 = .ok (.iconst 0, 1) := by decide +kernel
theorem dL_act_573 : decode cL_act 573 = .ok (.ireturn, 1) := by decide +kernel
theorem dL_marched_0 : decode cL_marched 0 = .ok (.aload_n 0, 1) := by decide +kernel
theorem dL_marched_1 : decode cL_marched 1 = .ok (.iconst 1, 1) := by decide +kernel
theorem dL_marched_2 : decode cL_marched 2 = .ok (.invokevirtual 60, 3) := by decide +kernel
theorem dL_marched_5 : decode cL_marched 5 = .ok (.istore_n 2, 1) := by decide +kernel
theorem dL_marched_6 : decode cL_marched 6 = .ok (.bipush 12, 2) := by decide +kernel
theorem dL_marched_8 : decode cL_marched 8 = .ok (.newarray .int, 2) := by decide +kernel
theorem dL_marched_10 : decode cL_marched 10 = .ok (.astore_n 3, 1) := by decide +kernel
theorem dL_marched_11 : decode cL_marched 11 = .ok (.bipush 12, 2) := by decide +kernel
theorem dL_marched_13 : decode cL_marched 13 = .ok (.newarray .int, 2) := by decide +kernel
theorem dL_marched_15 : decode cL_marched 15 = .ok (.astore 4, 2) := by decide +kernel
theorem dL_marched_17 : decode cL_marched 17 = .ok (.bipush 6, 2) := by decide +kernel
theorem dL_marched_19 : decode cL_marched 19 = .ok (.newarray .int, 2) := by decide +kernel
theorem dL_marched_21 : decode cL_marched 21 = .ok (.astore 5, 2) := by decide +kernel
theorem dL_marched_23 : decode cL_marched 23 = .ok (.bipush 6, 2) := by decide +kernel
theorem dL_marched_25 : decode cL_marched 25 = .ok (.newarray .int, 2) := by decide +kernel
theorem dL_marched_27 : decode cL_marched 27 = .ok (.astore 6, 2) := by decide +kernel
theorem dL_marched_29 : decode cL_marched 29 = .ok (.iconst 0, 1) := by decide +kernel
theorem dL_marched_30 : decode cL_marched 30 = .ok (.istore 7, 2) := by decide +kernel
theorem dL_marched_32 : decode cL_marched 32 = .ok (.iload 7, 2) := by decide +kernel
theorem dL_marched_34 : decode cL_marched 34 = .ok (.iload_n 1, 1) := by decide +kernel
theorem dL_marched_35 : decode cL_marched 35 = .ok (.if_icmp .ge 482, 3) := by decide +kernel
theorem dL_marched_38 : decode cL_marched 38 = .ok (.aload_n 0, 1) := by decide +kernel
theorem dL_marched_39 : decode cL_marched 39 = .ok (.iconst 0, 1) := by decide +kernel
theorem dL_marched_40 : decode cL_marched 40 = .ok (.invokevirtual 60, 3) := by decide +kernel
theorem dL_marched_43 : decode cL_marched 43 = .ok (.istore 8, 2) := by decide +kernel
theorem dL_marched_45 : decode cL_marched 45 = .ok (.aload_n 0, 1) := by decide +kernel
theorem dL_marched_46 : decode cL_marched 46 = .ok (.iconst 3, 1) := by decide +kernel
theorem dL_marched_47 : decode cL_marched 47 = .ok (.invokevirtual 60, 3) := by decide +kernel
theorem dL_marched_50 : decode cL_marched 50 = .ok (.istore 9, 2) := by decide +kernel
theorem dL_marched_52 : decode cL_marched 52 = .ok (.iconst 0, 1) := by decide +kernel
theorem dL_marched_53 : decode cL_marched 53 = .ok (.istore 10, 2) := by decide +kernel
theorem dL_marched_55 : decode cL_marched 55 = .ok (.iload 10, 2) := by decide +kernel
theorem dL_marched_57 : decode cL_marched 57 = .ok (.iload_n 2, 1) := by decide +kernel
theorem dL_marched_58 : decode cL_marched 58 = .ok (.if_icmp .ge 32, 3) := by decide +kernel
theorem dL_marched_61 : decode cL_marched 61 = .ok (.aload_n 3, 1) := by decide +kernel
theorem dL_marched_62 : decode cL_marched 62 = .ok (.iload 10, 2) := by decide +kernel
theorem dL_marched_64 : decode cL_marched 64 = .ok (.aload_n 0, 1) := by decide +kernel
theorem dL_marched_65 : decode cL_marched 65 = .ok (.iload 10, 2) := by decide +kernel
theorem dL_marched_67 : decode cL_marched 67 = .ok (.iconst 0, 1) := by decide +kernel
theorem dL_marched_68 : decode cL_marched 68 = .ok (.invokevirtual 75, 3) := by decide +kernel
theorem dL_marched_71 : decode cL_marched 71 = .ok (.iastore, 1) := by decide +kernel
theorem dL_marched_72 : decode cL_marched 72 = .ok (.aload 4, 2) := by decide +kernel
theorem dL_marched_74 : decode cL_marched 74 = .ok (.iload 10, 2) := by decide +kernel
theorem dL_marched_76 : decode cL_marched 76 = .ok (.aload_n 0, 1) := by decide +kernel
theorem dL_marched_77 : decode cL_marched 77 = .ok (.iload 10, 2) := by decide +kernel
theorem dL_marched_79 : decode cL_marched 79 = .ok (.iconst 2, 1) := by decide +kernel
theorem dL_marched_80 : decode cL_marched 80 = .ok (.invokevirtual 75, 3) := by decide +kernel
theorem dL_marched_83 : decode cL_marched 83 = .ok (.iastore, 1) := by decide +kernel
theorem dL_marched_84 : decode cL_marched 84 = .ok (.iinc 10 1, 3) := by decide +kernel
theorem dL_marched_87 : decode cL_marched 87 = .ok (.goto (-32), 3) := by decide +kernel
theorem dL_marched_90 : decode cL_marched 90 = .ok (.iconst 0, 1) := by decide +kernel
theorem dL_marched_91 : decode cL_marched 91 = .ok (.istore 10, 2) := by decide +kernel
theorem dL_marched_93 : decode cL_marched 93 = .ok (.iload 10, 2) := by decide +kernel
theorem dL_marched_95 : decode cL_marched 95 = .ok (.aload_n 0, 1) := by decide +kernel
theorem dL_marched_96 : decode cL_marched 96 = .ok (.iconst 2, 1) := by decide +kernel
theorem dL_marched_97 : decode cL_marched 97 = .ok (.invokevirtual 60, 3) := by decide +kernel
theorem dL_marched_100 : decode cL_marched 100 = .ok (.if_icmp .ge 33, 3) := by decide +kernel
theorem dL_marched_103 : decode cL_marched 103 = .ok (.aload 5, 2) := by decide +kernel
theorem dL_marched_105 : decode cL_marched 105 = .ok (.iload 10, 2) := by decide +kernel
theorem dL_marched_107 : decode cL_marched 107 = .ok (.aload_n 0, 1) := by decide +kernel
theorem dL_marched_108 : decode cL_marched 108 = .ok (.iload 10, 2) := by decide +kernel
theorem dL_marched_110 : decode cL_marched 110 = .ok (.iconst 0, 1) := by decide +kernel
theorem dL_marched_111 : decode cL_marched 111 = .ok (.invokevirtual 91, 3) := by decide +kernel
theorem dL_marched_114 : decode cL_marched 114 = .ok (.iastore, 1) := by decide +kernel
theorem dL_marched_115 : decode cL_marched 115 = .ok (.aload 6, 2) := by decide +kernel
theorem dL_marched_117 : decode cL_marched 117 = .ok (.iload 10, 2) := by decide +kernel
theorem dL_marched_119 : decode cL_marched 119 = .ok (.aload_n 0, 1) := by decide +kernel
theorem dL_marched_120 : decode cL_marched 120 = .ok (.iload 10, 2) := by decide +kernel
theorem dL_marched_122 : decode cL_marched 122 = .ok (.iconst 1, 1) := by decide +kernel
theorem dL_marched_123 : decode cL_marched 123 = .ok (.invokevirtual 91, 3) := by decide +kernel
theorem dL_marched_126 : decode cL_marched 126 = .ok (.iastore, 1) := by decide +kernel
theorem dL_marched_127 : decode cL_marched 127 = .ok (.iinc 10 1, 3) := by decide +kernel
theorem dL_marched_130 : decode cL_marched 130 = .ok (.goto (-37), 3) := by decide +kernel
theorem dL_marched_133 : decode cL_marched 133 = .ok (.aload_n 0, 1) := by decide +kernel
theorem dL_marched_134 : decode cL_marched 134 = .ok (.iconst 1, 1) := by decide +kernel
theorem dL_marched_135 : decode cL_marched 135 = .ok (.invokevirtual 94, 3) := by decide +kernel
theorem dL_marched_138 : decode cL_marched 138 = .ok (.iload 8, 2) := by decide +kernel
theorem dL_marched_140 : decode cL_marched 140 = .ok (.iconst 1, 1) := by decide +kernel
theorem dL_marched_141 : decode cL_marched 141 = .ok (.iadd, 1) := by decide +kernel
theorem dL_marched_142 : decode cL_marched 142 = .ok (.if_icmp .eq 5, 3) := by decide +kernel
theorem dL_marched_145 : decode cL_marched 145 = .ok (.iconst 0, 1) := by decide +kernel
theorem dL_marched_146 : decode cL_marched 146 = .ok (.ireturn, 1) := by decide +kernel
theorem dL_marched_147 : decode cL_marched 147 = .ok (.aload_n 0, 1) := by decide +kernel
theorem dL_marched_148 : decode cL_marched 148 = .ok (.bipush 7, 2) := by decide +kernel
theorem dL_marched_150 : decode cL_marched 150 = .ok (.invokevirtual 60, 3) := by decide +kernel
theorem dL_marched_153 : decode cL_marched 153 = .ok (.aload_n 0, 1) := by decide +kernel
theorem dL_marched_154 : decode cL_marched 154 = .ok (.bipush 8, 2) := by decide +kernel
theorem dL_marched_156 : decode cL_marched 156 = .ok (.invokevirtual 60, 3) := by decide +kernel
theorem dL_marched_159 : decode cL_marched 159 = .ok (.aload_n 3, 1) := by decide +kernel
theorem dL_marched_160 : decode cL_marched 160 = .ok (.iload_n 2, 1) := by decide +kernel
theorem dL_marched_161 : decode cL_marched 161 = .ok (.iconst 1, 1) := by decide +kernel
theorem dL_marched_162 : decode cL_marched 162 = .ok (.isub, 1) := by decide +kernel
theorem dL_marched_163 : decode cL_marched 163 = .ok (.iaload, 1) := by decide +kernel
theorem dL_marched_164 : decode cL_marched 164 = .ok (.isub, 1) := by decide +kernel
theorem dL_marched_165 : decode cL_marched 165 = .ok (.imul, 1) := by decide +kernel
theorem dL_marched_166 : decode cL_marched 166 = .ok (.bipush 100, 2) := by decide +kernel
theorem dL_marched_168 : decode cL_marched 168 = .ok (.idiv, 1) := by decide +kernel
theorem dL_marched_169 : decode cL_marched 169 = .ok (.istore 10, 2) := by decide +kernel
theorem dL_marched_171 : decode cL_marched 171 = .ok (.iconst 0, 1) := by decide +kernel
theorem dL_marched_172 : decode cL_marched 172 = .ok (.istore 11, 2) := by decide +kernel
theorem dL_marched_174 : decode cL_marched 174 = .ok (.iload 11, 2) := by decide +kernel
theorem dL_marched_176 : decode cL_marched 176 = .ok (.iload_n 2, 1) := by decide +kernel
theorem dL_marched_177 : decode cL_marched 177 = .ok (.if_icmp .ge 43, 3) := by decide +kernel
theorem dL_marched_180 : decode cL_marched 180 = .ok (.iload 10, 2) := by decide +kernel
theorem dL_marched_182 : decode cL_marched 182 = .ok (.aload_n 0, 1) := by decide +kernel
theorem dL_marched_183 : decode cL_marched 183 = .ok (.bipush 9, 2) := by decide +kernel
theorem dL_marched_185 : decode cL_marched 185 = .ok (.invokevirtual 60, 3) := by decide +kernel
theorem dL_marched_188 : decode cL_marched 188 = .ok (.aload_n 0, 1) := by decide +kernel
theorem dL_marched_189 : decode cL_marched 189 = .ok (.bipush 10, 2) := by decide +kernel
theorem dL_marched_191 : decode cL_marched 191 = .ok (.invokevirtual 60, 3) := by decide +kernel
theorem dL_marched_194 : decode cL_marched 194 = .ok (.aload_n 3, 1) := by decide +kernel
theorem dL_marched_195 : decode cL_marched 195 = .ok (.iload 11, 2) := by decide +kernel
theorem dL_marched_197 : decode cL_marched 197 = .ok (.iaload, 1) := by decide +kernel
theorem dL_marched_198 : decode cL_marched 198 = .ok (.isub, 1) := by decide +kernel
theorem dL_marched_199 : decode cL_marched 199 = .ok (.imul, 1) := by decide +kernel
theorem dL_marched_200 : decode cL_marched 200 = .ok (.iconst 2, 1) := by decide +kernel
theorem dL_marched_201 : decode cL_marched 201 = .ok (.iload 11, 2) := by decide +kernel
theorem dL_marched_203 : decode cL_marched 203 = .ok (.imul, 1) := by decide +kernel
theorem dL_marched_204 : decode cL_marched 204 = .ok (.iconst 1, 1) := by decide +kernel
theorem dL_marched_205 : decode cL_marched 205 = .ok (.iadd, 1) := by decide +kernel
theorem dL_marched_206 : decode cL_marched 206 = .ok (.imul, 1) := by decide +kernel
theorem dL_marched_207 : decode cL_marched 207 = .ok (.sipush 1000, 3) := by decide +kernel
theorem dL_marched_210 : decode cL_marched 210 = .ok (.idiv, 1) := by decide +kernel
theorem dL_marched_211 : decode cL_marched 211 = .ok (.iadd, 1) := by decide +kernel
theorem dL_marched_212 : decode cL_marched 212 = .ok (.istore 10, 2) := by decide +kernel
theorem dL_marched_214 : decode cL_marched 214 = .ok (.iinc 11 1, 3) := by decide +kernel
theorem dL_marched_217 : decode cL_marched 217 = .ok (.goto (-43), 3) := by decide +kernel
theorem dL_marched_220 : decode cL_marched 220 = .ok (.aload_n 0, 1) := by decide +kernel
theorem dL_marched_221 : decode cL_marched 221 = .ok (.iconst 3, 1) := by decide +kernel
theorem dL_marched_222 : decode cL_marched 222 = .ok (.invokevirtual 60, 3) := by decide +kernel
theorem dL_marched_225 : decode cL_marched 225 = .ok (.iload 9, 2) := by decide +kernel
theorem dL_marched_227 : decode cL_marched 227 = .ok (.iload 10, 2) := by decide +kernel
theorem dL_marched_229 : decode cL_marched 229 = .ok (.iadd, 1) := by decide +kernel
theorem dL_marched_230 : decode cL_marched 230 = .ok (.if_icmp .eq 5, 3) := by decide +kernel
theorem dL_marched_233 : decode cL_marched 233 = .ok (.iconst 0, 1) := by decide +kernel
theorem dL_marched_234 : decode cL_marched 234 = .ok (.ireturn, 1) := by decide +kernel
theorem dL_marched_235 : decode cL_marched 235 = .ok (.iconst 0, 1) := by decide +kernel
theorem dL_marched_236 : decode cL_marched 236 = .ok (.istore 11, 2) := by decide +kernel
theorem dL_marched_238 : decode cL_marched 238 = .ok (.iload 11, 2) := by decide +kernel
theorem dL_marched_240 : decode cL_marched 240 = .ok (.iload_n 2, 1) := by decide +kernel
theorem dL_marched_241 : decode cL_marched 241 = .ok (.if_icmp .ge 83, 3) := by decide +kernel
theorem dL_marched_244 : decode cL_marched 244 = .ok (.aload_n 0, 1) := by decide +kernel
theorem dL_marched_245 : decode cL_marched 245 = .ok (.iload 11, 2) := by decide +kernel
theorem dL_marched_247 : decode cL_marched 247 = .ok (.iconst 0, 1) := by decide +kernel
theorem dL_marched_248 : decode cL_marched 248 = .ok (.invokevirtual 75, 3) := by decide +kernel
theorem dL_marched_251 : decode cL_marched 251 = .ok (.istore 12, 2) := by decide +kernel
theorem dL_marched_253 : decode cL_marched 253 = .ok (.aload_n 0, 1) := by decide +kernel
theorem dL_marched_254 : decode cL_marched 254 = .ok (.iload 11, 2) := by decide +kernel
theorem dL_marched_256 : decode cL_marched 256 = .ok (.iconst 1, 1) := by decide +kernel
theorem dL_marched_257 : decode cL_marched 257 = .ok (.invokevirtual 75, 3) := by decide +kernel
theorem dL_marched_260 : decode cL_marched 260 = .ok (.iload 12, 2) := by decide +kernel
theorem dL_marched_262 : decode cL_marched 262 = .ok (.iconst 2, 1) := by decide +kernel
theorem dL_marched_263 : decode cL_marched 263 = .ok (.iload 11, 2) := by decide +kernel
theorem dL_marched_265 : decode cL_marched 265 = .ok (.imul, 1) := by decide +kernel
theorem dL_marched_266 : decode cL_marched 266 = .ok (.iconst 1, 1) := by decide +kernel
theorem dL_marched_267 : decode cL_marched 267 = .ok (.iadd, 1) := by decide +kernel
theorem dL_marched_268 : decode cL_marched 268 = .ok (.imul, 1) := by decide +kernel
theorem dL_marched_269 : decode cL_marched 269 = .ok (.isub, 1) := by decide +kernel
theorem dL_marched_270 : decode cL_marched 270 = .ok (.istore 13, 2) := by decide +kernel
theorem dL_marched_272 : decode cL_marched 272 = .ok (.aload_n 0, 1) := by decide +kernel
theorem dL_marched_273 : decode cL_marched 273 = .ok (.iload 11, 2) := by decide +kernel
theorem dL_marched_275 : decode cL_marched 275 = .ok (.iconst 2, 1) := by decide +kernel
theorem dL_marched_276 : decode cL_marched 276 = .ok (.invokevirtual 75, 3) := by decide +kernel
theorem dL_marched_279 : decode cL_marched 279 = .ok (.aload 4, 2) := by decide +kernel
theorem dL_marched_281 : decode cL_marched 281 = .ok (.iload 11, 2) := by decide +kernel
theorem dL_marched_283 : decode cL_marched 283 = .ok (.iaload, 1) := by decide +kernel
theorem dL_marched_284 : decode cL_marched 284 = .ok (.iload 12, 2) := by decide +kernel
theorem dL_marched_286 : decode cL_marched 286 = .ok (.iadd, 1) := by decide +kernel
theorem dL_marched_287 : decode cL_marched 287 = .ok (.sipush 3600, 3) := by decide +kernel
theorem dL_marched_290 : decode cL_marched 290 = .ok (.irem, 1) := by decide +kernel
theorem dL_marched_291 : decode cL_marched 291 = .ok (.sipush 3600, 3) := by decide +kernel
theorem dL_marched_294 : decode cL_marched 294 = .ok (.iadd, 1) := by decide +kernel
theorem dL_marched_295 : decode cL_marched 295 = .ok (.sipush 3600, 3) := by decide +kernel
theorem dL_marched_298 : decode cL_marched 298 = .ok (.irem, 1) := by decide +kernel
theorem dL_marched_299 : decode cL_marched 299 = .ok (.if_icmp .ne 17, 3) := by decide +kernel
theorem dL_marched_302 : decode cL_marched 302 = .ok (.iload 13, 2) := by decide +kernel
theorem dL_marched_304 : decode cL_marched 304 = .ok (.ifCond .lt 12, 3) := by decide +kernel
theorem dL_marched_307 : decode cL_marched 307 = .ok (.iload 13, 2) := by decide +kernel
theorem dL_marched_309 : decode cL_marched 309 = .ok (.iconst 2, 1) := by decide +kernel
theorem dL_marched_310 : decode cL_marched 310 = .ok (.iload 11, 2) := by decide +kernel
theorem dL_marched_312 : decode cL_marched 312 = .ok (.imul, 1) := by decide +kernel
theorem dL_marched_313 : decode cL_marched 313 = .ok (.if_icmp .le 5, 3) := by decide +kernel
theorem dL_marched_316 : decode cL_marched 316 = .ok (.iconst 0, 1) := by decide +kernel
theorem dL_marched_317 : decode cL_marched 317 = .ok (.ireturn, 1) := by decide +kernel
theorem dL_marched_318 : decode cL_marched 318 = .ok (.iinc 11 1, 3) := by decide +kernel
theorem dL_marched_321 : decode cL_marched 321 = .ok (.goto (-83), 3) := by decide +kernel
theorem dL_marched_324 : decode cL_marched 324 = .ok (.iconst 0, 1) := by decide +kernel
theorem dL_marched_325 : decode cL_marched 325 = .ok (.istore 11, 2) := by decide +kernel
theorem dL_marched_327 : decode cL_marched 327 = .ok (.iload 11, 2) := by decide +kernel
theorem dL_marched_329 : decode cL_marched 329 = .ok (.aload_n 0, 1) := by decide +kernel
theorem dL_marched_330 : decode cL_marched 330 = .ok (.iconst 2, 1) := by decide +kernel
theorem dL_marched_331 : decode cL_marched 331 = .ok (.invokevirtual 60, 3) := by decide +kernel
theorem dL_marched_334 : decode cL_marched 334 = .ok (.if_icmp .ge 177, 3) := by decide +kernel
theorem dL_marched_337 : decode cL_marched 337 = .ok (.aload 5, 2) := by decide +kernel
theorem dL_marched_339 : decode cL_marched 339 = .ok (.iload 11, 2) := by decide +kernel
theorem dL_marched_341 : decode cL_marched 341 = .ok (.iaload, 1) := by decide +kernel
theorem dL_marched_342 : decode cL_marched 342 = .ok (.sipush 1000, 3) := by decide +kernel
theorem dL_marched_345 : decode cL_marched 345 = .ok (.idiv, 1) := by decide +kernel
theorem dL_marched_346 : decode cL_marched 346 = .ok (.istore 12, 2) := by decide +kernel
theorem dL_marched_348 : decode cL_marched 348 = .ok (.aload 5, 2) := by decide +kernel
theorem dL_marched_350 : decode cL_marched 350 = .ok (.iload 11, 2) := by decide +kernel
theorem dL_marched_352 : decode cL_marched 352 = .ok (.iaload, 1) := by decide +kernel
theorem dL_marched_353 : decode cL_marched 353 = .ok (.aload_n 0, 1) := by decide +kernel
theorem dL_marched_354 : decode cL_marched 354 = .ok (.iload 12, 2) := by decide +kernel
theorem dL_marched_356 : decode cL_marched 356 = .ok (.iconst 3, 1) := by decide +kernel
theorem dL_marched_357 : decode cL_marched 357 = .ok (.invokevirtual 75, 3) := by decide +kernel
theorem dL_marched_360 : decode cL_marched 360 = .ok (.iadd, 1) := by decide +kernel
theorem dL_marched_361 : decode cL_marched 361 = .ok (.istore 13, 2) := by decide +kernel
theorem dL_marched_363 : decode cL_marched 363 = .ok (.iload 13, 2) := by decide +kernel
theorem dL_marched_365 : decode cL_marched 365 = .ok (.ifCond .ge 7, 3) := by decide +kernel
theorem dL_marched_368 : decode cL_marched 368 = .ok (.iconst 0, 1) := by decide +kernel
theorem dL_marched_369 : decode cL_marched 369 = .ok (.goto 27, 3) := by decide +kernel
theorem dL_marched_372 : decode cL_marched 372 = .ok (.iload 13, 2) := by decide +kernel
theorem dL_marched_374 : decode cL_marched 374 = .ok (.sipush 1000, 3) := by decide +kernel
theorem dL_marched_377 : decode cL_marched 377 = .ok (.iload_n 2, 1) := by decide +kernel
theorem dL_marched_378 : decode cL_marched 378 = .ok (.imul, 1) := by decide +kernel
theorem dL_marched_379 : decode cL_marched 379 = .ok (.iconst 1, 1) := by decide +kernel
theorem dL_marched_380 : decode cL_marched 380 = .ok (.isub, 1) := by decide +kernel
theorem dL_marched_381 : decode cL_marched 381 = .ok (.if_icmp .le 13, 3) := by decide +kernel
theorem dL_marched_384 : decode cL_marched 384 = .ok (.sipush 1000, 3) := by decide +kernel
theorem dL_marched_387 : decode cL_marched 387 = .ok (.iload_n 2, 1) := by decide +kernel
theorem dL_marched_388 : decode cL_marched 388 = .ok (.imul, 1) := by decide +kernel
theorem dL_marched_389 : decode cL_marched 389 = .ok (.iconst 1, 1) := by decide +kernel
theorem dL_marched_390 : decode cL_marched 390 = .ok (.isub, 1) := by decide +kernel
theorem dL_marched_391 : decode cL_marched 391 = .ok (.goto 5, 3) := by decide +kernel
theorem dL_marched_394 : decode cL_marched 394 = .ok (.iload 13, 2) := by decide +kernel
theorem dL_marched_396 : decode cL_marched 396 = .ok (.istore 13, 2) := by decide +kernel
theorem dL_marched_398 : decode cL_marched 398 = .ok (.aload_n 0, 1) := by decide +kernel
theorem dL_marched_399 : decode cL_marched 399 = .ok (.iload 11, 2) := by decide +kernel
theorem dL_marched_401 : decode cL_marched 401 = .ok (.iconst 0, 1) := by decide +kernel
theorem dL_marched_402 : decode cL_marched 402 = .ok (.invokevirtual 91, 3) := by decide +kernel
theorem dL_marched_405 : decode cL_marched 405 = .ok (.iload 13, 2) := by decide +kernel
theorem dL_marched_407 : decode cL_marched 407 = .ok (.if_icmp .ne 96, 3) := by decide +kernel
theorem dL_marched_410 : decode cL_marched 410 = .ok (.aload_n 0, 1) := by decide +kernel
theorem dL_marched_411 : decode cL_marched 411 = .ok (.iload 11, 2) := by decide +kernel
theorem dL_marched_413 : decode cL_marched 413 = .ok (.iconst 1, 1) := by decide +kernel
theorem dL_marched_414 : decode cL_marched 414 = .ok (.invokevirtual 91, 3) := by decide +kernel
theorem dL_marched_417 : decode cL_marched 417 = .ok (.aload 6, 2) := by decide +kernel
theorem dL_marched_419 : decode cL_marched 419 = .ok (.iload 11, 2) := by decide +kernel
theorem dL_marched_421 : decode cL_marched 421 = .ok (.iaload, 1) := by decide +kernel
theorem dL_marched_422 : decode cL_marched 422 = .ok (.aload_n 0, 1) := by decide +kernel
theorem dL_marched_423 : decode cL_marched 423 = .ok (.iload 12, 2) := by decide +kernel
theorem dL_marched_425 : decode cL_marched 425 = .ok (.iconst 0, 1) := by decide +kernel
theorem dL_marched_426 : decode cL_marched 426 = .ok (.invokevirtual 75, 3) := by decide +kernel
theorem dL_marched_429 : decode cL_marched 429 = .ok (.iadd, 1) := by decide +kernel
theorem dL_marched_430 : decode cL_marched 430 = .ok (.sipush 3600, 3) := by decide +kernel
theorem dL_marched_433 : decode cL_marched 433 = .ok (.irem, 1) := by decide +kernel
theorem dL_marched_434 : decode cL_marched 434 = .ok (.sipush 3600, 3) := by decide +kernel
theorem dL_marched_437 : decode cL_marched 437 = .ok (.iadd, 1) := by decide +kernel
theorem dL_marched_438 : decode cL_marched 438 = .ok (.sipush 3600, 3) := by decide +kernel
theorem dL_marched_441 : decode cL_marched 441 = .ok (.irem, 1) := by decide +kernel
theorem dL_marched_442 : decode cL_marched 442 = .ok (.if_icmp .ne 61, 3) := by decide +kernel
theorem dL_marched_445 : decode cL_marched 445 = .ok (.aload_n 0, 1) := by decide +kernel
theorem dL_marched_446 : decode cL_marched 446 = .ok (.iload 11, 2) := by decide +kernel
theorem dL_marched_448 : decode cL_marched 448 = .ok (.iconst 0, 1) := by decide +kernel
theorem dL_marched_449 : decode cL_marched 449 = .ok (.iconst 0, 1) := by decide +kernel
theorem dL_marched_450 : decode cL_marched 450 = .ok (.invokevirtual 97, 3) := by decide +kernel
theorem dL_marched_453 : decode cL_marched 453 = .ok (.iload 13, 2) := by decide +kernel
theorem dL_marched_455 : decode cL_marched 455 = .ok (.if_icmp .ne 48, 3) := by decide +kernel
theorem dL_marched_458 : decode cL_marched 458 = .ok (.aload_n 0, 1) := by decide +kernel
theorem dL_marched_459 : decode cL_marched 459 = .ok (.iload 11, 2) := by decide +kernel
theorem dL_marched_461 : decode cL_marched 461 = .ok (.iconst 0, 1) := by decide +kernel
theorem dL_marched_462 : decode cL_marched 462 = .ok (.iconst 1, 1) := by decide +kernel
theorem dL_marched_463 : decode cL_marched 463 = .ok (.invokevirtual 97, 3) := by decide +kernel
theorem dL_marched_466 : decode cL_marched 466 = .ok (.aload_n 0, 1) := by decide +kernel
theorem dL_marched_467 : decode cL_marched 467 = .ok (.iload 11, 2) := by decide +kernel
theorem dL_marched_469 : decode cL_marched 469 = .ok (.iconst 1, 1) := by decide +kernel
theorem dL_marched_470 : decode cL_marched 470 = .ok (.invokevirtual 91, 3) := by decide +kernel
theorem dL_marched_473 : decode cL_marched 473 = .ok (.if_icmp .ne 30, 3) := by decide +kernel
theorem dL_marched_476 : decode cL_marched 476 = .ok (.aload_n 0, 1) := by decide +kernel
theorem dL_marched_477 : decode cL_marched 477 = .ok (.iload 11, 2) := by decide +kernel
theorem dL_marched_479 : decode cL_marched 479 = .ok (.iconst 3, 1) := by decide +kernel
theorem dL_marched_480 : decode cL_marched 480 = .ok (.invokevirtual 91, 3) := by decide +kernel
theorem dL_marched_483 : decode cL_marched 483 = .ok (.iconst 1, 1) := by decide +kernel
theorem dL_marched_484 : decode cL_marched 484 = .ok (.if_icmp .le 21, 3) := by decide +kernel
theorem dL_marched_487 : decode cL_marched 487 = .ok (.aload_n 0, 1) := by decide +kernel
theorem dL_marched_488 : decode cL_marched 488 = .ok (.iload 11, 2) := by decide +kernel
theorem dL_marched_490 : decode cL_marched 490 = .ok (.iconst 1, 1) := by decide +kernel
theorem dL_marched_491 : decode cL_marched 491 = .ok (.iconst 0, 1) := by decide +kernel
theorem dL_marched_492 : decode cL_marched 492 = .ok (.invokevirtual 97, 3) := by decide +kernel
theorem dL_marched_495 : decode cL_marched 495 = .ok (.aload 5, 2) := by decide +kernel
theorem dL_marched_497 : decode cL_marched 497 = .ok (.iload 11, 2) := by decide +kernel
theorem dL_marched_499 : decode cL_marched 499 = .ok (.iaload, 1) := by decide +kernel
theorem dL_marched_500 : decode cL_marched 500 = .ok (.if_icmp .eq 5, 3) := by decide +kernel
theorem dL_marched_503 : decode cL_marched 503 = .ok (.iconst 0, 1) := by decide +kernel
theorem dL_marched_504 : decode cL_marched 504 = .ok (.ireturn, 1) := by decide +kernel
theorem dL_marched_505 : decode cL_marched 505 = .ok (.iinc 11 1, 3) := by decide +kernel
theorem dL_marched_508 : decode cL_marched 508 = .ok (.goto (-181), 3) := by decide +kernel
theorem dL_marched_511 : decode cL_marched 511 = .ok (.iinc 7 1, 3) := by decide +kernel
theorem dL_marched_514 : decode cL_marched 514 = .ok (.goto (-482), 3) := by decide +kernel
theorem dL_marched_517 : decode cL_marched 517 = .ok (.iconst 1, 1) := by decide +kernel
theorem dL_marched_518 : decode cL_marched 518 = .ok (.ireturn, 1) := by decide +kernel
theorem dL_whole_0 : decode cL_whole 0 = .ok (.aload_n 0, 1) := by decide +kernel
theorem dL_whole_1 : decode cL_whole 1 = .ok (.iconst 1, 1) := by decide +kernel
theorem dL_whole_2 : decode cL_whole 2 = .ok (.invokevirtual 60, 3) := by decide +kernel
theorem dL_whole_5 : decode cL_whole 5 = .ok (.istore_n 2, 1) := by decide +kernel
theorem dL_whole_6 : decode cL_whole 6 = .ok (.iconst 0, 1) := by decide +kernel
theorem dL_whole_7 : decode cL_whole 7 = .ok (.istore_n 3, 1) := by decide +kernel
theorem dL_whole_8 : decode cL_whole 8 = .ok (.iconst 1, 1) := by decide +kernel
theorem dL_whole_9 : decode cL_whole 9 = .ok (.istore 4, 2) := by decide +kernel
theorem dL_whole_11 : decode cL_whole 11 = .ok (.iload 4, 2) := by decide +kernel
theorem dL_whole_13 : decode cL_whole 13 = .ok (.iload_n 2, 1) := by decide +kernel
theorem dL_whole_14 : decode cL_whole 14 = .ok (.if_icmp .ge 54, 3) := by decide +kernel
theorem dL_whole_17 : decode cL_whole 17 = .ok (.aload_n 0, 1) := by decide +kernel
theorem dL_whole_18 : decode cL_whole 18 = .ok (.iload 4, 2) := by decide +kernel
theorem dL_whole_20 : decode cL_whole 20 = .ok (.iconst 0, 1) := by decide +kernel
theorem dL_whole_21 : decode cL_whole 21 = .ok (.invokevirtual 75, 3) := by decide +kernel
theorem dL_whole_24 : decode cL_whole 24 = .ok (.aload_n 0, 1) := by decide +kernel
theorem dL_whole_25 : decode cL_whole 25 = .ok (.iload 4, 2) := by decide +kernel
theorem dL_whole_27 : decode cL_whole 27 = .ok (.iconst 1, 1) := by decide +kernel
theorem dL_whole_28 : decode cL_whole 28 = .ok (.isub, 1) := by decide +kernel
theorem dL_whole_29 : decode cL_whole 29 = .ok (.iconst 0, 1) := by decide +kernel
theorem dL_whole_30 : decode cL_whole 30 = .ok (.invokevirtual 75, 3) := by decide +kernel
theorem dL_whole_33 : decode cL_whole 33 = .ok (.isub, 1) := by decide +kernel
theorem dL_whole_34 : decode cL_whole 34 = .ok (.istore 5, 2) := by decide +kernel
theorem dL_whole_36 : decode cL_whole 36 = .ok (.iload 5, 2) := by decide +kernel
theorem dL_whole_38 : decode cL_whole 38 = .ok (.iload_n 3, 1) := by decide +kernel
theorem dL_whole_39 : decode cL_whole 39 = .ok (.if_icmp .le 8, 3) := by decide +kernel
theorem dL_whole_42 : decode cL_whole 42 = .ok (.iload 5, 2) := by decide +kernel
theorem dL_whole_44 : decode cL_whole 44 = .ok (.goto 17, 3) := by decide +kernel
theorem dL_whole_47 : decode cL_whole 47 = .ok (.iload 5, 2) := by decide +kernel
theorem dL_whole_49 : decode cL_whole 49 = .ok (.ineg, 1) := by decide +kernel
theorem dL_whole_50 : decode cL_whole 50 = .ok (.iload_n 3, 1) := by decide +kernel
theorem dL_whole_51 : decode cL_whole 51 = .ok (.if_icmp .le 9, 3) := by decide +kernel
theorem dL_whole_54 : decode cL_whole 54 = .ok (.iload 5, 2) := by decide +kernel
theorem dL_whole_56 : decode cL_whole 56 = .ok (.ineg, 1) := by decide +kernel
theorem dL_whole_57 : decode cL_whole 57 = .ok (.goto 4, 3) := by decide +kernel
theorem dL_whole_60 : decode cL_whole 60 = .ok (.iload_n 3, 1) := by decide +kernel
theorem dL_whole_61 : decode cL_whole 61 = .ok (.istore_n 3, 1) := by decide +kernel
theorem dL_whole_62 : decode cL_whole 62 = .ok (.iinc 4 1, 3) := by decide +kernel
theorem dL_whole_65 : decode cL_whole 65 = .ok (.goto (-54), 3) := by decide +kernel
theorem dL_whole_68 : decode cL_whole 68 = .ok (.aload_n 0, 1) := by decide +kernel
theorem dL_whole_69 : decode cL_whole 69 = .ok (.iconst 4, 1) := by decide +kernel
theorem dL_whole_70 : decode cL_whole 70 = .ok (.invokevirtual 60, 3) := by decide +kernel
theorem dL_whole_73 : decode cL_whole 73 = .ok (.iload_n 3, 1) := by decide +kernel
theorem dL_whole_74 : decode cL_whole 74 = .ok (.if_icmp .eq 5, 3) := by decide +kernel
theorem dL_whole_77 : decode cL_whole 77 = .ok (.iconst 0, 1) := by decide +kernel
theorem dL_whole_78 : decode cL_whole 78 = .ok (.ireturn, 1) := by decide +kernel
theorem dL_whole_79 : decode cL_whole 79 = .ok (.iconst 0, 1) := by decide +kernel
theorem dL_whole_80 : decode cL_whole 80 = .ok (.istore 4, 2) := by decide +kernel
theorem dL_whole_82 : decode cL_whole 82 = .ok (.iload 4, 2) := by decide +kernel
theorem dL_whole_84 : decode cL_whole 84 = .ok (.iconst 3, 1) := by decide +kernel
theorem dL_whole_85 : decode cL_whole 85 = .ok (.if_icmp .ge 295, 3) := by decide +kernel
theorem dL_whole_88 : decode cL_whole 88 = .ok (.lconst 0, 1) := by decide +kernel
theorem dL_whole_89 : decode cL_whole 89 = .ok (.lstore 5, 2) := by decide +kernel
theorem dL_whole_91 : decode cL_whole 91 = .ok (.lconst 0, 1) := by decide +kernel
theorem dL_whole_92 : decode cL_whole 92 = .ok (.lstore 7, 2) := by decide +kernel
theorem dL_whole_94 : decode cL_whole 94 = .ok (.iconst 0, 1) := by decide +kernel
theorem dL_whole_95 : decode cL_whole 95 = .ok (.istore 9, 2) := by decide +kernel
theorem dL_whole_97 : decode cL_whole 97 = .ok (.lconst 0, 1) := by decide +kernel
theorem dL_whole_98 : decode cL_whole 98 = .ok (.lstore 10, 2) := by decide +kernel
theorem dL_whole_100 : decode cL_whole 100 = .ok (.iconst 0, 1) := by decide +kernel
theorem dL_whole_101 : decode cL_whole 101 = .ok (.istore 12, 2) := by decide +kernel
theorem dL_whole_103 : decode cL_whole 103 = .ok (.iload 12, 2) := by decide +kernel
theorem dL_whole_105 : decode cL_whole 105 = .ok (.iload_n 2, 1) := by decide +kernel
theorem dL_whole_106 : decode cL_whole 106 = .ok (.if_icmp .ge 144, 3) := by decide +kernel
theorem dL_whole_109 : decode cL_whole 109 = .ok (.iconst 0, 1) := by decide +kernel
theorem dL_whole_110 : decode cL_whole 110 = .ok (.istore 13, 2) := by decide +kernel
theorem dL_whole_112 : decode cL_whole 112 = .ok (.iconst 0, 1) := by decide +kernel
theorem dL_whole_113 : decode cL_whole 113 = .ok (.istore 14, 2) := by decide +kernel
theorem dL_whole_115 : decode cL_whole 115 = .ok (.iload 14, 2) := by decide +kernel
theorem dL_whole_117 : decode cL_whole 117 = .ok (.bipush 48, 2) := by decide +kernel
theorem dL_whole_119 : decode cL_whole 119 = .ok (.if_icmp .ge 96, 3) := by decide +kernel
theorem dL_whole_122 : decode cL_whole 122 = .ok (.aload_n 0, 1) := by decide +kernel
theorem dL_whole_123 : decode cL_whole 123 = .ok (.iload 4, 2) := by decide +kernel
theorem dL_whole_125 : decode cL_whole 125 = .ok (.iload 14, 2) := by decide +kernel
theorem dL_whole_127 : decode cL_whole 127 = .ok (.bipush 24, 2) := by decide +kernel
theorem dL_whole_129 : decode cL_whole 129 = .ok (.idiv, 1) := by decide +kernel
theorem dL_whole_130 : decode cL_whole 130 = .ok (.iload 12, 2) := by decide +kernel
theorem dL_whole_132 : decode cL_whole 132 = .ok (.iload 14, 2) := by decide +kernel
theorem dL_whole_134 : decode cL_whole 134 = .ok (.bipush 24, 2) := by decide +kernel
theorem dL_whole_136 : decode cL_whole 136 = .ok (.irem, 1) := by decide +kernel
theorem dL_whole_137 : decode cL_whole 137 = .ok (.invokevirtual 67, 3) := by decide +kernel
theorem dL_whole_140 : decode cL_whole 140 = .ok (.istore 15, 2) := by decide +kernel
theorem dL_whole_142 : decode cL_whole 142 = .ok (.iload 15, 2) := by decide +kernel
theorem dL_whole_144 : decode cL_whole 144 = .ok (.ifCond .ge 5, 3) := by decide +kernel
theorem dL_whole_147 : decode cL_whole 147 = .ok (.iconst 0, 1) := by decide +kernel
theorem dL_whole_148 : decode cL_whole 148 = .ok (.ireturn, 1) := by decide +kernel
theorem dL_whole_149 : decode cL_whole 149 = .ok (.iload 13, 2) := by decide +kernel
theorem dL_whole_151 : decode cL_whole 151 = .ok (.iload 15, 2) := by decide +kernel
theorem dL_whole_153 : decode cL_whole 153 = .ok (.iadd, 1) := by decide +kernel
theorem dL_whole_154 : decode cL_whole 154 = .ok (.istore 13, 2) := by decide +kernel
theorem dL_whole_156 : decode cL_whole 156 = .ok (.lload 5, 2) := by decide +kernel
theorem dL_whole_158 : decode cL_whole 158 = .ok (.iload 14, 2) := by decide +kernel
theorem dL_whole_160 : decode cL_whole 160 = .ok (.bipush 24, 2) := by decide +kernel
theorem dL_whole_162 : decode cL_whole 162 = .ok (.if_icmp .ge 9, 3) := by decide +kernel
theorem dL_whole_165 : decode cL_whole 165 = .ok (.iload 15, 2) := by decide +kernel
theorem dL_whole_167 : decode cL_whole 167 = .ok (.i2l, 1) := by decide +kernel
theorem dL_whole_168 : decode cL_whole 168 = .ok (.goto 4, 3) := by decide +kernel
theorem dL_whole_171 : decode cL_whole 171 = .ok (.lconst 0, 1) := by decide +kernel
theorem dL_whole_172 : decode cL_whole 172 = .ok (.ladd, 1) := by decide +kernel
theorem dL_whole_173 : decode cL_whole 173 = .ok (.lstore 5, 2) := by decide +kernel
theorem dL_whole_175 : decode cL_whole 175 = .ok (.iload 9, 2) := by decide +kernel
theorem dL_whole_177 : decode cL_whole 177 = .ok (.iload 15, 2) := by decide +kernel
theorem dL_whole_179 : decode cL_whole 179 = .ok (.ifCond .le 7, 3) := by decide +kernel
theorem dL_whole_182 : decode cL_whole 182 = .ok (.iconst 1, 1) := by decide +kernel
theorem dL_whole_183 : decode cL_whole 183 = .ok (.goto 4, 3) := by decide +kernel
theorem dL_whole_186 : decode cL_whole 186 = .ok (.iconst 0, 1) := by decide +kernel
theorem dL_whole_187 : decode cL_whole 187 = .ok (.iadd, 1) := by decide +kernel
theorem dL_whole_188 : decode cL_whole 188 = .ok (.istore 9, 2) := by decide +kernel
theorem dL_whole_190 : decode cL_whole 190 = .ok (.iload 15, 2) := by decide +kernel
theorem dL_whole_192 : decode cL_whole 192 = .ok (.i2l, 1) := by decide +kernel
theorem dL_whole_193 : decode cL_whole 193 = .ok (.lload 10, 2) := by decide +kernel
theorem dL_whole_195 : decode cL_whole 195 = .ok (.lcmp, 1) := by decide +kernel
theorem dL_whole_196 : decode cL_whole 196 = .ok (.ifCond .le 9, 3) := by decide +kernel
theorem dL_whole_199 : decode cL_whole 199 = .ok (.iload 15, 2) := by decide +kernel
theorem dL_whole_201 : decode cL_whole 201 = .ok (.i2l, 1) := by decide +kernel
theorem dL_whole_202 : decode cL_whole 202 = .ok (.goto 5, 3) := by decide +kernel
theorem dL_whole_205 : decode cL_whole 205 = .ok (.lload 10, 2) := by decide +kernel
theorem dL_whole_207 : decode cL_whole 207 = .ok (.lstore 10, 2) := by decide +kernel
theorem dL_whole_209 : decode cL_whole 209 = .ok (.iinc 14 1, 3) := by decide +kernel
theorem dL_whole_212 : decode cL_whole 212 = .ok (.goto (-97), 3) := by decide +kernel
theorem dL_whole_215 : decode cL_whole 215 = .ok (.aload_n 0, 1) := by decide +kernel
theorem dL_whole_216 : decode cL_whole 216 = .ok (.iload 12, 2) := by decide +kernel
theorem dL_whole_218 : decode cL_whole 218 = .ok (.iconst 4, 1) := by decide +kernel
theorem dL_whole_219 : decode cL_whole 219 = .ok (.iload 4, 2) := by decide +kernel
theorem dL_whole_221 : decode cL_whole 221 = .ok (.iadd, 1) := by decide +kernel
theorem dL_whole_222 : decode cL_whole 222 = .ok (.invokevirtual 75, 3) := by decide +kernel
theorem dL_whole_225 : decode cL_whole 225 = .ok (.iload 13, 2) := by decide +kernel
theorem dL_whole_227 : decode cL_whole 227 = .ok (.if_icmp .eq 5, 3) := by decide +kernel
theorem dL_whole_230 : decode cL_whole 230 = .ok (.iconst 0, 1) := by decide +kernel
theorem dL_whole_231 : decode cL_whole 231 = .ok (.ireturn, 1) := by decide +kernel
theorem dL_whole_232 : decode cL_whole 232 = .ok (.lload 7, 2) := by decide +kernel
theorem dL_whole_234 : decode cL_whole 234 = .ok (.iload 12, 2) := by decide +kernel
theorem dL_whole_236 : decode cL_whole 236 = .ok (.i2l, 1) := by decide +kernel
theorem dL_whole_237 : decode cL_whole 237 = .ok (.iload 13, 2) := by decide +kernel
theorem dL_whole_239 : decode cL_whole 239 = .ok (.i2l, 1) := by decide +kernel
theorem dL_whole_240 : decode cL_whole 240 = .ok (.lmul, 1) := by decide +kernel
theorem dL_whole_241 : decode cL_whole 241 = .ok (.ladd, 1) := by decide +kernel
theorem dL_whole_242 : decode cL_whole 242 = .ok (.lstore 7, 2) := by decide +kernel
theorem dL_whole_244 : decode cL_whole 244 = .ok (.iinc 12 1, 3) := by decide +kernel
theorem dL_whole_247 : decode cL_whole 247 = .ok (.goto (-144), 3) := by decide +kernel
theorem dL_whole_250 : decode cL_whole 250 = .ok (.aload_n 1, 1) := by decide +kernel
theorem dL_whole_251 : decode cL_whole 251 = .ok (.iload 4, 2) := by decide +kernel
theorem dL_whole_253 : decode cL_whole 253 = .ok (.iaload, 1) := by decide +kernel
theorem dL_whole_254 : decode cL_whole 254 = .ok (.istore 12, 2) := by decide +kernel
theorem dL_whole_256 : decode cL_whole 256 = .ok (.aload_n 0, 1) := by decide +kernel
theorem dL_whole_257 : decode cL_whole 257 = .ok (.iload 4, 2) := by decide +kernel
theorem dL_whole_259 : decode cL_whole 259 = .ok (.iconst 0, 1) := by decide +kernel
theorem dL_whole_260 : decode cL_whole 260 = .ok (.invokevirtual 101, 3) := by decide +kernel
theorem dL_whole_263 : decode cL_whole 263 = .ok (.iload 12, 2) := by decide +kernel
theorem dL_whole_265 : decode cL_whole 265 = .ok (.i2l, 1) := by decide +kernel
theorem dL_whole_266 : decode cL_whole 266 = .ok (.lcmp, 1) := by decide +kernel
theorem dL_whole_267 : decode cL_whole 267 = .ok (.ifCond .ne 105, 3) := by decide +kernel
theorem dL_whole_270 : decode cL_whole 270 = .ok (.aload_n 0, 1) := by decide +kernel
theorem dL_whole_271 : decode cL_whole 271 = .ok (.iload 4, 2) := by decide +kernel
theorem dL_whole_273 : decode cL_whole 273 = .ok (.iconst 1, 1) := by decide +kernel
theorem dL_whole_274 : decode cL_whole 274 = .ok (.invokevirtual 101, 3) := by decide +kernel
theorem dL_whole_277 : decode cL_whole 277 = .ok (.lload 5, 2) := by decide +kernel
theorem dL_whole_279 : decode cL_whole 279 = .ok (.lcmp, 1) := by decide +kernel
theorem dL_whole_280 : decode cL_whole 280 = .ok (.ifCond .ne 92, 3) := by decide +kernel
theorem dL_whole_283 : decode cL_whole 283 = .ok (.aload_n 0, 1) := by decide +kernel
theorem dL_whole_284 : decode cL_whole 284 = .ok (.iload 4, 2) := by decide +kernel
theorem dL_whole_286 : decode cL_whole 286 = .ok (.iconst 2, 1) := by decide +kernel
theorem dL_whole_287 : decode cL_whole 287 = .ok (.invokevirtual 101, 3) := by decide +kernel
theorem dL_whole_290 : decode cL_whole 290 = .ok (.iload 9, 2) := by decide +kernel
theorem dL_whole_292 : decode cL_whole 292 = .ok (.i2l, 1) := by decide +kernel
theorem dL_whole_293 : decode cL_whole 293 = .ok (.lcmp, 1) := by decide +kernel
theorem dL_whole_294 : decode cL_whole 294 = .ok (.ifCond .ne 78, 3) := by decide +kernel
theorem dL_whole_297 : decode cL_whole 297 = .ok (.aload_n 0, 1) := by decide +kernel
theorem dL_whole_298 : decode cL_whole 298 = .ok (.iload 4, 2) := by decide +kernel
theorem dL_whole_300 : decode cL_whole 300 = .ok (.iconst 3, 1) := by decide +kernel
theorem dL_whole_301 : decode cL_whole 301 = .ok (.invokevirtual 101, 3) := by decide +kernel
theorem dL_whole_304 : decode cL_whole 304 = .ok (.lload 10, 2) := by decide +kernel
theorem dL_whole_306 : decode cL_whole 306 = .ok (.lcmp, 1) := by decide +kernel
theorem dL_whole_307 : decode cL_whole 307 = .ok (.ifCond .ne 65, 3) := by decide +kernel
theorem dL_whole_310 : decode cL_whole 310 = .ok (.aload_n 0, 1) := by decide +kernel
theorem dL_whole_311 : decode cL_whole 311 = .ok (.iload 4, 2) := by decide +kernel
theorem dL_whole_313 : decode cL_whole 313 = .ok (.iconst 4, 1) := by decide +kernel
theorem dL_whole_314 : decode cL_whole 314 = .ok (.invokevirtual 101, 3) := by decide +kernel
theorem dL_whole_317 : decode cL_whole 317 = .ok (.iload 12, 2) := by decide +kernel
theorem dL_whole_319 : decode cL_whole 319 = .ok (.ifCond .ne 9, 3) := by decide +kernel
theorem dL_whole_322 : decode cL_whole 322 = .ok (.ldc2_w 105, 3) := by decide +kernel
theorem dL_whole_325 : decode cL_whole 325 = .ok (.goto 13, 3) := by decide +kernel
theorem dL_whole_328 : decode cL_whole 328 = .ok (.ldc2_w 107, 3) := by decide +kernel
theorem dL_whole_331 : decode cL_whole 331 = .ok (.lload 7, 2) := by decide +kernel
theorem dL_whole_333 : decode cL_whole 333 = .ok (.lmul, 1) := by decide +kernel
theorem dL_whole_334 : decode cL_whole 334 = .ok (.iload 12, 2) := by decide +kernel
theorem dL_whole_336 : decode cL_whole 336 = .ok (.i2l, 1) := by decide +kernel
theorem dL_whole_337 : decode cL_whole 337 = .ok (.ldiv, 1) := by decide +kernel
theorem dL_whole_338 : decode cL_whole 338 = .ok (.lcmp, 1) := by decide +kernel
theorem dL_whole_339 : decode cL_whole 339 = .ok (.ifCond .ne 33, 3) := by decide +kernel
theorem dL_whole_342 : decode cL_whole 342 = .ok (.aload_n 0, 1) := by decide +kernel
theorem dL_whole_343 : decode cL_whole 343 = .ok (.iload 4, 2) := by decide +kernel
theorem dL_whole_345 : decode cL_whole 345 = .ok (.iconst 5, 1) := by decide +kernel
theorem dL_whole_346 : decode cL_whole 346 = .ok (.invokevirtual 101, 3) := by decide +kernel
theorem dL_whole_349 : decode cL_whole 349 = .ok (.lconst 0, 1) := by decide +kernel
theorem dL_whole_350 : decode cL_whole 350 = .ok (.lcmp, 1) := by decide +kernel
theorem dL_whole_351 : decode cL_whole 351 = .ok (.ifCond .lt 21, 3) := by decide +kernel
theorem dL_whole_354 : decode cL_whole 354 = .ok (.aload_n 0, 1) := by decide +kernel
theorem dL_whole_355 : decode cL_whole 355 = .ok (.iload 4, 2) := by decide +kernel
theorem dL_whole_357 : decode cL_whole 357 = .ok (.iconst 5, 1) := by decide +kernel
theorem dL_whole_358 : decode cL_whole 358 = .ok (.invokevirtual 101, 3) := by decide +kernel
theorem dL_whole_361 : decode cL_whole 361 = .ok (.ldc2_w 109, 3) := by decide +kernel
theorem dL_whole_364 : decode cL_whole 364 = .ok (.iload 12, 2) := by decide +kernel
theorem dL_whole_366 : decode cL_whole 366 = .ok (.i2l, 1) := by decide +kernel
theorem dL_whole_367 : decode cL_whole 367 = .ok (.lmul, 1) := by decide +kernel
theorem dL_whole_368 : decode cL_whole 368 = .ok (.lcmp, 1) := by decide +kernel
theorem dL_whole_369 : decode cL_whole 369 = .ok (.ifCond .le 5, 3) := by decide +kernel
theorem dL_whole_372 : decode cL_whole 372 = .ok (.iconst 0, 1) := by decide +kernel
theorem dL_whole_373 : decode cL_whole 373 = .ok (.ireturn, 1) := by decide +kernel
theorem dL_whole_374 : decode cL_whole 374 = .ok (.iinc 4 1, 3) := by decide +kernel
theorem dL_whole_377 : decode cL_whole 377 = .ok (.goto (-295), 3) := by decide +kernel
theorem dL_whole_380 : decode cL_whole 380 = .ok (.iconst 1, 1) := by decide +kernel
theorem dL_whole_381 : decode cL_whole 381 = .ok (.ireturn, 1) := by decide +kernel
theorem dL_alone_0 : decode cL_alone 0 = .ok (.aload_n 0, 1) := by decide +kernel
theorem dL_alone_1 : decode cL_alone 1 = .ok (.iconst 0, 1) := by decide +kernel
theorem dL_alone_2 : decode cL_alone 2 = .ok (.invokevirtual 111, 3) := by decide +kernel
theorem dL_alone_5 : decode cL_alone 5 = .ok (.istore_n 2, 1) := by decide +kernel
theorem dL_alone_6 : decode cL_alone 6 = .ok (.aload_n 0, 1) := by decide +kernel
theorem dL_alone_7 : decode cL_alone 7 = .ok (.iconst 1, 1) := by decide +kernel
theorem dL_alone_8 : decode cL_alone 8 = .ok (.invokevirtual 60, 3) := by decide +kernel
theorem dL_alone_11 : decode cL_alone 11 = .ok (.istore_n 3, 1) := by decide +kernel
theorem dL_alone_12 : decode cL_alone 12 = .ok (.aload_n 0, 1) := by decide +kernel
theorem dL_alone_13 : decode cL_alone 13 = .ok (.iconst 5, 1) := by decide +kernel
theorem dL_alone_14 : decode cL_alone 14 = .ok (.iconst 0, 1) := by decide +kernel
theorem dL_alone_15 : decode cL_alone 15 = .ok (.invokevirtual 85, 3) := by decide +kernel
theorem dL_alone_18 : decode cL_alone 18 = .ok (.pop, 1) := by decide +kernel
theorem dL_alone_19 : decode cL_alone 19 = .ok (.aload_n 0, 1) := by decide +kernel
theorem dL_alone_20 : decode cL_alone 20 = .ok (.bipush 6, 2) := by decide +kernel
theorem dL_alone_22 : decode cL_alone 22 = .ok (.iconst 0, 1) := by decide +kernel
theorem dL_alone_23 : decode cL_alone 23 = .ok (.invokevirtual 85, 3) := by decide +kernel
theorem dL_alone_26 : decode cL_alone 26 = .ok (.pop, 1) := by decide +kernel
theorem dL_alone_27 : decode cL_alone 27 = .ok (.iload_n 1, 1) := by decide +kernel
theorem dL_alone_28 : decode cL_alone 28 = .ok (.iload_n 3, 1) := by decide +kernel
theorem dL_alone_29 : decode cL_alone 29 = .ok (.invokestatic 22, 3) := by decide +kernel
theorem dL_alone_32 : decode cL_alone 32 = .ok (.istore 4, 2) := by decide +kernel
theorem dL_alone_34 : decode cL_alone 34 = .ok (.aload_n 0, 1) := by decide +kernel
theorem dL_alone_35 : decode cL_alone 35 = .ok (.iload 4, 2) := by decide +kernel
theorem dL_alone_37 : decode cL_alone 37 = .ok (.iconst 2, 1) := by decide +kernel
theorem dL_alone_38 : decode cL_alone 38 = .ok (.invokevirtual 75, 3) := by decide +kernel
theorem dL_alone_41 : decode cL_alone 41 = .ok (.sipush 150, 3) := by decide +kernel
theorem dL_alone_44 : decode cL_alone 44 = .ok (.idiv, 1) := by decide +kernel
theorem dL_alone_45 : decode cL_alone 45 = .ok (.istore 5, 2) := by decide +kernel
theorem dL_alone_47 : decode cL_alone 47 = .ok (.bipush 48, 2) := by decide +kernel
theorem dL_alone_49 : decode cL_alone 49 = .ok (.newarray .int, 2) := by decide +kernel
theorem dL_alone_51 : decode cL_alone 51 = .ok (.astore 6, 2) := by decide +kernel
theorem dL_alone_53 : decode cL_alone 53 = .ok (.iconst 0, 1) := by decide +kernel
theorem dL_alone_54 : decode cL_alone 54 = .ok (.istore 7, 2) := by decide +kernel
theorem dL_alone_56 : decode cL_alone 56 = .ok (.iload 7, 2) := by decide +kernel
theorem dL_alone_58 : decode cL_alone 58 = .ok (.bipush 48, 2) := by decide +kernel
theorem dL_alone_60 : decode cL_alone 60 = .ok (.if_icmp .ge 31, 3) := by decide +kernel
theorem dL_alone_63 : decode cL_alone 63 = .ok (.aload 6, 2) := by decide +kernel
theorem dL_alone_65 : decode cL_alone 65 = .ok (.iload 7, 2) := by decide +kernel
theorem dL_alone_67 : decode cL_alone 67 = .ok (.aload_n 0, 1) := by decide +kernel
theorem dL_alone_68 : decode cL_alone 68 = .ok (.iconst 1, 1) := by decide +kernel
theorem dL_alone_69 : decode cL_alone 69 = .ok (.iload 7, 2) := by decide +kernel
theorem dL_alone_71 : decode cL_alone 71 = .ok (.bipush 24, 2) := by decide +kernel
theorem dL_alone_73 : decode cL_alone 73 = .ok (.idiv, 1) := by decide +kernel
theorem dL_alone_74 : decode cL_alone 74 = .ok (.iload 4, 2) := by decide +kernel
theorem dL_alone_76 : decode cL_alone 76 = .ok (.iload 7, 2) := by decide +kernel
theorem dL_alone_78 : decode cL_alone 78 = .ok (.bipush 24, 2) := by decide +kernel
theorem dL_alone_80 : decode cL_alone 80 = .ok (.irem, 1) := by decide +kernel
theorem dL_alone_81 : decode cL_alone 81 = .ok (.invokevirtual 67, 3) := by decide +kernel
theorem dL_alone_84 : decode cL_alone 84 = .ok (.iastore, 1) := by decide +kernel
theorem dL_alone_85 : decode cL_alone 85 = .ok (.iinc 7 1, 3) := by decide +kernel
theorem dL_alone_88 : decode cL_alone 88 = .ok (.goto (-32), 3) := by decide +kernel
theorem dL_alone_91 : decode cL_alone 91 = .ok (.aload_n 0, 1) := by decide +kernel
theorem dL_alone_92 : decode cL_alone 92 = .ok (.iconst 1, 1) := by decide +kernel
theorem dL_alone_93 : decode cL_alone 93 = .ok (.iload_n 1, 1) := by decide +kernel
theorem dL_alone_94 : decode cL_alone 94 = .ok (.iconst 4, 1) := by decide +kernel
theorem dL_alone_95 : decode cL_alone 95 = .ok (.ishr, 1) := by decide +kernel
theorem dL_alone_96 : decode cL_alone 96 = .ok (.bipush 20, 2) := by decide +kernel
theorem dL_alone_98 : decode cL_alone 98 = .ok (.invokestatic 22, 3) := by decide +kernel
theorem dL_alone_101 : decode cL_alone 101 = .ok (.iadd, 1) := by decide +kernel
theorem dL_alone_102 : decode cL_alone 102 = .ok (.invokevirtual 94, 3) := by decide +kernel
theorem dL_alone_105 : decode cL_alone 105 = .ok (.pop, 1) := by decide +kernel
theorem dL_alone_106 : decode cL_alone 106 = .ok (.aload_n 0, 1) := by decide +kernel
theorem dL_alone_107 : decode cL_alone 107 = .ok (.iload 4, 2) := by decide +kernel
theorem dL_alone_109 : decode cL_alone 109 = .ok (.iconst 2, 1) := by decide +kernel
theorem dL_alone_110 : decode cL_alone 110 = .ok (.invokevirtual 75, 3) := by decide +kernel
theorem dL_alone_113 : decode cL_alone 113 = .ok (.sipush 150, 3) := by decide +kernel
theorem dL_alone_116 : decode cL_alone 116 = .ok (.idiv, 1) := by decide +kernel
theorem dL_alone_117 : decode cL_alone 117 = .ok (.iload 5, 2) := by decide +kernel
theorem dL_alone_119 : decode cL_alone 119 = .ok (.isub, 1) := by decide +kernel
theorem dL_alone_120 : decode cL_alone 120 = .ok (.bipush 24, 2) := by decide +kernel
theorem dL_alone_122 : decode cL_alone 122 = .ok (.irem, 1) := by decide +kernel
theorem dL_alone_123 : decode cL_alone 123 = .ok (.bipush 24, 2) := by decide +kernel
theorem dL_alone_125 : decode cL_alone 125 = .ok (.iadd, 1) := by decide +kernel
theorem dL_alone_126 : decode cL_alone 126 = .ok (.bipush 24, 2) := by decide +kernel
theorem dL_alone_128 : decode cL_alone 128 = .ok (.irem, 1) := by decide +kernel
theorem dL_alone_129 : decode cL_alone 129 = .ok (.istore 7, 2) := by decide +kernel
theorem dL_alone_131 : decode cL_alone 131 = .ok (.iconst 0, 1) := by decide +kernel
theorem dL_alone_132 : decode cL_alone 132 = .ok (.istore 8, 2) := by decide +kernel
theorem dL_alone_134 : decode cL_alone 134 = .ok (.iload 8, 2) := by decide +kernel
theorem dL_alone_136 : decode cL_alone 136 = .ok (.bipush 48, 2) := by decide +kernel
theorem dL_alone_138 : decode cL_alone 138 = .ok (.if_icmp .ge 39, 3) := by decide +kernel
theorem dL_alone_141 : decode cL_alone 141 = .ok (.aload_n 0, 1) := by decide +kernel
theorem dL_alone_142 : decode cL_alone 142 = .ok (.iconst 1, 1) := by decide +kernel
theorem dL_alone_143 : decode cL_alone 143 = .ok (.iload 8, 2) := by decide +kernel
theorem dL_alone_145 : decode cL_alone 145 = .ok (.bipush 24, 2) := by decide +kernel
theorem dL_alone_147 : decode cL_alone 147 = .ok (.idiv, 1) := by decide +kernel
theorem dL_alone_148 : decode cL_alone 148 = .ok (.iload 4, 2) := by decide +kernel
theorem dL_alone_150 : decode cL_alone 150 = .ok (.iload 8, 2) := by decide +kernel
theorem dL_alone_152 : decode cL_alone 152 = .ok (.iload 7, 2) := by decide +kernel
theorem dL_alone_154 : decode cL_alone 154 = .ok (.iadd, 1) := by decide +kernel
theorem dL_alone_155 : decode cL_alone 155 = .ok (.bipush 24, 2) := by decide +kernel
theorem dL_alone_157 : decode cL_alone 157 = .ok (.irem, 1) := by decide +kernel
theorem dL_alone_158 : decode cL_alone 158 = .ok (.invokevirtual 67, 3) := by decide +kernel
theorem dL_alone_161 : decode cL_alone 161 = .ok (.aload 6, 2) := by decide +kernel
theorem dL_alone_163 : decode cL_alone 163 = .ok (.iload 8, 2) := by decide +kernel
theorem dL_alone_165 : decode cL_alone 165 = .ok (.iaload, 1) := by decide +kernel
theorem dL_alone_166 : decode cL_alone 166 = .ok (.if_icmp .eq 5, 3) := by decide +kernel
theorem dL_alone_169 : decode cL_alone 169 = .ok (.iconst 0, 1) := by decide +kernel
theorem dL_alone_170 : decode cL_alone 170 = .ok (.ireturn, 1) := by decide +kernel
theorem dL_alone_171 : decode cL_alone 171 = .ok (.iinc 8 1, 3) := by decide +kernel
theorem dL_alone_174 : decode cL_alone 174 = .ok (.goto (-40), 3) := by decide +kernel
theorem dL_alone_177 : decode cL_alone 177 = .ok (.aload_n 0, 1) := by decide +kernel
theorem dL_alone_178 : decode cL_alone 178 = .ok (.iconst 0, 1) := by decide +kernel
theorem dL_alone_179 : decode cL_alone 179 = .ok (.invokevirtual 114, 3) := by decide +kernel
theorem dL_alone_182 : decode cL_alone 182 = .ok (.iload_n 2, 1) := by decide +kernel
theorem dL_alone_183 : decode cL_alone 183 = .ok (.if_icmp .ne 7, 3) := by decide +kernel
theorem dL_alone_186 : decode cL_alone 186 = .ok (.iconst 1, 1) := by decide +kernel
theorem dL_alone_187 : decode cL_alone 187 = .ok (.goto 4, 3) := by decide +kernel
theorem dL_alone_190 : decode cL_alone 190 = .ok (.iconst 0, 1) := by decide +kernel
theorem dL_alone_191 : decode cL_alone 191 = .ok (.ireturn, 1) := by decide +kernel
theorem dL_settled_0 : decode cL_settled 0 = .ok (.iload_n 1, 1) := by decide +kernel
theorem dL_settled_1 : decode cL_settled 1 = .ok (.sipush 200, 3) := by decide +kernel
theorem dL_settled_4 : decode cL_settled 4 = .ok (.invokestatic 22, 3) := by decide +kernel
theorem dL_settled_7 : decode cL_settled 7 = .ok (.istore_n 2, 1) := by decide +kernel
theorem dL_settled_8 : decode cL_settled 8 = .ok (.iconst 1, 1) := by decide +kernel
theorem dL_settled_9 : decode cL_settled 9 = .ok (.iload_n 1, 1) := by decide +kernel
theorem dL_settled_10 : decode cL_settled 10 = .ok (.bipush 8, 2) := by decide +kernel
theorem dL_settled_12 : decode cL_settled 12 = .ok (.ishr, 1) := by decide +kernel
theorem dL_settled_13 : decode cL_settled 13 = .ok (.bipush 60, 2) := by decide +kernel
theorem dL_settled_15 : decode cL_settled 15 = .ok (.invokestatic 22, 3) := by decide +kernel
theorem dL_settled_18 : decode cL_settled 18 = .ok (.iadd, 1) := by decide +kernel
theorem dL_settled_19 : decode cL_settled 19 = .ok (.istore_n 3, 1) := by decide +kernel
theorem dL_settled_20 : decode cL_settled 20 = .ok (.aload_n 0, 1) := by decide +kernel
theorem dL_settled_21 : decode cL_settled 21 = .ok (.iload_n 2, 1) := by decide +kernel
theorem dL_settled_22 : decode cL_settled 22 = .ok (.iload_n 3, 1) := by decide +kernel
theorem dL_settled_23 : decode cL_settled 23 = .ok (.invokevirtual 117, 3) := by decide +kernel
theorem dL_settled_26 : decode cL_settled 26 = .ok (.istore 4, 2) := by decide +kernel
theorem dL_settled_28 : decode cL_settled 28 = .ok (.aload_n 0, 1) := by decide +kernel
theorem dL_settled_29 : decode cL_settled 29 = .ok (.iconst 0, 1) := by decide +kernel
theorem dL_settled_30 : decode cL_settled 30 = .ok (.invokevirtual 111, 3) := by decide +kernel
theorem dL_settled_33 : decode cL_settled 33 = .ok (.istore 5, 2) := by decide +kernel
theorem dL_settled_35 : decode cL_settled 35 = .ok (.iconst 0, 1) := by decide +kernel
theorem dL_settled_36 : decode cL_settled 36 = .ok (.istore 6, 2) := by decide +kernel
theorem dL_settled_38 : decode cL_settled 38 = .ok (.iload 6, 2) := by decide +kernel
theorem dL_settled_40 : decode cL_settled 40 = .ok (.iload 4, 2) := by decide +kernel
theorem dL_settled_42 : decode cL_settled 42 = .ok (.ifCond .ge 7, 3) := by decide +kernel
theorem dL_settled_45 : decode cL_settled 45 = .ok (.iload_n 3, 1) := by decide +kernel
theorem dL_settled_46 : decode cL_settled 46 = .ok (.goto 5, 3) := by decide +kernel
theorem dL_settled_49 : decode cL_settled 49 = .ok (.iload 4, 2) := by decide +kernel
theorem dL_settled_51 : decode cL_settled 51 = .ok (.if_icmp .gt 95, 3) := by decide +kernel
theorem dL_settled_54 : decode cL_settled 54 = .ok (.iconst 1, 1) := by decide +kernel
theorem dL_settled_55 : decode cL_settled 55 = .ok (.istore 7, 2) := by decide +kernel
theorem dL_settled_57 : decode cL_settled 57 = .ok (.iconst 0, 1) := by decide +kernel
theorem dL_settled_58 : decode cL_settled 58 = .ok (.istore 8, 2) := by decide +kernel
theorem dL_settled_60 : decode cL_settled 60 = .ok (.iload 8, 2) := by decide +kernel
theorem dL_settled_62 : decode cL_settled 62 = .ok (.aload_n 0, 1) := by decide +kernel
theorem dL_settled_63 : decode cL_settled 63 = .ok (.iconst 1, 1) := by decide +kernel
theorem dL_settled_64 : decode cL_settled 64 = .ok (.invokevirtual 60, 3) := by decide +kernel
theorem dL_settled_67 : decode cL_settled 67 = .ok (.if_icmp .ge 48, 3) := by decide +kernel
theorem dL_settled_70 : decode cL_settled 70 = .ok (.aload_n 0, 1) := by decide +kernel
theorem dL_settled_71 : decode cL_settled 71 = .ok (.iload 8, 2) := by decide +kernel
theorem dL_settled_73 : decode cL_settled 73 = .ok (.iconst 0, 1) := by decide +kernel
theorem dL_settled_74 : decode cL_settled 74 = .ok (.invokevirtual 75, 3) := by decide +kernel
theorem dL_settled_77 : decode cL_settled 77 = .ok (.aload_n 0, 1) := by decide +kernel
theorem dL_settled_78 : decode cL_settled 78 = .ok (.bipush 10, 2) := by decide +kernel
theorem dL_settled_80 : decode cL_settled 80 = .ok (.invokevirtual 60, 3) := by decide +kernel
theorem dL_settled_83 : decode cL_settled 83 = .ok (.isub, 1) := by decide +kernel
theorem dL_settled_84 : decode cL_settled 84 = .ok (.istore 9, 2) := by decide +kernel
theorem dL_settled_86 : decode cL_settled 86 = .ok (.iload 7, 2) := by decide +kernel
theorem dL_settled_88 : decode cL_settled 88 = .ok (.iload 9, 2) := by decide +kernel
theorem dL_settled_90 : decode cL_settled 90 = .ok (.iload_n 2, 1) := by decide +kernel
theorem dL_settled_91 : decode cL_settled 91 = .ok (.if_icmp .gt 14, 3) := by decide +kernel
theorem dL_settled_94 : decode cL_settled 94 = .ok (.iload 9, 2) := by decide +kernel
theorem dL_settled_96 : decode cL_settled 96 = .ok (.ineg, 1) := by decide +kernel
theorem dL_settled_97 : decode cL_settled 97 = .ok (.iload_n 2, 1) := by decide +kernel
theorem dL_settled_98 : decode cL_settled 98 = .ok (.if_icmp .gt 7, 3) := by decide +kernel
theorem dL_settled_101 : decode cL_settled 101 = .ok (.iconst 1, 1) := by decide +kernel
theorem dL_settled_102 : decode cL_settled 102 = .ok (.goto 4, 3) := by decide +kernel
theorem dL_settled_105 : decode cL_settled 105 = .ok (.iconst 0, 1) := by decide +kernel
theorem dL_settled_106 : decode cL_settled 106 = .ok (.iand, 1) := by decide +kernel
theorem dL_settled_107 : decode cL_settled 107 = .ok (.istore 7, 2) := by decide +kernel
theorem dL_settled_109 : decode cL_settled 109 = .ok (.iinc 8 1, 3) := by decide +kernel
theorem dL_settled_112 : decode cL_settled 112 = .ok (.goto (-52), 3) := by decide +kernel
theorem dL_settled_115 : decode cL_settled 115 = .ok (.iload 7, 2) := by decide +kernel
theorem dL_settled_117 : decode cL_settled 117 = .ok (.iload 6, 2) := by decide +kernel
theorem dL_settled_119 : decode cL_settled 119 = .ok (.iload 4, 2) := by decide +kernel
theorem dL_settled_121 : decode cL_settled 121 = .ok (.if_icmp .ne 7, 3) := by decide +kernel
theorem dL_settled_124 : decode cL_settled 124 = .ok (.iconst 1, 1) := by decide +kernel
theorem dL_settled_125 : decode cL_settled 125 = .ok (.goto 4, 3) := by decide +kernel
theorem dL_settled_128 : decode cL_settled 128 = .ok (.iconst 0, 1) := by decide +kernel
theorem dL_settled_129 : decode cL_settled 129 = .ok (.if_icmp .eq 5, 3) := by decide +kernel
theorem dL_settled_132 : decode cL_settled 132 = .ok (.iconst 0, 1) := by decide +kernel
theorem dL_settled_133 : decode cL_settled 133 = .ok (.ireturn, 1) := by decide +kernel
theorem dL_settled_134 : decode cL_settled 134 = .ok (.aload_n 0, 1) := by decide +kernel
theorem dL_settled_135 : decode cL_settled 135 = .ok (.iconst 1, 1) := by decide +kernel
theorem dL_settled_136 : decode cL_settled 136 = .ok (.invokevirtual 94, 3) := by decide +kernel
theorem dL_settled_139 : decode cL_settled 139 = .ok (.pop, 1) := by decide +kernel
theorem dL_settled_140 : decode cL_settled 140 = .ok (.iinc 6 1, 3) := by decide +kernel
theorem dL_settled_143 : decode cL_settled 143 = .ok (.goto (-105), 3) := by decide +kernel
theorem dL_settled_146 : decode cL_settled 146 = .ok (.aload_n 0, 1) := by decide +kernel
theorem dL_settled_147 : decode cL_settled 147 = .ok (.iconst 0, 1) := by decide +kernel
theorem dL_settled_148 : decode cL_settled 148 = .ok (.invokevirtual 114, 3) := by decide +kernel
theorem dL_settled_151 : decode cL_settled 151 = .ok (.iload 5, 2) := by decide +kernel
theorem dL_settled_153 : decode cL_settled 153 = .ok (.if_icmp .ne 18, 3) := by decide +kernel
theorem dL_settled_156 : decode cL_settled 156 = .ok (.aload_n 0, 1) := by decide +kernel
theorem dL_settled_157 : decode cL_settled 157 = .ok (.iload_n 2, 1) := by decide +kernel
theorem dL_settled_158 : decode cL_settled 158 = .ok (.iload_n 3, 1) := by decide +kernel
theorem dL_settled_159 : decode cL_settled 159 = .ok (.invokevirtual 117, 3) := by decide +kernel
theorem dL_settled_162 : decode cL_settled 162 = .ok (.iload 4, 2) := by decide +kernel
theorem dL_settled_164 : decode cL_settled 164 = .ok (.if_icmp .ne 7, 3) := by decide +kernel
theorem dL_settled_167 : decode cL_settled 167 = .ok (.iconst 1, 1) := by decide +kernel
theorem dL_settled_168 : decode cL_settled 168 = .ok (.goto 4, 3) := by decide +kernel
theorem dL_settled_171 : decode cL_settled 171 = .ok (.iconst 0, 1) := by decide +kernel
theorem dL_settled_172 : decode cL_settled 172 = .ok (.ireturn, 1) := by decide +kernel
theorem dL_arrived_0 : decode cL_arrived 0 = .ok (.iload_n 2, 1) := by decide +kernel
theorem dL_arrived_1 : decode cL_arrived 1 = .ok (.iconst 3, 1) := by decide +kernel
theorem dL_arrived_2 : decode cL_arrived 2 = .ok (.invokestatic 22, 3) := by decide +kernel
theorem dL_arrived_5 : decode cL_arrived 5 = .ok (.istore_n 3, 1) := by decide +kernel
theorem dL_arrived_6 : decode cL_arrived 6 = .ok (.iload_n 2, 1) := by decide +kernel
theorem dL_arrived_7 : decode cL_arrived 7 = .ok (.iconst 2, 1) := by decide +kernel
theorem dL_arrived_8 : decode cL_arrived 8 = .ok (.ishr, 1) := by decide +kernel
theorem dL_arrived_9 : decode cL_arrived 9 = .ok (.aload_n 0, 1) := by decide +kernel
theorem dL_arrived_10 : decode cL_arrived 10 = .ok (.iconst 1, 1) := by decide +kernel
theorem dL_arrived_11 : decode cL_arrived 11 = .ok (.invokevirtual 60, 3) := by decide +kernel
theorem dL_arrived_14 : decode cL_arrived 14 = .ok (.invokestatic 22, 3) := by decide +kernel
theorem dL_arrived_17 : decode cL_arrived 17 = .ok (.istore 4, 2) := by decide +kernel
theorem dL_arrived_19 : decode cL_arrived 19 = .ok (.iconst 1, 1) := by decide +kernel
theorem dL_arrived_20 : decode cL_arrived 20 = .ok (.iload_n 2, 1) := by decide +kernel
theorem dL_arrived_21 : decode cL_arrived 21 = .ok (.bipush 6, 2) := by decide +kernel
theorem dL_arrived_23 : decode cL_arrived 23 = .ok (.ishr, 1) := by decide +kernel
theorem dL_arrived_24 : decode cL_arrived 24 = .ok (.sipush 400, 3) := by decide +kernel
theorem dL_arrived_27 : decode cL_arrived 27 = .ok (.invokestatic 22, 3) := by decide +kernel
theorem dL_arrived_30 : decode cL_arrived 30 = .ok (.iadd, 1) := by decide +kernel
theorem dL_arrived_31 : decode cL_arrived 31 = .ok (.istore 5, 2) := by decide +kernel
theorem dL_arrived_33 : decode cL_arrived 33 = .ok (.iconst 1, 1) := by decide +kernel
theorem dL_arrived_34 : decode cL_arrived 34 = .ok (.iload_n 2, 1) := by decide +kernel
theorem dL_arrived_35 : decode cL_arrived 35 = .ok (.bipush 9, 2) := by decide +kernel
theorem dL_arrived_37 : decode cL_arrived 37 = .ok (.ishr, 1) := by decide +kernel
theorem dL_arrived_38 : decode cL_arrived 38 = .ok (.bipush 40, 2) := by decide +kernel
theorem dL_arrived_40 : decode cL_arrived 40 = .ok (.invokestatic 22, 3) := by decide +kernel
theorem dL_arrived_43 : decode cL_arrived 43 = .ok (.iadd, 1) := by decide +kernel
theorem dL_arrived_44 : decode cL_arrived 44 = .ok (.istore 6, 2) := by decide +kernel
theorem dL_arrived_46 : decode cL_arrived 46 = .ok (.aload_n 0, 1) := by decide +kernel
theorem dL_arrived_47 : decode cL_arrived 47 = .ok (.iload_n 3, 1) := by decide +kernel
theorem dL_arrived_48 : decode cL_arrived 48 = .ok (.iload 4, 2) := by decide +kernel
theorem dL_arrived_50 : decode cL_arrived 50 = .ok (.iload 5, 2) := by decide +kernel
theorem dL_arrived_52 : decode cL_arrived 52 = .ok (.iload 6, 2) := by decide +kernel
theorem dL_arrived_54 : decode cL_arrived 54 = .ok (.invokevirtual 120, 3) := by decide +kernel
theorem dL_arrived_57 : decode cL_arrived 57 = .ok (.istore 7, 2) := by decide +kernel
theorem dL_arrived_59 : decode cL_arrived 59 = .ok (.aload_n 1, 1) := by decide +kernel
theorem dL_arrived_60 : decode cL_arrived 60 = .ok (.iload_n 3, 1) := by decide +kernel
theorem dL_arrived_61 : decode cL_arrived 61 = .ok (.iaload, 1) := by decide +kernel
theorem dL_arrived_62 : decode cL_arrived 62 = .ok (.ifCond .ne 16, 3) := by decide +kernel
theorem dL_arrived_65 : decode cL_arrived 65 = .ok (.iload 7, 2) := by decide +kernel
theorem dL_arrived_67 : decode cL_arrived 67 = .ok (.bipush (-5), 2) := by decide +kernel
theorem dL_arrived_69 : decode cL_arrived 69 = .ok (.if_icmp .ne 7, 3) := by decide +kernel
theorem dL_arrived_72 : decode cL_arrived 72 = .ok (.iconst 1, 1) := by decide +kernel
theorem dL_arrived_73 : decode cL_arrived 73 = .ok (.goto 4, 3) := by decide +kernel
theorem dL_arrived_76 : decode cL_arrived 76 = .ok (.iconst 0, 1) := by decide +kernel
theorem dL_arrived_77 : decode cL_arrived 77 = .ok (.ireturn, 1) := by decide +kernel
theorem dL_arrived_78 : decode cL_arrived 78 = .ok (.aload_n 0, 1) := by decide +kernel
theorem dL_arrived_79 : decode cL_arrived 79 = .ok (.iconst 0, 1) := by decide +kernel
theorem dL_arrived_80 : decode cL_arrived 80 = .ok (.invokevirtual 111, 3) := by decide +kernel
theorem dL_arrived_83 : decode cL_arrived 83 = .ok (.istore 8, 2) := by decide +kernel
theorem dL_arrived_85 : decode cL_arrived 85 = .ok (.iconst 0, 1) := by decide +kernel
theorem dL_arrived_86 : decode cL_arrived 86 = .ok (.istore 9, 2) := by decide +kernel
theorem dL_arrived_88 : decode cL_arrived 88 = .ok (.iload 9, 2) := by decide +kernel
theorem dL_arrived_90 : decode cL_arrived 90 = .ok (.iload 7, 2) := by decide +kernel
theorem dL_arrived_92 : decode cL_arrived 92 = .ok (.ifCond .ge 8, 3) := by decide +kernel
theorem dL_arrived_95 : decode cL_arrived 95 = .ok (.iload 6, 2) := by decide +kernel
theorem dL_arrived_97 : decode cL_arrived 97 = .ok (.goto 5, 3) := by decide +kernel
theorem dL_arrived_100 : decode cL_arrived 100 = .ok (.iload 7, 2) := by decide +kernel
theorem dL_arrived_102 : decode cL_arrived 102 = .ok (.if_icmp .gt 67, 3) := by decide +kernel
theorem dL_arrived_105 : decode cL_arrived 105 = .ok (.ldc2_w 107, 3) := by decide +kernel
theorem dL_arrived_108 : decode cL_arrived 108 = .ok (.aload_n 0, 1) := by decide +kernel
theorem dL_arrived_109 : decode cL_arrived 109 = .ok (.iload 4, 2) := by decide +kernel
theorem dL_arrived_111 : decode cL_arrived 111 = .ok (.iconst 4, 1) := by decide +kernel
theorem dL_arrived_112 : decode cL_arrived 112 = .ok (.iload_n 3, 1) := by decide +kernel
theorem dL_arrived_113 : decode cL_arrived 113 = .ok (.iadd, 1) := by decide +kernel
theorem dL_arrived_114 : decode cL_arrived 114 = .ok (.invokevirtual 75, 3) := by decide +kernel
theorem dL_arrived_117 : decode cL_arrived 117 = .ok (.i2l, 1) := by decide +kernel
theorem dL_arrived_118 : decode cL_arrived 118 = .ok (.lmul, 1) := by decide +kernel
theorem dL_arrived_119 : decode cL_arrived 119 = .ok (.iload 5, 2) := by decide +kernel
theorem dL_arrived_121 : decode cL_arrived 121 = .ok (.i2l, 1) := by decide +kernel
theorem dL_arrived_122 : decode cL_arrived 122 = .ok (.aload_n 1, 1) := by decide +kernel
theorem dL_arrived_123 : decode cL_arrived 123 = .ok (.iload_n 3, 1) := by decide +kernel
theorem dL_arrived_124 : decode cL_arrived 124 = .ok (.iaload, 1) := by decide +kernel
theorem dL_arrived_125 : decode cL_arrived 125 = .ok (.i2l, 1) := by decide +kernel
theorem dL_arrived_126 : decode cL_arrived 126 = .ok (.lmul, 1) := by decide +kernel
theorem dL_arrived_127 : decode cL_arrived 127 = .ok (.lcmp, 1) := by decide +kernel
theorem dL_arrived_128 : decode cL_arrived 128 = .ok (.ifCond .lt 7, 3) := by decide +kernel
theorem dL_arrived_131 : decode cL_arrived 131 = .ok (.iconst 1, 1) := by decide +kernel
theorem dL_arrived_132 : decode cL_arrived 132 = .ok (.goto 4, 3) := by decide +kernel
theorem dL_arrived_135 : decode cL_arrived 135 = .ok (.iconst 0, 1) := by decide +kernel
theorem dL_arrived_136 : decode cL_arrived 136 = .ok (.istore 10, 2) := by decide +kernel
theorem dL_arrived_138 : decode cL_arrived 138 = .ok (.iload 10, 2) := by decide +kernel
theorem dL_arrived_140 : decode cL_arrived 140 = .ok (.iload 9, 2) := by decide +kernel
theorem dL_arrived_142 : decode cL_arrived 142 = .ok (.iload 7, 2) := by decide +kernel
theorem dL_arrived_144 : decode cL_arrived 144 = .ok (.if_icmp .ne 7, 3) := by decide +kernel
theorem dL_arrived_147 : decode cL_arrived 147 = .ok (.iconst 1, 1) := by decide +kernel
theorem dL_arrived_148 : decode cL_arrived 148 = .ok (.goto 4, 3) := by decide +kernel
theorem dL_arrived_151 : decode cL_arrived 151 = .ok (.iconst 0, 1) := by decide +kernel
theorem dL_arrived_152 : decode cL_arrived 152 = .ok (.if_icmp .eq 5, 3) := by decide +kernel
theorem dL_arrived_155 : decode cL_arrived 155 = .ok (.iconst 0, 1) := by decide +kernel
theorem dL_arrived_156 : decode cL_arrived 156 = .ok (.ireturn, 1) := by decide +kernel
theorem dL_arrived_157 : decode cL_arrived 157 = .ok (.aload_n 0, 1) := by decide +kernel
theorem dL_arrived_158 : decode cL_arrived 158 = .ok (.iconst 1, 1) := by decide +kernel
theorem dL_arrived_159 : decode cL_arrived 159 = .ok (.invokevirtual 94, 3) := by decide +kernel
theorem dL_arrived_162 : decode cL_arrived 162 = .ok (.pop, 1) := by decide +kernel
theorem dL_arrived_163 : decode cL_arrived 163 = .ok (.iinc 9 1, 3) := by decide +kernel
theorem dL_arrived_166 : decode cL_arrived 166 = .ok (.goto (-78), 3) := by decide +kernel
theorem dL_arrived_169 : decode cL_arrived 169 = .ok (.aload_n 0, 1) := by decide +kernel
theorem dL_arrived_170 : decode cL_arrived 170 = .ok (.iconst 0, 1) := by decide +kernel
theorem dL_arrived_171 : decode cL_arrived 171 = .ok (.invokevirtual 114, 3) := by decide +kernel
theorem dL_arrived_174 : decode cL_arrived 174 = .ok (.iload 8, 2) := by decide +kernel
theorem dL_arrived_176 : decode cL_arrived 176 = .ok (.if_icmp .ne 7, 3) := by decide +kernel
theorem dL_arrived_179 : decode cL_arrived 179 = .ok (.iconst 1, 1) := by decide +kernel
theorem dL_arrived_180 : decode cL_arrived 180 = .ok (.goto 4, 3) := by decide +kernel
theorem dL_arrived_183 : decode cL_arrived 183 = .ok (.iconst 0, 1) := by decide +kernel
theorem dL_arrived_184 : decode cL_arrived 184 = .ok (.ireturn, 1) := by decide +kernel
theorem dL_met_0 : decode cL_met 0 = .ok (.aload_n 0, 1) := by decide +kernel
theorem dL_met_1 : decode cL_met 1 = .ok (.iconst 2, 1) := by decide +kernel
theorem dL_met_2 : decode cL_met 2 = .ok (.invokevirtual 60, 3) := by decide +kernel
theorem dL_met_5 : decode cL_met 5 = .ok (.istore_n 2, 1) := by decide +kernel
theorem dL_met_6 : decode cL_met 6 = .ok (.iload_n 2, 1) := by decide +kernel
theorem dL_met_7 : decode cL_met 7 = .ok (.ifCond .ne 21, 3) := by decide +kernel
theorem dL_met_10 : decode cL_met 10 = .ok (.aload_n 0, 1) := by decide +kernel
theorem dL_met_11 : decode cL_met 11 = .ok (.iconst 0, 1) := by decide +kernel
theorem dL_met_12 : decode cL_met 12 = .ok (.iconst 0, 1) := by decide +kernel
theorem dL_met_13 : decode cL_met 13 = .ok (.iconst 0, 1) := by decide +kernel
theorem dL_met_14 : decode cL_met 14 = .ok (.iconst 1, 1) := by decide +kernel
theorem dL_met_15 : decode cL_met 15 = .ok (.invokevirtual 123, 3) := by decide +kernel
theorem dL_met_18 : decode cL_met 18 = .ok (.iconst (-1), 1) := by decide +kernel
theorem dL_met_19 : decode cL_met 19 = .ok (.if_icmp .ne 7, 3) := by decide +kernel
theorem dL_met_22 : decode cL_met 22 = .ok (.iconst 1, 1) := by decide +kernel
theorem dL_met_23 : decode cL_met 23 = .ok (.goto 4, 3) := by decide +kernel
theorem dL_met_26 : decode cL_met 26 = .ok (.iconst 0, 1) := by decide +kernel
theorem dL_met_27 : decode cL_met 27 = .ok (.ireturn, 1) := by decide +kernel
theorem dL_met_28 : decode cL_met 28 = .ok (.iload_n 1, 1) := by decide +kernel
theorem dL_met_29 : decode cL_met 29 = .ok (.iload_n 2, 1) := by decide +kernel
theorem dL_met_30 : decode cL_met 30 = .ok (.invokestatic 22, 3) := by decide +kernel
theorem dL_met_33 : decode cL_met 33 = .ok (.istore_n 3, 1) := by decide +kernel
theorem dL_met_34 : decode cL_met 34 = .ok (.iload_n 1, 1) := by decide +kernel
theorem dL_met_35 : decode cL_met 35 = .ok (.iconst 3, 1) := by decide +kernel
theorem dL_met_36 : decode cL_met 36 = .ok (.ishr, 1) := by decide +kernel
theorem dL_met_37 : decode cL_met 37 = .ok (.iload_n 2, 1) := by decide +kernel
theorem dL_met_38 : decode cL_met 38 = .ok (.invokestatic 22, 3) := by decide +kernel
theorem dL_met_41 : decode cL_met 41 = .ok (.istore 4, 2) := by decide +kernel
theorem dL_met_43 : decode cL_met 43 = .ok (.iload_n 1, 1) := by decide +kernel
theorem dL_met_44 : decode cL_met 44 = .ok (.bipush 6, 2) := by decide +kernel
theorem dL_met_46 : decode cL_met 46 = .ok (.ishr, 1) := by decide +kernel
theorem dL_met_47 : decode cL_met 47 = .ok (.sipush 900, 3) := by decide +kernel
theorem dL_met_50 : decode cL_met 50 = .ok (.invokestatic 22, 3) := by decide +kernel
theorem dL_met_53 : decode cL_met 53 = .ok (.istore 5, 2) := by decide +kernel
theorem dL_met_55 : decode cL_met 55 = .ok (.iconst 1, 1) := by decide +kernel
theorem dL_met_56 : decode cL_met 56 = .ok (.iload_n 1, 1) := by decide +kernel
theorem dL_met_57 : decode cL_met 57 = .ok (.bipush 9, 2) := by decide +kernel
theorem dL_met_59 : decode cL_met 59 = .ok (.ishr, 1) := by decide +kernel
theorem dL_met_60 : decode cL_met 60 = .ok (.bipush 60, 2) := by decide +kernel
theorem dL_met_62 : decode cL_met 62 = .ok (.invokestatic 22, 3) := by decide +kernel
theorem dL_met_65 : decode cL_met 65 = .ok (.iadd, 1) := by decide +kernel
theorem dL_met_66 : decode cL_met 66 = .ok (.istore 6, 2) := by decide +kernel
theorem dL_met_68 : decode cL_met 68 = .ok (.aload_n 0, 1) := by decide +kernel
theorem dL_met_69 : decode cL_met 69 = .ok (.iload_n 3, 1) := by decide +kernel
theorem dL_met_70 : decode cL_met 70 = .ok (.iload 4, 2) := by decide +kernel
theorem dL_met_72 : decode cL_met 72 = .ok (.iload 5, 2) := by decide +kernel
theorem dL_met_74 : decode cL_met 74 = .ok (.iload 6, 2) := by decide +kernel
theorem dL_met_76 : decode cL_met 76 = .ok (.invokevirtual 123, 3) := by decide +kernel
theorem dL_met_79 : decode cL_met 79 = .ok (.istore 7, 2) := by decide +kernel
theorem dL_met_81 : decode cL_met 81 = .ok (.aload_n 0, 1) := by decide +kernel
theorem dL_met_82 : decode cL_met 82 = .ok (.iload 4, 2) := by decide +kernel
theorem dL_met_84 : decode cL_met 84 = .ok (.iload_n 3, 1) := by decide +kernel
theorem dL_met_85 : decode cL_met 85 = .ok (.iload 5, 2) := by decide +kernel
theorem dL_met_87 : decode cL_met 87 = .ok (.iload 6, 2) := by decide +kernel
theorem dL_met_89 : decode cL_met 89 = .ok (.invokevirtual 123, 3) := by decide +kernel
theorem dL_met_92 : decode cL_met 92 = .ok (.iload 7, 2) := by decide +kernel
theorem dL_met_94 : decode cL_met 94 = .ok (.if_icmp .ne 14, 3) := by decide +kernel
theorem dL_met_97 : decode cL_met 97 = .ok (.iload_n 3, 1) := by decide +kernel
theorem dL_met_98 : decode cL_met 98 = .ok (.iload 4, 2) := by decide +kernel
theorem dL_met_100 : decode cL_met 100 = .ok (.if_icmp .ne 10, 3) := by decide +kernel
theorem dL_met_103 : decode cL_met 103 = .ok (.iload 7, 2) := by decide +kernel
theorem dL_met_105 : decode cL_met 105 = .ok (.ifCond .eq 5, 3) := by decide +kernel
theorem dL_met_108 : decode cL_met 108 = .ok (.iconst 0, 1) := by decide +kernel
theorem dL_met_109 : decode cL_met 109 = .ok (.ireturn, 1) := by decide +kernel
theorem dL_met_110 : decode cL_met 110 = .ok (.aload_n 0, 1) := by decide +kernel
theorem dL_met_111 : decode cL_met 111 = .ok (.iconst 0, 1) := by decide +kernel
theorem dL_met_112 : decode cL_met 112 = .ok (.invokevirtual 111, 3) := by decide +kernel
theorem dL_met_115 : decode cL_met 115 = .ok (.istore 8, 2) := by decide +kernel
theorem dL_met_117 : decode cL_met 117 = .ok (.iconst 0, 1) := by decide +kernel
theorem dL_met_118 : decode cL_met 118 = .ok (.istore 9, 2) := by decide +kernel
theorem dL_met_120 : decode cL_met 120 = .ok (.iload 9, 2) := by decide +kernel
theorem dL_met_122 : decode cL_met 122 = .ok (.iload 7, 2) := by decide +kernel
theorem dL_met_124 : decode cL_met 124 = .ok (.ifCond .ge 8, 3) := by decide +kernel
theorem dL_met_127 : decode cL_met 127 = .ok (.iload 6, 2) := by decide +kernel
theorem dL_met_129 : decode cL_met 129 = .ok (.goto 5, 3) := by decide +kernel
theorem dL_met_132 : decode cL_met 132 = .ok (.iload 7, 2) := by decide +kernel
theorem dL_met_134 : decode cL_met 134 = .ok (.if_icmp .gt 106, 3) := by decide +kernel
theorem dL_met_137 : decode cL_met 137 = .ok (.aload_n 0, 1) := by decide +kernel
theorem dL_met_138 : decode cL_met 138 = .ok (.iload_n 3, 1) := by decide +kernel
theorem dL_met_139 : decode cL_met 139 = .ok (.iconst 1, 1) := by decide +kernel
theorem dL_met_140 : decode cL_met 140 = .ok (.invokevirtual 91, 3) := by decide +kernel
theorem dL_met_143 : decode cL_met 143 = .ok (.aload_n 0, 1) := by decide +kernel
theorem dL_met_144 : decode cL_met 144 = .ok (.iload 4, 2) := by decide +kernel
theorem dL_met_146 : decode cL_met 146 = .ok (.iconst 1, 1) := by decide +kernel
theorem dL_met_147 : decode cL_met 147 = .ok (.invokevirtual 91, 3) := by decide +kernel
theorem dL_met_150 : decode cL_met 150 = .ok (.isub, 1) := by decide +kernel
theorem dL_met_151 : decode cL_met 151 = .ok (.istore 10, 2) := by decide +kernel
theorem dL_met_153 : decode cL_met 153 = .ok (.iload 10, 2) := by decide +kernel
theorem dL_met_155 : decode cL_met 155 = .ok (.ifCond .ge 9, 3) := by decide +kernel
theorem dL_met_158 : decode cL_met 158 = .ok (.iload 10, 2) := by decide +kernel
theorem dL_met_160 : decode cL_met 160 = .ok (.ineg, 1) := by decide +kernel
theorem dL_met_161 : decode cL_met 161 = .ok (.goto 5, 3) := by decide +kernel
theorem dL_met_164 : decode cL_met 164 = .ok (.iload 10, 2) := by decide +kernel
theorem dL_met_166 : decode cL_met 166 = .ok (.istore 10, 2) := by decide +kernel
theorem dL_met_168 : decode cL_met 168 = .ok (.aload_n 0, 1) := by decide +kernel
theorem dL_met_169 : decode cL_met 169 = .ok (.iload_n 3, 1) := by decide +kernel
theorem dL_met_170 : decode cL_met 170 = .ok (.iconst 2, 1) := by decide +kernel
theorem dL_met_171 : decode cL_met 171 = .ok (.invokevirtual 91, 3) := by decide +kernel
theorem dL_met_174 : decode cL_met 174 = .ok (.aload_n 0, 1) := by decide +kernel
theorem dL_met_175 : decode cL_met 175 = .ok (.iload 4, 2) := by decide +kernel
theorem dL_met_177 : decode cL_met 177 = .ok (.iconst 2, 1) := by decide +kernel
theorem dL_met_178 : decode cL_met 178 = .ok (.invokevirtual 91, 3) := by decide +kernel
theorem dL_met_181 : decode cL_met 181 = .ok (.if_icmp .ne 25, 3) := by decide +kernel
theorem dL_met_184 : decode cL_met 184 = .ok (.iload 10, 2) := by decide +kernel
theorem dL_met_186 : decode cL_met 186 = .ok (.iload 5, 2) := by decide +kernel
theorem dL_met_188 : decode cL_met 188 = .ok (.if_icmp .le 14, 3) := by decide +kernel
theorem dL_met_191 : decode cL_met 191 = .ok (.sipush 3600, 3) := by decide +kernel
theorem dL_met_194 : decode cL_met 194 = .ok (.iload 10, 2) := by decide +kernel
theorem dL_met_196 : decode cL_met 196 = .ok (.isub, 1) := by decide +kernel
theorem dL_met_197 : decode cL_met 197 = .ok (.iload 5, 2) := by decide +kernel
theorem dL_met_199 : decode cL_met 199 = .ok (.if_icmp .gt 7, 3) := by decide +kernel
theorem dL_met_202 : decode cL_met 202 = .ok (.iconst 1, 1) := by decide +kernel
theorem dL_met_203 : decode cL_met 203 = .ok (.goto 4, 3) := by decide +kernel
theorem dL_met_206 : decode cL_met 206 = .ok (.iconst 0, 1) := by decide +kernel
theorem dL_met_207 : decode cL_met 207 = .ok (.istore 11, 2) := by decide +kernel
theorem dL_met_209 : decode cL_met 209 = .ok (.iload 11, 2) := by decide +kernel
theorem dL_met_211 : decode cL_met 211 = .ok (.iload 9, 2) := by decide +kernel
theorem dL_met_213 : decode cL_met 213 = .ok (.iload 7, 2) := by decide +kernel
theorem dL_met_215 : decode cL_met 215 = .ok (.if_icmp .ne 7, 3) := by decide +kernel
theorem dL_met_218 : decode cL_met 218 = .ok (.iconst 1, 1) := by decide +kernel
theorem dL_met_219 : decode cL_met 219 = .ok (.goto 4, 3) := by decide +kernel
theorem dL_met_222 : decode cL_met 222 = .ok (.iconst 0, 1) := by decide +kernel
theorem dL_met_223 : decode cL_met 223 = .ok (.if_icmp .eq 5, 3) := by decide +kernel
theorem dL_met_226 : decode cL_met 226 = .ok (.iconst 0, 1) := by decide +kernel
theorem dL_met_227 : decode cL_met 227 = .ok (.ireturn, 1) := by decide +kernel
theorem dL_met_228 : decode cL_met 228 = .ok (.aload_n 0, 1) := by decide +kernel
theorem dL_met_229 : decode cL_met 229 = .ok (.iconst 1, 1) := by decide +kernel
theorem dL_met_230 : decode cL_met 230 = .ok (.invokevirtual 94, 3) := by decide +kernel
theorem dL_met_233 : decode cL_met 233 = .ok (.pop, 1) := by decide +kernel
theorem dL_met_234 : decode cL_met 234 = .ok (.iinc 9 1, 3) := by decide +kernel
theorem dL_met_237 : decode cL_met 237 = .ok (.goto (-117), 3) := by decide +kernel
theorem dL_met_240 : decode cL_met 240 = .ok (.aload_n 0, 1) := by decide +kernel
theorem dL_met_241 : decode cL_met 241 = .ok (.iconst 0, 1) := by decide +kernel
theorem dL_met_242 : decode cL_met 242 = .ok (.invokevirtual 114, 3) := by decide +kernel
theorem dL_met_245 : decode cL_met 245 = .ok (.iload 8, 2) := by decide +kernel
theorem dL_met_247 : decode cL_met 247 = .ok (.if_icmp .ne 7, 3) := by decide +kernel
theorem dL_met_250 : decode cL_met 250 = .ok (.iconst 1, 1) := by decide +kernel
theorem dL_met_251 : decode cL_met 251 = .ok (.goto 4, 3) := by decide +kernel
theorem dL_met_254 : decode cL_met 254 = .ok (.iconst 0, 1) := by decide +kernel
theorem dL_met_255 : decode cL_met 255 = .ok (.ireturn, 1) := by decide +kernel
theorem dL_pumped_0 : decode cL_pumped 0 = .ok (.iload_n 2, 1) := by decide +kernel
theorem dL_pumped_1 : decode cL_pumped 1 = .ok (.iconst 3, 1) := by decide +kernel
theorem dL_pumped_2 : decode cL_pumped 2 = .ok (.invokestatic 22, 3) := by decide +kernel
theorem dL_pumped_5 : decode cL_pumped 5 = .ok (.istore_n 3, 1) := by decide +kernel
theorem dL_pumped_6 : decode cL_pumped 6 = .ok (.iload_n 2, 1) := by decide +kernel
theorem dL_pumped_7 : decode cL_pumped 7 = .ok (.iconst 2, 1) := by decide +kernel
theorem dL_pumped_8 : decode cL_pumped 8 = .ok (.ishr, 1) := by decide +kernel
theorem dL_pumped_9 : decode cL_pumped 9 = .ok (.sipush 1000, 3) := by decide +kernel
theorem dL_pumped_12 : decode cL_pumped 12 = .ok (.aload_n 0, 1) := by decide +kernel
theorem dL_pumped_13 : decode cL_pumped 13 = .ok (.iconst 1, 1) := by decide +kernel
theorem dL_pumped_14 : decode cL_pumped 14 = .ok (.invokevirtual 60, 3) := by decide +kernel
theorem dL_pumped_17 : decode cL_pumped 17 = .ok (.imul, 1) := by decide +kernel
theorem dL_pumped_18 : decode cL_pumped 18 = .ok (.invokestatic 22, 3) := by decide +kernel
theorem dL_pumped_21 : decode cL_pumped 21 = .ok (.istore 4, 2) := by decide +kernel
theorem dL_pumped_23 : decode cL_pumped 23 = .ok (.iload 4, 2) := by decide +kernel
theorem dL_pumped_25 : decode cL_pumped 25 = .ok (.sipush 11000, 3) := by decide +kernel
theorem dL_pumped_28 : decode cL_pumped 28 = .ok (.if_icmp .le 9, 3) := by decide +kernel
theorem dL_pumped_31 : decode cL_pumped 31 = .ok (.sipush 11000, 3) := by decide +kernel
theorem dL_pumped_34 : decode cL_pumped 34 = .ok (.goto 5, 3) := by decide +kernel
theorem dL_pumped_37 : decode cL_pumped 37 = .ok (.iload 4, 2) := by decide +kernel
theorem dL_pumped_39 : decode cL_pumped 39 = .ok (.istore 5, 2) := by decide +kernel
theorem dL_pumped_41 : decode cL_pumped 41 = .ok (.iconst 1, 1) := by decide +kernel
theorem dL_pumped_42 : decode cL_pumped 42 = .ok (.iload_n 2, 1) := by decide +kernel
theorem dL_pumped_43 : decode cL_pumped 43 = .ok (.bipush 9, 2) := by decide +kernel
theorem dL_pumped_45 : decode cL_pumped 45 = .ok (.ishr, 1) := by decide +kernel
theorem dL_pumped_46 : decode cL_pumped 46 = .ok (.iconst 3, 1) := by decide +kernel
theorem dL_pumped_47 : decode cL_pumped 47 = .ok (.invokestatic 22, 3) := by decide +kernel
theorem dL_pumped_50 : decode cL_pumped 50 = .ok (.iadd, 1) := by decide +kernel
theorem dL_pumped_51 : decode cL_pumped 51 = .ok (.istore 6, 2) := by decide +kernel
theorem dL_pumped_53 : decode cL_pumped 53 = .ok (.aload_n 0, 1) := by decide +kernel
theorem dL_pumped_54 : decode cL_pumped 54 = .ok (.iload_n 3, 1) := by decide +kernel
theorem dL_pumped_55 : decode cL_pumped 55 = .ok (.iload 5, 2) := by decide +kernel
theorem dL_pumped_57 : decode cL_pumped 57 = .ok (.iload 6, 2) := by decide +kernel
theorem dL_pumped_59 : decode cL_pumped 59 = .ok (.invokevirtual 126, 3) := by decide +kernel
theorem dL_pumped_62 : decode cL_pumped 62 = .ok (.istore 7, 2) := by decide +kernel
theorem dL_pumped_64 : decode cL_pumped 64 = .ok (.aload_n 1, 1) := by decide +kernel
theorem dL_pumped_65 : decode cL_pumped 65 = .ok (.iload_n 3, 1) := by decide +kernel
theorem dL_pumped_66 : decode cL_pumped 66 = .ok (.iaload, 1) := by decide +kernel
theorem dL_pumped_67 : decode cL_pumped 67 = .ok (.ifCond .ne 16, 3) := by decide +kernel
theorem dL_pumped_70 : decode cL_pumped 70 = .ok (.iload 7, 2) := by decide +kernel
theorem dL_pumped_72 : decode cL_pumped 72 = .ok (.bipush (-5), 2) := by decide +kernel
theorem dL_pumped_74 : decode cL_pumped 74 = .ok (.if_icmp .ne 7, 3) := by decide +kernel
theorem dL_pumped_77 : decode cL_pumped 77 = .ok (.iconst 1, 1) := by decide +kernel
theorem dL_pumped_78 : decode cL_pumped 78 = .ok (.goto 4, 3) := by decide +kernel
theorem dL_pumped_81 : decode cL_pumped 81 = .ok (.iconst 0, 1) := by decide +kernel
theorem dL_pumped_82 : decode cL_pumped 82 = .ok (.ireturn, 1) := by decide +kernel
theorem dL_pumped_83 : decode cL_pumped 83 = .ok (.aload_n 0, 1) := by decide +kernel
theorem dL_pumped_84 : decode cL_pumped 84 = .ok (.bipush 11, 2) := by decide +kernel
theorem dL_pumped_86 : decode cL_pumped 86 = .ok (.invokevirtual 60, 3) := by decide +kernel
theorem dL_pumped_89 : decode cL_pumped 89 = .ok (.istore 8, 2) := by decide +kernel
theorem dL_pumped_91 : decode cL_pumped 91 = .ok (.iconst 0, 1) := by decide +kernel
theorem dL_pumped_92 : decode cL_pumped 92 = .ok (.istore 9, 2) := by decide +kernel
theorem dL_pumped_94 : decode cL_pumped 94 = .ok (.iload 9, 2) := by decide +kernel
theorem dL_pumped_96 : decode cL_pumped 96 = .ok (.iconst 3, 1) := by decide +kernel
theorem dL_pumped_97 : decode cL_pumped 97 = .ok (.if_icmp .ge 154, 3) := by decide +kernel
theorem dL_pumped_100 : decode cL_pumped 100 = .ok (.iload 9, 2) := by decide +kernel
theorem dL_pumped_102 : decode cL_pumped 102 = .ok (.ifCond .ne 19, 3) := by decide +kernel
theorem dL_pumped_105 : decode cL_pumped 105 = .ok (.iload 7, 2) := by decide +kernel
theorem dL_pumped_107 : decode cL_pumped 107 = .ok (.ifCond .ge 9, 3) := by decide +kernel
theorem dL_pumped_110 : decode cL_pumped 110 = .ok (.sipush 200, 3) := by decide +kernel
theorem dL_pumped_113 : decode cL_pumped 113 = .ok (.goto 51, 3) := by decide +kernel
theorem dL_pumped_116 : decode cL_pumped 116 = .ok (.iload 7, 2) := by decide +kernel
theorem dL_pumped_118 : decode cL_pumped 118 = .ok (.goto 46, 3) := by decide +kernel
theorem dL_pumped_121 : decode cL_pumped 121 = .ok (.iload 9, 2) := by decide +kernel
theorem dL_pumped_123 : decode cL_pumped 123 = .ok (.iconst 1, 1) := by decide +kernel
theorem dL_pumped_124 : decode cL_pumped 124 = .ok (.if_icmp .ne 19, 3) := by decide +kernel
theorem dL_pumped_127 : decode cL_pumped 127 = .ok (.iload 7, 2) := by decide +kernel
theorem dL_pumped_129 : decode cL_pumped 129 = .ok (.ifCond .ge 7, 3) := by decide +kernel
theorem dL_pumped_132 : decode cL_pumped 132 = .ok (.iconst 0, 1) := by decide +kernel
theorem dL_pumped_133 : decode cL_pumped 133 = .ok (.goto 31, 3) := by decide +kernel
theorem dL_pumped_136 : decode cL_pumped 136 = .ok (.iload 7, 2) := by decide +kernel
theorem dL_pumped_138 : decode cL_pumped 138 = .ok (.iconst 1, 1) := by decide +kernel
theorem dL_pumped_139 : decode cL_pumped 139 = .ok (.isub, 1) := by decide +kernel
theorem dL_pumped_140 : decode cL_pumped 140 = .ok (.goto 24, 3) := by decide +kernel
theorem dL_pumped_143 : decode cL_pumped 143 = .ok (.iload_n 2, 1) := by decide +kernel
theorem dL_pumped_144 : decode cL_pumped 144 = .ok (.iconst 5, 1) := by decide +kernel
theorem dL_pumped_145 : decode cL_pumped 145 = .ok (.ishr, 1) := by decide +kernel
theorem dL_pumped_146 : decode cL_pumped 146 = .ok (.iload 7, 2) := by decide +kernel
theorem dL_pumped_148 : decode cL_pumped 148 = .ok (.ifCond .ge 9, 3) := by decide +kernel
theorem dL_pumped_151 : decode cL_pumped 151 = .ok (.sipush 201, 3) := by decide +kernel
theorem dL_pumped_154 : decode cL_pumped 154 = .ok (.goto 7, 3) := by decide +kernel
theorem dL_pumped_157 : decode cL_pumped 157 = .ok (.iload 7, 2) := by decide +kernel
theorem dL_pumped_159 : decode cL_pumped 159 = .ok (.iconst 1, 1) := by decide +kernel
theorem dL_pumped_160 : decode cL_pumped 160 = .ok (.iadd, 1) := by decide +kernel
theorem dL_pumped_161 : decode cL_pumped 161 = .ok (.invokestatic 22, 3) := by decide +kernel
theorem dL_pumped_164 : decode cL_pumped 164 = .ok (.istore 10, 2) := by decide +kernel
theorem dL_pumped_166 : decode cL_pumped 166 = .ok (.iload 10, 2) := by decide +kernel
theorem dL_pumped_168 : decode cL_pumped 168 = .ok (.ifCond .ge 6, 3) := by decide +kernel
theorem dL_pumped_171 : decode cL_pumped 171 = .ok (.goto 74, 3) := by decide +kernel
theorem dL_pumped_174 : decode cL_pumped 174 = .ok (.aload_n 0, 1) := by decide +kernel
theorem dL_pumped_175 : decode cL_pumped 175 = .ok (.iconst 0, 1) := by decide +kernel
theorem dL_pumped_176 : decode cL_pumped 176 = .ok (.invokevirtual 111, 3) := by decide +kernel
theorem dL_pumped_179 : decode cL_pumped 179 = .ok (.istore 11, 2) := by decide +kernel
theorem dL_pumped_181 : decode cL_pumped 181 = .ok (.aload_n 0, 1) := by decide +kernel
theorem dL_pumped_182 : decode cL_pumped 182 = .ok (.iconst 5, 1) := by decide +kernel
theorem dL_pumped_183 : decode cL_pumped 183 = .ok (.iload 10, 2) := by decide +kernel
theorem dL_pumped_185 : decode cL_pumped 185 = .ok (.invokevirtual 85, 3) := by decide +kernel
theorem dL_pumped_188 : decode cL_pumped 188 = .ok (.pop, 1) := by decide +kernel
theorem dL_pumped_189 : decode cL_pumped 189 = .ok (.aload_n 0, 1) := by decide +kernel
theorem dL_pumped_190 : decode cL_pumped 190 = .ok (.iload 6, 2) := by decide +kernel
theorem dL_pumped_192 : decode cL_pumped 192 = .ok (.invokevirtual 94, 3) := by decide +kernel
theorem dL_pumped_195 : decode cL_pumped 195 = .ok (.pop, 1) := by decide +kernel
theorem dL_pumped_196 : decode cL_pumped 196 = .ok (.aload_n 0, 1) := by decide +kernel
theorem dL_pumped_197 : decode cL_pumped 197 = .ok (.iload_n 3, 1) := by decide +kernel
theorem dL_pumped_198 : decode cL_pumped 198 = .ok (.iconst 4, 1) := by decide +kernel
theorem dL_pumped_199 : decode cL_pumped 199 = .ok (.invokevirtual 101, 3) := by decide +kernel
theorem dL_pumped_202 : decode cL_pumped 202 = .ok (.iload 5, 2) := by decide +kernel
theorem dL_pumped_204 : decode cL_pumped 204 = .ok (.i2l, 1) := by decide +kernel
theorem dL_pumped_205 : decode cL_pumped 205 = .ok (.lcmp, 1) := by decide +kernel
theorem dL_pumped_206 : decode cL_pumped 206 = .ok (.ifCond .gt 7, 3) := by decide +kernel
theorem dL_pumped_209 : decode cL_pumped 209 = .ok (.iconst 1, 1) := by decide +kernel
theorem dL_pumped_210 : decode cL_pumped 210 = .ok (.goto 4, 3) := by decide +kernel
theorem dL_pumped_213 : decode cL_pumped 213 = .ok (.iconst 0, 1) := by decide +kernel
theorem dL_pumped_214 : decode cL_pumped 214 = .ok (.istore 12, 2) := by decide +kernel
theorem dL_pumped_216 : decode cL_pumped 216 = .ok (.iload 12, 2) := by decide +kernel
theorem dL_pumped_218 : decode cL_pumped 218 = .ok (.iload 10, 2) := by decide +kernel
theorem dL_pumped_220 : decode cL_pumped 220 = .ok (.iload 7, 2) := by decide +kernel
theorem dL_pumped_222 : decode cL_pumped 222 = .ok (.if_icmp .ne 7, 3) := by decide +kernel
theorem dL_pumped_225 : decode cL_pumped 225 = .ok (.iconst 1, 1) := by decide +kernel
theorem dL_pumped_226 : decode cL_pumped 226 = .ok (.goto 4, 3) := by decide +kernel
theorem dL_pumped_229 : decode cL_pumped 229 = .ok (.iconst 0, 1) := by decide +kernel
theorem dL_pumped_230 : decode cL_pumped 230 = .ok (.if_icmp .ne 13, 3) := by decide +kernel
theorem dL_pumped_233 : decode cL_pumped 233 = .ok (.aload_n 0, 1) := by decide +kernel
theorem dL_pumped_234 : decode cL_pumped 234 = .ok (.iconst 0, 1) := by decide +kernel
theorem dL_pumped_235 : decode cL_pumped 235 = .ok (.invokevirtual 114, 3) := by decide +kernel
theorem dL_pumped_238 : decode cL_pumped 238 = .ok (.iload 11, 2) := by decide +kernel
theorem dL_pumped_240 : decode cL_pumped 240 = .ok (.if_icmp .eq 5, 3) := by decide +kernel
theorem dL_pumped_243 : decode cL_pumped 243 = .ok (.iconst 0, 1) := by decide +kernel
theorem dL_pumped_244 : decode cL_pumped 244 = .ok (.ireturn, 1) := by decide +kernel
theorem dL_pumped_245 : decode cL_pumped 245 = .ok (.iinc 9 1, 3) := by decide +kernel
theorem dL_pumped_248 : decode cL_pumped 248 = .ok (.goto (-154), 3) := by decide +kernel
theorem dL_pumped_251 : decode cL_pumped 251 = .ok (.aload_n 0, 1) := by decide +kernel
theorem dL_pumped_252 : decode cL_pumped 252 = .ok (.bipush 11, 2) := by decide +kernel
theorem dL_pumped_254 : decode cL_pumped 254 = .ok (.invokevirtual 60, 3) := by decide +kernel
theorem dL_pumped_257 : decode cL_pumped 257 = .ok (.iload 8, 2) := by decide +kernel
theorem dL_pumped_259 : decode cL_pumped 259 = .ok (.if_icmp .ne 7, 3) := by decide +kernel
theorem dL_pumped_262 : decode cL_pumped 262 = .ok (.iconst 1, 1) := by decide +kernel
theorem dL_pumped_263 : decode cL_pumped 263 = .ok (.goto 4, 3) := by decide +kernel
theorem dL_pumped_266 : decode cL_pumped 266 = .ok (.iconst 0, 1) := by decide +kernel
theorem dL_pumped_267 : decode cL_pumped 267 = .ok (.ireturn, 1) := by decide +kernel
theorem dL_told_0 : decode cL_told 0 = .ok (.iconst 1, 1) := by decide +kernel
theorem dL_told_1 : decode cL_told 1 = .ok (.iload_n 1, 1) := by decide +kernel
theorem dL_told_2 : decode cL_told 2 = .ok (.bipush 9, 2) := by decide +kernel
theorem dL_told_4 : decode cL_told 4 = .ok (.invokestatic 22, 3) := by decide +kernel
theorem dL_told_7 : decode cL_told 7 = .ok (.iadd, 1) := by decide +kernel
theorem dL_told_8 : decode cL_told 8 = .ok (.istore_n 2, 1) := by decide +kernel
theorem dL_told_9 : decode cL_told 9 = .ok (.iload_n 1, 1) := by decide +kernel
theorem dL_told_10 : decode cL_told 10 = .ok (.iconst 4, 1) := by decide +kernel
theorem dL_told_11 : decode cL_told 11 = .ok (.ishr, 1) := by decide +kernel
theorem dL_told_12 : decode cL_told 12 = .ok (.bipush 10, 2) := by decide +kernel
theorem dL_told_14 : decode cL_told 14 = .ok (.invokestatic 22, 3) := by decide +kernel
theorem dL_told_17 : decode cL_told 17 = .ok (.istore_n 3, 1) := by decide +kernel
theorem dL_told_18 : decode cL_told 18 = .ok (.iload_n 1, 1) := by decide +kernel
theorem dL_told_19 : decode cL_told 19 = .ok (.bipush 8, 2) := by decide +kernel
theorem dL_told_21 : decode cL_told 21 = .ok (.ishr, 1) := by decide +kernel
theorem dL_told_22 : decode cL_told 22 = .ok (.bipush 10, 2) := by decide +kernel
theorem dL_told_24 : decode cL_told 24 = .ok (.invokestatic 22, 3) := by decide +kernel
theorem dL_told_27 : decode cL_told 27 = .ok (.istore 4, 2) := by decide +kernel
theorem dL_told_29 : decode cL_told 29 = .ok (.aload_n 0, 1) := by decide +kernel
theorem dL_told_30 : decode cL_told 30 = .ok (.iconst 1, 1) := by decide +kernel
theorem dL_told_31 : decode cL_told 31 = .ok (.invokevirtual 111, 3) := by decide +kernel
theorem dL_told_34 : decode cL_told 34 = .ok (.pop, 1) := by decide +kernel
theorem dL_told_35 : decode cL_told 35 = .ok (.iconst 1, 1) := by decide +kernel
theorem dL_told_36 : decode cL_told 36 = .ok (.istore 5, 2) := by decide +kernel
theorem dL_told_38 : decode cL_told 38 = .ok (.aload_n 0, 1) := by decide +kernel
theorem dL_told_39 : decode cL_told 39 = .ok (.iload_n 2, 1) := by decide +kernel
theorem dL_told_40 : decode cL_told 40 = .ok (.invokevirtual 94, 3) := by decide +kernel
theorem dL_told_43 : decode cL_told 43 = .ok (.pop, 1) := by decide +kernel
theorem dL_told_44 : decode cL_told 44 = .ok (.aload_n 0, 1) := by decide +kernel
theorem dL_told_45 : decode cL_told 45 = .ok (.iload_n 3, 1) := by decide +kernel
theorem dL_told_46 : decode cL_told 46 = .ok (.iload 4, 2) := by decide +kernel
theorem dL_told_48 : decode cL_told 48 = .ok (.ineg, 1) := by decide +kernel
theorem dL_told_49 : decode cL_told 49 = .ok (.invokevirtual 78, 3) := by decide +kernel
theorem dL_told_52 : decode cL_told 52 = .ok (.ldc 129, 2) := by decide +kernel
theorem dL_told_54 : decode cL_told 54 = .ok (.if_icmp .lt 7, 3) := by decide +kernel
theorem dL_told_57 : decode cL_told 57 = .ok (.iconst 1, 1) := by decide +kernel
theorem dL_told_58 : decode cL_told 58 = .ok (.goto 4, 3) := by decide +kernel
theorem dL_told_61 : decode cL_told 61 = .ok (.iconst 0, 1) := by decide +kernel
theorem dL_told_62 : decode cL_told 62 = .ok (.istore 6, 2) := by decide +kernel
theorem dL_told_64 : decode cL_told 64 = .ok (.iload 5, 2) := by decide +kernel
theorem dL_told_66 : decode cL_told 66 = .ok (.iload 6, 2) := by decide +kernel
theorem dL_told_68 : decode cL_told 68 = .ok (.ifCond .eq 7, 3) := by decide +kernel
theorem dL_told_71 : decode cL_told 71 = .ok (.iconst 1, 1) := by decide +kernel
theorem dL_told_72 : decode cL_told 72 = .ok (.goto 4, 3) := by decide +kernel
theorem dL_told_75 : decode cL_told 75 = .ok (.iconst 0, 1) := by decide +kernel
theorem dL_told_76 : decode cL_told 76 = .ok (.iadd, 1) := by decide +kernel
theorem dL_told_77 : decode cL_told 77 = .ok (.istore 5, 2) := by decide +kernel
theorem dL_told_79 : decode cL_told 79 = .ok (.iload 5, 2) := by decide +kernel
theorem dL_told_81 : decode cL_told 81 = .ok (.iload 6, 2) := by decide +kernel
theorem dL_told_83 : decode cL_told 83 = .ok (.ifCond .eq 20, 3) := by decide +kernel
theorem dL_told_86 : decode cL_told 86 = .ok (.aload_n 0, 1) := by decide +kernel
theorem dL_told_87 : decode cL_told 87 = .ok (.iconst 2, 1) := by decide +kernel
theorem dL_told_88 : decode cL_told 88 = .ok (.iconst 1, 1) := by decide +kernel
theorem dL_told_89 : decode cL_told 89 = .ok (.iload_n 3, 1) := by decide +kernel
theorem dL_told_90 : decode cL_told 90 = .ok (.bipush 7, 2) := by decide +kernel
theorem dL_told_92 : decode cL_told 92 = .ok (.iconst 5, 1) := by decide +kernel
theorem dL_told_93 : decode cL_told 93 = .ok (.invokevirtual 71, 3) := by decide +kernel
theorem dL_told_96 : decode cL_told 96 = .ok (.ifCond .le 7, 3) := by decide +kernel
theorem dL_told_99 : decode cL_told 99 = .ok (.iconst 1, 1) := by decide +kernel
theorem dL_told_100 : decode cL_told 100 = .ok (.goto 4, 3) := by decide +kernel
theorem dL_told_103 : decode cL_told 103 = .ok (.iconst 0, 1) := by decide +kernel
theorem dL_told_104 : decode cL_told 104 = .ok (.iadd, 1) := by decide +kernel
theorem dL_told_105 : decode cL_told 105 = .ok (.istore 5, 2) := by decide +kernel
theorem dL_told_107 : decode cL_told 107 = .ok (.aload_n 0, 1) := by decide +kernel
theorem dL_told_108 : decode cL_told 108 = .ok (.iconst 3, 1) := by decide +kernel
theorem dL_told_109 : decode cL_told 109 = .ok (.invokevirtual 60, 3) := by decide +kernel
theorem dL_told_112 : decode cL_told 112 = .ok (.istore 7, 2) := by decide +kernel
theorem dL_told_114 : decode cL_told 114 = .ok (.aload_n 0, 1) := by decide +kernel
theorem dL_told_115 : decode cL_told 115 = .ok (.iconst 2, 1) := by decide +kernel
theorem dL_told_116 : decode cL_told 116 = .ok (.iconst 0, 1) := by decide +kernel
theorem dL_told_117 : decode cL_told 117 = .ok (.invokevirtual 101, 3) := by decide +kernel
theorem dL_told_120 : decode cL_told 120 = .ok (.lstore 8, 2) := by decide +kernel
theorem dL_told_122 : decode cL_told 122 = .ok (.aload_n 0, 1) := by decide +kernel
theorem dL_told_123 : decode cL_told 123 = .ok (.iconst 2, 1) := by decide +kernel
theorem dL_told_124 : decode cL_told 124 = .ok (.iconst 4, 1) := by decide +kernel
theorem dL_told_125 : decode cL_told 125 = .ok (.invokevirtual 101, 3) := by decide +kernel
theorem dL_told_128 : decode cL_told 128 = .ok (.lstore 10, 2) := by decide +kernel
theorem dL_told_130 : decode cL_told 130 = .ok (.aload_n 0, 1) := by decide +kernel
theorem dL_told_131 : decode cL_told 131 = .ok (.iconst 1, 1) := by decide +kernel
theorem dL_told_132 : decode cL_told 132 = .ok (.invokevirtual 114, 3) := by decide +kernel
theorem dL_told_135 : decode cL_told 135 = .ok (.pop, 1) := by decide +kernel
theorem dL_told_136 : decode cL_told 136 = .ok (.aload_n 0, 1) := by decide +kernel
theorem dL_told_137 : decode cL_told 137 = .ok (.invokevirtual 130, 3) := by decide +kernel
theorem dL_told_140 : decode cL_told 140 = .ok (.pop, 1) := by decide +kernel
theorem dL_told_141 : decode cL_told 141 = .ok (.aload_n 0, 1) := by decide +kernel
theorem dL_told_142 : decode cL_told 142 = .ok (.bipush 116, 2) := by decide +kernel
theorem dL_told_144 : decode cL_told 144 = .ok (.invokevirtual 134, 3) := by decide +kernel
theorem dL_told_147 : decode cL_told 147 = .ok (.pop, 1) := by decide +kernel
theorem dL_told_148 : decode cL_told 148 = .ok (.aload_n 0, 1) := by decide +kernel
theorem dL_told_149 : decode cL_told 149 = .ok (.bipush 48, 2) := by decide +kernel
theorem dL_told_151 : decode cL_told 151 = .ok (.iload_n 2, 1) := by decide +kernel
theorem dL_told_152 : decode cL_told 152 = .ok (.iadd, 1) := by decide +kernel
theorem dL_told_153 : decode cL_told 153 = .ok (.invokevirtual 134, 3) := by decide +kernel
theorem dL_told_156 : decode cL_told 156 = .ok (.pop, 1) := by decide +kernel
theorem dL_told_157 : decode cL_told 157 = .ok (.aload_n 0, 1) := by decide +kernel
theorem dL_told_158 : decode cL_told 158 = .ok (.bipush 44, 2) := by decide +kernel
theorem dL_told_160 : decode cL_told 160 = .ok (.invokevirtual 134, 3) := by decide +kernel
theorem dL_told_163 : decode cL_told 163 = .ok (.pop, 1) := by decide +kernel
theorem dL_told_164 : decode cL_told 164 = .ok (.aload_n 0, 1) := by decide +kernel
theorem dL_told_165 : decode cL_told 165 = .ok (.bipush 118, 2) := by decide +kernel
theorem dL_told_167 : decode cL_told 167 = .ok (.invokevirtual 134, 3) := by decide +kernel
theorem dL_told_170 : decode cL_told 170 = .ok (.pop, 1) := by decide +kernel
theorem dL_told_171 : decode cL_told 171 = .ok (.aload_n 0, 1) := by decide +kernel
theorem dL_told_172 : decode cL_told 172 = .ok (.bipush 48, 2) := by decide +kernel
theorem dL_told_174 : decode cL_told 174 = .ok (.iload_n 3, 1) := by decide +kernel
theorem dL_told_175 : decode cL_told 175 = .ok (.iadd, 1) := by decide +kernel
theorem dL_told_176 : decode cL_told 176 = .ok (.invokevirtual 134, 3) := by decide +kernel
theorem dL_told_179 : decode cL_told 179 = .ok (.pop, 1) := by decide +kernel
theorem dL_told_180 : decode cL_told 180 = .ok (.aload_n 0, 1) := by decide +kernel
theorem dL_told_181 : decode cL_told 181 = .ok (.bipush 58, 2) := by decide +kernel
theorem dL_told_183 : decode cL_told 183 = .ok (.invokevirtual 134, 3) := by decide +kernel
theorem dL_told_186 : decode cL_told 186 = .ok (.pop, 1) := by decide +kernel
theorem dL_told_187 : decode cL_told 187 = .ok (.aload_n 0, 1) := by decide +kernel
theorem dL_told_188 : decode cL_told 188 = .ok (.bipush 45, 2) := by decide +kernel
theorem dL_told_190 : decode cL_told 190 = .ok (.invokevirtual 134, 3) := by decide +kernel
theorem dL_told_193 : decode cL_told 193 = .ok (.pop, 1) := by decide +kernel
theorem dL_told_194 : decode cL_told 194 = .ok (.aload_n 0, 1) := by decide +kernel
theorem dL_told_195 : decode cL_told 195 = .ok (.bipush 48, 2) := by decide +kernel
theorem dL_told_197 : decode cL_told 197 = .ok (.iload 4, 2) := by decide +kernel
theorem dL_told_199 : decode cL_told 199 = .ok (.iadd, 1) := by decide +kernel
theorem dL_told_200 : decode cL_told 200 = .ok (.invokevirtual 134, 3) := by decide +kernel
theorem dL_told_203 : decode cL_told 203 = .ok (.pop, 1) := by decide +kernel
theorem dL_told_204 : decode cL_told 204 = .ok (.aload_n 0, 1) := by decide +kernel
theorem dL_told_205 : decode cL_told 205 = .ok (.bipush 44, 2) := by decide +kernel
theorem dL_told_207 : decode cL_told 207 = .ok (.invokevirtual 134, 3) := by decide +kernel
theorem dL_told_210 : decode cL_told 210 = .ok (.pop, 1) := by decide +kernel
theorem dL_told_211 : decode cL_told 211 = .ok (.aload_n 0, 1) := by decide +kernel
theorem dL_told_212 : decode cL_told 212 = .ok (.bipush 100, 2) := by decide +kernel
theorem dL_told_214 : decode cL_told 214 = .ok (.invokevirtual 134, 3) := by decide +kernel
theorem dL_told_217 : decode cL_told 217 = .ok (.pop, 1) := by decide +kernel
theorem dL_told_218 : decode cL_told 218 = .ok (.aload_n 0, 1) := by decide +kernel
theorem dL_told_219 : decode cL_told 219 = .ok (.bipush 99, 2) := by decide +kernel
theorem dL_told_221 : decode cL_told 221 = .ok (.invokevirtual 134, 3) := by decide +kernel
theorem dL_told_224 : decode cL_told 224 = .ok (.pop, 1) := by decide +kernel
theorem dL_told_225 : decode cL_told 225 = .ok (.aload_n 0, 1) := by decide +kernel
theorem dL_told_226 : decode cL_told 226 = .ok (.bipush 95, 2) := by decide +kernel
theorem dL_told_228 : decode cL_told 228 = .ok (.invokevirtual 134, 3) := by decide +kernel
theorem dL_told_231 : decode cL_told 231 = .ok (.pop, 1) := by decide +kernel
theorem dL_told_232 : decode cL_told 232 = .ok (.aload_n 0, 1) := by decide +kernel
theorem dL_told_233 : decode cL_told 233 = .ok (.bipush 48, 2) := by decide +kernel
theorem dL_told_235 : decode cL_told 235 = .ok (.iload_n 3, 1) := by decide +kernel
theorem dL_told_236 : decode cL_told 236 = .ok (.iadd, 1) := by decide +kernel
theorem dL_told_237 : decode cL_told 237 = .ok (.invokevirtual 134, 3) := by decide +kernel
theorem dL_told_240 : decode cL_told 240 = .ok (.pop, 1) := by decide +kernel
theorem dL_told_241 : decode cL_told 241 = .ok (.aload_n 0, 1) := by decide +kernel
theorem dL_told_242 : decode cL_told 242 = .ok (.bipush 58, 2) := by decide +kernel
theorem dL_told_244 : decode cL_told 244 = .ok (.invokevirtual 134, 3) := by decide +kernel
theorem dL_told_247 : decode cL_told 247 = .ok (.pop, 1) := by decide +kernel
theorem dL_told_248 : decode cL_told 248 = .ok (.aload_n 0, 1) := by decide +kernel
theorem dL_told_249 : decode cL_told 249 = .ok (.bipush 55, 2) := by decide +kernel
theorem dL_told_251 : decode cL_told 251 = .ok (.invokevirtual 134, 3) := by decide +kernel
theorem dL_told_254 : decode cL_told 254 = .ok (.pop, 1) := by decide +kernel
theorem dL_told_255 : decode cL_told 255 = .ok (.aload_n 0, 1) := by decide +kernel
theorem dL_told_256 : decode cL_told 256 = .ok (.bipush 61, 2) := by decide +kernel
theorem dL_told_258 : decode cL_told 258 = .ok (.invokevirtual 134, 3) := by decide +kernel
theorem dL_told_261 : decode cL_told 261 = .ok (.pop, 1) := by decide +kernel
theorem dL_told_262 : decode cL_told 262 = .ok (.aload_n 0, 1) := by decide +kernel
theorem dL_told_263 : decode cL_told 263 = .ok (.bipush 53, 2) := by decide +kernel
theorem dL_told_265 : decode cL_told 265 = .ok (.invokevirtual 134, 3) := by decide +kernel
theorem dL_told_268 : decode cL_told 268 = .ok (.pop, 1) := by decide +kernel
theorem dL_told_269 : decode cL_told 269 = .ok (.aload_n 0, 1) := by decide +kernel
theorem dL_told_270 : decode cL_told 270 = .ok (.invokevirtual 137, 3) := by decide +kernel
theorem dL_told_273 : decode cL_told 273 = .ok (.bipush (-6), 2) := by decide +kernel
theorem dL_told_275 : decode cL_told 275 = .ok (.if_icmp .ne 58, 3) := by decide +kernel
theorem dL_told_278 : decode cL_told 278 = .ok (.aload_n 0, 1) := by decide +kernel
theorem dL_told_279 : decode cL_told 279 = .ok (.invokevirtual 140, 3) := by decide +kernel
theorem dL_told_282 : decode cL_told 282 = .ok (.iload 5, 2) := by decide +kernel
theorem dL_told_284 : decode cL_told 284 = .ok (.if_icmp .ne 49, 3) := by decide +kernel
theorem dL_told_287 : decode cL_told 287 = .ok (.aload_n 0, 1) := by decide +kernel
theorem dL_told_288 : decode cL_told 288 = .ok (.iconst 5, 1) := by decide +kernel
theorem dL_told_289 : decode cL_told 289 = .ok (.invokevirtual 60, 3) := by decide +kernel
theorem dL_told_292 : decode cL_told 292 = .ok (.ifCond .ne 41, 3) := by decide +kernel
theorem dL_told_295 : decode cL_told 295 = .ok (.aload_n 0, 1) := by decide +kernel
theorem dL_told_296 : decode cL_told 296 = .ok (.iconst 3, 1) := by decide +kernel
theorem dL_told_297 : decode cL_told 297 = .ok (.invokevirtual 60, 3) := by decide +kernel
theorem dL_told_300 : decode cL_told 300 = .ok (.iload 7, 2) := by decide +kernel
theorem dL_told_302 : decode cL_told 302 = .ok (.if_icmp .ne 31, 3) := by decide +kernel
theorem dL_told_305 : decode cL_told 305 = .ok (.aload_n 0, 1) := by decide +kernel
theorem dL_told_306 : decode cL_told 306 = .ok (.iconst 2, 1) := by decide +kernel
theorem dL_told_307 : decode cL_told 307 = .ok (.iconst 0, 1) := by decide +kernel
theorem dL_told_308 : decode cL_told 308 = .ok (.invokevirtual 101, 3) := by decide +kernel
theorem dL_told_311 : decode cL_told 311 = .ok (.lload 8, 2) := by decide +kernel
theorem dL_told_313 : decode cL_told 313 = .ok (.lcmp, 1) := by decide +kernel
theorem dL_told_314 : decode cL_told 314 = .ok (.ifCond .ne 19, 3) := by decide +kernel
theorem dL_told_317 : decode cL_told 317 = .ok (.aload_n 0, 1) := by decide +kernel
theorem dL_told_318 : decode cL_told 318 = .ok (.iconst 2, 1) := by decide +kernel
theorem dL_told_319 : decode cL_told 319 = .ok (.iconst 4, 1) := by decide +kernel
theorem dL_told_320 : decode cL_told 320 = .ok (.invokevirtual 101, 3) := by decide +kernel
theorem dL_told_323 : decode cL_told 323 = .ok (.lload 10, 2) := by decide +kernel
theorem dL_told_325 : decode cL_told 325 = .ok (.lcmp, 1) := by decide +kernel
theorem dL_told_326 : decode cL_told 326 = .ok (.ifCond .ne 7, 3) := by decide +kernel
theorem dL_told_329 : decode cL_told 329 = .ok (.iconst 1, 1) := by decide +kernel
theorem dL_told_330 : decode cL_told 330 = .ok (.goto 4, 3) := by decide +kernel
theorem dL_told_333 : decode cL_told 333 = .ok (.iconst 0, 1) := by decide +kernel
theorem dL_told_334 : decode cL_told 334 = .ok (.istore 12, 2) := by decide +kernel
theorem dL_told_336 : decode cL_told 336 = .ok (.iload 12, 2) := by decide +kernel
theorem dL_told_338 : decode cL_told 338 = .ok (.ifCond .eq 15, 3) := by decide +kernel
theorem dL_told_341 : decode cL_told 341 = .ok (.aload_n 0, 1) := by decide +kernel
theorem dL_told_342 : decode cL_told 342 = .ok (.iconst 1, 1) := by decide +kernel
theorem dL_told_343 : decode cL_told 343 = .ok (.invokevirtual 114, 3) := by decide +kernel
theorem dL_told_346 : decode cL_told 346 = .ok (.ifCond .lt 7, 3) := by decide +kernel
theorem dL_told_349 : decode cL_told 349 = .ok (.iconst 1, 1) := by decide +kernel
theorem dL_told_350 : decode cL_told 350 = .ok (.goto 4, 3) := by decide +kernel
theorem dL_told_353 : decode cL_told 353 = .ok (.iconst 0, 1) := by decide +kernel
theorem dL_told_354 : decode cL_told 354 = .ok (.ireturn, 1) := by decide +kernel
theorem dL_kept_0 : decode cL_kept 0 = .ok (.aload_n 0, 1) := by decide +kernel
theorem dL_kept_1 : decode cL_kept 1 = .ok (.iconst 1, 1) := by decide +kernel
theorem dL_kept_2 : decode cL_kept 2 = .ok (.invokevirtual 111, 3) := by decide +kernel
theorem dL_kept_5 : decode cL_kept 5 = .ok (.istore_n 3, 1) := by decide +kernel
theorem dL_kept_6 : decode cL_kept 6 = .ok (.aload_n 0, 1) := by decide +kernel
theorem dL_kept_7 : decode cL_kept 7 = .ok (.iconst 3, 1) := by decide +kernel
theorem dL_kept_8 : decode cL_kept 8 = .ok (.invokevirtual 60, 3) := by decide +kernel
theorem dL_kept_11 : decode cL_kept 11 = .ok (.istore 4, 2) := by decide +kernel
theorem dL_kept_13 : decode cL_kept 13 = .ok (.aload_n 0, 1) := by decide +kernel
theorem dL_kept_14 : decode cL_kept 14 = .ok (.iconst 1, 1) := by decide +kernel
theorem dL_kept_15 : decode cL_kept 15 = .ok (.iconst 2, 1) := by decide +kernel
theorem dL_kept_16 : decode cL_kept 16 = .ok (.invokevirtual 75, 3) := by decide +kernel
theorem dL_kept_19 : decode cL_kept 19 = .ok (.istore 5, 2) := by decide +kernel
theorem dL_kept_21 : decode cL_kept 21 = .ok (.aload_n 0, 1) := by decide +kernel
theorem dL_kept_22 : decode cL_kept 22 = .ok (.iconst 2, 1) := by decide +kernel
theorem dL_kept_23 : decode cL_kept 23 = .ok (.invokevirtual 60, 3) := by decide +kernel
theorem dL_kept_26 : decode cL_kept 26 = .ok (.istore 6, 2) := by decide +kernel
theorem dL_kept_28 : decode cL_kept 28 = .ok (.aload_n 0, 1) := by decide +kernel
theorem dL_kept_29 : decode cL_kept 29 = .ok (.iconst 1, 1) := by decide +kernel
theorem dL_kept_30 : decode cL_kept 30 = .ok (.iconst 5, 1) := by decide +kernel
theorem dL_kept_31 : decode cL_kept 31 = .ok (.invokevirtual 101, 3) := by decide +kernel
theorem dL_kept_34 : decode cL_kept 34 = .ok (.lstore 7, 2) := by decide +kernel
theorem dL_kept_36 : decode cL_kept 36 = .ok (.aload_n 0, 1) := by decide +kernel
theorem dL_kept_37 : decode cL_kept 37 = .ok (.iconst 1, 1) := by decide +kernel
theorem dL_kept_38 : decode cL_kept 38 = .ok (.iload_n 2, 1) := by decide +kernel
theorem dL_kept_39 : decode cL_kept 39 = .ok (.bipush 40, 2) := by decide +kernel
theorem dL_kept_41 : decode cL_kept 41 = .ok (.invokestatic 22, 3) := by decide +kernel
theorem dL_kept_44 : decode cL_kept 44 = .ok (.iadd, 1) := by decide +kernel
theorem dL_kept_45 : decode cL_kept 45 = .ok (.invokevirtual 94, 3) := by decide +kernel
theorem dL_kept_48 : decode cL_kept 48 = .ok (.pop, 1) := by decide +kernel
theorem dL_kept_49 : decode cL_kept 49 = .ok (.aload_n 0, 1) := by decide +kernel
theorem dL_kept_50 : decode cL_kept 50 = .ok (.iconst 2, 1) := by decide +kernel
theorem dL_kept_51 : decode cL_kept 51 = .ok (.iload_n 2, 1) := by decide +kernel
theorem dL_kept_52 : decode cL_kept 52 = .ok (.bipush 6, 2) := by decide +kernel
theorem dL_kept_54 : decode cL_kept 54 = .ok (.ishr, 1) := by decide +kernel
theorem dL_kept_55 : decode cL_kept 55 = .ok (.bipush 11, 2) := by decide +kernel
theorem dL_kept_57 : decode cL_kept 57 = .ok (.invokestatic 22, 3) := by decide +kernel
theorem dL_kept_60 : decode cL_kept 60 = .ok (.iadd, 1) := by decide +kernel
theorem dL_kept_61 : decode cL_kept 61 = .ok (.invokevirtual 26, 3) := by decide +kernel
theorem dL_kept_64 : decode cL_kept 64 = .ok (.pop, 1) := by decide +kernel
theorem dL_kept_65 : decode cL_kept 65 = .ok (.aload_n 0, 1) := by decide +kernel
theorem dL_kept_66 : decode cL_kept 66 = .ok (.iconst 0, 1) := by decide +kernel
theorem dL_kept_67 : decode cL_kept 67 = .ok (.invokevirtual 60, 3) := by decide +kernel
theorem dL_kept_70 : decode cL_kept 70 = .ok (.ifCond .ne 30, 3) := by decide +kernel
theorem dL_kept_73 : decode cL_kept 73 = .ok (.aload_n 0, 1) := by decide +kernel
theorem dL_kept_74 : decode cL_kept 74 = .ok (.iconst 2, 1) := by decide +kernel
theorem dL_kept_75 : decode cL_kept 75 = .ok (.invokevirtual 60, 3) := by decide +kernel
theorem dL_kept_78 : decode cL_kept 78 = .ok (.ifCond .ne 22, 3) := by decide +kernel
theorem dL_kept_81 : decode cL_kept 81 = .ok (.aload_n 0, 1) := by decide +kernel
theorem dL_kept_82 : decode cL_kept 82 = .ok (.iconst 3, 1) := by decide +kernel
theorem dL_kept_83 : decode cL_kept 83 = .ok (.invokevirtual 60, 3) := by decide +kernel
theorem dL_kept_86 : decode cL_kept 86 = .ok (.ifCond .ne 14, 3) := by decide +kernel
theorem dL_kept_89 : decode cL_kept 89 = .ok (.aload_n 0, 1) := by decide +kernel
theorem dL_kept_90 : decode cL_kept 90 = .ok (.iconst 1, 1) := by decide +kernel
theorem dL_kept_91 : decode cL_kept 91 = .ok (.iconst 0, 1) := by decide +kernel
theorem dL_kept_92 : decode cL_kept 92 = .ok (.invokevirtual 101, 3) := by decide +kernel
theorem dL_kept_95 : decode cL_kept 95 = .ok (.lconst 0, 1) := by decide +kernel
theorem dL_kept_96 : decode cL_kept 96 = .ok (.lcmp, 1) := by decide +kernel
theorem dL_kept_97 : decode cL_kept 97 = .ok (.ifCond .eq 5, 3) := by decide +kernel
theorem dL_kept_100 : decode cL_kept 100 = .ok (.iconst 0, 1) := by decide +kernel
theorem dL_kept_101 : decode cL_kept 101 = .ok (.ireturn, 1) := by decide +kernel
theorem dL_kept_102 : decode cL_kept 102 = .ok (.aload_n 0, 1) := by decide +kernel
theorem dL_kept_103 : decode cL_kept 103 = .ok (.iconst 1, 1) := by decide +kernel
theorem dL_kept_104 : decode cL_kept 104 = .ok (.invokevirtual 114, 3) := by decide +kernel
theorem dL_kept_107 : decode cL_kept 107 = .ok (.iload_n 3, 1) := by decide +kernel
theorem dL_kept_108 : decode cL_kept 108 = .ok (.if_icmp .ne 58, 3) := by decide +kernel
theorem dL_kept_111 : decode cL_kept 111 = .ok (.aload_n 0, 1) := by decide +kernel
theorem dL_kept_112 : decode cL_kept 112 = .ok (.iconst 3, 1) := by decide +kernel
theorem dL_kept_113 : decode cL_kept 113 = .ok (.invokevirtual 60, 3) := by decide +kernel
theorem dL_kept_116 : decode cL_kept 116 = .ok (.iload 4, 2) := by decide +kernel
theorem dL_kept_118 : decode cL_kept 118 = .ok (.if_icmp .ne 48, 3) := by decide +kernel
theorem dL_kept_121 : decode cL_kept 121 = .ok (.aload_n 0, 1) := by decide +kernel
theorem dL_kept_122 : decode cL_kept 122 = .ok (.iconst 1, 1) := by decide +kernel
theorem dL_kept_123 : decode cL_kept 123 = .ok (.iconst 2, 1) := by decide +kernel
theorem dL_kept_124 : decode cL_kept 124 = .ok (.invokevirtual 75, 3) := by decide +kernel
theorem dL_kept_127 : decode cL_kept 127 = .ok (.iload 5, 2) := by decide +kernel
theorem dL_kept_129 : decode cL_kept 129 = .ok (.if_icmp .ne 37, 3) := by decide +kernel
theorem dL_kept_132 : decode cL_kept 132 = .ok (.aload_n 0, 1) := by decide +kernel
theorem dL_kept_133 : decode cL_kept 133 = .ok (.iconst 2, 1) := by decide +kernel
theorem dL_kept_134 : decode cL_kept 134 = .ok (.invokevirtual 60, 3) := by decide +kernel
theorem dL_kept_137 : decode cL_kept 137 = .ok (.iload 6, 2) := by decide +kernel
theorem dL_kept_139 : decode cL_kept 139 = .ok (.if_icmp .ne 27, 3) := by decide +kernel
theorem dL_kept_142 : decode cL_kept 142 = .ok (.aload_n 0, 1) := by decide +kernel
theorem dL_kept_143 : decode cL_kept 143 = .ok (.iconst 1, 1) := by decide +kernel
theorem dL_kept_144 : decode cL_kept 144 = .ok (.iconst 5, 1) := by decide +kernel
theorem dL_kept_145 : decode cL_kept 145 = .ok (.invokevirtual 101, 3) := by decide +kernel
theorem dL_kept_148 : decode cL_kept 148 = .ok (.lload 7, 2) := by decide +kernel
theorem dL_kept_150 : decode cL_kept 150 = .ok (.lcmp, 1) := by decide +kernel
theorem dL_kept_151 : decode cL_kept 151 = .ok (.ifCond .ne 15, 3) := by decide +kernel
theorem dL_kept_154 : decode cL_kept 154 = .ok (.aload_n 0, 1) := by decide +kernel
theorem dL_kept_155 : decode cL_kept 155 = .ok (.aload_n 1, 1) := by decide +kernel
theorem dL_kept_156 : decode cL_kept 156 = .ok (.invokestatic 34, 3) := by decide +kernel
theorem dL_kept_159 : decode cL_kept 159 = .ok (.ifCond .eq 7, 3) := by decide +kernel
theorem dL_kept_162 : decode cL_kept 162 = .ok (.iconst 1, 1) := by decide +kernel
theorem dL_kept_163 : decode cL_kept 163 = .ok (.goto 4, 3) := by decide +kernel
theorem dL_kept_166 : decode cL_kept 166 = .ok (.iconst 0, 1) := by decide +kernel
theorem dL_kept_167 : decode cL_kept 167 = .ok (.ireturn, 1) := by decide +kernel
theorem dL_refused_0 : decode cL_refused 0 = .ok (.iload_n 1, 1) := by decide +kernel
theorem dL_refused_1 : decode cL_refused 1 = .ok (.ifCond .ge 16, 3) := by decide +kernel
theorem dL_refused_4 : decode cL_refused 4 = .ok (.sipush (-1501), 3) := by decide +kernel
theorem dL_refused_7 : decode cL_refused 7 = .ok (.iload_n 1, 1) := by decide +kernel
theorem dL_refused_8 : decode cL_refused 8 = .ok (.ldc 143, 2) := by decide +kernel
theorem dL_refused_10 : decode cL_refused 10 = .ok (.invokestatic 22, 3) := by decide +kernel
theorem dL_refused_13 : decode cL_refused 13 = .ok (.isub, 1) := by decide +kernel
theorem dL_refused_14 : decode cL_refused 14 = .ok (.goto 10, 3) := by decide +kernel
theorem dL_refused_17 : decode cL_refused 17 = .ok (.iload_n 1, 1) := by decide +kernel
theorem dL_refused_18 : decode cL_refused 18 = .ok (.ldc 143, 2) := by decide +kernel
theorem dL_refused_20 : decode cL_refused 20 = .ok (.irem, 1) := by decide +kernel
theorem dL_refused_21 : decode cL_refused 21 = .ok (.ldc 144, 2) := by decide +kernel
theorem dL_refused_23 : decode cL_refused 23 = .ok (.iadd, 1) := by decide +kernel
theorem dL_refused_24 : decode cL_refused 24 = .ok (.istore_n 2, 1) := by decide +kernel
theorem dL_refused_25 : decode cL_refused 25 = .ok (.ldc 145, 2) := by decide +kernel
theorem dL_refused_27 : decode cL_refused 27 = .ok (.istore_n 3, 1) := by decide +kernel
theorem dL_refused_28 : decode cL_refused 28 = .ok (.ldc 146, 2) := by decide +kernel
theorem dL_refused_30 : decode cL_refused 30 = .ok (.istore 4, 2) := by decide +kernel
theorem dL_refused_32 : decode cL_refused 32 = .ok (.aload_n 0, 1) := by decide +kernel
theorem dL_refused_33 : decode cL_refused 33 = .ok (.iload_n 2, 1) := by decide +kernel
theorem dL_refused_34 : decode cL_refused 34 = .ok (.invokevirtual 26, 3) := by decide +kernel
theorem dL_refused_37 : decode cL_refused 37 = .ok (.bipush (-2), 2) := by decide +kernel
theorem dL_refused_39 : decode cL_refused 39 = .ok (.if_icmp .ne 402, 3) := by decide +kernel
theorem dL_refused_42 : decode cL_refused 42 = .ok (.aload_n 0, 1) := by decide +kernel
theorem dL_refused_43 : decode cL_refused 43 = .ok (.iload_n 2, 1) := by decide +kernel
theorem dL_refused_44 : decode cL_refused 44 = .ok (.iconst 0, 1) := by decide +kernel
theorem dL_refused_45 : decode cL_refused 45 = .ok (.invokevirtual 85, 3) := by decide +kernel
theorem dL_refused_48 : decode cL_refused 48 = .ok (.iload 4, 2) := by decide +kernel
theorem dL_refused_50 : decode cL_refused 50 = .ok (.if_icmp .ne 391, 3) := by decide +kernel
theorem dL_refused_53 : decode cL_refused 53 = .ok (.aload_n 0, 1) := by decide +kernel
theorem dL_refused_54 : decode cL_refused 54 = .ok (.iconst 2, 1) := by decide +kernel
theorem dL_refused_55 : decode cL_refused 55 = .ok (.iload_n 2, 1) := by decide +kernel
theorem dL_refused_56 : decode cL_refused 56 = .ok (.invokevirtual 85, 3) := by decide +kernel
theorem dL_refused_59 : decode cL_refused 59 = .ok (.iload 4, 2) := by decide +kernel
theorem dL_refused_61 : decode cL_refused 61 = .ok (.if_icmp .ne 380, 3) := by decide +kernel
theorem dL_refused_64 : decode cL_refused 64 = .ok (.aload_n 0, 1) := by decide +kernel
theorem dL_refused_65 : decode cL_refused 65 = .ok (.iload_n 2, 1) := by decide +kernel
theorem dL_refused_66 : decode cL_refused 66 = .ok (.iconst 0, 1) := by decide +kernel
theorem dL_refused_67 : decode cL_refused 67 = .ok (.invokevirtual 78, 3) := by decide +kernel
theorem dL_refused_70 : decode cL_refused 70 = .ok (.iload_n 3, 1) := by decide +kernel
theorem dL_refused_71 : decode cL_refused 71 = .ok (.if_icmp .ne 370, 3) := by decide +kernel
theorem dL_refused_74 : decode cL_refused 74 = .ok (.aload_n 0, 1) := by decide +kernel
theorem dL_refused_75 : decode cL_refused 75 = .ok (.iconst 0, 1) := by decide +kernel
theorem dL_refused_76 : decode cL_refused 76 = .ok (.iload_n 2, 1) := by decide +kernel
theorem dL_refused_77 : decode cL_refused 77 = .ok (.invokevirtual 78, 3) := by decide +kernel
theorem dL_refused_80 : decode cL_refused 80 = .ok (.iload 4, 2) := by decide +kernel
theorem dL_refused_82 : decode cL_refused 82 = .ok (.if_icmp .ne 359, 3) := by decide +kernel
theorem dL_refused_85 : decode cL_refused 85 = .ok (.aload_n 0, 1) := by decide +kernel
theorem dL_refused_86 : decode cL_refused 86 = .ok (.iload_n 2, 1) := by decide +kernel
theorem dL_refused_87 : decode cL_refused 87 = .ok (.iconst 0, 1) := by decide +kernel
theorem dL_refused_88 : decode cL_refused 88 = .ok (.invokevirtual 82, 3) := by decide +kernel
theorem dL_refused_91 : decode cL_refused 91 = .ok (.iload 4, 2) := by decide +kernel
theorem dL_refused_93 : decode cL_refused 93 = .ok (.if_icmp .ne 348, 3) := by decide +kernel
theorem dL_refused_96 : decode cL_refused 96 = .ok (.aload_n 0, 1) := by decide +kernel
theorem dL_refused_97 : decode cL_refused 97 = .ok (.iconst 0, 1) := by decide +kernel
theorem dL_refused_98 : decode cL_refused 98 = .ok (.iload_n 2, 1) := by decide +kernel
theorem dL_refused_99 : decode cL_refused 99 = .ok (.invokevirtual 82, 3) := by decide +kernel
theorem dL_refused_102 : decode cL_refused 102 = .ok (.iload 4, 2) := by decide +kernel
theorem dL_refused_104 : decode cL_refused 104 = .ok (.if_icmp .ne 337, 3) := by decide +kernel
theorem dL_refused_107 : decode cL_refused 107 = .ok (.aload_n 0, 1) := by decide +kernel
theorem dL_refused_108 : decode cL_refused 108 = .ok (.iload_n 2, 1) := by decide +kernel
theorem dL_refused_109 : decode cL_refused 109 = .ok (.iconst 0, 1) := by decide +kernel
theorem dL_refused_110 : decode cL_refused 110 = .ok (.iconst 0, 1) := by decide +kernel
theorem dL_refused_111 : decode cL_refused 111 = .ok (.iconst 0, 1) := by decide +kernel
theorem dL_refused_112 : decode cL_refused 112 = .ok (.iconst 1, 1) := by decide +kernel
theorem dL_refused_113 : decode cL_refused 113 = .ok (.invokevirtual 71, 3) := by decide +kernel
theorem dL_refused_116 : decode cL_refused 116 = .ok (.iconst (-1), 1) := by decide +kernel
theorem dL_refused_117 : decode cL_refused 117 = .ok (.if_icmp .ne 324, 3) := by decide +kernel
theorem dL_refused_120 : decode cL_refused 120 = .ok (.aload_n 0, 1) := by decide +kernel
theorem dL_refused_121 : decode cL_refused 121 = .ok (.iconst 0, 1) := by decide +kernel
theorem dL_refused_122 : decode cL_refused 122 = .ok (.iload_n 2, 1) := by decide +kernel
theorem dL_refused_123 : decode cL_refused 123 = .ok (.iconst 0, 1) := by decide +kernel
theorem dL_refused_124 : decode cL_refused 124 = .ok (.iconst 0, 1) := by decide +kernel
theorem dL_refused_125 : decode cL_refused 125 = .ok (.iconst 1, 1) := by decide +kernel
theorem dL_refused_126 : decode cL_refused 126 = .ok (.invokevirtual 71, 3) := by decide +kernel
theorem dL_refused_129 : decode cL_refused 129 = .ok (.iconst (-1), 1) := by decide +kernel
theorem dL_refused_130 : decode cL_refused 130 = .ok (.if_icmp .ne 311, 3) := by decide +kernel
theorem dL_refused_133 : decode cL_refused 133 = .ok (.aload_n 0, 1) := by decide +kernel
theorem dL_refused_134 : decode cL_refused 134 = .ok (.iconst 0, 1) := by decide +kernel
theorem dL_refused_135 : decode cL_refused 135 = .ok (.iconst 0, 1) := by decide +kernel
theorem dL_refused_136 : decode cL_refused 136 = .ok (.iload_n 2, 1) := by decide +kernel
theorem dL_refused_137 : decode cL_refused 137 = .ok (.iconst 0, 1) := by decide +kernel
theorem dL_refused_138 : decode cL_refused 138 = .ok (.iconst 1, 1) := by decide +kernel
theorem dL_refused_139 : decode cL_refused 139 = .ok (.invokevirtual 71, 3) := by decide +kernel
theorem dL_refused_142 : decode cL_refused 142 = .ok (.iconst (-1), 1) := by decide +kernel
theorem dL_refused_143 : decode cL_refused 143 = .ok (.if_icmp .ne 298, 3) := by decide +kernel
theorem dL_refused_146 : decode cL_refused 146 = .ok (.aload_n 0, 1) := by decide +kernel
theorem dL_refused_147 : decode cL_refused 147 = .ok (.iconst 0, 1) := by decide +kernel
theorem dL_refused_148 : decode cL_refused 148 = .ok (.iconst 0, 1) := by decide +kernel
theorem dL_refused_149 : decode cL_refused 149 = .ok (.iconst 0, 1) := by decide +kernel
theorem dL_refused_150 : decode cL_refused 150 = .ok (.iload_n 2, 1) := by decide +kernel
theorem dL_refused_151 : decode cL_refused 151 = .ok (.iconst 1, 1) := by decide +kernel
theorem dL_refused_152 : decode cL_refused 152 = .ok (.invokevirtual 71, 3) := by decide +kernel
theorem dL_refused_155 : decode cL_refused 155 = .ok (.iconst (-1), 1) := by decide +kernel
theorem dL_refused_156 : decode cL_refused 156 = .ok (.if_icmp .ne 285, 3) := by decide +kernel
theorem dL_refused_159 : decode cL_refused 159 = .ok (.aload_n 0, 1) := by decide +kernel
theorem dL_refused_160 : decode cL_refused 160 = .ok (.iconst 0, 1) := by decide +kernel
theorem dL_refused_161 : decode cL_refused 161 = .ok (.iconst 0, 1) := by decide +kernel
theorem dL_refused_162 : decode cL_refused 162 = .ok (.iconst 0, 1) := by decide +kernel
theorem dL_refused_163 : decode cL_refused 163 = .ok (.iconst 0, 1) := by decide +kernel
theorem dL_refused_164 : decode cL_refused 164 = .ok (.iload_n 2, 1) := by decide +kernel
theorem dL_refused_165 : decode cL_refused 165 = .ok (.invokevirtual 71, 3) := by decide +kernel
theorem dL_refused_168 : decode cL_refused 168 = .ok (.bipush (-2), 2) := by decide +kernel
theorem dL_refused_170 : decode cL_refused 170 = .ok (.if_icmp .ne 271, 3) := by decide +kernel
theorem dL_refused_173 : decode cL_refused 173 = .ok (.aload_n 0, 1) := by decide +kernel
theorem dL_refused_174 : decode cL_refused 174 = .ok (.iload_n 2, 1) := by decide +kernel
theorem dL_refused_175 : decode cL_refused 175 = .ok (.invokevirtual 94, 3) := by decide +kernel
theorem dL_refused_178 : decode cL_refused 178 = .ok (.bipush (-2), 2) := by decide +kernel
theorem dL_refused_180 : decode cL_refused 180 = .ok (.if_icmp .ne 261, 3) := by decide +kernel
theorem dL_refused_183 : decode cL_refused 183 = .ok (.aload_n 0, 1) := by decide +kernel
theorem dL_refused_184 : decode cL_refused 184 = .ok (.iload_n 2, 1) := by decide +kernel
theorem dL_refused_185 : decode cL_refused 185 = .ok (.iconst 0, 1) := by decide +kernel
theorem dL_refused_186 : decode cL_refused 186 = .ok (.invokevirtual 75, 3) := by decide +kernel
theorem dL_refused_189 : decode cL_refused 189 = .ok (.iload_n 3, 1) := by decide +kernel
theorem dL_refused_190 : decode cL_refused 190 = .ok (.if_icmp .ne 251, 3) := by decide +kernel
theorem dL_refused_193 : decode cL_refused 193 = .ok (.aload_n 0, 1) := by decide +kernel
theorem dL_refused_194 : decode cL_refused 194 = .ok (.iconst 0, 1) := by decide +kernel
theorem dL_refused_195 : decode cL_refused 195 = .ok (.iload_n 2, 1) := by decide +kernel
theorem dL_refused_196 : decode cL_refused 196 = .ok (.invokevirtual 75, 3) := by decide +kernel
theorem dL_refused_199 : decode cL_refused 199 = .ok (.iload 4, 2) := by decide +kernel
theorem dL_refused_201 : decode cL_refused 201 = .ok (.if_icmp .ne 240, 3) := by decide +kernel
theorem dL_refused_204 : decode cL_refused 204 = .ok (.aload_n 0, 1) := by decide +kernel
theorem dL_refused_205 : decode cL_refused 205 = .ok (.iconst 0, 1) := by decide +kernel
theorem dL_refused_206 : decode cL_refused 206 = .ok (.iload_n 2, 1) := by decide +kernel
theorem dL_refused_207 : decode cL_refused 207 = .ok (.iconst 0, 1) := by decide +kernel
theorem dL_refused_208 : decode cL_refused 208 = .ok (.iconst 0, 1) := by decide +kernel
theorem dL_refused_209 : decode cL_refused 209 = .ok (.invokevirtual 67, 3) := by decide +kernel
theorem dL_refused_212 : decode cL_refused 212 = .ok (.iconst (-1), 1) := by decide +kernel
theorem dL_refused_213 : decode cL_refused 213 = .ok (.if_icmp .ne 228, 3) := by decide +kernel
theorem dL_refused_216 : decode cL_refused 216 = .ok (.aload_n 0, 1) := by decide +kernel
theorem dL_refused_217 : decode cL_refused 217 = .ok (.iload_n 2, 1) := by decide +kernel
theorem dL_refused_218 : decode cL_refused 218 = .ok (.iconst 0, 1) := by decide +kernel
theorem dL_refused_219 : decode cL_refused 219 = .ok (.invokevirtual 101, 3) := by decide +kernel
theorem dL_refused_222 : decode cL_refused 222 = .ok (.ldc2_w 147, 3) := by decide +kernel
theorem dL_refused_225 : decode cL_refused 225 = .ok (.lcmp, 1) := by decide +kernel
theorem dL_refused_226 : decode cL_refused 226 = .ok (.ifCond .ne 215, 3) := by decide +kernel
theorem dL_refused_229 : decode cL_refused 229 = .ok (.aload_n 0, 1) := by decide +kernel
theorem dL_refused_230 : decode cL_refused 230 = .ok (.iconst 0, 1) := by decide +kernel
theorem dL_refused_231 : decode cL_refused 231 = .ok (.iload_n 2, 1) := by decide +kernel
theorem dL_refused_232 : decode cL_refused 232 = .ok (.invokevirtual 101, 3) := by decide +kernel
theorem dL_refused_235 : decode cL_refused 235 = .ok (.ldc2_w 149, 3) := by decide +kernel
theorem dL_refused_238 : decode cL_refused 238 = .ok (.lcmp, 1) := by decide +kernel
theorem dL_refused_239 : decode cL_refused 239 = .ok (.ifCond .ne 202, 3) := by decide +kernel
theorem dL_refused_242 : decode cL_refused 242 = .ok (.aload_n 0, 1) := by decide +kernel
theorem dL_refused_243 : decode cL_refused 243 = .ok (.iload_n 2, 1) := by decide +kernel
theorem dL_refused_244 : decode cL_refused 244 = .ok (.invokevirtual 60, 3) := by decide +kernel
theorem dL_refused_247 : decode cL_refused 247 = .ok (.iload 4, 2) := by decide +kernel
theorem dL_refused_249 : decode cL_refused 249 = .ok (.if_icmp .ne 192, 3) := by decide +kernel
theorem dL_refused_252 : decode cL_refused 252 = .ok (.aload_n 0, 1) := by decide +kernel
theorem dL_refused_253 : decode cL_refused 253 = .ok (.iload_n 2, 1) := by decide +kernel
theorem dL_refused_254 : decode cL_refused 254 = .ok (.iconst 0, 1) := by decide +kernel
theorem dL_refused_255 : decode cL_refused 255 = .ok (.invokevirtual 88, 3) := by decide +kernel
theorem dL_refused_258 : decode cL_refused 258 = .ok (.bipush (-2), 2) := by decide +kernel
theorem dL_refused_260 : decode cL_refused 260 = .ok (.if_icmp .ne 181, 3) := by decide +kernel
theorem dL_refused_263 : decode cL_refused 263 = .ok (.aload_n 0, 1) := by decide +kernel
theorem dL_refused_264 : decode cL_refused 264 = .ok (.iconst 0, 1) := by decide +kernel
theorem dL_refused_265 : decode cL_refused 265 = .ok (.iload_n 2, 1) := by decide +kernel
theorem dL_refused_266 : decode cL_refused 266 = .ok (.invokevirtual 88, 3) := by decide +kernel
theorem dL_refused_269 : decode cL_refused 269 = .ok (.bipush (-2), 2) := by decide +kernel
theorem dL_refused_271 : decode cL_refused 271 = .ok (.if_icmp .ne 170, 3) := by decide +kernel
theorem dL_refused_274 : decode cL_refused 274 = .ok (.aload_n 0, 1) := by decide +kernel
theorem dL_refused_275 : decode cL_refused 275 = .ok (.iload_n 2, 1) := by decide +kernel
theorem dL_refused_276 : decode cL_refused 276 = .ok (.iconst 0, 1) := by decide +kernel
theorem dL_refused_277 : decode cL_refused 277 = .ok (.invokevirtual 91, 3) := by decide +kernel
theorem dL_refused_280 : decode cL_refused 280 = .ok (.iconst (-1), 1) := by decide +kernel
theorem dL_refused_281 : decode cL_refused 281 = .ok (.if_icmp .ne 160, 3) := by decide +kernel
theorem dL_refused_284 : decode cL_refused 284 = .ok (.aload_n 0, 1) := by decide +kernel
theorem dL_refused_285 : decode cL_refused 285 = .ok (.iload_n 2, 1) := by decide +kernel
theorem dL_refused_286 : decode cL_refused 286 = .ok (.iconst 0, 1) := by decide +kernel
theorem dL_refused_287 : decode cL_refused 287 = .ok (.iconst 0, 1) := by decide +kernel
theorem dL_refused_288 : decode cL_refused 288 = .ok (.invokevirtual 97, 3) := by decide +kernel
theorem dL_refused_291 : decode cL_refused 291 = .ok (.iconst (-1), 1) := by decide +kernel
theorem dL_refused_292 : decode cL_refused 292 = .ok (.if_icmp .ne 149, 3) := by decide +kernel
theorem dL_refused_295 : decode cL_refused 295 = .ok (.aload_n 0, 1) := by decide +kernel
theorem dL_refused_296 : decode cL_refused 296 = .ok (.iload_n 2, 1) := by decide +kernel
theorem dL_refused_297 : decode cL_refused 297 = .ok (.iconst 0, 1) := by decide +kernel
theorem dL_refused_298 : decode cL_refused 298 = .ok (.iconst 0, 1) := by decide +kernel
theorem dL_refused_299 : decode cL_refused 299 = .ok (.iconst 1, 1) := by decide +kernel
theorem dL_refused_300 : decode cL_refused 300 = .ok (.invokevirtual 123, 3) := by decide +kernel
theorem dL_refused_303 : decode cL_refused 303 = .ok (.iconst (-1), 1) := by decide +kernel
theorem dL_refused_304 : decode cL_refused 304 = .ok (.if_icmp .ne 137, 3) := by decide +kernel
theorem dL_refused_307 : decode cL_refused 307 = .ok (.aload_n 0, 1) := by decide +kernel
theorem dL_refused_308 : decode cL_refused 308 = .ok (.iload_n 2, 1) := by decide +kernel
theorem dL_refused_309 : decode cL_refused 309 = .ok (.iconst 1, 1) := by decide +kernel
theorem dL_refused_310 : decode cL_refused 310 = .ok (.invokevirtual 117, 3) := by decide +kernel
theorem dL_refused_313 : decode cL_refused 313 = .ok (.bipush (-2), 2) := by decide +kernel
theorem dL_refused_315 : decode cL_refused 315 = .ok (.if_icmp .ne 126, 3) := by decide +kernel
theorem dL_refused_318 : decode cL_refused 318 = .ok (.aload_n 0, 1) := by decide +kernel
theorem dL_refused_319 : decode cL_refused 319 = .ok (.iconst 0, 1) := by decide +kernel
theorem dL_refused_320 : decode cL_refused 320 = .ok (.iload_n 2, 1) := by decide +kernel
theorem dL_refused_321 : decode cL_refused 321 = .ok (.invokevirtual 117, 3) := by decide +kernel
theorem dL_refused_324 : decode cL_refused 324 = .ok (.bipush (-2), 2) := by decide +kernel
theorem dL_refused_326 : decode cL_refused 326 = .ok (.if_icmp .ne 115, 3) := by decide +kernel
theorem dL_refused_329 : decode cL_refused 329 = .ok (.aload_n 0, 1) := by decide +kernel
theorem dL_refused_330 : decode cL_refused 330 = .ok (.iload_n 2, 1) := by decide +kernel
theorem dL_refused_331 : decode cL_refused 331 = .ok (.iconst 0, 1) := by decide +kernel
theorem dL_refused_332 : decode cL_refused 332 = .ok (.iconst 1, 1) := by decide +kernel
theorem dL_refused_333 : decode cL_refused 333 = .ok (.iconst 1, 1) := by decide +kernel
theorem dL_refused_334 : decode cL_refused 334 = .ok (.invokevirtual 120, 3) := by decide +kernel
theorem dL_refused_337 : decode cL_refused 337 = .ok (.iconst (-1), 1) := by decide +kernel
theorem dL_refused_338 : decode cL_refused 338 = .ok (.if_icmp .ne 103, 3) := by decide +kernel
theorem dL_refused_341 : decode cL_refused 341 = .ok (.aload_n 0, 1) := by decide +kernel
theorem dL_refused_342 : decode cL_refused 342 = .ok (.iconst 0, 1) := by decide +kernel
theorem dL_refused_343 : decode cL_refused 343 = .ok (.iload_n 2, 1) := by decide +kernel
theorem dL_refused_344 : decode cL_refused 344 = .ok (.iconst 1, 1) := by decide +kernel
theorem dL_refused_345 : decode cL_refused 345 = .ok (.iconst 1, 1) := by decide +kernel
theorem dL_refused_346 : decode cL_refused 346 = .ok (.invokevirtual 120, 3) := by decide +kernel
theorem dL_refused_349 : decode cL_refused 349 = .ok (.iconst (-1), 1) := by decide +kernel
theorem dL_refused_350 : decode cL_refused 350 = .ok (.if_icmp .ne 91, 3) := by decide +kernel
theorem dL_refused_353 : decode cL_refused 353 = .ok (.aload_n 0, 1) := by decide +kernel
theorem dL_refused_354 : decode cL_refused 354 = .ok (.iconst 0, 1) := by decide +kernel
theorem dL_refused_355 : decode cL_refused 355 = .ok (.iconst 0, 1) := by decide +kernel
theorem dL_refused_356 : decode cL_refused 356 = .ok (.iload_n 2, 1) := by decide +kernel
theorem dL_refused_357 : decode cL_refused 357 = .ok (.iconst 1, 1) := by decide +kernel
theorem dL_refused_358 : decode cL_refused 358 = .ok (.invokevirtual 120, 3) := by decide +kernel
theorem dL_refused_361 : decode cL_refused 361 = .ok (.bipush (-2), 2) := by decide +kernel
theorem dL_refused_363 : decode cL_refused 363 = .ok (.if_icmp .ne 78, 3) := by decide +kernel
theorem dL_refused_366 : decode cL_refused 366 = .ok (.aload_n 0, 1) := by decide +kernel
theorem dL_refused_367 : decode cL_refused 367 = .ok (.iconst 0, 1) := by decide +kernel
theorem dL_refused_368 : decode cL_refused 368 = .ok (.iload_n 2, 1) := by decide +kernel
theorem dL_refused_369 : decode cL_refused 369 = .ok (.iconst 1, 1) := by decide +kernel
theorem dL_refused_370 : decode cL_refused 370 = .ok (.invokevirtual 126, 3) := by decide +kernel
theorem dL_refused_373 : decode cL_refused 373 = .ok (.bipush (-2), 2) := by decide +kernel
theorem dL_refused_375 : decode cL_refused 375 = .ok (.if_icmp .ne 66, 3) := by decide +kernel
theorem dL_refused_378 : decode cL_refused 378 = .ok (.aload_n 0, 1) := by decide +kernel
theorem dL_refused_379 : decode cL_refused 379 = .ok (.iconst 0, 1) := by decide +kernel
theorem dL_refused_380 : decode cL_refused 380 = .ok (.iconst 0, 1) := by decide +kernel
theorem dL_refused_381 : decode cL_refused 381 = .ok (.iload_n 2, 1) := by decide +kernel
theorem dL_refused_382 : decode cL_refused 382 = .ok (.invokevirtual 126, 3) := by decide +kernel
theorem dL_refused_385 : decode cL_refused 385 = .ok (.bipush (-2), 2) := by decide +kernel
theorem dL_refused_387 : decode cL_refused 387 = .ok (.if_icmp .ne 54, 3) := by decide +kernel
theorem dL_refused_390 : decode cL_refused 390 = .ok (.aload_n 0, 1) := by decide +kernel
theorem dL_refused_391 : decode cL_refused 391 = .ok (.iload_n 2, 1) := by decide +kernel
theorem dL_refused_392 : decode cL_refused 392 = .ok (.invokevirtual 134, 3) := by decide +kernel
theorem dL_refused_395 : decode cL_refused 395 = .ok (.bipush (-2), 2) := by decide +kernel
theorem dL_refused_397 : decode cL_refused 397 = .ok (.if_icmp .ne 44, 3) := by decide +kernel
theorem dL_refused_400 : decode cL_refused 400 = .ok (.aload_n 0, 1) := by decide +kernel
theorem dL_refused_401 : decode cL_refused 401 = .ok (.invokevirtual 140, 3) := by decide +kernel
theorem dL_refused_404 : decode cL_refused 404 = .ok (.bipush (-3), 2) := by decide +kernel
theorem dL_refused_406 : decode cL_refused 406 = .ok (.if_icmp .ne 35, 3) := by decide +kernel
theorem dL_refused_409 : decode cL_refused 409 = .ok (.aload_n 0, 1) := by decide +kernel
theorem dL_refused_410 : decode cL_refused 410 = .ok (.iload_n 2, 1) := by decide +kernel
theorem dL_refused_411 : decode cL_refused 411 = .ok (.invokevirtual 111, 3) := by decide +kernel
theorem dL_refused_414 : decode cL_refused 414 = .ok (.bipush (-2), 2) := by decide +kernel
theorem dL_refused_416 : decode cL_refused 416 = .ok (.if_icmp .ne 25, 3) := by decide +kernel
theorem dL_refused_419 : decode cL_refused 419 = .ok (.aload_n 0, 1) := by decide +kernel
theorem dL_refused_420 : decode cL_refused 420 = .ok (.iload_n 2, 1) := by decide +kernel
theorem dL_refused_421 : decode cL_refused 421 = .ok (.invokevirtual 114, 3) := by decide +kernel
theorem dL_refused_424 : decode cL_refused 424 = .ok (.bipush (-2), 2) := by decide +kernel
theorem dL_refused_426 : decode cL_refused 426 = .ok (.if_icmp .ne 15, 3) := by decide +kernel
theorem dL_refused_429 : decode cL_refused 429 = .ok (.aload_n 0, 1) := by decide +kernel
theorem dL_refused_430 : decode cL_refused 430 = .ok (.iconst 0, 1) := by decide +kernel
theorem dL_refused_431 : decode cL_refused 431 = .ok (.invokevirtual 60, 3) := by decide +kernel
theorem dL_refused_434 : decode cL_refused 434 = .ok (.ifCond .ne 7, 3) := by decide +kernel
theorem dL_refused_437 : decode cL_refused 437 = .ok (.iconst 1, 1) := by decide +kernel
theorem dL_refused_438 : decode cL_refused 438 = .ok (.goto 4, 3) := by decide +kernel
theorem dL_refused_441 : decode cL_refused 441 = .ok (.iconst 0, 1) := by decide +kernel
theorem dL_refused_442 : decode cL_refused 442 = .ok (.ireturn, 1) := by decide +kernel
