theorem dX0_init_0 : decode cX0_init 0 = .ok (.aload_n 0, 1) := by decide +kernel
theorem dX0_init_1 : decode cX0_init 1 = .ok (.invokespecial 3, 3) := by decide +kernel
theorem dX0_init_4 : decode cX0_init 4 = .ok (.aload_n 0, 1) := by decide +kernel
theorem dX0_init_5 : decode cX0_init 5 = .ok (.bipush 50, 2) := by decide +kernel
theorem dX0_init_7 : decode cX0_init 7 = .ok (.newarray .int, 2) := by decide +kernel
theorem dX0_init_9 : decode cX0_init 9 = .ok (.putfield 9, 3) := by decide +kernel
theorem dX0_init_12 : decode cX0_init 12 = .ok (.aload_n 0, 1) := by decide +kernel
theorem dX0_init_13 : decode cX0_init 13 = .ok (.bipush 50, 2) := by decide +kernel
theorem dX0_init_15 : decode cX0_init 15 = .ok (.newarray .int, 2) := by decide +kernel
theorem dX0_init_17 : decode cX0_init 17 = .ok (.putfield 15, 3) := by decide +kernel
theorem dX0_init_20 : decode cX0_init 20 = .ok (.return_, 1) := by decide +kernel
theorem dX0_putIn_0 : decode cX0_putIn 0 = .ok (.aload_n 0, 1) := by decide +kernel
theorem dX0_putIn_1 : decode cX0_putIn 1 = .ok (.iload_n 1, 1) := by decide +kernel
theorem dX0_putIn_2 : decode cX0_putIn 2 = .ok (.putfield 18, 3) := by decide +kernel
theorem dX0_putIn_5 : decode cX0_putIn 5 = .ok (.aload_n 0, 1) := by decide +kernel
theorem dX0_putIn_6 : decode cX0_putIn 6 = .ok (.iload_n 2, 1) := by decide +kernel
theorem dX0_putIn_7 : decode cX0_putIn 7 = .ok (.putfield 22, 3) := by decide +kernel
theorem dX0_putIn_10 : decode cX0_putIn 10 = .ok (.aload_n 0, 1) := by decide +kernel
theorem dX0_putIn_11 : decode cX0_putIn 11 = .ok (.iconst 0, 1) := by decide +kernel
theorem dX0_putIn_12 : decode cX0_putIn 12 = .ok (.putfield 25, 3) := by decide +kernel
theorem dX0_putIn_15 : decode cX0_putIn 15 = .ok (.aload_n 0, 1) := by decide +kernel
theorem dX0_putIn_16 : decode cX0_putIn 16 = .ok (.iconst 0, 1) := by decide +kernel
theorem dX0_putIn_17 : decode cX0_putIn 17 = .ok (.putfield 28, 3) := by decide +kernel
theorem dX0_putIn_20 : decode cX0_putIn 20 = .ok (.aload_n 0, 1) := by decide +kernel
theorem dX0_putIn_21 : decode cX0_putIn 21 = .ok (.iconst 0, 1) := by decide +kernel
theorem dX0_putIn_22 : decode cX0_putIn 22 = .ok (.putfield 31, 3) := by decide +kernel
theorem dX0_putIn_25 : decode cX0_putIn 25 = .ok (.return_, 1) := by decide +kernel
theorem dX0_becomeLike_0 : decode cX0_becomeLike 0 = .ok (.aload_n 0, 1) := by decide +kernel
theorem dX0_becomeLike_1 : decode cX0_becomeLike 1 = .ok (.aload_n 1, 1) := by decide +kernel
theorem dX0_becomeLike_2 : decode cX0_becomeLike 2 = .ok (.getfield 18, 3) := by decide +kernel
theorem dX0_becomeLike_5 : decode cX0_becomeLike 5 = .ok (.putfield 18, 3) := by decide +kernel
theorem dX0_becomeLike_8 : decode cX0_becomeLike 8 = .ok (.aload_n 0, 1) := by decide +kernel
theorem dX0_becomeLike_9 : decode cX0_becomeLike 9 = .ok (.aload_n 1, 1) := by decide +kernel
theorem dX0_becomeLike_10 : decode cX0_becomeLike 10 = .ok (.getfield 22, 3) := by decide +kernel
theorem dX0_becomeLike_13 : decode cX0_becomeLike 13 = .ok (.putfield 22, 3) := by decide +kernel
theorem dX0_becomeLike_16 : decode cX0_becomeLike 16 = .ok (.aload_n 0, 1) := by decide +kernel
theorem dX0_becomeLike_17 : decode cX0_becomeLike 17 = .ok (.aload_n 1, 1) := by decide +kernel
theorem dX0_becomeLike_18 : decode cX0_becomeLike 18 = .ok (.getfield 25, 3) := by decide +kernel
theorem dX0_becomeLike_21 : decode cX0_becomeLike 21 = .ok (.putfield 25, 3) := by decide +kernel
theorem dX0_becomeLike_24 : decode cX0_becomeLike 24 = .ok (.aload_n 0, 1) := by decide +kernel
theorem dX0_becomeLike_25 : decode cX0_becomeLike 25 = .ok (.aload_n 1, 1) := by decide +kernel
theorem dX0_becomeLike_26 : decode cX0_becomeLike 26 = .ok (.getfield 28, 3) := by decide +kernel
theorem dX0_becomeLike_29 : decode cX0_becomeLike 29 = .ok (.putfield 28, 3) := by decide +kernel
theorem dX0_becomeLike_32 : decode cX0_becomeLike 32 = .ok (.aload_n 0, 1) := by decide +kernel
theorem dX0_becomeLike_33 : decode cX0_becomeLike 33 = .ok (.aload_n 1, 1) := by decide +kernel
theorem dX0_becomeLike_34 : decode cX0_becomeLike 34 = .ok (.getfield 31, 3) := by decide +kernel
theorem dX0_becomeLike_37 : decode cX0_becomeLike 37 = .ok (.putfield 31, 3) := by decide +kernel
theorem dX0_becomeLike_40 : decode cX0_becomeLike 40 = .ok (.aload_n 1, 1) := by decide +kernel
theorem dX0_becomeLike_41 : decode cX0_becomeLike 41 = .ok (.getfield 9, 3) := by decide +kernel
theorem dX0_becomeLike_44 : decode cX0_becomeLike 44 = .ok (.iconst 0, 1) := by decide +kernel
theorem dX0_becomeLike_45 : decode cX0_becomeLike 45 = .ok (.aload_n 0, 1) := by decide +kernel
theorem dX0_becomeLike_46 : decode cX0_becomeLike 46 = .ok (.getfield 9, 3) := by decide +kernel
theorem dX0_becomeLike_49 : decode cX0_becomeLike 49 = .ok (.iconst 0, 1) := by decide +kernel
theorem dX0_becomeLike_50 : decode cX0_becomeLike 50 = .ok (.bipush 50, 2) := by decide +kernel
theorem dX0_becomeLike_52 : decode cX0_becomeLike 52 = .ok (.invokestatic 34, 3) := by decide +kernel
theorem dX0_becomeLike_55 : decode cX0_becomeLike 55 = .ok (.aload_n 1, 1) := by decide +kernel
theorem dX0_becomeLike_56 : decode cX0_becomeLike 56 = .ok (.getfield 15, 3) := by decide +kernel
theorem dX0_becomeLike_59 : decode cX0_becomeLike 59 = .ok (.iconst 0, 1) := by decide +kernel
theorem dX0_becomeLike_60 : decode cX0_becomeLike 60 = .ok (.aload_n 0, 1) := by decide +kernel
theorem dX0_becomeLike_61 : decode cX0_becomeLike 61 = .ok (.getfield 15, 3) := by decide +kernel
theorem dX0_becomeLike_64 : decode cX0_becomeLike 64 = .ok (.iconst 0, 1) := by decide +kernel
theorem dX0_becomeLike_65 : decode cX0_becomeLike 65 = .ok (.bipush 50, 2) := by decide +kernel
theorem dX0_becomeLike_67 : decode cX0_becomeLike 67 = .ok (.invokestatic 34, 3) := by decide +kernel
theorem dX0_becomeLike_70 : decode cX0_becomeLike 70 = .ok (.return_, 1) := by decide +kernel
theorem dX0_ringNow_0 : decode cX0_ringNow 0 = .ok (.aload_n 0, 1) := by decide +kernel
theorem dX0_ringNow_1 : decode cX0_ringNow 1 = .ok (.getfield 18, 3) := by decide +kernel
theorem dX0_ringNow_4 : decode cX0_ringNow 4 = .ok (.sipush 1000, 3) := by decide +kernel
theorem dX0_ringNow_7 : decode cX0_ringNow 7 = .ok (.idiv, 1) := by decide +kernel
theorem dX0_ringNow_8 : decode cX0_ringNow 8 = .ok (.ireturn, 1) := by decide +kernel
theorem dX0_move_0 : decode cX0_move 0 = .ok (.aload_n 0, 1) := by decide +kernel
theorem dX0_move_1 : decode cX0_move 1 = .ok (.invokevirtual 40, 3) := by decide +kernel
theorem dX0_move_4 : decode cX0_move 4 = .ok (.istore 4, 2) := by decide +kernel
theorem dX0_move_6 : decode cX0_move 6 = .ok (.aload_n 0, 1) := by decide +kernel
theorem dX0_move_7 : decode cX0_move 7 = .ok (.aload_n 0, 1) := by decide +kernel
theorem dX0_move_8 : decode cX0_move 8 = .ok (.getfield 22, 3) := by decide +kernel
theorem dX0_move_11 : decode cX0_move 11 = .ok (.iload_n 1, 1) := by decide +kernel
theorem dX0_move_12 : decode cX0_move 12 = .ok (.iadd, 1) := by decide +kernel
theorem dX0_move_13 : decode cX0_move 13 = .ok (.sipush 3600, 3) := by decide +kernel
theorem dX0_move_16 : decode cX0_move 16 = .ok (.invokestatic 44, 3) := by decide +kernel
theorem dX0_move_19 : decode cX0_move 19 = .ok (.putfield 22, 3) := by decide +kernel
theorem dX0_move_22 : decode cX0_move 22 = .ok (.aload_n 0, 1) := by decide +kernel
theorem dX0_move_23 : decode cX0_move 23 = .ok (.iconst 0, 1) := by decide +kernel
theorem dX0_move_24 : decode cX0_move 24 = .ok (.iload_n 3, 1) := by decide +kernel
theorem dX0_move_25 : decode cX0_move 25 = .ok (.aload_n 0, 1) := by decide +kernel
theorem dX0_move_26 : decode cX0_move 26 = .ok (.getfield 18, 3) := by decide +kernel
theorem dX0_move_29 : decode cX0_move 29 = .ok (.iload_n 2, 1) := by decide +kernel
theorem dX0_move_30 : decode cX0_move 30 = .ok (.iadd, 1) := by decide +kernel
theorem dX0_move_31 : decode cX0_move 31 = .ok (.invokestatic 50, 3) := by decide +kernel
theorem dX0_move_34 : decode cX0_move 34 = .ok (.invokestatic 53, 3) := by decide +kernel
theorem dX0_move_37 : decode cX0_move 37 = .ok (.putfield 18, 3) := by decide +kernel
theorem dX0_move_40 : decode cX0_move 40 = .ok (.aload_n 0, 1) := by decide +kernel
theorem dX0_move_41 : decode cX0_move 41 = .ok (.invokevirtual 40, 3) := by decide +kernel
theorem dX0_move_44 : decode cX0_move 44 = .ok (.iload 4, 2) := by decide +kernel
theorem dX0_move_46 : decode cX0_move 46 = .ok (.if_icmp .eq 13, 3) := by decide +kernel
theorem dX0_move_49 : decode cX0_move 49 = .ok (.aload_n 0, 1) := by decide +kernel
theorem dX0_move_50 : decode cX0_move 50 = .ok (.dup, 1) := by decide +kernel
theorem dX0_move_51 : decode cX0_move 51 = .ok (.getfield 28, 3) := by decide +kernel
theorem dX0_move_54 : decode cX0_move 54 = .ok (.iconst 1, 1) := by decide +kernel
theorem dX0_move_55 : decode cX0_move 55 = .ok (.iadd, 1) := by decide +kernel
theorem dX0_move_56 : decode cX0_move 56 = .ok (.putfield 28, 3) := by decide +kernel
theorem dX0_move_59 : decode cX0_move 59 = .ok (.aload_n 0, 1) := by decide +kernel
theorem dX0_move_60 : decode cX0_move 60 = .ok (.invokevirtual 56, 3) := by decide +kernel
theorem dX0_move_63 : decode cX0_move 63 = .ok (.return_, 1) := by decide +kernel
theorem dX0_keepPosition_0 : decode cX0_keepPosition 0 = .ok (.aload_n 0, 1) := by decide +kernel
theorem dX0_keepPosition_1 : decode cX0_keepPosition 1 = .ok (.getfield 9, 3) := by decide +kernel
theorem dX0_keepPosition_4 : decode cX0_keepPosition 4 = .ok (.aload_n 0, 1) := by decide +kernel
theorem dX0_keepPosition_5 : decode cX0_keepPosition 5 = .ok (.getfield 31, 3) := by decide +kernel
theorem dX0_keepPosition_8 : decode cX0_keepPosition 8 = .ok (.aload_n 0, 1) := by decide +kernel
theorem dX0_keepPosition_9 : decode cX0_keepPosition 9 = .ok (.getfield 18, 3) := by decide +kernel
theorem dX0_keepPosition_12 : decode cX0_keepPosition 12 = .ok (.iastore, 1) := by decide +kernel
theorem dX0_keepPosition_13 : decode cX0_keepPosition 13 = .ok (.aload_n 0, 1) := by decide +kernel
theorem dX0_keepPosition_14 : decode cX0_keepPosition 14 = .ok (.getfield 15, 3) := by decide +kernel
theorem dX0_keepPosition_17 : decode cX0_keepPosition 17 = .ok (.aload_n 0, 1) := by decide +kernel
theorem dX0_keepPosition_18 : decode cX0_keepPosition 18 = .ok (.getfield 31, 3) := by decide +kernel
theorem dX0_keepPosition_21 : decode cX0_keepPosition 21 = .ok (.aload_n 0, 1) := by decide +kernel
theorem dX0_keepPosition_22 : decode cX0_keepPosition 22 = .ok (.getfield 22, 3) := by decide +kernel
theorem dX0_keepPosition_25 : decode cX0_keepPosition 25 = .ok (.iastore, 1) := by decide +kernel
theorem dX0_keepPosition_26 : decode cX0_keepPosition 26 = .ok (.aload_n 0, 1) := by decide +kernel
theorem dX0_keepPosition_27 : decode cX0_keepPosition 27 = .ok (.aload_n 0, 1) := by decide +kernel
theorem dX0_keepPosition_28 : decode cX0_keepPosition 28 = .ok (.getfield 31, 3) := by decide +kernel
theorem dX0_keepPosition_31 : decode cX0_keepPosition 31 = .ok (.bipush 49, 2) := by decide +kernel
theorem dX0_keepPosition_33 : decode cX0_keepPosition 33 = .ok (.if_icmp .ge 12, 3) := by decide +kernel
theorem dX0_keepPosition_36 : decode cX0_keepPosition 36 = .ok (.aload_n 0, 1) := by decide +kernel
theorem dX0_keepPosition_37 : decode cX0_keepPosition 37 = .ok (.getfield 31, 3) := by decide +kernel
theorem dX0_keepPosition_40 : decode cX0_keepPosition 40 = .ok (.iconst 1, 1) := by decide +kernel
theorem dX0_keepPosition_41 : decode cX0_keepPosition 41 = .ok (.iadd, 1) := by decide +kernel
theorem dX0_keepPosition_42 : decode cX0_keepPosition 42 = .ok (.goto 4, 3) := by decide +kernel
theorem dX0_keepPosition_45 : decode cX0_keepPosition 45 = .ok (.iconst 0, 1) := by decide +kernel
theorem dX0_keepPosition_46 : decode cX0_keepPosition 46 = .ok (.putfield 31, 3) := by decide +kernel
theorem dX0_keepPosition_49 : decode cX0_keepPosition 49 = .ok (.aload_n 0, 1) := by decide +kernel
theorem dX0_keepPosition_50 : decode cX0_keepPosition 50 = .ok (.bipush 50, 2) := by decide +kernel
theorem dX0_keepPosition_52 : decode cX0_keepPosition 52 = .ok (.aload_n 0, 1) := by decide +kernel
theorem dX0_keepPosition_53 : decode cX0_keepPosition 53 = .ok (.getfield 25, 3) := by decide +kernel
theorem dX0_keepPosition_56 : decode cX0_keepPosition 56 = .ok (.iconst 1, 1) := by decide +kernel
theorem dX0_keepPosition_57 : decode cX0_keepPosition 57 = .ok (.iadd, 1) := by decide +kernel
theorem dX0_keepPosition_58 : decode cX0_keepPosition 58 = .ok (.invokestatic 50, 3) := by decide +kernel
theorem dX0_keepPosition_61 : decode cX0_keepPosition 61 = .ok (.putfield 25, 3) := by decide +kernel
theorem dX0_keepPosition_64 : decode cX0_keepPosition 64 = .ok (.return_, 1) := by decide +kernel
theorem dX0_placeBack_0 : decode cX0_placeBack 0 = .ok (.aload_n 0, 1) := by decide +kernel
theorem dX0_placeBack_1 : decode cX0_placeBack 1 = .ok (.getfield 9, 3) := by decide +kernel
theorem dX0_placeBack_4 : decode cX0_placeBack 4 = .ok (.aload_n 0, 1) := by decide +kernel
theorem dX0_placeBack_5 : decode cX0_placeBack 5 = .ok (.getfield 31, 3) := by decide +kernel
theorem dX0_placeBack_8 : decode cX0_placeBack 8 = .ok (.iconst 1, 1) := by decide +kernel
theorem dX0_placeBack_9 : decode cX0_placeBack 9 = .ok (.isub, 1) := by decide +kernel
theorem dX0_placeBack_10 : decode cX0_placeBack 10 = .ok (.iload_n 1, 1) := by decide +kernel
theorem dX0_placeBack_11 : decode cX0_placeBack 11 = .ok (.isub, 1) := by decide +kernel
theorem dX0_placeBack_12 : decode cX0_placeBack 12 = .ok (.bipush 50, 2) := by decide +kernel
theorem dX0_placeBack_14 : decode cX0_placeBack 14 = .ok (.invokestatic 44, 3) := by decide +kernel
theorem dX0_placeBack_17 : decode cX0_placeBack 17 = .ok (.iaload, 1) := by decide +kernel
theorem dX0_placeBack_18 : decode cX0_placeBack 18 = .ok (.ireturn, 1) := by decide +kernel
theorem dX0_angleBack_0 : decode cX0_angleBack 0 = .ok (.aload_n 0, 1) := by decide +kernel
theorem dX0_angleBack_1 : decode cX0_angleBack 1 = .ok (.getfield 15, 3) := by decide +kernel
theorem dX0_angleBack_4 : decode cX0_angleBack 4 = .ok (.aload_n 0, 1) := by decide +kernel
theorem dX0_angleBack_5 : decode cX0_angleBack 5 = .ok (.getfield 31, 3) := by decide +kernel
theorem dX0_angleBack_8 : decode cX0_angleBack 8 = .ok (.iconst 1, 1) := by decide +kernel
theorem dX0_angleBack_9 : decode cX0_angleBack 9 = .ok (.isub, 1) := by decide +kernel
theorem dX0_angleBack_10 : decode cX0_angleBack 10 = .ok (.iload_n 1, 1) := by decide +kernel
theorem dX0_angleBack_11 : decode cX0_angleBack 11 = .ok (.isub, 1) := by decide +kernel
theorem dX0_angleBack_12 : decode cX0_angleBack 12 = .ok (.bipush 50, 2) := by decide +kernel
theorem dX0_angleBack_14 : decode cX0_angleBack 14 = .ok (.invokestatic 44, 3) := by decide +kernel
theorem dX0_angleBack_17 : decode cX0_angleBack 17 = .ok (.iaload, 1) := by decide +kernel
theorem dX0_angleBack_18 : decode cX0_angleBack 18 = .ok (.ireturn, 1) := by decide +kernel
theorem dX0_isNear_0 : decode cX0_isNear 0 = .ok (.aload_n 0, 1) := by decide +kernel
theorem dX0_isNear_1 : decode cX0_isNear 1 = .ok (.getfield 22, 3) := by decide +kernel
theorem dX0_isNear_4 : decode cX0_isNear 4 = .ok (.aload_n 1, 1) := by decide +kernel
theorem dX0_isNear_5 : decode cX0_isNear 5 = .ok (.getfield 22, 3) := by decide +kernel
theorem dX0_isNear_8 : decode cX0_isNear 8 = .ok (.isub, 1) := by decide +kernel
theorem dX0_isNear_9 : decode cX0_isNear 9 = .ok (.invokestatic 59, 3) := by decide +kernel
theorem dX0_isNear_12 : decode cX0_isNear 12 = .ok (.istore_n 3, 1) := by decide +kernel
theorem dX0_isNear_13 : decode cX0_isNear 13 = .ok (.aload_n 0, 1) := by decide +kernel
theorem dX0_isNear_14 : decode cX0_isNear 14 = .ok (.invokevirtual 40, 3) := by decide +kernel
theorem dX0_isNear_17 : decode cX0_isNear 17 = .ok (.aload_n 1, 1) := by decide +kernel
theorem dX0_isNear_18 : decode cX0_isNear 18 = .ok (.invokevirtual 40, 3) := by decide +kernel
theorem dX0_isNear_21 : decode cX0_isNear 21 = .ok (.if_icmp .ne 20, 3) := by decide +kernel
theorem dX0_isNear_24 : decode cX0_isNear 24 = .ok (.iload_n 3, 1) := by decide +kernel
theorem dX0_isNear_25 : decode cX0_isNear 25 = .ok (.sipush 3600, 3) := by decide +kernel
theorem dX0_isNear_28 : decode cX0_isNear 28 = .ok (.iload_n 3, 1) := by decide +kernel
theorem dX0_isNear_29 : decode cX0_isNear 29 = .ok (.isub, 1) := by decide +kernel
theorem dX0_isNear_30 : decode cX0_isNear 30 = .ok (.invokestatic 50, 3) := by decide +kernel
theorem dX0_isNear_33 : decode cX0_isNear 33 = .ok (.iload_n 2, 1) := by decide +kernel
theorem dX0_isNear_34 : decode cX0_isNear 34 = .ok (.if_icmp .gt 7, 3) := by decide +kernel
theorem dX0_isNear_37 : decode cX0_isNear 37 = .ok (.iconst 1, 1) := by decide +kernel
theorem dX0_isNear_38 : decode cX0_isNear 38 = .ok (.goto 4, 3) := by decide +kernel
theorem dX0_isNear_41 : decode cX0_isNear 41 = .ok (.iconst 0, 1) := by decide +kernel
theorem dX0_isNear_42 : decode cX0_isNear 42 = .ok (.ireturn, 1) := by decide +kernel
theorem dX1_init_0 : decode cX1_init 0 = .ok (.aload_n 0, 1) := by decide +kernel
theorem dX1_init_1 : decode cX1_init 1 = .ok (.invokespecial 3, 3) := by decide +kernel
theorem dX1_init_4 : decode cX1_init 4 = .ok (.aload_n 0, 1) := by decide +kernel
theorem dX1_init_5 : decode cX1_init 5 = .ok (.bipush 60, 2) := by decide +kernel
theorem dX1_init_7 : decode cX1_init 7 = .ok (.newarray .char, 2) := by decide +kernel
theorem dX1_init_9 : decode cX1_init 9 = .ok (.putfield 9, 3) := by decide +kernel
theorem dX1_init_12 : decode cX1_init 12 = .ok (.return_, 1) := by decide +kernel
theorem dX1_append_0 : decode cX1_append 0 = .ok (.aload_n 0, 1) := by decide +kernel
theorem dX1_append_1 : decode cX1_append 1 = .ok (.getfield 15, 3) := by decide +kernel
theorem dX1_append_4 : decode cX1_append 4 = .ok (.ifCond .lt 32, 3) := by decide +kernel
theorem dX1_append_7 : decode cX1_append 7 = .ok (.aload_n 0, 1) := by decide +kernel
theorem dX1_append_8 : decode cX1_append 8 = .ok (.getfield 15, 3) := by decide +kernel
theorem dX1_append_11 : decode cX1_append 11 = .ok (.bipush 60, 2) := by decide +kernel
theorem dX1_append_13 : decode cX1_append 13 = .ok (.if_icmp .ge 23, 3) := by decide +kernel
theorem dX1_append_16 : decode cX1_append 16 = .ok (.aload_n 0, 1) := by decide +kernel
theorem dX1_append_17 : decode cX1_append 17 = .ok (.getfield 9, 3) := by decide +kernel
theorem dX1_append_20 : decode cX1_append 20 = .ok (.aload_n 0, 1) := by decide +kernel
theorem dX1_append_21 : decode cX1_append 21 = .ok (.getfield 15, 3) := by decide +kernel
theorem dX1_append_24 : decode cX1_append 24 = .ok (.iload_n 1, 1) := by decide +kernel
theorem dX1_append_25 : decode cX1_append 25 = .ok (.castore, 1) := by decide +kernel
theorem dX1_append_26 : decode cX1_append 26 = .ok (.aload_n 0, 1) := by decide +kernel
theorem dX1_append_27 : decode cX1_append 27 = .ok (.dup, 1) := by decide +kernel
theorem dX1_append_28 : decode cX1_append 28 = .ok (.getfield 15, 3) := by decide +kernel
theorem dX1_append_31 : decode cX1_append 31 = .ok (.iconst 1, 1) := by decide +kernel
theorem dX1_append_32 : decode cX1_append 32 = .ok (.iadd, 1) := by decide +kernel
theorem dX1_append_33 : decode cX1_append 33 = .ok (.putfield 15, 3) := by decide +kernel
theorem dX1_append_36 : decode cX1_append 36 = .ok (.return_, 1) := by decide +kernel
theorem dX1_firstFault_0 : decode cX1_firstFault 0 = .ok (.aload_n 0, 1) := by decide +kernel
theorem dX1_firstFault_1 : decode cX1_firstFault 1 = .ok (.iconst 0, 1) := by decide +kernel
theorem dX1_firstFault_2 : decode cX1_firstFault 2 = .ok (.putfield 19, 3) := by decide +kernel
theorem dX1_firstFault_5 : decode cX1_firstFault 5 = .ok (.iconst 0, 1) := by decide +kernel
theorem dX1_firstFault_6 : decode cX1_firstFault 6 = .ok (.istore_n 1, 1) := by decide +kernel
theorem dX1_firstFault_7 : decode cX1_firstFault 7 = .ok (.iload_n 1, 1) := by decide +kernel
theorem dX1_firstFault_8 : decode cX1_firstFault 8 = .ok (.bipush 60, 2) := by decide +kernel
theorem dX1_firstFault_10 : decode cX1_firstFault 10 = .ok (.if_icmp .ge 49, 3) := by decide +kernel
theorem dX1_firstFault_13 : decode cX1_firstFault 13 = .ok (.aload_n 0, 1) := by decide +kernel
theorem dX1_firstFault_14 : decode cX1_firstFault 14 = .ok (.invokevirtual 22, 3) := by decide +kernel
theorem dX1_firstFault_17 : decode cX1_firstFault 17 = .ok (.ifCond .ne 8, 3) := by decide +kernel
theorem dX1_firstFault_20 : decode cX1_firstFault 20 = .ok (.aload_n 0, 1) := by decide +kernel
theorem dX1_firstFault_21 : decode cX1_firstFault 21 = .ok (.getfield 19, 3) := by decide +kernel
theorem dX1_firstFault_24 : decode cX1_firstFault 24 = .ok (.ireturn, 1) := by decide +kernel
theorem dX1_firstFault_25 : decode cX1_firstFault 25 = .ok (.aload_n 0, 1) := by decide +kernel
theorem dX1_firstFault_26 : decode cX1_firstFault 26 = .ok (.getfield 19, 3) := by decide +kernel
theorem dX1_firstFault_29 : decode cX1_firstFault 29 = .ok (.aload_n 0, 1) := by decide +kernel
theorem dX1_firstFault_30 : decode cX1_firstFault 30 = .ok (.getfield 15, 3) := by decide +kernel
theorem dX1_firstFault_33 : decode cX1_firstFault 33 = .ok (.if_icmp .ne 6, 3) := by decide +kernel
theorem dX1_firstFault_36 : decode cX1_firstFault 36 = .ok (.bipush (-6), 2) := by decide +kernel
theorem dX1_firstFault_38 : decode cX1_firstFault 38 = .ok (.ireturn, 1) := by decide +kernel
theorem dX1_firstFault_39 : decode cX1_firstFault 39 = .ok (.aload_n 0, 1) := by decide +kernel
theorem dX1_firstFault_40 : decode cX1_firstFault 40 = .ok (.bipush 44, 2) := by decide +kernel
theorem dX1_firstFault_42 : decode cX1_firstFault 42 = .ok (.invokevirtual 26, 3) := by decide +kernel
theorem dX1_firstFault_45 : decode cX1_firstFault 45 = .ok (.ifCond .ne 8, 3) := by decide +kernel
theorem dX1_firstFault_48 : decode cX1_firstFault 48 = .ok (.aload_n 0, 1) := by decide +kernel
theorem dX1_firstFault_49 : decode cX1_firstFault 49 = .ok (.getfield 19, 3) := by decide +kernel
theorem dX1_firstFault_52 : decode cX1_firstFault 52 = .ok (.ireturn, 1) := by decide +kernel
theorem dX1_firstFault_53 : decode cX1_firstFault 53 = .ok (.iinc 1 1, 3) := by decide +kernel
theorem dX1_firstFault_56 : decode cX1_firstFault 56 = .ok (.goto (-49), 3) := by decide +kernel
theorem dX1_firstFault_59 : decode cX1_firstFault 59 = .ok (.aload_n 0, 1) := by decide +kernel
theorem dX1_firstFault_60 : decode cX1_firstFault 60 = .ok (.getfield 19, 3) := by decide +kernel
theorem dX1_firstFault_63 : decode cX1_firstFault 63 = .ok (.ireturn, 1) := by decide +kernel
theorem dX1_readStep_0 : decode cX1_readStep 0 = .ok (.aload_n 0, 1) := by decide +kernel
theorem dX1_readStep_1 : decode cX1_readStep 1 = .ok (.aload_n 0, 1) := by decide +kernel
theorem dX1_readStep_2 : decode cX1_readStep 2 = .ok (.invokevirtual 30, 3) := by decide +kernel
theorem dX1_readStep_5 : decode cX1_readStep 5 = .ok (.putfield 34, 3) := by decide +kernel
theorem dX1_readStep_8 : decode cX1_readStep 8 = .ok (.aload_n 0, 1) := by decide +kernel
theorem dX1_readStep_9 : decode cX1_readStep 9 = .ok (.bipush 116, 2) := by decide +kernel
theorem dX1_readStep_11 : decode cX1_readStep 11 = .ok (.invokevirtual 26, 3) := by decide +kernel
theorem dX1_readStep_14 : decode cX1_readStep 14 = .ok (.ifCond .eq 28, 3) := by decide +kernel
theorem dX1_readStep_17 : decode cX1_readStep 17 = .ok (.aload_n 0, 1) := by decide +kernel
theorem dX1_readStep_18 : decode cX1_readStep 18 = .ok (.aload_n 0, 1) := by decide +kernel
theorem dX1_readStep_19 : decode cX1_readStep 19 = .ok (.iconst 1, 1) := by decide +kernel
theorem dX1_readStep_20 : decode cX1_readStep 20 = .ok (.sipush 999, 3) := by decide +kernel
theorem dX1_readStep_23 : decode cX1_readStep 23 = .ok (.invokevirtual 38, 3) := by decide +kernel
theorem dX1_readStep_26 : decode cX1_readStep 26 = .ok (.putfield 42, 3) := by decide +kernel
theorem dX1_readStep_29 : decode cX1_readStep 29 = .ok (.aload_n 0, 1) := by decide +kernel
theorem dX1_readStep_30 : decode cX1_readStep 30 = .ok (.getfield 42, 3) := by decide +kernel
theorem dX1_readStep_33 : decode cX1_readStep 33 = .ok (.ifCond .lt 7, 3) := by decide +kernel
theorem dX1_readStep_36 : decode cX1_readStep 36 = .ok (.iconst 1, 1) := by decide +kernel
theorem dX1_readStep_37 : decode cX1_readStep 37 = .ok (.goto 4, 3) := by decide +kernel
theorem dX1_readStep_40 : decode cX1_readStep 40 = .ok (.iconst 0, 1) := by decide +kernel
theorem dX1_readStep_41 : decode cX1_readStep 41 = .ok (.ireturn, 1) := by decide +kernel
theorem dX1_readStep_42 : decode cX1_readStep 42 = .ok (.aload_n 0, 1) := by decide +kernel
theorem dX1_readStep_43 : decode cX1_readStep 43 = .ok (.bipush 118, 2) := by decide +kernel
theorem dX1_readStep_45 : decode cX1_readStep 45 = .ok (.invokevirtual 26, 3) := by decide +kernel
theorem dX1_readStep_48 : decode cX1_readStep 48 = .ok (.ifCond .eq 32, 3) := by decide +kernel
theorem dX1_readStep_51 : decode cX1_readStep 51 = .ok (.aload_n 0, 1) := by decide +kernel
theorem dX1_readStep_52 : decode cX1_readStep 52 = .ok (.invokevirtual 45, 3) := by decide +kernel
theorem dX1_readStep_55 : decode cX1_readStep 55 = .ok (.ifCond .eq 23, 3) := by decide +kernel
theorem dX1_readStep_58 : decode cX1_readStep 58 = .ok (.aload_n 0, 1) := by decide +kernel
theorem dX1_readStep_59 : decode cX1_readStep 59 = .ok (.bipush 58, 2) := by decide +kernel
theorem dX1_readStep_61 : decode cX1_readStep 61 = .ok (.invokevirtual 26, 3) := by decide +kernel
theorem dX1_readStep_64 : decode cX1_readStep 64 = .ok (.ifCond .eq 14, 3) := by decide +kernel
theorem dX1_readStep_67 : decode cX1_readStep 67 = .ok (.aload_n 0, 1) := by decide +kernel
theorem dX1_readStep_68 : decode cX1_readStep 68 = .ok (.invokevirtual 48, 3) := by decide +kernel
theorem dX1_readStep_71 : decode cX1_readStep 71 = .ok (.ifCond .eq 7, 3) := by decide +kernel
theorem dX1_readStep_74 : decode cX1_readStep 74 = .ok (.iconst 1, 1) := by decide +kernel
theorem dX1_readStep_75 : decode cX1_readStep 75 = .ok (.goto 4, 3) := by decide +kernel
theorem dX1_readStep_78 : decode cX1_readStep 78 = .ok (.iconst 0, 1) := by decide +kernel
theorem dX1_readStep_79 : decode cX1_readStep 79 = .ok (.ireturn, 1) := by decide +kernel
theorem dX1_readStep_80 : decode cX1_readStep 80 = .ok (.aload_n 0, 1) := by decide +kernel
theorem dX1_readStep_81 : decode cX1_readStep 81 = .ok (.bipush 100, 2) := by decide +kernel
theorem dX1_readStep_83 : decode cX1_readStep 83 = .ok (.invokevirtual 26, 3) := by decide +kernel
theorem dX1_readStep_86 : decode cX1_readStep 86 = .ok (.ifCond .eq 60, 3) := by decide +kernel
theorem dX1_readStep_89 : decode cX1_readStep 89 = .ok (.aload_n 0, 1) := by decide +kernel
theorem dX1_readStep_90 : decode cX1_readStep 90 = .ok (.invokevirtual 51, 3) := by decide +kernel
theorem dX1_readStep_93 : decode cX1_readStep 93 = .ok (.ifCond .eq 53, 3) := by decide +kernel
theorem dX1_readStep_96 : decode cX1_readStep 96 = .ok (.aload_n 0, 1) := by decide +kernel
theorem dX1_readStep_97 : decode cX1_readStep 97 = .ok (.invokevirtual 54, 3) := by decide +kernel
theorem dX1_readStep_100 : decode cX1_readStep 100 = .ok (.ifCond .eq 46, 3) := by decide +kernel
theorem dX1_readStep_103 : decode cX1_readStep 103 = .ok (.aload_n 0, 1) := by decide +kernel
theorem dX1_readStep_104 : decode cX1_readStep 104 = .ok (.invokevirtual 45, 3) := by decide +kernel
theorem dX1_readStep_107 : decode cX1_readStep 107 = .ok (.ifCond .eq 39, 3) := by decide +kernel
theorem dX1_readStep_110 : decode cX1_readStep 110 = .ok (.aload_n 0, 1) := by decide +kernel
theorem dX1_readStep_111 : decode cX1_readStep 111 = .ok (.bipush 58, 2) := by decide +kernel
theorem dX1_readStep_113 : decode cX1_readStep 113 = .ok (.invokevirtual 26, 3) := by decide +kernel
theorem dX1_readStep_116 : decode cX1_readStep 116 = .ok (.ifCond .eq 30, 3) := by decide +kernel
theorem dX1_readStep_119 : decode cX1_readStep 119 = .ok (.aload_n 0, 1) := by decide +kernel
theorem dX1_readStep_120 : decode cX1_readStep 120 = .ok (.invokevirtual 57, 3) := by decide +kernel
theorem dX1_readStep_123 : decode cX1_readStep 123 = .ok (.ifCond .eq 23, 3) := by decide +kernel
theorem dX1_readStep_126 : decode cX1_readStep 126 = .ok (.aload_n 0, 1) := by decide +kernel
theorem dX1_readStep_127 : decode cX1_readStep 127 = .ok (.bipush 61, 2) := by decide +kernel
theorem dX1_readStep_129 : decode cX1_readStep 129 = .ok (.invokevirtual 26, 3) := by decide +kernel
theorem dX1_readStep_132 : decode cX1_readStep 132 = .ok (.ifCond .eq 14, 3) := by decide +kernel
theorem dX1_readStep_135 : decode cX1_readStep 135 = .ok (.aload_n 0, 1) := by decide +kernel
theorem dX1_readStep_136 : decode cX1_readStep 136 = .ok (.invokevirtual 60, 3) := by decide +kernel
theorem dX1_readStep_139 : decode cX1_readStep 139 = .ok (.ifCond .eq 7, 3) := by decide +kernel
theorem dX1_readStep_142 : decode cX1_readStep 142 = .ok (.iconst 1, 1) := by decide +kernel
theorem dX1_readStep_143 : decode cX1_readStep 143 = .ok (.goto 4, 3) := by decide +kernel
theorem dX1_readStep_146 : decode cX1_readStep 146 = .ok (.iconst 0, 1) := by decide +kernel
theorem dX1_readStep_147 : decode cX1_readStep 147 = .ok (.ireturn, 1) := by decide +kernel
theorem dX1_readRing_0 : decode cX1_readRing 0 = .ok (.aload_n 0, 1) := by decide +kernel
theorem dX1_readRing_1 : decode cX1_readRing 1 = .ok (.aload_n 0, 1) := by decide +kernel
theorem dX1_readRing_2 : decode cX1_readRing 2 = .ok (.iconst 0, 1) := by decide +kernel
theorem dX1_readRing_3 : decode cX1_readRing 3 = .ok (.bipush 11, 2) := by decide +kernel
theorem dX1_readRing_5 : decode cX1_readRing 5 = .ok (.invokevirtual 38, 3) := by decide +kernel
theorem dX1_readRing_8 : decode cX1_readRing 8 = .ok (.putfield 63, 3) := by decide +kernel
theorem dX1_readRing_11 : decode cX1_readRing 11 = .ok (.aload_n 0, 1) := by decide +kernel
theorem dX1_readRing_12 : decode cX1_readRing 12 = .ok (.getfield 63, 3) := by decide +kernel
theorem dX1_readRing_15 : decode cX1_readRing 15 = .ok (.ifCond .lt 7, 3) := by decide +kernel
theorem dX1_readRing_18 : decode cX1_readRing 18 = .ok (.iconst 1, 1) := by decide +kernel
theorem dX1_readRing_19 : decode cX1_readRing 19 = .ok (.goto 4, 3) := by decide +kernel
theorem dX1_readRing_22 : decode cX1_readRing 22 = .ok (.iconst 0, 1) := by decide +kernel
theorem dX1_readRing_23 : decode cX1_readRing 23 = .ok (.ireturn, 1) := by decide +kernel
theorem dX1_readVelocity_0 : decode cX1_readVelocity 0 = .ok (.aload_n 0, 1) := by decide +kernel
theorem dX1_readVelocity_1 : decode cX1_readVelocity 1 = .ok (.bipush 45, 2) := by decide +kernel
theorem dX1_readVelocity_3 : decode cX1_readVelocity 3 = .ok (.invokevirtual 26, 3) := by decide +kernel
theorem dX1_readVelocity_6 : decode cX1_readVelocity 6 = .ok (.istore_n 1, 1) := by decide +kernel
theorem dX1_readVelocity_7 : decode cX1_readVelocity 7 = .ok (.aload_n 0, 1) := by decide +kernel
theorem dX1_readVelocity_8 : decode cX1_readVelocity 8 = .ok (.iconst 0, 1) := by decide +kernel
theorem dX1_readVelocity_9 : decode cX1_readVelocity 9 = .ok (.sipush 1500, 3) := by decide +kernel
theorem dX1_readVelocity_12 : decode cX1_readVelocity 12 = .ok (.invokevirtual 38, 3) := by decide +kernel
theorem dX1_readVelocity_15 : decode cX1_readVelocity 15 = .ok (.istore_n 2, 1) := by decide +kernel
theorem dX1_readVelocity_16 : decode cX1_readVelocity 16 = .ok (.aload_n 0, 1) := by decide +kernel
theorem dX1_readVelocity_17 : decode cX1_readVelocity 17 = .ok (.iload_n 1, 1) := by decide +kernel
theorem dX1_readVelocity_18 : decode cX1_readVelocity 18 = .ok (.ifCond .eq 8, 3) := by decide +kernel
theorem dX1_readVelocity_21 : decode cX1_readVelocity 21 = .ok (.iload_n 2, 1) := by decide +kernel
theorem dX1_readVelocity_22 : decode cX1_readVelocity 22 = .ok (.ineg, 1) := by decide +kernel
theorem dX1_readVelocity_23 : decode cX1_readVelocity 23 = .ok (.goto 4, 3) := by decide +kernel
theorem dX1_readVelocity_26 : decode cX1_readVelocity 26 = .ok (.iload_n 2, 1) := by decide +kernel
theorem dX1_readVelocity_27 : decode cX1_readVelocity 27 = .ok (.putfield 42, 3) := by decide +kernel
theorem dX1_readVelocity_30 : decode cX1_readVelocity 30 = .ok (.iload_n 2, 1) := by decide +kernel
theorem dX1_readVelocity_31 : decode cX1_readVelocity 31 = .ok (.ifCond .lt 7, 3) := by decide +kernel
theorem dX1_readVelocity_34 : decode cX1_readVelocity 34 = .ok (.iconst 1, 1) := by decide +kernel
theorem dX1_readVelocity_35 : decode cX1_readVelocity 35 = .ok (.goto 4, 3) := by decide +kernel
theorem dX1_readVelocity_38 : decode cX1_readVelocity 38 = .ok (.iconst 0, 1) := by decide +kernel
theorem dX1_readVelocity_39 : decode cX1_readVelocity 39 = .ok (.ireturn, 1) := by decide +kernel
theorem dX1_readColour_0 : decode cX1_readColour 0 = .ok (.aload_n 0, 1) := by decide +kernel
theorem dX1_readColour_1 : decode cX1_readColour 1 = .ok (.aload_n 0, 1) := by decide +kernel
theorem dX1_readColour_2 : decode cX1_readColour 2 = .ok (.invokevirtual 30, 3) := by decide +kernel
theorem dX1_readColour_5 : decode cX1_readColour 5 = .ok (.bipush 97, 2) := by decide +kernel
theorem dX1_readColour_7 : decode cX1_readColour 7 = .ok (.isub, 1) := by decide +kernel
theorem dX1_readColour_8 : decode cX1_readColour 8 = .ok (.putfield 66, 3) := by decide +kernel
theorem dX1_readColour_11 : decode cX1_readColour 11 = .ok (.aload_n 0, 1) := by decide +kernel
theorem dX1_readColour_12 : decode cX1_readColour 12 = .ok (.bipush 97, 2) := by decide +kernel
theorem dX1_readColour_14 : decode cX1_readColour 14 = .ok (.invokevirtual 26, 3) := by decide +kernel
theorem dX1_readColour_17 : decode cX1_readColour 17 = .ok (.ifCond .ne 21, 3) := by decide +kernel
theorem dX1_readColour_20 : decode cX1_readColour 20 = .ok (.aload_n 0, 1) := by decide +kernel
theorem dX1_readColour_21 : decode cX1_readColour 21 = .ok (.bipush 98, 2) := by decide +kernel
theorem dX1_readColour_23 : decode cX1_readColour 23 = .ok (.invokevirtual 26, 3) := by decide +kernel
theorem dX1_readColour_26 : decode cX1_readColour 26 = .ok (.ifCond .ne 12, 3) := by decide +kernel
theorem dX1_readColour_29 : decode cX1_readColour 29 = .ok (.aload_n 0, 1) := by decide +kernel
theorem dX1_readColour_30 : decode cX1_readColour 30 = .ok (.bipush 99, 2) := by decide +kernel
theorem dX1_readColour_32 : decode cX1_readColour 32 = .ok (.invokevirtual 26, 3) := by decide +kernel
theorem dX1_readColour_35 : decode cX1_readColour 35 = .ok (.ifCond .eq 7, 3) := by decide +kernel
theorem dX1_readColour_38 : decode cX1_readColour 38 = .ok (.iconst 1, 1) := by decide +kernel
theorem dX1_readColour_39 : decode cX1_readColour 39 = .ok (.goto 4, 3) := by decide +kernel
theorem dX1_readColour_42 : decode cX1_readColour 42 = .ok (.iconst 0, 1) := by decide +kernel
theorem dX1_readColour_43 : decode cX1_readColour 43 = .ok (.ireturn, 1) := by decide +kernel
theorem dX1_readLayer_0 : decode cX1_readLayer 0 = .ok (.aload_n 0, 1) := by decide +kernel
theorem dX1_readLayer_1 : decode cX1_readLayer 1 = .ok (.aload_n 0, 1) := by decide +kernel
theorem dX1_readLayer_2 : decode cX1_readLayer 2 = .ok (.invokevirtual 30, 3) := by decide +kernel
theorem dX1_readLayer_5 : decode cX1_readLayer 5 = .ok (.bipush 94, 2) := by decide +kernel
theorem dX1_readLayer_7 : decode cX1_readLayer 7 = .ok (.if_icmp .ne 7, 3) := by decide +kernel
theorem dX1_readLayer_10 : decode cX1_readLayer 10 = .ok (.iconst 0, 1) := by decide +kernel
theorem dX1_readLayer_11 : decode cX1_readLayer 11 = .ok (.goto 4, 3) := by decide +kernel
theorem dX1_readLayer_14 : decode cX1_readLayer 14 = .ok (.iconst 1, 1) := by decide +kernel
theorem dX1_readLayer_15 : decode cX1_readLayer 15 = .ok (.putfield 69, 3) := by decide +kernel
theorem dX1_readLayer_18 : decode cX1_readLayer 18 = .ok (.aload_n 0, 1) := by decide +kernel
theorem dX1_readLayer_19 : decode cX1_readLayer 19 = .ok (.bipush 94, 2) := by decide +kernel
theorem dX1_readLayer_21 : decode cX1_readLayer 21 = .ok (.invokevirtual 26, 3) := by decide +kernel
theorem dX1_readLayer_24 : decode cX1_readLayer 24 = .ok (.ifCond .ne 12, 3) := by decide +kernel
theorem dX1_readLayer_27 : decode cX1_readLayer 27 = .ok (.aload_n 0, 1) := by decide +kernel
theorem dX1_readLayer_28 : decode cX1_readLayer 28 = .ok (.bipush 95, 2) := by decide +kernel
theorem dX1_readLayer_30 : decode cX1_readLayer 30 = .ok (.invokevirtual 26, 3) := by decide +kernel
theorem dX1_readLayer_33 : decode cX1_readLayer 33 = .ok (.ifCond .eq 7, 3) := by decide +kernel
theorem dX1_readLayer_36 : decode cX1_readLayer 36 = .ok (.iconst 1, 1) := by decide +kernel
theorem dX1_readLayer_37 : decode cX1_readLayer 37 = .ok (.goto 4, 3) := by decide +kernel
theorem dX1_readLayer_40 : decode cX1_readLayer 40 = .ok (.iconst 0, 1) := by decide +kernel
theorem dX1_readLayer_41 : decode cX1_readLayer 41 = .ok (.ireturn, 1) := by decide +kernel
theorem dX1_readSector_0 : decode cX1_readSector 0 = .ok (.aload_n 0, 1) := by decide +kernel
theorem dX1_readSector_1 : decode cX1_readSector 1 = .ok (.aload_n 0, 1) := by decide +kernel
theorem dX1_readSector_2 : decode cX1_readSector 2 = .ok (.iconst 0, 1) := by decide +kernel
theorem dX1_readSector_3 : decode cX1_readSector 3 = .ok (.bipush 23, 2) := by decide +kernel
theorem dX1_readSector_5 : decode cX1_readSector 5 = .ok (.invokevirtual 38, 3) := by decide +kernel
theorem dX1_readSector_8 : decode cX1_readSector 8 = .ok (.putfield 72, 3) := by decide +kernel
theorem dX1_readSector_11 : decode cX1_readSector 11 = .ok (.aload_n 0, 1) := by decide +kernel
theorem dX1_readSector_12 : decode cX1_readSector 12 = .ok (.getfield 72, 3) := by decide +kernel
theorem dX1_readSector_15 : decode cX1_readSector 15 = .ok (.ifCond .lt 7, 3) := by decide +kernel
theorem dX1_readSector_18 : decode cX1_readSector 18 = .ok (.iconst 1, 1) := by decide +kernel
theorem dX1_readSector_19 : decode cX1_readSector 19 = .ok (.goto 4, 3) := by decide +kernel
theorem dX1_readSector_22 : decode cX1_readSector 22 = .ok (.iconst 0, 1) := by decide +kernel
theorem dX1_readSector_23 : decode cX1_readSector 23 = .ok (.ireturn, 1) := by decide +kernel
theorem dX1_readAmount_0 : decode cX1_readAmount 0 = .ok (.aload_n 0, 1) := by decide +kernel
theorem dX1_readAmount_1 : decode cX1_readAmount 1 = .ok (.aload_n 0, 1) := by decide +kernel
theorem dX1_readAmount_2 : decode cX1_readAmount 2 = .ok (.iconst 1, 1) := by decide +kernel
theorem dX1_readAmount_3 : decode cX1_readAmount 3 = .ok (.ldc 75, 2) := by decide +kernel
theorem dX1_readAmount_5 : decode cX1_readAmount 5 = .ok (.invokevirtual 38, 3) := by decide +kernel
theorem dX1_readAmount_8 : decode cX1_readAmount 8 = .ok (.putfield 42, 3) := by decide +kernel
theorem dX1_readAmount_11 : decode cX1_readAmount 11 = .ok (.aload_n 0, 1) := by decide +kernel
theorem dX1_readAmount_12 : decode cX1_readAmount 12 = .ok (.getfield 42, 3) := by decide +kernel
theorem dX1_readAmount_15 : decode cX1_readAmount 15 = .ok (.ifCond .lt 7, 3) := by decide +kernel
theorem dX1_readAmount_18 : decode cX1_readAmount 18 = .ok (.iconst 1, 1) := by decide +kernel
theorem dX1_readAmount_19 : decode cX1_readAmount 19 = .ok (.goto 4, 3) := by decide +kernel
theorem dX1_readAmount_22 : decode cX1_readAmount 22 = .ok (.iconst 0, 1) := by decide +kernel
theorem dX1_readAmount_23 : decode cX1_readAmount 23 = .ok (.ireturn, 1) := by decide +kernel
theorem dX1_readNumber_0 : decode cX1_readNumber 0 = .ok (.aload_n 0, 1) := by decide +kernel
theorem dX1_readNumber_1 : decode cX1_readNumber 1 = .ok (.invokevirtual 76, 3) := by decide +kernel
theorem dX1_readNumber_4 : decode cX1_readNumber 4 = .ok (.istore_n 3, 1) := by decide +kernel
theorem dX1_readNumber_5 : decode cX1_readNumber 5 = .ok (.iload_n 3, 1) := by decide +kernel
theorem dX1_readNumber_6 : decode cX1_readNumber 6 = .ok (.iload_n 1, 1) := by decide +kernel
theorem dX1_readNumber_7 : decode cX1_readNumber 7 = .ok (.if_icmp .ge 5, 3) := by decide +kernel
theorem dX1_readNumber_10 : decode cX1_readNumber 10 = .ok (.iconst (-1), 1) := by decide +kernel
theorem dX1_readNumber_11 : decode cX1_readNumber 11 = .ok (.ireturn, 1) := by decide +kernel
theorem dX1_readNumber_12 : decode cX1_readNumber 12 = .ok (.aload_n 0, 1) := by decide +kernel
theorem dX1_readNumber_13 : decode cX1_readNumber 13 = .ok (.dup, 1) := by decide +kernel
theorem dX1_readNumber_14 : decode cX1_readNumber 14 = .ok (.getfield 19, 3) := by decide +kernel
theorem dX1_readNumber_17 : decode cX1_readNumber 17 = .ok (.iconst 1, 1) := by decide +kernel
theorem dX1_readNumber_18 : decode cX1_readNumber 18 = .ok (.iadd, 1) := by decide +kernel
theorem dX1_readNumber_19 : decode cX1_readNumber 19 = .ok (.putfield 19, 3) := by decide +kernel
theorem dX1_readNumber_22 : decode cX1_readNumber 22 = .ok (.iload_n 3, 1) := by decide +kernel
theorem dX1_readNumber_23 : decode cX1_readNumber 23 = .ok (.ifCond .le 60, 3) := by decide +kernel
theorem dX1_readNumber_26 : decode cX1_readNumber 26 = .ok (.aload_n 0, 1) := by decide +kernel
theorem dX1_readNumber_27 : decode cX1_readNumber 27 = .ok (.getfield 19, 3) := by decide +kernel
theorem dX1_readNumber_30 : decode cX1_readNumber 30 = .ok (.aload_n 0, 1) := by decide +kernel
theorem dX1_readNumber_31 : decode cX1_readNumber 31 = .ok (.getfield 15, 3) := by decide +kernel
theorem dX1_readNumber_34 : decode cX1_readNumber 34 = .ok (.if_icmp .ge 49, 3) := by decide +kernel
theorem dX1_readNumber_37 : decode cX1_readNumber 37 = .ok (.aload_n 0, 1) := by decide +kernel
theorem dX1_readNumber_38 : decode cX1_readNumber 38 = .ok (.invokevirtual 76, 3) := by decide +kernel
theorem dX1_readNumber_41 : decode cX1_readNumber 41 = .ok (.istore 4, 2) := by decide +kernel
theorem dX1_readNumber_43 : decode cX1_readNumber 43 = .ok (.iload 4, 2) := by decide +kernel
theorem dX1_readNumber_45 : decode cX1_readNumber 45 = .ok (.ifCond .lt 38, 3) := by decide +kernel
theorem dX1_readNumber_48 : decode cX1_readNumber 48 = .ok (.iload_n 3, 1) := by decide +kernel
theorem dX1_readNumber_49 : decode cX1_readNumber 49 = .ok (.bipush 10, 2) := by decide +kernel
theorem dX1_readNumber_51 : decode cX1_readNumber 51 = .ok (.imul, 1) := by decide +kernel
theorem dX1_readNumber_52 : decode cX1_readNumber 52 = .ok (.iload 4, 2) := by decide +kernel
theorem dX1_readNumber_54 : decode cX1_readNumber 54 = .ok (.iadd, 1) := by decide +kernel
theorem dX1_readNumber_55 : decode cX1_readNumber 55 = .ok (.iload_n 2, 1) := by decide +kernel
theorem dX1_readNumber_56 : decode cX1_readNumber 56 = .ok (.if_icmp .le 6, 3) := by decide +kernel
theorem dX1_readNumber_59 : decode cX1_readNumber 59 = .ok (.goto 24, 3) := by decide +kernel
theorem dX1_readNumber_62 : decode cX1_readNumber 62 = .ok (.iload_n 3, 1) := by decide +kernel
theorem dX1_readNumber_63 : decode cX1_readNumber 63 = .ok (.bipush 10, 2) := by decide +kernel
theorem dX1_readNumber_65 : decode cX1_readNumber 65 = .ok (.imul, 1) := by decide +kernel
theorem dX1_readNumber_66 : decode cX1_readNumber 66 = .ok (.iload 4, 2) := by decide +kernel
theorem dX1_readNumber_68 : decode cX1_readNumber 68 = .ok (.iadd, 1) := by decide +kernel
theorem dX1_readNumber_69 : decode cX1_readNumber 69 = .ok (.istore_n 3, 1) := by decide +kernel
theorem dX1_readNumber_70 : decode cX1_readNumber 70 = .ok (.aload_n 0, 1) := by decide +kernel
theorem dX1_readNumber_71 : decode cX1_readNumber 71 = .ok (.dup, 1) := by decide +kernel
theorem dX1_readNumber_72 : decode cX1_readNumber 72 = .ok (.getfield 19, 3) := by decide +kernel
theorem dX1_readNumber_75 : decode cX1_readNumber 75 = .ok (.iconst 1, 1) := by decide +kernel
theorem dX1_readNumber_76 : decode cX1_readNumber 76 = .ok (.iadd, 1) := by decide +kernel
theorem dX1_readNumber_77 : decode cX1_readNumber 77 = .ok (.putfield 19, 3) := by decide +kernel
theorem dX1_readNumber_80 : decode cX1_readNumber 80 = .ok (.goto (-58), 3) := by decide +kernel
theorem dX1_readNumber_83 : decode cX1_readNumber 83 = .ok (.iload_n 3, 1) := by decide +kernel
theorem dX1_readNumber_84 : decode cX1_readNumber 84 = .ok (.ireturn, 1) := by decide +kernel
theorem dX1_digit_0 : decode cX1_digit 0 = .ok (.aload_n 0, 1) := by decide +kernel
theorem dX1_digit_1 : decode cX1_digit 1 = .ok (.invokevirtual 30, 3) := by decide +kernel
theorem dX1_digit_4 : decode cX1_digit 4 = .ok (.istore_n 1, 1) := by decide +kernel
theorem dX1_digit_5 : decode cX1_digit 5 = .ok (.iload_n 1, 1) := by decide +kernel
theorem dX1_digit_6 : decode cX1_digit 6 = .ok (.bipush 48, 2) := by decide +kernel
theorem dX1_digit_8 : decode cX1_digit 8 = .ok (.if_icmp .lt 16, 3) := by decide +kernel
theorem dX1_digit_11 : decode cX1_digit 11 = .ok (.iload_n 1, 1) := by decide +kernel
theorem dX1_digit_12 : decode cX1_digit 12 = .ok (.bipush 57, 2) := by decide +kernel
theorem dX1_digit_14 : decode cX1_digit 14 = .ok (.if_icmp .gt 10, 3) := by decide +kernel
theorem dX1_digit_17 : decode cX1_digit 17 = .ok (.iload_n 1, 1) := by decide +kernel
theorem dX1_digit_18 : decode cX1_digit 18 = .ok (.bipush 48, 2) := by decide +kernel
theorem dX1_digit_20 : decode cX1_digit 20 = .ok (.isub, 1) := by decide +kernel
theorem dX1_digit_21 : decode cX1_digit 21 = .ok (.goto 4, 3) := by decide +kernel
theorem dX1_digit_24 : decode cX1_digit 24 = .ok (.iconst (-1), 1) := by decide +kernel
theorem dX1_digit_25 : decode cX1_digit 25 = .ok (.ireturn, 1) := by decide +kernel
theorem dX1_take_0 : decode cX1_take 0 = .ok (.aload_n 0, 1) := by decide +kernel
theorem dX1_take_1 : decode cX1_take 1 = .ok (.invokevirtual 30, 3) := by decide +kernel
theorem dX1_take_4 : decode cX1_take 4 = .ok (.iload_n 1, 1) := by decide +kernel
theorem dX1_take_5 : decode cX1_take 5 = .ok (.if_icmp .eq 5, 3) := by decide +kernel
theorem dX1_take_8 : decode cX1_take 8 = .ok (.iconst 0, 1) := by decide +kernel
theorem dX1_take_9 : decode cX1_take 9 = .ok (.ireturn, 1) := by decide +kernel
theorem dX1_take_10 : decode cX1_take 10 = .ok (.aload_n 0, 1) := by decide +kernel
theorem dX1_take_11 : decode cX1_take 11 = .ok (.dup, 1) := by decide +kernel
theorem dX1_take_12 : decode cX1_take 12 = .ok (.getfield 19, 3) := by decide +kernel
theorem dX1_take_15 : decode cX1_take 15 = .ok (.iconst 1, 1) := by decide +kernel
theorem dX1_take_16 : decode cX1_take 16 = .ok (.iadd, 1) := by decide +kernel
theorem dX1_take_17 : decode cX1_take 17 = .ok (.putfield 19, 3) := by decide +kernel
theorem dX1_take_20 : decode cX1_take 20 = .ok (.iconst 1, 1) := by decide +kernel
theorem dX1_take_21 : decode cX1_take 21 = .ok (.ireturn, 1) := by decide +kernel
theorem dX1_character_0 : decode cX1_character 0 = .ok (.aload_n 0, 1) := by decide +kernel
theorem dX1_character_1 : decode cX1_character 1 = .ok (.getfield 19, 3) := by decide +kernel
theorem dX1_character_4 : decode cX1_character 4 = .ok (.ifCond .lt 35, 3) := by decide +kernel
theorem dX1_character_7 : decode cX1_character 7 = .ok (.aload_n 0, 1) := by decide +kernel
theorem dX1_character_8 : decode cX1_character 8 = .ok (.getfield 19, 3) := by decide +kernel
theorem dX1_character_11 : decode cX1_character 11 = .ok (.aload_n 0, 1) := by decide +kernel
theorem dX1_character_12 : decode cX1_character 12 = .ok (.getfield 15, 3) := by decide +kernel
theorem dX1_character_15 : decode cX1_character 15 = .ok (.if_icmp .ge 24, 3) := by decide +kernel
theorem dX1_character_18 : decode cX1_character 18 = .ok (.aload_n 0, 1) := by decide +kernel
theorem dX1_character_19 : decode cX1_character 19 = .ok (.getfield 19, 3) := by decide +kernel
theorem dX1_character_22 : decode cX1_character 22 = .ok (.bipush 60, 2) := by decide +kernel
theorem dX1_character_24 : decode cX1_character 24 = .ok (.if_icmp .ge 15, 3) := by decide +kernel
theorem dX1_character_27 : decode cX1_character 27 = .ok (.aload_n 0, 1) := by decide +kernel
theorem dX1_character_28 : decode cX1_character 28 = .ok (.getfield 9, 3) := by decide +kernel
theorem dX1_character_31 : decode cX1_character 31 = .ok (.aload_n 0, 1) := by decide +kernel
theorem dX1_character_32 : decode cX1_character 32 = .ok (.getfield 19, 3) := by decide +kernel
theorem dX1_character_35 : decode cX1_character 35 = .ok (.caload, 1) := by decide +kernel
theorem dX1_character_36 : decode cX1_character 36 = .ok (.goto 4, 3) := by decide +kernel
theorem dX1_character_39 : decode cX1_character 39 = .ok (.iconst 0, 1) := by decide +kernel
theorem dX1_character_40 : decode cX1_character 40 = .ok (.ireturn, 1) := by decide +kernel
theorem dX2_init_0 : decode cX2_init 0 = .ok (.aload_n 0, 1) := by decide +kernel
theorem dX2_init_1 : decode cX2_init 1 = .ok (.invokespecial 3, 3) := by decide +kernel
theorem dX2_init_4 : decode cX2_init 4 = .ok (.aload_n 0, 1) := by decide +kernel
theorem dX2_init_5 : decode cX2_init 5 = .ok (.bipush 7, 2) := by decide +kernel
theorem dX2_init_7 : decode cX2_init 7 = .ok (.newarray .int, 2) := by decide +kernel
theorem dX2_init_9 : decode cX2_init 9 = .ok (.putfield 9, 3) := by decide +kernel
theorem dX2_init_12 : decode cX2_init 12 = .ok (.aload_n 0, 1) := by decide +kernel
theorem dX2_init_13 : decode cX2_init 13 = .ok (.bipush 12, 2) := by decide +kernel
theorem dX2_init_15 : decode cX2_init 15 = .ok (.newarray .int, 2) := by decide +kernel
theorem dX2_init_17 : decode cX2_init 17 = .ok (.putfield 15, 3) := by decide +kernel
theorem dX2_init_20 : decode cX2_init 20 = .ok (.aload_n 0, 1) := by decide +kernel
theorem dX2_init_21 : decode cX2_init 21 = .ok (.bipush 12, 2) := by decide +kernel
theorem dX2_init_23 : decode cX2_init 23 = .ok (.newarray .int, 2) := by decide +kernel
theorem dX2_init_25 : decode cX2_init 25 = .ok (.putfield 18, 3) := by decide +kernel
theorem dX2_init_28 : decode cX2_init 28 = .ok (.aload_n 0, 1) := by decide +kernel
theorem dX2_init_29 : decode cX2_init 29 = .ok (.iconst 3, 1) := by decide +kernel
theorem dX2_init_30 : decode cX2_init 30 = .ok (.newarray .int, 2) := by decide +kernel
theorem dX2_init_32 : decode cX2_init 32 = .ok (.putfield 21, 3) := by decide +kernel
theorem dX2_init_35 : decode cX2_init 35 = .ok (.aload_n 0, 1) := by decide +kernel
theorem dX2_init_36 : decode cX2_init 36 = .ok (.iconst 3, 1) := by decide +kernel
theorem dX2_init_37 : decode cX2_init 37 = .ok (.sipush 576, 3) := by decide +kernel
theorem dX2_init_40 : decode cX2_init 40 = .ok (.multianewarray 24 2, 4) := by decide +kernel
theorem dX2_init_44 : decode cX2_init 44 = .ok (.putfield 26, 3) := by decide +kernel
theorem dX2_init_47 : decode cX2_init 47 = .ok (.aload_n 0, 1) := by decide +kernel
theorem dX2_init_48 : decode cX2_init 48 = .ok (.bipush 6, 2) := by decide +kernel
theorem dX2_init_50 : decode cX2_init 50 = .ok (.anewarray 29, 3) := by decide +kernel
theorem dX2_init_53 : decode cX2_init 53 = .ok (.putfield 31, 3) := by decide +kernel
theorem dX2_init_56 : decode cX2_init 56 = .ok (.aload_n 0, 1) := by decide +kernel
theorem dX2_init_57 : decode cX2_init 57 = .ok (.bipush 12, 2) := by decide +kernel
theorem dX2_init_59 : decode cX2_init 59 = .ok (.newarray .int, 2) := by decide +kernel
theorem dX2_init_61 : decode cX2_init 61 = .ok (.putfield 35, 3) := by decide +kernel
theorem dX2_init_64 : decode cX2_init 64 = .ok (.aload_n 0, 1) := by decide +kernel
theorem dX2_init_65 : decode cX2_init 65 = .ok (.bipush 12, 2) := by decide +kernel
theorem dX2_init_67 : decode cX2_init 67 = .ok (.newarray .int, 2) := by decide +kernel
theorem dX2_init_69 : decode cX2_init 69 = .ok (.putfield 38, 3) := by decide +kernel
theorem dX2_init_72 : decode cX2_init 72 = .ok (.aload_n 0, 1) := by decide +kernel
theorem dX2_init_73 : decode cX2_init 73 = .ok (.sipush 576, 3) := by decide +kernel
theorem dX2_init_76 : decode cX2_init 76 = .ok (.newarray .int, 2) := by decide +kernel
theorem dX2_init_78 : decode cX2_init 78 = .ok (.putfield 41, 3) := by decide +kernel
theorem dX2_init_81 : decode cX2_init 81 = .ok (.iconst 0, 1) := by decide +kernel
theorem dX2_init_82 : decode cX2_init 82 = .ok (.istore_n 1, 1) := by decide +kernel
theorem dX2_init_83 : decode cX2_init 83 = .ok (.iload_n 1, 1) := by decide +kernel
theorem dX2_init_84 : decode cX2_init 84 = .ok (.bipush 6, 2) := by decide +kernel
theorem dX2_init_86 : decode cX2_init 86 = .ok (.if_icmp .ge 22, 3) := by decide +kernel
theorem dX2_init_89 : decode cX2_init 89 = .ok (.aload_n 0, 1) := by decide +kernel
theorem dX2_init_90 : decode cX2_init 90 = .ok (.getfield 31, 3) := by decide +kernel
theorem dX2_init_93 : decode cX2_init 93 = .ok (.iload_n 1, 1) := by decide +kernel
theorem dX2_init_94 : decode cX2_init 94 = .ok (.new 29, 3) := by decide +kernel
theorem dX2_init_97 : decode cX2_init 97 = .ok (.dup, 1) := by decide +kernel
theorem dX2_init_98 : decode cX2_init 98 = .ok (.invokespecial 44, 3) := by decide +kernel
theorem dX2_init_101 : decode cX2_init 101 = .ok (.aastore, 1) := by decide +kernel
theorem dX2_init_102 : decode cX2_init 102 = .ok (.iinc 1 1, 3) := by decide +kernel
theorem dX2_init_105 : decode cX2_init 105 = .ok (.goto (-22), 3) := by decide +kernel
theorem dX2_init_108 : decode cX2_init 108 = .ok (.aload_n 0, 1) := by decide +kernel
theorem dX2_init_109 : decode cX2_init 109 = .ok (.bipush 6, 2) := by decide +kernel
theorem dX2_init_111 : decode cX2_init 111 = .ok (.invokevirtual 45, 3) := by decide +kernel
theorem dX2_init_114 : decode cX2_init 114 = .ok (.return_, 1) := by decide +kernel
theorem dX2_startAgain_0 : decode cX2_startAgain 0 = .ok (.aload_n 0, 1) := by decide +kernel
theorem dX2_startAgain_1 : decode cX2_startAgain 1 = .ok (.iload_n 1, 1) := by decide +kernel
theorem dX2_startAgain_2 : decode cX2_startAgain 2 = .ok (.putfield 49, 3) := by decide +kernel
theorem dX2_startAgain_5 : decode cX2_startAgain 5 = .ok (.aload_n 0, 1) := by decide +kernel
theorem dX2_startAgain_6 : decode cX2_startAgain 6 = .ok (.iconst 0, 1) := by decide +kernel
theorem dX2_startAgain_7 : decode cX2_startAgain 7 = .ok (.putfield 53, 3) := by decide +kernel
theorem dX2_startAgain_10 : decode cX2_startAgain 10 = .ok (.aload_n 0, 1) := by decide +kernel
theorem dX2_startAgain_11 : decode cX2_startAgain 11 = .ok (.iconst 0, 1) := by decide +kernel
theorem dX2_startAgain_12 : decode cX2_startAgain 12 = .ok (.putfield 56, 3) := by decide +kernel
theorem dX2_startAgain_15 : decode cX2_startAgain 15 = .ok (.getstatic 59, 3) := by decide +kernel
theorem dX2_startAgain_18 : decode cX2_startAgain 18 = .ok (.iconst 0, 1) := by decide +kernel
theorem dX2_startAgain_19 : decode cX2_startAgain 19 = .ok (.aload_n 0, 1) := by decide +kernel
theorem dX2_startAgain_20 : decode cX2_startAgain 20 = .ok (.getfield 9, 3) := by decide +kernel
theorem dX2_startAgain_23 : decode cX2_startAgain 23 = .ok (.iconst 0, 1) := by decide +kernel
theorem dX2_startAgain_24 : decode cX2_startAgain 24 = .ok (.bipush 7, 2) := by decide +kernel
theorem dX2_startAgain_26 : decode cX2_startAgain 26 = .ok (.invokestatic 62, 3) := by decide +kernel
theorem dX2_startAgain_29 : decode cX2_startAgain 29 = .ok (.aload_n 0, 1) := by decide +kernel
theorem dX2_startAgain_30 : decode cX2_startAgain 30 = .ok (.getfield 15, 3) := by decide +kernel
theorem dX2_startAgain_33 : decode cX2_startAgain 33 = .ok (.iconst 0, 1) := by decide +kernel
theorem dX2_startAgain_34 : decode cX2_startAgain 34 = .ok (.invokestatic 68, 3) := by decide +kernel
theorem dX2_startAgain_37 : decode cX2_startAgain 37 = .ok (.aload_n 0, 1) := by decide +kernel
theorem dX2_startAgain_38 : decode cX2_startAgain 38 = .ok (.getfield 18, 3) := by decide +kernel
theorem dX2_startAgain_41 : decode cX2_startAgain 41 = .ok (.iconst 0, 1) := by decide +kernel
theorem dX2_startAgain_42 : decode cX2_startAgain 42 = .ok (.invokestatic 68, 3) := by decide +kernel
theorem dX2_startAgain_45 : decode cX2_startAgain 45 = .ok (.aload_n 0, 1) := by decide +kernel
theorem dX2_startAgain_46 : decode cX2_startAgain 46 = .ok (.getfield 21, 3) := by decide +kernel
theorem dX2_startAgain_49 : decode cX2_startAgain 49 = .ok (.iconst 0, 1) := by decide +kernel
theorem dX2_startAgain_50 : decode cX2_startAgain 50 = .ok (.invokestatic 68, 3) := by decide +kernel
theorem dX2_startAgain_53 : decode cX2_startAgain 53 = .ok (.iconst 0, 1) := by decide +kernel
theorem dX2_startAgain_54 : decode cX2_startAgain 54 = .ok (.istore_n 2, 1) := by decide +kernel
theorem dX2_startAgain_55 : decode cX2_startAgain 55 = .ok (.iload_n 2, 1) := by decide +kernel
theorem dX2_startAgain_56 : decode cX2_startAgain 56 = .ok (.iconst 3, 1) := by decide +kernel
theorem dX2_startAgain_57 : decode cX2_startAgain 57 = .ok (.if_icmp .ge 19, 3) := by decide +kernel
theorem dX2_startAgain_60 : decode cX2_startAgain 60 = .ok (.aload_n 0, 1) := by decide +kernel
theorem dX2_startAgain_61 : decode cX2_startAgain 61 = .ok (.getfield 26, 3) := by decide +kernel
theorem dX2_startAgain_64 : decode cX2_startAgain 64 = .ok (.iload_n 2, 1) := by decide +kernel
theorem dX2_startAgain_65 : decode cX2_startAgain 65 = .ok (.aaload, 1) := by decide +kernel
theorem dX2_startAgain_66 : decode cX2_startAgain 66 = .ok (.iconst 0, 1) := by decide +kernel
theorem dX2_startAgain_67 : decode cX2_startAgain 67 = .ok (.invokestatic 68, 3) := by decide +kernel
theorem dX2_startAgain_70 : decode cX2_startAgain 70 = .ok (.iinc 2 1, 3) := by decide +kernel
theorem dX2_startAgain_73 : decode cX2_startAgain 73 = .ok (.goto (-18), 3) := by decide +kernel
theorem dX2_startAgain_76 : decode cX2_startAgain 76 = .ok (.return_, 1) := by decide +kernel
theorem dX2_becomeLike_0 : decode cX2_becomeLike 0 = .ok (.aload_n 0, 1) := by decide +kernel
theorem dX2_becomeLike_1 : decode cX2_becomeLike 1 = .ok (.aload_n 1, 1) := by decide +kernel
theorem dX2_becomeLike_2 : decode cX2_becomeLike 2 = .ok (.getfield 49, 3) := by decide +kernel
theorem dX2_becomeLike_5 : decode cX2_becomeLike 5 = .ok (.putfield 49, 3) := by decide +kernel
theorem dX2_becomeLike_8 : decode cX2_becomeLike 8 = .ok (.aload_n 0, 1) := by decide +kernel
theorem dX2_becomeLike_9 : decode cX2_becomeLike 9 = .ok (.aload_n 1, 1) := by decide +kernel
theorem dX2_becomeLike_10 : decode cX2_becomeLike 10 = .ok (.getfield 53, 3) := by decide +kernel
theorem dX2_becomeLike_13 : decode cX2_becomeLike 13 = .ok (.putfield 53, 3) := by decide +kernel
theorem dX2_becomeLike_16 : decode cX2_becomeLike 16 = .ok (.aload_n 0, 1) := by decide +kernel
theorem dX2_becomeLike_17 : decode cX2_becomeLike 17 = .ok (.aload_n 1, 1) := by decide +kernel
theorem dX2_becomeLike_18 : decode cX2_becomeLike 18 = .ok (.getfield 56, 3) := by decide +kernel
theorem dX2_becomeLike_21 : decode cX2_becomeLike 21 = .ok (.putfield 56, 3) := by decide +kernel
theorem dX2_becomeLike_24 : decode cX2_becomeLike 24 = .ok (.aload_n 1, 1) := by decide +kernel
theorem dX2_becomeLike_25 : decode cX2_becomeLike 25 = .ok (.getfield 9, 3) := by decide +kernel
theorem dX2_becomeLike_28 : decode cX2_becomeLike 28 = .ok (.iconst 0, 1) := by decide +kernel
theorem dX2_becomeLike_29 : decode cX2_becomeLike 29 = .ok (.aload_n 0, 1) := by decide +kernel
theorem dX2_becomeLike_30 : decode cX2_becomeLike 30 = .ok (.getfield 9, 3) := by decide +kernel
theorem dX2_becomeLike_33 : decode cX2_becomeLike 33 = .ok (.iconst 0, 1) := by decide +kernel
theorem dX2_becomeLike_34 : decode cX2_becomeLike 34 = .ok (.bipush 7, 2) := by decide +kernel
theorem dX2_becomeLike_36 : decode cX2_becomeLike 36 = .ok (.invokestatic 62, 3) := by decide +kernel
theorem dX2_becomeLike_39 : decode cX2_becomeLike 39 = .ok (.aload_n 1, 1) := by decide +kernel
theorem dX2_becomeLike_40 : decode cX2_becomeLike 40 = .ok (.getfield 15, 3) := by decide +kernel
theorem dX2_becomeLike_43 : decode cX2_becomeLike 43 = .ok (.iconst 0, 1) := by decide +kernel
theorem dX2_becomeLike_44 : decode cX2_becomeLike 44 = .ok (.aload_n 0, 1) := by decide +kernel
theorem dX2_becomeLike_45 : decode cX2_becomeLike 45 = .ok (.getfield 15, 3) := by decide +kernel
theorem dX2_becomeLike_48 : decode cX2_becomeLike 48 = .ok (.iconst 0, 1) := by decide +kernel
theorem dX2_becomeLike_49 : decode cX2_becomeLike 49 = .ok (.bipush 12, 2) := by decide +kernel
theorem dX2_becomeLike_51 : decode cX2_becomeLike 51 = .ok (.invokestatic 62, 3) := by decide +kernel
theorem dX2_becomeLike_54 : decode cX2_becomeLike 54 = .ok (.aload_n 1, 1) := by decide +kernel
theorem dX2_becomeLike_55 : decode cX2_becomeLike 55 = .ok (.getfield 18, 3) := by decide +kernel
theorem dX2_becomeLike_58 : decode cX2_becomeLike 58 = .ok (.iconst 0, 1) := by decide +kernel
theorem dX2_becomeLike_59 : decode cX2_becomeLike 59 = .ok (.aload_n 0, 1) := by decide +kernel
theorem dX2_becomeLike_60 : decode cX2_becomeLike 60 = .ok (.getfield 18, 3) := by decide +kernel
theorem dX2_becomeLike_63 : decode cX2_becomeLike 63 = .ok (.iconst 0, 1) := by decide +kernel
theorem dX2_becomeLike_64 : decode cX2_becomeLike 64 = .ok (.bipush 12, 2) := by decide +kernel
theorem dX2_becomeLike_66 : decode cX2_becomeLike 66 = .ok (.invokestatic 62, 3) := by decide +kernel
theorem dX2_becomeLike_69 : decode cX2_becomeLike 69 = .ok (.aload_n 1, 1) := by decide +kernel
theorem dX2_becomeLike_70 : decode cX2_becomeLike 70 = .ok (.getfield 21, 3) := by decide +kernel
theorem dX2_becomeLike_73 : decode cX2_becomeLike 73 = .ok (.iconst 0, 1) := by decide +kernel
theorem dX2_becomeLike_74 : decode cX2_becomeLike 74 = .ok (.aload_n 0, 1) := by decide +kernel
theorem dX2_becomeLike_75 : decode cX2_becomeLike 75 = .ok (.getfield 21, 3) := by decide +kernel
theorem dX2_becomeLike_78 : decode cX2_becomeLike 78 = .ok (.iconst 0, 1) := by decide +kernel
theorem dX2_becomeLike_79 : decode cX2_becomeLike 79 = .ok (.iconst 3, 1) := by decide +kernel
theorem dX2_becomeLike_80 : decode cX2_becomeLike 80 = .ok (.invokestatic 62, 3) := by decide +kernel
theorem dX2_becomeLike_83 : decode cX2_becomeLike 83 = .ok (.iconst 0, 1) := by decide +kernel
theorem dX2_becomeLike_84 : decode cX2_becomeLike 84 = .ok (.istore_n 2, 1) := by decide +kernel
theorem dX2_becomeLike_85 : decode cX2_becomeLike 85 = .ok (.iload_n 2, 1) := by decide +kernel
theorem dX2_becomeLike_86 : decode cX2_becomeLike 86 = .ok (.iconst 3, 1) := by decide +kernel
theorem dX2_becomeLike_87 : decode cX2_becomeLike 87 = .ok (.if_icmp .ge 31, 3) := by decide +kernel
theorem dX2_becomeLike_90 : decode cX2_becomeLike 90 = .ok (.aload_n 1, 1) := by decide +kernel
theorem dX2_becomeLike_91 : decode cX2_becomeLike 91 = .ok (.getfield 26, 3) := by decide +kernel
theorem dX2_becomeLike_94 : decode cX2_becomeLike 94 = .ok (.iload_n 2, 1) := by decide +kernel
theorem dX2_becomeLike_95 : decode cX2_becomeLike 95 = .ok (.aaload, 1) := by decide +kernel
theorem dX2_becomeLike_96 : decode cX2_becomeLike 96 = .ok (.iconst 0, 1) := by decide +kernel
theorem dX2_becomeLike_97 : decode cX2_becomeLike 97 = .ok (.aload_n 0, 1) := by decide +kernel
theorem dX2_becomeLike_98 : decode cX2_becomeLike 98 = .ok (.getfield 26, 3) := by decide +kernel
theorem dX2_becomeLike_101 : decode cX2_becomeLike 101 = .ok (.iload_n 2, 1) := by decide +kernel
theorem dX2_becomeLike_102 : decode cX2_becomeLike 102 = .ok (.aaload, 1) := by decide +kernel
theorem dX2_becomeLike_103 : decode cX2_becomeLike 103 = .ok (.iconst 0, 1) := by decide +kernel
theorem dX2_becomeLike_104 : decode cX2_becomeLike 104 = .ok (.aload_n 0, 1) := by decide +kernel
theorem dX2_becomeLike_105 : decode cX2_becomeLike 105 = .ok (.getfield 41, 3) := by decide +kernel
theorem dX2_becomeLike_108 : decode cX2_becomeLike 108 = .ok (.arraylength, 1) := by decide +kernel
theorem dX2_becomeLike_109 : decode cX2_becomeLike 109 = .ok (.invokestatic 62, 3) := by decide +kernel
theorem dX2_becomeLike_112 : decode cX2_becomeLike 112 = .ok (.iinc 2 1, 3) := by decide +kernel
theorem dX2_becomeLike_115 : decode cX2_becomeLike 115 = .ok (.goto (-30), 3) := by decide +kernel
theorem dX2_becomeLike_118 : decode cX2_becomeLike 118 = .ok (.iconst 0, 1) := by decide +kernel
theorem dX2_becomeLike_119 : decode cX2_becomeLike 119 = .ok (.istore_n 2, 1) := by decide +kernel
theorem dX2_becomeLike_120 : decode cX2_becomeLike 120 = .ok (.iload_n 2, 1) := by decide +kernel
theorem dX2_becomeLike_121 : decode cX2_becomeLike 121 = .ok (.aload_n 0, 1) := by decide +kernel
theorem dX2_becomeLike_122 : decode cX2_becomeLike 122 = .ok (.getfield 56, 3) := by decide +kernel
theorem dX2_becomeLike_125 : decode cX2_becomeLike 125 = .ok (.if_icmp .ge 24, 3) := by decide +kernel
theorem dX2_becomeLike_128 : decode cX2_becomeLike 128 = .ok (.aload_n 0, 1) := by decide +kernel
theorem dX2_becomeLike_129 : decode cX2_becomeLike 129 = .ok (.getfield 31, 3) := by decide +kernel
theorem dX2_becomeLike_132 : decode cX2_becomeLike 132 = .ok (.iload_n 2, 1) := by decide +kernel
theorem dX2_becomeLike_133 : decode cX2_becomeLike 133 = .ok (.aaload, 1) := by decide +kernel
theorem dX2_becomeLike_134 : decode cX2_becomeLike 134 = .ok (.aload_n 1, 1) := by decide +kernel
theorem dX2_becomeLike_135 : decode cX2_becomeLike 135 = .ok (.getfield 31, 3) := by decide +kernel
theorem dX2_becomeLike_138 : decode cX2_becomeLike 138 = .ok (.iload_n 2, 1) := by decide +kernel
theorem dX2_becomeLike_139 : decode cX2_becomeLike 139 = .ok (.aaload, 1) := by decide +kernel
theorem dX2_becomeLike_140 : decode cX2_becomeLike 140 = .ok (.invokevirtual 74, 3) := by decide +kernel
theorem dX2_becomeLike_143 : decode cX2_becomeLike 143 = .ok (.iinc 2 1, 3) := by decide +kernel
theorem dX2_becomeLike_146 : decode cX2_becomeLike 146 = .ok (.goto (-26), 3) := by decide +kernel
theorem dX2_becomeLike_149 : decode cX2_becomeLike 149 = .ok (.return_, 1) := by decide +kernel
theorem dX2_hasRing_0 : decode cX2_hasRing 0 = .ok (.iload_n 1, 1) := by decide +kernel
theorem dX2_hasRing_1 : decode cX2_hasRing 1 = .ok (.ifCond .lt 15, 3) := by decide +kernel
theorem dX2_hasRing_4 : decode cX2_hasRing 4 = .ok (.iload_n 1, 1) := by decide +kernel
theorem dX2_hasRing_5 : decode cX2_hasRing 5 = .ok (.aload_n 0, 1) := by decide +kernel
theorem dX2_hasRing_6 : decode cX2_hasRing 6 = .ok (.getfield 49, 3) := by decide +kernel
theorem dX2_hasRing_9 : decode cX2_hasRing 9 = .ok (.if_icmp .ge 7, 3) := by decide +kernel
theorem dX2_hasRing_12 : decode cX2_hasRing 12 = .ok (.iconst 1, 1) := by decide +kernel
theorem dX2_hasRing_13 : decode cX2_hasRing 13 = .ok (.goto 4, 3) := by decide +kernel
theorem dX2_hasRing_16 : decode cX2_hasRing 16 = .ok (.iconst 0, 1) := by decide +kernel
theorem dX2_hasRing_17 : decode cX2_hasRing 17 = .ok (.ireturn, 1) := by decide +kernel
theorem dX2_hasMarker_0 : decode cX2_hasMarker 0 = .ok (.iload_n 1, 1) := by decide +kernel
theorem dX2_hasMarker_1 : decode cX2_hasMarker 1 = .ok (.ifCond .lt 15, 3) := by decide +kernel
theorem dX2_hasMarker_4 : decode cX2_hasMarker 4 = .ok (.iload_n 1, 1) := by decide +kernel
theorem dX2_hasMarker_5 : decode cX2_hasMarker 5 = .ok (.aload_n 0, 1) := by decide +kernel
theorem dX2_hasMarker_6 : decode cX2_hasMarker 6 = .ok (.getfield 56, 3) := by decide +kernel
theorem dX2_hasMarker_9 : decode cX2_hasMarker 9 = .ok (.if_icmp .ge 7, 3) := by decide +kernel
theorem dX2_hasMarker_12 : decode cX2_hasMarker 12 = .ok (.iconst 1, 1) := by decide +kernel
theorem dX2_hasMarker_13 : decode cX2_hasMarker 13 = .ok (.goto 4, 3) := by decide +kernel
theorem dX2_hasMarker_16 : decode cX2_hasMarker 16 = .ok (.iconst 0, 1) := by decide +kernel
theorem dX2_hasMarker_17 : decode cX2_hasMarker 17 = .ok (.ireturn, 1) := by decide +kernel
theorem dX2_lastPlace_0 : decode cX2_lastPlace 0 = .ok (.sipush 1000, 3) := by decide +kernel
theorem dX2_lastPlace_3 : decode cX2_lastPlace 3 = .ok (.aload_n 0, 1) := by decide +kernel
theorem dX2_lastPlace_4 : decode cX2_lastPlace 4 = .ok (.getfield 49, 3) := by decide +kernel
theorem dX2_lastPlace_7 : decode cX2_lastPlace 7 = .ok (.imul, 1) := by decide +kernel
theorem dX2_lastPlace_8 : decode cX2_lastPlace 8 = .ok (.iconst 1, 1) := by decide +kernel
theorem dX2_lastPlace_9 : decode cX2_lastPlace 9 = .ok (.isub, 1) := by decide +kernel
theorem dX2_lastPlace_10 : decode cX2_lastPlace 10 = .ok (.ireturn, 1) := by decide +kernel
theorem dX2_weightOf_0 : decode cX2_weightOf 0 = .ok (.iconst 2, 1) := by decide +kernel
theorem dX2_weightOf_1 : decode cX2_weightOf 1 = .ok (.iload_n 0, 1) := by decide +kernel
theorem dX2_weightOf_2 : decode cX2_weightOf 2 = .ok (.imul, 1) := by decide +kernel
theorem dX2_weightOf_3 : decode cX2_weightOf 3 = .ok (.iconst 1, 1) := by decide +kernel
theorem dX2_weightOf_4 : decode cX2_weightOf 4 = .ok (.iadd, 1) := by decide +kernel
theorem dX2_weightOf_5 : decode cX2_weightOf 5 = .ok (.ireturn, 1) := by decide +kernel
theorem dX2_velocityOf_0 : decode cX2_velocityOf 0 = .ok (.aload_n 0, 1) := by decide +kernel
theorem dX2_velocityOf_1 : decode cX2_velocityOf 1 = .ok (.getfield 15, 3) := by decide +kernel
theorem dX2_velocityOf_4 : decode cX2_velocityOf 4 = .ok (.iload_n 1, 1) := by decide +kernel
theorem dX2_velocityOf_5 : decode cX2_velocityOf 5 = .ok (.iaload, 1) := by decide +kernel
theorem dX2_velocityOf_6 : decode cX2_velocityOf 6 = .ok (.iload_n 1, 1) := by decide +kernel
theorem dX2_velocityOf_7 : decode cX2_velocityOf 7 = .ok (.invokestatic 78, 3) := by decide +kernel
theorem dX2_velocityOf_10 : decode cX2_velocityOf 10 = .ok (.invokestatic 82, 3) := by decide +kernel
theorem dX2_velocityOf_13 : decode cX2_velocityOf 13 = .ok (.ireturn, 1) := by decide +kernel
theorem dX2_giveVelocity_0 : decode cX2_giveVelocity 0 = .ok (.aload_n 0, 1) := by decide +kernel
theorem dX2_giveVelocity_1 : decode cX2_giveVelocity 1 = .ok (.getfield 15, 3) := by decide +kernel
theorem dX2_giveVelocity_4 : decode cX2_giveVelocity 4 = .ok (.iload_n 1, 1) := by decide +kernel
theorem dX2_giveVelocity_5 : decode cX2_giveVelocity 5 = .ok (.iload_n 2, 1) := by decide +kernel
theorem dX2_giveVelocity_6 : decode cX2_giveVelocity 6 = .ok (.iload_n 1, 1) := by decide +kernel
theorem dX2_giveVelocity_7 : decode cX2_giveVelocity 7 = .ok (.invokestatic 78, 3) := by decide +kernel
theorem dX2_giveVelocity_10 : decode cX2_giveVelocity 10 = .ok (.imul, 1) := by decide +kernel
theorem dX2_giveVelocity_11 : decode cX2_giveVelocity 11 = .ok (.iastore, 1) := by decide +kernel
theorem dX2_giveVelocity_12 : decode cX2_giveVelocity 12 = .ok (.return_, 1) := by decide +kernel
theorem dX2_giveVelocities_0 : decode cX2_giveVelocities 0 = .ok (.iconst 1, 1) := by decide +kernel
theorem dX2_giveVelocities_1 : decode cX2_giveVelocities 1 = .ok (.aload_n 0, 1) := by decide +kernel
theorem dX2_giveVelocities_2 : decode cX2_giveVelocities 2 = .ok (.getfield 49, 3) := by decide +kernel
theorem dX2_giveVelocities_5 : decode cX2_giveVelocities 5 = .ok (.iconst 1, 1) := by decide +kernel
theorem dX2_giveVelocities_6 : decode cX2_giveVelocities 6 = .ok (.isub, 1) := by decide +kernel
theorem dX2_giveVelocities_7 : decode cX2_giveVelocities 7 = .ok (.invokestatic 88, 3) := by decide +kernel
theorem dX2_giveVelocities_10 : decode cX2_giveVelocities 10 = .ok (.istore_n 3, 1) := by decide +kernel
theorem dX2_giveVelocities_11 : decode cX2_giveVelocities 11 = .ok (.iconst 0, 1) := by decide +kernel
theorem dX2_giveVelocities_12 : decode cX2_giveVelocities 12 = .ok (.istore 4, 2) := by decide +kernel
theorem dX2_giveVelocities_14 : decode cX2_giveVelocities 14 = .ok (.iload 4, 2) := by decide +kernel
theorem dX2_giveVelocities_16 : decode cX2_giveVelocities 16 = .ok (.aload_n 0, 1) := by decide +kernel
theorem dX2_giveVelocities_17 : decode cX2_giveVelocities 17 = .ok (.getfield 49, 3) := by decide +kernel
theorem dX2_giveVelocities_20 : decode cX2_giveVelocities 20 = .ok (.if_icmp .ge 25, 3) := by decide +kernel
theorem dX2_giveVelocities_23 : decode cX2_giveVelocities 23 = .ok (.aload_n 0, 1) := by decide +kernel
theorem dX2_giveVelocities_24 : decode cX2_giveVelocities 24 = .ok (.iload 4, 2) := by decide +kernel
theorem dX2_giveVelocities_26 : decode cX2_giveVelocities 26 = .ok (.iload_n 1, 1) := by decide +kernel
theorem dX2_giveVelocities_27 : decode cX2_giveVelocities 27 = .ok (.iload_n 2, 1) := by decide +kernel
theorem dX2_giveVelocities_28 : decode cX2_giveVelocities 28 = .ok (.iload_n 1, 1) := by decide +kernel
theorem dX2_giveVelocities_29 : decode cX2_giveVelocities 29 = .ok (.isub, 1) := by decide +kernel
theorem dX2_giveVelocities_30 : decode cX2_giveVelocities 30 = .ok (.iload 4, 2) := by decide +kernel
theorem dX2_giveVelocities_32 : decode cX2_giveVelocities 32 = .ok (.imul, 1) := by decide +kernel
theorem dX2_giveVelocities_33 : decode cX2_giveVelocities 33 = .ok (.iload_n 3, 1) := by decide +kernel
theorem dX2_giveVelocities_34 : decode cX2_giveVelocities 34 = .ok (.idiv, 1) := by decide +kernel
theorem dX2_giveVelocities_35 : decode cX2_giveVelocities 35 = .ok (.iadd, 1) := by decide +kernel
theorem dX2_giveVelocities_36 : decode cX2_giveVelocities 36 = .ok (.invokevirtual 91, 3) := by decide +kernel
theorem dX2_giveVelocities_39 : decode cX2_giveVelocities 39 = .ok (.iinc 4 1, 3) := by decide +kernel
theorem dX2_giveVelocities_42 : decode cX2_giveVelocities 42 = .ok (.goto (-28), 3) := by decide +kernel
theorem dX2_giveVelocities_45 : decode cX2_giveVelocities 45 = .ok (.return_, 1) := by decide +kernel
theorem dX2_pushOf_0 : decode cX2_pushOf 0 = .ok (.aload_n 0, 1) := by decide +kernel
theorem dX2_pushOf_1 : decode cX2_pushOf 1 = .ok (.getfield 9, 3) := by decide +kernel
theorem dX2_pushOf_4 : decode cX2_pushOf 4 = .ok (.iconst 5, 1) := by decide +kernel
theorem dX2_pushOf_5 : decode cX2_pushOf 5 = .ok (.iaload, 1) := by decide +kernel
theorem dX2_pushOf_6 : decode cX2_pushOf 6 = .ok (.aload_n 0, 1) := by decide +kernel
theorem dX2_pushOf_7 : decode cX2_pushOf 7 = .ok (.iload_n 1, 1) := by decide +kernel
theorem dX2_pushOf_8 : decode cX2_pushOf 8 = .ok (.invokevirtual 95, 3) := by decide +kernel
theorem dX2_pushOf_11 : decode cX2_pushOf 11 = .ok (.aload_n 0, 1) := by decide +kernel
theorem dX2_pushOf_12 : decode cX2_pushOf 12 = .ok (.getfield 9, 3) := by decide +kernel
theorem dX2_pushOf_15 : decode cX2_pushOf 15 = .ok (.iconst 4, 1) := by decide +kernel
theorem dX2_pushOf_16 : decode cX2_pushOf 16 = .ok (.iaload, 1) := by decide +kernel
theorem dX2_pushOf_17 : decode cX2_pushOf 17 = .ok (.isub, 1) := by decide +kernel
theorem dX2_pushOf_18 : decode cX2_pushOf 18 = .ok (.imul, 1) := by decide +kernel
theorem dX2_pushOf_19 : decode cX2_pushOf 19 = .ok (.bipush 100, 2) := by decide +kernel
theorem dX2_pushOf_21 : decode cX2_pushOf 21 = .ok (.idiv, 1) := by decide +kernel
theorem dX2_pushOf_22 : decode cX2_pushOf 22 = .ok (.istore_n 2, 1) := by decide +kernel
theorem dX2_pushOf_23 : decode cX2_pushOf 23 = .ok (.sipush (-500), 3) := by decide +kernel
theorem dX2_pushOf_26 : decode cX2_pushOf 26 = .ok (.sipush 500, 3) := by decide +kernel
theorem dX2_pushOf_29 : decode cX2_pushOf 29 = .ok (.iload_n 2, 1) := by decide +kernel
theorem dX2_pushOf_30 : decode cX2_pushOf 30 = .ok (.invokestatic 98, 3) := by decide +kernel
theorem dX2_pushOf_33 : decode cX2_pushOf 33 = .ok (.invokestatic 88, 3) := by decide +kernel
theorem dX2_pushOf_36 : decode cX2_pushOf 36 = .ok (.ireturn, 1) := by decide +kernel
theorem dX2_allMomenta_0 : decode cX2_allMomenta 0 = .ok (.iconst 0, 1) := by decide +kernel
theorem dX2_allMomenta_1 : decode cX2_allMomenta 1 = .ok (.istore_n 1, 1) := by decide +kernel
theorem dX2_allMomenta_2 : decode cX2_allMomenta 2 = .ok (.iconst 0, 1) := by decide +kernel
theorem dX2_allMomenta_3 : decode cX2_allMomenta 3 = .ok (.istore_n 2, 1) := by decide +kernel
theorem dX2_allMomenta_4 : decode cX2_allMomenta 4 = .ok (.iload_n 2, 1) := by decide +kernel
theorem dX2_allMomenta_5 : decode cX2_allMomenta 5 = .ok (.aload_n 0, 1) := by decide +kernel
theorem dX2_allMomenta_6 : decode cX2_allMomenta 6 = .ok (.getfield 49, 3) := by decide +kernel
theorem dX2_allMomenta_9 : decode cX2_allMomenta 9 = .ok (.if_icmp .ge 18, 3) := by decide +kernel
theorem dX2_allMomenta_12 : decode cX2_allMomenta 12 = .ok (.iload_n 1, 1) := by decide +kernel
theorem dX2_allMomenta_13 : decode cX2_allMomenta 13 = .ok (.aload_n 0, 1) := by decide +kernel
theorem dX2_allMomenta_14 : decode cX2_allMomenta 14 = .ok (.getfield 15, 3) := by decide +kernel
theorem dX2_allMomenta_17 : decode cX2_allMomenta 17 = .ok (.iload_n 2, 1) := by decide +kernel
theorem dX2_allMomenta_18 : decode cX2_allMomenta 18 = .ok (.iaload, 1) := by decide +kernel
theorem dX2_allMomenta_19 : decode cX2_allMomenta 19 = .ok (.iadd, 1) := by decide +kernel
theorem dX2_allMomenta_20 : decode cX2_allMomenta 20 = .ok (.istore_n 1, 1) := by decide +kernel
theorem dX2_allMomenta_21 : decode cX2_allMomenta 21 = .ok (.iinc 2 1, 3) := by decide +kernel
theorem dX2_allMomenta_24 : decode cX2_allMomenta 24 = .ok (.goto (-20), 3) := by decide +kernel
theorem dX2_allMomenta_27 : decode cX2_allMomenta 27 = .ok (.iload_n 1, 1) := by decide +kernel
theorem dX2_allMomenta_28 : decode cX2_allMomenta 28 = .ok (.ireturn, 1) := by decide +kernel
theorem dX2_greatestShear_0 : decode cX2_greatestShear 0 = .ok (.iconst 0, 1) := by decide +kernel
theorem dX2_greatestShear_1 : decode cX2_greatestShear 1 = .ok (.istore_n 1, 1) := by decide +kernel
theorem dX2_greatestShear_2 : decode cX2_greatestShear 2 = .ok (.iconst 0, 1) := by decide +kernel
theorem dX2_greatestShear_3 : decode cX2_greatestShear 3 = .ok (.istore_n 2, 1) := by decide +kernel
theorem dX2_greatestShear_4 : decode cX2_greatestShear 4 = .ok (.iload_n 2, 1) := by decide +kernel
theorem dX2_greatestShear_5 : decode cX2_greatestShear 5 = .ok (.aload_n 0, 1) := by decide +kernel
theorem dX2_greatestShear_6 : decode cX2_greatestShear 6 = .ok (.getfield 49, 3) := by decide +kernel
theorem dX2_greatestShear_9 : decode cX2_greatestShear 9 = .ok (.iconst 1, 1) := by decide +kernel
theorem dX2_greatestShear_10 : decode cX2_greatestShear 10 = .ok (.isub, 1) := by decide +kernel
theorem dX2_greatestShear_11 : decode cX2_greatestShear 11 = .ok (.if_icmp .ge 30, 3) := by decide +kernel
theorem dX2_greatestShear_14 : decode cX2_greatestShear 14 = .ok (.iload_n 1, 1) := by decide +kernel
theorem dX2_greatestShear_15 : decode cX2_greatestShear 15 = .ok (.aload_n 0, 1) := by decide +kernel
theorem dX2_greatestShear_16 : decode cX2_greatestShear 16 = .ok (.iload_n 2, 1) := by decide +kernel
theorem dX2_greatestShear_17 : decode cX2_greatestShear 17 = .ok (.invokevirtual 95, 3) := by decide +kernel
theorem dX2_greatestShear_20 : decode cX2_greatestShear 20 = .ok (.aload_n 0, 1) := by decide +kernel
theorem dX2_greatestShear_21 : decode cX2_greatestShear 21 = .ok (.iload_n 2, 1) := by decide +kernel
theorem dX2_greatestShear_22 : decode cX2_greatestShear 22 = .ok (.iconst 1, 1) := by decide +kernel
theorem dX2_greatestShear_23 : decode cX2_greatestShear 23 = .ok (.iadd, 1) := by decide +kernel
theorem dX2_greatestShear_24 : decode cX2_greatestShear 24 = .ok (.invokevirtual 95, 3) := by decide +kernel
theorem dX2_greatestShear_27 : decode cX2_greatestShear 27 = .ok (.isub, 1) := by decide +kernel
theorem dX2_greatestShear_28 : decode cX2_greatestShear 28 = .ok (.invokestatic 101, 3) := by decide +kernel
theorem dX2_greatestShear_31 : decode cX2_greatestShear 31 = .ok (.invokestatic 88, 3) := by decide +kernel
theorem dX2_greatestShear_34 : decode cX2_greatestShear 34 = .ok (.istore_n 1, 1) := by decide +kernel
theorem dX2_greatestShear_35 : decode cX2_greatestShear 35 = .ok (.iinc 2 1, 3) := by decide +kernel
theorem dX2_greatestShear_38 : decode cX2_greatestShear 38 = .ok (.goto (-34), 3) := by decide +kernel
theorem dX2_greatestShear_41 : decode cX2_greatestShear 41 = .ok (.iload_n 1, 1) := by decide +kernel
theorem dX2_greatestShear_42 : decode cX2_greatestShear 42 = .ok (.ireturn, 1) := by decide +kernel
theorem dX2_turnsWithFloor_0 : decode cX2_turnsWithFloor 0 = .ok (.iconst 0, 1) := by decide +kernel
theorem dX2_turnsWithFloor_1 : decode cX2_turnsWithFloor 1 = .ok (.istore_n 2, 1) := by decide +kernel
theorem dX2_turnsWithFloor_2 : decode cX2_turnsWithFloor 2 = .ok (.iload_n 2, 1) := by decide +kernel
theorem dX2_turnsWithFloor_3 : decode cX2_turnsWithFloor 3 = .ok (.aload_n 0, 1) := by decide +kernel
theorem dX2_turnsWithFloor_4 : decode cX2_turnsWithFloor 4 = .ok (.getfield 49, 3) := by decide +kernel
theorem dX2_turnsWithFloor_7 : decode cX2_turnsWithFloor 7 = .ok (.if_icmp .ge 30, 3) := by decide +kernel
theorem dX2_turnsWithFloor_10 : decode cX2_turnsWithFloor 10 = .ok (.aload_n 0, 1) := by decide +kernel
theorem dX2_turnsWithFloor_11 : decode cX2_turnsWithFloor 11 = .ok (.iload_n 2, 1) := by decide +kernel
theorem dX2_turnsWithFloor_12 : decode cX2_turnsWithFloor 12 = .ok (.invokevirtual 95, 3) := by decide +kernel
theorem dX2_turnsWithFloor_15 : decode cX2_turnsWithFloor 15 = .ok (.aload_n 0, 1) := by decide +kernel
theorem dX2_turnsWithFloor_16 : decode cX2_turnsWithFloor 16 = .ok (.getfield 9, 3) := by decide +kernel
theorem dX2_turnsWithFloor_19 : decode cX2_turnsWithFloor 19 = .ok (.iconst 4, 1) := by decide +kernel
theorem dX2_turnsWithFloor_20 : decode cX2_turnsWithFloor 20 = .ok (.iaload, 1) := by decide +kernel
theorem dX2_turnsWithFloor_21 : decode cX2_turnsWithFloor 21 = .ok (.isub, 1) := by decide +kernel
theorem dX2_turnsWithFloor_22 : decode cX2_turnsWithFloor 22 = .ok (.invokestatic 101, 3) := by decide +kernel
theorem dX2_turnsWithFloor_25 : decode cX2_turnsWithFloor 25 = .ok (.iload_n 1, 1) := by decide +kernel
theorem dX2_turnsWithFloor_26 : decode cX2_turnsWithFloor 26 = .ok (.if_icmp .le 5, 3) := by decide +kernel
theorem dX2_turnsWithFloor_29 : decode cX2_turnsWithFloor 29 = .ok (.iconst 0, 1) := by decide +kernel
theorem dX2_turnsWithFloor_30 : decode cX2_turnsWithFloor 30 = .ok (.ireturn, 1) := by decide +kernel
theorem dX2_turnsWithFloor_31 : decode cX2_turnsWithFloor 31 = .ok (.iinc 2 1, 3) := by decide +kernel
theorem dX2_turnsWithFloor_34 : decode cX2_turnsWithFloor 34 = .ok (.goto (-32), 3) := by decide +kernel
theorem dX2_turnsWithFloor_37 : decode cX2_turnsWithFloor 37 = .ok (.iconst 1, 1) := by decide +kernel
theorem dX2_turnsWithFloor_38 : decode cX2_turnsWithFloor 38 = .ok (.ireturn, 1) := by decide +kernel
theorem dX2_rowOf_0 : decode cX2_rowOf 0 = .ok (.iload_n 0, 1) := by decide +kernel
theorem dX2_rowOf_1 : decode cX2_rowOf 1 = .ok (.bipush 12, 2) := by decide +kernel
theorem dX2_rowOf_3 : decode cX2_rowOf 3 = .ok (.imul, 1) := by decide +kernel
theorem dX2_rowOf_4 : decode cX2_rowOf 4 = .ok (.iload_n 1, 1) := by decide +kernel
theorem dX2_rowOf_5 : decode cX2_rowOf 5 = .ok (.iadd, 1) := by decide +kernel
theorem dX2_rowOf_6 : decode cX2_rowOf 6 = .ok (.bipush 24, 2) := by decide +kernel
theorem dX2_rowOf_8 : decode cX2_rowOf 8 = .ok (.imul, 1) := by decide +kernel
theorem dX2_rowOf_9 : decode cX2_rowOf 9 = .ok (.ireturn, 1) := by decide +kernel
theorem dX2_cellIn_0 : decode cX2_cellIn 0 = .ok (.iload_n 1, 1) := by decide +kernel
theorem dX2_cellIn_1 : decode cX2_cellIn 1 = .ok (.iload_n 2, 1) := by decide +kernel
theorem dX2_cellIn_2 : decode cX2_cellIn 2 = .ok (.invokestatic 104, 3) := by decide +kernel
theorem dX2_cellIn_5 : decode cX2_cellIn 5 = .ok (.iload_n 3, 1) := by decide +kernel
theorem dX2_cellIn_6 : decode cX2_cellIn 6 = .ok (.aload_n 0, 1) := by decide +kernel
theorem dX2_cellIn_7 : decode cX2_cellIn 7 = .ok (.getfield 18, 3) := by decide +kernel
theorem dX2_cellIn_10 : decode cX2_cellIn 10 = .ok (.iload_n 2, 1) := by decide +kernel
theorem dX2_cellIn_11 : decode cX2_cellIn 11 = .ok (.iaload, 1) := by decide +kernel
theorem dX2_cellIn_12 : decode cX2_cellIn 12 = .ok (.sipush 150, 3) := by decide +kernel
theorem dX2_cellIn_15 : decode cX2_cellIn 15 = .ok (.idiv, 1) := by decide +kernel
theorem dX2_cellIn_16 : decode cX2_cellIn 16 = .ok (.isub, 1) := by decide +kernel
theorem dX2_cellIn_17 : decode cX2_cellIn 17 = .ok (.bipush 24, 2) := by decide +kernel
theorem dX2_cellIn_19 : decode cX2_cellIn 19 = .ok (.invokestatic 107, 3) := by decide +kernel
theorem dX2_cellIn_22 : decode cX2_cellIn 22 = .ok (.iadd, 1) := by decide +kernel
theorem dX2_cellIn_23 : decode cX2_cellIn 23 = .ok (.ireturn, 1) := by decide +kernel
theorem dX2_amountInRing_0 : decode cX2_amountInRing 0 = .ok (.aload_n 0, 1) := by decide +kernel
theorem dX2_amountInRing_1 : decode cX2_amountInRing 1 = .ok (.iload_n 1, 1) := by decide +kernel
theorem dX2_amountInRing_2 : decode cX2_amountInRing 2 = .ok (.iconst 0, 1) := by decide +kernel
theorem dX2_amountInRing_3 : decode cX2_amountInRing 3 = .ok (.iload_n 2, 1) := by decide +kernel
theorem dX2_amountInRing_4 : decode cX2_amountInRing 4 = .ok (.invokevirtual 110, 3) := by decide +kernel
theorem dX2_amountInRing_7 : decode cX2_amountInRing 7 = .ok (.aload_n 0, 1) := by decide +kernel
theorem dX2_amountInRing_8 : decode cX2_amountInRing 8 = .ok (.iload_n 1, 1) := by decide +kernel
theorem dX2_amountInRing_9 : decode cX2_amountInRing 9 = .ok (.iconst 1, 1) := by decide +kernel
theorem dX2_amountInRing_10 : decode cX2_amountInRing 10 = .ok (.iload_n 2, 1) := by decide +kernel
theorem dX2_amountInRing_11 : decode cX2_amountInRing 11 = .ok (.invokevirtual 110, 3) := by decide +kernel
theorem dX2_amountInRing_14 : decode cX2_amountInRing 14 = .ok (.iadd, 1) := by decide +kernel
theorem dX2_amountInRing_15 : decode cX2_amountInRing 15 = .ok (.ireturn, 1) := by decide +kernel
theorem dX2_amountInTop_0 : decode cX2_amountInTop 0 = .ok (.iconst 0, 1) := by decide +kernel
theorem dX2_amountInTop_1 : decode cX2_amountInTop 1 = .ok (.istore_n 2, 1) := by decide +kernel
theorem dX2_amountInTop_2 : decode cX2_amountInTop 2 = .ok (.iconst 0, 1) := by decide +kernel
theorem dX2_amountInTop_3 : decode cX2_amountInTop 3 = .ok (.istore_n 3, 1) := by decide +kernel
theorem dX2_amountInTop_4 : decode cX2_amountInTop 4 = .ok (.iload_n 3, 1) := by decide +kernel
theorem dX2_amountInTop_5 : decode cX2_amountInTop 5 = .ok (.aload_n 0, 1) := by decide +kernel
theorem dX2_amountInTop_6 : decode cX2_amountInTop 6 = .ok (.getfield 49, 3) := by decide +kernel
theorem dX2_amountInTop_9 : decode cX2_amountInTop 9 = .ok (.if_icmp .ge 19, 3) := by decide +kernel
theorem dX2_amountInTop_12 : decode cX2_amountInTop 12 = .ok (.iload_n 2, 1) := by decide +kernel
theorem dX2_amountInTop_13 : decode cX2_amountInTop 13 = .ok (.aload_n 0, 1) := by decide +kernel
theorem dX2_amountInTop_14 : decode cX2_amountInTop 14 = .ok (.iload_n 1, 1) := by decide +kernel
theorem dX2_amountInTop_15 : decode cX2_amountInTop 15 = .ok (.iconst 0, 1) := by decide +kernel
theorem dX2_amountInTop_16 : decode cX2_amountInTop 16 = .ok (.iload_n 3, 1) := by decide +kernel
theorem dX2_amountInTop_17 : decode cX2_amountInTop 17 = .ok (.invokevirtual 110, 3) := by decide +kernel
theorem dX2_amountInTop_20 : decode cX2_amountInTop 20 = .ok (.iadd, 1) := by decide +kernel
theorem dX2_amountInTop_21 : decode cX2_amountInTop 21 = .ok (.istore_n 2, 1) := by decide +kernel
theorem dX2_amountInTop_22 : decode cX2_amountInTop 22 = .ok (.iinc 3 1, 3) := by decide +kernel
theorem dX2_amountInTop_25 : decode cX2_amountInTop 25 = .ok (.goto (-21), 3) := by decide +kernel
theorem dX2_amountInTop_28 : decode cX2_amountInTop 28 = .ok (.iload_n 2, 1) := by decide +kernel
theorem dX2_amountInTop_29 : decode cX2_amountInTop 29 = .ok (.ireturn, 1) := by decide +kernel
theorem dX2_amountInRow_0 : decode cX2_amountInRow 0 = .ok (.aload_n 0, 1) := by decide +kernel
theorem dX2_amountInRow_1 : decode cX2_amountInRow 1 = .ok (.getfield 26, 3) := by decide +kernel
theorem dX2_amountInRow_4 : decode cX2_amountInRow 4 = .ok (.iload_n 1, 1) := by decide +kernel
theorem dX2_amountInRow_5 : decode cX2_amountInRow 5 = .ok (.aaload, 1) := by decide +kernel
theorem dX2_amountInRow_6 : decode cX2_amountInRow 6 = .ok (.astore 4, 2) := by decide +kernel
theorem dX2_amountInRow_8 : decode cX2_amountInRow 8 = .ok (.iload_n 2, 1) := by decide +kernel
theorem dX2_amountInRow_9 : decode cX2_amountInRow 9 = .ok (.iload_n 3, 1) := by decide +kernel
theorem dX2_amountInRow_10 : decode cX2_amountInRow 10 = .ok (.invokestatic 104, 3) := by decide +kernel
theorem dX2_amountInRow_13 : decode cX2_amountInRow 13 = .ok (.istore 5, 2) := by decide +kernel
theorem dX2_amountInRow_15 : decode cX2_amountInRow 15 = .ok (.iconst 0, 1) := by decide +kernel
theorem dX2_amountInRow_16 : decode cX2_amountInRow 16 = .ok (.istore 6, 2) := by decide +kernel
theorem dX2_amountInRow_18 : decode cX2_amountInRow 18 = .ok (.iload 5, 2) := by decide +kernel
theorem dX2_amountInRow_20 : decode cX2_amountInRow 20 = .ok (.istore 7, 2) := by decide +kernel
theorem dX2_amountInRow_22 : decode cX2_amountInRow 22 = .ok (.iload 7, 2) := by decide +kernel
theorem dX2_amountInRow_24 : decode cX2_amountInRow 24 = .ok (.iload 5, 2) := by decide +kernel
theorem dX2_amountInRow_26 : decode cX2_amountInRow 26 = .ok (.bipush 24, 2) := by decide +kernel
theorem dX2_amountInRow_28 : decode cX2_amountInRow 28 = .ok (.iadd, 1) := by decide +kernel
theorem dX2_amountInRow_29 : decode cX2_amountInRow 29 = .ok (.if_icmp .ge 19, 3) := by decide +kernel
theorem dX2_amountInRow_32 : decode cX2_amountInRow 32 = .ok (.iload 6, 2) := by decide +kernel
theorem dX2_amountInRow_34 : decode cX2_amountInRow 34 = .ok (.aload 4, 2) := by decide +kernel
theorem dX2_amountInRow_36 : decode cX2_amountInRow 36 = .ok (.iload 7, 2) := by decide +kernel
theorem dX2_amountInRow_38 : decode cX2_amountInRow 38 = .ok (.iaload, 1) := by decide +kernel
theorem dX2_amountInRow_39 : decode cX2_amountInRow 39 = .ok (.iadd, 1) := by decide +kernel
theorem dX2_amountInRow_40 : decode cX2_amountInRow 40 = .ok (.istore 6, 2) := by decide +kernel
theorem dX2_amountInRow_42 : decode cX2_amountInRow 42 = .ok (.iinc 7 1, 3) := by decide +kernel
theorem dX2_amountInRow_45 : decode cX2_amountInRow 45 = .ok (.goto (-23), 3) := by decide +kernel
theorem dX2_amountInRow_48 : decode cX2_amountInRow 48 = .ok (.iload 6, 2) := by decide +kernel
theorem dX2_amountInRow_50 : decode cX2_amountInRow 50 = .ok (.ireturn, 1) := by decide +kernel
theorem dX2_cellsWith_0 : decode cX2_cellsWith 0 = .ok (.aload_n 0, 1) := by decide +kernel
theorem dX2_cellsWith_1 : decode cX2_cellsWith 1 = .ok (.getfield 26, 3) := by decide +kernel
theorem dX2_cellsWith_4 : decode cX2_cellsWith 4 = .ok (.iload_n 1, 1) := by decide +kernel
theorem dX2_cellsWith_5 : decode cX2_cellsWith 5 = .ok (.aaload, 1) := by decide +kernel
theorem dX2_cellsWith_6 : decode cX2_cellsWith 6 = .ok (.astore_n 2, 1) := by decide +kernel
theorem dX2_cellsWith_7 : decode cX2_cellsWith 7 = .ok (.iconst 0, 1) := by decide +kernel
theorem dX2_cellsWith_8 : decode cX2_cellsWith 8 = .ok (.istore_n 3, 1) := by decide +kernel
theorem dX2_cellsWith_9 : decode cX2_cellsWith 9 = .ok (.iconst 0, 1) := by decide +kernel
theorem dX2_cellsWith_10 : decode cX2_cellsWith 10 = .ok (.istore 4, 2) := by decide +kernel
theorem dX2_cellsWith_12 : decode cX2_cellsWith 12 = .ok (.iload 4, 2) := by decide +kernel
theorem dX2_cellsWith_14 : decode cX2_cellsWith 14 = .ok (.aload_n 2, 1) := by decide +kernel
theorem dX2_cellsWith_15 : decode cX2_cellsWith 15 = .ok (.arraylength, 1) := by decide +kernel
theorem dX2_cellsWith_16 : decode cX2_cellsWith 16 = .ok (.if_icmp .ge 19, 3) := by decide +kernel
theorem dX2_cellsWith_19 : decode cX2_cellsWith 19 = .ok (.aload_n 2, 1) := by decide +kernel
theorem dX2_cellsWith_20 : decode cX2_cellsWith 20 = .ok (.iload 4, 2) := by decide +kernel
theorem dX2_cellsWith_22 : decode cX2_cellsWith 22 = .ok (.iaload, 1) := by decide +kernel
theorem dX2_cellsWith_23 : decode cX2_cellsWith 23 = .ok (.ifCond .le 6, 3) := by decide +kernel
theorem dX2_cellsWith_26 : decode cX2_cellsWith 26 = .ok (.iinc 3 1, 3) := by decide +kernel
theorem dX2_cellsWith_29 : decode cX2_cellsWith 29 = .ok (.iinc 4 1, 3) := by decide +kernel
theorem dX2_cellsWith_32 : decode cX2_cellsWith 32 = .ok (.goto (-20), 3) := by decide +kernel
theorem dX2_cellsWith_35 : decode cX2_cellsWith 35 = .ok (.iload_n 3, 1) := by decide +kernel
theorem dX2_cellsWith_36 : decode cX2_cellsWith 36 = .ok (.ireturn, 1) := by decide +kernel
theorem dX2_greatestAmount_0 : decode cX2_greatestAmount 0 = .ok (.aload_n 0, 1) := by decide +kernel
theorem dX2_greatestAmount_1 : decode cX2_greatestAmount 1 = .ok (.getfield 26, 3) := by decide +kernel
theorem dX2_greatestAmount_4 : decode cX2_greatestAmount 4 = .ok (.iload_n 1, 1) := by decide +kernel
theorem dX2_greatestAmount_5 : decode cX2_greatestAmount 5 = .ok (.aaload, 1) := by decide +kernel
theorem dX2_greatestAmount_6 : decode cX2_greatestAmount 6 = .ok (.astore_n 2, 1) := by decide +kernel
theorem dX2_greatestAmount_7 : decode cX2_greatestAmount 7 = .ok (.iconst 0, 1) := by decide +kernel
theorem dX2_greatestAmount_8 : decode cX2_greatestAmount 8 = .ok (.istore_n 3, 1) := by decide +kernel
theorem dX2_greatestAmount_9 : decode cX2_greatestAmount 9 = .ok (.iconst 0, 1) := by decide +kernel
theorem dX2_greatestAmount_10 : decode cX2_greatestAmount 10 = .ok (.istore 4, 2) := by decide +kernel
theorem dX2_greatestAmount_12 : decode cX2_greatestAmount 12 = .ok (.iload 4, 2) := by decide +kernel
theorem dX2_greatestAmount_14 : decode cX2_greatestAmount 14 = .ok (.aload_n 2, 1) := by decide +kernel
theorem dX2_greatestAmount_15 : decode cX2_greatestAmount 15 = .ok (.arraylength, 1) := by decide +kernel
theorem dX2_greatestAmount_16 : decode cX2_greatestAmount 16 = .ok (.if_icmp .ge 18, 3) := by decide +kernel
theorem dX2_greatestAmount_19 : decode cX2_greatestAmount 19 = .ok (.iload_n 3, 1) := by decide +kernel
theorem dX2_greatestAmount_20 : decode cX2_greatestAmount 20 = .ok (.aload_n 2, 1) := by decide +kernel
theorem dX2_greatestAmount_21 : decode cX2_greatestAmount 21 = .ok (.iload 4, 2) := by decide +kernel
theorem dX2_greatestAmount_23 : decode cX2_greatestAmount 23 = .ok (.iaload, 1) := by decide +kernel
theorem dX2_greatestAmount_24 : decode cX2_greatestAmount 24 = .ok (.invokestatic 88, 3) := by decide +kernel
theorem dX2_greatestAmount_27 : decode cX2_greatestAmount 27 = .ok (.istore_n 3, 1) := by decide +kernel
theorem dX2_greatestAmount_28 : decode cX2_greatestAmount 28 = .ok (.iinc 4 1, 3) := by decide +kernel
theorem dX2_greatestAmount_31 : decode cX2_greatestAmount 31 = .ok (.goto (-19), 3) := by decide +kernel
theorem dX2_greatestAmount_34 : decode cX2_greatestAmount 34 = .ok (.iload_n 3, 1) := by decide +kernel
theorem dX2_greatestAmount_35 : decode cX2_greatestAmount 35 = .ok (.ireturn, 1) := by decide +kernel
theorem dX2_meanPlace_0 : decode cX2_meanPlace 0 = .ok (.aload_n 0, 1) := by decide +kernel
theorem dX2_meanPlace_1 : decode cX2_meanPlace 1 = .ok (.getfield 21, 3) := by decide +kernel
theorem dX2_meanPlace_4 : decode cX2_meanPlace 4 = .ok (.iload_n 1, 1) := by decide +kernel
theorem dX2_meanPlace_5 : decode cX2_meanPlace 5 = .ok (.iaload, 1) := by decide +kernel
theorem dX2_meanPlace_6 : decode cX2_meanPlace 6 = .ok (.ifCond .ne 7, 3) := by decide +kernel
theorem dX2_meanPlace_9 : decode cX2_meanPlace 9 = .ok (.ldc2_w 114, 3) := by decide +kernel
theorem dX2_meanPlace_12 : decode cX2_meanPlace 12 = .ok (.lreturn, 1) := by decide +kernel
theorem dX2_meanPlace_13 : decode cX2_meanPlace 13 = .ok (.lconst 0, 1) := by decide +kernel
theorem dX2_meanPlace_14 : decode cX2_meanPlace 14 = .ok (.lstore_n 2, 1) := by decide +kernel
theorem dX2_meanPlace_15 : decode cX2_meanPlace 15 = .ok (.iconst 0, 1) := by decide +kernel
theorem dX2_meanPlace_16 : decode cX2_meanPlace 16 = .ok (.istore 4, 2) := by decide +kernel
theorem dX2_meanPlace_18 : decode cX2_meanPlace 18 = .ok (.iload 4, 2) := by decide +kernel
theorem dX2_meanPlace_20 : decode cX2_meanPlace 20 = .ok (.aload_n 0, 1) := by decide +kernel
theorem dX2_meanPlace_21 : decode cX2_meanPlace 21 = .ok (.getfield 49, 3) := by decide +kernel
theorem dX2_meanPlace_24 : decode cX2_meanPlace 24 = .ok (.if_icmp .ge 24, 3) := by decide +kernel
theorem dX2_meanPlace_27 : decode cX2_meanPlace 27 = .ok (.lload_n 2, 1) := by decide +kernel
theorem dX2_meanPlace_28 : decode cX2_meanPlace 28 = .ok (.iload 4, 2) := by decide +kernel
theorem dX2_meanPlace_30 : decode cX2_meanPlace 30 = .ok (.i2l, 1) := by decide +kernel
theorem dX2_meanPlace_31 : decode cX2_meanPlace 31 = .ok (.aload_n 0, 1) := by decide +kernel
theorem dX2_meanPlace_32 : decode cX2_meanPlace 32 = .ok (.iload_n 1, 1) := by decide +kernel
theorem dX2_meanPlace_33 : decode cX2_meanPlace 33 = .ok (.iload 4, 2) := by decide +kernel
theorem dX2_meanPlace_35 : decode cX2_meanPlace 35 = .ok (.invokevirtual 116, 3) := by decide +kernel
theorem dX2_meanPlace_38 : decode cX2_meanPlace 38 = .ok (.i2l, 1) := by decide +kernel
theorem dX2_meanPlace_39 : decode cX2_meanPlace 39 = .ok (.lmul, 1) := by decide +kernel
theorem dX2_meanPlace_40 : decode cX2_meanPlace 40 = .ok (.ladd, 1) := by decide +kernel
theorem dX2_meanPlace_41 : decode cX2_meanPlace 41 = .ok (.lstore_n 2, 1) := by decide +kernel
theorem dX2_meanPlace_42 : decode cX2_meanPlace 42 = .ok (.iinc 4 1, 3) := by decide +kernel
theorem dX2_meanPlace_45 : decode cX2_meanPlace 45 = .ok (.goto (-27), 3) := by decide +kernel
theorem dX2_meanPlace_48 : decode cX2_meanPlace 48 = .ok (.ldc2_w 119, 3) := by decide +kernel
theorem dX2_meanPlace_51 : decode cX2_meanPlace 51 = .ok (.lload_n 2, 1) := by decide +kernel
theorem dX2_meanPlace_52 : decode cX2_meanPlace 52 = .ok (.lmul, 1) := by decide +kernel
theorem dX2_meanPlace_53 : decode cX2_meanPlace 53 = .ok (.aload_n 0, 1) := by decide +kernel
theorem dX2_meanPlace_54 : decode cX2_meanPlace 54 = .ok (.getfield 21, 3) := by decide +kernel
theorem dX2_meanPlace_57 : decode cX2_meanPlace 57 = .ok (.iload_n 1, 1) := by decide +kernel
theorem dX2_meanPlace_58 : decode cX2_meanPlace 58 = .ok (.iaload, 1) := by decide +kernel
theorem dX2_meanPlace_59 : decode cX2_meanPlace 59 = .ok (.i2l, 1) := by decide +kernel
theorem dX2_meanPlace_60 : decode cX2_meanPlace 60 = .ok (.ldiv, 1) := by decide +kernel
theorem dX2_meanPlace_61 : decode cX2_meanPlace 61 = .ok (.lreturn, 1) := by decide +kernel
theorem dX2_unevenness_0 : decode cX2_unevenness 0 = .ok (.aload_n 0, 1) := by decide +kernel
theorem dX2_unevenness_1 : decode cX2_unevenness 1 = .ok (.getfield 21, 3) := by decide +kernel
theorem dX2_unevenness_4 : decode cX2_unevenness 4 = .ok (.iload_n 1, 1) := by decide +kernel
theorem dX2_unevenness_5 : decode cX2_unevenness 5 = .ok (.iaload, 1) := by decide +kernel
theorem dX2_unevenness_6 : decode cX2_unevenness 6 = .ok (.i2l, 1) := by decide +kernel
theorem dX2_unevenness_7 : decode cX2_unevenness 7 = .ok (.lstore_n 2, 1) := by decide +kernel
theorem dX2_unevenness_8 : decode cX2_unevenness 8 = .ok (.iconst 1, 1) := by decide +kernel
theorem dX2_unevenness_9 : decode cX2_unevenness 9 = .ok (.iconst 2, 1) := by decide +kernel
theorem dX2_unevenness_10 : decode cX2_unevenness 10 = .ok (.aload_n 0, 1) := by decide +kernel
theorem dX2_unevenness_11 : decode cX2_unevenness 11 = .ok (.getfield 49, 3) := by decide +kernel
theorem dX2_unevenness_14 : decode cX2_unevenness 14 = .ok (.imul, 1) := by decide +kernel
theorem dX2_unevenness_15 : decode cX2_unevenness 15 = .ok (.bipush 24, 2) := by decide +kernel
theorem dX2_unevenness_17 : decode cX2_unevenness 17 = .ok (.imul, 1) := by decide +kernel
theorem dX2_unevenness_18 : decode cX2_unevenness 18 = .ok (.invokestatic 88, 3) := by decide +kernel
theorem dX2_unevenness_21 : decode cX2_unevenness 21 = .ok (.i2l, 1) := by decide +kernel
theorem dX2_unevenness_22 : decode cX2_unevenness 22 = .ok (.lstore 4, 2) := by decide +kernel
theorem dX2_unevenness_24 : decode cX2_unevenness 24 = .ok (.lconst 0, 1) := by decide +kernel
theorem dX2_unevenness_25 : decode cX2_unevenness 25 = .ok (.lstore 6, 2) := by decide +kernel
theorem dX2_unevenness_27 : decode cX2_unevenness 27 = .ok (.iconst 0, 1) := by decide +kernel
theorem dX2_unevenness_28 : decode cX2_unevenness 28 = .ok (.istore 8, 2) := by decide +kernel
theorem dX2_unevenness_30 : decode cX2_unevenness 30 = .ok (.iload 8, 2) := by decide +kernel
theorem dX2_unevenness_32 : decode cX2_unevenness 32 = .ok (.iconst 1, 1) := by decide +kernel
theorem dX2_unevenness_33 : decode cX2_unevenness 33 = .ok (.if_icmp .gt 65, 3) := by decide +kernel
theorem dX2_unevenness_36 : decode cX2_unevenness 36 = .ok (.iload 8, 2) := by decide +kernel
theorem dX2_unevenness_38 : decode cX2_unevenness 38 = .ok (.iconst 0, 1) := by decide +kernel
theorem dX2_unevenness_39 : decode cX2_unevenness 39 = .ok (.invokestatic 104, 3) := by decide +kernel
theorem dX2_unevenness_42 : decode cX2_unevenness 42 = .ok (.istore 9, 2) := by decide +kernel
theorem dX2_unevenness_44 : decode cX2_unevenness 44 = .ok (.iload 9, 2) := by decide +kernel
theorem dX2_unevenness_46 : decode cX2_unevenness 46 = .ok (.istore 10, 2) := by decide +kernel
theorem dX2_unevenness_48 : decode cX2_unevenness 48 = .ok (.iload 10, 2) := by decide +kernel
theorem dX2_unevenness_50 : decode cX2_unevenness 50 = .ok (.iload 9, 2) := by decide +kernel
theorem dX2_unevenness_52 : decode cX2_unevenness 52 = .ok (.aload_n 0, 1) := by decide +kernel
theorem dX2_unevenness_53 : decode cX2_unevenness 53 = .ok (.getfield 49, 3) := by decide +kernel
theorem dX2_unevenness_56 : decode cX2_unevenness 56 = .ok (.bipush 24, 2) := by decide +kernel
theorem dX2_unevenness_58 : decode cX2_unevenness 58 = .ok (.imul, 1) := by decide +kernel
theorem dX2_unevenness_59 : decode cX2_unevenness 59 = .ok (.iadd, 1) := by decide +kernel
theorem dX2_unevenness_60 : decode cX2_unevenness 60 = .ok (.if_icmp .ge 32, 3) := by decide +kernel
theorem dX2_unevenness_63 : decode cX2_unevenness 63 = .ok (.lload 6, 2) := by decide +kernel
theorem dX2_unevenness_65 : decode cX2_unevenness 65 = .ok (.aload_n 0, 1) := by decide +kernel
theorem dX2_unevenness_66 : decode cX2_unevenness 66 = .ok (.getfield 26, 3) := by decide +kernel
theorem dX2_unevenness_69 : decode cX2_unevenness 69 = .ok (.iload_n 1, 1) := by decide +kernel
theorem dX2_unevenness_70 : decode cX2_unevenness 70 = .ok (.aaload, 1) := by decide +kernel
theorem dX2_unevenness_71 : decode cX2_unevenness 71 = .ok (.iload 10, 2) := by decide +kernel
theorem dX2_unevenness_73 : decode cX2_unevenness 73 = .ok (.iaload, 1) := by decide +kernel
theorem dX2_unevenness_74 : decode cX2_unevenness 74 = .ok (.i2l, 1) := by decide +kernel
theorem dX2_unevenness_75 : decode cX2_unevenness 75 = .ok (.lload 4, 2) := by decide +kernel
theorem dX2_unevenness_77 : decode cX2_unevenness 77 = .ok (.lmul, 1) := by decide +kernel
theorem dX2_unevenness_78 : decode cX2_unevenness 78 = .ok (.lload_n 2, 1) := by decide +kernel
theorem dX2_unevenness_79 : decode cX2_unevenness 79 = .ok (.lsub, 1) := by decide +kernel
theorem dX2_unevenness_80 : decode cX2_unevenness 80 = .ok (.invokestatic 121, 3) := by decide +kernel
theorem dX2_unevenness_83 : decode cX2_unevenness 83 = .ok (.ladd, 1) := by decide +kernel
theorem dX2_unevenness_84 : decode cX2_unevenness 84 = .ok (.lstore 6, 2) := by decide +kernel
theorem dX2_unevenness_86 : decode cX2_unevenness 86 = .ok (.iinc 10 1, 3) := by decide +kernel
theorem dX2_unevenness_89 : decode cX2_unevenness 89 = .ok (.goto (-41), 3) := by decide +kernel
theorem dX2_unevenness_92 : decode cX2_unevenness 92 = .ok (.iinc 8 1, 3) := by decide +kernel
theorem dX2_unevenness_95 : decode cX2_unevenness 95 = .ok (.goto (-65), 3) := by decide +kernel
theorem dX2_unevenness_98 : decode cX2_unevenness 98 = .ok (.lload 6, 2) := by decide +kernel
theorem dX2_unevenness_100 : decode cX2_unevenness 100 = .ok (.lload 4, 2) := by decide +kernel
theorem dX2_unevenness_102 : decode cX2_unevenness 102 = .ok (.ldiv, 1) := by decide +kernel
theorem dX2_unevenness_103 : decode cX2_unevenness 103 = .ok (.lreturn, 1) := by decide +kernel
theorem dX2_makeTick_0 : decode cX2_makeTick 0 = .ok (.aload_n 0, 1) := by decide +kernel
theorem dX2_makeTick_1 : decode cX2_makeTick 1 = .ok (.invokevirtual 124, 3) := by decide +kernel
theorem dX2_makeTick_4 : decode cX2_makeTick 4 = .ok (.iconst 0, 1) := by decide +kernel
theorem dX2_makeTick_5 : decode cX2_makeTick 5 = .ok (.istore_n 1, 1) := by decide +kernel
theorem dX2_makeTick_6 : decode cX2_makeTick 6 = .ok (.iload_n 1, 1) := by decide +kernel
theorem dX2_makeTick_7 : decode cX2_makeTick 7 = .ok (.iconst 3, 1) := by decide +kernel
theorem dX2_makeTick_8 : decode cX2_makeTick 8 = .ok (.if_icmp .ge 23, 3) := by decide +kernel
theorem dX2_makeTick_11 : decode cX2_makeTick 11 = .ok (.aload_n 0, 1) := by decide +kernel
theorem dX2_makeTick_12 : decode cX2_makeTick 12 = .ok (.getfield 21, 3) := by decide +kernel
theorem dX2_makeTick_15 : decode cX2_makeTick 15 = .ok (.iload_n 1, 1) := by decide +kernel
theorem dX2_makeTick_16 : decode cX2_makeTick 16 = .ok (.iaload, 1) := by decide +kernel
theorem dX2_makeTick_17 : decode cX2_makeTick 17 = .ok (.ifCond .le 8, 3) := by decide +kernel
theorem dX2_makeTick_20 : decode cX2_makeTick 20 = .ok (.aload_n 0, 1) := by decide +kernel
theorem dX2_makeTick_21 : decode cX2_makeTick 21 = .ok (.iload_n 1, 1) := by decide +kernel
theorem dX2_makeTick_22 : decode cX2_makeTick 22 = .ok (.invokevirtual 127, 3) := by decide +kernel
theorem dX2_makeTick_25 : decode cX2_makeTick 25 = .ok (.iinc 1 1, 3) := by decide +kernel
theorem dX2_makeTick_28 : decode cX2_makeTick 28 = .ok (.goto (-22), 3) := by decide +kernel
theorem dX2_makeTick_31 : decode cX2_makeTick 31 = .ok (.aload_n 0, 1) := by decide +kernel
theorem dX2_makeTick_32 : decode cX2_makeTick 32 = .ok (.invokevirtual 130, 3) := by decide +kernel
theorem dX2_makeTick_35 : decode cX2_makeTick 35 = .ok (.aload_n 0, 1) := by decide +kernel
theorem dX2_makeTick_36 : decode cX2_makeTick 36 = .ok (.dup, 1) := by decide +kernel
theorem dX2_makeTick_37 : decode cX2_makeTick 37 = .ok (.getfield 53, 3) := by decide +kernel
theorem dX2_makeTick_40 : decode cX2_makeTick 40 = .ok (.iconst 1, 1) := by decide +kernel
theorem dX2_makeTick_41 : decode cX2_makeTick 41 = .ok (.iadd, 1) := by decide +kernel
theorem dX2_makeTick_42 : decode cX2_makeTick 42 = .ok (.putfield 53, 3) := by decide +kernel
theorem dX2_makeTick_45 : decode cX2_makeTick 45 = .ok (.return_, 1) := by decide +kernel
theorem dX2_turn_0 : decode cX2_turn 0 = .ok (.aload_n 0, 1) := by decide +kernel
theorem dX2_turn_1 : decode cX2_turn 1 = .ok (.invokevirtual 133, 3) := by decide +kernel
theorem dX2_turn_4 : decode cX2_turn 4 = .ok (.iconst 0, 1) := by decide +kernel
theorem dX2_turn_5 : decode cX2_turn 5 = .ok (.istore_n 1, 1) := by decide +kernel
theorem dX2_turn_6 : decode cX2_turn 6 = .ok (.iload_n 1, 1) := by decide +kernel
theorem dX2_turn_7 : decode cX2_turn 7 = .ok (.aload_n 0, 1) := by decide +kernel
theorem dX2_turn_8 : decode cX2_turn 8 = .ok (.getfield 49, 3) := by decide +kernel
theorem dX2_turn_11 : decode cX2_turn 11 = .ok (.if_icmp .ge 56, 3) := by decide +kernel
theorem dX2_turn_14 : decode cX2_turn 14 = .ok (.aload_n 0, 1) := by decide +kernel
theorem dX2_turn_15 : decode cX2_turn 15 = .ok (.getfield 35, 3) := by decide +kernel
theorem dX2_turn_18 : decode cX2_turn 18 = .ok (.iload_n 1, 1) := by decide +kernel
theorem dX2_turn_19 : decode cX2_turn 19 = .ok (.aload_n 0, 1) := by decide +kernel
theorem dX2_turn_20 : decode cX2_turn 20 = .ok (.iload_n 1, 1) := by decide +kernel
theorem dX2_turn_21 : decode cX2_turn 21 = .ok (.invokevirtual 95, 3) := by decide +kernel
theorem dX2_turn_24 : decode cX2_turn 24 = .ok (.iastore, 1) := by decide +kernel
theorem dX2_turn_25 : decode cX2_turn 25 = .ok (.aload_n 0, 1) := by decide +kernel
theorem dX2_turn_26 : decode cX2_turn 26 = .ok (.getfield 38, 3) := by decide +kernel
theorem dX2_turn_29 : decode cX2_turn 29 = .ok (.iload_n 1, 1) := by decide +kernel
theorem dX2_turn_30 : decode cX2_turn 30 = .ok (.aload_n 0, 1) := by decide +kernel
theorem dX2_turn_31 : decode cX2_turn 31 = .ok (.iload_n 1, 1) := by decide +kernel
theorem dX2_turn_32 : decode cX2_turn 32 = .ok (.invokevirtual 136, 3) := by decide +kernel
theorem dX2_turn_35 : decode cX2_turn 35 = .ok (.iastore, 1) := by decide +kernel
theorem dX2_turn_36 : decode cX2_turn 36 = .ok (.aload_n 0, 1) := by decide +kernel
theorem dX2_turn_37 : decode cX2_turn 37 = .ok (.getfield 18, 3) := by decide +kernel
theorem dX2_turn_40 : decode cX2_turn 40 = .ok (.iload_n 1, 1) := by decide +kernel
theorem dX2_turn_41 : decode cX2_turn 41 = .ok (.aload_n 0, 1) := by decide +kernel
theorem dX2_turn_42 : decode cX2_turn 42 = .ok (.getfield 18, 3) := by decide +kernel
theorem dX2_turn_45 : decode cX2_turn 45 = .ok (.iload_n 1, 1) := by decide +kernel
theorem dX2_turn_46 : decode cX2_turn 46 = .ok (.iaload, 1) := by decide +kernel
theorem dX2_turn_47 : decode cX2_turn 47 = .ok (.aload_n 0, 1) := by decide +kernel
theorem dX2_turn_48 : decode cX2_turn 48 = .ok (.getfield 35, 3) := by decide +kernel
theorem dX2_turn_51 : decode cX2_turn 51 = .ok (.iload_n 1, 1) := by decide +kernel
theorem dX2_turn_52 : decode cX2_turn 52 = .ok (.iaload, 1) := by decide +kernel
theorem dX2_turn_53 : decode cX2_turn 53 = .ok (.iadd, 1) := by decide +kernel
theorem dX2_turn_54 : decode cX2_turn 54 = .ok (.sipush 3600, 3) := by decide +kernel
theorem dX2_turn_57 : decode cX2_turn 57 = .ok (.invokestatic 107, 3) := by decide +kernel
theorem dX2_turn_60 : decode cX2_turn 60 = .ok (.iastore, 1) := by decide +kernel
theorem dX2_turn_61 : decode cX2_turn 61 = .ok (.iinc 1 1, 3) := by decide +kernel
theorem dX2_turn_64 : decode cX2_turn 64 = .ok (.goto (-58), 3) := by decide +kernel
theorem dX2_turn_67 : decode cX2_turn 67 = .ok (.return_, 1) := by decide +kernel
theorem dX2_changeMomenta_0 : decode cX2_changeMomenta 0 = .ok (.iconst 0, 1) := by decide +kernel
theorem dX2_changeMomenta_1 : decode cX2_changeMomenta 1 = .ok (.istore_n 1, 1) := by decide +kernel
theorem dX2_changeMomenta_2 : decode cX2_changeMomenta 2 = .ok (.iload_n 1, 1) := by decide +kernel
theorem dX2_changeMomenta_3 : decode cX2_changeMomenta 3 = .ok (.aload_n 0, 1) := by decide +kernel
theorem dX2_changeMomenta_4 : decode cX2_changeMomenta 4 = .ok (.getfield 49, 3) := by decide +kernel
theorem dX2_changeMomenta_7 : decode cX2_changeMomenta 7 = .ok (.if_icmp .ge 20, 3) := by decide +kernel
theorem dX2_changeMomenta_10 : decode cX2_changeMomenta 10 = .ok (.aload_n 0, 1) := by decide +kernel
theorem dX2_changeMomenta_11 : decode cX2_changeMomenta 11 = .ok (.getfield 35, 3) := by decide +kernel
theorem dX2_changeMomenta_14 : decode cX2_changeMomenta 14 = .ok (.iload_n 1, 1) := by decide +kernel
theorem dX2_changeMomenta_15 : decode cX2_changeMomenta 15 = .ok (.aload_n 0, 1) := by decide +kernel
theorem dX2_changeMomenta_16 : decode cX2_changeMomenta 16 = .ok (.iload_n 1, 1) := by decide +kernel
theorem dX2_changeMomenta_17 : decode cX2_changeMomenta 17 = .ok (.invokevirtual 95, 3) := by decide +kernel
theorem dX2_changeMomenta_20 : decode cX2_changeMomenta 20 = .ok (.iastore, 1) := by decide +kernel
theorem dX2_changeMomenta_21 : decode cX2_changeMomenta 21 = .ok (.iinc 1 1, 3) := by decide +kernel
theorem dX2_changeMomenta_24 : decode cX2_changeMomenta 24 = .ok (.goto (-22), 3) := by decide +kernel
theorem dX2_changeMomenta_27 : decode cX2_changeMomenta 27 = .ok (.aload_n 0, 1) := by decide +kernel
theorem dX2_changeMomenta_28 : decode cX2_changeMomenta 28 = .ok (.getfield 49, 3) := by decide +kernel
theorem dX2_changeMomenta_31 : decode cX2_changeMomenta 31 = .ok (.iconst 1, 1) := by decide +kernel
theorem dX2_changeMomenta_32 : decode cX2_changeMomenta 32 = .ok (.isub, 1) := by decide +kernel
theorem dX2_changeMomenta_33 : decode cX2_changeMomenta 33 = .ok (.istore_n 1, 1) := by decide +kernel
theorem dX2_changeMomenta_34 : decode cX2_changeMomenta 34 = .ok (.iconst 0, 1) := by decide +kernel
theorem dX2_changeMomenta_35 : decode cX2_changeMomenta 35 = .ok (.istore_n 2, 1) := by decide +kernel
theorem dX2_changeMomenta_36 : decode cX2_changeMomenta 36 = .ok (.iload_n 2, 1) := by decide +kernel
theorem dX2_changeMomenta_37 : decode cX2_changeMomenta 37 = .ok (.iload_n 1, 1) := by decide +kernel
theorem dX2_changeMomenta_38 : decode cX2_changeMomenta 38 = .ok (.if_icmp .ge 57, 3) := by decide +kernel
theorem dX2_changeMomenta_41 : decode cX2_changeMomenta 41 = .ok (.aload_n 0, 1) := by decide +kernel
theorem dX2_changeMomenta_42 : decode cX2_changeMomenta 42 = .ok (.getfield 9, 3) := by decide +kernel
theorem dX2_changeMomenta_45 : decode cX2_changeMomenta 45 = .ok (.iconst 0, 1) := by decide +kernel
theorem dX2_changeMomenta_46 : decode cX2_changeMomenta 46 = .ok (.iaload, 1) := by decide +kernel
theorem dX2_changeMomenta_47 : decode cX2_changeMomenta 47 = .ok (.aload_n 0, 1) := by decide +kernel
theorem dX2_changeMomenta_48 : decode cX2_changeMomenta 48 = .ok (.getfield 35, 3) := by decide +kernel
theorem dX2_changeMomenta_51 : decode cX2_changeMomenta 51 = .ok (.iload_n 2, 1) := by decide +kernel
theorem dX2_changeMomenta_52 : decode cX2_changeMomenta 52 = .ok (.iaload, 1) := by decide +kernel
theorem dX2_changeMomenta_53 : decode cX2_changeMomenta 53 = .ok (.aload_n 0, 1) := by decide +kernel
theorem dX2_changeMomenta_54 : decode cX2_changeMomenta 54 = .ok (.getfield 35, 3) := by decide +kernel
theorem dX2_changeMomenta_57 : decode cX2_changeMomenta 57 = .ok (.iload_n 2, 1) := by decide +kernel
theorem dX2_changeMomenta_58 : decode cX2_changeMomenta 58 = .ok (.iconst 1, 1) := by decide +kernel
theorem dX2_changeMomenta_59 : decode cX2_changeMomenta 59 = .ok (.iadd, 1) := by decide +kernel
theorem dX2_changeMomenta_60 : decode cX2_changeMomenta 60 = .ok (.iaload, 1) := by decide +kernel
theorem dX2_changeMomenta_61 : decode cX2_changeMomenta 61 = .ok (.isub, 1) := by decide +kernel
theorem dX2_changeMomenta_62 : decode cX2_changeMomenta 62 = .ok (.imul, 1) := by decide +kernel
theorem dX2_changeMomenta_63 : decode cX2_changeMomenta 63 = .ok (.bipush 100, 2) := by decide +kernel
theorem dX2_changeMomenta_65 : decode cX2_changeMomenta 65 = .ok (.idiv, 1) := by decide +kernel
theorem dX2_changeMomenta_66 : decode cX2_changeMomenta 66 = .ok (.istore_n 3, 1) := by decide +kernel
theorem dX2_changeMomenta_67 : decode cX2_changeMomenta 67 = .ok (.aload_n 0, 1) := by decide +kernel
theorem dX2_changeMomenta_68 : decode cX2_changeMomenta 68 = .ok (.getfield 15, 3) := by decide +kernel
theorem dX2_changeMomenta_71 : decode cX2_changeMomenta 71 = .ok (.iload_n 2, 1) := by decide +kernel
theorem dX2_changeMomenta_72 : decode cX2_changeMomenta 72 = .ok (.dup2, 1) := by decide +kernel
theorem dX2_changeMomenta_73 : decode cX2_changeMomenta 73 = .ok (.iaload, 1) := by decide +kernel
theorem dX2_changeMomenta_74 : decode cX2_changeMomenta 74 = .ok (.iload_n 3, 1) := by decide +kernel
theorem dX2_changeMomenta_75 : decode cX2_changeMomenta 75 = .ok (.isub, 1) := by decide +kernel
theorem dX2_changeMomenta_76 : decode cX2_changeMomenta 76 = .ok (.iastore, 1) := by decide +kernel
theorem dX2_changeMomenta_77 : decode cX2_changeMomenta 77 = .ok (.aload_n 0, 1) := by decide +kernel
theorem dX2_changeMomenta_78 : decode cX2_changeMomenta 78 = .ok (.getfield 15, 3) := by decide +kernel
theorem dX2_changeMomenta_81 : decode cX2_changeMomenta 81 = .ok (.iload_n 2, 1) := by decide +kernel
theorem dX2_changeMomenta_82 : decode cX2_changeMomenta 82 = .ok (.iconst 1, 1) := by decide +kernel
theorem dX2_changeMomenta_83 : decode cX2_changeMomenta 83 = .ok (.iadd, 1) := by decide +kernel
theorem dX2_changeMomenta_84 : decode cX2_changeMomenta 84 = .ok (.dup2, 1) := by decide +kernel
theorem dX2_changeMomenta_85 : decode cX2_changeMomenta 85 = .ok (.iaload, 1) := by decide +kernel
theorem dX2_changeMomenta_86 : decode cX2_changeMomenta 86 = .ok (.iload_n 3, 1) := by decide +kernel
theorem dX2_changeMomenta_87 : decode cX2_changeMomenta 87 = .ok (.iadd, 1) := by decide +kernel
theorem dX2_changeMomenta_88 : decode cX2_changeMomenta 88 = .ok (.iastore, 1) := by decide +kernel
theorem dX2_changeMomenta_89 : decode cX2_changeMomenta 89 = .ok (.iinc 2 1, 3) := by decide +kernel
theorem dX2_changeMomenta_92 : decode cX2_changeMomenta 92 = .ok (.goto (-56), 3) := by decide +kernel
theorem dX2_changeMomenta_95 : decode cX2_changeMomenta 95 = .ok (.aload_n 0, 1) := by decide +kernel
theorem dX2_changeMomenta_96 : decode cX2_changeMomenta 96 = .ok (.getfield 15, 3) := by decide +kernel
theorem dX2_changeMomenta_99 : decode cX2_changeMomenta 99 = .ok (.iload_n 1, 1) := by decide +kernel
theorem dX2_changeMomenta_100 : decode cX2_changeMomenta 100 = .ok (.dup2, 1) := by decide +kernel
theorem dX2_changeMomenta_101 : decode cX2_changeMomenta 101 = .ok (.iaload, 1) := by decide +kernel
theorem dX2_changeMomenta_102 : decode cX2_changeMomenta 102 = .ok (.aload_n 0, 1) := by decide +kernel
theorem dX2_changeMomenta_103 : decode cX2_changeMomenta 103 = .ok (.getfield 9, 3) := by decide +kernel
theorem dX2_changeMomenta_106 : decode cX2_changeMomenta 106 = .ok (.iconst 1, 1) := by decide +kernel
theorem dX2_changeMomenta_107 : decode cX2_changeMomenta 107 = .ok (.iaload, 1) := by decide +kernel
theorem dX2_changeMomenta_108 : decode cX2_changeMomenta 108 = .ok (.aload_n 0, 1) := by decide +kernel
theorem dX2_changeMomenta_109 : decode cX2_changeMomenta 109 = .ok (.getfield 9, 3) := by decide +kernel
theorem dX2_changeMomenta_112 : decode cX2_changeMomenta 112 = .ok (.iconst 2, 1) := by decide +kernel
theorem dX2_changeMomenta_113 : decode cX2_changeMomenta 113 = .ok (.iaload, 1) := by decide +kernel
theorem dX2_changeMomenta_114 : decode cX2_changeMomenta 114 = .ok (.aload_n 0, 1) := by decide +kernel
theorem dX2_changeMomenta_115 : decode cX2_changeMomenta 115 = .ok (.getfield 35, 3) := by decide +kernel
theorem dX2_changeMomenta_118 : decode cX2_changeMomenta 118 = .ok (.iload_n 1, 1) := by decide +kernel
theorem dX2_changeMomenta_119 : decode cX2_changeMomenta 119 = .ok (.iaload, 1) := by decide +kernel
theorem dX2_changeMomenta_120 : decode cX2_changeMomenta 120 = .ok (.isub, 1) := by decide +kernel
theorem dX2_changeMomenta_121 : decode cX2_changeMomenta 121 = .ok (.imul, 1) := by decide +kernel
theorem dX2_changeMomenta_122 : decode cX2_changeMomenta 122 = .ok (.bipush 100, 2) := by decide +kernel
theorem dX2_changeMomenta_124 : decode cX2_changeMomenta 124 = .ok (.idiv, 1) := by decide +kernel
theorem dX2_changeMomenta_125 : decode cX2_changeMomenta 125 = .ok (.iadd, 1) := by decide +kernel
theorem dX2_changeMomenta_126 : decode cX2_changeMomenta 126 = .ok (.iastore, 1) := by decide +kernel
theorem dX2_changeMomenta_127 : decode cX2_changeMomenta 127 = .ok (.iconst 0, 1) := by decide +kernel
theorem dX2_changeMomenta_128 : decode cX2_changeMomenta 128 = .ok (.istore_n 2, 1) := by decide +kernel
theorem dX2_changeMomenta_129 : decode cX2_changeMomenta 129 = .ok (.iload_n 2, 1) := by decide +kernel
theorem dX2_changeMomenta_130 : decode cX2_changeMomenta 130 = .ok (.aload_n 0, 1) := by decide +kernel
theorem dX2_changeMomenta_131 : decode cX2_changeMomenta 131 = .ok (.getfield 49, 3) := by decide +kernel
theorem dX2_changeMomenta_134 : decode cX2_changeMomenta 134 = .ok (.if_icmp .ge 47, 3) := by decide +kernel
theorem dX2_changeMomenta_137 : decode cX2_changeMomenta 137 = .ok (.aload_n 0, 1) := by decide +kernel
theorem dX2_changeMomenta_138 : decode cX2_changeMomenta 138 = .ok (.getfield 15, 3) := by decide +kernel
theorem dX2_changeMomenta_141 : decode cX2_changeMomenta 141 = .ok (.iload_n 2, 1) := by decide +kernel
theorem dX2_changeMomenta_142 : decode cX2_changeMomenta 142 = .ok (.dup2, 1) := by decide +kernel
theorem dX2_changeMomenta_143 : decode cX2_changeMomenta 143 = .ok (.iaload, 1) := by decide +kernel
theorem dX2_changeMomenta_144 : decode cX2_changeMomenta 144 = .ok (.aload_n 0, 1) := by decide +kernel
theorem dX2_changeMomenta_145 : decode cX2_changeMomenta 145 = .ok (.getfield 9, 3) := by decide +kernel
theorem dX2_changeMomenta_148 : decode cX2_changeMomenta 148 = .ok (.iconst 3, 1) := by decide +kernel
theorem dX2_changeMomenta_149 : decode cX2_changeMomenta 149 = .ok (.iaload, 1) := by decide +kernel
theorem dX2_changeMomenta_150 : decode cX2_changeMomenta 150 = .ok (.aload_n 0, 1) := by decide +kernel
theorem dX2_changeMomenta_151 : decode cX2_changeMomenta 151 = .ok (.getfield 9, 3) := by decide +kernel
theorem dX2_changeMomenta_154 : decode cX2_changeMomenta 154 = .ok (.iconst 4, 1) := by decide +kernel
theorem dX2_changeMomenta_155 : decode cX2_changeMomenta 155 = .ok (.iaload, 1) := by decide +kernel
theorem dX2_changeMomenta_156 : decode cX2_changeMomenta 156 = .ok (.aload_n 0, 1) := by decide +kernel
theorem dX2_changeMomenta_157 : decode cX2_changeMomenta 157 = .ok (.getfield 35, 3) := by decide +kernel
theorem dX2_changeMomenta_160 : decode cX2_changeMomenta 160 = .ok (.iload_n 2, 1) := by decide +kernel
theorem dX2_changeMomenta_161 : decode cX2_changeMomenta 161 = .ok (.iaload, 1) := by decide +kernel
theorem dX2_changeMomenta_162 : decode cX2_changeMomenta 162 = .ok (.isub, 1) := by decide +kernel
theorem dX2_changeMomenta_163 : decode cX2_changeMomenta 163 = .ok (.imul, 1) := by decide +kernel
theorem dX2_changeMomenta_164 : decode cX2_changeMomenta 164 = .ok (.iload_n 2, 1) := by decide +kernel
theorem dX2_changeMomenta_165 : decode cX2_changeMomenta 165 = .ok (.invokestatic 78, 3) := by decide +kernel
theorem dX2_changeMomenta_168 : decode cX2_changeMomenta 168 = .ok (.imul, 1) := by decide +kernel
theorem dX2_changeMomenta_169 : decode cX2_changeMomenta 169 = .ok (.sipush 1000, 3) := by decide +kernel
theorem dX2_changeMomenta_172 : decode cX2_changeMomenta 172 = .ok (.idiv, 1) := by decide +kernel
theorem dX2_changeMomenta_173 : decode cX2_changeMomenta 173 = .ok (.iadd, 1) := by decide +kernel
theorem dX2_changeMomenta_174 : decode cX2_changeMomenta 174 = .ok (.iastore, 1) := by decide +kernel
theorem dX2_changeMomenta_175 : decode cX2_changeMomenta 175 = .ok (.iinc 2 1, 3) := by decide +kernel
theorem dX2_changeMomenta_178 : decode cX2_changeMomenta 178 = .ok (.goto (-49), 3) := by decide +kernel
theorem dX2_changeMomenta_181 : decode cX2_changeMomenta 181 = .ok (.return_, 1) := by decide +kernel
theorem dX2_carry_0 : decode cX2_carry 0 = .ok (.aload_n 0, 1) := by decide +kernel
theorem dX2_carry_1 : decode cX2_carry 1 = .ok (.getfield 26, 3) := by decide +kernel
theorem dX2_carry_4 : decode cX2_carry 4 = .ok (.iload_n 1, 1) := by decide +kernel
theorem dX2_carry_5 : decode cX2_carry 5 = .ok (.aaload, 1) := by decide +kernel
theorem dX2_carry_6 : decode cX2_carry 6 = .ok (.astore_n 2, 1) := by decide +kernel
theorem dX2_carry_7 : decode cX2_carry 7 = .ok (.aload_n 2, 1) := by decide +kernel
theorem dX2_carry_8 : decode cX2_carry 8 = .ok (.iconst 0, 1) := by decide +kernel
theorem dX2_carry_9 : decode cX2_carry 9 = .ok (.aload_n 0, 1) := by decide +kernel
theorem dX2_carry_10 : decode cX2_carry 10 = .ok (.getfield 41, 3) := by decide +kernel
theorem dX2_carry_13 : decode cX2_carry 13 = .ok (.iconst 0, 1) := by decide +kernel
theorem dX2_carry_14 : decode cX2_carry 14 = .ok (.aload_n 0, 1) := by decide +kernel
theorem dX2_carry_15 : decode cX2_carry 15 = .ok (.getfield 41, 3) := by decide +kernel
theorem dX2_carry_18 : decode cX2_carry 18 = .ok (.arraylength, 1) := by decide +kernel
theorem dX2_carry_19 : decode cX2_carry 19 = .ok (.invokestatic 62, 3) := by decide +kernel
theorem dX2_carry_22 : decode cX2_carry 22 = .ok (.iconst 0, 1) := by decide +kernel
theorem dX2_carry_23 : decode cX2_carry 23 = .ok (.istore_n 3, 1) := by decide +kernel
theorem dX2_carry_24 : decode cX2_carry 24 = .ok (.iload_n 3, 1) := by decide +kernel
theorem dX2_carry_25 : decode cX2_carry 25 = .ok (.aload_n 0, 1) := by decide +kernel
theorem dX2_carry_26 : decode cX2_carry 26 = .ok (.getfield 49, 3) := by decide +kernel
theorem dX2_carry_29 : decode cX2_carry 29 = .ok (.if_icmp .ge 82, 3) := by decide +kernel
theorem dX2_carry_32 : decode cX2_carry 32 = .ok (.aload_n 0, 1) := by decide +kernel
theorem dX2_carry_33 : decode cX2_carry 33 = .ok (.getfield 38, 3) := by decide +kernel
theorem dX2_carry_36 : decode cX2_carry 36 = .ok (.iload_n 3, 1) := by decide +kernel
theorem dX2_carry_37 : decode cX2_carry 37 = .ok (.iaload, 1) := by decide +kernel
theorem dX2_carry_38 : decode cX2_carry 38 = .ok (.ifCond .le 7, 3) := by decide +kernel
theorem dX2_carry_41 : decode cX2_carry 41 = .ok (.iconst 1, 1) := by decide +kernel
theorem dX2_carry_42 : decode cX2_carry 42 = .ok (.goto 4, 3) := by decide +kernel
theorem dX2_carry_45 : decode cX2_carry 45 = .ok (.iconst 0, 1) := by decide +kernel
theorem dX2_carry_46 : decode cX2_carry 46 = .ok (.istore 4, 2) := by decide +kernel
theorem dX2_carry_48 : decode cX2_carry 48 = .ok (.aload_n 0, 1) := by decide +kernel
theorem dX2_carry_49 : decode cX2_carry 49 = .ok (.getfield 38, 3) := by decide +kernel
theorem dX2_carry_52 : decode cX2_carry 52 = .ok (.iload_n 3, 1) := by decide +kernel
theorem dX2_carry_53 : decode cX2_carry 53 = .ok (.iaload, 1) := by decide +kernel
theorem dX2_carry_54 : decode cX2_carry 54 = .ok (.invokestatic 101, 3) := by decide +kernel
theorem dX2_carry_57 : decode cX2_carry 57 = .ok (.istore 5, 2) := by decide +kernel
theorem dX2_carry_59 : decode cX2_carry 59 = .ok (.aload_n 0, 1) := by decide +kernel
theorem dX2_carry_60 : decode cX2_carry 60 = .ok (.aload_n 2, 1) := by decide +kernel
theorem dX2_carry_61 : decode cX2_carry 61 = .ok (.iconst 1, 1) := by decide +kernel
theorem dX2_carry_62 : decode cX2_carry 62 = .ok (.iload_n 3, 1) := by decide +kernel
theorem dX2_carry_63 : decode cX2_carry 63 = .ok (.iload 4, 2) := by decide +kernel
theorem dX2_carry_65 : decode cX2_carry 65 = .ok (.ifCond .eq 9, 3) := by decide +kernel
theorem dX2_carry_68 : decode cX2_carry 68 = .ok (.iload_n 3, 1) := by decide +kernel
theorem dX2_carry_69 : decode cX2_carry 69 = .ok (.iconst 1, 1) := by decide +kernel
theorem dX2_carry_70 : decode cX2_carry 70 = .ok (.isub, 1) := by decide +kernel
theorem dX2_carry_71 : decode cX2_carry 71 = .ok (.goto 6, 3) := by decide +kernel
theorem dX2_carry_74 : decode cX2_carry 74 = .ok (.iload_n 3, 1) := by decide +kernel
theorem dX2_carry_75 : decode cX2_carry 75 = .ok (.iconst 1, 1) := by decide +kernel
theorem dX2_carry_76 : decode cX2_carry 76 = .ok (.iadd, 1) := by decide +kernel
theorem dX2_carry_77 : decode cX2_carry 77 = .ok (.iload 5, 2) := by decide +kernel
theorem dX2_carry_79 : decode cX2_carry 79 = .ok (.invokevirtual 139, 3) := by decide +kernel
theorem dX2_carry_82 : decode cX2_carry 82 = .ok (.aload_n 0, 1) := by decide +kernel
theorem dX2_carry_83 : decode cX2_carry 83 = .ok (.aload_n 2, 1) := by decide +kernel
theorem dX2_carry_84 : decode cX2_carry 84 = .ok (.iconst 0, 1) := by decide +kernel
theorem dX2_carry_85 : decode cX2_carry 85 = .ok (.iload_n 3, 1) := by decide +kernel
theorem dX2_carry_86 : decode cX2_carry 86 = .ok (.iload 4, 2) := by decide +kernel
theorem dX2_carry_88 : decode cX2_carry 88 = .ok (.ifCond .eq 9, 3) := by decide +kernel
theorem dX2_carry_91 : decode cX2_carry 91 = .ok (.iload_n 3, 1) := by decide +kernel
theorem dX2_carry_92 : decode cX2_carry 92 = .ok (.iconst 1, 1) := by decide +kernel
theorem dX2_carry_93 : decode cX2_carry 93 = .ok (.iadd, 1) := by decide +kernel
theorem dX2_carry_94 : decode cX2_carry 94 = .ok (.goto 6, 3) := by decide +kernel
theorem dX2_carry_97 : decode cX2_carry 97 = .ok (.iload_n 3, 1) := by decide +kernel
theorem dX2_carry_98 : decode cX2_carry 98 = .ok (.iconst 1, 1) := by decide +kernel
theorem dX2_carry_99 : decode cX2_carry 99 = .ok (.isub, 1) := by decide +kernel
theorem dX2_carry_100 : decode cX2_carry 100 = .ok (.iload 5, 2) := by decide +kernel
theorem dX2_carry_102 : decode cX2_carry 102 = .ok (.invokevirtual 139, 3) := by decide +kernel
theorem dX2_carry_105 : decode cX2_carry 105 = .ok (.iinc 3 1, 3) := by decide +kernel
theorem dX2_carry_108 : decode cX2_carry 108 = .ok (.goto (-84), 3) := by decide +kernel
theorem dX2_carry_111 : decode cX2_carry 111 = .ok (.aload_n 0, 1) := by decide +kernel
theorem dX2_carry_112 : decode cX2_carry 112 = .ok (.getfield 9, 3) := by decide +kernel
theorem dX2_carry_115 : decode cX2_carry 115 = .ok (.bipush 6, 2) := by decide +kernel
theorem dX2_carry_117 : decode cX2_carry 117 = .ok (.iaload, 1) := by decide +kernel
theorem dX2_carry_118 : decode cX2_carry 118 = .ok (.ifCond .le 8, 3) := by decide +kernel
theorem dX2_carry_121 : decode cX2_carry 121 = .ok (.aload_n 0, 1) := by decide +kernel
theorem dX2_carry_122 : decode cX2_carry 122 = .ok (.aload_n 2, 1) := by decide +kernel
theorem dX2_carry_123 : decode cX2_carry 123 = .ok (.invokevirtual 143, 3) := by decide +kernel
theorem dX2_carry_126 : decode cX2_carry 126 = .ok (.return_, 1) := by decide +kernel
theorem dX2_moveRow_0 : decode cX2_moveRow 0 = .ok (.iload 5, 2) := by decide +kernel
theorem dX2_moveRow_2 : decode cX2_moveRow 2 = .ok (.ifCond .eq 12, 3) := by decide +kernel
theorem dX2_moveRow_5 : decode cX2_moveRow 5 = .ok (.aload_n 0, 1) := by decide +kernel
theorem dX2_moveRow_6 : decode cX2_moveRow 6 = .ok (.iload 4, 2) := by decide +kernel
theorem dX2_moveRow_8 : decode cX2_moveRow 8 = .ok (.invokevirtual 147, 3) := by decide +kernel
theorem dX2_moveRow_11 : decode cX2_moveRow 11 = .ok (.ifCond .ne 4, 3) := by decide +kernel
theorem dX2_moveRow_14 : decode cX2_moveRow 14 = .ok (.return_, 1) := by decide +kernel
theorem dX2_moveRow_15 : decode cX2_moveRow 15 = .ok (.iload_n 2, 1) := by decide +kernel
theorem dX2_moveRow_16 : decode cX2_moveRow 16 = .ok (.iload_n 3, 1) := by decide +kernel
theorem dX2_moveRow_17 : decode cX2_moveRow 17 = .ok (.invokestatic 104, 3) := by decide +kernel
theorem dX2_moveRow_20 : decode cX2_moveRow 20 = .ok (.istore 6, 2) := by decide +kernel
theorem dX2_moveRow_22 : decode cX2_moveRow 22 = .ok (.iload_n 2, 1) := by decide +kernel
theorem dX2_moveRow_23 : decode cX2_moveRow 23 = .ok (.iload 4, 2) := by decide +kernel
theorem dX2_moveRow_25 : decode cX2_moveRow 25 = .ok (.invokestatic 104, 3) := by decide +kernel
theorem dX2_moveRow_28 : decode cX2_moveRow 28 = .ok (.istore 7, 2) := by decide +kernel
theorem dX2_moveRow_30 : decode cX2_moveRow 30 = .ok (.aload_n 0, 1) := by decide +kernel
theorem dX2_moveRow_31 : decode cX2_moveRow 31 = .ok (.getfield 18, 3) := by decide +kernel
theorem dX2_moveRow_34 : decode cX2_moveRow 34 = .ok (.iload_n 3, 1) := by decide +kernel
theorem dX2_moveRow_35 : decode cX2_moveRow 35 = .ok (.iaload, 1) := by decide +kernel
theorem dX2_moveRow_36 : decode cX2_moveRow 36 = .ok (.sipush 150, 3) := by decide +kernel
theorem dX2_moveRow_39 : decode cX2_moveRow 39 = .ok (.idiv, 1) := by decide +kernel
theorem dX2_moveRow_40 : decode cX2_moveRow 40 = .ok (.aload_n 0, 1) := by decide +kernel
theorem dX2_moveRow_41 : decode cX2_moveRow 41 = .ok (.getfield 18, 3) := by decide +kernel
theorem dX2_moveRow_44 : decode cX2_moveRow 44 = .ok (.iload 4, 2) := by decide +kernel
theorem dX2_moveRow_46 : decode cX2_moveRow 46 = .ok (.iaload, 1) := by decide +kernel
theorem dX2_moveRow_47 : decode cX2_moveRow 47 = .ok (.sipush 150, 3) := by decide +kernel
theorem dX2_moveRow_50 : decode cX2_moveRow 50 = .ok (.idiv, 1) := by decide +kernel
theorem dX2_moveRow_51 : decode cX2_moveRow 51 = .ok (.isub, 1) := by decide +kernel
theorem dX2_moveRow_52 : decode cX2_moveRow 52 = .ok (.bipush 24, 2) := by decide +kernel
theorem dX2_moveRow_54 : decode cX2_moveRow 54 = .ok (.invokestatic 107, 3) := by decide +kernel
theorem dX2_moveRow_57 : decode cX2_moveRow 57 = .ok (.istore 8, 2) := by decide +kernel
theorem dX2_moveRow_59 : decode cX2_moveRow 59 = .ok (.iconst 0, 1) := by decide +kernel
theorem dX2_moveRow_60 : decode cX2_moveRow 60 = .ok (.istore 9, 2) := by decide +kernel
theorem dX2_moveRow_62 : decode cX2_moveRow 62 = .ok (.iload 9, 2) := by decide +kernel
theorem dX2_moveRow_64 : decode cX2_moveRow 64 = .ok (.bipush 24, 2) := by decide +kernel
theorem dX2_moveRow_66 : decode cX2_moveRow 66 = .ok (.if_icmp .ge 81, 3) := by decide +kernel
theorem dX2_moveRow_69 : decode cX2_moveRow 69 = .ok (.aload_n 0, 1) := by decide +kernel
theorem dX2_moveRow_70 : decode cX2_moveRow 70 = .ok (.getfield 41, 3) := by decide +kernel
theorem dX2_moveRow_73 : decode cX2_moveRow 73 = .ok (.iload 6, 2) := by decide +kernel
theorem dX2_moveRow_75 : decode cX2_moveRow 75 = .ok (.iload 9, 2) := by decide +kernel
theorem dX2_moveRow_77 : decode cX2_moveRow 77 = .ok (.iadd, 1) := by decide +kernel
theorem dX2_moveRow_78 : decode cX2_moveRow 78 = .ok (.iaload, 1) := by decide +kernel
theorem dX2_moveRow_79 : decode cX2_moveRow 79 = .ok (.istore 10, 2) := by decide +kernel
theorem dX2_moveRow_81 : decode cX2_moveRow 81 = .ok (.iload 10, 2) := by decide +kernel
theorem dX2_moveRow_83 : decode cX2_moveRow 83 = .ok (.ifCond .le 41, 3) := by decide +kernel
theorem dX2_moveRow_86 : decode cX2_moveRow 86 = .ok (.iload 10, 2) := by decide +kernel
theorem dX2_moveRow_88 : decode cX2_moveRow 88 = .ok (.i2l, 1) := by decide +kernel
theorem dX2_moveRow_89 : decode cX2_moveRow 89 = .ok (.iload 5, 2) := by decide +kernel
theorem dX2_moveRow_91 : decode cX2_moveRow 91 = .ok (.i2l, 1) := by decide +kernel
theorem dX2_moveRow_92 : decode cX2_moveRow 92 = .ok (.lmul, 1) := by decide +kernel
theorem dX2_moveRow_93 : decode cX2_moveRow 93 = .ok (.ldc2_w 119, 3) := by decide +kernel
theorem dX2_moveRow_96 : decode cX2_moveRow 96 = .ok (.ldiv, 1) := by decide +kernel
theorem dX2_moveRow_97 : decode cX2_moveRow 97 = .ok (.l2i, 1) := by decide +kernel
theorem dX2_moveRow_98 : decode cX2_moveRow 98 = .ok (.istore 11, 2) := by decide +kernel
theorem dX2_moveRow_100 : decode cX2_moveRow 100 = .ok (.aload_n 1, 1) := by decide +kernel
theorem dX2_moveRow_101 : decode cX2_moveRow 101 = .ok (.iload 6, 2) := by decide +kernel
theorem dX2_moveRow_103 : decode cX2_moveRow 103 = .ok (.iload 9, 2) := by decide +kernel
theorem dX2_moveRow_105 : decode cX2_moveRow 105 = .ok (.iadd, 1) := by decide +kernel
theorem dX2_moveRow_106 : decode cX2_moveRow 106 = .ok (.dup2, 1) := by decide +kernel
theorem dX2_moveRow_107 : decode cX2_moveRow 107 = .ok (.iaload, 1) := by decide +kernel
theorem dX2_moveRow_108 : decode cX2_moveRow 108 = .ok (.iload 11, 2) := by decide +kernel
theorem dX2_moveRow_110 : decode cX2_moveRow 110 = .ok (.isub, 1) := by decide +kernel
theorem dX2_moveRow_111 : decode cX2_moveRow 111 = .ok (.iastore, 1) := by decide +kernel
theorem dX2_moveRow_112 : decode cX2_moveRow 112 = .ok (.aload_n 1, 1) := by decide +kernel
theorem dX2_moveRow_113 : decode cX2_moveRow 113 = .ok (.iload 7, 2) := by decide +kernel
theorem dX2_moveRow_115 : decode cX2_moveRow 115 = .ok (.iload 8, 2) := by decide +kernel
theorem dX2_moveRow_117 : decode cX2_moveRow 117 = .ok (.iadd, 1) := by decide +kernel
theorem dX2_moveRow_118 : decode cX2_moveRow 118 = .ok (.dup2, 1) := by decide +kernel
theorem dX2_moveRow_119 : decode cX2_moveRow 119 = .ok (.iaload, 1) := by decide +kernel
theorem dX2_moveRow_120 : decode cX2_moveRow 120 = .ok (.iload 11, 2) := by decide +kernel
theorem dX2_moveRow_122 : decode cX2_moveRow 122 = .ok (.iadd, 1) := by decide +kernel
theorem dX2_moveRow_123 : decode cX2_moveRow 123 = .ok (.iastore, 1) := by decide +kernel
theorem dX2_moveRow_124 : decode cX2_moveRow 124 = .ok (.iload 8, 2) := by decide +kernel
theorem dX2_moveRow_126 : decode cX2_moveRow 126 = .ok (.bipush 23, 2) := by decide +kernel
theorem dX2_moveRow_128 : decode cX2_moveRow 128 = .ok (.if_icmp .ge 10, 3) := by decide +kernel
theorem dX2_moveRow_131 : decode cX2_moveRow 131 = .ok (.iload 8, 2) := by decide +kernel
theorem dX2_moveRow_133 : decode cX2_moveRow 133 = .ok (.iconst 1, 1) := by decide +kernel
theorem dX2_moveRow_134 : decode cX2_moveRow 134 = .ok (.iadd, 1) := by decide +kernel
theorem dX2_moveRow_135 : decode cX2_moveRow 135 = .ok (.goto 4, 3) := by decide +kernel
theorem dX2_moveRow_138 : decode cX2_moveRow 138 = .ok (.iconst 0, 1) := by decide +kernel
theorem dX2_moveRow_139 : decode cX2_moveRow 139 = .ok (.istore 8, 2) := by decide +kernel
theorem dX2_moveRow_141 : decode cX2_moveRow 141 = .ok (.iinc 9 1, 3) := by decide +kernel
theorem dX2_moveRow_144 : decode cX2_moveRow 144 = .ok (.goto (-82), 3) := by decide +kernel
theorem dX2_moveRow_147 : decode cX2_moveRow 147 = .ok (.return_, 1) := by decide +kernel
theorem dX2_mixLayers_0 : decode cX2_mixLayers 0 = .ok (.iconst 1, 1) := by decide +kernel
theorem dX2_mixLayers_1 : decode cX2_mixLayers 1 = .ok (.iconst 0, 1) := by decide +kernel
theorem dX2_mixLayers_2 : decode cX2_mixLayers 2 = .ok (.invokestatic 104, 3) := by decide +kernel
theorem dX2_mixLayers_5 : decode cX2_mixLayers 5 = .ok (.istore_n 2, 1) := by decide +kernel
theorem dX2_mixLayers_6 : decode cX2_mixLayers 6 = .ok (.iconst 0, 1) := by decide +kernel
theorem dX2_mixLayers_7 : decode cX2_mixLayers 7 = .ok (.istore_n 3, 1) := by decide +kernel
theorem dX2_mixLayers_8 : decode cX2_mixLayers 8 = .ok (.iload_n 3, 1) := by decide +kernel
theorem dX2_mixLayers_9 : decode cX2_mixLayers 9 = .ok (.aload_n 0, 1) := by decide +kernel
theorem dX2_mixLayers_10 : decode cX2_mixLayers 10 = .ok (.getfield 49, 3) := by decide +kernel
theorem dX2_mixLayers_13 : decode cX2_mixLayers 13 = .ok (.bipush 24, 2) := by decide +kernel
theorem dX2_mixLayers_15 : decode cX2_mixLayers 15 = .ok (.imul, 1) := by decide +kernel
theorem dX2_mixLayers_16 : decode cX2_mixLayers 16 = .ok (.if_icmp .ge 63, 3) := by decide +kernel
theorem dX2_mixLayers_19 : decode cX2_mixLayers 19 = .ok (.aload_n 1, 1) := by decide +kernel
theorem dX2_mixLayers_20 : decode cX2_mixLayers 20 = .ok (.iload_n 3, 1) := by decide +kernel
theorem dX2_mixLayers_21 : decode cX2_mixLayers 21 = .ok (.iaload, 1) := by decide +kernel
theorem dX2_mixLayers_22 : decode cX2_mixLayers 22 = .ok (.aload_n 1, 1) := by decide +kernel
theorem dX2_mixLayers_23 : decode cX2_mixLayers 23 = .ok (.iload_n 2, 1) := by decide +kernel
theorem dX2_mixLayers_24 : decode cX2_mixLayers 24 = .ok (.iaload, 1) := by decide +kernel
theorem dX2_mixLayers_25 : decode cX2_mixLayers 25 = .ok (.isub, 1) := by decide +kernel
theorem dX2_mixLayers_26 : decode cX2_mixLayers 26 = .ok (.i2l, 1) := by decide +kernel
theorem dX2_mixLayers_27 : decode cX2_mixLayers 27 = .ok (.lstore 4, 2) := by decide +kernel
theorem dX2_mixLayers_29 : decode cX2_mixLayers 29 = .ok (.lload 4, 2) := by decide +kernel
theorem dX2_mixLayers_31 : decode cX2_mixLayers 31 = .ok (.lconst 0, 1) := by decide +kernel
theorem dX2_mixLayers_32 : decode cX2_mixLayers 32 = .ok (.lcmp, 1) := by decide +kernel
theorem dX2_mixLayers_33 : decode cX2_mixLayers 33 = .ok (.ifCond .eq 37, 3) := by decide +kernel
theorem dX2_mixLayers_36 : decode cX2_mixLayers 36 = .ok (.lload 4, 2) := by decide +kernel
theorem dX2_mixLayers_38 : decode cX2_mixLayers 38 = .ok (.aload_n 0, 1) := by decide +kernel
theorem dX2_mixLayers_39 : decode cX2_mixLayers 39 = .ok (.getfield 9, 3) := by decide +kernel
theorem dX2_mixLayers_42 : decode cX2_mixLayers 42 = .ok (.bipush 6, 2) := by decide +kernel
theorem dX2_mixLayers_44 : decode cX2_mixLayers 44 = .ok (.iaload, 1) := by decide +kernel
theorem dX2_mixLayers_45 : decode cX2_mixLayers 45 = .ok (.i2l, 1) := by decide +kernel
theorem dX2_mixLayers_46 : decode cX2_mixLayers 46 = .ok (.lmul, 1) := by decide +kernel
theorem dX2_mixLayers_47 : decode cX2_mixLayers 47 = .ok (.ldc2_w 151, 3) := by decide +kernel
theorem dX2_mixLayers_50 : decode cX2_mixLayers 50 = .ok (.ldiv, 1) := by decide +kernel
theorem dX2_mixLayers_51 : decode cX2_mixLayers 51 = .ok (.l2i, 1) := by decide +kernel
theorem dX2_mixLayers_52 : decode cX2_mixLayers 52 = .ok (.istore 6, 2) := by decide +kernel
theorem dX2_mixLayers_54 : decode cX2_mixLayers 54 = .ok (.aload_n 1, 1) := by decide +kernel
theorem dX2_mixLayers_55 : decode cX2_mixLayers 55 = .ok (.iload_n 3, 1) := by decide +kernel
theorem dX2_mixLayers_56 : decode cX2_mixLayers 56 = .ok (.dup2, 1) := by decide +kernel
theorem dX2_mixLayers_57 : decode cX2_mixLayers 57 = .ok (.iaload, 1) := by decide +kernel
theorem dX2_mixLayers_58 : decode cX2_mixLayers 58 = .ok (.iload 6, 2) := by decide +kernel
theorem dX2_mixLayers_60 : decode cX2_mixLayers 60 = .ok (.isub, 1) := by decide +kernel
theorem dX2_mixLayers_61 : decode cX2_mixLayers 61 = .ok (.iastore, 1) := by decide +kernel
theorem dX2_mixLayers_62 : decode cX2_mixLayers 62 = .ok (.aload_n 1, 1) := by decide +kernel
theorem dX2_mixLayers_63 : decode cX2_mixLayers 63 = .ok (.iload_n 2, 1) := by decide +kernel
theorem dX2_mixLayers_64 : decode cX2_mixLayers 64 = .ok (.dup2, 1) := by decide +kernel
theorem dX2_mixLayers_65 : decode cX2_mixLayers 65 = .ok (.iaload, 1) := by decide +kernel
theorem dX2_mixLayers_66 : decode cX2_mixLayers 66 = .ok (.iload 6, 2) := by decide +kernel
theorem dX2_mixLayers_68 : decode cX2_mixLayers 68 = .ok (.iadd, 1) := by decide +kernel
theorem dX2_mixLayers_69 : decode cX2_mixLayers 69 = .ok (.iastore, 1) := by decide +kernel
theorem dX2_mixLayers_70 : decode cX2_mixLayers 70 = .ok (.iinc 2 1, 3) := by decide +kernel
theorem dX2_mixLayers_73 : decode cX2_mixLayers 73 = .ok (.iinc 3 1, 3) := by decide +kernel
theorem dX2_mixLayers_76 : decode cX2_mixLayers 76 = .ok (.goto (-68), 3) := by decide +kernel
theorem dX2_mixLayers_79 : decode cX2_mixLayers 79 = .ok (.return_, 1) := by decide +kernel
theorem dX2_moveMarkers_0 : decode cX2_moveMarkers 0 = .ok (.iconst 0, 1) := by decide +kernel
theorem dX2_moveMarkers_1 : decode cX2_moveMarkers 1 = .ok (.istore_n 1, 1) := by decide +kernel
theorem dX2_moveMarkers_2 : decode cX2_moveMarkers 2 = .ok (.iload_n 1, 1) := by decide +kernel
theorem dX2_moveMarkers_3 : decode cX2_moveMarkers 3 = .ok (.aload_n 0, 1) := by decide +kernel
theorem dX2_moveMarkers_4 : decode cX2_moveMarkers 4 = .ok (.getfield 56, 3) := by decide +kernel
theorem dX2_moveMarkers_7 : decode cX2_moveMarkers 7 = .ok (.if_icmp .ge 49, 3) := by decide +kernel
theorem dX2_moveMarkers_10 : decode cX2_moveMarkers 10 = .ok (.aload_n 0, 1) := by decide +kernel
theorem dX2_moveMarkers_11 : decode cX2_moveMarkers 11 = .ok (.getfield 31, 3) := by decide +kernel
theorem dX2_moveMarkers_14 : decode cX2_moveMarkers 14 = .ok (.iload_n 1, 1) := by decide +kernel
theorem dX2_moveMarkers_15 : decode cX2_moveMarkers 15 = .ok (.aaload, 1) := by decide +kernel
theorem dX2_moveMarkers_16 : decode cX2_moveMarkers 16 = .ok (.astore_n 2, 1) := by decide +kernel
theorem dX2_moveMarkers_17 : decode cX2_moveMarkers 17 = .ok (.aload_n 2, 1) := by decide +kernel
theorem dX2_moveMarkers_18 : decode cX2_moveMarkers 18 = .ok (.invokevirtual 153, 3) := by decide +kernel
theorem dX2_moveMarkers_21 : decode cX2_moveMarkers 21 = .ok (.istore_n 3, 1) := by decide +kernel
theorem dX2_moveMarkers_22 : decode cX2_moveMarkers 22 = .ok (.aload_n 0, 1) := by decide +kernel
theorem dX2_moveMarkers_23 : decode cX2_moveMarkers 23 = .ok (.iload_n 3, 1) := by decide +kernel
theorem dX2_moveMarkers_24 : decode cX2_moveMarkers 24 = .ok (.invokevirtual 147, 3) := by decide +kernel
theorem dX2_moveMarkers_27 : decode cX2_moveMarkers 27 = .ok (.ifCond .eq 23, 3) := by decide +kernel
theorem dX2_moveMarkers_30 : decode cX2_moveMarkers 30 = .ok (.aload_n 2, 1) := by decide +kernel
theorem dX2_moveMarkers_31 : decode cX2_moveMarkers 31 = .ok (.aload_n 0, 1) := by decide +kernel
theorem dX2_moveMarkers_32 : decode cX2_moveMarkers 32 = .ok (.getfield 35, 3) := by decide +kernel
theorem dX2_moveMarkers_35 : decode cX2_moveMarkers 35 = .ok (.iload_n 3, 1) := by decide +kernel
theorem dX2_moveMarkers_36 : decode cX2_moveMarkers 36 = .ok (.iaload, 1) := by decide +kernel
theorem dX2_moveMarkers_37 : decode cX2_moveMarkers 37 = .ok (.aload_n 0, 1) := by decide +kernel
theorem dX2_moveMarkers_38 : decode cX2_moveMarkers 38 = .ok (.getfield 38, 3) := by decide +kernel
theorem dX2_moveMarkers_41 : decode cX2_moveMarkers 41 = .ok (.iload_n 3, 1) := by decide +kernel
theorem dX2_moveMarkers_42 : decode cX2_moveMarkers 42 = .ok (.iaload, 1) := by decide +kernel
theorem dX2_moveMarkers_43 : decode cX2_moveMarkers 43 = .ok (.aload_n 0, 1) := by decide +kernel
theorem dX2_moveMarkers_44 : decode cX2_moveMarkers 44 = .ok (.invokevirtual 157, 3) := by decide +kernel
theorem dX2_moveMarkers_47 : decode cX2_moveMarkers 47 = .ok (.invokevirtual 160, 3) := by decide +kernel
theorem dX2_moveMarkers_50 : decode cX2_moveMarkers 50 = .ok (.iinc 1 1, 3) := by decide +kernel
theorem dX2_moveMarkers_53 : decode cX2_moveMarkers 53 = .ok (.goto (-51), 3) := by decide +kernel
theorem dX2_moveMarkers_56 : decode cX2_moveMarkers 56 = .ok (.return_, 1) := by decide +kernel
theorem dX3_init_0 : decode cX3_init 0 = .ok (.aload_n 0, 1) := by decide +kernel
theorem dX3_init_1 : decode cX3_init 1 = .ok (.invokespecial 1, 3) := by decide +kernel
theorem dX3_init_4 : decode cX3_init 4 = .ok (.aload_n 0, 1) := by decide +kernel
theorem dX3_init_5 : decode cX3_init 5 = .ok (.new 7, 3) := by decide +kernel
theorem dX3_init_8 : decode cX3_init 8 = .ok (.dup, 1) := by decide +kernel
theorem dX3_init_9 : decode cX3_init 9 = .ok (.invokespecial 9, 3) := by decide +kernel
theorem dX3_init_12 : decode cX3_init 12 = .ok (.putfield 10, 3) := by decide +kernel
theorem dX3_init_15 : decode cX3_init 15 = .ok (.aload_n 0, 1) := by decide +kernel
theorem dX3_init_16 : decode cX3_init 16 = .ok (.new 7, 3) := by decide +kernel
theorem dX3_init_19 : decode cX3_init 19 = .ok (.dup, 1) := by decide +kernel
theorem dX3_init_20 : decode cX3_init 20 = .ok (.invokespecial 9, 3) := by decide +kernel
theorem dX3_init_23 : decode cX3_init 23 = .ok (.putfield 16, 3) := by decide +kernel
theorem dX3_init_26 : decode cX3_init 26 = .ok (.aload_n 0, 1) := by decide +kernel
theorem dX3_init_27 : decode cX3_init 27 = .ok (.iconst 2, 1) := by decide +kernel
theorem dX3_init_28 : decode cX3_init 28 = .ok (.anewarray 7, 3) := by decide +kernel
theorem dX3_init_31 : decode cX3_init 31 = .ok (.putfield 19, 3) := by decide +kernel
theorem dX3_init_34 : decode cX3_init 34 = .ok (.iconst 0, 1) := by decide +kernel
theorem dX3_init_35 : decode cX3_init 35 = .ok (.istore_n 1, 1) := by decide +kernel
theorem dX3_init_36 : decode cX3_init 36 = .ok (.iload_n 1, 1) := by decide +kernel
theorem dX3_init_37 : decode cX3_init 37 = .ok (.iconst 2, 1) := by decide +kernel
theorem dX3_init_38 : decode cX3_init 38 = .ok (.if_icmp .ge 22, 3) := by decide +kernel
theorem dX3_init_41 : decode cX3_init 41 = .ok (.aload_n 0, 1) := by decide +kernel
theorem dX3_init_42 : decode cX3_init 42 = .ok (.getfield 19, 3) := by decide +kernel
theorem dX3_init_45 : decode cX3_init 45 = .ok (.iload_n 1, 1) := by decide +kernel
theorem dX3_init_46 : decode cX3_init 46 = .ok (.new 7, 3) := by decide +kernel
theorem dX3_init_49 : decode cX3_init 49 = .ok (.dup, 1) := by decide +kernel
theorem dX3_init_50 : decode cX3_init 50 = .ok (.invokespecial 9, 3) := by decide +kernel
theorem dX3_init_53 : decode cX3_init 53 = .ok (.aastore, 1) := by decide +kernel
theorem dX3_init_54 : decode cX3_init 54 = .ok (.iinc 1 1, 3) := by decide +kernel
theorem dX3_init_57 : decode cX3_init 57 = .ok (.goto (-21), 3) := by decide +kernel
theorem dX3_init_60 : decode cX3_init 60 = .ok (.aload_n 0, 1) := by decide +kernel
theorem dX3_init_61 : decode cX3_init 61 = .ok (.iconst 2, 1) := by decide +kernel
theorem dX3_init_62 : decode cX3_init 62 = .ok (.newarray .boolean, 2) := by decide +kernel
theorem dX3_init_64 : decode cX3_init 64 = .ok (.putfield 23, 3) := by decide +kernel
theorem dX3_init_67 : decode cX3_init 67 = .ok (.aload_n 0, 1) := by decide +kernel
theorem dX3_init_68 : decode cX3_init 68 = .ok (.new 27, 3) := by decide +kernel
theorem dX3_init_71 : decode cX3_init 71 = .ok (.dup, 1) := by decide +kernel
theorem dX3_init_72 : decode cX3_init 72 = .ok (.invokespecial 29, 3) := by decide +kernel
theorem dX3_init_75 : decode cX3_init 75 = .ok (.putfield 30, 3) := by decide +kernel
theorem dX3_init_78 : decode cX3_init 78 = .ok (.return_, 1) := by decide +kernel
theorem dX3_setUp_0 : decode cX3_setUp 0 = .ok (.iload_n 1, 1) := by decide +kernel
theorem dX3_setUp_1 : decode cX3_setUp 1 = .ok (.iconst 2, 1) := by decide +kernel
theorem dX3_setUp_2 : decode cX3_setUp 2 = .ok (.bipush 12, 2) := by decide +kernel
theorem dX3_setUp_4 : decode cX3_setUp 4 = .ok (.invokestatic 34, 3) := by decide +kernel
theorem dX3_setUp_7 : decode cX3_setUp 7 = .ok (.ifCond .ne 6, 3) := by decide +kernel
theorem dX3_setUp_10 : decode cX3_setUp 10 = .ok (.bipush (-2), 2) := by decide +kernel
theorem dX3_setUp_12 : decode cX3_setUp 12 = .ok (.ireturn, 1) := by decide +kernel
theorem dX3_setUp_13 : decode cX3_setUp 13 = .ok (.aload_n 0, 1) := by decide +kernel
theorem dX3_setUp_14 : decode cX3_setUp 14 = .ok (.getfield 10, 3) := by decide +kernel
theorem dX3_setUp_17 : decode cX3_setUp 17 = .ok (.getfield 38, 3) := by decide +kernel
theorem dX3_setUp_20 : decode cX3_setUp 20 = .ok (.istore_n 2, 1) := by decide +kernel
theorem dX3_setUp_21 : decode cX3_setUp 21 = .ok (.aload_n 0, 1) := by decide +kernel
theorem dX3_setUp_22 : decode cX3_setUp 22 = .ok (.getfield 10, 3) := by decide +kernel
theorem dX3_setUp_25 : decode cX3_setUp 25 = .ok (.iload_n 1, 1) := by decide +kernel
theorem dX3_setUp_26 : decode cX3_setUp 26 = .ok (.invokevirtual 42, 3) := by decide +kernel
theorem dX3_setUp_29 : decode cX3_setUp 29 = .ok (.iload_n 2, 1) := by decide +kernel
theorem dX3_setUp_30 : decode cX3_setUp 30 = .ok (.ireturn, 1) := by decide +kernel
theorem dX3_set_0 : decode cX3_set 0 = .ok (.iload_n 1, 1) := by decide +kernel
theorem dX3_set_1 : decode cX3_set 1 = .ok (.iconst 0, 1) := by decide +kernel
theorem dX3_set_2 : decode cX3_set 2 = .ok (.bipush 6, 2) := by decide +kernel
theorem dX3_set_4 : decode cX3_set 4 = .ok (.invokestatic 34, 3) := by decide +kernel
theorem dX3_set_7 : decode cX3_set 7 = .ok (.ifCond .eq 20, 3) := by decide +kernel
theorem dX3_set_10 : decode cX3_set 10 = .ok (.iload_n 2, 1) := by decide +kernel
theorem dX3_set_11 : decode cX3_set 11 = .ok (.getstatic 46, 3) := by decide +kernel
theorem dX3_set_14 : decode cX3_set 14 = .ok (.iload_n 1, 1) := by decide +kernel
theorem dX3_set_15 : decode cX3_set 15 = .ok (.iaload, 1) := by decide +kernel
theorem dX3_set_16 : decode cX3_set 16 = .ok (.getstatic 50, 3) := by decide +kernel
theorem dX3_set_19 : decode cX3_set 19 = .ok (.iload_n 1, 1) := by decide +kernel
theorem dX3_set_20 : decode cX3_set 20 = .ok (.iaload, 1) := by decide +kernel
theorem dX3_set_21 : decode cX3_set 21 = .ok (.invokestatic 34, 3) := by decide +kernel
theorem dX3_set_24 : decode cX3_set 24 = .ok (.ifCond .ne 6, 3) := by decide +kernel
theorem dX3_set_27 : decode cX3_set 27 = .ok (.ldc 53, 2) := by decide +kernel
theorem dX3_set_29 : decode cX3_set 29 = .ok (.ireturn, 1) := by decide +kernel
theorem dX3_set_30 : decode cX3_set 30 = .ok (.aload_n 0, 1) := by decide +kernel
theorem dX3_set_31 : decode cX3_set 31 = .ok (.getfield 10, 3) := by decide +kernel
theorem dX3_set_34 : decode cX3_set 34 = .ok (.getfield 54, 3) := by decide +kernel
theorem dX3_set_37 : decode cX3_set 37 = .ok (.iload_n 1, 1) := by decide +kernel
theorem dX3_set_38 : decode cX3_set 38 = .ok (.iaload, 1) := by decide +kernel
theorem dX3_set_39 : decode cX3_set 39 = .ok (.istore_n 3, 1) := by decide +kernel
theorem dX3_set_40 : decode cX3_set 40 = .ok (.aload_n 0, 1) := by decide +kernel
theorem dX3_set_41 : decode cX3_set 41 = .ok (.getfield 10, 3) := by decide +kernel
theorem dX3_set_44 : decode cX3_set 44 = .ok (.getfield 54, 3) := by decide +kernel
theorem dX3_set_47 : decode cX3_set 47 = .ok (.iload_n 1, 1) := by decide +kernel
theorem dX3_set_48 : decode cX3_set 48 = .ok (.iload_n 2, 1) := by decide +kernel
theorem dX3_set_49 : decode cX3_set 49 = .ok (.iastore, 1) := by decide +kernel
theorem dX3_set_50 : decode cX3_set 50 = .ok (.iload_n 3, 1) := by decide +kernel
theorem dX3_set_51 : decode cX3_set 51 = .ok (.ireturn, 1) := by decide +kernel
theorem dX3_spin_0 : decode cX3_spin 0 = .ok (.aload_n 0, 1) := by decide +kernel
theorem dX3_spin_1 : decode cX3_spin 1 = .ok (.getfield 10, 3) := by decide +kernel
theorem dX3_spin_4 : decode cX3_spin 4 = .ok (.iload_n 1, 1) := by decide +kernel
theorem dX3_spin_5 : decode cX3_spin 5 = .ok (.invokevirtual 57, 3) := by decide +kernel
theorem dX3_spin_8 : decode cX3_spin 8 = .ok (.ifCond .ne 6, 3) := by decide +kernel
theorem dX3_spin_11 : decode cX3_spin 11 = .ok (.ldc 61, 2) := by decide +kernel
theorem dX3_spin_13 : decode cX3_spin 13 = .ok (.ireturn, 1) := by decide +kernel
theorem dX3_spin_14 : decode cX3_spin 14 = .ok (.iload_n 2, 1) := by decide +kernel
theorem dX3_spin_15 : decode cX3_spin 15 = .ok (.invokestatic 62, 3) := by decide +kernel
theorem dX3_spin_18 : decode cX3_spin 18 = .ok (.ifCond .ne 6, 3) := by decide +kernel
theorem dX3_spin_21 : decode cX3_spin 21 = .ok (.ldc 53, 2) := by decide +kernel
theorem dX3_spin_23 : decode cX3_spin 23 = .ok (.ireturn, 1) := by decide +kernel
theorem dX3_spin_24 : decode cX3_spin 24 = .ok (.aload_n 0, 1) := by decide +kernel
theorem dX3_spin_25 : decode cX3_spin 25 = .ok (.getfield 10, 3) := by decide +kernel
theorem dX3_spin_28 : decode cX3_spin 28 = .ok (.iload_n 1, 1) := by decide +kernel
theorem dX3_spin_29 : decode cX3_spin 29 = .ok (.invokevirtual 65, 3) := by decide +kernel
theorem dX3_spin_32 : decode cX3_spin 32 = .ok (.istore_n 3, 1) := by decide +kernel
theorem dX3_spin_33 : decode cX3_spin 33 = .ok (.aload_n 0, 1) := by decide +kernel
theorem dX3_spin_34 : decode cX3_spin 34 = .ok (.getfield 10, 3) := by decide +kernel
theorem dX3_spin_37 : decode cX3_spin 37 = .ok (.iload_n 1, 1) := by decide +kernel
theorem dX3_spin_38 : decode cX3_spin 38 = .ok (.iload_n 2, 1) := by decide +kernel
theorem dX3_spin_39 : decode cX3_spin 39 = .ok (.invokevirtual 69, 3) := by decide +kernel
theorem dX3_spin_42 : decode cX3_spin 42 = .ok (.iload_n 3, 1) := by decide +kernel
theorem dX3_spin_43 : decode cX3_spin 43 = .ok (.ireturn, 1) := by decide +kernel
theorem dX3_spinAll_0 : decode cX3_spinAll 0 = .ok (.iload_n 1, 1) := by decide +kernel
theorem dX3_spinAll_1 : decode cX3_spinAll 1 = .ok (.invokestatic 62, 3) := by decide +kernel
theorem dX3_spinAll_4 : decode cX3_spinAll 4 = .ok (.ifCond .eq 10, 3) := by decide +kernel
theorem dX3_spinAll_7 : decode cX3_spinAll 7 = .ok (.iload_n 2, 1) := by decide +kernel
theorem dX3_spinAll_8 : decode cX3_spinAll 8 = .ok (.invokestatic 62, 3) := by decide +kernel
theorem dX3_spinAll_11 : decode cX3_spinAll 11 = .ok (.ifCond .ne 6, 3) := by decide +kernel
theorem dX3_spinAll_14 : decode cX3_spinAll 14 = .ok (.ldc 53, 2) := by decide +kernel
theorem dX3_spinAll_16 : decode cX3_spinAll 16 = .ok (.ireturn, 1) := by decide +kernel
theorem dX3_spinAll_17 : decode cX3_spinAll 17 = .ok (.aload_n 0, 1) := by decide +kernel
theorem dX3_spinAll_18 : decode cX3_spinAll 18 = .ok (.getfield 10, 3) := by decide +kernel
theorem dX3_spinAll_21 : decode cX3_spinAll 21 = .ok (.iload_n 1, 1) := by decide +kernel
theorem dX3_spinAll_22 : decode cX3_spinAll 22 = .ok (.iload_n 2, 1) := by decide +kernel
theorem dX3_spinAll_23 : decode cX3_spinAll 23 = .ok (.invokevirtual 73, 3) := by decide +kernel
theorem dX3_spinAll_26 : decode cX3_spinAll 26 = .ok (.aload_n 0, 1) := by decide +kernel
theorem dX3_spinAll_27 : decode cX3_spinAll 27 = .ok (.getfield 10, 3) := by decide +kernel
theorem dX3_spinAll_30 : decode cX3_spinAll 30 = .ok (.invokevirtual 76, 3) := by decide +kernel
theorem dX3_spinAll_33 : decode cX3_spinAll 33 = .ok (.ireturn, 1) := by decide +kernel
theorem dX3_pour_0 : decode cX3_pour 0 = .ok (.aload_n 0, 1) := by decide +kernel
theorem dX3_pour_1 : decode cX3_pour 1 = .ok (.iload_n 1, 1) := by decide +kernel
theorem dX3_pour_2 : decode cX3_pour 2 = .ok (.iload_n 2, 1) := by decide +kernel
theorem dX3_pour_3 : decode cX3_pour 3 = .ok (.iload_n 3, 1) := by decide +kernel
theorem dX3_pour_4 : decode cX3_pour 4 = .ok (.iload 4, 2) := by decide +kernel
theorem dX3_pour_6 : decode cX3_pour 6 = .ok (.invokevirtual 80, 3) := by decide +kernel
theorem dX3_pour_9 : decode cX3_pour 9 = .ok (.ifCond .ne 5, 3) := by decide +kernel
theorem dX3_pour_12 : decode cX3_pour 12 = .ok (.iconst (-1), 1) := by decide +kernel
theorem dX3_pour_13 : decode cX3_pour 13 = .ok (.ireturn, 1) := by decide +kernel
theorem dX3_pour_14 : decode cX3_pour 14 = .ok (.iload 5, 2) := by decide +kernel
theorem dX3_pour_16 : decode cX3_pour 16 = .ok (.iconst 1, 1) := by decide +kernel
theorem dX3_pour_17 : decode cX3_pour 17 = .ok (.ldc 84, 2) := by decide +kernel
theorem dX3_pour_19 : decode cX3_pour 19 = .ok (.invokestatic 34, 3) := by decide +kernel
theorem dX3_pour_22 : decode cX3_pour 22 = .ok (.ifCond .ne 6, 3) := by decide +kernel
theorem dX3_pour_25 : decode cX3_pour 25 = .ok (.bipush (-2), 2) := by decide +kernel
theorem dX3_pour_27 : decode cX3_pour 27 = .ok (.ireturn, 1) := by decide +kernel
theorem dX3_pour_28 : decode cX3_pour 28 = .ok (.iload 5, 2) := by decide +kernel
theorem dX3_pour_30 : decode cX3_pour 30 = .ok (.ldc 85, 2) := by decide +kernel
theorem dX3_pour_32 : decode cX3_pour 32 = .ok (.aload_n 0, 1) := by decide +kernel
theorem dX3_pour_33 : decode cX3_pour 33 = .ok (.getfield 10, 3) := by decide +kernel
theorem dX3_pour_36 : decode cX3_pour 36 = .ok (.getfield 86, 3) := by decide +kernel
theorem dX3_pour_39 : decode cX3_pour 39 = .ok (.iload_n 1, 1) := by decide +kernel
theorem dX3_pour_40 : decode cX3_pour 40 = .ok (.iaload, 1) := by decide +kernel
theorem dX3_pour_41 : decode cX3_pour 41 = .ok (.isub, 1) := by decide +kernel
theorem dX3_pour_42 : decode cX3_pour 42 = .ok (.if_icmp .le 6, 3) := by decide +kernel
theorem dX3_pour_45 : decode cX3_pour 45 = .ok (.bipush (-4), 2) := by decide +kernel
theorem dX3_pour_47 : decode cX3_pour 47 = .ok (.ireturn, 1) := by decide +kernel
theorem dX3_pour_48 : decode cX3_pour 48 = .ok (.aload_n 0, 1) := by decide +kernel
theorem dX3_pour_49 : decode cX3_pour 49 = .ok (.getfield 10, 3) := by decide +kernel
theorem dX3_pour_52 : decode cX3_pour 52 = .ok (.getfield 89, 3) := by decide +kernel
theorem dX3_pour_55 : decode cX3_pour 55 = .ok (.iload_n 1, 1) := by decide +kernel
theorem dX3_pour_56 : decode cX3_pour 56 = .ok (.aaload, 1) := by decide +kernel
theorem dX3_pour_57 : decode cX3_pour 57 = .ok (.aload_n 0, 1) := by decide +kernel
theorem dX3_pour_58 : decode cX3_pour 58 = .ok (.getfield 10, 3) := by decide +kernel
theorem dX3_pour_61 : decode cX3_pour 61 = .ok (.iload_n 2, 1) := by decide +kernel
theorem dX3_pour_62 : decode cX3_pour 62 = .ok (.iload_n 3, 1) := by decide +kernel
theorem dX3_pour_63 : decode cX3_pour 63 = .ok (.iload 4, 2) := by decide +kernel
theorem dX3_pour_65 : decode cX3_pour 65 = .ok (.invokevirtual 93, 3) := by decide +kernel
theorem dX3_pour_68 : decode cX3_pour 68 = .ok (.dup2, 1) := by decide +kernel
theorem dX3_pour_69 : decode cX3_pour 69 = .ok (.iaload, 1) := by decide +kernel
theorem dX3_pour_70 : decode cX3_pour 70 = .ok (.iload 5, 2) := by decide +kernel
theorem dX3_pour_72 : decode cX3_pour 72 = .ok (.iadd, 1) := by decide +kernel
theorem dX3_pour_73 : decode cX3_pour 73 = .ok (.iastore, 1) := by decide +kernel
theorem dX3_pour_74 : decode cX3_pour 74 = .ok (.aload_n 0, 1) := by decide +kernel
theorem dX3_pour_75 : decode cX3_pour 75 = .ok (.getfield 10, 3) := by decide +kernel
theorem dX3_pour_78 : decode cX3_pour 78 = .ok (.getfield 86, 3) := by decide +kernel
theorem dX3_pour_81 : decode cX3_pour 81 = .ok (.iload_n 1, 1) := by decide +kernel
theorem dX3_pour_82 : decode cX3_pour 82 = .ok (.dup2, 1) := by decide +kernel
theorem dX3_pour_83 : decode cX3_pour 83 = .ok (.iaload, 1) := by decide +kernel
theorem dX3_pour_84 : decode cX3_pour 84 = .ok (.iload 5, 2) := by decide +kernel
theorem dX3_pour_86 : decode cX3_pour 86 = .ok (.iadd, 1) := by decide +kernel
theorem dX3_pour_87 : decode cX3_pour 87 = .ok (.iastore, 1) := by decide +kernel
theorem dX3_pour_88 : decode cX3_pour 88 = .ok (.aload_n 0, 1) := by decide +kernel
theorem dX3_pour_89 : decode cX3_pour 89 = .ok (.getfield 10, 3) := by decide +kernel
theorem dX3_pour_92 : decode cX3_pour 92 = .ok (.getfield 86, 3) := by decide +kernel
theorem dX3_pour_95 : decode cX3_pour 95 = .ok (.iload_n 1, 1) := by decide +kernel
theorem dX3_pour_96 : decode cX3_pour 96 = .ok (.iaload, 1) := by decide +kernel
theorem dX3_pour_97 : decode cX3_pour 97 = .ok (.ireturn, 1) := by decide +kernel
theorem dX3_tick_0 : decode cX3_tick 0 = .ok (.iload_n 1, 1) := by decide +kernel
theorem dX3_tick_1 : decode cX3_tick 1 = .ok (.iconst 1, 1) := by decide +kernel
theorem dX3_tick_2 : decode cX3_tick 2 = .ok (.sipush 1000, 3) := by decide +kernel
theorem dX3_tick_5 : decode cX3_tick 5 = .ok (.invokestatic 34, 3) := by decide +kernel
theorem dX3_tick_8 : decode cX3_tick 8 = .ok (.ifCond .ne 6, 3) := by decide +kernel
theorem dX3_tick_11 : decode cX3_tick 11 = .ok (.bipush (-2), 2) := by decide +kernel
theorem dX3_tick_13 : decode cX3_tick 13 = .ok (.ireturn, 1) := by decide +kernel
theorem dX3_tick_14 : decode cX3_tick 14 = .ok (.iload_n 1, 1) := by decide +kernel
theorem dX3_tick_15 : decode cX3_tick 15 = .ok (.ldc 97, 2) := by decide +kernel
theorem dX3_tick_17 : decode cX3_tick 17 = .ok (.aload_n 0, 1) := by decide +kernel
theorem dX3_tick_18 : decode cX3_tick 18 = .ok (.getfield 10, 3) := by decide +kernel
theorem dX3_tick_21 : decode cX3_tick 21 = .ok (.getfield 98, 3) := by decide +kernel
theorem dX3_tick_24 : decode cX3_tick 24 = .ok (.isub, 1) := by decide +kernel
theorem dX3_tick_25 : decode cX3_tick 25 = .ok (.if_icmp .le 6, 3) := by decide +kernel
theorem dX3_tick_28 : decode cX3_tick 28 = .ok (.bipush (-5), 2) := by decide +kernel
theorem dX3_tick_30 : decode cX3_tick 30 = .ok (.ireturn, 1) := by decide +kernel
theorem dX3_tick_31 : decode cX3_tick 31 = .ok (.iconst 0, 1) := by decide +kernel
theorem dX3_tick_32 : decode cX3_tick 32 = .ok (.istore_n 2, 1) := by decide +kernel
theorem dX3_tick_33 : decode cX3_tick 33 = .ok (.iload_n 2, 1) := by decide +kernel
theorem dX3_tick_34 : decode cX3_tick 34 = .ok (.iload_n 1, 1) := by decide +kernel
theorem dX3_tick_35 : decode cX3_tick 35 = .ok (.if_icmp .ge 16, 3) := by decide +kernel
theorem dX3_tick_38 : decode cX3_tick 38 = .ok (.aload_n 0, 1) := by decide +kernel
theorem dX3_tick_39 : decode cX3_tick 39 = .ok (.getfield 10, 3) := by decide +kernel
theorem dX3_tick_42 : decode cX3_tick 42 = .ok (.invokevirtual 101, 3) := by decide +kernel
theorem dX3_tick_45 : decode cX3_tick 45 = .ok (.iinc 2 1, 3) := by decide +kernel
theorem dX3_tick_48 : decode cX3_tick 48 = .ok (.goto (-15), 3) := by decide +kernel
theorem dX3_tick_51 : decode cX3_tick 51 = .ok (.aload_n 0, 1) := by decide +kernel
theorem dX3_tick_52 : decode cX3_tick 52 = .ok (.getfield 10, 3) := by decide +kernel
theorem dX3_tick_55 : decode cX3_tick 55 = .ok (.getfield 98, 3) := by decide +kernel
theorem dX3_tick_58 : decode cX3_tick 58 = .ok (.ireturn, 1) := by decide +kernel
theorem dX3_ring_0 : decode cX3_ring 0 = .ok (.aload_n 0, 1) := by decide +kernel
theorem dX3_ring_1 : decode cX3_ring 1 = .ok (.getfield 10, 3) := by decide +kernel
theorem dX3_ring_4 : decode cX3_ring 4 = .ok (.iload_n 1, 1) := by decide +kernel
theorem dX3_ring_5 : decode cX3_ring 5 = .ok (.invokevirtual 57, 3) := by decide +kernel
theorem dX3_ring_8 : decode cX3_ring 8 = .ok (.ifCond .ne 6, 3) := by decide +kernel
theorem dX3_ring_11 : decode cX3_ring 11 = .ok (.ldc 61, 2) := by decide +kernel
theorem dX3_ring_13 : decode cX3_ring 13 = .ok (.ireturn, 1) := by decide +kernel
theorem dX3_ring_14 : decode cX3_ring 14 = .ok (.iload_n 2, 1) := by decide +kernel
theorem dX3_ring_15 : decode cX3_ring 15 = .ok (.tableswitch 109 0 6 #[41, 50, 60, 70, 79, 89, 99], 41) := by decide +kernel
theorem dX3_ring_56 : decode cX3_ring 56 = .ok (.aload_n 0, 1) := by decide +kernel
theorem dX3_ring_57 : decode cX3_ring 57 = .ok (.getfield 10, 3) := by decide +kernel
theorem dX3_ring_60 : decode cX3_ring 60 = .ok (.iload_n 1, 1) := by decide +kernel
theorem dX3_ring_61 : decode cX3_ring 61 = .ok (.invokevirtual 65, 3) := by decide +kernel
theorem dX3_ring_64 : decode cX3_ring 64 = .ok (.ireturn, 1) := by decide +kernel
theorem dX3_ring_65 : decode cX3_ring 65 = .ok (.aload_n 0, 1) := by decide +kernel
theorem dX3_ring_66 : decode cX3_ring 66 = .ok (.getfield 10, 3) := by decide +kernel
theorem dX3_ring_69 : decode cX3_ring 69 = .ok (.getfield 104, 3) := by decide +kernel
theorem dX3_ring_72 : decode cX3_ring 72 = .ok (.iload_n 1, 1) := by decide +kernel
theorem dX3_ring_73 : decode cX3_ring 73 = .ok (.iaload, 1) := by decide +kernel
theorem dX3_ring_74 : decode cX3_ring 74 = .ok (.ireturn, 1) := by decide +kernel
theorem dX3_ring_75 : decode cX3_ring 75 = .ok (.aload_n 0, 1) := by decide +kernel
theorem dX3_ring_76 : decode cX3_ring 76 = .ok (.getfield 10, 3) := by decide +kernel
theorem dX3_ring_79 : decode cX3_ring 79 = .ok (.getfield 107, 3) := by decide +kernel
theorem dX3_ring_82 : decode cX3_ring 82 = .ok (.iload_n 1, 1) := by decide +kernel
theorem dX3_ring_83 : decode cX3_ring 83 = .ok (.iaload, 1) := by decide +kernel
theorem dX3_ring_84 : decode cX3_ring 84 = .ok (.ireturn, 1) := by decide +kernel
theorem dX3_ring_85 : decode cX3_ring 85 = .ok (.aload_n 0, 1) := by decide +kernel
theorem dX3_ring_86 : decode cX3_ring 86 = .ok (.getfield 10, 3) := by decide +kernel
theorem dX3_ring_89 : decode cX3_ring 89 = .ok (.iload_n 1, 1) := by decide +kernel
theorem dX3_ring_90 : decode cX3_ring 90 = .ok (.invokevirtual 110, 3) := by decide +kernel
theorem dX3_ring_93 : decode cX3_ring 93 = .ok (.ireturn, 1) := by decide +kernel
theorem dX3_ring_94 : decode cX3_ring 94 = .ok (.aload_n 0, 1) := by decide +kernel
theorem dX3_ring_95 : decode cX3_ring 95 = .ok (.getfield 10, 3) := by decide +kernel
theorem dX3_ring_98 : decode cX3_ring 98 = .ok (.iconst 0, 1) := by decide +kernel
theorem dX3_ring_99 : decode cX3_ring 99 = .ok (.iload_n 1, 1) := by decide +kernel
theorem dX3_ring_100 : decode cX3_ring 100 = .ok (.invokevirtual 113, 3) := by decide +kernel
theorem dX3_ring_103 : decode cX3_ring 103 = .ok (.ireturn, 1) := by decide +kernel
theorem dX3_ring_104 : decode cX3_ring 104 = .ok (.aload_n 0, 1) := by decide +kernel
theorem dX3_ring_105 : decode cX3_ring 105 = .ok (.getfield 10, 3) := by decide +kernel
theorem dX3_ring_108 : decode cX3_ring 108 = .ok (.iconst 1, 1) := by decide +kernel
theorem dX3_ring_109 : decode cX3_ring 109 = .ok (.iload_n 1, 1) := by decide +kernel
theorem dX3_ring_110 : decode cX3_ring 110 = .ok (.invokevirtual 113, 3) := by decide +kernel
theorem dX3_ring_113 : decode cX3_ring 113 = .ok (.ireturn, 1) := by decide +kernel
theorem dX3_ring_114 : decode cX3_ring 114 = .ok (.aload_n 0, 1) := by decide +kernel
theorem dX3_ring_115 : decode cX3_ring 115 = .ok (.getfield 10, 3) := by decide +kernel
theorem dX3_ring_118 : decode cX3_ring 118 = .ok (.iconst 2, 1) := by decide +kernel
theorem dX3_ring_119 : decode cX3_ring 119 = .ok (.iload_n 1, 1) := by decide +kernel
theorem dX3_ring_120 : decode cX3_ring 120 = .ok (.invokevirtual 113, 3) := by decide +kernel
theorem dX3_ring_123 : decode cX3_ring 123 = .ok (.ireturn, 1) := by decide +kernel
theorem dX3_ring_124 : decode cX3_ring 124 = .ok (.ldc 53, 2) := by decide +kernel
theorem dX3_ring_126 : decode cX3_ring 126 = .ok (.ireturn, 1) := by decide +kernel
theorem dX3_dye_0 : decode cX3_dye 0 = .ok (.aload_n 0, 1) := by decide +kernel
theorem dX3_dye_1 : decode cX3_dye 1 = .ok (.iload_n 1, 1) := by decide +kernel
theorem dX3_dye_2 : decode cX3_dye 2 = .ok (.iload_n 2, 1) := by decide +kernel
theorem dX3_dye_3 : decode cX3_dye 3 = .ok (.iload_n 3, 1) := by decide +kernel
theorem dX3_dye_4 : decode cX3_dye 4 = .ok (.iload 4, 2) := by decide +kernel
theorem dX3_dye_6 : decode cX3_dye 6 = .ok (.invokevirtual 80, 3) := by decide +kernel
theorem dX3_dye_9 : decode cX3_dye 9 = .ok (.ifCond .ne 5, 3) := by decide +kernel
theorem dX3_dye_12 : decode cX3_dye 12 = .ok (.iconst (-1), 1) := by decide +kernel
theorem dX3_dye_13 : decode cX3_dye 13 = .ok (.ireturn, 1) := by decide +kernel
theorem dX3_dye_14 : decode cX3_dye 14 = .ok (.aload_n 0, 1) := by decide +kernel
theorem dX3_dye_15 : decode cX3_dye 15 = .ok (.getfield 10, 3) := by decide +kernel
theorem dX3_dye_18 : decode cX3_dye 18 = .ok (.getfield 89, 3) := by decide +kernel
theorem dX3_dye_21 : decode cX3_dye 21 = .ok (.iload_n 1, 1) := by decide +kernel
theorem dX3_dye_22 : decode cX3_dye 22 = .ok (.aaload, 1) := by decide +kernel
theorem dX3_dye_23 : decode cX3_dye 23 = .ok (.aload_n 0, 1) := by decide +kernel
theorem dX3_dye_24 : decode cX3_dye 24 = .ok (.getfield 10, 3) := by decide +kernel
theorem dX3_dye_27 : decode cX3_dye 27 = .ok (.iload_n 2, 1) := by decide +kernel
theorem dX3_dye_28 : decode cX3_dye 28 = .ok (.iload_n 3, 1) := by decide +kernel
theorem dX3_dye_29 : decode cX3_dye 29 = .ok (.iload 4, 2) := by decide +kernel
theorem dX3_dye_31 : decode cX3_dye 31 = .ok (.invokevirtual 93, 3) := by decide +kernel
theorem dX3_dye_34 : decode cX3_dye 34 = .ok (.iaload, 1) := by decide +kernel
theorem dX3_dye_35 : decode cX3_dye 35 = .ok (.ireturn, 1) := by decide +kernel
theorem dX3_colour_0 : decode cX3_colour 0 = .ok (.iload_n 1, 1) := by decide +kernel
theorem dX3_colour_1 : decode cX3_colour 1 = .ok (.invokestatic 117, 3) := by decide +kernel
theorem dX3_colour_4 : decode cX3_colour 4 = .ok (.ifCond .ne 7, 3) := by decide +kernel
theorem dX3_colour_7 : decode cX3_colour 7 = .ok (.ldc2_w 120, 3) := by decide +kernel
theorem dX3_colour_10 : decode cX3_colour 10 = .ok (.lreturn, 1) := by decide +kernel
theorem dX3_colour_11 : decode cX3_colour 11 = .ok (.iload_n 2, 1) := by decide +kernel
theorem dX3_colour_12 : decode cX3_colour 12 = .ok (.tableswitch 99 0 5 #[40, 51, 61, 71, 81, 90], 40) := by decide +kernel
theorem dX3_colour_52 : decode cX3_colour 52 = .ok (.aload_n 0, 1) := by decide +kernel
theorem dX3_colour_53 : decode cX3_colour 53 = .ok (.getfield 10, 3) := by decide +kernel
theorem dX3_colour_56 : decode cX3_colour 56 = .ok (.getfield 86, 3) := by decide +kernel
theorem dX3_colour_59 : decode cX3_colour 59 = .ok (.iload_n 1, 1) := by decide +kernel
theorem dX3_colour_60 : decode cX3_colour 60 = .ok (.iaload, 1) := by decide +kernel
theorem dX3_colour_61 : decode cX3_colour 61 = .ok (.i2l, 1) := by decide +kernel
theorem dX3_colour_62 : decode cX3_colour 62 = .ok (.lreturn, 1) := by decide +kernel
theorem dX3_colour_63 : decode cX3_colour 63 = .ok (.aload_n 0, 1) := by decide +kernel
theorem dX3_colour_64 : decode cX3_colour 64 = .ok (.getfield 10, 3) := by decide +kernel
theorem dX3_colour_67 : decode cX3_colour 67 = .ok (.iload_n 1, 1) := by decide +kernel
theorem dX3_colour_68 : decode cX3_colour 68 = .ok (.invokevirtual 122, 3) := by decide +kernel
theorem dX3_colour_71 : decode cX3_colour 71 = .ok (.i2l, 1) := by decide +kernel
theorem dX3_colour_72 : decode cX3_colour 72 = .ok (.lreturn, 1) := by decide +kernel
theorem dX3_colour_73 : decode cX3_colour 73 = .ok (.aload_n 0, 1) := by decide +kernel
theorem dX3_colour_74 : decode cX3_colour 74 = .ok (.getfield 10, 3) := by decide +kernel
theorem dX3_colour_77 : decode cX3_colour 77 = .ok (.iload_n 1, 1) := by decide +kernel
theorem dX3_colour_78 : decode cX3_colour 78 = .ok (.invokevirtual 125, 3) := by decide +kernel
theorem dX3_colour_81 : decode cX3_colour 81 = .ok (.i2l, 1) := by decide +kernel
theorem dX3_colour_82 : decode cX3_colour 82 = .ok (.lreturn, 1) := by decide +kernel
theorem dX3_colour_83 : decode cX3_colour 83 = .ok (.aload_n 0, 1) := by decide +kernel
theorem dX3_colour_84 : decode cX3_colour 84 = .ok (.getfield 10, 3) := by decide +kernel
theorem dX3_colour_87 : decode cX3_colour 87 = .ok (.iload_n 1, 1) := by decide +kernel
theorem dX3_colour_88 : decode cX3_colour 88 = .ok (.invokevirtual 128, 3) := by decide +kernel
theorem dX3_colour_91 : decode cX3_colour 91 = .ok (.i2l, 1) := by decide +kernel
theorem dX3_colour_92 : decode cX3_colour 92 = .ok (.lreturn, 1) := by decide +kernel
theorem dX3_colour_93 : decode cX3_colour 93 = .ok (.aload_n 0, 1) := by decide +kernel
theorem dX3_colour_94 : decode cX3_colour 94 = .ok (.getfield 10, 3) := by decide +kernel
theorem dX3_colour_97 : decode cX3_colour 97 = .ok (.iload_n 1, 1) := by decide +kernel
theorem dX3_colour_98 : decode cX3_colour 98 = .ok (.invokevirtual 131, 3) := by decide +kernel
theorem dX3_colour_101 : decode cX3_colour 101 = .ok (.lreturn, 1) := by decide +kernel
theorem dX3_colour_102 : decode cX3_colour 102 = .ok (.aload_n 0, 1) := by decide +kernel
theorem dX3_colour_103 : decode cX3_colour 103 = .ok (.getfield 10, 3) := by decide +kernel
theorem dX3_colour_106 : decode cX3_colour 106 = .ok (.iload_n 1, 1) := by decide +kernel
theorem dX3_colour_107 : decode cX3_colour 107 = .ok (.invokevirtual 135, 3) := by decide +kernel
theorem dX3_colour_110 : decode cX3_colour 110 = .ok (.lreturn, 1) := by decide +kernel
theorem dX3_colour_111 : decode cX3_colour 111 = .ok (.ldc2_w 138, 3) := by decide +kernel
theorem dX3_colour_114 : decode cX3_colour 114 = .ok (.lreturn, 1) := by decide +kernel
theorem dX3_state_0 : decode cX3_state 0 = .ok (.iload_n 1, 1) := by decide +kernel
theorem dX3_state_1 : decode cX3_state 1 = .ok (.bipush 6, 2) := by decide +kernel
theorem dX3_state_3 : decode cX3_state 3 = .ok (.bipush 12, 2) := by decide +kernel
theorem dX3_state_5 : decode cX3_state 5 = .ok (.invokestatic 34, 3) := by decide +kernel
theorem dX3_state_8 : decode cX3_state 8 = .ok (.ifCond .eq 16, 3) := by decide +kernel
theorem dX3_state_11 : decode cX3_state 11 = .ok (.aload_n 0, 1) := by decide +kernel
theorem dX3_state_12 : decode cX3_state 12 = .ok (.getfield 10, 3) := by decide +kernel
theorem dX3_state_15 : decode cX3_state 15 = .ok (.getfield 54, 3) := by decide +kernel
theorem dX3_state_18 : decode cX3_state 18 = .ok (.iload_n 1, 1) := by decide +kernel
theorem dX3_state_19 : decode cX3_state 19 = .ok (.bipush 6, 2) := by decide +kernel
theorem dX3_state_21 : decode cX3_state 21 = .ok (.isub, 1) := by decide +kernel
theorem dX3_state_22 : decode cX3_state 22 = .ok (.iaload, 1) := by decide +kernel
theorem dX3_state_23 : decode cX3_state 23 = .ok (.ireturn, 1) := by decide +kernel
theorem dX3_state_24 : decode cX3_state 24 = .ok (.iload_n 1, 1) := by decide +kernel
theorem dX3_state_25 : decode cX3_state 25 = .ok (.tableswitch 87 0 5 #[39, 47, 55, 63, 71, 79], 39) := by decide +kernel
theorem dX3_state_64 : decode cX3_state 64 = .ok (.aload_n 0, 1) := by decide +kernel
theorem dX3_state_65 : decode cX3_state 65 = .ok (.getfield 10, 3) := by decide +kernel
theorem dX3_state_68 : decode cX3_state 68 = .ok (.getfield 98, 3) := by decide +kernel
theorem dX3_state_71 : decode cX3_state 71 = .ok (.ireturn, 1) := by decide +kernel
theorem dX3_state_72 : decode cX3_state 72 = .ok (.aload_n 0, 1) := by decide +kernel
theorem dX3_state_73 : decode cX3_state 73 = .ok (.getfield 10, 3) := by decide +kernel
theorem dX3_state_76 : decode cX3_state 76 = .ok (.getfield 38, 3) := by decide +kernel
theorem dX3_state_79 : decode cX3_state 79 = .ok (.ireturn, 1) := by decide +kernel
theorem dX3_state_80 : decode cX3_state 80 = .ok (.aload_n 0, 1) := by decide +kernel
theorem dX3_state_81 : decode cX3_state 81 = .ok (.getfield 10, 3) := by decide +kernel
theorem dX3_state_84 : decode cX3_state 84 = .ok (.getfield 140, 3) := by decide +kernel
theorem dX3_state_87 : decode cX3_state 87 = .ok (.ireturn, 1) := by decide +kernel
theorem dX3_state_88 : decode cX3_state 88 = .ok (.aload_n 0, 1) := by decide +kernel
theorem dX3_state_89 : decode cX3_state 89 = .ok (.getfield 10, 3) := by decide +kernel
theorem dX3_state_92 : decode cX3_state 92 = .ok (.invokevirtual 76, 3) := by decide +kernel
theorem dX3_state_95 : decode cX3_state 95 = .ok (.ireturn, 1) := by decide +kernel
theorem dX3_state_96 : decode cX3_state 96 = .ok (.aload_n 0, 1) := by decide +kernel
theorem dX3_state_97 : decode cX3_state 97 = .ok (.getfield 10, 3) := by decide +kernel
theorem dX3_state_100 : decode cX3_state 100 = .ok (.invokevirtual 143, 3) := by decide +kernel
theorem dX3_state_103 : decode cX3_state 103 = .ok (.ireturn, 1) := by decide +kernel
theorem dX3_state_104 : decode cX3_state 104 = .ok (.aload_n 0, 1) := by decide +kernel
theorem dX3_state_105 : decode cX3_state 105 = .ok (.getfield 30, 3) := by decide +kernel
theorem dX3_state_108 : decode cX3_state 108 = .ok (.getfield 146, 3) := by decide +kernel
theorem dX3_state_111 : decode cX3_state 111 = .ok (.ireturn, 1) := by decide +kernel
theorem dX3_state_112 : decode cX3_state 112 = .ok (.ldc 53, 2) := by decide +kernel
theorem dX3_state_114 : decode cX3_state 114 = .ok (.ireturn, 1) := by decide +kernel
theorem dX3_marker_0 : decode cX3_marker 0 = .ok (.iload_n 1, 1) := by decide +kernel
theorem dX3_marker_1 : decode cX3_marker 1 = .ok (.iconst 0, 1) := by decide +kernel
theorem dX3_marker_2 : decode cX3_marker 2 = .ok (.aload_n 0, 1) := by decide +kernel
theorem dX3_marker_3 : decode cX3_marker 3 = .ok (.getfield 10, 3) := by decide +kernel
theorem dX3_marker_6 : decode cX3_marker 6 = .ok (.invokevirtual 149, 3) := by decide +kernel
theorem dX3_marker_9 : decode cX3_marker 9 = .ok (.invokestatic 34, 3) := by decide +kernel
theorem dX3_marker_12 : decode cX3_marker 12 = .ok (.ifCond .eq 14, 3) := by decide +kernel
theorem dX3_marker_15 : decode cX3_marker 15 = .ok (.iload_n 2, 1) := by decide +kernel
theorem dX3_marker_16 : decode cX3_marker 16 = .ok (.iconst 0, 1) := by decide +kernel
theorem dX3_marker_17 : decode cX3_marker 17 = .ok (.sipush 3599, 3) := by decide +kernel
theorem dX3_marker_20 : decode cX3_marker 20 = .ok (.invokestatic 34, 3) := by decide +kernel
theorem dX3_marker_23 : decode cX3_marker 23 = .ok (.ifCond .ne 6, 3) := by decide +kernel
theorem dX3_marker_26 : decode cX3_marker 26 = .ok (.bipush (-2), 2) := by decide +kernel
theorem dX3_marker_28 : decode cX3_marker 28 = .ok (.ireturn, 1) := by decide +kernel
theorem dX3_marker_29 : decode cX3_marker 29 = .ok (.aload_n 0, 1) := by decide +kernel
theorem dX3_marker_30 : decode cX3_marker 30 = .ok (.getfield 10, 3) := by decide +kernel
theorem dX3_marker_33 : decode cX3_marker 33 = .ok (.getfield 140, 3) := by decide +kernel
theorem dX3_marker_36 : decode cX3_marker 36 = .ok (.istore_n 3, 1) := by decide +kernel
theorem dX3_marker_37 : decode cX3_marker 37 = .ok (.iload_n 3, 1) := by decide +kernel
theorem dX3_marker_38 : decode cX3_marker 38 = .ok (.bipush 6, 2) := by decide +kernel
theorem dX3_marker_40 : decode cX3_marker 40 = .ok (.if_icmp .lt 6, 3) := by decide +kernel
theorem dX3_marker_43 : decode cX3_marker 43 = .ok (.bipush (-4), 2) := by decide +kernel
theorem dX3_marker_45 : decode cX3_marker 45 = .ok (.ireturn, 1) := by decide +kernel
theorem dX3_marker_46 : decode cX3_marker 46 = .ok (.aload_n 0, 1) := by decide +kernel
theorem dX3_marker_47 : decode cX3_marker 47 = .ok (.getfield 10, 3) := by decide +kernel
theorem dX3_marker_50 : decode cX3_marker 50 = .ok (.getfield 152, 3) := by decide +kernel
theorem dX3_marker_53 : decode cX3_marker 53 = .ok (.iload_n 3, 1) := by decide +kernel
theorem dX3_marker_54 : decode cX3_marker 54 = .ok (.aaload, 1) := by decide +kernel
theorem dX3_marker_55 : decode cX3_marker 55 = .ok (.iload_n 1, 1) := by decide +kernel
theorem dX3_marker_56 : decode cX3_marker 56 = .ok (.iload_n 2, 1) := by decide +kernel
theorem dX3_marker_57 : decode cX3_marker 57 = .ok (.invokevirtual 156, 3) := by decide +kernel
theorem dX3_marker_60 : decode cX3_marker 60 = .ok (.aload_n 0, 1) := by decide +kernel
theorem dX3_marker_61 : decode cX3_marker 61 = .ok (.getfield 10, 3) := by decide +kernel
theorem dX3_marker_64 : decode cX3_marker 64 = .ok (.iload_n 3, 1) := by decide +kernel
theorem dX3_marker_65 : decode cX3_marker 65 = .ok (.iconst 1, 1) := by decide +kernel
theorem dX3_marker_66 : decode cX3_marker 66 = .ok (.iadd, 1) := by decide +kernel
theorem dX3_marker_67 : decode cX3_marker 67 = .ok (.putfield 140, 3) := by decide +kernel
theorem dX3_marker_70 : decode cX3_marker 70 = .ok (.iload_n 3, 1) := by decide +kernel
theorem dX3_marker_71 : decode cX3_marker 71 = .ok (.ireturn, 1) := by decide +kernel
theorem dX3_where_0 : decode cX3_where 0 = .ok (.aload_n 0, 1) := by decide +kernel
theorem dX3_where_1 : decode cX3_where 1 = .ok (.getfield 10, 3) := by decide +kernel
theorem dX3_where_4 : decode cX3_where 4 = .ok (.iload_n 1, 1) := by decide +kernel
theorem dX3_where_5 : decode cX3_where 5 = .ok (.invokevirtual 161, 3) := by decide +kernel
theorem dX3_where_8 : decode cX3_where 8 = .ok (.ifCond .ne 5, 3) := by decide +kernel
theorem dX3_where_11 : decode cX3_where 11 = .ok (.iconst (-1), 1) := by decide +kernel
theorem dX3_where_12 : decode cX3_where 12 = .ok (.ireturn, 1) := by decide +kernel
theorem dX3_where_13 : decode cX3_where 13 = .ok (.aload_n 0, 1) := by decide +kernel
theorem dX3_where_14 : decode cX3_where 14 = .ok (.getfield 10, 3) := by decide +kernel
theorem dX3_where_17 : decode cX3_where 17 = .ok (.getfield 152, 3) := by decide +kernel
theorem dX3_where_20 : decode cX3_where 20 = .ok (.iload_n 1, 1) := by decide +kernel
theorem dX3_where_21 : decode cX3_where 21 = .ok (.aaload, 1) := by decide +kernel
theorem dX3_where_22 : decode cX3_where 22 = .ok (.astore_n 3, 1) := by decide +kernel
theorem dX3_where_23 : decode cX3_where 23 = .ok (.iload_n 2, 1) := by decide +kernel
theorem dX3_where_24 : decode cX3_where 24 = .ok (.tableswitch 61 0 4 #[36, 41, 46, 51, 56], 36) := by decide +kernel
theorem dX3_where_60 : decode cX3_where 60 = .ok (.aload_n 3, 1) := by decide +kernel
theorem dX3_where_61 : decode cX3_where 61 = .ok (.getfield 164, 3) := by decide +kernel
theorem dX3_where_64 : decode cX3_where 64 = .ok (.ireturn, 1) := by decide +kernel
theorem dX3_where_65 : decode cX3_where 65 = .ok (.aload_n 3, 1) := by decide +kernel
theorem dX3_where_66 : decode cX3_where 66 = .ok (.getfield 167, 3) := by decide +kernel
theorem dX3_where_69 : decode cX3_where 69 = .ok (.ireturn, 1) := by decide +kernel
theorem dX3_where_70 : decode cX3_where 70 = .ok (.aload_n 3, 1) := by decide +kernel
theorem dX3_where_71 : decode cX3_where 71 = .ok (.invokevirtual 170, 3) := by decide +kernel
theorem dX3_where_74 : decode cX3_where 74 = .ok (.ireturn, 1) := by decide +kernel
theorem dX3_where_75 : decode cX3_where 75 = .ok (.aload_n 3, 1) := by decide +kernel
theorem dX3_where_76 : decode cX3_where 76 = .ok (.getfield 173, 3) := by decide +kernel
theorem dX3_where_79 : decode cX3_where 79 = .ok (.ireturn, 1) := by decide +kernel
theorem dX3_where_80 : decode cX3_where 80 = .ok (.aload_n 3, 1) := by decide +kernel
theorem dX3_where_81 : decode cX3_where 81 = .ok (.getfield 176, 3) := by decide +kernel
theorem dX3_where_84 : decode cX3_where 84 = .ok (.ireturn, 1) := by decide +kernel
theorem dX3_where_85 : decode cX3_where 85 = .ok (.bipush (-2), 2) := by decide +kernel
theorem dX3_where_87 : decode cX3_where 87 = .ok (.ireturn, 1) := by decide +kernel
theorem dX3_path_0 : decode cX3_path 0 = .ok (.aload_n 0, 1) := by decide +kernel
theorem dX3_path_1 : decode cX3_path 1 = .ok (.getfield 10, 3) := by decide +kernel
theorem dX3_path_4 : decode cX3_path 4 = .ok (.iload_n 1, 1) := by decide +kernel
theorem dX3_path_5 : decode cX3_path 5 = .ok (.invokevirtual 161, 3) := by decide +kernel
theorem dX3_path_8 : decode cX3_path 8 = .ok (.ifCond .ne 5, 3) := by decide +kernel
theorem dX3_path_11 : decode cX3_path 11 = .ok (.iconst (-1), 1) := by decide +kernel
theorem dX3_path_12 : decode cX3_path 12 = .ok (.ireturn, 1) := by decide +kernel
theorem dX3_path_13 : decode cX3_path 13 = .ok (.iload_n 3, 1) := by decide +kernel
theorem dX3_path_14 : decode cX3_path 14 = .ok (.iconst 0, 1) := by decide +kernel
theorem dX3_path_15 : decode cX3_path 15 = .ok (.iconst 1, 1) := by decide +kernel
theorem dX3_path_16 : decode cX3_path 16 = .ok (.invokestatic 34, 3) := by decide +kernel
theorem dX3_path_19 : decode cX3_path 19 = .ok (.ifCond .ne 6, 3) := by decide +kernel
theorem dX3_path_22 : decode cX3_path 22 = .ok (.bipush (-2), 2) := by decide +kernel
theorem dX3_path_24 : decode cX3_path 24 = .ok (.ireturn, 1) := by decide +kernel
theorem dX3_path_25 : decode cX3_path 25 = .ok (.aload_n 0, 1) := by decide +kernel
theorem dX3_path_26 : decode cX3_path 26 = .ok (.getfield 10, 3) := by decide +kernel
theorem dX3_path_29 : decode cX3_path 29 = .ok (.getfield 152, 3) := by decide +kernel
theorem dX3_path_32 : decode cX3_path 32 = .ok (.iload_n 1, 1) := by decide +kernel
theorem dX3_path_33 : decode cX3_path 33 = .ok (.aaload, 1) := by decide +kernel
theorem dX3_path_34 : decode cX3_path 34 = .ok (.astore 4, 2) := by decide +kernel
theorem dX3_path_36 : decode cX3_path 36 = .ok (.iload_n 2, 1) := by decide +kernel
theorem dX3_path_37 : decode cX3_path 37 = .ok (.iconst 0, 1) := by decide +kernel
theorem dX3_path_38 : decode cX3_path 38 = .ok (.aload 4, 2) := by decide +kernel
theorem dX3_path_40 : decode cX3_path 40 = .ok (.getfield 173, 3) := by decide +kernel
theorem dX3_path_43 : decode cX3_path 43 = .ok (.iconst 1, 1) := by decide +kernel
theorem dX3_path_44 : decode cX3_path 44 = .ok (.isub, 1) := by decide +kernel
theorem dX3_path_45 : decode cX3_path 45 = .ok (.invokestatic 34, 3) := by decide +kernel
theorem dX3_path_48 : decode cX3_path 48 = .ok (.ifCond .ne 6, 3) := by decide +kernel
theorem dX3_path_51 : decode cX3_path 51 = .ok (.bipush (-6), 2) := by decide +kernel
theorem dX3_path_53 : decode cX3_path 53 = .ok (.ireturn, 1) := by decide +kernel
theorem dX3_path_54 : decode cX3_path 54 = .ok (.iload_n 3, 1) := by decide +kernel
theorem dX3_path_55 : decode cX3_path 55 = .ok (.ifCond .ne 12, 3) := by decide +kernel
theorem dX3_path_58 : decode cX3_path 58 = .ok (.aload 4, 2) := by decide +kernel
theorem dX3_path_60 : decode cX3_path 60 = .ok (.iload_n 2, 1) := by decide +kernel
theorem dX3_path_61 : decode cX3_path 61 = .ok (.invokevirtual 179, 3) := by decide +kernel
theorem dX3_path_64 : decode cX3_path 64 = .ok (.goto 9, 3) := by decide +kernel
theorem dX3_path_67 : decode cX3_path 67 = .ok (.aload 4, 2) := by decide +kernel
theorem dX3_path_69 : decode cX3_path 69 = .ok (.iload_n 2, 1) := by decide +kernel
theorem dX3_path_70 : decode cX3_path 70 = .ok (.invokevirtual 182, 3) := by decide +kernel
theorem dX3_path_73 : decode cX3_path 73 = .ok (.ireturn, 1) := by decide +kernel
theorem dX3_settles_0 : decode cX3_settles 0 = .ok (.iload_n 1, 1) := by decide +kernel
theorem dX3_settles_1 : decode cX3_settles 1 = .ok (.iconst 0, 1) := by decide +kernel
theorem dX3_settles_2 : decode cX3_settles 2 = .ok (.sipush 1000, 3) := by decide +kernel
theorem dX3_settles_5 : decode cX3_settles 5 = .ok (.invokestatic 34, 3) := by decide +kernel
theorem dX3_settles_8 : decode cX3_settles 8 = .ok (.ifCond .eq 14, 3) := by decide +kernel
theorem dX3_settles_11 : decode cX3_settles 11 = .ok (.iload_n 2, 1) := by decide +kernel
theorem dX3_settles_12 : decode cX3_settles 12 = .ok (.iconst 1, 1) := by decide +kernel
theorem dX3_settles_13 : decode cX3_settles 13 = .ok (.sipush 1000, 3) := by decide +kernel
theorem dX3_settles_16 : decode cX3_settles 16 = .ok (.invokestatic 34, 3) := by decide +kernel
theorem dX3_settles_19 : decode cX3_settles 19 = .ok (.ifCond .ne 6, 3) := by decide +kernel
theorem dX3_settles_22 : decode cX3_settles 22 = .ok (.bipush (-2), 2) := by decide +kernel
theorem dX3_settles_24 : decode cX3_settles 24 = .ok (.ireturn, 1) := by decide +kernel
theorem dX3_settles_25 : decode cX3_settles 25 = .ok (.aload_n 0, 1) := by decide +kernel
theorem dX3_settles_26 : decode cX3_settles 26 = .ok (.getfield 16, 3) := by decide +kernel
theorem dX3_settles_29 : decode cX3_settles 29 = .ok (.aload_n 0, 1) := by decide +kernel
theorem dX3_settles_30 : decode cX3_settles 30 = .ok (.getfield 10, 3) := by decide +kernel
theorem dX3_settles_33 : decode cX3_settles 33 = .ok (.invokevirtual 185, 3) := by decide +kernel
theorem dX3_settles_36 : decode cX3_settles 36 = .ok (.iconst 0, 1) := by decide +kernel
theorem dX3_settles_37 : decode cX3_settles 37 = .ok (.istore_n 3, 1) := by decide +kernel
theorem dX3_settles_38 : decode cX3_settles 38 = .ok (.iload_n 3, 1) := by decide +kernel
theorem dX3_settles_39 : decode cX3_settles 39 = .ok (.iload_n 2, 1) := by decide +kernel
theorem dX3_settles_40 : decode cX3_settles 40 = .ok (.if_icmp .gt 29, 3) := by decide +kernel
theorem dX3_settles_43 : decode cX3_settles 43 = .ok (.aload_n 0, 1) := by decide +kernel
theorem dX3_settles_44 : decode cX3_settles 44 = .ok (.getfield 16, 3) := by decide +kernel
theorem dX3_settles_47 : decode cX3_settles 47 = .ok (.iload_n 1, 1) := by decide +kernel
theorem dX3_settles_48 : decode cX3_settles 48 = .ok (.invokevirtual 189, 3) := by decide +kernel
theorem dX3_settles_51 : decode cX3_settles 51 = .ok (.ifCond .eq 5, 3) := by decide +kernel
theorem dX3_settles_54 : decode cX3_settles 54 = .ok (.iload_n 3, 1) := by decide +kernel
theorem dX3_settles_55 : decode cX3_settles 55 = .ok (.ireturn, 1) := by decide +kernel
theorem dX3_settles_56 : decode cX3_settles 56 = .ok (.aload_n 0, 1) := by decide +kernel
theorem dX3_settles_57 : decode cX3_settles 57 = .ok (.getfield 16, 3) := by decide +kernel
theorem dX3_settles_60 : decode cX3_settles 60 = .ok (.invokevirtual 192, 3) := by decide +kernel
theorem dX3_settles_63 : decode cX3_settles 63 = .ok (.iinc 3 1, 3) := by decide +kernel
theorem dX3_settles_66 : decode cX3_settles 66 = .ok (.goto (-28), 3) := by decide +kernel
theorem dX3_settles_69 : decode cX3_settles 69 = .ok (.bipush (-6), 2) := by decide +kernel
theorem dX3_settles_71 : decode cX3_settles 71 = .ok (.ireturn, 1) := by decide +kernel
theorem dX3_arrives_0 : decode cX3_arrives 0 = .ok (.iload_n 1, 1) := by decide +kernel
theorem dX3_arrives_1 : decode cX3_arrives 1 = .ok (.invokestatic 117, 3) := by decide +kernel
theorem dX3_arrives_4 : decode cX3_arrives 4 = .ok (.ifCond .eq 14, 3) := by decide +kernel
theorem dX3_arrives_7 : decode cX3_arrives 7 = .ok (.aload_n 0, 1) := by decide +kernel
theorem dX3_arrives_8 : decode cX3_arrives 8 = .ok (.getfield 10, 3) := by decide +kernel
theorem dX3_arrives_11 : decode cX3_arrives 11 = .ok (.iload_n 2, 1) := by decide +kernel
theorem dX3_arrives_12 : decode cX3_arrives 12 = .ok (.invokevirtual 57, 3) := by decide +kernel
theorem dX3_arrives_15 : decode cX3_arrives 15 = .ok (.ifCond .ne 5, 3) := by decide +kernel
theorem dX3_arrives_18 : decode cX3_arrives 18 = .ok (.iconst (-1), 1) := by decide +kernel
theorem dX3_arrives_19 : decode cX3_arrives 19 = .ok (.ireturn, 1) := by decide +kernel
theorem dX3_arrives_20 : decode cX3_arrives 20 = .ok (.iload_n 3, 1) := by decide +kernel
theorem dX3_arrives_21 : decode cX3_arrives 21 = .ok (.iconst 1, 1) := by decide +kernel
theorem dX3_arrives_22 : decode cX3_arrives 22 = .ok (.sipush 1000, 3) := by decide +kernel
theorem dX3_arrives_25 : decode cX3_arrives 25 = .ok (.invokestatic 34, 3) := by decide +kernel
theorem dX3_arrives_28 : decode cX3_arrives 28 = .ok (.ifCond .eq 15, 3) := by decide +kernel
theorem dX3_arrives_31 : decode cX3_arrives 31 = .ok (.iload 4, 2) := by decide +kernel
theorem dX3_arrives_33 : decode cX3_arrives 33 = .ok (.iconst 1, 1) := by decide +kernel
theorem dX3_arrives_34 : decode cX3_arrives 34 = .ok (.sipush 500, 3) := by decide +kernel
theorem dX3_arrives_37 : decode cX3_arrives 37 = .ok (.invokestatic 34, 3) := by decide +kernel
theorem dX3_arrives_40 : decode cX3_arrives 40 = .ok (.ifCond .ne 6, 3) := by decide +kernel
theorem dX3_arrives_43 : decode cX3_arrives 43 = .ok (.bipush (-2), 2) := by decide +kernel
theorem dX3_arrives_45 : decode cX3_arrives 45 = .ok (.ireturn, 1) := by decide +kernel
theorem dX3_arrives_46 : decode cX3_arrives 46 = .ok (.aload_n 0, 1) := by decide +kernel
theorem dX3_arrives_47 : decode cX3_arrives 47 = .ok (.getfield 10, 3) := by decide +kernel
theorem dX3_arrives_50 : decode cX3_arrives 50 = .ok (.getfield 86, 3) := by decide +kernel
theorem dX3_arrives_53 : decode cX3_arrives 53 = .ok (.iload_n 1, 1) := by decide +kernel
theorem dX3_arrives_54 : decode cX3_arrives 54 = .ok (.iaload, 1) := by decide +kernel
theorem dX3_arrives_55 : decode cX3_arrives 55 = .ok (.ifCond .ne 6, 3) := by decide +kernel
theorem dX3_arrives_58 : decode cX3_arrives 58 = .ok (.bipush (-5), 2) := by decide +kernel
theorem dX3_arrives_60 : decode cX3_arrives 60 = .ok (.ireturn, 1) := by decide +kernel
theorem dX3_arrives_61 : decode cX3_arrives 61 = .ok (.iload_n 3, 1) := by decide +kernel
theorem dX3_arrives_62 : decode cX3_arrives 62 = .ok (.i2l, 1) := by decide +kernel
theorem dX3_arrives_63 : decode cX3_arrives 63 = .ok (.aload_n 0, 1) := by decide +kernel
theorem dX3_arrives_64 : decode cX3_arrives 64 = .ok (.getfield 10, 3) := by decide +kernel
theorem dX3_arrives_67 : decode cX3_arrives 67 = .ok (.getfield 86, 3) := by decide +kernel
theorem dX3_arrives_70 : decode cX3_arrives 70 = .ok (.iload_n 1, 1) := by decide +kernel
theorem dX3_arrives_71 : decode cX3_arrives 71 = .ok (.iaload, 1) := by decide +kernel
theorem dX3_arrives_72 : decode cX3_arrives 72 = .ok (.i2l, 1) := by decide +kernel
theorem dX3_arrives_73 : decode cX3_arrives 73 = .ok (.lmul, 1) := by decide +kernel
theorem dX3_arrives_74 : decode cX3_arrives 74 = .ok (.lstore 5, 2) := by decide +kernel
theorem dX3_arrives_76 : decode cX3_arrives 76 = .ok (.aload_n 0, 1) := by decide +kernel
theorem dX3_arrives_77 : decode cX3_arrives 77 = .ok (.getfield 16, 3) := by decide +kernel
theorem dX3_arrives_80 : decode cX3_arrives 80 = .ok (.aload_n 0, 1) := by decide +kernel
theorem dX3_arrives_81 : decode cX3_arrives 81 = .ok (.getfield 10, 3) := by decide +kernel
theorem dX3_arrives_84 : decode cX3_arrives 84 = .ok (.invokevirtual 185, 3) := by decide +kernel
theorem dX3_arrives_87 : decode cX3_arrives 87 = .ok (.iconst 0, 1) := by decide +kernel
theorem dX3_arrives_88 : decode cX3_arrives 88 = .ok (.istore 7, 2) := by decide +kernel
theorem dX3_arrives_90 : decode cX3_arrives 90 = .ok (.iload 7, 2) := by decide +kernel
theorem dX3_arrives_92 : decode cX3_arrives 92 = .ok (.iload 4, 2) := by decide +kernel
theorem dX3_arrives_94 : decode cX3_arrives 94 = .ok (.if_icmp .gt 47, 3) := by decide +kernel
theorem dX3_arrives_97 : decode cX3_arrives 97 = .ok (.ldc2_w 195, 3) := by decide +kernel
theorem dX3_arrives_100 : decode cX3_arrives 100 = .ok (.aload_n 0, 1) := by decide +kernel
theorem dX3_arrives_101 : decode cX3_arrives 101 = .ok (.getfield 16, 3) := by decide +kernel
theorem dX3_arrives_104 : decode cX3_arrives 104 = .ok (.iload_n 1, 1) := by decide +kernel
theorem dX3_arrives_105 : decode cX3_arrives 105 = .ok (.iload_n 2, 1) := by decide +kernel
theorem dX3_arrives_106 : decode cX3_arrives 106 = .ok (.invokevirtual 113, 3) := by decide +kernel
theorem dX3_arrives_109 : decode cX3_arrives 109 = .ok (.i2l, 1) := by decide +kernel
theorem dX3_arrives_110 : decode cX3_arrives 110 = .ok (.lmul, 1) := by decide +kernel
theorem dX3_arrives_111 : decode cX3_arrives 111 = .ok (.lload 5, 2) := by decide +kernel
theorem dX3_arrives_113 : decode cX3_arrives 113 = .ok (.lcmp, 1) := by decide +kernel
theorem dX3_arrives_114 : decode cX3_arrives 114 = .ok (.ifCond .lt 6, 3) := by decide +kernel
theorem dX3_arrives_117 : decode cX3_arrives 117 = .ok (.iload 7, 2) := by decide +kernel
theorem dX3_arrives_119 : decode cX3_arrives 119 = .ok (.ireturn, 1) := by decide +kernel
theorem dX3_arrives_120 : decode cX3_arrives 120 = .ok (.aload_n 0, 1) := by decide +kernel
theorem dX3_arrives_121 : decode cX3_arrives 121 = .ok (.getfield 16, 3) := by decide +kernel
theorem dX3_arrives_124 : decode cX3_arrives 124 = .ok (.invokevirtual 192, 3) := by decide +kernel
theorem dX3_arrives_127 : decode cX3_arrives 127 = .ok (.aload_n 0, 1) := by decide +kernel
theorem dX3_arrives_128 : decode cX3_arrives 128 = .ok (.getfield 16, 3) := by decide +kernel
theorem dX3_arrives_131 : decode cX3_arrives 131 = .ok (.iload_n 1, 1) := by decide +kernel
theorem dX3_arrives_132 : decode cX3_arrives 132 = .ok (.invokevirtual 197, 3) := by decide +kernel
theorem dX3_arrives_135 : decode cX3_arrives 135 = .ok (.iinc 7 1, 3) := by decide +kernel
theorem dX3_arrives_138 : decode cX3_arrives 138 = .ok (.goto (-48), 3) := by decide +kernel
theorem dX3_arrives_141 : decode cX3_arrives 141 = .ok (.bipush (-6), 2) := by decide +kernel
theorem dX3_arrives_143 : decode cX3_arrives 143 = .ok (.ireturn, 1) := by decide +kernel
theorem dX3_meet_0 : decode cX3_meet 0 = .ok (.aload_n 0, 1) := by decide +kernel
theorem dX3_meet_1 : decode cX3_meet 1 = .ok (.getfield 10, 3) := by decide +kernel
theorem dX3_meet_4 : decode cX3_meet 4 = .ok (.iload_n 1, 1) := by decide +kernel
theorem dX3_meet_5 : decode cX3_meet 5 = .ok (.invokevirtual 161, 3) := by decide +kernel
theorem dX3_meet_8 : decode cX3_meet 8 = .ok (.ifCond .eq 14, 3) := by decide +kernel
theorem dX3_meet_11 : decode cX3_meet 11 = .ok (.aload_n 0, 1) := by decide +kernel
theorem dX3_meet_12 : decode cX3_meet 12 = .ok (.getfield 10, 3) := by decide +kernel
theorem dX3_meet_15 : decode cX3_meet 15 = .ok (.iload_n 2, 1) := by decide +kernel
theorem dX3_meet_16 : decode cX3_meet 16 = .ok (.invokevirtual 161, 3) := by decide +kernel
theorem dX3_meet_19 : decode cX3_meet 19 = .ok (.ifCond .ne 5, 3) := by decide +kernel
theorem dX3_meet_22 : decode cX3_meet 22 = .ok (.iconst (-1), 1) := by decide +kernel
theorem dX3_meet_23 : decode cX3_meet 23 = .ok (.ireturn, 1) := by decide +kernel
theorem dX3_meet_24 : decode cX3_meet 24 = .ok (.iload_n 3, 1) := by decide +kernel
theorem dX3_meet_25 : decode cX3_meet 25 = .ok (.iconst 0, 1) := by decide +kernel
theorem dX3_meet_26 : decode cX3_meet 26 = .ok (.sipush 1800, 3) := by decide +kernel
theorem dX3_meet_29 : decode cX3_meet 29 = .ok (.invokestatic 34, 3) := by decide +kernel
theorem dX3_meet_32 : decode cX3_meet 32 = .ok (.ifCond .eq 15, 3) := by decide +kernel
theorem dX3_meet_35 : decode cX3_meet 35 = .ok (.iload 4, 2) := by decide +kernel
theorem dX3_meet_37 : decode cX3_meet 37 = .ok (.iconst 1, 1) := by decide +kernel
theorem dX3_meet_38 : decode cX3_meet 38 = .ok (.sipush 1000, 3) := by decide +kernel
theorem dX3_meet_41 : decode cX3_meet 41 = .ok (.invokestatic 34, 3) := by decide +kernel
theorem dX3_meet_44 : decode cX3_meet 44 = .ok (.ifCond .ne 6, 3) := by decide +kernel
theorem dX3_meet_47 : decode cX3_meet 47 = .ok (.bipush (-2), 2) := by decide +kernel
theorem dX3_meet_49 : decode cX3_meet 49 = .ok (.ireturn, 1) := by decide +kernel
theorem dX3_meet_50 : decode cX3_meet 50 = .ok (.aload_n 0, 1) := by decide +kernel
theorem dX3_meet_51 : decode cX3_meet 51 = .ok (.getfield 16, 3) := by decide +kernel
theorem dX3_meet_54 : decode cX3_meet 54 = .ok (.aload_n 0, 1) := by decide +kernel
theorem dX3_meet_55 : decode cX3_meet 55 = .ok (.getfield 10, 3) := by decide +kernel
theorem dX3_meet_58 : decode cX3_meet 58 = .ok (.invokevirtual 185, 3) := by decide +kernel
theorem dX3_meet_61 : decode cX3_meet 61 = .ok (.iconst 0, 1) := by decide +kernel
theorem dX3_meet_62 : decode cX3_meet 62 = .ok (.istore 5, 2) := by decide +kernel
theorem dX3_meet_64 : decode cX3_meet 64 = .ok (.iload 5, 2) := by decide +kernel
theorem dX3_meet_66 : decode cX3_meet 66 = .ok (.iload 4, 2) := by decide +kernel
theorem dX3_meet_68 : decode cX3_meet 68 = .ok (.if_icmp .gt 51, 3) := by decide +kernel
theorem dX3_meet_71 : decode cX3_meet 71 = .ok (.aload_n 0, 1) := by decide +kernel
theorem dX3_meet_72 : decode cX3_meet 72 = .ok (.getfield 16, 3) := by decide +kernel
theorem dX3_meet_75 : decode cX3_meet 75 = .ok (.getfield 152, 3) := by decide +kernel
theorem dX3_meet_78 : decode cX3_meet 78 = .ok (.iload_n 1, 1) := by decide +kernel
theorem dX3_meet_79 : decode cX3_meet 79 = .ok (.aaload, 1) := by decide +kernel
theorem dX3_meet_80 : decode cX3_meet 80 = .ok (.aload_n 0, 1) := by decide +kernel
theorem dX3_meet_81 : decode cX3_meet 81 = .ok (.getfield 16, 3) := by decide +kernel
theorem dX3_meet_84 : decode cX3_meet 84 = .ok (.getfield 152, 3) := by decide +kernel
theorem dX3_meet_87 : decode cX3_meet 87 = .ok (.iload_n 2, 1) := by decide +kernel
theorem dX3_meet_88 : decode cX3_meet 88 = .ok (.aaload, 1) := by decide +kernel
theorem dX3_meet_89 : decode cX3_meet 89 = .ok (.iload_n 3, 1) := by decide +kernel
theorem dX3_meet_90 : decode cX3_meet 90 = .ok (.invokevirtual 200, 3) := by decide +kernel
theorem dX3_meet_93 : decode cX3_meet 93 = .ok (.ifCond .eq 6, 3) := by decide +kernel
theorem dX3_meet_96 : decode cX3_meet 96 = .ok (.iload 5, 2) := by decide +kernel
theorem dX3_meet_98 : decode cX3_meet 98 = .ok (.ireturn, 1) := by decide +kernel
theorem dX3_meet_99 : decode cX3_meet 99 = .ok (.aload_n 0, 1) := by decide +kernel
theorem dX3_meet_100 : decode cX3_meet 100 = .ok (.getfield 16, 3) := by decide +kernel
theorem dX3_meet_103 : decode cX3_meet 103 = .ok (.invokevirtual 192, 3) := by decide +kernel
theorem dX3_meet_106 : decode cX3_meet 106 = .ok (.aload_n 0, 1) := by decide +kernel
theorem dX3_meet_107 : decode cX3_meet 107 = .ok (.getfield 16, 3) := by decide +kernel
theorem dX3_meet_110 : decode cX3_meet 110 = .ok (.invokevirtual 204, 3) := by decide +kernel
theorem dX3_meet_113 : decode cX3_meet 113 = .ok (.iinc 5 1, 3) := by decide +kernel
theorem dX3_meet_116 : decode cX3_meet 116 = .ok (.goto (-52), 3) := by decide +kernel
theorem dX3_meet_119 : decode cX3_meet 119 = .ok (.bipush (-6), 2) := by decide +kernel
theorem dX3_meet_121 : decode cX3_meet 121 = .ok (.ireturn, 1) := by decide +kernel
theorem dX3_leastEkman_0 : decode cX3_leastEkman 0 = .ok (.iload_n 1, 1) := by decide +kernel
theorem dX3_leastEkman_1 : decode cX3_leastEkman 1 = .ok (.invokestatic 117, 3) := by decide +kernel
theorem dX3_leastEkman_4 : decode cX3_leastEkman 4 = .ok (.ifCond .ne 5, 3) := by decide +kernel
theorem dX3_leastEkman_7 : decode cX3_leastEkman 7 = .ok (.iconst (-1), 1) := by decide +kernel
theorem dX3_leastEkman_8 : decode cX3_leastEkman 8 = .ok (.ireturn, 1) := by decide +kernel
theorem dX3_leastEkman_9 : decode cX3_leastEkman 9 = .ok (.iload_n 2, 1) := by decide +kernel
theorem dX3_leastEkman_10 : decode cX3_leastEkman 10 = .ok (.iconst 0, 1) := by decide +kernel
theorem dX3_leastEkman_11 : decode cX3_leastEkman 11 = .ok (.sipush 11000, 3) := by decide +kernel
theorem dX3_leastEkman_14 : decode cX3_leastEkman 14 = .ok (.invokestatic 34, 3) := by decide +kernel
theorem dX3_leastEkman_17 : decode cX3_leastEkman 17 = .ok (.ifCond .eq 13, 3) := by decide +kernel
theorem dX3_leastEkman_20 : decode cX3_leastEkman 20 = .ok (.iload_n 3, 1) := by decide +kernel
theorem dX3_leastEkman_21 : decode cX3_leastEkman 21 = .ok (.iconst 1, 1) := by decide +kernel
theorem dX3_leastEkman_22 : decode cX3_leastEkman 22 = .ok (.bipush 50, 2) := by decide +kernel
theorem dX3_leastEkman_24 : decode cX3_leastEkman 24 = .ok (.invokestatic 34, 3) := by decide +kernel
theorem dX3_leastEkman_27 : decode cX3_leastEkman 27 = .ok (.ifCond .ne 6, 3) := by decide +kernel
theorem dX3_leastEkman_30 : decode cX3_leastEkman 30 = .ok (.bipush (-2), 2) := by decide +kernel
theorem dX3_leastEkman_32 : decode cX3_leastEkman 32 = .ok (.ireturn, 1) := by decide +kernel
theorem dX3_leastEkman_33 : decode cX3_leastEkman 33 = .ok (.aload_n 0, 1) := by decide +kernel
theorem dX3_leastEkman_34 : decode cX3_leastEkman 34 = .ok (.getfield 10, 3) := by decide +kernel
theorem dX3_leastEkman_37 : decode cX3_leastEkman 37 = .ok (.getfield 86, 3) := by decide +kernel
theorem dX3_leastEkman_40 : decode cX3_leastEkman 40 = .ok (.iload_n 1, 1) := by decide +kernel
theorem dX3_leastEkman_41 : decode cX3_leastEkman 41 = .ok (.iaload, 1) := by decide +kernel
theorem dX3_leastEkman_42 : decode cX3_leastEkman 42 = .ok (.ifCond .ne 6, 3) := by decide +kernel
theorem dX3_leastEkman_45 : decode cX3_leastEkman 45 = .ok (.bipush (-5), 2) := by decide +kernel
theorem dX3_leastEkman_47 : decode cX3_leastEkman 47 = .ok (.ireturn, 1) := by decide +kernel
theorem dX3_leastEkman_48 : decode cX3_leastEkman 48 = .ok (.iconst 0, 1) := by decide +kernel
theorem dX3_leastEkman_49 : decode cX3_leastEkman 49 = .ok (.istore 4, 2) := by decide +kernel
theorem dX3_leastEkman_51 : decode cX3_leastEkman 51 = .ok (.iload 4, 2) := by decide +kernel
theorem dX3_leastEkman_53 : decode cX3_leastEkman 53 = .ok (.getstatic 50, 3) := by decide +kernel
theorem dX3_leastEkman_56 : decode cX3_leastEkman 56 = .ok (.iconst 5, 1) := by decide +kernel
theorem dX3_leastEkman_57 : decode cX3_leastEkman 57 = .ok (.iaload, 1) := by decide +kernel
theorem dX3_leastEkman_58 : decode cX3_leastEkman 58 = .ok (.if_icmp .gt 26, 3) := by decide +kernel
theorem dX3_leastEkman_61 : decode cX3_leastEkman 61 = .ok (.aload_n 0, 1) := by decide +kernel
theorem dX3_leastEkman_62 : decode cX3_leastEkman 62 = .ok (.iload 4, 2) := by decide +kernel
theorem dX3_leastEkman_64 : decode cX3_leastEkman 64 = .ok (.iload_n 1, 1) := by decide +kernel
theorem dX3_leastEkman_65 : decode cX3_leastEkman 65 = .ok (.iload_n 3, 1) := by decide +kernel
theorem dX3_leastEkman_66 : decode cX3_leastEkman 66 = .ok (.invokevirtual 207, 3) := by decide +kernel
theorem dX3_leastEkman_69 : decode cX3_leastEkman 69 = .ok (.iload_n 2, 1) := by decide +kernel
theorem dX3_leastEkman_70 : decode cX3_leastEkman 70 = .ok (.i2l, 1) := by decide +kernel
theorem dX3_leastEkman_71 : decode cX3_leastEkman 71 = .ok (.lcmp, 1) := by decide +kernel
theorem dX3_leastEkman_72 : decode cX3_leastEkman 72 = .ok (.ifCond .gt 6, 3) := by decide +kernel
theorem dX3_leastEkman_75 : decode cX3_leastEkman 75 = .ok (.iload 4, 2) := by decide +kernel
theorem dX3_leastEkman_77 : decode cX3_leastEkman 77 = .ok (.ireturn, 1) := by decide +kernel
theorem dX3_leastEkman_78 : decode cX3_leastEkman 78 = .ok (.iinc 4 1, 3) := by decide +kernel
theorem dX3_leastEkman_81 : decode cX3_leastEkman 81 = .ok (.goto (-30), 3) := by decide +kernel
theorem dX3_leastEkman_84 : decode cX3_leastEkman 84 = .ok (.bipush (-6), 2) := by decide +kernel
theorem dX3_leastEkman_86 : decode cX3_leastEkman 86 = .ok (.ireturn, 1) := by decide +kernel
theorem dX3_placeWith_0 : decode cX3_placeWith 0 = .ok (.aload_n 0, 1) := by decide +kernel
theorem dX3_placeWith_1 : decode cX3_placeWith 1 = .ok (.getfield 16, 3) := by decide +kernel
theorem dX3_placeWith_4 : decode cX3_placeWith 4 = .ok (.aload_n 0, 1) := by decide +kernel
theorem dX3_placeWith_5 : decode cX3_placeWith 5 = .ok (.getfield 10, 3) := by decide +kernel
theorem dX3_placeWith_8 : decode cX3_placeWith 8 = .ok (.invokevirtual 185, 3) := by decide +kernel
theorem dX3_placeWith_11 : decode cX3_placeWith 11 = .ok (.aload_n 0, 1) := by decide +kernel
theorem dX3_placeWith_12 : decode cX3_placeWith 12 = .ok (.getfield 16, 3) := by decide +kernel
theorem dX3_placeWith_15 : decode cX3_placeWith 15 = .ok (.getfield 54, 3) := by decide +kernel
theorem dX3_placeWith_18 : decode cX3_placeWith 18 = .ok (.iconst 5, 1) := by decide +kernel
theorem dX3_placeWith_19 : decode cX3_placeWith 19 = .ok (.iload_n 1, 1) := by decide +kernel
theorem dX3_placeWith_20 : decode cX3_placeWith 20 = .ok (.iastore, 1) := by decide +kernel
theorem dX3_placeWith_21 : decode cX3_placeWith 21 = .ok (.iconst 0, 1) := by decide +kernel
theorem dX3_placeWith_22 : decode cX3_placeWith 22 = .ok (.istore 4, 2) := by decide +kernel
theorem dX3_placeWith_24 : decode cX3_placeWith 24 = .ok (.iload 4, 2) := by decide +kernel
theorem dX3_placeWith_26 : decode cX3_placeWith 26 = .ok (.iload_n 3, 1) := by decide +kernel
theorem dX3_placeWith_27 : decode cX3_placeWith 27 = .ok (.if_icmp .ge 24, 3) := by decide +kernel
theorem dX3_placeWith_30 : decode cX3_placeWith 30 = .ok (.aload_n 0, 1) := by decide +kernel
theorem dX3_placeWith_31 : decode cX3_placeWith 31 = .ok (.getfield 16, 3) := by decide +kernel
theorem dX3_placeWith_34 : decode cX3_placeWith 34 = .ok (.invokevirtual 192, 3) := by decide +kernel
theorem dX3_placeWith_37 : decode cX3_placeWith 37 = .ok (.aload_n 0, 1) := by decide +kernel
theorem dX3_placeWith_38 : decode cX3_placeWith 38 = .ok (.getfield 16, 3) := by decide +kernel
theorem dX3_placeWith_41 : decode cX3_placeWith 41 = .ok (.iload_n 2, 1) := by decide +kernel
theorem dX3_placeWith_42 : decode cX3_placeWith 42 = .ok (.invokevirtual 197, 3) := by decide +kernel
theorem dX3_placeWith_45 : decode cX3_placeWith 45 = .ok (.iinc 4 1, 3) := by decide +kernel
theorem dX3_placeWith_48 : decode cX3_placeWith 48 = .ok (.goto (-24), 3) := by decide +kernel
theorem dX3_placeWith_51 : decode cX3_placeWith 51 = .ok (.aload_n 0, 1) := by decide +kernel
theorem dX3_placeWith_52 : decode cX3_placeWith 52 = .ok (.getfield 16, 3) := by decide +kernel
theorem dX3_placeWith_55 : decode cX3_placeWith 55 = .ok (.iload_n 2, 1) := by decide +kernel
theorem dX3_placeWith_56 : decode cX3_placeWith 56 = .ok (.invokevirtual 131, 3) := by decide +kernel
theorem dX3_placeWith_59 : decode cX3_placeWith 59 = .ok (.lreturn, 1) := by decide +kernel
theorem dX3_say_0 : decode cX3_say 0 = .ok (.iload_n 1, 1) := by decide +kernel
theorem dX3_say_1 : decode cX3_say 1 = .ok (.bipush 33, 2) := by decide +kernel
theorem dX3_say_3 : decode cX3_say 3 = .ok (.bipush 126, 2) := by decide +kernel
theorem dX3_say_5 : decode cX3_say 5 = .ok (.invokestatic 34, 3) := by decide +kernel
theorem dX3_say_8 : decode cX3_say 8 = .ok (.ifCond .ne 6, 3) := by decide +kernel
theorem dX3_say_11 : decode cX3_say 11 = .ok (.bipush (-2), 2) := by decide +kernel
theorem dX3_say_13 : decode cX3_say 13 = .ok (.ireturn, 1) := by decide +kernel
theorem dX3_say_14 : decode cX3_say 14 = .ok (.aload_n 0, 1) := by decide +kernel
theorem dX3_say_15 : decode cX3_say 15 = .ok (.getfield 30, 3) := by decide +kernel
theorem dX3_say_18 : decode cX3_say 18 = .ok (.getfield 146, 3) := by decide +kernel
theorem dX3_say_21 : decode cX3_say 21 = .ok (.bipush 60, 2) := by decide +kernel
theorem dX3_say_23 : decode cX3_say 23 = .ok (.if_icmp .lt 6, 3) := by decide +kernel
theorem dX3_say_26 : decode cX3_say 26 = .ok (.bipush (-4), 2) := by decide +kernel
theorem dX3_say_28 : decode cX3_say 28 = .ok (.ireturn, 1) := by decide +kernel
theorem dX3_say_29 : decode cX3_say 29 = .ok (.aload_n 0, 1) := by decide +kernel
theorem dX3_say_30 : decode cX3_say 30 = .ok (.getfield 30, 3) := by decide +kernel
theorem dX3_say_33 : decode cX3_say 33 = .ok (.iload_n 1, 1) := by decide +kernel
theorem dX3_say_34 : decode cX3_say 34 = .ok (.i2c, 1) := by decide +kernel
theorem dX3_say_35 : decode cX3_say 35 = .ok (.invokevirtual 211, 3) := by decide +kernel
theorem dX3_say_38 : decode cX3_say 38 = .ok (.aload_n 0, 1) := by decide +kernel
theorem dX3_say_39 : decode cX3_say 39 = .ok (.getfield 30, 3) := by decide +kernel
theorem dX3_say_42 : decode cX3_say 42 = .ok (.getfield 146, 3) := by decide +kernel
theorem dX3_say_45 : decode cX3_say 45 = .ok (.ireturn, 1) := by decide +kernel
theorem dX3_wipe_0 : decode cX3_wipe 0 = .ok (.aload_n 0, 1) := by decide +kernel
theorem dX3_wipe_1 : decode cX3_wipe 1 = .ok (.getfield 30, 3) := by decide +kernel
theorem dX3_wipe_4 : decode cX3_wipe 4 = .ok (.getfield 146, 3) := by decide +kernel
theorem dX3_wipe_7 : decode cX3_wipe 7 = .ok (.istore_n 1, 1) := by decide +kernel
theorem dX3_wipe_8 : decode cX3_wipe 8 = .ok (.aload_n 0, 1) := by decide +kernel
theorem dX3_wipe_9 : decode cX3_wipe 9 = .ok (.getfield 30, 3) := by decide +kernel
theorem dX3_wipe_12 : decode cX3_wipe 12 = .ok (.iconst 0, 1) := by decide +kernel
theorem dX3_wipe_13 : decode cX3_wipe 13 = .ok (.putfield 146, 3) := by decide +kernel
theorem dX3_wipe_16 : decode cX3_wipe 16 = .ok (.iload_n 1, 1) := by decide +kernel
theorem dX3_wipe_17 : decode cX3_wipe 17 = .ok (.ireturn, 1) := by decide +kernel
theorem dX3_fault_0 : decode cX3_fault 0 = .ok (.aload_n 0, 1) := by decide +kernel
theorem dX3_fault_1 : decode cX3_fault 1 = .ok (.getfield 30, 3) := by decide +kernel
theorem dX3_fault_4 : decode cX3_fault 4 = .ok (.invokevirtual 215, 3) := by decide +kernel
theorem dX3_fault_7 : decode cX3_fault 7 = .ok (.ireturn, 1) := by decide +kernel
theorem dX3_carryOut_0 : decode cX3_carryOut 0 = .ok (.aload_n 0, 1) := by decide +kernel
theorem dX3_carryOut_1 : decode cX3_carryOut 1 = .ok (.getfield 30, 3) := by decide +kernel
theorem dX3_carryOut_4 : decode cX3_carryOut 4 = .ok (.invokevirtual 215, 3) := by decide +kernel
theorem dX3_carryOut_7 : decode cX3_carryOut 7 = .ok (.bipush (-6), 2) := by decide +kernel
theorem dX3_carryOut_9 : decode cX3_carryOut 9 = .ok (.if_icmp .eq 6, 3) := by decide +kernel
theorem dX3_carryOut_12 : decode cX3_carryOut 12 = .ok (.bipush (-3), 2) := by decide +kernel
theorem dX3_carryOut_14 : decode cX3_carryOut 14 = .ok (.ireturn, 1) := by decide +kernel
theorem dX3_carryOut_15 : decode cX3_carryOut 15 = .ok (.iconst 0, 1) := by decide +kernel
theorem dX3_carryOut_16 : decode cX3_carryOut 16 = .ok (.istore_n 1, 1) := by decide +kernel
theorem dX3_carryOut_17 : decode cX3_carryOut 17 = .ok (.aload_n 0, 1) := by decide +kernel
theorem dX3_carryOut_18 : decode cX3_carryOut 18 = .ok (.getfield 30, 3) := by decide +kernel
theorem dX3_carryOut_21 : decode cX3_carryOut 21 = .ok (.iconst 0, 1) := by decide +kernel
theorem dX3_carryOut_22 : decode cX3_carryOut 22 = .ok (.putfield 218, 3) := by decide +kernel
theorem dX3_carryOut_25 : decode cX3_carryOut 25 = .ok (.iconst 0, 1) := by decide +kernel
theorem dX3_carryOut_26 : decode cX3_carryOut 26 = .ok (.istore_n 2, 1) := by decide +kernel
theorem dX3_carryOut_27 : decode cX3_carryOut 27 = .ok (.iload_n 2, 1) := by decide +kernel
theorem dX3_carryOut_28 : decode cX3_carryOut 28 = .ok (.bipush 60, 2) := by decide +kernel
theorem dX3_carryOut_30 : decode cX3_carryOut 30 = .ok (.if_icmp .ge 47, 3) := by decide +kernel
theorem dX3_carryOut_33 : decode cX3_carryOut 33 = .ok (.aload_n 0, 1) := by decide +kernel
theorem dX3_carryOut_34 : decode cX3_carryOut 34 = .ok (.getfield 30, 3) := by decide +kernel
theorem dX3_carryOut_37 : decode cX3_carryOut 37 = .ok (.invokevirtual 221, 3) := by decide +kernel
theorem dX3_carryOut_40 : decode cX3_carryOut 40 = .ok (.ifCond .eq 37, 3) := by decide +kernel
theorem dX3_carryOut_43 : decode cX3_carryOut 43 = .ok (.aload_n 0, 1) := by decide +kernel
theorem dX3_carryOut_44 : decode cX3_carryOut 44 = .ok (.invokevirtual 225, 3) := by decide +kernel
theorem dX3_carryOut_47 : decode cX3_carryOut 47 = .ok (.ifCond .ne 6, 3) := by decide +kernel
theorem dX3_carryOut_50 : decode cX3_carryOut 50 = .ok (.goto 27, 3) := by decide +kernel
theorem dX3_carryOut_53 : decode cX3_carryOut 53 = .ok (.iinc 1 1, 3) := by decide +kernel
theorem dX3_carryOut_56 : decode cX3_carryOut 56 = .ok (.aload_n 0, 1) := by decide +kernel
theorem dX3_carryOut_57 : decode cX3_carryOut 57 = .ok (.getfield 30, 3) := by decide +kernel
theorem dX3_carryOut_60 : decode cX3_carryOut 60 = .ok (.bipush 44, 2) := by decide +kernel
theorem dX3_carryOut_62 : decode cX3_carryOut 62 = .ok (.invokevirtual 228, 3) := by decide +kernel
theorem dX3_carryOut_65 : decode cX3_carryOut 65 = .ok (.ifCond .ne 6, 3) := by decide +kernel
theorem dX3_carryOut_68 : decode cX3_carryOut 68 = .ok (.goto 9, 3) := by decide +kernel
theorem dX3_carryOut_71 : decode cX3_carryOut 71 = .ok (.iinc 2 1, 3) := by decide +kernel
theorem dX3_carryOut_74 : decode cX3_carryOut 74 = .ok (.goto (-47), 3) := by decide +kernel
theorem dX3_carryOut_77 : decode cX3_carryOut 77 = .ok (.aload_n 0, 1) := by decide +kernel
theorem dX3_carryOut_78 : decode cX3_carryOut 78 = .ok (.getfield 30, 3) := by decide +kernel
theorem dX3_carryOut_81 : decode cX3_carryOut 81 = .ok (.iconst 0, 1) := by decide +kernel
theorem dX3_carryOut_82 : decode cX3_carryOut 82 = .ok (.putfield 146, 3) := by decide +kernel
theorem dX3_carryOut_85 : decode cX3_carryOut 85 = .ok (.iload_n 1, 1) := by decide +kernel
theorem dX3_carryOut_86 : decode cX3_carryOut 86 = .ok (.ireturn, 1) := by decide +kernel
theorem dX3_carriedOut_0 : decode cX3_carriedOut 0 = .ok (.aload_n 0, 1) := by decide +kernel
theorem dX3_carriedOut_1 : decode cX3_carriedOut 1 = .ok (.getfield 30, 3) := by decide +kernel
theorem dX3_carriedOut_4 : decode cX3_carriedOut 4 = .ok (.getfield 232, 3) := by decide +kernel
theorem dX3_carriedOut_7 : decode cX3_carriedOut 7 = .ok (.bipush 116, 2) := by decide +kernel
theorem dX3_carriedOut_9 : decode cX3_carriedOut 9 = .ok (.if_icmp .ne 23, 3) := by decide +kernel
theorem dX3_carriedOut_12 : decode cX3_carriedOut 12 = .ok (.aload_n 0, 1) := by decide +kernel
theorem dX3_carriedOut_13 : decode cX3_carriedOut 13 = .ok (.aload_n 0, 1) := by decide +kernel
theorem dX3_carriedOut_14 : decode cX3_carriedOut 14 = .ok (.getfield 30, 3) := by decide +kernel
theorem dX3_carriedOut_17 : decode cX3_carriedOut 17 = .ok (.getfield 236, 3) := by decide +kernel
theorem dX3_carriedOut_20 : decode cX3_carriedOut 20 = .ok (.invokevirtual 239, 3) := by decide +kernel
theorem dX3_carriedOut_23 : decode cX3_carriedOut 23 = .ok (.ifCond .lt 7, 3) := by decide +kernel
theorem dX3_carriedOut_26 : decode cX3_carriedOut 26 = .ok (.iconst 1, 1) := by decide +kernel
theorem dX3_carriedOut_27 : decode cX3_carriedOut 27 = .ok (.goto 4, 3) := by decide +kernel
theorem dX3_carriedOut_30 : decode cX3_carriedOut 30 = .ok (.iconst 0, 1) := by decide +kernel
theorem dX3_carriedOut_31 : decode cX3_carriedOut 31 = .ok (.ireturn, 1) := by decide +kernel
theorem dX3_carriedOut_32 : decode cX3_carriedOut 32 = .ok (.aload_n 0, 1) := by decide +kernel
theorem dX3_carriedOut_33 : decode cX3_carriedOut 33 = .ok (.getfield 30, 3) := by decide +kernel
theorem dX3_carriedOut_36 : decode cX3_carriedOut 36 = .ok (.getfield 232, 3) := by decide +kernel
theorem dX3_carriedOut_39 : decode cX3_carriedOut 39 = .ok (.bipush 118, 2) := by decide +kernel
theorem dX3_carriedOut_41 : decode cX3_carriedOut 41 = .ok (.if_icmp .ne 32, 3) := by decide +kernel
theorem dX3_carriedOut_44 : decode cX3_carriedOut 44 = .ok (.aload_n 0, 1) := by decide +kernel
theorem dX3_carriedOut_45 : decode cX3_carriedOut 45 = .ok (.aload_n 0, 1) := by decide +kernel
theorem dX3_carriedOut_46 : decode cX3_carriedOut 46 = .ok (.getfield 30, 3) := by decide +kernel
theorem dX3_carriedOut_49 : decode cX3_carriedOut 49 = .ok (.getfield 242, 3) := by decide +kernel
theorem dX3_carriedOut_52 : decode cX3_carriedOut 52 = .ok (.aload_n 0, 1) := by decide +kernel
theorem dX3_carriedOut_53 : decode cX3_carriedOut 53 = .ok (.getfield 30, 3) := by decide +kernel
theorem dX3_carriedOut_56 : decode cX3_carriedOut 56 = .ok (.getfield 236, 3) := by decide +kernel
theorem dX3_carriedOut_59 : decode cX3_carriedOut 59 = .ok (.invokevirtual 245, 3) := by decide +kernel
theorem dX3_carriedOut_62 : decode cX3_carriedOut 62 = .ok (.ldc 248, 2) := by decide +kernel
theorem dX3_carriedOut_64 : decode cX3_carriedOut 64 = .ok (.if_icmp .le 7, 3) := by decide +kernel
theorem dX3_carriedOut_67 : decode cX3_carriedOut 67 = .ok (.iconst 1, 1) := by decide +kernel
theorem dX3_carriedOut_68 : decode cX3_carriedOut 68 = .ok (.goto 4, 3) := by decide +kernel
theorem dX3_carriedOut_71 : decode cX3_carriedOut 71 = .ok (.iconst 0, 1) := by decide +kernel
theorem dX3_carriedOut_72 : decode cX3_carriedOut 72 = .ok (.ireturn, 1) := by decide +kernel
theorem dX3_carriedOut_73 : decode cX3_carriedOut 73 = .ok (.aload_n 0, 1) := by decide +kernel
theorem dX3_carriedOut_74 : decode cX3_carriedOut 74 = .ok (.aload_n 0, 1) := by decide +kernel
theorem dX3_carriedOut_75 : decode cX3_carriedOut 75 = .ok (.getfield 30, 3) := by decide +kernel
theorem dX3_carriedOut_78 : decode cX3_carriedOut 78 = .ok (.getfield 249, 3) := by decide +kernel
theorem dX3_carriedOut_81 : decode cX3_carriedOut 81 = .ok (.aload_n 0, 1) := by decide +kernel
theorem dX3_carriedOut_82 : decode cX3_carriedOut 82 = .ok (.getfield 30, 3) := by decide +kernel
theorem dX3_carriedOut_85 : decode cX3_carriedOut 85 = .ok (.getfield 252, 3) := by decide +kernel
theorem dX3_carriedOut_88 : decode cX3_carriedOut 88 = .ok (.aload_n 0, 1) := by decide +kernel
theorem dX3_carriedOut_89 : decode cX3_carriedOut 89 = .ok (.getfield 30, 3) := by decide +kernel
theorem dX3_carriedOut_92 : decode cX3_carriedOut 92 = .ok (.getfield 242, 3) := by decide +kernel
theorem dX3_carriedOut_95 : decode cX3_carriedOut 95 = .ok (.aload_n 0, 1) := by decide +kernel
theorem dX3_carriedOut_96 : decode cX3_carriedOut 96 = .ok (.getfield 30, 3) := by decide +kernel
theorem dX3_carriedOut_99 : decode cX3_carriedOut 99 = .ok (.getfield 255, 3) := by decide +kernel
theorem dX3_carriedOut_102 : decode cX3_carriedOut 102 = .ok (.aload_n 0, 1) := by decide +kernel
theorem dX3_carriedOut_103 : decode cX3_carriedOut 103 = .ok (.getfield 30, 3) := by decide +kernel
theorem dX3_carriedOut_106 : decode cX3_carriedOut 106 = .ok (.getfield 236, 3) := by decide +kernel
theorem dX3_carriedOut_109 : decode cX3_carriedOut 109 = .ok (.invokevirtual 258, 3) := by decide +kernel
theorem dX3_carriedOut_112 : decode cX3_carriedOut 112 = .ok (.ifCond .lt 7, 3) := by decide +kernel
theorem dX3_carriedOut_115 : decode cX3_carriedOut 115 = .ok (.iconst 1, 1) := by decide +kernel
theorem dX3_carriedOut_116 : decode cX3_carriedOut 116 = .ok (.goto 4, 3) := by decide +kernel
theorem dX3_carriedOut_119 : decode cX3_carriedOut 119 = .ok (.iconst 0, 1) := by decide +kernel
theorem dX3_carriedOut_120 : decode cX3_carriedOut 120 = .ok (.ireturn, 1) := by decide +kernel
theorem dX3_save_0 : decode cX3_save 0 = .ok (.iload_n 1, 1) := by decide +kernel
theorem dX3_save_1 : decode cX3_save 1 = .ok (.iconst 0, 1) := by decide +kernel
theorem dX3_save_2 : decode cX3_save 2 = .ok (.iconst 1, 1) := by decide +kernel
theorem dX3_save_3 : decode cX3_save 3 = .ok (.invokestatic 34, 3) := by decide +kernel
theorem dX3_save_6 : decode cX3_save 6 = .ok (.ifCond .ne 6, 3) := by decide +kernel
theorem dX3_save_9 : decode cX3_save 9 = .ok (.bipush (-2), 2) := by decide +kernel
theorem dX3_save_11 : decode cX3_save 11 = .ok (.ireturn, 1) := by decide +kernel
theorem dX3_save_12 : decode cX3_save 12 = .ok (.aload_n 0, 1) := by decide +kernel
theorem dX3_save_13 : decode cX3_save 13 = .ok (.getfield 19, 3) := by decide +kernel
theorem dX3_save_16 : decode cX3_save 16 = .ok (.iload_n 1, 1) := by decide +kernel
theorem dX3_save_17 : decode cX3_save 17 = .ok (.aaload, 1) := by decide +kernel
theorem dX3_save_18 : decode cX3_save 18 = .ok (.aload_n 0, 1) := by decide +kernel
theorem dX3_save_19 : decode cX3_save 19 = .ok (.getfield 10, 3) := by decide +kernel
theorem dX3_save_22 : decode cX3_save 22 = .ok (.invokevirtual 185, 3) := by decide +kernel
theorem dX3_save_25 : decode cX3_save 25 = .ok (.aload_n 0, 1) := by decide +kernel
theorem dX3_save_26 : decode cX3_save 26 = .ok (.getfield 23, 3) := by decide +kernel
theorem dX3_save_29 : decode cX3_save 29 = .ok (.iload_n 1, 1) := by decide +kernel
theorem dX3_save_30 : decode cX3_save 30 = .ok (.iconst 1, 1) := by decide +kernel
theorem dX3_save_31 : decode cX3_save 31 = .ok (.bastore, 1) := by decide +kernel
theorem dX3_save_32 : decode cX3_save 32 = .ok (.aload_n 0, 1) := by decide +kernel
theorem dX3_save_33 : decode cX3_save 33 = .ok (.getfield 10, 3) := by decide +kernel
theorem dX3_save_36 : decode cX3_save 36 = .ok (.getfield 98, 3) := by decide +kernel
theorem dX3_save_39 : decode cX3_save 39 = .ok (.ireturn, 1) := by decide +kernel
theorem dX3_restore_0 : decode cX3_restore 0 = .ok (.iload_n 1, 1) := by decide +kernel
theorem dX3_restore_1 : decode cX3_restore 1 = .ok (.iconst 0, 1) := by decide +kernel
theorem dX3_restore_2 : decode cX3_restore 2 = .ok (.iconst 1, 1) := by decide +kernel
theorem dX3_restore_3 : decode cX3_restore 3 = .ok (.invokestatic 34, 3) := by decide +kernel
theorem dX3_restore_6 : decode cX3_restore 6 = .ok (.ifCond .ne 6, 3) := by decide +kernel
theorem dX3_restore_9 : decode cX3_restore 9 = .ok (.bipush (-2), 2) := by decide +kernel
theorem dX3_restore_11 : decode cX3_restore 11 = .ok (.ireturn, 1) := by decide +kernel
theorem dX3_restore_12 : decode cX3_restore 12 = .ok (.aload_n 0, 1) := by decide +kernel
theorem dX3_restore_13 : decode cX3_restore 13 = .ok (.getfield 23, 3) := by decide +kernel
theorem dX3_restore_16 : decode cX3_restore 16 = .ok (.iload_n 1, 1) := by decide +kernel
theorem dX3_restore_17 : decode cX3_restore 17 = .ok (.baload, 1) := by decide +kernel
theorem dX3_restore_18 : decode cX3_restore 18 = .ok (.ifCond .ne 6, 3) := by decide +kernel
theorem dX3_restore_21 : decode cX3_restore 21 = .ok (.bipush (-5), 2) := by decide +kernel
theorem dX3_restore_23 : decode cX3_restore 23 = .ok (.ireturn, 1) := by decide +kernel
theorem dX3_restore_24 : decode cX3_restore 24 = .ok (.aload_n 0, 1) := by decide +kernel
theorem dX3_restore_25 : decode cX3_restore 25 = .ok (.getfield 10, 3) := by decide +kernel
theorem dX3_restore_28 : decode cX3_restore 28 = .ok (.aload_n 0, 1) := by decide +kernel
theorem dX3_restore_29 : decode cX3_restore 29 = .ok (.getfield 19, 3) := by decide +kernel
theorem dX3_restore_32 : decode cX3_restore 32 = .ok (.iload_n 1, 1) := by decide +kernel
theorem dX3_restore_33 : decode cX3_restore 33 = .ok (.aaload, 1) := by decide +kernel
theorem dX3_restore_34 : decode cX3_restore 34 = .ok (.invokevirtual 185, 3) := by decide +kernel
theorem dX3_restore_37 : decode cX3_restore 37 = .ok (.aload_n 0, 1) := by decide +kernel
theorem dX3_restore_38 : decode cX3_restore 38 = .ok (.getfield 10, 3) := by decide +kernel
theorem dX3_restore_41 : decode cX3_restore 41 = .ok (.getfield 98, 3) := by decide +kernel
theorem dX3_restore_44 : decode cX3_restore 44 = .ok (.ireturn, 1) := by decide +kernel
theorem dX3_isPlaceOfDye_0 : decode cX3_isPlaceOfDye 0 = .ok (.iload_n 1, 1) := by decide +kernel
theorem dX3_isPlaceOfDye_1 : decode cX3_isPlaceOfDye 1 = .ok (.invokestatic 117, 3) := by decide +kernel
theorem dX3_isPlaceOfDye_4 : decode cX3_isPlaceOfDye 4 = .ok (.ifCond .eq 38, 3) := by decide +kernel
theorem dX3_isPlaceOfDye_7 : decode cX3_isPlaceOfDye 7 = .ok (.iload_n 2, 1) := by decide +kernel
theorem dX3_isPlaceOfDye_8 : decode cX3_isPlaceOfDye 8 = .ok (.iconst 0, 1) := by decide +kernel
theorem dX3_isPlaceOfDye_9 : decode cX3_isPlaceOfDye 9 = .ok (.iconst 1, 1) := by decide +kernel
theorem dX3_isPlaceOfDye_10 : decode cX3_isPlaceOfDye 10 = .ok (.invokestatic 34, 3) := by decide +kernel
theorem dX3_isPlaceOfDye_13 : decode cX3_isPlaceOfDye 13 = .ok (.ifCond .eq 29, 3) := by decide +kernel
theorem dX3_isPlaceOfDye_16 : decode cX3_isPlaceOfDye 16 = .ok (.aload_n 0, 1) := by decide +kernel
theorem dX3_isPlaceOfDye_17 : decode cX3_isPlaceOfDye 17 = .ok (.getfield 10, 3) := by decide +kernel
theorem dX3_isPlaceOfDye_20 : decode cX3_isPlaceOfDye 20 = .ok (.iload_n 3, 1) := by decide +kernel
theorem dX3_isPlaceOfDye_21 : decode cX3_isPlaceOfDye 21 = .ok (.invokevirtual 57, 3) := by decide +kernel
theorem dX3_isPlaceOfDye_24 : decode cX3_isPlaceOfDye 24 = .ok (.ifCond .eq 18, 3) := by decide +kernel
theorem dX3_isPlaceOfDye_27 : decode cX3_isPlaceOfDye 27 = .ok (.iload 4, 2) := by decide +kernel
theorem dX3_isPlaceOfDye_29 : decode cX3_isPlaceOfDye 29 = .ok (.iconst 0, 1) := by decide +kernel
theorem dX3_isPlaceOfDye_30 : decode cX3_isPlaceOfDye 30 = .ok (.bipush 23, 2) := by decide +kernel
theorem dX3_isPlaceOfDye_32 : decode cX3_isPlaceOfDye 32 = .ok (.invokestatic 34, 3) := by decide +kernel
theorem dX3_isPlaceOfDye_35 : decode cX3_isPlaceOfDye 35 = .ok (.ifCond .eq 7, 3) := by decide +kernel
theorem dX3_isPlaceOfDye_38 : decode cX3_isPlaceOfDye 38 = .ok (.iconst 1, 1) := by decide +kernel
theorem dX3_isPlaceOfDye_39 : decode cX3_isPlaceOfDye 39 = .ok (.goto 4, 3) := by decide +kernel
theorem dX3_isPlaceOfDye_42 : decode cX3_isPlaceOfDye 42 = .ok (.iconst 0, 1) := by decide +kernel
theorem dX3_isPlaceOfDye_43 : decode cX3_isPlaceOfDye 43 = .ok (.ireturn, 1) := by decide +kernel
theorem dX3_isColour_0 : decode cX3_isColour 0 = .ok (.iload_n 0, 1) := by decide +kernel
theorem dX3_isColour_1 : decode cX3_isColour 1 = .ok (.iconst 0, 1) := by decide +kernel
theorem dX3_isColour_2 : decode cX3_isColour 2 = .ok (.iconst 2, 1) := by decide +kernel
theorem dX3_isColour_3 : decode cX3_isColour 3 = .ok (.invokestatic 34, 3) := by decide +kernel
theorem dX3_isColour_6 : decode cX3_isColour 6 = .ok (.ireturn, 1) := by decide +kernel
theorem dX3_isSpeed_0 : decode cX3_isSpeed 0 = .ok (.iload_n 0, 1) := by decide +kernel
theorem dX3_isSpeed_1 : decode cX3_isSpeed 1 = .ok (.sipush (-1500), 3) := by decide +kernel
theorem dX3_isSpeed_4 : decode cX3_isSpeed 4 = .ok (.sipush 1500, 3) := by decide +kernel
theorem dX3_isSpeed_7 : decode cX3_isSpeed 7 = .ok (.invokestatic 34, 3) := by decide +kernel
theorem dX3_isSpeed_10 : decode cX3_isSpeed 10 = .ok (.ireturn, 1) := by decide +kernel
theorem dX3_within_0 : decode cX3_within 0 = .ok (.iload_n 0, 1) := by decide +kernel
theorem dX3_within_1 : decode cX3_within 1 = .ok (.iload_n 1, 1) := by decide +kernel
theorem dX3_within_2 : decode cX3_within 2 = .ok (.if_icmp .lt 12, 3) := by decide +kernel
theorem dX3_within_5 : decode cX3_within 5 = .ok (.iload_n 0, 1) := by decide +kernel
theorem dX3_within_6 : decode cX3_within 6 = .ok (.iload_n 2, 1) := by decide +kernel
theorem dX3_within_7 : decode cX3_within 7 = .ok (.if_icmp .gt 7, 3) := by decide +kernel
theorem dX3_within_10 : decode cX3_within 10 = .ok (.iconst 1, 1) := by decide +kernel
theorem dX3_within_11 : decode cX3_within 11 = .ok (.goto 4, 3) := by decide +kernel
theorem dX3_within_14 : decode cX3_within 14 = .ok (.iconst 0, 1) := by decide +kernel
theorem dX3_within_15 : decode cX3_within 15 = .ok (.ireturn, 1) := by decide +kernel
theorem dX4_init_0 : decode cX4_init 0 = .ok (.aload_n 0, 1) := by decide +kernel
theorem dX4_init_1 : decode cX4_init 1 = .ok (.invokespecial 1, 3) := by decide +kernel
theorem dX4_init_4 : decode cX4_init 4 = .ok (.aload_n 0, 1) := by decide +kernel
theorem dX4_init_5 : decode cX4_init 5 = .ok (.sipush 2386, 3) := by decide +kernel
theorem dX4_init_8 : decode cX4_init 8 = .ok (.newarray .int, 2) := by decide +kernel
theorem dX4_init_10 : decode cX4_init 10 = .ok (.putfield 7, 3) := by decide +kernel
theorem dX4_init_13 : decode cX4_init 13 = .ok (.aload_n 0, 1) := by decide +kernel
theorem dX4_init_14 : decode cX4_init 14 = .ok (.sipush 2386, 3) := by decide +kernel
theorem dX4_init_17 : decode cX4_init 17 = .ok (.newarray .int, 2) := by decide +kernel
theorem dX4_init_19 : decode cX4_init 19 = .ok (.putfield 13, 3) := by decide +kernel
theorem dX4_init_22 : decode cX4_init 22 = .ok (.aload_n 0, 1) := by decide +kernel
theorem dX4_init_23 : decode cX4_init 23 = .ok (.sipush 4772, 3) := by decide +kernel
theorem dX4_init_26 : decode cX4_init 26 = .ok (.newarray .int, 2) := by decide +kernel
theorem dX4_init_28 : decode cX4_init 28 = .ok (.putfield 16, 3) := by decide +kernel
theorem dX4_init_31 : decode cX4_init 31 = .ok (.aload_n 0, 1) := by decide +kernel
theorem dX4_init_32 : decode cX4_init 32 = .ok (.iconst 2, 1) := by decide +kernel
theorem dX4_init_33 : decode cX4_init 33 = .ok (.newarray .boolean, 2) := by decide +kernel
theorem dX4_init_35 : decode cX4_init 35 = .ok (.putfield 19, 3) := by decide +kernel
theorem dX4_init_38 : decode cX4_init 38 = .ok (.aload_n 0, 1) := by decide +kernel
theorem dX4_init_39 : decode cX4_init 39 = .ok (.sipush 1728, 3) := by decide +kernel
theorem dX4_init_42 : decode cX4_init 42 = .ok (.newarray .int, 2) := by decide +kernel
theorem dX4_init_44 : decode cX4_init 44 = .ok (.putfield 23, 3) := by decide +kernel
theorem dX4_init_47 : decode cX4_init 47 = .ok (.aload_n 0, 1) := by decide +kernel
theorem dX4_init_48 : decode cX4_init 48 = .ok (.bipush 12, 2) := by decide +kernel
theorem dX4_init_50 : decode cX4_init 50 = .ok (.newarray .int, 2) := by decide +kernel
theorem dX4_init_52 : decode cX4_init 52 = .ok (.putfield 26, 3) := by decide +kernel
theorem dX4_init_55 : decode cX4_init 55 = .ok (.aload_n 0, 1) := by decide +kernel
theorem dX4_init_56 : decode cX4_init 56 = .ok (.bipush 60, 2) := by decide +kernel
theorem dX4_init_58 : decode cX4_init 58 = .ok (.newarray .int, 2) := by decide +kernel
theorem dX4_init_60 : decode cX4_init 60 = .ok (.putfield 29, 3) := by decide +kernel
theorem dX4_init_63 : decode cX4_init 63 = .ok (.aload_n 0, 1) := by decide +kernel
theorem dX4_init_64 : decode cX4_init 64 = .ok (.sipush 192, 3) := by decide +kernel
theorem dX4_init_67 : decode cX4_init 67 = .ok (.newarray .int, 2) := by decide +kernel
theorem dX4_init_69 : decode cX4_init 69 = .ok (.putfield 32, 3) := by decide +kernel
theorem dX4_init_72 : decode cX4_init 72 = .ok (.aload_n 0, 1) := by decide +kernel
theorem dX4_init_73 : decode cX4_init 73 = .ok (.bipush 6, 2) := by decide +kernel
theorem dX4_init_75 : decode cX4_init 75 = .ok (.invokevirtual 35, 3) := by decide +kernel
theorem dX4_init_78 : decode cX4_init 78 = .ok (.return_, 1) := by decide +kernel
theorem dX4_in_0 : decode cX4_in 0 = .ok (.iload_n 0, 1) := by decide +kernel
theorem dX4_in_1 : decode cX4_in 1 = .ok (.iload_n 1, 1) := by decide +kernel
theorem dX4_in_2 : decode cX4_in 2 = .ok (.if_icmp .lt 12, 3) := by decide +kernel
theorem dX4_in_5 : decode cX4_in 5 = .ok (.iload_n 0, 1) := by decide +kernel
theorem dX4_in_6 : decode cX4_in 6 = .ok (.iload_n 2, 1) := by decide +kernel
theorem dX4_in_7 : decode cX4_in 7 = .ok (.if_icmp .gt 7, 3) := by decide +kernel
theorem dX4_in_10 : decode cX4_in 10 = .ok (.iconst 1, 1) := by decide +kernel
theorem dX4_in_11 : decode cX4_in 11 = .ok (.goto 4, 3) := by decide +kernel
theorem dX4_in_14 : decode cX4_in 14 = .ok (.iconst 0, 1) := by decide +kernel
theorem dX4_in_15 : decode cX4_in 15 = .ok (.ireturn, 1) := by decide +kernel
theorem dX4_down_0 : decode cX4_down 0 = .ok (.iload_n 0, 1) := by decide +kernel
theorem dX4_down_1 : decode cX4_down 1 = .ok (.iload_n 1, 1) := by decide +kernel
theorem dX4_down_2 : decode cX4_down 2 = .ok (.idiv, 1) := by decide +kernel
theorem dX4_down_3 : decode cX4_down 3 = .ok (.iload_n 0, 1) := by decide +kernel
theorem dX4_down_4 : decode cX4_down 4 = .ok (.iload_n 1, 1) := by decide +kernel
theorem dX4_down_5 : decode cX4_down 5 = .ok (.irem, 1) := by decide +kernel
theorem dX4_down_6 : decode cX4_down 6 = .ok (.ifCond .ge 7, 3) := by decide +kernel
theorem dX4_down_9 : decode cX4_down 9 = .ok (.iconst 1, 1) := by decide +kernel
theorem dX4_down_10 : decode cX4_down 10 = .ok (.goto 4, 3) := by decide +kernel
theorem dX4_down_13 : decode cX4_down 13 = .ok (.iconst 0, 1) := by decide +kernel
theorem dX4_down_14 : decode cX4_down 14 = .ok (.isub, 1) := by decide +kernel
theorem dX4_down_15 : decode cX4_down 15 = .ok (.ireturn, 1) := by decide +kernel
theorem dX4_mod_0 : decode cX4_mod 0 = .ok (.iload_n 0, 1) := by decide +kernel
theorem dX4_mod_1 : decode cX4_mod 1 = .ok (.iload_n 1, 1) := by decide +kernel
theorem dX4_mod_2 : decode cX4_mod 2 = .ok (.irem, 1) := by decide +kernel
theorem dX4_mod_3 : decode cX4_mod 3 = .ok (.istore_n 2, 1) := by decide +kernel
theorem dX4_mod_4 : decode cX4_mod 4 = .ok (.iload_n 2, 1) := by decide +kernel
theorem dX4_mod_5 : decode cX4_mod 5 = .ok (.ifCond .ge 9, 3) := by decide +kernel
theorem dX4_mod_8 : decode cX4_mod 8 = .ok (.iload_n 2, 1) := by decide +kernel
theorem dX4_mod_9 : decode cX4_mod 9 = .ok (.iload_n 1, 1) := by decide +kernel
theorem dX4_mod_10 : decode cX4_mod 10 = .ok (.iadd, 1) := by decide +kernel
theorem dX4_mod_11 : decode cX4_mod 11 = .ok (.goto 4, 3) := by decide +kernel
theorem dX4_mod_14 : decode cX4_mod 14 = .ok (.iload_n 2, 1) := by decide +kernel
theorem dX4_mod_15 : decode cX4_mod 15 = .ok (.ireturn, 1) := by decide +kernel
theorem dX4_begin_0 : decode cX4_begin 0 = .ok (.iconst 0, 1) := by decide +kernel
theorem dX4_begin_1 : decode cX4_begin 1 = .ok (.istore_n 2, 1) := by decide +kernel
theorem dX4_begin_2 : decode cX4_begin 2 = .ok (.iload_n 2, 1) := by decide +kernel
theorem dX4_begin_3 : decode cX4_begin 3 = .ok (.sipush 2386, 3) := by decide +kernel
theorem dX4_begin_6 : decode cX4_begin 6 = .ok (.if_icmp .ge 16, 3) := by decide +kernel
theorem dX4_begin_9 : decode cX4_begin 9 = .ok (.aload_n 0, 1) := by decide +kernel
theorem dX4_begin_10 : decode cX4_begin 10 = .ok (.getfield 7, 3) := by decide +kernel
theorem dX4_begin_13 : decode cX4_begin 13 = .ok (.iload_n 2, 1) := by decide +kernel
theorem dX4_begin_14 : decode cX4_begin 14 = .ok (.iconst 0, 1) := by decide +kernel
theorem dX4_begin_15 : decode cX4_begin 15 = .ok (.iastore, 1) := by decide +kernel
theorem dX4_begin_16 : decode cX4_begin 16 = .ok (.iinc 2 1, 3) := by decide +kernel
theorem dX4_begin_19 : decode cX4_begin 19 = .ok (.goto (-17), 3) := by decide +kernel
theorem dX4_begin_22 : decode cX4_begin 22 = .ok (.aload_n 0, 1) := by decide +kernel
theorem dX4_begin_23 : decode cX4_begin 23 = .ok (.getfield 7, 3) := by decide +kernel
theorem dX4_begin_26 : decode cX4_begin 26 = .ok (.iconst 0, 1) := by decide +kernel
theorem dX4_begin_27 : decode cX4_begin 27 = .ok (.iload_n 1, 1) := by decide +kernel
theorem dX4_begin_28 : decode cX4_begin 28 = .ok (.iastore, 1) := by decide +kernel
theorem dX4_begin_29 : decode cX4_begin 29 = .ok (.aload_n 0, 1) := by decide +kernel
theorem dX4_begin_30 : decode cX4_begin 30 = .ok (.getfield 7, 3) := by decide +kernel
theorem dX4_begin_33 : decode cX4_begin 33 = .ok (.iconst 2, 1) := by decide +kernel
theorem dX4_begin_34 : decode cX4_begin 34 = .ok (.bipush 20, 2) := by decide +kernel
theorem dX4_begin_36 : decode cX4_begin 36 = .ok (.iastore, 1) := by decide +kernel
theorem dX4_begin_37 : decode cX4_begin 37 = .ok (.aload_n 0, 1) := by decide +kernel
theorem dX4_begin_38 : decode cX4_begin 38 = .ok (.getfield 7, 3) := by decide +kernel
theorem dX4_begin_41 : decode cX4_begin 41 = .ok (.iconst 3, 1) := by decide +kernel
theorem dX4_begin_42 : decode cX4_begin 42 = .ok (.bipush 10, 2) := by decide +kernel
theorem dX4_begin_44 : decode cX4_begin 44 = .ok (.iastore, 1) := by decide +kernel
theorem dX4_begin_45 : decode cX4_begin 45 = .ok (.aload_n 0, 1) := by decide +kernel
theorem dX4_begin_46 : decode cX4_begin 46 = .ok (.getfield 7, 3) := by decide +kernel
theorem dX4_begin_49 : decode cX4_begin 49 = .ok (.iconst 5, 1) := by decide +kernel
theorem dX4_begin_50 : decode cX4_begin 50 = .ok (.iconst 5, 1) := by decide +kernel
theorem dX4_begin_51 : decode cX4_begin 51 = .ok (.iastore, 1) := by decide +kernel
theorem dX4_begin_52 : decode cX4_begin 52 = .ok (.aload_n 0, 1) := by decide +kernel
theorem dX4_begin_53 : decode cX4_begin 53 = .ok (.getfield 7, 3) := by decide +kernel
theorem dX4_begin_56 : decode cX4_begin 56 = .ok (.bipush 7, 2) := by decide +kernel
theorem dX4_begin_58 : decode cX4_begin 58 = .ok (.bipush 50, 2) := by decide +kernel
theorem dX4_begin_60 : decode cX4_begin 60 = .ok (.iastore, 1) := by decide +kernel
theorem dX4_begin_61 : decode cX4_begin 61 = .ok (.aload_n 0, 1) := by decide +kernel
theorem dX4_begin_62 : decode cX4_begin 62 = .ok (.getfield 7, 3) := by decide +kernel
theorem dX4_begin_65 : decode cX4_begin 65 = .ok (.bipush 8, 2) := by decide +kernel
theorem dX4_begin_67 : decode cX4_begin 67 = .ok (.bipush 20, 2) := by decide +kernel
theorem dX4_begin_69 : decode cX4_begin 69 = .ok (.iastore, 1) := by decide +kernel
theorem dX4_begin_70 : decode cX4_begin 70 = .ok (.return_, 1) := by decide +kernel
theorem dX4_putAside_0 : decode cX4_putAside 0 = .ok (.iconst 0, 1) := by decide +kernel
theorem dX4_putAside_1 : decode cX4_putAside 1 = .ok (.istore_n 1, 1) := by decide +kernel
theorem dX4_putAside_2 : decode cX4_putAside 2 = .ok (.iload_n 1, 1) := by decide +kernel
theorem dX4_putAside_3 : decode cX4_putAside 3 = .ok (.sipush 2386, 3) := by decide +kernel
theorem dX4_putAside_6 : decode cX4_putAside 6 = .ok (.if_icmp .ge 21, 3) := by decide +kernel
theorem dX4_putAside_9 : decode cX4_putAside 9 = .ok (.aload_n 0, 1) := by decide +kernel
theorem dX4_putAside_10 : decode cX4_putAside 10 = .ok (.getfield 13, 3) := by decide +kernel
theorem dX4_putAside_13 : decode cX4_putAside 13 = .ok (.iload_n 1, 1) := by decide +kernel
theorem dX4_putAside_14 : decode cX4_putAside 14 = .ok (.aload_n 0, 1) := by decide +kernel
theorem dX4_putAside_15 : decode cX4_putAside 15 = .ok (.getfield 7, 3) := by decide +kernel
theorem dX4_putAside_18 : decode cX4_putAside 18 = .ok (.iload_n 1, 1) := by decide +kernel
theorem dX4_putAside_19 : decode cX4_putAside 19 = .ok (.iaload, 1) := by decide +kernel
theorem dX4_putAside_20 : decode cX4_putAside 20 = .ok (.iastore, 1) := by decide +kernel
theorem dX4_putAside_21 : decode cX4_putAside 21 = .ok (.iinc 1 1, 3) := by decide +kernel
theorem dX4_putAside_24 : decode cX4_putAside 24 = .ok (.goto (-22), 3) := by decide +kernel
theorem dX4_putAside_27 : decode cX4_putAside 27 = .ok (.return_, 1) := by decide +kernel
theorem dX4_putBack_0 : decode cX4_putBack 0 = .ok (.iconst 0, 1) := by decide +kernel
theorem dX4_putBack_1 : decode cX4_putBack 1 = .ok (.istore_n 1, 1) := by decide +kernel
theorem dX4_putBack_2 : decode cX4_putBack 2 = .ok (.iload_n 1, 1) := by decide +kernel
theorem dX4_putBack_3 : decode cX4_putBack 3 = .ok (.sipush 2386, 3) := by decide +kernel
theorem dX4_putBack_6 : decode cX4_putBack 6 = .ok (.if_icmp .ge 21, 3) := by decide +kernel
theorem dX4_putBack_9 : decode cX4_putBack 9 = .ok (.aload_n 0, 1) := by decide +kernel
theorem dX4_putBack_10 : decode cX4_putBack 10 = .ok (.getfield 7, 3) := by decide +kernel
theorem dX4_putBack_13 : decode cX4_putBack 13 = .ok (.iload_n 1, 1) := by decide +kernel
theorem dX4_putBack_14 : decode cX4_putBack 14 = .ok (.aload_n 0, 1) := by decide +kernel
theorem dX4_putBack_15 : decode cX4_putBack 15 = .ok (.getfield 13, 3) := by decide +kernel
theorem dX4_putBack_18 : decode cX4_putBack 18 = .ok (.iload_n 1, 1) := by decide +kernel
theorem dX4_putBack_19 : decode cX4_putBack 19 = .ok (.iaload, 1) := by decide +kernel
theorem dX4_putBack_20 : decode cX4_putBack 20 = .ok (.iastore, 1) := by decide +kernel
theorem dX4_putBack_21 : decode cX4_putBack 21 = .ok (.iinc 1 1, 3) := by decide +kernel
theorem dX4_putBack_24 : decode cX4_putBack 24 = .ok (.goto (-22), 3) := by decide +kernel
theorem dX4_putBack_27 : decode cX4_putBack 27 = .ok (.return_, 1) := by decide +kernel
theorem dX4_isRing_0 : decode cX4_isRing 0 = .ok (.iload_n 1, 1) := by decide +kernel
theorem dX4_isRing_1 : decode cX4_isRing 1 = .ok (.iconst 0, 1) := by decide +kernel
theorem dX4_isRing_2 : decode cX4_isRing 2 = .ok (.aload_n 0, 1) := by decide +kernel
theorem dX4_isRing_3 : decode cX4_isRing 3 = .ok (.getfield 7, 3) := by decide +kernel
theorem dX4_isRing_6 : decode cX4_isRing 6 = .ok (.iconst 0, 1) := by decide +kernel
theorem dX4_isRing_7 : decode cX4_isRing 7 = .ok (.iaload, 1) := by decide +kernel
theorem dX4_isRing_8 : decode cX4_isRing 8 = .ok (.iconst 1, 1) := by decide +kernel
theorem dX4_isRing_9 : decode cX4_isRing 9 = .ok (.isub, 1) := by decide +kernel
theorem dX4_isRing_10 : decode cX4_isRing 10 = .ok (.invokestatic 39, 3) := by decide +kernel
theorem dX4_isRing_13 : decode cX4_isRing 13 = .ok (.ireturn, 1) := by decide +kernel
theorem dX4_velocity_0 : decode cX4_velocity 0 = .ok (.aload_n 0, 1) := by decide +kernel
theorem dX4_velocity_1 : decode cX4_velocity 1 = .ok (.getfield 7, 3) := by decide +kernel
theorem dX4_velocity_4 : decode cX4_velocity 4 = .ok (.bipush 9, 2) := by decide +kernel
theorem dX4_velocity_6 : decode cX4_velocity 6 = .ok (.iload_n 1, 1) := by decide +kernel
theorem dX4_velocity_7 : decode cX4_velocity 7 = .ok (.iadd, 1) := by decide +kernel
theorem dX4_velocity_8 : decode cX4_velocity 8 = .ok (.iaload, 1) := by decide +kernel
theorem dX4_velocity_9 : decode cX4_velocity 9 = .ok (.iconst 2, 1) := by decide +kernel
theorem dX4_velocity_10 : decode cX4_velocity 10 = .ok (.iload_n 1, 1) := by decide +kernel
theorem dX4_velocity_11 : decode cX4_velocity 11 = .ok (.imul, 1) := by decide +kernel
theorem dX4_velocity_12 : decode cX4_velocity 12 = .ok (.iconst 1, 1) := by decide +kernel
theorem dX4_velocity_13 : decode cX4_velocity 13 = .ok (.iadd, 1) := by decide +kernel
theorem dX4_velocity_14 : decode cX4_velocity 14 = .ok (.invokestatic 43, 3) := by decide +kernel
theorem dX4_velocity_17 : decode cX4_velocity 17 = .ok (.ireturn, 1) := by decide +kernel
theorem dX4_setUp_0 : decode cX4_setUp 0 = .ok (.iload_n 1, 1) := by decide +kernel
theorem dX4_setUp_1 : decode cX4_setUp 1 = .ok (.iconst 2, 1) := by decide +kernel
theorem dX4_setUp_2 : decode cX4_setUp 2 = .ok (.bipush 12, 2) := by decide +kernel
theorem dX4_setUp_4 : decode cX4_setUp 4 = .ok (.invokestatic 39, 3) := by decide +kernel
theorem dX4_setUp_7 : decode cX4_setUp 7 = .ok (.ifCond .ne 6, 3) := by decide +kernel
theorem dX4_setUp_10 : decode cX4_setUp 10 = .ok (.bipush (-2), 2) := by decide +kernel
theorem dX4_setUp_12 : decode cX4_setUp 12 = .ok (.ireturn, 1) := by decide +kernel
theorem dX4_setUp_13 : decode cX4_setUp 13 = .ok (.aload_n 0, 1) := by decide +kernel
theorem dX4_setUp_14 : decode cX4_setUp 14 = .ok (.getfield 7, 3) := by decide +kernel
theorem dX4_setUp_17 : decode cX4_setUp 17 = .ok (.iconst 0, 1) := by decide +kernel
theorem dX4_setUp_18 : decode cX4_setUp 18 = .ok (.iaload, 1) := by decide +kernel
theorem dX4_setUp_19 : decode cX4_setUp 19 = .ok (.istore_n 2, 1) := by decide +kernel
theorem dX4_setUp_20 : decode cX4_setUp 20 = .ok (.aload_n 0, 1) := by decide +kernel
theorem dX4_setUp_21 : decode cX4_setUp 21 = .ok (.iload_n 1, 1) := by decide +kernel
theorem dX4_setUp_22 : decode cX4_setUp 22 = .ok (.invokevirtual 35, 3) := by decide +kernel
theorem dX4_setUp_25 : decode cX4_setUp 25 = .ok (.iload_n 2, 1) := by decide +kernel
theorem dX4_setUp_26 : decode cX4_setUp 26 = .ok (.ireturn, 1) := by decide +kernel
theorem dX4_takes_0 : decode cX4_takes 0 = .ok (.iload_n 0, 1) := by decide +kernel
theorem dX4_takes_1 : decode cX4_takes 1 = .ok (.tableswitch 67 0 5 #[39, 39, 47, 39, 47, 58], 39) := by decide +kernel
theorem dX4_takes_40 : decode cX4_takes 40 = .ok (.iload_n 1, 1) := by decide +kernel
theorem dX4_takes_41 : decode cX4_takes 41 = .ok (.iconst 0, 1) := by decide +kernel
theorem dX4_takes_42 : decode cX4_takes 42 = .ok (.bipush 100, 2) := by decide +kernel
theorem dX4_takes_44 : decode cX4_takes 44 = .ok (.invokestatic 39, 3) := by decide +kernel
theorem dX4_takes_47 : decode cX4_takes 47 = .ok (.ireturn, 1) := by decide +kernel
theorem dX4_takes_48 : decode cX4_takes 48 = .ok (.iload_n 1, 1) := by decide +kernel
theorem dX4_takes_49 : decode cX4_takes 49 = .ok (.sipush (-1500), 3) := by decide +kernel
theorem dX4_takes_52 : decode cX4_takes 52 = .ok (.sipush 1500, 3) := by decide +kernel
theorem dX4_takes_55 : decode cX4_takes 55 = .ok (.invokestatic 39, 3) := by decide +kernel
theorem dX4_takes_58 : decode cX4_takes 58 = .ok (.ireturn, 1) := by decide +kernel
theorem dX4_takes_59 : decode cX4_takes 59 = .ok (.iload_n 1, 1) := by decide +kernel
theorem dX4_takes_60 : decode cX4_takes 60 = .ok (.iconst 0, 1) := by decide +kernel
theorem dX4_takes_61 : decode cX4_takes 61 = .ok (.sipush 200, 3) := by decide +kernel
theorem dX4_takes_64 : decode cX4_takes 64 = .ok (.invokestatic 39, 3) := by decide +kernel
theorem dX4_takes_67 : decode cX4_takes 67 = .ok (.ireturn, 1) := by decide +kernel
theorem dX4_takes_68 : decode cX4_takes 68 = .ok (.iload_n 0, 1) := by decide +kernel
theorem dX4_takes_69 : decode cX4_takes 69 = .ok (.bipush 6, 2) := by decide +kernel
theorem dX4_takes_71 : decode cX4_takes 71 = .ok (.if_icmp .ne 18, 3) := by decide +kernel
theorem dX4_takes_74 : decode cX4_takes 74 = .ok (.iload_n 1, 1) := by decide +kernel
theorem dX4_takes_75 : decode cX4_takes 75 = .ok (.iconst 0, 1) := by decide +kernel
theorem dX4_takes_76 : decode cX4_takes 76 = .ok (.sipush 500, 3) := by decide +kernel
theorem dX4_takes_79 : decode cX4_takes 79 = .ok (.invokestatic 39, 3) := by decide +kernel
theorem dX4_takes_82 : decode cX4_takes 82 = .ok (.ifCond .eq 7, 3) := by decide +kernel
theorem dX4_takes_85 : decode cX4_takes 85 = .ok (.iconst 1, 1) := by decide +kernel
theorem dX4_takes_86 : decode cX4_takes 86 = .ok (.goto 4, 3) := by decide +kernel
theorem dX4_takes_89 : decode cX4_takes 89 = .ok (.iconst 0, 1) := by decide +kernel
theorem dX4_takes_90 : decode cX4_takes 90 = .ok (.ireturn, 1) := by decide +kernel
theorem dX4_set_0 : decode cX4_set 0 = .ok (.iload_n 1, 1) := by decide +kernel
theorem dX4_set_1 : decode cX4_set 1 = .ok (.iload_n 2, 1) := by decide +kernel
theorem dX4_set_2 : decode cX4_set 2 = .ok (.invokestatic 47, 3) := by decide +kernel
theorem dX4_set_5 : decode cX4_set 5 = .ok (.ifCond .ne 6, 3) := by decide +kernel
theorem dX4_set_8 : decode cX4_set 8 = .ok (.ldc 51, 2) := by decide +kernel
theorem dX4_set_10 : decode cX4_set 10 = .ok (.ireturn, 1) := by decide +kernel
theorem dX4_set_11 : decode cX4_set 11 = .ok (.aload_n 0, 1) := by decide +kernel
theorem dX4_set_12 : decode cX4_set 12 = .ok (.getfield 7, 3) := by decide +kernel
theorem dX4_set_15 : decode cX4_set 15 = .ok (.iconst 2, 1) := by decide +kernel
theorem dX4_set_16 : decode cX4_set 16 = .ok (.iload_n 1, 1) := by decide +kernel
theorem dX4_set_17 : decode cX4_set 17 = .ok (.iadd, 1) := by decide +kernel
theorem dX4_set_18 : decode cX4_set 18 = .ok (.iaload, 1) := by decide +kernel
theorem dX4_set_19 : decode cX4_set 19 = .ok (.istore_n 3, 1) := by decide +kernel
theorem dX4_set_20 : decode cX4_set 20 = .ok (.aload_n 0, 1) := by decide +kernel
theorem dX4_set_21 : decode cX4_set 21 = .ok (.getfield 7, 3) := by decide +kernel
theorem dX4_set_24 : decode cX4_set 24 = .ok (.iconst 2, 1) := by decide +kernel
theorem dX4_set_25 : decode cX4_set 25 = .ok (.iload_n 1, 1) := by decide +kernel
theorem dX4_set_26 : decode cX4_set 26 = .ok (.iadd, 1) := by decide +kernel
theorem dX4_set_27 : decode cX4_set 27 = .ok (.iload_n 2, 1) := by decide +kernel
theorem dX4_set_28 : decode cX4_set 28 = .ok (.iastore, 1) := by decide +kernel
theorem dX4_set_29 : decode cX4_set 29 = .ok (.iload_n 3, 1) := by decide +kernel
theorem dX4_set_30 : decode cX4_set 30 = .ok (.ireturn, 1) := by decide +kernel
theorem dX4_isVelocity_0 : decode cX4_isVelocity 0 = .ok (.iload_n 0, 1) := by decide +kernel
theorem dX4_isVelocity_1 : decode cX4_isVelocity 1 = .ok (.sipush (-1500), 3) := by decide +kernel
theorem dX4_isVelocity_4 : decode cX4_isVelocity 4 = .ok (.sipush 1500, 3) := by decide +kernel
theorem dX4_isVelocity_7 : decode cX4_isVelocity 7 = .ok (.invokestatic 39, 3) := by decide +kernel
theorem dX4_isVelocity_10 : decode cX4_isVelocity 10 = .ok (.ireturn, 1) := by decide +kernel
theorem dX4_spin_0 : decode cX4_spin 0 = .ok (.aload_n 0, 1) := by decide +kernel
theorem dX4_spin_1 : decode cX4_spin 1 = .ok (.iload_n 1, 1) := by decide +kernel
theorem dX4_spin_2 : decode cX4_spin 2 = .ok (.invokevirtual 52, 3) := by decide +kernel
theorem dX4_spin_5 : decode cX4_spin 5 = .ok (.ifCond .ne 6, 3) := by decide +kernel
theorem dX4_spin_8 : decode cX4_spin 8 = .ok (.ldc 56, 2) := by decide +kernel
theorem dX4_spin_10 : decode cX4_spin 10 = .ok (.ireturn, 1) := by decide +kernel
theorem dX4_spin_11 : decode cX4_spin 11 = .ok (.iload_n 2, 1) := by decide +kernel
theorem dX4_spin_12 : decode cX4_spin 12 = .ok (.invokestatic 57, 3) := by decide +kernel
theorem dX4_spin_15 : decode cX4_spin 15 = .ok (.ifCond .ne 6, 3) := by decide +kernel
theorem dX4_spin_18 : decode cX4_spin 18 = .ok (.ldc 51, 2) := by decide +kernel
theorem dX4_spin_20 : decode cX4_spin 20 = .ok (.ireturn, 1) := by decide +kernel
theorem dX4_spin_21 : decode cX4_spin 21 = .ok (.aload_n 0, 1) := by decide +kernel
theorem dX4_spin_22 : decode cX4_spin 22 = .ok (.iload_n 1, 1) := by decide +kernel
theorem dX4_spin_23 : decode cX4_spin 23 = .ok (.invokevirtual 60, 3) := by decide +kernel
theorem dX4_spin_26 : decode cX4_spin 26 = .ok (.istore_n 3, 1) := by decide +kernel
theorem dX4_spin_27 : decode cX4_spin 27 = .ok (.aload_n 0, 1) := by decide +kernel
theorem dX4_spin_28 : decode cX4_spin 28 = .ok (.getfield 7, 3) := by decide +kernel
theorem dX4_spin_31 : decode cX4_spin 31 = .ok (.bipush 9, 2) := by decide +kernel
theorem dX4_spin_33 : decode cX4_spin 33 = .ok (.iload_n 1, 1) := by decide +kernel
theorem dX4_spin_34 : decode cX4_spin 34 = .ok (.iadd, 1) := by decide +kernel
theorem dX4_spin_35 : decode cX4_spin 35 = .ok (.iload_n 2, 1) := by decide +kernel
theorem dX4_spin_36 : decode cX4_spin 36 = .ok (.iconst 2, 1) := by decide +kernel
theorem dX4_spin_37 : decode cX4_spin 37 = .ok (.iload_n 1, 1) := by decide +kernel
theorem dX4_spin_38 : decode cX4_spin 38 = .ok (.imul, 1) := by decide +kernel
theorem dX4_spin_39 : decode cX4_spin 39 = .ok (.iconst 1, 1) := by decide +kernel
theorem dX4_spin_40 : decode cX4_spin 40 = .ok (.iadd, 1) := by decide +kernel
theorem dX4_spin_41 : decode cX4_spin 41 = .ok (.imul, 1) := by decide +kernel
theorem dX4_spin_42 : decode cX4_spin 42 = .ok (.iastore, 1) := by decide +kernel
theorem dX4_spin_43 : decode cX4_spin 43 = .ok (.iload_n 3, 1) := by decide +kernel
theorem dX4_spin_44 : decode cX4_spin 44 = .ok (.ireturn, 1) := by decide +kernel
theorem dX4_momenta_0 : decode cX4_momenta 0 = .ok (.iconst 0, 1) := by decide +kernel
theorem dX4_momenta_1 : decode cX4_momenta 1 = .ok (.istore_n 1, 1) := by decide +kernel
theorem dX4_momenta_2 : decode cX4_momenta 2 = .ok (.iconst 0, 1) := by decide +kernel
theorem dX4_momenta_3 : decode cX4_momenta 3 = .ok (.istore_n 2, 1) := by decide +kernel
theorem dX4_momenta_4 : decode cX4_momenta 4 = .ok (.iload_n 2, 1) := by decide +kernel
theorem dX4_momenta_5 : decode cX4_momenta 5 = .ok (.aload_n 0, 1) := by decide +kernel
theorem dX4_momenta_6 : decode cX4_momenta 6 = .ok (.getfield 7, 3) := by decide +kernel
theorem dX4_momenta_9 : decode cX4_momenta 9 = .ok (.iconst 0, 1) := by decide +kernel
theorem dX4_momenta_10 : decode cX4_momenta 10 = .ok (.iaload, 1) := by decide +kernel
theorem dX4_momenta_11 : decode cX4_momenta 11 = .ok (.if_icmp .ge 21, 3) := by decide +kernel
theorem dX4_momenta_14 : decode cX4_momenta 14 = .ok (.iload_n 1, 1) := by decide +kernel
theorem dX4_momenta_15 : decode cX4_momenta 15 = .ok (.aload_n 0, 1) := by decide +kernel
theorem dX4_momenta_16 : decode cX4_momenta 16 = .ok (.getfield 7, 3) := by decide +kernel
theorem dX4_momenta_19 : decode cX4_momenta 19 = .ok (.bipush 9, 2) := by decide +kernel
theorem dX4_momenta_21 : decode cX4_momenta 21 = .ok (.iload_n 2, 1) := by decide +kernel
theorem dX4_momenta_22 : decode cX4_momenta 22 = .ok (.iadd, 1) := by decide +kernel
theorem dX4_momenta_23 : decode cX4_momenta 23 = .ok (.iaload, 1) := by decide +kernel
theorem dX4_momenta_24 : decode cX4_momenta 24 = .ok (.iadd, 1) := by decide +kernel
theorem dX4_momenta_25 : decode cX4_momenta 25 = .ok (.istore_n 1, 1) := by decide +kernel
theorem dX4_momenta_26 : decode cX4_momenta 26 = .ok (.iinc 2 1, 3) := by decide +kernel
theorem dX4_momenta_29 : decode cX4_momenta 29 = .ok (.goto (-25), 3) := by decide +kernel
theorem dX4_momenta_32 : decode cX4_momenta 32 = .ok (.iload_n 1, 1) := by decide +kernel
theorem dX4_momenta_33 : decode cX4_momenta 33 = .ok (.ireturn, 1) := by decide +kernel
theorem dX4_spinAll_0 : decode cX4_spinAll 0 = .ok (.iload_n 1, 1) := by decide +kernel
theorem dX4_spinAll_1 : decode cX4_spinAll 1 = .ok (.invokestatic 57, 3) := by decide +kernel
theorem dX4_spinAll_4 : decode cX4_spinAll 4 = .ok (.ifCond .eq 10, 3) := by decide +kernel
theorem dX4_spinAll_7 : decode cX4_spinAll 7 = .ok (.iload_n 2, 1) := by decide +kernel
theorem dX4_spinAll_8 : decode cX4_spinAll 8 = .ok (.invokestatic 57, 3) := by decide +kernel
theorem dX4_spinAll_11 : decode cX4_spinAll 11 = .ok (.ifCond .ne 6, 3) := by decide +kernel
theorem dX4_spinAll_14 : decode cX4_spinAll 14 = .ok (.ldc 51, 2) := by decide +kernel
theorem dX4_spinAll_16 : decode cX4_spinAll 16 = .ok (.ireturn, 1) := by decide +kernel
theorem dX4_spinAll_17 : decode cX4_spinAll 17 = .ok (.iconst 0, 1) := by decide +kernel
theorem dX4_spinAll_18 : decode cX4_spinAll 18 = .ok (.istore_n 3, 1) := by decide +kernel
theorem dX4_spinAll_19 : decode cX4_spinAll 19 = .ok (.iload_n 3, 1) := by decide +kernel
theorem dX4_spinAll_20 : decode cX4_spinAll 20 = .ok (.aload_n 0, 1) := by decide +kernel
theorem dX4_spinAll_21 : decode cX4_spinAll 21 = .ok (.getfield 7, 3) := by decide +kernel
theorem dX4_spinAll_24 : decode cX4_spinAll 24 = .ok (.iconst 0, 1) := by decide +kernel
theorem dX4_spinAll_25 : decode cX4_spinAll 25 = .ok (.iaload, 1) := by decide +kernel
theorem dX4_spinAll_26 : decode cX4_spinAll 26 = .ok (.if_icmp .ge 40, 3) := by decide +kernel
theorem dX4_spinAll_29 : decode cX4_spinAll 29 = .ok (.aload_n 0, 1) := by decide +kernel
theorem dX4_spinAll_30 : decode cX4_spinAll 30 = .ok (.getfield 7, 3) := by decide +kernel
theorem dX4_spinAll_33 : decode cX4_spinAll 33 = .ok (.bipush 9, 2) := by decide +kernel
theorem dX4_spinAll_35 : decode cX4_spinAll 35 = .ok (.iload_n 3, 1) := by decide +kernel
theorem dX4_spinAll_36 : decode cX4_spinAll 36 = .ok (.iadd, 1) := by decide +kernel
theorem dX4_spinAll_37 : decode cX4_spinAll 37 = .ok (.iload_n 1, 1) := by decide +kernel
theorem dX4_spinAll_38 : decode cX4_spinAll 38 = .ok (.iload_n 2, 1) := by decide +kernel
theorem dX4_spinAll_39 : decode cX4_spinAll 39 = .ok (.iload_n 1, 1) := by decide +kernel
theorem dX4_spinAll_40 : decode cX4_spinAll 40 = .ok (.isub, 1) := by decide +kernel
theorem dX4_spinAll_41 : decode cX4_spinAll 41 = .ok (.iload_n 3, 1) := by decide +kernel
theorem dX4_spinAll_42 : decode cX4_spinAll 42 = .ok (.imul, 1) := by decide +kernel
theorem dX4_spinAll_43 : decode cX4_spinAll 43 = .ok (.aload_n 0, 1) := by decide +kernel
theorem dX4_spinAll_44 : decode cX4_spinAll 44 = .ok (.getfield 7, 3) := by decide +kernel
theorem dX4_spinAll_47 : decode cX4_spinAll 47 = .ok (.iconst 0, 1) := by decide +kernel
theorem dX4_spinAll_48 : decode cX4_spinAll 48 = .ok (.iaload, 1) := by decide +kernel
theorem dX4_spinAll_49 : decode cX4_spinAll 49 = .ok (.iconst 1, 1) := by decide +kernel
theorem dX4_spinAll_50 : decode cX4_spinAll 50 = .ok (.isub, 1) := by decide +kernel
theorem dX4_spinAll_51 : decode cX4_spinAll 51 = .ok (.idiv, 1) := by decide +kernel
theorem dX4_spinAll_52 : decode cX4_spinAll 52 = .ok (.iadd, 1) := by decide +kernel
theorem dX4_spinAll_53 : decode cX4_spinAll 53 = .ok (.iconst 2, 1) := by decide +kernel
theorem dX4_spinAll_54 : decode cX4_spinAll 54 = .ok (.iload_n 3, 1) := by decide +kernel
theorem dX4_spinAll_55 : decode cX4_spinAll 55 = .ok (.imul, 1) := by decide +kernel
theorem dX4_spinAll_56 : decode cX4_spinAll 56 = .ok (.iconst 1, 1) := by decide +kernel
theorem dX4_spinAll_57 : decode cX4_spinAll 57 = .ok (.iadd, 1) := by decide +kernel
theorem dX4_spinAll_58 : decode cX4_spinAll 58 = .ok (.imul, 1) := by decide +kernel
theorem dX4_spinAll_59 : decode cX4_spinAll 59 = .ok (.iastore, 1) := by decide +kernel
theorem dX4_spinAll_60 : decode cX4_spinAll 60 = .ok (.iinc 3 1, 3) := by decide +kernel
theorem dX4_spinAll_63 : decode cX4_spinAll 63 = .ok (.goto (-44), 3) := by decide +kernel
theorem dX4_spinAll_66 : decode cX4_spinAll 66 = .ok (.aload_n 0, 1) := by decide +kernel
theorem dX4_spinAll_67 : decode cX4_spinAll 67 = .ok (.invokevirtual 64, 3) := by decide +kernel
theorem dX4_spinAll_70 : decode cX4_spinAll 70 = .ok (.ireturn, 1) := by decide +kernel
theorem dX4_dyeAt_0 : decode cX4_dyeAt 0 = .ok (.bipush 24, 2) := by decide +kernel
theorem dX4_dyeAt_2 : decode cX4_dyeAt 2 = .ok (.bipush 12, 2) := by decide +kernel
theorem dX4_dyeAt_4 : decode cX4_dyeAt 4 = .ok (.iconst 2, 1) := by decide +kernel
theorem dX4_dyeAt_5 : decode cX4_dyeAt 5 = .ok (.iload_n 0, 1) := by decide +kernel
theorem dX4_dyeAt_6 : decode cX4_dyeAt 6 = .ok (.imul, 1) := by decide +kernel
theorem dX4_dyeAt_7 : decode cX4_dyeAt 7 = .ok (.iload_n 1, 1) := by decide +kernel
theorem dX4_dyeAt_8 : decode cX4_dyeAt 8 = .ok (.iadd, 1) := by decide +kernel
theorem dX4_dyeAt_9 : decode cX4_dyeAt 9 = .ok (.imul, 1) := by decide +kernel
theorem dX4_dyeAt_10 : decode cX4_dyeAt 10 = .ok (.iload_n 2, 1) := by decide +kernel
theorem dX4_dyeAt_11 : decode cX4_dyeAt 11 = .ok (.iadd, 1) := by decide +kernel
theorem dX4_dyeAt_12 : decode cX4_dyeAt 12 = .ok (.imul, 1) := by decide +kernel
theorem dX4_dyeAt_13 : decode cX4_dyeAt 13 = .ok (.iload_n 3, 1) := by decide +kernel
theorem dX4_dyeAt_14 : decode cX4_dyeAt 14 = .ok (.iadd, 1) := by decide +kernel
theorem dX4_dyeAt_15 : decode cX4_dyeAt 15 = .ok (.ireturn, 1) := by decide +kernel
theorem dX4_cellIn_0 : decode cX4_cellIn 0 = .ok (.iload_n 2, 1) := by decide +kernel
theorem dX4_cellIn_1 : decode cX4_cellIn 1 = .ok (.aload_n 0, 1) := by decide +kernel
theorem dX4_cellIn_2 : decode cX4_cellIn 2 = .ok (.getfield 7, 3) := by decide +kernel
theorem dX4_cellIn_5 : decode cX4_cellIn 5 = .ok (.bipush 21, 2) := by decide +kernel
theorem dX4_cellIn_7 : decode cX4_cellIn 7 = .ok (.iload_n 1, 1) := by decide +kernel
theorem dX4_cellIn_8 : decode cX4_cellIn 8 = .ok (.iadd, 1) := by decide +kernel
theorem dX4_cellIn_9 : decode cX4_cellIn 9 = .ok (.iaload, 1) := by decide +kernel
theorem dX4_cellIn_10 : decode cX4_cellIn 10 = .ok (.sipush 150, 3) := by decide +kernel
theorem dX4_cellIn_13 : decode cX4_cellIn 13 = .ok (.idiv, 1) := by decide +kernel
theorem dX4_cellIn_14 : decode cX4_cellIn 14 = .ok (.isub, 1) := by decide +kernel
theorem dX4_cellIn_15 : decode cX4_cellIn 15 = .ok (.bipush 24, 2) := by decide +kernel
theorem dX4_cellIn_17 : decode cX4_cellIn 17 = .ok (.invokestatic 68, 3) := by decide +kernel
theorem dX4_cellIn_20 : decode cX4_cellIn 20 = .ok (.ireturn, 1) := by decide +kernel
theorem dX4_isPlace_0 : decode cX4_isPlace 0 = .ok (.iload_n 1, 1) := by decide +kernel
theorem dX4_isPlace_1 : decode cX4_isPlace 1 = .ok (.iconst 0, 1) := by decide +kernel
theorem dX4_isPlace_2 : decode cX4_isPlace 2 = .ok (.iconst 2, 1) := by decide +kernel
theorem dX4_isPlace_3 : decode cX4_isPlace 3 = .ok (.invokestatic 39, 3) := by decide +kernel
theorem dX4_isPlace_6 : decode cX4_isPlace 6 = .ok (.ifCond .eq 35, 3) := by decide +kernel
theorem dX4_isPlace_9 : decode cX4_isPlace 9 = .ok (.iload_n 2, 1) := by decide +kernel
theorem dX4_isPlace_10 : decode cX4_isPlace 10 = .ok (.iconst 0, 1) := by decide +kernel
theorem dX4_isPlace_11 : decode cX4_isPlace 11 = .ok (.iconst 1, 1) := by decide +kernel
theorem dX4_isPlace_12 : decode cX4_isPlace 12 = .ok (.invokestatic 39, 3) := by decide +kernel
theorem dX4_isPlace_15 : decode cX4_isPlace 15 = .ok (.ifCond .eq 26, 3) := by decide +kernel
theorem dX4_isPlace_18 : decode cX4_isPlace 18 = .ok (.aload_n 0, 1) := by decide +kernel
theorem dX4_isPlace_19 : decode cX4_isPlace 19 = .ok (.iload_n 3, 1) := by decide +kernel
theorem dX4_isPlace_20 : decode cX4_isPlace 20 = .ok (.invokevirtual 52, 3) := by decide +kernel
theorem dX4_isPlace_23 : decode cX4_isPlace 23 = .ok (.ifCond .eq 18, 3) := by decide +kernel
theorem dX4_isPlace_26 : decode cX4_isPlace 26 = .ok (.iload 4, 2) := by decide +kernel
theorem dX4_isPlace_28 : decode cX4_isPlace 28 = .ok (.iconst 0, 1) := by decide +kernel
theorem dX4_isPlace_29 : decode cX4_isPlace 29 = .ok (.bipush 23, 2) := by decide +kernel
theorem dX4_isPlace_31 : decode cX4_isPlace 31 = .ok (.invokestatic 39, 3) := by decide +kernel
theorem dX4_isPlace_34 : decode cX4_isPlace 34 = .ok (.ifCond .eq 7, 3) := by decide +kernel
theorem dX4_isPlace_37 : decode cX4_isPlace 37 = .ok (.iconst 1, 1) := by decide +kernel
theorem dX4_isPlace_38 : decode cX4_isPlace 38 = .ok (.goto 4, 3) := by decide +kernel
theorem dX4_isPlace_41 : decode cX4_isPlace 41 = .ok (.iconst 0, 1) := by decide +kernel
theorem dX4_isPlace_42 : decode cX4_isPlace 42 = .ok (.ireturn, 1) := by decide +kernel
theorem dX4_amountOf_0 : decode cX4_amountOf 0 = .ok (.iconst 0, 1) := by decide +kernel
theorem dX4_amountOf_1 : decode cX4_amountOf 1 = .ok (.istore 5, 2) := by decide +kernel
theorem dX4_amountOf_3 : decode cX4_amountOf 3 = .ok (.iload_n 3, 1) := by decide +kernel
theorem dX4_amountOf_4 : decode cX4_amountOf 4 = .ok (.istore 6, 2) := by decide +kernel
theorem dX4_amountOf_6 : decode cX4_amountOf 6 = .ok (.iload 6, 2) := by decide +kernel
theorem dX4_amountOf_8 : decode cX4_amountOf 8 = .ok (.iload 4, 2) := by decide +kernel
theorem dX4_amountOf_10 : decode cX4_amountOf 10 = .ok (.if_icmp .gt 48, 3) := by decide +kernel
theorem dX4_amountOf_13 : decode cX4_amountOf 13 = .ok (.iconst 0, 1) := by decide +kernel
theorem dX4_amountOf_14 : decode cX4_amountOf 14 = .ok (.istore 7, 2) := by decide +kernel
theorem dX4_amountOf_16 : decode cX4_amountOf 16 = .ok (.iload 7, 2) := by decide +kernel
theorem dX4_amountOf_18 : decode cX4_amountOf 18 = .ok (.bipush 24, 2) := by decide +kernel
theorem dX4_amountOf_20 : decode cX4_amountOf 20 = .ok (.if_icmp .ge 32, 3) := by decide +kernel
theorem dX4_amountOf_23 : decode cX4_amountOf 23 = .ok (.iload 5, 2) := by decide +kernel
theorem dX4_amountOf_25 : decode cX4_amountOf 25 = .ok (.aload_n 0, 1) := by decide +kernel
theorem dX4_amountOf_26 : decode cX4_amountOf 26 = .ok (.getfield 7, 3) := by decide +kernel
theorem dX4_amountOf_29 : decode cX4_amountOf 29 = .ok (.sipush 658, 3) := by decide +kernel
theorem dX4_amountOf_32 : decode cX4_amountOf 32 = .ok (.iload_n 1, 1) := by decide +kernel
theorem dX4_amountOf_33 : decode cX4_amountOf 33 = .ok (.iload_n 2, 1) := by decide +kernel
theorem dX4_amountOf_34 : decode cX4_amountOf 34 = .ok (.iload 6, 2) := by decide +kernel
theorem dX4_amountOf_36 : decode cX4_amountOf 36 = .ok (.iload 7, 2) := by decide +kernel
theorem dX4_amountOf_38 : decode cX4_amountOf 38 = .ok (.invokestatic 71, 3) := by decide +kernel
theorem dX4_amountOf_41 : decode cX4_amountOf 41 = .ok (.iadd, 1) := by decide +kernel
theorem dX4_amountOf_42 : decode cX4_amountOf 42 = .ok (.iaload, 1) := by decide +kernel
theorem dX4_amountOf_43 : decode cX4_amountOf 43 = .ok (.iadd, 1) := by decide +kernel
theorem dX4_amountOf_44 : decode cX4_amountOf 44 = .ok (.istore 5, 2) := by decide +kernel
theorem dX4_amountOf_46 : decode cX4_amountOf 46 = .ok (.iinc 7 1, 3) := by decide +kernel
theorem dX4_amountOf_49 : decode cX4_amountOf 49 = .ok (.goto (-33), 3) := by decide +kernel
theorem dX4_amountOf_52 : decode cX4_amountOf 52 = .ok (.iinc 6 1, 3) := by decide +kernel
theorem dX4_amountOf_55 : decode cX4_amountOf 55 = .ok (.goto (-49), 3) := by decide +kernel
theorem dX4_amountOf_58 : decode cX4_amountOf 58 = .ok (.iload 5, 2) := by decide +kernel
theorem dX4_amountOf_60 : decode cX4_amountOf 60 = .ok (.ireturn, 1) := by decide +kernel
theorem dX4_allOf_0 : decode cX4_allOf 0 = .ok (.aload_n 0, 1) := by decide +kernel
theorem dX4_allOf_1 : decode cX4_allOf 1 = .ok (.iload_n 1, 1) := by decide +kernel
theorem dX4_allOf_2 : decode cX4_allOf 2 = .ok (.iconst 0, 1) := by decide +kernel
theorem dX4_allOf_3 : decode cX4_allOf 3 = .ok (.iconst 0, 1) := by decide +kernel
theorem dX4_allOf_4 : decode cX4_allOf 4 = .ok (.aload_n 0, 1) := by decide +kernel
theorem dX4_allOf_5 : decode cX4_allOf 5 = .ok (.getfield 7, 3) := by decide +kernel
theorem dX4_allOf_8 : decode cX4_allOf 8 = .ok (.iconst 0, 1) := by decide +kernel
theorem dX4_allOf_9 : decode cX4_allOf 9 = .ok (.iaload, 1) := by decide +kernel
theorem dX4_allOf_10 : decode cX4_allOf 10 = .ok (.iconst 1, 1) := by decide +kernel
theorem dX4_allOf_11 : decode cX4_allOf 11 = .ok (.isub, 1) := by decide +kernel
theorem dX4_allOf_12 : decode cX4_allOf 12 = .ok (.invokevirtual 75, 3) := by decide +kernel
theorem dX4_allOf_15 : decode cX4_allOf 15 = .ok (.aload_n 0, 1) := by decide +kernel
theorem dX4_allOf_16 : decode cX4_allOf 16 = .ok (.iload_n 1, 1) := by decide +kernel
theorem dX4_allOf_17 : decode cX4_allOf 17 = .ok (.iconst 1, 1) := by decide +kernel
theorem dX4_allOf_18 : decode cX4_allOf 18 = .ok (.iconst 0, 1) := by decide +kernel
theorem dX4_allOf_19 : decode cX4_allOf 19 = .ok (.aload_n 0, 1) := by decide +kernel
theorem dX4_allOf_20 : decode cX4_allOf 20 = .ok (.getfield 7, 3) := by decide +kernel
theorem dX4_allOf_23 : decode cX4_allOf 23 = .ok (.iconst 0, 1) := by decide +kernel
theorem dX4_allOf_24 : decode cX4_allOf 24 = .ok (.iaload, 1) := by decide +kernel
theorem dX4_allOf_25 : decode cX4_allOf 25 = .ok (.iconst 1, 1) := by decide +kernel
theorem dX4_allOf_26 : decode cX4_allOf 26 = .ok (.isub, 1) := by decide +kernel
theorem dX4_allOf_27 : decode cX4_allOf 27 = .ok (.invokevirtual 75, 3) := by decide +kernel
theorem dX4_allOf_30 : decode cX4_allOf 30 = .ok (.iadd, 1) := by decide +kernel
theorem dX4_allOf_31 : decode cX4_allOf 31 = .ok (.ireturn, 1) := by decide +kernel
theorem dX4_pour_0 : decode cX4_pour 0 = .ok (.aload_n 0, 1) := by decide +kernel
theorem dX4_pour_1 : decode cX4_pour 1 = .ok (.iload_n 1, 1) := by decide +kernel
theorem dX4_pour_2 : decode cX4_pour 2 = .ok (.iload_n 2, 1) := by decide +kernel
theorem dX4_pour_3 : decode cX4_pour 3 = .ok (.iload_n 3, 1) := by decide +kernel
theorem dX4_pour_4 : decode cX4_pour 4 = .ok (.iload 4, 2) := by decide +kernel
theorem dX4_pour_6 : decode cX4_pour 6 = .ok (.invokevirtual 78, 3) := by decide +kernel
theorem dX4_pour_9 : decode cX4_pour 9 = .ok (.ifCond .ne 5, 3) := by decide +kernel
theorem dX4_pour_12 : decode cX4_pour 12 = .ok (.iconst (-1), 1) := by decide +kernel
theorem dX4_pour_13 : decode cX4_pour 13 = .ok (.ireturn, 1) := by decide +kernel
theorem dX4_pour_14 : decode cX4_pour 14 = .ok (.iload 5, 2) := by decide +kernel
theorem dX4_pour_16 : decode cX4_pour 16 = .ok (.iconst 1, 1) := by decide +kernel
theorem dX4_pour_17 : decode cX4_pour 17 = .ok (.ldc 82, 2) := by decide +kernel
theorem dX4_pour_19 : decode cX4_pour 19 = .ok (.invokestatic 39, 3) := by decide +kernel
theorem dX4_pour_22 : decode cX4_pour 22 = .ok (.ifCond .ne 6, 3) := by decide +kernel
theorem dX4_pour_25 : decode cX4_pour 25 = .ok (.bipush (-2), 2) := by decide +kernel
theorem dX4_pour_27 : decode cX4_pour 27 = .ok (.ireturn, 1) := by decide +kernel
theorem dX4_pour_28 : decode cX4_pour 28 = .ok (.aload_n 0, 1) := by decide +kernel
theorem dX4_pour_29 : decode cX4_pour 29 = .ok (.iload_n 1, 1) := by decide +kernel
theorem dX4_pour_30 : decode cX4_pour 30 = .ok (.invokevirtual 83, 3) := by decide +kernel
theorem dX4_pour_33 : decode cX4_pour 33 = .ok (.iload 5, 2) := by decide +kernel
theorem dX4_pour_35 : decode cX4_pour 35 = .ok (.iadd, 1) := by decide +kernel
theorem dX4_pour_36 : decode cX4_pour 36 = .ok (.istore 6, 2) := by decide +kernel
theorem dX4_pour_38 : decode cX4_pour 38 = .ok (.iload 6, 2) := by decide +kernel
theorem dX4_pour_40 : decode cX4_pour 40 = .ok (.ldc 86, 2) := by decide +kernel
theorem dX4_pour_42 : decode cX4_pour 42 = .ok (.if_icmp .le 6, 3) := by decide +kernel
theorem dX4_pour_45 : decode cX4_pour 45 = .ok (.bipush (-4), 2) := by decide +kernel
theorem dX4_pour_47 : decode cX4_pour 47 = .ok (.ireturn, 1) := by decide +kernel
theorem dX4_pour_48 : decode cX4_pour 48 = .ok (.aload_n 0, 1) := by decide +kernel
theorem dX4_pour_49 : decode cX4_pour 49 = .ok (.getfield 7, 3) := by decide +kernel
theorem dX4_pour_52 : decode cX4_pour 52 = .ok (.sipush 658, 3) := by decide +kernel
theorem dX4_pour_55 : decode cX4_pour 55 = .ok (.iload_n 1, 1) := by decide +kernel
theorem dX4_pour_56 : decode cX4_pour 56 = .ok (.iload_n 2, 1) := by decide +kernel
theorem dX4_pour_57 : decode cX4_pour 57 = .ok (.iload_n 3, 1) := by decide +kernel
theorem dX4_pour_58 : decode cX4_pour 58 = .ok (.aload_n 0, 1) := by decide +kernel
theorem dX4_pour_59 : decode cX4_pour 59 = .ok (.iload_n 3, 1) := by decide +kernel
theorem dX4_pour_60 : decode cX4_pour 60 = .ok (.iload 4, 2) := by decide +kernel
theorem dX4_pour_62 : decode cX4_pour 62 = .ok (.invokevirtual 87, 3) := by decide +kernel
theorem dX4_pour_65 : decode cX4_pour 65 = .ok (.invokestatic 71, 3) := by decide +kernel
theorem dX4_pour_68 : decode cX4_pour 68 = .ok (.iadd, 1) := by decide +kernel
theorem dX4_pour_69 : decode cX4_pour 69 = .ok (.dup2, 1) := by decide +kernel
theorem dX4_pour_70 : decode cX4_pour 70 = .ok (.iaload, 1) := by decide +kernel
theorem dX4_pour_71 : decode cX4_pour 71 = .ok (.iload 5, 2) := by decide +kernel
theorem dX4_pour_73 : decode cX4_pour 73 = .ok (.iadd, 1) := by decide +kernel
theorem dX4_pour_74 : decode cX4_pour 74 = .ok (.iastore, 1) := by decide +kernel
theorem dX4_pour_75 : decode cX4_pour 75 = .ok (.iload 6, 2) := by decide +kernel
theorem dX4_pour_77 : decode cX4_pour 77 = .ok (.ireturn, 1) := by decide +kernel
theorem dX4_stepMomenta_0 : decode cX4_stepMomenta 0 = .ok (.aload_n 0, 1) := by decide +kernel
theorem dX4_stepMomenta_1 : decode cX4_stepMomenta 1 = .ok (.getfield 7, 3) := by decide +kernel
theorem dX4_stepMomenta_4 : decode cX4_stepMomenta 4 = .ok (.iconst 0, 1) := by decide +kernel
theorem dX4_stepMomenta_5 : decode cX4_stepMomenta 5 = .ok (.iaload, 1) := by decide +kernel
theorem dX4_stepMomenta_6 : decode cX4_stepMomenta 6 = .ok (.istore_n 1, 1) := by decide +kernel
theorem dX4_stepMomenta_7 : decode cX4_stepMomenta 7 = .ok (.iconst 0, 1) := by decide +kernel
theorem dX4_stepMomenta_8 : decode cX4_stepMomenta 8 = .ok (.istore_n 2, 1) := by decide +kernel
theorem dX4_stepMomenta_9 : decode cX4_stepMomenta 9 = .ok (.iload_n 2, 1) := by decide +kernel
theorem dX4_stepMomenta_10 : decode cX4_stepMomenta 10 = .ok (.iload_n 1, 1) := by decide +kernel
theorem dX4_stepMomenta_11 : decode cX4_stepMomenta 11 = .ok (.if_icmp .ge 20, 3) := by decide +kernel
theorem dX4_stepMomenta_14 : decode cX4_stepMomenta 14 = .ok (.aload_n 0, 1) := by decide +kernel
theorem dX4_stepMomenta_15 : decode cX4_stepMomenta 15 = .ok (.getfield 26, 3) := by decide +kernel
theorem dX4_stepMomenta_18 : decode cX4_stepMomenta 18 = .ok (.iload_n 2, 1) := by decide +kernel
theorem dX4_stepMomenta_19 : decode cX4_stepMomenta 19 = .ok (.aload_n 0, 1) := by decide +kernel
theorem dX4_stepMomenta_20 : decode cX4_stepMomenta 20 = .ok (.iload_n 2, 1) := by decide +kernel
theorem dX4_stepMomenta_21 : decode cX4_stepMomenta 21 = .ok (.invokevirtual 60, 3) := by decide +kernel
theorem dX4_stepMomenta_24 : decode cX4_stepMomenta 24 = .ok (.iastore, 1) := by decide +kernel
theorem dX4_stepMomenta_25 : decode cX4_stepMomenta 25 = .ok (.iinc 2 1, 3) := by decide +kernel
theorem dX4_stepMomenta_28 : decode cX4_stepMomenta 28 = .ok (.goto (-19), 3) := by decide +kernel
theorem dX4_stepMomenta_31 : decode cX4_stepMomenta 31 = .ok (.iconst 0, 1) := by decide +kernel
theorem dX4_stepMomenta_32 : decode cX4_stepMomenta 32 = .ok (.istore_n 2, 1) := by decide +kernel
theorem dX4_stepMomenta_33 : decode cX4_stepMomenta 33 = .ok (.iload_n 2, 1) := by decide +kernel
theorem dX4_stepMomenta_34 : decode cX4_stepMomenta 34 = .ok (.iload_n 1, 1) := by decide +kernel
theorem dX4_stepMomenta_35 : decode cX4_stepMomenta 35 = .ok (.if_icmp .ge 113, 3) := by decide +kernel
theorem dX4_stepMomenta_38 : decode cX4_stepMomenta 38 = .ok (.iload_n 2, 1) := by decide +kernel
theorem dX4_stepMomenta_39 : decode cX4_stepMomenta 39 = .ok (.iconst 1, 1) := by decide +kernel
theorem dX4_stepMomenta_40 : decode cX4_stepMomenta 40 = .ok (.iadd, 1) := by decide +kernel
theorem dX4_stepMomenta_41 : decode cX4_stepMomenta 41 = .ok (.iload_n 1, 1) := by decide +kernel
theorem dX4_stepMomenta_42 : decode cX4_stepMomenta 42 = .ok (.if_icmp .ge 57, 3) := by decide +kernel
theorem dX4_stepMomenta_45 : decode cX4_stepMomenta 45 = .ok (.aload_n 0, 1) := by decide +kernel
theorem dX4_stepMomenta_46 : decode cX4_stepMomenta 46 = .ok (.getfield 7, 3) := by decide +kernel
theorem dX4_stepMomenta_49 : decode cX4_stepMomenta 49 = .ok (.iconst 2, 1) := by decide +kernel
theorem dX4_stepMomenta_50 : decode cX4_stepMomenta 50 = .ok (.iaload, 1) := by decide +kernel
theorem dX4_stepMomenta_51 : decode cX4_stepMomenta 51 = .ok (.aload_n 0, 1) := by decide +kernel
theorem dX4_stepMomenta_52 : decode cX4_stepMomenta 52 = .ok (.getfield 26, 3) := by decide +kernel
theorem dX4_stepMomenta_55 : decode cX4_stepMomenta 55 = .ok (.iload_n 2, 1) := by decide +kernel
theorem dX4_stepMomenta_56 : decode cX4_stepMomenta 56 = .ok (.iaload, 1) := by decide +kernel
theorem dX4_stepMomenta_57 : decode cX4_stepMomenta 57 = .ok (.aload_n 0, 1) := by decide +kernel
theorem dX4_stepMomenta_58 : decode cX4_stepMomenta 58 = .ok (.getfield 26, 3) := by decide +kernel
theorem dX4_stepMomenta_61 : decode cX4_stepMomenta 61 = .ok (.iload_n 2, 1) := by decide +kernel
theorem dX4_stepMomenta_62 : decode cX4_stepMomenta 62 = .ok (.iconst 1, 1) := by decide +kernel
theorem dX4_stepMomenta_63 : decode cX4_stepMomenta 63 = .ok (.iadd, 1) := by decide +kernel
theorem dX4_stepMomenta_64 : decode cX4_stepMomenta 64 = .ok (.iaload, 1) := by decide +kernel
theorem dX4_stepMomenta_65 : decode cX4_stepMomenta 65 = .ok (.isub, 1) := by decide +kernel
theorem dX4_stepMomenta_66 : decode cX4_stepMomenta 66 = .ok (.imul, 1) := by decide +kernel
theorem dX4_stepMomenta_67 : decode cX4_stepMomenta 67 = .ok (.bipush 100, 2) := by decide +kernel
theorem dX4_stepMomenta_69 : decode cX4_stepMomenta 69 = .ok (.idiv, 1) := by decide +kernel
theorem dX4_stepMomenta_70 : decode cX4_stepMomenta 70 = .ok (.istore_n 3, 1) := by decide +kernel
theorem dX4_stepMomenta_71 : decode cX4_stepMomenta 71 = .ok (.aload_n 0, 1) := by decide +kernel
theorem dX4_stepMomenta_72 : decode cX4_stepMomenta 72 = .ok (.getfield 7, 3) := by decide +kernel
theorem dX4_stepMomenta_75 : decode cX4_stepMomenta 75 = .ok (.bipush 9, 2) := by decide +kernel
theorem dX4_stepMomenta_77 : decode cX4_stepMomenta 77 = .ok (.iload_n 2, 1) := by decide +kernel
theorem dX4_stepMomenta_78 : decode cX4_stepMomenta 78 = .ok (.iadd, 1) := by decide +kernel
theorem dX4_stepMomenta_79 : decode cX4_stepMomenta 79 = .ok (.dup2, 1) := by decide +kernel
theorem dX4_stepMomenta_80 : decode cX4_stepMomenta 80 = .ok (.iaload, 1) := by decide +kernel
theorem dX4_stepMomenta_81 : decode cX4_stepMomenta 81 = .ok (.iload_n 3, 1) := by decide +kernel
theorem dX4_stepMomenta_82 : decode cX4_stepMomenta 82 = .ok (.isub, 1) := by decide +kernel
theorem dX4_stepMomenta_83 : decode cX4_stepMomenta 83 = .ok (.iastore, 1) := by decide +kernel
theorem dX4_stepMomenta_84 : decode cX4_stepMomenta 84 = .ok (.aload_n 0, 1) := by decide +kernel
theorem dX4_stepMomenta_85 : decode cX4_stepMomenta 85 = .ok (.getfield 7, 3) := by decide +kernel
theorem dX4_stepMomenta_88 : decode cX4_stepMomenta 88 = .ok (.bipush 9, 2) := by decide +kernel
theorem dX4_stepMomenta_90 : decode cX4_stepMomenta 90 = .ok (.iload_n 2, 1) := by decide +kernel
theorem dX4_stepMomenta_91 : decode cX4_stepMomenta 91 = .ok (.iadd, 1) := by decide +kernel
theorem dX4_stepMomenta_92 : decode cX4_stepMomenta 92 = .ok (.iconst 1, 1) := by decide +kernel
theorem dX4_stepMomenta_93 : decode cX4_stepMomenta 93 = .ok (.iadd, 1) := by decide +kernel
theorem dX4_stepMomenta_94 : decode cX4_stepMomenta 94 = .ok (.dup2, 1) := by decide +kernel
theorem dX4_stepMomenta_95 : decode cX4_stepMomenta 95 = .ok (.iaload, 1) := by decide +kernel
theorem dX4_stepMomenta_96 : decode cX4_stepMomenta 96 = .ok (.iload_n 3, 1) := by decide +kernel
theorem dX4_stepMomenta_97 : decode cX4_stepMomenta 97 = .ok (.iadd, 1) := by decide +kernel
theorem dX4_stepMomenta_98 : decode cX4_stepMomenta 98 = .ok (.iastore, 1) := by decide +kernel
theorem dX4_stepMomenta_99 : decode cX4_stepMomenta 99 = .ok (.aload_n 0, 1) := by decide +kernel
theorem dX4_stepMomenta_100 : decode cX4_stepMomenta 100 = .ok (.getfield 7, 3) := by decide +kernel
theorem dX4_stepMomenta_103 : decode cX4_stepMomenta 103 = .ok (.bipush 9, 2) := by decide +kernel
theorem dX4_stepMomenta_105 : decode cX4_stepMomenta 105 = .ok (.iload_n 2, 1) := by decide +kernel
theorem dX4_stepMomenta_106 : decode cX4_stepMomenta 106 = .ok (.iadd, 1) := by decide +kernel
theorem dX4_stepMomenta_107 : decode cX4_stepMomenta 107 = .ok (.dup2, 1) := by decide +kernel
theorem dX4_stepMomenta_108 : decode cX4_stepMomenta 108 = .ok (.iaload, 1) := by decide +kernel
theorem dX4_stepMomenta_109 : decode cX4_stepMomenta 109 = .ok (.aload_n 0, 1) := by decide +kernel
theorem dX4_stepMomenta_110 : decode cX4_stepMomenta 110 = .ok (.getfield 7, 3) := by decide +kernel
theorem dX4_stepMomenta_113 : decode cX4_stepMomenta 113 = .ok (.iconst 5, 1) := by decide +kernel
theorem dX4_stepMomenta_114 : decode cX4_stepMomenta 114 = .ok (.iaload, 1) := by decide +kernel
theorem dX4_stepMomenta_115 : decode cX4_stepMomenta 115 = .ok (.aload_n 0, 1) := by decide +kernel
theorem dX4_stepMomenta_116 : decode cX4_stepMomenta 116 = .ok (.getfield 7, 3) := by decide +kernel
theorem dX4_stepMomenta_119 : decode cX4_stepMomenta 119 = .ok (.bipush 6, 2) := by decide +kernel
theorem dX4_stepMomenta_121 : decode cX4_stepMomenta 121 = .ok (.iaload, 1) := by decide +kernel
theorem dX4_stepMomenta_122 : decode cX4_stepMomenta 122 = .ok (.aload_n 0, 1) := by decide +kernel
theorem dX4_stepMomenta_123 : decode cX4_stepMomenta 123 = .ok (.getfield 26, 3) := by decide +kernel
theorem dX4_stepMomenta_126 : decode cX4_stepMomenta 126 = .ok (.iload_n 2, 1) := by decide +kernel
theorem dX4_stepMomenta_127 : decode cX4_stepMomenta 127 = .ok (.iaload, 1) := by decide +kernel
theorem dX4_stepMomenta_128 : decode cX4_stepMomenta 128 = .ok (.isub, 1) := by decide +kernel
theorem dX4_stepMomenta_129 : decode cX4_stepMomenta 129 = .ok (.imul, 1) := by decide +kernel
theorem dX4_stepMomenta_130 : decode cX4_stepMomenta 130 = .ok (.iconst 2, 1) := by decide +kernel
theorem dX4_stepMomenta_131 : decode cX4_stepMomenta 131 = .ok (.iload_n 2, 1) := by decide +kernel
theorem dX4_stepMomenta_132 : decode cX4_stepMomenta 132 = .ok (.imul, 1) := by decide +kernel
theorem dX4_stepMomenta_133 : decode cX4_stepMomenta 133 = .ok (.iconst 1, 1) := by decide +kernel
theorem dX4_stepMomenta_134 : decode cX4_stepMomenta 134 = .ok (.iadd, 1) := by decide +kernel
theorem dX4_stepMomenta_135 : decode cX4_stepMomenta 135 = .ok (.imul, 1) := by decide +kernel
theorem dX4_stepMomenta_136 : decode cX4_stepMomenta 136 = .ok (.sipush 1000, 3) := by decide +kernel
theorem dX4_stepMomenta_139 : decode cX4_stepMomenta 139 = .ok (.idiv, 1) := by decide +kernel
theorem dX4_stepMomenta_140 : decode cX4_stepMomenta 140 = .ok (.iadd, 1) := by decide +kernel
theorem dX4_stepMomenta_141 : decode cX4_stepMomenta 141 = .ok (.iastore, 1) := by decide +kernel
theorem dX4_stepMomenta_142 : decode cX4_stepMomenta 142 = .ok (.iinc 2 1, 3) := by decide +kernel
theorem dX4_stepMomenta_145 : decode cX4_stepMomenta 145 = .ok (.goto (-112), 3) := by decide +kernel
theorem dX4_stepMomenta_148 : decode cX4_stepMomenta 148 = .ok (.aload_n 0, 1) := by decide +kernel
theorem dX4_stepMomenta_149 : decode cX4_stepMomenta 149 = .ok (.getfield 7, 3) := by decide +kernel
theorem dX4_stepMomenta_152 : decode cX4_stepMomenta 152 = .ok (.bipush 9, 2) := by decide +kernel
theorem dX4_stepMomenta_154 : decode cX4_stepMomenta 154 = .ok (.iload_n 1, 1) := by decide +kernel
theorem dX4_stepMomenta_155 : decode cX4_stepMomenta 155 = .ok (.iadd, 1) := by decide +kernel
theorem dX4_stepMomenta_156 : decode cX4_stepMomenta 156 = .ok (.iconst 1, 1) := by decide +kernel
theorem dX4_stepMomenta_157 : decode cX4_stepMomenta 157 = .ok (.isub, 1) := by decide +kernel
theorem dX4_stepMomenta_158 : decode cX4_stepMomenta 158 = .ok (.dup2, 1) := by decide +kernel
theorem dX4_stepMomenta_159 : decode cX4_stepMomenta 159 = .ok (.iaload, 1) := by decide +kernel
theorem dX4_stepMomenta_160 : decode cX4_stepMomenta 160 = .ok (.aload_n 0, 1) := by decide +kernel
theorem dX4_stepMomenta_161 : decode cX4_stepMomenta 161 = .ok (.getfield 7, 3) := by decide +kernel
theorem dX4_stepMomenta_164 : decode cX4_stepMomenta 164 = .ok (.iconst 3, 1) := by decide +kernel
theorem dX4_stepMomenta_165 : decode cX4_stepMomenta 165 = .ok (.iaload, 1) := by decide +kernel
theorem dX4_stepMomenta_166 : decode cX4_stepMomenta 166 = .ok (.aload_n 0, 1) := by decide +kernel
theorem dX4_stepMomenta_167 : decode cX4_stepMomenta 167 = .ok (.getfield 7, 3) := by decide +kernel
theorem dX4_stepMomenta_170 : decode cX4_stepMomenta 170 = .ok (.iconst 4, 1) := by decide +kernel
theorem dX4_stepMomenta_171 : decode cX4_stepMomenta 171 = .ok (.iaload, 1) := by decide +kernel
theorem dX4_stepMomenta_172 : decode cX4_stepMomenta 172 = .ok (.aload_n 0, 1) := by decide +kernel
theorem dX4_stepMomenta_173 : decode cX4_stepMomenta 173 = .ok (.getfield 26, 3) := by decide +kernel
theorem dX4_stepMomenta_176 : decode cX4_stepMomenta 176 = .ok (.iload_n 1, 1) := by decide +kernel
theorem dX4_stepMomenta_177 : decode cX4_stepMomenta 177 = .ok (.iconst 1, 1) := by decide +kernel
theorem dX4_stepMomenta_178 : decode cX4_stepMomenta 178 = .ok (.isub, 1) := by decide +kernel
theorem dX4_stepMomenta_179 : decode cX4_stepMomenta 179 = .ok (.iaload, 1) := by decide +kernel
theorem dX4_stepMomenta_180 : decode cX4_stepMomenta 180 = .ok (.isub, 1) := by decide +kernel
theorem dX4_stepMomenta_181 : decode cX4_stepMomenta 181 = .ok (.imul, 1) := by decide +kernel
theorem dX4_stepMomenta_182 : decode cX4_stepMomenta 182 = .ok (.bipush 100, 2) := by decide +kernel
theorem dX4_stepMomenta_184 : decode cX4_stepMomenta 184 = .ok (.idiv, 1) := by decide +kernel
theorem dX4_stepMomenta_185 : decode cX4_stepMomenta 185 = .ok (.iadd, 1) := by decide +kernel
theorem dX4_stepMomenta_186 : decode cX4_stepMomenta 186 = .ok (.iastore, 1) := by decide +kernel
theorem dX4_stepMomenta_187 : decode cX4_stepMomenta 187 = .ok (.return_, 1) := by decide +kernel
theorem dX4_push_0 : decode cX4_push 0 = .ok (.aload_n 0, 1) := by decide +kernel
theorem dX4_push_1 : decode cX4_push 1 = .ok (.getfield 7, 3) := by decide +kernel
theorem dX4_push_4 : decode cX4_push 4 = .ok (.bipush 7, 2) := by decide +kernel
theorem dX4_push_6 : decode cX4_push 6 = .ok (.iaload, 1) := by decide +kernel
theorem dX4_push_7 : decode cX4_push 7 = .ok (.aload_n 0, 1) := by decide +kernel
theorem dX4_push_8 : decode cX4_push 8 = .ok (.iload_n 1, 1) := by decide +kernel
theorem dX4_push_9 : decode cX4_push 9 = .ok (.invokevirtual 60, 3) := by decide +kernel
theorem dX4_push_12 : decode cX4_push 12 = .ok (.aload_n 0, 1) := by decide +kernel
theorem dX4_push_13 : decode cX4_push 13 = .ok (.getfield 7, 3) := by decide +kernel
theorem dX4_push_16 : decode cX4_push 16 = .ok (.bipush 6, 2) := by decide +kernel
theorem dX4_push_18 : decode cX4_push 18 = .ok (.iaload, 1) := by decide +kernel
theorem dX4_push_19 : decode cX4_push 19 = .ok (.isub, 1) := by decide +kernel
theorem dX4_push_20 : decode cX4_push 20 = .ok (.imul, 1) := by decide +kernel
theorem dX4_push_21 : decode cX4_push 21 = .ok (.bipush 100, 2) := by decide +kernel
theorem dX4_push_23 : decode cX4_push 23 = .ok (.idiv, 1) := by decide +kernel
theorem dX4_push_24 : decode cX4_push 24 = .ok (.istore_n 2, 1) := by decide +kernel
theorem dX4_push_25 : decode cX4_push 25 = .ok (.iload_n 2, 1) := by decide +kernel
theorem dX4_push_26 : decode cX4_push 26 = .ok (.sipush (-500), 3) := by decide +kernel
theorem dX4_push_29 : decode cX4_push 29 = .ok (.if_icmp .ge 9, 3) := by decide +kernel
theorem dX4_push_32 : decode cX4_push 32 = .ok (.sipush (-500), 3) := by decide +kernel
theorem dX4_push_35 : decode cX4_push 35 = .ok (.goto 17, 3) := by decide +kernel
theorem dX4_push_38 : decode cX4_push 38 = .ok (.iload_n 2, 1) := by decide +kernel
theorem dX4_push_39 : decode cX4_push 39 = .ok (.sipush 500, 3) := by decide +kernel
theorem dX4_push_42 : decode cX4_push 42 = .ok (.if_icmp .le 9, 3) := by decide +kernel
theorem dX4_push_45 : decode cX4_push 45 = .ok (.sipush 500, 3) := by decide +kernel
theorem dX4_push_48 : decode cX4_push 48 = .ok (.goto 4, 3) := by decide +kernel
theorem dX4_push_51 : decode cX4_push 51 = .ok (.iload_n 2, 1) := by decide +kernel
theorem dX4_push_52 : decode cX4_push 52 = .ok (.ireturn, 1) := by decide +kernel
theorem dX4_stepRing_0 : decode cX4_stepRing 0 = .ok (.iload_n 3, 1) := by decide +kernel
theorem dX4_stepRing_1 : decode cX4_stepRing 1 = .ok (.ifCond .le 7, 3) := by decide +kernel
theorem dX4_stepRing_4 : decode cX4_stepRing 4 = .ok (.iconst 1, 1) := by decide +kernel
theorem dX4_stepRing_5 : decode cX4_stepRing 5 = .ok (.goto 4, 3) := by decide +kernel
theorem dX4_stepRing_8 : decode cX4_stepRing 8 = .ok (.iconst 0, 1) := by decide +kernel
theorem dX4_stepRing_9 : decode cX4_stepRing 9 = .ok (.iload_n 2, 1) := by decide +kernel
theorem dX4_stepRing_10 : decode cX4_stepRing 10 = .ok (.iconst 1, 1) := by decide +kernel
theorem dX4_stepRing_11 : decode cX4_stepRing 11 = .ok (.if_icmp .ne 7, 3) := by decide +kernel
theorem dX4_stepRing_14 : decode cX4_stepRing 14 = .ok (.iconst 1, 1) := by decide +kernel
theorem dX4_stepRing_15 : decode cX4_stepRing 15 = .ok (.goto 4, 3) := by decide +kernel
theorem dX4_stepRing_18 : decode cX4_stepRing 18 = .ok (.iconst 0, 1) := by decide +kernel
theorem dX4_stepRing_19 : decode cX4_stepRing 19 = .ok (.if_icmp .ne 7, 3) := by decide +kernel
theorem dX4_stepRing_22 : decode cX4_stepRing 22 = .ok (.iconst 1, 1) := by decide +kernel
theorem dX4_stepRing_23 : decode cX4_stepRing 23 = .ok (.goto 4, 3) := by decide +kernel
theorem dX4_stepRing_26 : decode cX4_stepRing 26 = .ok (.iconst 0, 1) := by decide +kernel
theorem dX4_stepRing_27 : decode cX4_stepRing 27 = .ok (.istore 4, 2) := by decide +kernel
theorem dX4_stepRing_29 : decode cX4_stepRing 29 = .ok (.iload 4, 2) := by decide +kernel
theorem dX4_stepRing_31 : decode cX4_stepRing 31 = .ok (.ifCond .eq 9, 3) := by decide +kernel
theorem dX4_stepRing_34 : decode cX4_stepRing 34 = .ok (.iload_n 1, 1) := by decide +kernel
theorem dX4_stepRing_35 : decode cX4_stepRing 35 = .ok (.iconst 1, 1) := by decide +kernel
theorem dX4_stepRing_36 : decode cX4_stepRing 36 = .ok (.isub, 1) := by decide +kernel
theorem dX4_stepRing_37 : decode cX4_stepRing 37 = .ok (.goto 6, 3) := by decide +kernel
theorem dX4_stepRing_40 : decode cX4_stepRing 40 = .ok (.iload_n 1, 1) := by decide +kernel
theorem dX4_stepRing_41 : decode cX4_stepRing 41 = .ok (.iconst 1, 1) := by decide +kernel
theorem dX4_stepRing_42 : decode cX4_stepRing 42 = .ok (.iadd, 1) := by decide +kernel
theorem dX4_stepRing_43 : decode cX4_stepRing 43 = .ok (.istore 5, 2) := by decide +kernel
theorem dX4_stepRing_45 : decode cX4_stepRing 45 = .ok (.iload_n 3, 1) := by decide +kernel
theorem dX4_stepRing_46 : decode cX4_stepRing 46 = .ok (.ifCond .eq 12, 3) := by decide +kernel
theorem dX4_stepRing_49 : decode cX4_stepRing 49 = .ok (.aload_n 0, 1) := by decide +kernel
theorem dX4_stepRing_50 : decode cX4_stepRing 50 = .ok (.iload 5, 2) := by decide +kernel
theorem dX4_stepRing_52 : decode cX4_stepRing 52 = .ok (.invokevirtual 52, 3) := by decide +kernel
theorem dX4_stepRing_55 : decode cX4_stepRing 55 = .ok (.ifCond .ne 4, 3) := by decide +kernel
theorem dX4_stepRing_58 : decode cX4_stepRing 58 = .ok (.return_, 1) := by decide +kernel
theorem dX4_stepRing_59 : decode cX4_stepRing 59 = .ok (.iload_n 3, 1) := by decide +kernel
theorem dX4_stepRing_60 : decode cX4_stepRing 60 = .ok (.ifCond .ge 8, 3) := by decide +kernel
theorem dX4_stepRing_63 : decode cX4_stepRing 63 = .ok (.iload_n 3, 1) := by decide +kernel
theorem dX4_stepRing_64 : decode cX4_stepRing 64 = .ok (.ineg, 1) := by decide +kernel
theorem dX4_stepRing_65 : decode cX4_stepRing 65 = .ok (.goto 4, 3) := by decide +kernel
theorem dX4_stepRing_68 : decode cX4_stepRing 68 = .ok (.iload_n 3, 1) := by decide +kernel
theorem dX4_stepRing_69 : decode cX4_stepRing 69 = .ok (.istore 6, 2) := by decide +kernel
theorem dX4_stepRing_71 : decode cX4_stepRing 71 = .ok (.iconst 0, 1) := by decide +kernel
theorem dX4_stepRing_72 : decode cX4_stepRing 72 = .ok (.istore 7, 2) := by decide +kernel
theorem dX4_stepRing_74 : decode cX4_stepRing 74 = .ok (.iload 7, 2) := by decide +kernel
theorem dX4_stepRing_76 : decode cX4_stepRing 76 = .ok (.bipush 24, 2) := by decide +kernel
theorem dX4_stepRing_78 : decode cX4_stepRing 78 = .ok (.if_icmp .ge 121, 3) := by decide +kernel
theorem dX4_stepRing_81 : decode cX4_stepRing 81 = .ok (.aload_n 0, 1) := by decide +kernel
theorem dX4_stepRing_82 : decode cX4_stepRing 82 = .ok (.iload 5, 2) := by decide +kernel
theorem dX4_stepRing_84 : decode cX4_stepRing 84 = .ok (.iload 7, 2) := by decide +kernel
theorem dX4_stepRing_86 : decode cX4_stepRing 86 = .ok (.aload_n 0, 1) := by decide +kernel
theorem dX4_stepRing_87 : decode cX4_stepRing 87 = .ok (.getfield 7, 3) := by decide +kernel
theorem dX4_stepRing_90 : decode cX4_stepRing 90 = .ok (.bipush 21, 2) := by decide +kernel
theorem dX4_stepRing_92 : decode cX4_stepRing 92 = .ok (.iload_n 1, 1) := by decide +kernel
theorem dX4_stepRing_93 : decode cX4_stepRing 93 = .ok (.iadd, 1) := by decide +kernel
theorem dX4_stepRing_94 : decode cX4_stepRing 94 = .ok (.iaload, 1) := by decide +kernel
theorem dX4_stepRing_95 : decode cX4_stepRing 95 = .ok (.sipush 150, 3) := by decide +kernel
theorem dX4_stepRing_98 : decode cX4_stepRing 98 = .ok (.idiv, 1) := by decide +kernel
theorem dX4_stepRing_99 : decode cX4_stepRing 99 = .ok (.iadd, 1) := by decide +kernel
theorem dX4_stepRing_100 : decode cX4_stepRing 100 = .ok (.bipush 24, 2) := by decide +kernel
theorem dX4_stepRing_102 : decode cX4_stepRing 102 = .ok (.irem, 1) := by decide +kernel
theorem dX4_stepRing_103 : decode cX4_stepRing 103 = .ok (.invokevirtual 87, 3) := by decide +kernel
theorem dX4_stepRing_106 : decode cX4_stepRing 106 = .ok (.istore 8, 2) := by decide +kernel
theorem dX4_stepRing_108 : decode cX4_stepRing 108 = .ok (.iconst 0, 1) := by decide +kernel
theorem dX4_stepRing_109 : decode cX4_stepRing 109 = .ok (.istore 9, 2) := by decide +kernel
theorem dX4_stepRing_111 : decode cX4_stepRing 111 = .ok (.iload 9, 2) := by decide +kernel
theorem dX4_stepRing_113 : decode cX4_stepRing 113 = .ok (.iconst 3, 1) := by decide +kernel
theorem dX4_stepRing_114 : decode cX4_stepRing 114 = .ok (.if_icmp .ge 79, 3) := by decide +kernel
theorem dX4_stepRing_117 : decode cX4_stepRing 117 = .ok (.iload 9, 2) := by decide +kernel
theorem dX4_stepRing_119 : decode cX4_stepRing 119 = .ok (.iload_n 2, 1) := by decide +kernel
theorem dX4_stepRing_120 : decode cX4_stepRing 120 = .ok (.iload_n 1, 1) := by decide +kernel
theorem dX4_stepRing_121 : decode cX4_stepRing 121 = .ok (.iload 7, 2) := by decide +kernel
theorem dX4_stepRing_123 : decode cX4_stepRing 123 = .ok (.invokestatic 71, 3) := by decide +kernel
theorem dX4_stepRing_126 : decode cX4_stepRing 126 = .ok (.istore 10, 2) := by decide +kernel
theorem dX4_stepRing_128 : decode cX4_stepRing 128 = .ok (.aload_n 0, 1) := by decide +kernel
theorem dX4_stepRing_129 : decode cX4_stepRing 129 = .ok (.getfield 23, 3) := by decide +kernel
theorem dX4_stepRing_132 : decode cX4_stepRing 132 = .ok (.iload 10, 2) := by decide +kernel
theorem dX4_stepRing_134 : decode cX4_stepRing 134 = .ok (.iaload, 1) := by decide +kernel
theorem dX4_stepRing_135 : decode cX4_stepRing 135 = .ok (.i2l, 1) := by decide +kernel
theorem dX4_stepRing_136 : decode cX4_stepRing 136 = .ok (.iload 6, 2) := by decide +kernel
theorem dX4_stepRing_138 : decode cX4_stepRing 138 = .ok (.i2l, 1) := by decide +kernel
theorem dX4_stepRing_139 : decode cX4_stepRing 139 = .ok (.lmul, 1) := by decide +kernel
theorem dX4_stepRing_140 : decode cX4_stepRing 140 = .ok (.ldc2_w 90, 3) := by decide +kernel
theorem dX4_stepRing_143 : decode cX4_stepRing 143 = .ok (.ldiv, 1) := by decide +kernel
theorem dX4_stepRing_144 : decode cX4_stepRing 144 = .ok (.l2i, 1) := by decide +kernel
theorem dX4_stepRing_145 : decode cX4_stepRing 145 = .ok (.istore 11, 2) := by decide +kernel
theorem dX4_stepRing_147 : decode cX4_stepRing 147 = .ok (.aload_n 0, 1) := by decide +kernel
theorem dX4_stepRing_148 : decode cX4_stepRing 148 = .ok (.getfield 7, 3) := by decide +kernel
theorem dX4_stepRing_151 : decode cX4_stepRing 151 = .ok (.sipush 658, 3) := by decide +kernel
theorem dX4_stepRing_154 : decode cX4_stepRing 154 = .ok (.iload 10, 2) := by decide +kernel
theorem dX4_stepRing_156 : decode cX4_stepRing 156 = .ok (.iadd, 1) := by decide +kernel
theorem dX4_stepRing_157 : decode cX4_stepRing 157 = .ok (.dup2, 1) := by decide +kernel
theorem dX4_stepRing_158 : decode cX4_stepRing 158 = .ok (.iaload, 1) := by decide +kernel
theorem dX4_stepRing_159 : decode cX4_stepRing 159 = .ok (.iload 11, 2) := by decide +kernel
theorem dX4_stepRing_161 : decode cX4_stepRing 161 = .ok (.isub, 1) := by decide +kernel
theorem dX4_stepRing_162 : decode cX4_stepRing 162 = .ok (.iastore, 1) := by decide +kernel
theorem dX4_stepRing_163 : decode cX4_stepRing 163 = .ok (.aload_n 0, 1) := by decide +kernel
theorem dX4_stepRing_164 : decode cX4_stepRing 164 = .ok (.getfield 7, 3) := by decide +kernel
theorem dX4_stepRing_167 : decode cX4_stepRing 167 = .ok (.sipush 658, 3) := by decide +kernel
theorem dX4_stepRing_170 : decode cX4_stepRing 170 = .ok (.iload 9, 2) := by decide +kernel
theorem dX4_stepRing_172 : decode cX4_stepRing 172 = .ok (.iload_n 2, 1) := by decide +kernel
theorem dX4_stepRing_173 : decode cX4_stepRing 173 = .ok (.iload 5, 2) := by decide +kernel
theorem dX4_stepRing_175 : decode cX4_stepRing 175 = .ok (.iload 8, 2) := by decide +kernel
theorem dX4_stepRing_177 : decode cX4_stepRing 177 = .ok (.invokestatic 71, 3) := by decide +kernel
theorem dX4_stepRing_180 : decode cX4_stepRing 180 = .ok (.iadd, 1) := by decide +kernel
theorem dX4_stepRing_181 : decode cX4_stepRing 181 = .ok (.dup2, 1) := by decide +kernel
theorem dX4_stepRing_182 : decode cX4_stepRing 182 = .ok (.iaload, 1) := by decide +kernel
theorem dX4_stepRing_183 : decode cX4_stepRing 183 = .ok (.iload 11, 2) := by decide +kernel
theorem dX4_stepRing_185 : decode cX4_stepRing 185 = .ok (.iadd, 1) := by decide +kernel
theorem dX4_stepRing_186 : decode cX4_stepRing 186 = .ok (.iastore, 1) := by decide +kernel
theorem dX4_stepRing_187 : decode cX4_stepRing 187 = .ok (.iinc 9 1, 3) := by decide +kernel
theorem dX4_stepRing_190 : decode cX4_stepRing 190 = .ok (.goto (-79), 3) := by decide +kernel
theorem dX4_stepRing_193 : decode cX4_stepRing 193 = .ok (.iinc 7 1, 3) := by decide +kernel
theorem dX4_stepRing_196 : decode cX4_stepRing 196 = .ok (.goto (-122), 3) := by decide +kernel
theorem dX4_stepRing_199 : decode cX4_stepRing 199 = .ok (.return_, 1) := by decide +kernel
theorem dX4_stepDyes_0 : decode cX4_stepDyes 0 = .ok (.iconst 0, 1) := by decide +kernel
theorem dX4_stepDyes_1 : decode cX4_stepDyes 1 = .ok (.istore_n 1, 1) := by decide +kernel
theorem dX4_stepDyes_2 : decode cX4_stepDyes 2 = .ok (.iload_n 1, 1) := by decide +kernel
theorem dX4_stepDyes_3 : decode cX4_stepDyes 3 = .ok (.sipush 1728, 3) := by decide +kernel
theorem dX4_stepDyes_6 : decode cX4_stepDyes 6 = .ok (.if_icmp .ge 25, 3) := by decide +kernel
theorem dX4_stepDyes_9 : decode cX4_stepDyes 9 = .ok (.aload_n 0, 1) := by decide +kernel
theorem dX4_stepDyes_10 : decode cX4_stepDyes 10 = .ok (.getfield 23, 3) := by decide +kernel
theorem dX4_stepDyes_13 : decode cX4_stepDyes 13 = .ok (.iload_n 1, 1) := by decide +kernel
theorem dX4_stepDyes_14 : decode cX4_stepDyes 14 = .ok (.aload_n 0, 1) := by decide +kernel
theorem dX4_stepDyes_15 : decode cX4_stepDyes 15 = .ok (.getfield 7, 3) := by decide +kernel
theorem dX4_stepDyes_18 : decode cX4_stepDyes 18 = .ok (.sipush 658, 3) := by decide +kernel
theorem dX4_stepDyes_21 : decode cX4_stepDyes 21 = .ok (.iload_n 1, 1) := by decide +kernel
theorem dX4_stepDyes_22 : decode cX4_stepDyes 22 = .ok (.iadd, 1) := by decide +kernel
theorem dX4_stepDyes_23 : decode cX4_stepDyes 23 = .ok (.iaload, 1) := by decide +kernel
theorem dX4_stepDyes_24 : decode cX4_stepDyes 24 = .ok (.iastore, 1) := by decide +kernel
theorem dX4_stepDyes_25 : decode cX4_stepDyes 25 = .ok (.iinc 1 1, 3) := by decide +kernel
theorem dX4_stepDyes_28 : decode cX4_stepDyes 28 = .ok (.goto (-26), 3) := by decide +kernel
theorem dX4_stepDyes_31 : decode cX4_stepDyes 31 = .ok (.iconst 0, 1) := by decide +kernel
theorem dX4_stepDyes_32 : decode cX4_stepDyes 32 = .ok (.istore_n 1, 1) := by decide +kernel
theorem dX4_stepDyes_33 : decode cX4_stepDyes 33 = .ok (.iload_n 1, 1) := by decide +kernel
theorem dX4_stepDyes_34 : decode cX4_stepDyes 34 = .ok (.aload_n 0, 1) := by decide +kernel
theorem dX4_stepDyes_35 : decode cX4_stepDyes 35 = .ok (.getfield 7, 3) := by decide +kernel
theorem dX4_stepDyes_38 : decode cX4_stepDyes 38 = .ok (.iconst 0, 1) := by decide +kernel
theorem dX4_stepDyes_39 : decode cX4_stepDyes 39 = .ok (.iaload, 1) := by decide +kernel
theorem dX4_stepDyes_40 : decode cX4_stepDyes 40 = .ok (.if_icmp .ge 31, 3) := by decide +kernel
theorem dX4_stepDyes_43 : decode cX4_stepDyes 43 = .ok (.aload_n 0, 1) := by decide +kernel
theorem dX4_stepDyes_44 : decode cX4_stepDyes 44 = .ok (.iload_n 1, 1) := by decide +kernel
theorem dX4_stepDyes_45 : decode cX4_stepDyes 45 = .ok (.iconst 0, 1) := by decide +kernel
theorem dX4_stepDyes_46 : decode cX4_stepDyes 46 = .ok (.aload_n 0, 1) := by decide +kernel
theorem dX4_stepDyes_47 : decode cX4_stepDyes 47 = .ok (.iload_n 1, 1) := by decide +kernel
theorem dX4_stepDyes_48 : decode cX4_stepDyes 48 = .ok (.invokevirtual 92, 3) := by decide +kernel
theorem dX4_stepDyes_51 : decode cX4_stepDyes 51 = .ok (.invokevirtual 95, 3) := by decide +kernel
theorem dX4_stepDyes_54 : decode cX4_stepDyes 54 = .ok (.aload_n 0, 1) := by decide +kernel
theorem dX4_stepDyes_55 : decode cX4_stepDyes 55 = .ok (.iload_n 1, 1) := by decide +kernel
theorem dX4_stepDyes_56 : decode cX4_stepDyes 56 = .ok (.iconst 1, 1) := by decide +kernel
theorem dX4_stepDyes_57 : decode cX4_stepDyes 57 = .ok (.aload_n 0, 1) := by decide +kernel
theorem dX4_stepDyes_58 : decode cX4_stepDyes 58 = .ok (.iload_n 1, 1) := by decide +kernel
theorem dX4_stepDyes_59 : decode cX4_stepDyes 59 = .ok (.invokevirtual 92, 3) := by decide +kernel
theorem dX4_stepDyes_62 : decode cX4_stepDyes 62 = .ok (.invokevirtual 95, 3) := by decide +kernel
theorem dX4_stepDyes_65 : decode cX4_stepDyes 65 = .ok (.iinc 1 1, 3) := by decide +kernel
theorem dX4_stepDyes_68 : decode cX4_stepDyes 68 = .ok (.goto (-35), 3) := by decide +kernel
theorem dX4_stepDyes_71 : decode cX4_stepDyes 71 = .ok (.return_, 1) := by decide +kernel
theorem dX4_mix_0 : decode cX4_mix 0 = .ok (.iconst 0, 1) := by decide +kernel
theorem dX4_mix_1 : decode cX4_mix 1 = .ok (.istore_n 1, 1) := by decide +kernel
theorem dX4_mix_2 : decode cX4_mix 2 = .ok (.iload_n 1, 1) := by decide +kernel
theorem dX4_mix_3 : decode cX4_mix 3 = .ok (.iconst 3, 1) := by decide +kernel
theorem dX4_mix_4 : decode cX4_mix 4 = .ok (.if_icmp .ge 113, 3) := by decide +kernel
theorem dX4_mix_7 : decode cX4_mix 7 = .ok (.iconst 0, 1) := by decide +kernel
theorem dX4_mix_8 : decode cX4_mix 8 = .ok (.istore_n 2, 1) := by decide +kernel
theorem dX4_mix_9 : decode cX4_mix 9 = .ok (.iload_n 2, 1) := by decide +kernel
theorem dX4_mix_10 : decode cX4_mix 10 = .ok (.bipush 24, 2) := by decide +kernel
theorem dX4_mix_12 : decode cX4_mix 12 = .ok (.aload_n 0, 1) := by decide +kernel
theorem dX4_mix_13 : decode cX4_mix 13 = .ok (.getfield 7, 3) := by decide +kernel
theorem dX4_mix_16 : decode cX4_mix 16 = .ok (.iconst 0, 1) := by decide +kernel
theorem dX4_mix_17 : decode cX4_mix 17 = .ok (.iaload, 1) := by decide +kernel
theorem dX4_mix_18 : decode cX4_mix 18 = .ok (.imul, 1) := by decide +kernel
theorem dX4_mix_19 : decode cX4_mix 19 = .ok (.if_icmp .ge 92, 3) := by decide +kernel
theorem dX4_mix_22 : decode cX4_mix 22 = .ok (.sipush 658, 3) := by decide +kernel
theorem dX4_mix_25 : decode cX4_mix 25 = .ok (.iload_n 1, 1) := by decide +kernel
theorem dX4_mix_26 : decode cX4_mix 26 = .ok (.iconst 0, 1) := by decide +kernel
theorem dX4_mix_27 : decode cX4_mix 27 = .ok (.iconst 0, 1) := by decide +kernel
theorem dX4_mix_28 : decode cX4_mix 28 = .ok (.iconst 0, 1) := by decide +kernel
theorem dX4_mix_29 : decode cX4_mix 29 = .ok (.invokestatic 71, 3) := by decide +kernel
theorem dX4_mix_32 : decode cX4_mix 32 = .ok (.iadd, 1) := by decide +kernel
theorem dX4_mix_33 : decode cX4_mix 33 = .ok (.iload_n 2, 1) := by decide +kernel
theorem dX4_mix_34 : decode cX4_mix 34 = .ok (.iadd, 1) := by decide +kernel
theorem dX4_mix_35 : decode cX4_mix 35 = .ok (.istore_n 3, 1) := by decide +kernel
theorem dX4_mix_36 : decode cX4_mix 36 = .ok (.sipush 658, 3) := by decide +kernel
theorem dX4_mix_39 : decode cX4_mix 39 = .ok (.iload_n 1, 1) := by decide +kernel
theorem dX4_mix_40 : decode cX4_mix 40 = .ok (.iconst 1, 1) := by decide +kernel
theorem dX4_mix_41 : decode cX4_mix 41 = .ok (.iconst 0, 1) := by decide +kernel
theorem dX4_mix_42 : decode cX4_mix 42 = .ok (.iconst 0, 1) := by decide +kernel
theorem dX4_mix_43 : decode cX4_mix 43 = .ok (.invokestatic 71, 3) := by decide +kernel
theorem dX4_mix_46 : decode cX4_mix 46 = .ok (.iadd, 1) := by decide +kernel
theorem dX4_mix_47 : decode cX4_mix 47 = .ok (.iload_n 2, 1) := by decide +kernel
theorem dX4_mix_48 : decode cX4_mix 48 = .ok (.iadd, 1) := by decide +kernel
theorem dX4_mix_49 : decode cX4_mix 49 = .ok (.istore 4, 2) := by decide +kernel
theorem dX4_mix_51 : decode cX4_mix 51 = .ok (.aload_n 0, 1) := by decide +kernel
theorem dX4_mix_52 : decode cX4_mix 52 = .ok (.getfield 7, 3) := by decide +kernel
theorem dX4_mix_55 : decode cX4_mix 55 = .ok (.iload_n 3, 1) := by decide +kernel
theorem dX4_mix_56 : decode cX4_mix 56 = .ok (.iaload, 1) := by decide +kernel
theorem dX4_mix_57 : decode cX4_mix 57 = .ok (.aload_n 0, 1) := by decide +kernel
theorem dX4_mix_58 : decode cX4_mix 58 = .ok (.getfield 7, 3) := by decide +kernel
theorem dX4_mix_61 : decode cX4_mix 61 = .ok (.iload 4, 2) := by decide +kernel
theorem dX4_mix_63 : decode cX4_mix 63 = .ok (.iaload, 1) := by decide +kernel
theorem dX4_mix_64 : decode cX4_mix 64 = .ok (.isub, 1) := by decide +kernel
theorem dX4_mix_65 : decode cX4_mix 65 = .ok (.i2l, 1) := by decide +kernel
theorem dX4_mix_66 : decode cX4_mix 66 = .ok (.aload_n 0, 1) := by decide +kernel
theorem dX4_mix_67 : decode cX4_mix 67 = .ok (.getfield 7, 3) := by decide +kernel
theorem dX4_mix_70 : decode cX4_mix 70 = .ok (.bipush 8, 2) := by decide +kernel
theorem dX4_mix_72 : decode cX4_mix 72 = .ok (.iaload, 1) := by decide +kernel
theorem dX4_mix_73 : decode cX4_mix 73 = .ok (.i2l, 1) := by decide +kernel
theorem dX4_mix_74 : decode cX4_mix 74 = .ok (.lmul, 1) := by decide +kernel
theorem dX4_mix_75 : decode cX4_mix 75 = .ok (.ldc2_w 99, 3) := by decide +kernel
theorem dX4_mix_78 : decode cX4_mix 78 = .ok (.ldiv, 1) := by decide +kernel
theorem dX4_mix_79 : decode cX4_mix 79 = .ok (.l2i, 1) := by decide +kernel
theorem dX4_mix_80 : decode cX4_mix 80 = .ok (.istore 5, 2) := by decide +kernel
theorem dX4_mix_82 : decode cX4_mix 82 = .ok (.aload_n 0, 1) := by decide +kernel
theorem dX4_mix_83 : decode cX4_mix 83 = .ok (.getfield 7, 3) := by decide +kernel
theorem dX4_mix_86 : decode cX4_mix 86 = .ok (.iload_n 3, 1) := by decide +kernel
theorem dX4_mix_87 : decode cX4_mix 87 = .ok (.dup2, 1) := by decide +kernel
theorem dX4_mix_88 : decode cX4_mix 88 = .ok (.iaload, 1) := by decide +kernel
theorem dX4_mix_89 : decode cX4_mix 89 = .ok (.iload 5, 2) := by decide +kernel
theorem dX4_mix_91 : decode cX4_mix 91 = .ok (.isub, 1) := by decide +kernel
theorem dX4_mix_92 : decode cX4_mix 92 = .ok (.iastore, 1) := by decide +kernel
theorem dX4_mix_93 : decode cX4_mix 93 = .ok (.aload_n 0, 1) := by decide +kernel
theorem dX4_mix_94 : decode cX4_mix 94 = .ok (.getfield 7, 3) := by decide +kernel
theorem dX4_mix_97 : decode cX4_mix 97 = .ok (.iload 4, 2) := by decide +kernel
theorem dX4_mix_99 : decode cX4_mix 99 = .ok (.dup2, 1) := by decide +kernel
theorem dX4_mix_100 : decode cX4_mix 100 = .ok (.iaload, 1) := by decide +kernel
theorem dX4_mix_101 : decode cX4_mix 101 = .ok (.iload 5, 2) := by decide +kernel
theorem dX4_mix_103 : decode cX4_mix 103 = .ok (.iadd, 1) := by decide +kernel
theorem dX4_mix_104 : decode cX4_mix 104 = .ok (.iastore, 1) := by decide +kernel
theorem dX4_mix_105 : decode cX4_mix 105 = .ok (.iinc 2 1, 3) := by decide +kernel
theorem dX4_mix_108 : decode cX4_mix 108 = .ok (.goto (-99), 3) := by decide +kernel
theorem dX4_mix_111 : decode cX4_mix 111 = .ok (.iinc 1 1, 3) := by decide +kernel
theorem dX4_mix_114 : decode cX4_mix 114 = .ok (.goto (-112), 3) := by decide +kernel
theorem dX4_mix_117 : decode cX4_mix 117 = .ok (.return_, 1) := by decide +kernel
theorem dX4_stepMarker_0 : decode cX4_stepMarker 0 = .ok (.bipush 34, 2) := by decide +kernel
theorem dX4_stepMarker_2 : decode cX4_stepMarker 2 = .ok (.bipush 104, 2) := by decide +kernel
theorem dX4_stepMarker_4 : decode cX4_stepMarker 4 = .ok (.iload_n 1, 1) := by decide +kernel
theorem dX4_stepMarker_5 : decode cX4_stepMarker 5 = .ok (.imul, 1) := by decide +kernel
theorem dX4_stepMarker_6 : decode cX4_stepMarker 6 = .ok (.iadd, 1) := by decide +kernel
theorem dX4_stepMarker_7 : decode cX4_stepMarker 7 = .ok (.istore_n 2, 1) := by decide +kernel
theorem dX4_stepMarker_8 : decode cX4_stepMarker 8 = .ok (.aload_n 0, 1) := by decide +kernel
theorem dX4_stepMarker_9 : decode cX4_stepMarker 9 = .ok (.getfield 7, 3) := by decide +kernel
theorem dX4_stepMarker_12 : decode cX4_stepMarker 12 = .ok (.iload_n 2, 1) := by decide +kernel
theorem dX4_stepMarker_13 : decode cX4_stepMarker 13 = .ok (.iconst 0, 1) := by decide +kernel
theorem dX4_stepMarker_14 : decode cX4_stepMarker 14 = .ok (.iadd, 1) := by decide +kernel
theorem dX4_stepMarker_15 : decode cX4_stepMarker 15 = .ok (.iaload, 1) := by decide +kernel
theorem dX4_stepMarker_16 : decode cX4_stepMarker 16 = .ok (.sipush 1000, 3) := by decide +kernel
theorem dX4_stepMarker_19 : decode cX4_stepMarker 19 = .ok (.idiv, 1) := by decide +kernel
theorem dX4_stepMarker_20 : decode cX4_stepMarker 20 = .ok (.istore_n 3, 1) := by decide +kernel
theorem dX4_stepMarker_21 : decode cX4_stepMarker 21 = .ok (.aload_n 0, 1) := by decide +kernel
theorem dX4_stepMarker_22 : decode cX4_stepMarker 22 = .ok (.getfield 7, 3) := by decide +kernel
theorem dX4_stepMarker_25 : decode cX4_stepMarker 25 = .ok (.iload_n 2, 1) := by decide +kernel
theorem dX4_stepMarker_26 : decode cX4_stepMarker 26 = .ok (.iconst 0, 1) := by decide +kernel
theorem dX4_stepMarker_27 : decode cX4_stepMarker 27 = .ok (.iadd, 1) := by decide +kernel
theorem dX4_stepMarker_28 : decode cX4_stepMarker 28 = .ok (.iaload, 1) := by decide +kernel
theorem dX4_stepMarker_29 : decode cX4_stepMarker 29 = .ok (.aload_n 0, 1) := by decide +kernel
theorem dX4_stepMarker_30 : decode cX4_stepMarker 30 = .ok (.iload_n 3, 1) := by decide +kernel
theorem dX4_stepMarker_31 : decode cX4_stepMarker 31 = .ok (.invokevirtual 92, 3) := by decide +kernel
theorem dX4_stepMarker_34 : decode cX4_stepMarker 34 = .ok (.iadd, 1) := by decide +kernel
theorem dX4_stepMarker_35 : decode cX4_stepMarker 35 = .ok (.istore 4, 2) := by decide +kernel
theorem dX4_stepMarker_37 : decode cX4_stepMarker 37 = .ok (.iload 4, 2) := by decide +kernel
theorem dX4_stepMarker_39 : decode cX4_stepMarker 39 = .ok (.ifCond .ge 7, 3) := by decide +kernel
theorem dX4_stepMarker_42 : decode cX4_stepMarker 42 = .ok (.iconst 0, 1) := by decide +kernel
theorem dX4_stepMarker_43 : decode cX4_stepMarker 43 = .ok (.goto 37, 3) := by decide +kernel
theorem dX4_stepMarker_46 : decode cX4_stepMarker 46 = .ok (.iload 4, 2) := by decide +kernel
theorem dX4_stepMarker_48 : decode cX4_stepMarker 48 = .ok (.sipush 1000, 3) := by decide +kernel
theorem dX4_stepMarker_51 : decode cX4_stepMarker 51 = .ok (.aload_n 0, 1) := by decide +kernel
theorem dX4_stepMarker_52 : decode cX4_stepMarker 52 = .ok (.getfield 7, 3) := by decide +kernel
theorem dX4_stepMarker_55 : decode cX4_stepMarker 55 = .ok (.iconst 0, 1) := by decide +kernel
theorem dX4_stepMarker_56 : decode cX4_stepMarker 56 = .ok (.iaload, 1) := by decide +kernel
theorem dX4_stepMarker_57 : decode cX4_stepMarker 57 = .ok (.imul, 1) := by decide +kernel
theorem dX4_stepMarker_58 : decode cX4_stepMarker 58 = .ok (.iconst 1, 1) := by decide +kernel
theorem dX4_stepMarker_59 : decode cX4_stepMarker 59 = .ok (.isub, 1) := by decide +kernel
theorem dX4_stepMarker_60 : decode cX4_stepMarker 60 = .ok (.if_icmp .le 18, 3) := by decide +kernel
theorem dX4_stepMarker_63 : decode cX4_stepMarker 63 = .ok (.sipush 1000, 3) := by decide +kernel
theorem dX4_stepMarker_66 : decode cX4_stepMarker 66 = .ok (.aload_n 0, 1) := by decide +kernel
theorem dX4_stepMarker_67 : decode cX4_stepMarker 67 = .ok (.getfield 7, 3) := by decide +kernel
theorem dX4_stepMarker_70 : decode cX4_stepMarker 70 = .ok (.iconst 0, 1) := by decide +kernel
theorem dX4_stepMarker_71 : decode cX4_stepMarker 71 = .ok (.iaload, 1) := by decide +kernel
theorem dX4_stepMarker_72 : decode cX4_stepMarker 72 = .ok (.imul, 1) := by decide +kernel
theorem dX4_stepMarker_73 : decode cX4_stepMarker 73 = .ok (.iconst 1, 1) := by decide +kernel
theorem dX4_stepMarker_74 : decode cX4_stepMarker 74 = .ok (.isub, 1) := by decide +kernel
theorem dX4_stepMarker_75 : decode cX4_stepMarker 75 = .ok (.goto 5, 3) := by decide +kernel
theorem dX4_stepMarker_78 : decode cX4_stepMarker 78 = .ok (.iload 4, 2) := by decide +kernel
theorem dX4_stepMarker_80 : decode cX4_stepMarker 80 = .ok (.istore 4, 2) := by decide +kernel
theorem dX4_stepMarker_82 : decode cX4_stepMarker 82 = .ok (.aload_n 0, 1) := by decide +kernel
theorem dX4_stepMarker_83 : decode cX4_stepMarker 83 = .ok (.getfield 7, 3) := by decide +kernel
theorem dX4_stepMarker_86 : decode cX4_stepMarker 86 = .ok (.iload_n 2, 1) := by decide +kernel
theorem dX4_stepMarker_87 : decode cX4_stepMarker 87 = .ok (.iconst 1, 1) := by decide +kernel
theorem dX4_stepMarker_88 : decode cX4_stepMarker 88 = .ok (.iadd, 1) := by decide +kernel
theorem dX4_stepMarker_89 : decode cX4_stepMarker 89 = .ok (.aload_n 0, 1) := by decide +kernel
theorem dX4_stepMarker_90 : decode cX4_stepMarker 90 = .ok (.getfield 7, 3) := by decide +kernel
theorem dX4_stepMarker_93 : decode cX4_stepMarker 93 = .ok (.iload_n 2, 1) := by decide +kernel
theorem dX4_stepMarker_94 : decode cX4_stepMarker 94 = .ok (.iconst 1, 1) := by decide +kernel
theorem dX4_stepMarker_95 : decode cX4_stepMarker 95 = .ok (.iadd, 1) := by decide +kernel
theorem dX4_stepMarker_96 : decode cX4_stepMarker 96 = .ok (.iaload, 1) := by decide +kernel
theorem dX4_stepMarker_97 : decode cX4_stepMarker 97 = .ok (.aload_n 0, 1) := by decide +kernel
theorem dX4_stepMarker_98 : decode cX4_stepMarker 98 = .ok (.iload_n 3, 1) := by decide +kernel
theorem dX4_stepMarker_99 : decode cX4_stepMarker 99 = .ok (.invokevirtual 60, 3) := by decide +kernel
theorem dX4_stepMarker_102 : decode cX4_stepMarker 102 = .ok (.iadd, 1) := by decide +kernel
theorem dX4_stepMarker_103 : decode cX4_stepMarker 103 = .ok (.sipush 3600, 3) := by decide +kernel
theorem dX4_stepMarker_106 : decode cX4_stepMarker 106 = .ok (.invokestatic 68, 3) := by decide +kernel
theorem dX4_stepMarker_109 : decode cX4_stepMarker 109 = .ok (.iastore, 1) := by decide +kernel
theorem dX4_stepMarker_110 : decode cX4_stepMarker 110 = .ok (.aload_n 0, 1) := by decide +kernel
theorem dX4_stepMarker_111 : decode cX4_stepMarker 111 = .ok (.getfield 7, 3) := by decide +kernel
theorem dX4_stepMarker_114 : decode cX4_stepMarker 114 = .ok (.iload_n 2, 1) := by decide +kernel
theorem dX4_stepMarker_115 : decode cX4_stepMarker 115 = .ok (.iconst 0, 1) := by decide +kernel
theorem dX4_stepMarker_116 : decode cX4_stepMarker 116 = .ok (.iadd, 1) := by decide +kernel
theorem dX4_stepMarker_117 : decode cX4_stepMarker 117 = .ok (.iload 4, 2) := by decide +kernel
theorem dX4_stepMarker_119 : decode cX4_stepMarker 119 = .ok (.iastore, 1) := by decide +kernel
theorem dX4_stepMarker_120 : decode cX4_stepMarker 120 = .ok (.aload_n 0, 1) := by decide +kernel
theorem dX4_stepMarker_121 : decode cX4_stepMarker 121 = .ok (.getfield 7, 3) := by decide +kernel
theorem dX4_stepMarker_124 : decode cX4_stepMarker 124 = .ok (.iload_n 2, 1) := by decide +kernel
theorem dX4_stepMarker_125 : decode cX4_stepMarker 125 = .ok (.iconst 3, 1) := by decide +kernel
theorem dX4_stepMarker_126 : decode cX4_stepMarker 126 = .ok (.iadd, 1) := by decide +kernel
theorem dX4_stepMarker_127 : decode cX4_stepMarker 127 = .ok (.dup2, 1) := by decide +kernel
theorem dX4_stepMarker_128 : decode cX4_stepMarker 128 = .ok (.iaload, 1) := by decide +kernel
theorem dX4_stepMarker_129 : decode cX4_stepMarker 129 = .ok (.iload 4, 2) := by decide +kernel
theorem dX4_stepMarker_131 : decode cX4_stepMarker 131 = .ok (.sipush 1000, 3) := by decide +kernel
theorem dX4_stepMarker_134 : decode cX4_stepMarker 134 = .ok (.idiv, 1) := by decide +kernel
theorem dX4_stepMarker_135 : decode cX4_stepMarker 135 = .ok (.iload_n 3, 1) := by decide +kernel
theorem dX4_stepMarker_136 : decode cX4_stepMarker 136 = .ok (.if_icmp .eq 7, 3) := by decide +kernel
theorem dX4_stepMarker_139 : decode cX4_stepMarker 139 = .ok (.iconst 1, 1) := by decide +kernel
theorem dX4_stepMarker_140 : decode cX4_stepMarker 140 = .ok (.goto 4, 3) := by decide +kernel
theorem dX4_stepMarker_143 : decode cX4_stepMarker 143 = .ok (.iconst 0, 1) := by decide +kernel
theorem dX4_stepMarker_144 : decode cX4_stepMarker 144 = .ok (.iadd, 1) := by decide +kernel
theorem dX4_stepMarker_145 : decode cX4_stepMarker 145 = .ok (.iastore, 1) := by decide +kernel
theorem dX4_stepMarker_146 : decode cX4_stepMarker 146 = .ok (.iload_n 2, 1) := by decide +kernel
theorem dX4_stepMarker_147 : decode cX4_stepMarker 147 = .ok (.iconst 4, 1) := by decide +kernel
theorem dX4_stepMarker_148 : decode cX4_stepMarker 148 = .ok (.iadd, 1) := by decide +kernel
theorem dX4_stepMarker_149 : decode cX4_stepMarker 149 = .ok (.iconst 2, 1) := by decide +kernel
theorem dX4_stepMarker_150 : decode cX4_stepMarker 150 = .ok (.aload_n 0, 1) := by decide +kernel
theorem dX4_stepMarker_151 : decode cX4_stepMarker 151 = .ok (.getfield 7, 3) := by decide +kernel
theorem dX4_stepMarker_154 : decode cX4_stepMarker 154 = .ok (.iload_n 2, 1) := by decide +kernel
theorem dX4_stepMarker_155 : decode cX4_stepMarker 155 = .ok (.iconst 2, 1) := by decide +kernel
theorem dX4_stepMarker_156 : decode cX4_stepMarker 156 = .ok (.iadd, 1) := by decide +kernel
theorem dX4_stepMarker_157 : decode cX4_stepMarker 157 = .ok (.iaload, 1) := by decide +kernel
theorem dX4_stepMarker_158 : decode cX4_stepMarker 158 = .ok (.bipush 50, 2) := by decide +kernel
theorem dX4_stepMarker_160 : decode cX4_stepMarker 160 = .ok (.irem, 1) := by decide +kernel
theorem dX4_stepMarker_161 : decode cX4_stepMarker 161 = .ok (.imul, 1) := by decide +kernel
theorem dX4_stepMarker_162 : decode cX4_stepMarker 162 = .ok (.iadd, 1) := by decide +kernel
theorem dX4_stepMarker_163 : decode cX4_stepMarker 163 = .ok (.istore 5, 2) := by decide +kernel
theorem dX4_stepMarker_165 : decode cX4_stepMarker 165 = .ok (.aload_n 0, 1) := by decide +kernel
theorem dX4_stepMarker_166 : decode cX4_stepMarker 166 = .ok (.getfield 7, 3) := by decide +kernel
theorem dX4_stepMarker_169 : decode cX4_stepMarker 169 = .ok (.iload 5, 2) := by decide +kernel
theorem dX4_stepMarker_171 : decode cX4_stepMarker 171 = .ok (.iload 4, 2) := by decide +kernel
theorem dX4_stepMarker_173 : decode cX4_stepMarker 173 = .ok (.iastore, 1) := by decide +kernel
theorem dX4_stepMarker_174 : decode cX4_stepMarker 174 = .ok (.aload_n 0, 1) := by decide +kernel
theorem dX4_stepMarker_175 : decode cX4_stepMarker 175 = .ok (.getfield 7, 3) := by decide +kernel
theorem dX4_stepMarker_178 : decode cX4_stepMarker 178 = .ok (.iload 5, 2) := by decide +kernel
theorem dX4_stepMarker_180 : decode cX4_stepMarker 180 = .ok (.iconst 1, 1) := by decide +kernel
theorem dX4_stepMarker_181 : decode cX4_stepMarker 181 = .ok (.iadd, 1) := by decide +kernel
theorem dX4_stepMarker_182 : decode cX4_stepMarker 182 = .ok (.aload_n 0, 1) := by decide +kernel
theorem dX4_stepMarker_183 : decode cX4_stepMarker 183 = .ok (.getfield 7, 3) := by decide +kernel
theorem dX4_stepMarker_186 : decode cX4_stepMarker 186 = .ok (.iload_n 2, 1) := by decide +kernel
theorem dX4_stepMarker_187 : decode cX4_stepMarker 187 = .ok (.iconst 1, 1) := by decide +kernel
theorem dX4_stepMarker_188 : decode cX4_stepMarker 188 = .ok (.iadd, 1) := by decide +kernel
theorem dX4_stepMarker_189 : decode cX4_stepMarker 189 = .ok (.iaload, 1) := by decide +kernel
theorem dX4_stepMarker_190 : decode cX4_stepMarker 190 = .ok (.iastore, 1) := by decide +kernel
theorem dX4_stepMarker_191 : decode cX4_stepMarker 191 = .ok (.aload_n 0, 1) := by decide +kernel
theorem dX4_stepMarker_192 : decode cX4_stepMarker 192 = .ok (.getfield 7, 3) := by decide +kernel
theorem dX4_stepMarker_195 : decode cX4_stepMarker 195 = .ok (.iload_n 2, 1) := by decide +kernel
theorem dX4_stepMarker_196 : decode cX4_stepMarker 196 = .ok (.iconst 2, 1) := by decide +kernel
theorem dX4_stepMarker_197 : decode cX4_stepMarker 197 = .ok (.iadd, 1) := by decide +kernel
theorem dX4_stepMarker_198 : decode cX4_stepMarker 198 = .ok (.dup2, 1) := by decide +kernel
theorem dX4_stepMarker_199 : decode cX4_stepMarker 199 = .ok (.iaload, 1) := by decide +kernel
theorem dX4_stepMarker_200 : decode cX4_stepMarker 200 = .ok (.iconst 1, 1) := by decide +kernel
theorem dX4_stepMarker_201 : decode cX4_stepMarker 201 = .ok (.iadd, 1) := by decide +kernel
theorem dX4_stepMarker_202 : decode cX4_stepMarker 202 = .ok (.iastore, 1) := by decide +kernel
theorem dX4_stepMarker_203 : decode cX4_stepMarker 203 = .ok (.return_, 1) := by decide +kernel
theorem dX4_makeTick_0 : decode cX4_makeTick 0 = .ok (.aload_n 0, 1) := by decide +kernel
theorem dX4_makeTick_1 : decode cX4_makeTick 1 = .ok (.invokevirtual 101, 3) := by decide +kernel
theorem dX4_makeTick_4 : decode cX4_makeTick 4 = .ok (.iconst 0, 1) := by decide +kernel
theorem dX4_makeTick_5 : decode cX4_makeTick 5 = .ok (.istore_n 1, 1) := by decide +kernel
theorem dX4_makeTick_6 : decode cX4_makeTick 6 = .ok (.iload_n 1, 1) := by decide +kernel
theorem dX4_makeTick_7 : decode cX4_makeTick 7 = .ok (.aload_n 0, 1) := by decide +kernel
theorem dX4_makeTick_8 : decode cX4_makeTick 8 = .ok (.getfield 7, 3) := by decide +kernel
theorem dX4_makeTick_11 : decode cX4_makeTick 11 = .ok (.iconst 0, 1) := by decide +kernel
theorem dX4_makeTick_12 : decode cX4_makeTick 12 = .ok (.iaload, 1) := by decide +kernel
theorem dX4_makeTick_13 : decode cX4_makeTick 13 = .ok (.if_icmp .ge 39, 3) := by decide +kernel
theorem dX4_makeTick_16 : decode cX4_makeTick 16 = .ok (.aload_n 0, 1) := by decide +kernel
theorem dX4_makeTick_17 : decode cX4_makeTick 17 = .ok (.getfield 7, 3) := by decide +kernel
theorem dX4_makeTick_20 : decode cX4_makeTick 20 = .ok (.bipush 21, 2) := by decide +kernel
theorem dX4_makeTick_22 : decode cX4_makeTick 22 = .ok (.iload_n 1, 1) := by decide +kernel
theorem dX4_makeTick_23 : decode cX4_makeTick 23 = .ok (.iadd, 1) := by decide +kernel
theorem dX4_makeTick_24 : decode cX4_makeTick 24 = .ok (.aload_n 0, 1) := by decide +kernel
theorem dX4_makeTick_25 : decode cX4_makeTick 25 = .ok (.getfield 7, 3) := by decide +kernel
theorem dX4_makeTick_28 : decode cX4_makeTick 28 = .ok (.bipush 21, 2) := by decide +kernel
theorem dX4_makeTick_30 : decode cX4_makeTick 30 = .ok (.iload_n 1, 1) := by decide +kernel
theorem dX4_makeTick_31 : decode cX4_makeTick 31 = .ok (.iadd, 1) := by decide +kernel
theorem dX4_makeTick_32 : decode cX4_makeTick 32 = .ok (.iaload, 1) := by decide +kernel
theorem dX4_makeTick_33 : decode cX4_makeTick 33 = .ok (.aload_n 0, 1) := by decide +kernel
theorem dX4_makeTick_34 : decode cX4_makeTick 34 = .ok (.iload_n 1, 1) := by decide +kernel
theorem dX4_makeTick_35 : decode cX4_makeTick 35 = .ok (.invokevirtual 60, 3) := by decide +kernel
theorem dX4_makeTick_38 : decode cX4_makeTick 38 = .ok (.iadd, 1) := by decide +kernel
theorem dX4_makeTick_39 : decode cX4_makeTick 39 = .ok (.sipush 3600, 3) := by decide +kernel
theorem dX4_makeTick_42 : decode cX4_makeTick 42 = .ok (.invokestatic 68, 3) := by decide +kernel
theorem dX4_makeTick_45 : decode cX4_makeTick 45 = .ok (.iastore, 1) := by decide +kernel
theorem dX4_makeTick_46 : decode cX4_makeTick 46 = .ok (.iinc 1 1, 3) := by decide +kernel
theorem dX4_makeTick_49 : decode cX4_makeTick 49 = .ok (.goto (-43), 3) := by decide +kernel
theorem dX4_makeTick_52 : decode cX4_makeTick 52 = .ok (.aload_n 0, 1) := by decide +kernel
theorem dX4_makeTick_53 : decode cX4_makeTick 53 = .ok (.invokevirtual 104, 3) := by decide +kernel
theorem dX4_makeTick_56 : decode cX4_makeTick 56 = .ok (.aload_n 0, 1) := by decide +kernel
theorem dX4_makeTick_57 : decode cX4_makeTick 57 = .ok (.invokevirtual 107, 3) := by decide +kernel
theorem dX4_makeTick_60 : decode cX4_makeTick 60 = .ok (.iconst 0, 1) := by decide +kernel
theorem dX4_makeTick_61 : decode cX4_makeTick 61 = .ok (.istore_n 1, 1) := by decide +kernel
theorem dX4_makeTick_62 : decode cX4_makeTick 62 = .ok (.iload_n 1, 1) := by decide +kernel
theorem dX4_makeTick_63 : decode cX4_makeTick 63 = .ok (.aload_n 0, 1) := by decide +kernel
theorem dX4_makeTick_64 : decode cX4_makeTick 64 = .ok (.getfield 7, 3) := by decide +kernel
theorem dX4_makeTick_67 : decode cX4_makeTick 67 = .ok (.bipush 33, 2) := by decide +kernel
theorem dX4_makeTick_69 : decode cX4_makeTick 69 = .ok (.iaload, 1) := by decide +kernel
theorem dX4_makeTick_70 : decode cX4_makeTick 70 = .ok (.if_icmp .ge 14, 3) := by decide +kernel
theorem dX4_makeTick_73 : decode cX4_makeTick 73 = .ok (.aload_n 0, 1) := by decide +kernel
theorem dX4_makeTick_74 : decode cX4_makeTick 74 = .ok (.iload_n 1, 1) := by decide +kernel
theorem dX4_makeTick_75 : decode cX4_makeTick 75 = .ok (.invokevirtual 110, 3) := by decide +kernel
theorem dX4_makeTick_78 : decode cX4_makeTick 78 = .ok (.iinc 1 1, 3) := by decide +kernel
theorem dX4_makeTick_81 : decode cX4_makeTick 81 = .ok (.goto (-19), 3) := by decide +kernel
theorem dX4_makeTick_84 : decode cX4_makeTick 84 = .ok (.aload_n 0, 1) := by decide +kernel
theorem dX4_makeTick_85 : decode cX4_makeTick 85 = .ok (.getfield 7, 3) := by decide +kernel
theorem dX4_makeTick_88 : decode cX4_makeTick 88 = .ok (.iconst 1, 1) := by decide +kernel
theorem dX4_makeTick_89 : decode cX4_makeTick 89 = .ok (.dup2, 1) := by decide +kernel
theorem dX4_makeTick_90 : decode cX4_makeTick 90 = .ok (.iaload, 1) := by decide +kernel
theorem dX4_makeTick_91 : decode cX4_makeTick 91 = .ok (.iconst 1, 1) := by decide +kernel
theorem dX4_makeTick_92 : decode cX4_makeTick 92 = .ok (.iadd, 1) := by decide +kernel
theorem dX4_makeTick_93 : decode cX4_makeTick 93 = .ok (.iastore, 1) := by decide +kernel
theorem dX4_makeTick_94 : decode cX4_makeTick 94 = .ok (.return_, 1) := by decide +kernel
theorem dX4_tick_0 : decode cX4_tick 0 = .ok (.iload_n 1, 1) := by decide +kernel
theorem dX4_tick_1 : decode cX4_tick 1 = .ok (.iconst 1, 1) := by decide +kernel
theorem dX4_tick_2 : decode cX4_tick 2 = .ok (.sipush 1000, 3) := by decide +kernel
theorem dX4_tick_5 : decode cX4_tick 5 = .ok (.invokestatic 39, 3) := by decide +kernel
theorem dX4_tick_8 : decode cX4_tick 8 = .ok (.ifCond .ne 6, 3) := by decide +kernel
theorem dX4_tick_11 : decode cX4_tick 11 = .ok (.bipush (-2), 2) := by decide +kernel
theorem dX4_tick_13 : decode cX4_tick 13 = .ok (.ireturn, 1) := by decide +kernel
theorem dX4_tick_14 : decode cX4_tick 14 = .ok (.aload_n 0, 1) := by decide +kernel
theorem dX4_tick_15 : decode cX4_tick 15 = .ok (.getfield 7, 3) := by decide +kernel
theorem dX4_tick_18 : decode cX4_tick 18 = .ok (.iconst 1, 1) := by decide +kernel
theorem dX4_tick_19 : decode cX4_tick 19 = .ok (.iaload, 1) := by decide +kernel
theorem dX4_tick_20 : decode cX4_tick 20 = .ok (.iload_n 1, 1) := by decide +kernel
theorem dX4_tick_21 : decode cX4_tick 21 = .ok (.iadd, 1) := by decide +kernel
theorem dX4_tick_22 : decode cX4_tick 22 = .ok (.ldc 113, 2) := by decide +kernel
theorem dX4_tick_24 : decode cX4_tick 24 = .ok (.if_icmp .le 6, 3) := by decide +kernel
theorem dX4_tick_27 : decode cX4_tick 27 = .ok (.bipush (-5), 2) := by decide +kernel
theorem dX4_tick_29 : decode cX4_tick 29 = .ok (.ireturn, 1) := by decide +kernel
theorem dX4_tick_30 : decode cX4_tick 30 = .ok (.iconst 0, 1) := by decide +kernel
theorem dX4_tick_31 : decode cX4_tick 31 = .ok (.istore_n 2, 1) := by decide +kernel
theorem dX4_tick_32 : decode cX4_tick 32 = .ok (.iload_n 2, 1) := by decide +kernel
theorem dX4_tick_33 : decode cX4_tick 33 = .ok (.iload_n 1, 1) := by decide +kernel
theorem dX4_tick_34 : decode cX4_tick 34 = .ok (.if_icmp .ge 13, 3) := by decide +kernel
theorem dX4_tick_37 : decode cX4_tick 37 = .ok (.aload_n 0, 1) := by decide +kernel
theorem dX4_tick_38 : decode cX4_tick 38 = .ok (.invokevirtual 114, 3) := by decide +kernel
theorem dX4_tick_41 : decode cX4_tick 41 = .ok (.iinc 2 1, 3) := by decide +kernel
theorem dX4_tick_44 : decode cX4_tick 44 = .ok (.goto (-12), 3) := by decide +kernel
theorem dX4_tick_47 : decode cX4_tick 47 = .ok (.aload_n 0, 1) := by decide +kernel
theorem dX4_tick_48 : decode cX4_tick 48 = .ok (.getfield 7, 3) := by decide +kernel
theorem dX4_tick_51 : decode cX4_tick 51 = .ok (.iconst 1, 1) := by decide +kernel
theorem dX4_tick_52 : decode cX4_tick 52 = .ok (.iaload, 1) := by decide +kernel
theorem dX4_tick_53 : decode cX4_tick 53 = .ok (.ireturn, 1) := by decide +kernel
theorem dX4_ring_0 : decode cX4_ring 0 = .ok (.aload_n 0, 1) := by decide +kernel
theorem dX4_ring_1 : decode cX4_ring 1 = .ok (.iload_n 1, 1) := by decide +kernel
theorem dX4_ring_2 : decode cX4_ring 2 = .ok (.invokevirtual 52, 3) := by decide +kernel
theorem dX4_ring_5 : decode cX4_ring 5 = .ok (.ifCond .ne 6, 3) := by decide +kernel
theorem dX4_ring_8 : decode cX4_ring 8 = .ok (.ldc 56, 2) := by decide +kernel
theorem dX4_ring_10 : decode cX4_ring 10 = .ok (.ireturn, 1) := by decide +kernel
theorem dX4_ring_11 : decode cX4_ring 11 = .ok (.iload_n 2, 1) := by decide +kernel
theorem dX4_ring_12 : decode cX4_ring 12 = .ok (.tableswitch 98 0 6 #[44, 50, 60, 70, 76, 76, 76], 44) := by decide +kernel
theorem dX4_ring_56 : decode cX4_ring 56 = .ok (.aload_n 0, 1) := by decide +kernel
theorem dX4_ring_57 : decode cX4_ring 57 = .ok (.iload_n 1, 1) := by decide +kernel
theorem dX4_ring_58 : decode cX4_ring 58 = .ok (.invokevirtual 60, 3) := by decide +kernel
theorem dX4_ring_61 : decode cX4_ring 61 = .ok (.ireturn, 1) := by decide +kernel
theorem dX4_ring_62 : decode cX4_ring 62 = .ok (.aload_n 0, 1) := by decide +kernel
theorem dX4_ring_63 : decode cX4_ring 63 = .ok (.getfield 7, 3) := by decide +kernel
theorem dX4_ring_66 : decode cX4_ring 66 = .ok (.bipush 9, 2) := by decide +kernel
theorem dX4_ring_68 : decode cX4_ring 68 = .ok (.iload_n 1, 1) := by decide +kernel
theorem dX4_ring_69 : decode cX4_ring 69 = .ok (.iadd, 1) := by decide +kernel
theorem dX4_ring_70 : decode cX4_ring 70 = .ok (.iaload, 1) := by decide +kernel
theorem dX4_ring_71 : decode cX4_ring 71 = .ok (.ireturn, 1) := by decide +kernel
theorem dX4_ring_72 : decode cX4_ring 72 = .ok (.aload_n 0, 1) := by decide +kernel
theorem dX4_ring_73 : decode cX4_ring 73 = .ok (.getfield 7, 3) := by decide +kernel
theorem dX4_ring_76 : decode cX4_ring 76 = .ok (.bipush 21, 2) := by decide +kernel
theorem dX4_ring_78 : decode cX4_ring 78 = .ok (.iload_n 1, 1) := by decide +kernel
theorem dX4_ring_79 : decode cX4_ring 79 = .ok (.iadd, 1) := by decide +kernel
theorem dX4_ring_80 : decode cX4_ring 80 = .ok (.iaload, 1) := by decide +kernel
theorem dX4_ring_81 : decode cX4_ring 81 = .ok (.ireturn, 1) := by decide +kernel
theorem dX4_ring_82 : decode cX4_ring 82 = .ok (.aload_n 0, 1) := by decide +kernel
theorem dX4_ring_83 : decode cX4_ring 83 = .ok (.iload_n 1, 1) := by decide +kernel
theorem dX4_ring_84 : decode cX4_ring 84 = .ok (.invokevirtual 92, 3) := by decide +kernel
theorem dX4_ring_87 : decode cX4_ring 87 = .ok (.ireturn, 1) := by decide +kernel
theorem dX4_ring_88 : decode cX4_ring 88 = .ok (.aload_n 0, 1) := by decide +kernel
theorem dX4_ring_89 : decode cX4_ring 89 = .ok (.iload_n 2, 1) := by decide +kernel
theorem dX4_ring_90 : decode cX4_ring 90 = .ok (.iconst 4, 1) := by decide +kernel
theorem dX4_ring_91 : decode cX4_ring 91 = .ok (.isub, 1) := by decide +kernel
theorem dX4_ring_92 : decode cX4_ring 92 = .ok (.iconst 0, 1) := by decide +kernel
theorem dX4_ring_93 : decode cX4_ring 93 = .ok (.iload_n 1, 1) := by decide +kernel
theorem dX4_ring_94 : decode cX4_ring 94 = .ok (.iload_n 1, 1) := by decide +kernel
theorem dX4_ring_95 : decode cX4_ring 95 = .ok (.invokevirtual 75, 3) := by decide +kernel
theorem dX4_ring_98 : decode cX4_ring 98 = .ok (.aload_n 0, 1) := by decide +kernel
theorem dX4_ring_99 : decode cX4_ring 99 = .ok (.iload_n 2, 1) := by decide +kernel
theorem dX4_ring_100 : decode cX4_ring 100 = .ok (.iconst 4, 1) := by decide +kernel
theorem dX4_ring_101 : decode cX4_ring 101 = .ok (.isub, 1) := by decide +kernel
theorem dX4_ring_102 : decode cX4_ring 102 = .ok (.iconst 1, 1) := by decide +kernel
theorem dX4_ring_103 : decode cX4_ring 103 = .ok (.iload_n 1, 1) := by decide +kernel
theorem dX4_ring_104 : decode cX4_ring 104 = .ok (.iload_n 1, 1) := by decide +kernel
theorem dX4_ring_105 : decode cX4_ring 105 = .ok (.invokevirtual 75, 3) := by decide +kernel
theorem dX4_ring_108 : decode cX4_ring 108 = .ok (.iadd, 1) := by decide +kernel
theorem dX4_ring_109 : decode cX4_ring 109 = .ok (.ireturn, 1) := by decide +kernel
theorem dX4_ring_110 : decode cX4_ring 110 = .ok (.ldc 51, 2) := by decide +kernel
theorem dX4_ring_112 : decode cX4_ring 112 = .ok (.ireturn, 1) := by decide +kernel
theorem dX4_dye_0 : decode cX4_dye 0 = .ok (.aload_n 0, 1) := by decide +kernel
theorem dX4_dye_1 : decode cX4_dye 1 = .ok (.iload_n 1, 1) := by decide +kernel
theorem dX4_dye_2 : decode cX4_dye 2 = .ok (.iload_n 2, 1) := by decide +kernel
theorem dX4_dye_3 : decode cX4_dye 3 = .ok (.iload_n 3, 1) := by decide +kernel
theorem dX4_dye_4 : decode cX4_dye 4 = .ok (.iload 4, 2) := by decide +kernel
theorem dX4_dye_6 : decode cX4_dye 6 = .ok (.invokevirtual 78, 3) := by decide +kernel
theorem dX4_dye_9 : decode cX4_dye 9 = .ok (.ifCond .eq 28, 3) := by decide +kernel
theorem dX4_dye_12 : decode cX4_dye 12 = .ok (.aload_n 0, 1) := by decide +kernel
theorem dX4_dye_13 : decode cX4_dye 13 = .ok (.getfield 7, 3) := by decide +kernel
theorem dX4_dye_16 : decode cX4_dye 16 = .ok (.sipush 658, 3) := by decide +kernel
theorem dX4_dye_19 : decode cX4_dye 19 = .ok (.iload_n 1, 1) := by decide +kernel
theorem dX4_dye_20 : decode cX4_dye 20 = .ok (.iload_n 2, 1) := by decide +kernel
theorem dX4_dye_21 : decode cX4_dye 21 = .ok (.iload_n 3, 1) := by decide +kernel
theorem dX4_dye_22 : decode cX4_dye 22 = .ok (.aload_n 0, 1) := by decide +kernel
theorem dX4_dye_23 : decode cX4_dye 23 = .ok (.iload_n 3, 1) := by decide +kernel
theorem dX4_dye_24 : decode cX4_dye 24 = .ok (.iload 4, 2) := by decide +kernel
theorem dX4_dye_26 : decode cX4_dye 26 = .ok (.invokevirtual 87, 3) := by decide +kernel
theorem dX4_dye_29 : decode cX4_dye 29 = .ok (.invokestatic 71, 3) := by decide +kernel
theorem dX4_dye_32 : decode cX4_dye 32 = .ok (.iadd, 1) := by decide +kernel
theorem dX4_dye_33 : decode cX4_dye 33 = .ok (.iaload, 1) := by decide +kernel
theorem dX4_dye_34 : decode cX4_dye 34 = .ok (.goto 4, 3) := by decide +kernel
theorem dX4_dye_37 : decode cX4_dye 37 = .ok (.iconst (-1), 1) := by decide +kernel
theorem dX4_dye_38 : decode cX4_dye 38 = .ok (.ireturn, 1) := by decide +kernel
theorem dX4_cellsWith_0 : decode cX4_cellsWith 0 = .ok (.iconst 0, 1) := by decide +kernel
theorem dX4_cellsWith_1 : decode cX4_cellsWith 1 = .ok (.istore_n 2, 1) := by decide +kernel
theorem dX4_cellsWith_2 : decode cX4_cellsWith 2 = .ok (.iconst 0, 1) := by decide +kernel
theorem dX4_cellsWith_3 : decode cX4_cellsWith 3 = .ok (.istore_n 3, 1) := by decide +kernel
theorem dX4_cellsWith_4 : decode cX4_cellsWith 4 = .ok (.iload_n 3, 1) := by decide +kernel
theorem dX4_cellsWith_5 : decode cX4_cellsWith 5 = .ok (.sipush 576, 3) := by decide +kernel
theorem dX4_cellsWith_8 : decode cX4_cellsWith 8 = .ok (.if_icmp .ge 38, 3) := by decide +kernel
theorem dX4_cellsWith_11 : decode cX4_cellsWith 11 = .ok (.iload_n 2, 1) := by decide +kernel
theorem dX4_cellsWith_12 : decode cX4_cellsWith 12 = .ok (.aload_n 0, 1) := by decide +kernel
theorem dX4_cellsWith_13 : decode cX4_cellsWith 13 = .ok (.getfield 7, 3) := by decide +kernel
theorem dX4_cellsWith_16 : decode cX4_cellsWith 16 = .ok (.sipush 658, 3) := by decide +kernel
theorem dX4_cellsWith_19 : decode cX4_cellsWith 19 = .ok (.iload_n 1, 1) := by decide +kernel
theorem dX4_cellsWith_20 : decode cX4_cellsWith 20 = .ok (.iconst 0, 1) := by decide +kernel
theorem dX4_cellsWith_21 : decode cX4_cellsWith 21 = .ok (.iconst 0, 1) := by decide +kernel
theorem dX4_cellsWith_22 : decode cX4_cellsWith 22 = .ok (.iconst 0, 1) := by decide +kernel
theorem dX4_cellsWith_23 : decode cX4_cellsWith 23 = .ok (.invokestatic 71, 3) := by decide +kernel
theorem dX4_cellsWith_26 : decode cX4_cellsWith 26 = .ok (.iadd, 1) := by decide +kernel
theorem dX4_cellsWith_27 : decode cX4_cellsWith 27 = .ok (.iload_n 3, 1) := by decide +kernel
theorem dX4_cellsWith_28 : decode cX4_cellsWith 28 = .ok (.iadd, 1) := by decide +kernel
theorem dX4_cellsWith_29 : decode cX4_cellsWith 29 = .ok (.iaload, 1) := by decide +kernel
theorem dX4_cellsWith_30 : decode cX4_cellsWith 30 = .ok (.ifCond .le 7, 3) := by decide +kernel
theorem dX4_cellsWith_33 : decode cX4_cellsWith 33 = .ok (.iconst 1, 1) := by decide +kernel
theorem dX4_cellsWith_34 : decode cX4_cellsWith 34 = .ok (.goto 4, 3) := by decide +kernel
theorem dX4_cellsWith_37 : decode cX4_cellsWith 37 = .ok (.iconst 0, 1) := by decide +kernel
theorem dX4_cellsWith_38 : decode cX4_cellsWith 38 = .ok (.iadd, 1) := by decide +kernel
theorem dX4_cellsWith_39 : decode cX4_cellsWith 39 = .ok (.istore_n 2, 1) := by decide +kernel
theorem dX4_cellsWith_40 : decode cX4_cellsWith 40 = .ok (.iinc 3 1, 3) := by decide +kernel
theorem dX4_cellsWith_43 : decode cX4_cellsWith 43 = .ok (.goto (-39), 3) := by decide +kernel
theorem dX4_cellsWith_46 : decode cX4_cellsWith 46 = .ok (.iload_n 2, 1) := by decide +kernel
theorem dX4_cellsWith_47 : decode cX4_cellsWith 47 = .ok (.ireturn, 1) := by decide +kernel
theorem dX4_greatest_0 : decode cX4_greatest 0 = .ok (.iconst 0, 1) := by decide +kernel
theorem dX4_greatest_1 : decode cX4_greatest 1 = .ok (.istore_n 2, 1) := by decide +kernel
theorem dX4_greatest_2 : decode cX4_greatest 2 = .ok (.iconst 0, 1) := by decide +kernel
theorem dX4_greatest_3 : decode cX4_greatest 3 = .ok (.istore_n 3, 1) := by decide +kernel
theorem dX4_greatest_4 : decode cX4_greatest 4 = .ok (.iload_n 3, 1) := by decide +kernel
theorem dX4_greatest_5 : decode cX4_greatest 5 = .ok (.sipush 576, 3) := by decide +kernel
theorem dX4_greatest_8 : decode cX4_greatest 8 = .ok (.if_icmp .ge 42, 3) := by decide +kernel
theorem dX4_greatest_11 : decode cX4_greatest 11 = .ok (.aload_n 0, 1) := by decide +kernel
theorem dX4_greatest_12 : decode cX4_greatest 12 = .ok (.getfield 7, 3) := by decide +kernel
theorem dX4_greatest_15 : decode cX4_greatest 15 = .ok (.sipush 658, 3) := by decide +kernel
theorem dX4_greatest_18 : decode cX4_greatest 18 = .ok (.iload_n 1, 1) := by decide +kernel
theorem dX4_greatest_19 : decode cX4_greatest 19 = .ok (.iconst 0, 1) := by decide +kernel
theorem dX4_greatest_20 : decode cX4_greatest 20 = .ok (.iconst 0, 1) := by decide +kernel
theorem dX4_greatest_21 : decode cX4_greatest 21 = .ok (.iconst 0, 1) := by decide +kernel
theorem dX4_greatest_22 : decode cX4_greatest 22 = .ok (.invokestatic 71, 3) := by decide +kernel
theorem dX4_greatest_25 : decode cX4_greatest 25 = .ok (.iadd, 1) := by decide +kernel
theorem dX4_greatest_26 : decode cX4_greatest 26 = .ok (.iload_n 3, 1) := by decide +kernel
theorem dX4_greatest_27 : decode cX4_greatest 27 = .ok (.iadd, 1) := by decide +kernel
theorem dX4_greatest_28 : decode cX4_greatest 28 = .ok (.iaload, 1) := by decide +kernel
theorem dX4_greatest_29 : decode cX4_greatest 29 = .ok (.istore 4, 2) := by decide +kernel
theorem dX4_greatest_31 : decode cX4_greatest 31 = .ok (.iload 4, 2) := by decide +kernel
theorem dX4_greatest_33 : decode cX4_greatest 33 = .ok (.iload_n 2, 1) := by decide +kernel
theorem dX4_greatest_34 : decode cX4_greatest 34 = .ok (.if_icmp .le 8, 3) := by decide +kernel
theorem dX4_greatest_37 : decode cX4_greatest 37 = .ok (.iload 4, 2) := by decide +kernel
theorem dX4_greatest_39 : decode cX4_greatest 39 = .ok (.goto 4, 3) := by decide +kernel
theorem dX4_greatest_42 : decode cX4_greatest 42 = .ok (.iload_n 2, 1) := by decide +kernel
theorem dX4_greatest_43 : decode cX4_greatest 43 = .ok (.istore_n 2, 1) := by decide +kernel
theorem dX4_greatest_44 : decode cX4_greatest 44 = .ok (.iinc 3 1, 3) := by decide +kernel
theorem dX4_greatest_47 : decode cX4_greatest 47 = .ok (.goto (-43), 3) := by decide +kernel
theorem dX4_greatest_50 : decode cX4_greatest 50 = .ok (.iload_n 2, 1) := by decide +kernel
theorem dX4_greatest_51 : decode cX4_greatest 51 = .ok (.ireturn, 1) := by decide +kernel
theorem dX4_meanPlace_0 : decode cX4_meanPlace 0 = .ok (.lconst 0, 1) := by decide +kernel
theorem dX4_meanPlace_1 : decode cX4_meanPlace 1 = .ok (.lstore_n 2, 1) := by decide +kernel
theorem dX4_meanPlace_2 : decode cX4_meanPlace 2 = .ok (.iconst 0, 1) := by decide +kernel
theorem dX4_meanPlace_3 : decode cX4_meanPlace 3 = .ok (.istore 4, 2) := by decide +kernel
theorem dX4_meanPlace_5 : decode cX4_meanPlace 5 = .ok (.iload 4, 2) := by decide +kernel
theorem dX4_meanPlace_7 : decode cX4_meanPlace 7 = .ok (.aload_n 0, 1) := by decide +kernel
theorem dX4_meanPlace_8 : decode cX4_meanPlace 8 = .ok (.getfield 7, 3) := by decide +kernel
theorem dX4_meanPlace_11 : decode cX4_meanPlace 11 = .ok (.iconst 0, 1) := by decide +kernel
theorem dX4_meanPlace_12 : decode cX4_meanPlace 12 = .ok (.iaload, 1) := by decide +kernel
theorem dX4_meanPlace_13 : decode cX4_meanPlace 13 = .ok (.if_icmp .ge 38, 3) := by decide +kernel
theorem dX4_meanPlace_16 : decode cX4_meanPlace 16 = .ok (.lload_n 2, 1) := by decide +kernel
theorem dX4_meanPlace_17 : decode cX4_meanPlace 17 = .ok (.iload 4, 2) := by decide +kernel
theorem dX4_meanPlace_19 : decode cX4_meanPlace 19 = .ok (.i2l, 1) := by decide +kernel
theorem dX4_meanPlace_20 : decode cX4_meanPlace 20 = .ok (.aload_n 0, 1) := by decide +kernel
theorem dX4_meanPlace_21 : decode cX4_meanPlace 21 = .ok (.iload_n 1, 1) := by decide +kernel
theorem dX4_meanPlace_22 : decode cX4_meanPlace 22 = .ok (.iconst 0, 1) := by decide +kernel
theorem dX4_meanPlace_23 : decode cX4_meanPlace 23 = .ok (.iload 4, 2) := by decide +kernel
theorem dX4_meanPlace_25 : decode cX4_meanPlace 25 = .ok (.iload 4, 2) := by decide +kernel
theorem dX4_meanPlace_27 : decode cX4_meanPlace 27 = .ok (.invokevirtual 75, 3) := by decide +kernel
theorem dX4_meanPlace_30 : decode cX4_meanPlace 30 = .ok (.aload_n 0, 1) := by decide +kernel
theorem dX4_meanPlace_31 : decode cX4_meanPlace 31 = .ok (.iload_n 1, 1) := by decide +kernel
theorem dX4_meanPlace_32 : decode cX4_meanPlace 32 = .ok (.iconst 1, 1) := by decide +kernel
theorem dX4_meanPlace_33 : decode cX4_meanPlace 33 = .ok (.iload 4, 2) := by decide +kernel
theorem dX4_meanPlace_35 : decode cX4_meanPlace 35 = .ok (.iload 4, 2) := by decide +kernel
theorem dX4_meanPlace_37 : decode cX4_meanPlace 37 = .ok (.invokevirtual 75, 3) := by decide +kernel
theorem dX4_meanPlace_40 : decode cX4_meanPlace 40 = .ok (.iadd, 1) := by decide +kernel
theorem dX4_meanPlace_41 : decode cX4_meanPlace 41 = .ok (.i2l, 1) := by decide +kernel
theorem dX4_meanPlace_42 : decode cX4_meanPlace 42 = .ok (.lmul, 1) := by decide +kernel
theorem dX4_meanPlace_43 : decode cX4_meanPlace 43 = .ok (.ladd, 1) := by decide +kernel
theorem dX4_meanPlace_44 : decode cX4_meanPlace 44 = .ok (.lstore_n 2, 1) := by decide +kernel
theorem dX4_meanPlace_45 : decode cX4_meanPlace 45 = .ok (.iinc 4 1, 3) := by decide +kernel
theorem dX4_meanPlace_48 : decode cX4_meanPlace 48 = .ok (.goto (-43), 3) := by decide +kernel
theorem dX4_meanPlace_51 : decode cX4_meanPlace 51 = .ok (.aload_n 0, 1) := by decide +kernel
theorem dX4_meanPlace_52 : decode cX4_meanPlace 52 = .ok (.iload_n 1, 1) := by decide +kernel
theorem dX4_meanPlace_53 : decode cX4_meanPlace 53 = .ok (.invokevirtual 83, 3) := by decide +kernel
theorem dX4_meanPlace_56 : decode cX4_meanPlace 56 = .ok (.istore 4, 2) := by decide +kernel
theorem dX4_meanPlace_58 : decode cX4_meanPlace 58 = .ok (.iload 4, 2) := by decide +kernel
theorem dX4_meanPlace_60 : decode cX4_meanPlace 60 = .ok (.ifCond .ne 9, 3) := by decide +kernel
theorem dX4_meanPlace_63 : decode cX4_meanPlace 63 = .ok (.ldc2_w 117, 3) := by decide +kernel
theorem dX4_meanPlace_66 : decode cX4_meanPlace 66 = .ok (.goto 12, 3) := by decide +kernel
theorem dX4_meanPlace_69 : decode cX4_meanPlace 69 = .ok (.ldc2_w 90, 3) := by decide +kernel
theorem dX4_meanPlace_72 : decode cX4_meanPlace 72 = .ok (.lload_n 2, 1) := by decide +kernel
theorem dX4_meanPlace_73 : decode cX4_meanPlace 73 = .ok (.lmul, 1) := by decide +kernel
theorem dX4_meanPlace_74 : decode cX4_meanPlace 74 = .ok (.iload 4, 2) := by decide +kernel
theorem dX4_meanPlace_76 : decode cX4_meanPlace 76 = .ok (.i2l, 1) := by decide +kernel
theorem dX4_meanPlace_77 : decode cX4_meanPlace 77 = .ok (.ldiv, 1) := by decide +kernel
theorem dX4_meanPlace_78 : decode cX4_meanPlace 78 = .ok (.lreturn, 1) := by decide +kernel
theorem dX4_unevenness_0 : decode cX4_unevenness 0 = .ok (.aload_n 0, 1) := by decide +kernel
theorem dX4_unevenness_1 : decode cX4_unevenness 1 = .ok (.iload_n 1, 1) := by decide +kernel
theorem dX4_unevenness_2 : decode cX4_unevenness 2 = .ok (.invokevirtual 83, 3) := by decide +kernel
theorem dX4_unevenness_5 : decode cX4_unevenness 5 = .ok (.i2l, 1) := by decide +kernel
theorem dX4_unevenness_6 : decode cX4_unevenness 6 = .ok (.lstore_n 2, 1) := by decide +kernel
theorem dX4_unevenness_7 : decode cX4_unevenness 7 = .ok (.ldc2_w 119, 3) := by decide +kernel
theorem dX4_unevenness_10 : decode cX4_unevenness 10 = .ok (.aload_n 0, 1) := by decide +kernel
theorem dX4_unevenness_11 : decode cX4_unevenness 11 = .ok (.getfield 7, 3) := by decide +kernel
theorem dX4_unevenness_14 : decode cX4_unevenness 14 = .ok (.iconst 0, 1) := by decide +kernel
theorem dX4_unevenness_15 : decode cX4_unevenness 15 = .ok (.iaload, 1) := by decide +kernel
theorem dX4_unevenness_16 : decode cX4_unevenness 16 = .ok (.i2l, 1) := by decide +kernel
theorem dX4_unevenness_17 : decode cX4_unevenness 17 = .ok (.lmul, 1) := by decide +kernel
theorem dX4_unevenness_18 : decode cX4_unevenness 18 = .ok (.lstore 4, 2) := by decide +kernel
theorem dX4_unevenness_20 : decode cX4_unevenness 20 = .ok (.lconst 0, 1) := by decide +kernel
theorem dX4_unevenness_21 : decode cX4_unevenness 21 = .ok (.lstore 6, 2) := by decide +kernel
theorem dX4_unevenness_23 : decode cX4_unevenness 23 = .ok (.iconst 0, 1) := by decide +kernel
theorem dX4_unevenness_24 : decode cX4_unevenness 24 = .ok (.istore 8, 2) := by decide +kernel
theorem dX4_unevenness_26 : decode cX4_unevenness 26 = .ok (.iload 8, 2) := by decide +kernel
theorem dX4_unevenness_28 : decode cX4_unevenness 28 = .ok (.iconst 2, 1) := by decide +kernel
theorem dX4_unevenness_29 : decode cX4_unevenness 29 = .ok (.if_icmp .ge 80, 3) := by decide +kernel
theorem dX4_unevenness_32 : decode cX4_unevenness 32 = .ok (.iconst 0, 1) := by decide +kernel
theorem dX4_unevenness_33 : decode cX4_unevenness 33 = .ok (.istore 9, 2) := by decide +kernel
theorem dX4_unevenness_35 : decode cX4_unevenness 35 = .ok (.iload 9, 2) := by decide +kernel
theorem dX4_unevenness_37 : decode cX4_unevenness 37 = .ok (.bipush 24, 2) := by decide +kernel
theorem dX4_unevenness_39 : decode cX4_unevenness 39 = .ok (.aload_n 0, 1) := by decide +kernel
theorem dX4_unevenness_40 : decode cX4_unevenness 40 = .ok (.getfield 7, 3) := by decide +kernel
theorem dX4_unevenness_43 : decode cX4_unevenness 43 = .ok (.iconst 0, 1) := by decide +kernel
theorem dX4_unevenness_44 : decode cX4_unevenness 44 = .ok (.iaload, 1) := by decide +kernel
theorem dX4_unevenness_45 : decode cX4_unevenness 45 = .ok (.imul, 1) := by decide +kernel
theorem dX4_unevenness_46 : decode cX4_unevenness 46 = .ok (.if_icmp .ge 57, 3) := by decide +kernel
theorem dX4_unevenness_49 : decode cX4_unevenness 49 = .ok (.aload_n 0, 1) := by decide +kernel
theorem dX4_unevenness_50 : decode cX4_unevenness 50 = .ok (.getfield 7, 3) := by decide +kernel
theorem dX4_unevenness_53 : decode cX4_unevenness 53 = .ok (.sipush 658, 3) := by decide +kernel
theorem dX4_unevenness_56 : decode cX4_unevenness 56 = .ok (.iload_n 1, 1) := by decide +kernel
theorem dX4_unevenness_57 : decode cX4_unevenness 57 = .ok (.iload 8, 2) := by decide +kernel
theorem dX4_unevenness_59 : decode cX4_unevenness 59 = .ok (.iconst 0, 1) := by decide +kernel
theorem dX4_unevenness_60 : decode cX4_unevenness 60 = .ok (.iconst 0, 1) := by decide +kernel
theorem dX4_unevenness_61 : decode cX4_unevenness 61 = .ok (.invokestatic 71, 3) := by decide +kernel
theorem dX4_unevenness_64 : decode cX4_unevenness 64 = .ok (.iadd, 1) := by decide +kernel
theorem dX4_unevenness_65 : decode cX4_unevenness 65 = .ok (.iload 9, 2) := by decide +kernel
theorem dX4_unevenness_67 : decode cX4_unevenness 67 = .ok (.iadd, 1) := by decide +kernel
theorem dX4_unevenness_68 : decode cX4_unevenness 68 = .ok (.iaload, 1) := by decide +kernel
theorem dX4_unevenness_69 : decode cX4_unevenness 69 = .ok (.i2l, 1) := by decide +kernel
theorem dX4_unevenness_70 : decode cX4_unevenness 70 = .ok (.lload 4, 2) := by decide +kernel
theorem dX4_unevenness_72 : decode cX4_unevenness 72 = .ok (.lmul, 1) := by decide +kernel
theorem dX4_unevenness_73 : decode cX4_unevenness 73 = .ok (.lload_n 2, 1) := by decide +kernel
theorem dX4_unevenness_74 : decode cX4_unevenness 74 = .ok (.lsub, 1) := by decide +kernel
theorem dX4_unevenness_75 : decode cX4_unevenness 75 = .ok (.lstore 10, 2) := by decide +kernel
theorem dX4_unevenness_77 : decode cX4_unevenness 77 = .ok (.lload 6, 2) := by decide +kernel
theorem dX4_unevenness_79 : decode cX4_unevenness 79 = .ok (.lload 10, 2) := by decide +kernel
theorem dX4_unevenness_81 : decode cX4_unevenness 81 = .ok (.lconst 0, 1) := by decide +kernel
theorem dX4_unevenness_82 : decode cX4_unevenness 82 = .ok (.lcmp, 1) := by decide +kernel
theorem dX4_unevenness_83 : decode cX4_unevenness 83 = .ok (.ifCond .ge 9, 3) := by decide +kernel
theorem dX4_unevenness_86 : decode cX4_unevenness 86 = .ok (.lload 10, 2) := by decide +kernel
theorem dX4_unevenness_88 : decode cX4_unevenness 88 = .ok (.lneg, 1) := by decide +kernel
theorem dX4_unevenness_89 : decode cX4_unevenness 89 = .ok (.goto 5, 3) := by decide +kernel
theorem dX4_unevenness_92 : decode cX4_unevenness 92 = .ok (.lload 10, 2) := by decide +kernel
theorem dX4_unevenness_94 : decode cX4_unevenness 94 = .ok (.ladd, 1) := by decide +kernel
theorem dX4_unevenness_95 : decode cX4_unevenness 95 = .ok (.lstore 6, 2) := by decide +kernel
theorem dX4_unevenness_97 : decode cX4_unevenness 97 = .ok (.iinc 9 1, 3) := by decide +kernel
theorem dX4_unevenness_100 : decode cX4_unevenness 100 = .ok (.goto (-65), 3) := by decide +kernel
theorem dX4_unevenness_103 : decode cX4_unevenness 103 = .ok (.iinc 8 1, 3) := by decide +kernel
theorem dX4_unevenness_106 : decode cX4_unevenness 106 = .ok (.goto (-80), 3) := by decide +kernel
theorem dX4_unevenness_109 : decode cX4_unevenness 109 = .ok (.lload 6, 2) := by decide +kernel
theorem dX4_unevenness_111 : decode cX4_unevenness 111 = .ok (.lload 4, 2) := by decide +kernel
theorem dX4_unevenness_113 : decode cX4_unevenness 113 = .ok (.ldiv, 1) := by decide +kernel
theorem dX4_unevenness_114 : decode cX4_unevenness 114 = .ok (.lreturn, 1) := by decide +kernel
theorem dX4_isColour_0 : decode cX4_isColour 0 = .ok (.iload_n 0, 1) := by decide +kernel
theorem dX4_isColour_1 : decode cX4_isColour 1 = .ok (.iconst 0, 1) := by decide +kernel
theorem dX4_isColour_2 : decode cX4_isColour 2 = .ok (.iconst 2, 1) := by decide +kernel
theorem dX4_isColour_3 : decode cX4_isColour 3 = .ok (.invokestatic 39, 3) := by decide +kernel
theorem dX4_isColour_6 : decode cX4_isColour 6 = .ok (.ireturn, 1) := by decide +kernel
theorem dX4_colour_0 : decode cX4_colour 0 = .ok (.iload_n 1, 1) := by decide +kernel
theorem dX4_colour_1 : decode cX4_colour 1 = .ok (.invokestatic 121, 3) := by decide +kernel
theorem dX4_colour_4 : decode cX4_colour 4 = .ok (.ifCond .ne 7, 3) := by decide +kernel
theorem dX4_colour_7 : decode cX4_colour 7 = .ok (.ldc2_w 124, 3) := by decide +kernel
theorem dX4_colour_10 : decode cX4_colour 10 = .ok (.lreturn, 1) := by decide +kernel
theorem dX4_colour_11 : decode cX4_colour 11 = .ok (.iload_n 2, 1) := by decide +kernel
theorem dX4_colour_12 : decode cX4_colour 12 = .ok (.tableswitch 90 0 5 #[40, 47, 64, 71, 78, 84], 40) := by decide +kernel
theorem dX4_colour_52 : decode cX4_colour 52 = .ok (.aload_n 0, 1) := by decide +kernel
theorem dX4_colour_53 : decode cX4_colour 53 = .ok (.iload_n 1, 1) := by decide +kernel
theorem dX4_colour_54 : decode cX4_colour 54 = .ok (.invokevirtual 83, 3) := by decide +kernel
theorem dX4_colour_57 : decode cX4_colour 57 = .ok (.i2l, 1) := by decide +kernel
theorem dX4_colour_58 : decode cX4_colour 58 = .ok (.lreturn, 1) := by decide +kernel
theorem dX4_colour_59 : decode cX4_colour 59 = .ok (.aload_n 0, 1) := by decide +kernel
theorem dX4_colour_60 : decode cX4_colour 60 = .ok (.iload_n 1, 1) := by decide +kernel
theorem dX4_colour_61 : decode cX4_colour 61 = .ok (.iconst 0, 1) := by decide +kernel
theorem dX4_colour_62 : decode cX4_colour 62 = .ok (.iconst 0, 1) := by decide +kernel
theorem dX4_colour_63 : decode cX4_colour 63 = .ok (.aload_n 0, 1) := by decide +kernel
theorem dX4_colour_64 : decode cX4_colour 64 = .ok (.getfield 7, 3) := by decide +kernel
theorem dX4_colour_67 : decode cX4_colour 67 = .ok (.iconst 0, 1) := by decide +kernel
theorem dX4_colour_68 : decode cX4_colour 68 = .ok (.iaload, 1) := by decide +kernel
theorem dX4_colour_69 : decode cX4_colour 69 = .ok (.iconst 1, 1) := by decide +kernel
theorem dX4_colour_70 : decode cX4_colour 70 = .ok (.isub, 1) := by decide +kernel
theorem dX4_colour_71 : decode cX4_colour 71 = .ok (.invokevirtual 75, 3) := by decide +kernel
theorem dX4_colour_74 : decode cX4_colour 74 = .ok (.i2l, 1) := by decide +kernel
theorem dX4_colour_75 : decode cX4_colour 75 = .ok (.lreturn, 1) := by decide +kernel
theorem dX4_colour_76 : decode cX4_colour 76 = .ok (.aload_n 0, 1) := by decide +kernel
theorem dX4_colour_77 : decode cX4_colour 77 = .ok (.iload_n 1, 1) := by decide +kernel
theorem dX4_colour_78 : decode cX4_colour 78 = .ok (.invokevirtual 126, 3) := by decide +kernel
theorem dX4_colour_81 : decode cX4_colour 81 = .ok (.i2l, 1) := by decide +kernel
theorem dX4_colour_82 : decode cX4_colour 82 = .ok (.lreturn, 1) := by decide +kernel
theorem dX4_colour_83 : decode cX4_colour 83 = .ok (.aload_n 0, 1) := by decide +kernel
theorem dX4_colour_84 : decode cX4_colour 84 = .ok (.iload_n 1, 1) := by decide +kernel
theorem dX4_colour_85 : decode cX4_colour 85 = .ok (.invokevirtual 129, 3) := by decide +kernel
theorem dX4_colour_88 : decode cX4_colour 88 = .ok (.i2l, 1) := by decide +kernel
theorem dX4_colour_89 : decode cX4_colour 89 = .ok (.lreturn, 1) := by decide +kernel
theorem dX4_colour_90 : decode cX4_colour 90 = .ok (.aload_n 0, 1) := by decide +kernel
theorem dX4_colour_91 : decode cX4_colour 91 = .ok (.iload_n 1, 1) := by decide +kernel
theorem dX4_colour_92 : decode cX4_colour 92 = .ok (.invokevirtual 132, 3) := by decide +kernel
theorem dX4_colour_95 : decode cX4_colour 95 = .ok (.lreturn, 1) := by decide +kernel
theorem dX4_colour_96 : decode cX4_colour 96 = .ok (.aload_n 0, 1) := by decide +kernel
theorem dX4_colour_97 : decode cX4_colour 97 = .ok (.iload_n 1, 1) := by decide +kernel
theorem dX4_colour_98 : decode cX4_colour 98 = .ok (.invokevirtual 136, 3) := by decide +kernel
theorem dX4_colour_101 : decode cX4_colour 101 = .ok (.lreturn, 1) := by decide +kernel
theorem dX4_colour_102 : decode cX4_colour 102 = .ok (.ldc2_w 139, 3) := by decide +kernel
theorem dX4_colour_105 : decode cX4_colour 105 = .ok (.lreturn, 1) := by decide +kernel
theorem dX4_greatestShear_0 : decode cX4_greatestShear 0 = .ok (.iconst 0, 1) := by decide +kernel
theorem dX4_greatestShear_1 : decode cX4_greatestShear 1 = .ok (.istore_n 1, 1) := by decide +kernel
theorem dX4_greatestShear_2 : decode cX4_greatestShear 2 = .ok (.iconst 0, 1) := by decide +kernel
theorem dX4_greatestShear_3 : decode cX4_greatestShear 3 = .ok (.istore_n 2, 1) := by decide +kernel
theorem dX4_greatestShear_4 : decode cX4_greatestShear 4 = .ok (.iload_n 2, 1) := by decide +kernel
theorem dX4_greatestShear_5 : decode cX4_greatestShear 5 = .ok (.iconst 1, 1) := by decide +kernel
theorem dX4_greatestShear_6 : decode cX4_greatestShear 6 = .ok (.iadd, 1) := by decide +kernel
theorem dX4_greatestShear_7 : decode cX4_greatestShear 7 = .ok (.aload_n 0, 1) := by decide +kernel
theorem dX4_greatestShear_8 : decode cX4_greatestShear 8 = .ok (.getfield 7, 3) := by decide +kernel
theorem dX4_greatestShear_11 : decode cX4_greatestShear 11 = .ok (.iconst 0, 1) := by decide +kernel
theorem dX4_greatestShear_12 : decode cX4_greatestShear 12 = .ok (.iaload, 1) := by decide +kernel
theorem dX4_greatestShear_13 : decode cX4_greatestShear 13 = .ok (.if_icmp .ge 45, 3) := by decide +kernel
theorem dX4_greatestShear_16 : decode cX4_greatestShear 16 = .ok (.aload_n 0, 1) := by decide +kernel
theorem dX4_greatestShear_17 : decode cX4_greatestShear 17 = .ok (.iload_n 2, 1) := by decide +kernel
theorem dX4_greatestShear_18 : decode cX4_greatestShear 18 = .ok (.invokevirtual 60, 3) := by decide +kernel
theorem dX4_greatestShear_21 : decode cX4_greatestShear 21 = .ok (.aload_n 0, 1) := by decide +kernel
theorem dX4_greatestShear_22 : decode cX4_greatestShear 22 = .ok (.iload_n 2, 1) := by decide +kernel
theorem dX4_greatestShear_23 : decode cX4_greatestShear 23 = .ok (.iconst 1, 1) := by decide +kernel
theorem dX4_greatestShear_24 : decode cX4_greatestShear 24 = .ok (.iadd, 1) := by decide +kernel
theorem dX4_greatestShear_25 : decode cX4_greatestShear 25 = .ok (.invokevirtual 60, 3) := by decide +kernel
theorem dX4_greatestShear_28 : decode cX4_greatestShear 28 = .ok (.isub, 1) := by decide +kernel
theorem dX4_greatestShear_29 : decode cX4_greatestShear 29 = .ok (.istore_n 3, 1) := by decide +kernel
theorem dX4_greatestShear_30 : decode cX4_greatestShear 30 = .ok (.iload_n 3, 1) := by decide +kernel
theorem dX4_greatestShear_31 : decode cX4_greatestShear 31 = .ok (.ifCond .ge 8, 3) := by decide +kernel
theorem dX4_greatestShear_34 : decode cX4_greatestShear 34 = .ok (.iload_n 3, 1) := by decide +kernel
theorem dX4_greatestShear_35 : decode cX4_greatestShear 35 = .ok (.ineg, 1) := by decide +kernel
theorem dX4_greatestShear_36 : decode cX4_greatestShear 36 = .ok (.goto 4, 3) := by decide +kernel
theorem dX4_greatestShear_39 : decode cX4_greatestShear 39 = .ok (.iload_n 3, 1) := by decide +kernel
theorem dX4_greatestShear_40 : decode cX4_greatestShear 40 = .ok (.istore_n 3, 1) := by decide +kernel
theorem dX4_greatestShear_41 : decode cX4_greatestShear 41 = .ok (.iload_n 3, 1) := by decide +kernel
theorem dX4_greatestShear_42 : decode cX4_greatestShear 42 = .ok (.iload_n 1, 1) := by decide +kernel
theorem dX4_greatestShear_43 : decode cX4_greatestShear 43 = .ok (.if_icmp .le 7, 3) := by decide +kernel
theorem dX4_greatestShear_46 : decode cX4_greatestShear 46 = .ok (.iload_n 3, 1) := by decide +kernel
theorem dX4_greatestShear_47 : decode cX4_greatestShear 47 = .ok (.goto 4, 3) := by decide +kernel
theorem dX4_greatestShear_50 : decode cX4_greatestShear 50 = .ok (.iload_n 1, 1) := by decide +kernel
theorem dX4_greatestShear_51 : decode cX4_greatestShear 51 = .ok (.istore_n 1, 1) := by decide +kernel
theorem dX4_greatestShear_52 : decode cX4_greatestShear 52 = .ok (.iinc 2 1, 3) := by decide +kernel
theorem dX4_greatestShear_55 : decode cX4_greatestShear 55 = .ok (.goto (-51), 3) := by decide +kernel
theorem dX4_greatestShear_58 : decode cX4_greatestShear 58 = .ok (.iload_n 1, 1) := by decide +kernel
theorem dX4_greatestShear_59 : decode cX4_greatestShear 59 = .ok (.ireturn, 1) := by decide +kernel
theorem dX4_state_0 : decode cX4_state 0 = .ok (.iload_n 1, 1) := by decide +kernel
theorem dX4_state_1 : decode cX4_state 1 = .ok (.bipush 6, 2) := by decide +kernel
theorem dX4_state_3 : decode cX4_state 3 = .ok (.bipush 12, 2) := by decide +kernel
theorem dX4_state_5 : decode cX4_state 5 = .ok (.invokestatic 39, 3) := by decide +kernel
theorem dX4_state_8 : decode cX4_state 8 = .ok (.ifCond .eq 15, 3) := by decide +kernel
theorem dX4_state_11 : decode cX4_state 11 = .ok (.aload_n 0, 1) := by decide +kernel
theorem dX4_state_12 : decode cX4_state 12 = .ok (.getfield 7, 3) := by decide +kernel
theorem dX4_state_15 : decode cX4_state 15 = .ok (.iconst 2, 1) := by decide +kernel
theorem dX4_state_16 : decode cX4_state 16 = .ok (.iload_n 1, 1) := by decide +kernel
theorem dX4_state_17 : decode cX4_state 17 = .ok (.iadd, 1) := by decide +kernel
theorem dX4_state_18 : decode cX4_state 18 = .ok (.bipush 6, 2) := by decide +kernel
theorem dX4_state_20 : decode cX4_state 20 = .ok (.isub, 1) := by decide +kernel
theorem dX4_state_21 : decode cX4_state 21 = .ok (.iaload, 1) := by decide +kernel
theorem dX4_state_22 : decode cX4_state 22 = .ok (.ireturn, 1) := by decide +kernel
theorem dX4_state_23 : decode cX4_state 23 = .ok (.iload_n 1, 1) := by decide +kernel
theorem dX4_state_24 : decode cX4_state 24 = .ok (.tableswitch 77 0 5 #[40, 47, 54, 62, 67, 72], 40) := by decide +kernel
theorem dX4_state_64 : decode cX4_state 64 = .ok (.aload_n 0, 1) := by decide +kernel
theorem dX4_state_65 : decode cX4_state 65 = .ok (.getfield 7, 3) := by decide +kernel
theorem dX4_state_68 : decode cX4_state 68 = .ok (.iconst 1, 1) := by decide +kernel
theorem dX4_state_69 : decode cX4_state 69 = .ok (.iaload, 1) := by decide +kernel
theorem dX4_state_70 : decode cX4_state 70 = .ok (.ireturn, 1) := by decide +kernel
theorem dX4_state_71 : decode cX4_state 71 = .ok (.aload_n 0, 1) := by decide +kernel
theorem dX4_state_72 : decode cX4_state 72 = .ok (.getfield 7, 3) := by decide +kernel
theorem dX4_state_75 : decode cX4_state 75 = .ok (.iconst 0, 1) := by decide +kernel
theorem dX4_state_76 : decode cX4_state 76 = .ok (.iaload, 1) := by decide +kernel
theorem dX4_state_77 : decode cX4_state 77 = .ok (.ireturn, 1) := by decide +kernel
theorem dX4_state_78 : decode cX4_state 78 = .ok (.aload_n 0, 1) := by decide +kernel
theorem dX4_state_79 : decode cX4_state 79 = .ok (.getfield 7, 3) := by decide +kernel
theorem dX4_state_82 : decode cX4_state 82 = .ok (.bipush 33, 2) := by decide +kernel
theorem dX4_state_84 : decode cX4_state 84 = .ok (.iaload, 1) := by decide +kernel
theorem dX4_state_85 : decode cX4_state 85 = .ok (.ireturn, 1) := by decide +kernel
theorem dX4_state_86 : decode cX4_state 86 = .ok (.aload_n 0, 1) := by decide +kernel
theorem dX4_state_87 : decode cX4_state 87 = .ok (.invokevirtual 64, 3) := by decide +kernel
theorem dX4_state_90 : decode cX4_state 90 = .ok (.ireturn, 1) := by decide +kernel
theorem dX4_state_91 : decode cX4_state 91 = .ok (.aload_n 0, 1) := by decide +kernel
theorem dX4_state_92 : decode cX4_state 92 = .ok (.invokevirtual 141, 3) := by decide +kernel
theorem dX4_state_95 : decode cX4_state 95 = .ok (.ireturn, 1) := by decide +kernel
theorem dX4_state_96 : decode cX4_state 96 = .ok (.aload_n 0, 1) := by decide +kernel
theorem dX4_state_97 : decode cX4_state 97 = .ok (.getfield 144, 3) := by decide +kernel
theorem dX4_state_100 : decode cX4_state 100 = .ok (.ireturn, 1) := by decide +kernel
theorem dX4_state_101 : decode cX4_state 101 = .ok (.ldc 51, 2) := by decide +kernel
theorem dX4_state_103 : decode cX4_state 103 = .ok (.ireturn, 1) := by decide +kernel
theorem dX4_marker_0 : decode cX4_marker 0 = .ok (.iload_n 1, 1) := by decide +kernel
theorem dX4_marker_1 : decode cX4_marker 1 = .ok (.iconst 0, 1) := by decide +kernel
theorem dX4_marker_2 : decode cX4_marker 2 = .ok (.sipush 1000, 3) := by decide +kernel
theorem dX4_marker_5 : decode cX4_marker 5 = .ok (.aload_n 0, 1) := by decide +kernel
theorem dX4_marker_6 : decode cX4_marker 6 = .ok (.getfield 7, 3) := by decide +kernel
theorem dX4_marker_9 : decode cX4_marker 9 = .ok (.iconst 0, 1) := by decide +kernel
theorem dX4_marker_10 : decode cX4_marker 10 = .ok (.iaload, 1) := by decide +kernel
theorem dX4_marker_11 : decode cX4_marker 11 = .ok (.imul, 1) := by decide +kernel
theorem dX4_marker_12 : decode cX4_marker 12 = .ok (.iconst 1, 1) := by decide +kernel
theorem dX4_marker_13 : decode cX4_marker 13 = .ok (.isub, 1) := by decide +kernel
theorem dX4_marker_14 : decode cX4_marker 14 = .ok (.invokestatic 39, 3) := by decide +kernel
theorem dX4_marker_17 : decode cX4_marker 17 = .ok (.ifCond .eq 14, 3) := by decide +kernel
theorem dX4_marker_20 : decode cX4_marker 20 = .ok (.iload_n 2, 1) := by decide +kernel
theorem dX4_marker_21 : decode cX4_marker 21 = .ok (.iconst 0, 1) := by decide +kernel
theorem dX4_marker_22 : decode cX4_marker 22 = .ok (.sipush 3599, 3) := by decide +kernel
theorem dX4_marker_25 : decode cX4_marker 25 = .ok (.invokestatic 39, 3) := by decide +kernel
theorem dX4_marker_28 : decode cX4_marker 28 = .ok (.ifCond .ne 6, 3) := by decide +kernel
theorem dX4_marker_31 : decode cX4_marker 31 = .ok (.bipush (-2), 2) := by decide +kernel
theorem dX4_marker_33 : decode cX4_marker 33 = .ok (.ireturn, 1) := by decide +kernel
theorem dX4_marker_34 : decode cX4_marker 34 = .ok (.aload_n 0, 1) := by decide +kernel
theorem dX4_marker_35 : decode cX4_marker 35 = .ok (.getfield 7, 3) := by decide +kernel
theorem dX4_marker_38 : decode cX4_marker 38 = .ok (.bipush 33, 2) := by decide +kernel
theorem dX4_marker_40 : decode cX4_marker 40 = .ok (.iaload, 1) := by decide +kernel
theorem dX4_marker_41 : decode cX4_marker 41 = .ok (.bipush 6, 2) := by decide +kernel
theorem dX4_marker_43 : decode cX4_marker 43 = .ok (.if_icmp .ne 6, 3) := by decide +kernel
theorem dX4_marker_46 : decode cX4_marker 46 = .ok (.bipush (-4), 2) := by decide +kernel
theorem dX4_marker_48 : decode cX4_marker 48 = .ok (.ireturn, 1) := by decide +kernel
theorem dX4_marker_49 : decode cX4_marker 49 = .ok (.bipush 34, 2) := by decide +kernel
theorem dX4_marker_51 : decode cX4_marker 51 = .ok (.bipush 104, 2) := by decide +kernel
theorem dX4_marker_53 : decode cX4_marker 53 = .ok (.aload_n 0, 1) := by decide +kernel
theorem dX4_marker_54 : decode cX4_marker 54 = .ok (.getfield 7, 3) := by decide +kernel
theorem dX4_marker_57 : decode cX4_marker 57 = .ok (.bipush 33, 2) := by decide +kernel
theorem dX4_marker_59 : decode cX4_marker 59 = .ok (.iaload, 1) := by decide +kernel
theorem dX4_marker_60 : decode cX4_marker 60 = .ok (.imul, 1) := by decide +kernel
theorem dX4_marker_61 : decode cX4_marker 61 = .ok (.iadd, 1) := by decide +kernel
theorem dX4_marker_62 : decode cX4_marker 62 = .ok (.istore_n 3, 1) := by decide +kernel
theorem dX4_marker_63 : decode cX4_marker 63 = .ok (.aload_n 0, 1) := by decide +kernel
theorem dX4_marker_64 : decode cX4_marker 64 = .ok (.getfield 7, 3) := by decide +kernel
theorem dX4_marker_67 : decode cX4_marker 67 = .ok (.iload_n 3, 1) := by decide +kernel
theorem dX4_marker_68 : decode cX4_marker 68 = .ok (.iconst 0, 1) := by decide +kernel
theorem dX4_marker_69 : decode cX4_marker 69 = .ok (.iadd, 1) := by decide +kernel
theorem dX4_marker_70 : decode cX4_marker 70 = .ok (.iload_n 1, 1) := by decide +kernel
theorem dX4_marker_71 : decode cX4_marker 71 = .ok (.iastore, 1) := by decide +kernel
theorem dX4_marker_72 : decode cX4_marker 72 = .ok (.aload_n 0, 1) := by decide +kernel
theorem dX4_marker_73 : decode cX4_marker 73 = .ok (.getfield 7, 3) := by decide +kernel
theorem dX4_marker_76 : decode cX4_marker 76 = .ok (.iload_n 3, 1) := by decide +kernel
theorem dX4_marker_77 : decode cX4_marker 77 = .ok (.iconst 1, 1) := by decide +kernel
theorem dX4_marker_78 : decode cX4_marker 78 = .ok (.iadd, 1) := by decide +kernel
theorem dX4_marker_79 : decode cX4_marker 79 = .ok (.iload_n 2, 1) := by decide +kernel
theorem dX4_marker_80 : decode cX4_marker 80 = .ok (.iastore, 1) := by decide +kernel
theorem dX4_marker_81 : decode cX4_marker 81 = .ok (.aload_n 0, 1) := by decide +kernel
theorem dX4_marker_82 : decode cX4_marker 82 = .ok (.getfield 7, 3) := by decide +kernel
theorem dX4_marker_85 : decode cX4_marker 85 = .ok (.iload_n 3, 1) := by decide +kernel
theorem dX4_marker_86 : decode cX4_marker 86 = .ok (.iconst 2, 1) := by decide +kernel
theorem dX4_marker_87 : decode cX4_marker 87 = .ok (.iadd, 1) := by decide +kernel
theorem dX4_marker_88 : decode cX4_marker 88 = .ok (.iconst 0, 1) := by decide +kernel
theorem dX4_marker_89 : decode cX4_marker 89 = .ok (.iastore, 1) := by decide +kernel
theorem dX4_marker_90 : decode cX4_marker 90 = .ok (.aload_n 0, 1) := by decide +kernel
theorem dX4_marker_91 : decode cX4_marker 91 = .ok (.getfield 7, 3) := by decide +kernel
theorem dX4_marker_94 : decode cX4_marker 94 = .ok (.iload_n 3, 1) := by decide +kernel
theorem dX4_marker_95 : decode cX4_marker 95 = .ok (.iconst 3, 1) := by decide +kernel
theorem dX4_marker_96 : decode cX4_marker 96 = .ok (.iadd, 1) := by decide +kernel
theorem dX4_marker_97 : decode cX4_marker 97 = .ok (.iconst 0, 1) := by decide +kernel
theorem dX4_marker_98 : decode cX4_marker 98 = .ok (.iastore, 1) := by decide +kernel
theorem dX4_marker_99 : decode cX4_marker 99 = .ok (.aload_n 0, 1) := by decide +kernel
theorem dX4_marker_100 : decode cX4_marker 100 = .ok (.getfield 7, 3) := by decide +kernel
theorem dX4_marker_103 : decode cX4_marker 103 = .ok (.bipush 33, 2) := by decide +kernel
theorem dX4_marker_105 : decode cX4_marker 105 = .ok (.dup2, 1) := by decide +kernel
theorem dX4_marker_106 : decode cX4_marker 106 = .ok (.iaload, 1) := by decide +kernel
theorem dX4_marker_107 : decode cX4_marker 107 = .ok (.iconst 1, 1) := by decide +kernel
theorem dX4_marker_108 : decode cX4_marker 108 = .ok (.iadd, 1) := by decide +kernel
theorem dX4_marker_109 : decode cX4_marker 109 = .ok (.iastore, 1) := by decide +kernel
theorem dX4_marker_110 : decode cX4_marker 110 = .ok (.aload_n 0, 1) := by decide +kernel
theorem dX4_marker_111 : decode cX4_marker 111 = .ok (.getfield 7, 3) := by decide +kernel
theorem dX4_marker_114 : decode cX4_marker 114 = .ok (.bipush 33, 2) := by decide +kernel
theorem dX4_marker_116 : decode cX4_marker 116 = .ok (.iaload, 1) := by decide +kernel
theorem dX4_marker_117 : decode cX4_marker 117 = .ok (.iconst 1, 1) := by decide +kernel
theorem dX4_marker_118 : decode cX4_marker 118 = .ok (.isub, 1) := by decide +kernel
theorem dX4_marker_119 : decode cX4_marker 119 = .ok (.ireturn, 1) := by decide +kernel
theorem dX4_isMarker_0 : decode cX4_isMarker 0 = .ok (.iload_n 1, 1) := by decide +kernel
theorem dX4_isMarker_1 : decode cX4_isMarker 1 = .ok (.iconst 0, 1) := by decide +kernel
theorem dX4_isMarker_2 : decode cX4_isMarker 2 = .ok (.aload_n 0, 1) := by decide +kernel
theorem dX4_isMarker_3 : decode cX4_isMarker 3 = .ok (.getfield 7, 3) := by decide +kernel
theorem dX4_isMarker_6 : decode cX4_isMarker 6 = .ok (.bipush 33, 2) := by decide +kernel
theorem dX4_isMarker_8 : decode cX4_isMarker 8 = .ok (.iaload, 1) := by decide +kernel
theorem dX4_isMarker_9 : decode cX4_isMarker 9 = .ok (.iconst 1, 1) := by decide +kernel
theorem dX4_isMarker_10 : decode cX4_isMarker 10 = .ok (.isub, 1) := by decide +kernel
theorem dX4_isMarker_11 : decode cX4_isMarker 11 = .ok (.invokestatic 39, 3) := by decide +kernel
theorem dX4_isMarker_14 : decode cX4_isMarker 14 = .ok (.ireturn, 1) := by decide +kernel
theorem dX4_keptOf_0 : decode cX4_keptOf 0 = .ok (.aload_n 0, 1) := by decide +kernel
theorem dX4_keptOf_1 : decode cX4_keptOf 1 = .ok (.getfield 7, 3) := by decide +kernel
theorem dX4_keptOf_4 : decode cX4_keptOf 4 = .ok (.bipush 34, 2) := by decide +kernel
theorem dX4_keptOf_6 : decode cX4_keptOf 6 = .ok (.bipush 104, 2) := by decide +kernel
theorem dX4_keptOf_8 : decode cX4_keptOf 8 = .ok (.iload_n 1, 1) := by decide +kernel
theorem dX4_keptOf_9 : decode cX4_keptOf 9 = .ok (.imul, 1) := by decide +kernel
theorem dX4_keptOf_10 : decode cX4_keptOf 10 = .ok (.iadd, 1) := by decide +kernel
theorem dX4_keptOf_11 : decode cX4_keptOf 11 = .ok (.iconst 2, 1) := by decide +kernel
theorem dX4_keptOf_12 : decode cX4_keptOf 12 = .ok (.iadd, 1) := by decide +kernel
theorem dX4_keptOf_13 : decode cX4_keptOf 13 = .ok (.iaload, 1) := by decide +kernel
theorem dX4_keptOf_14 : decode cX4_keptOf 14 = .ok (.istore_n 2, 1) := by decide +kernel
theorem dX4_keptOf_15 : decode cX4_keptOf 15 = .ok (.iload_n 2, 1) := by decide +kernel
theorem dX4_keptOf_16 : decode cX4_keptOf 16 = .ok (.bipush 50, 2) := by decide +kernel
theorem dX4_keptOf_18 : decode cX4_keptOf 18 = .ok (.if_icmp .ge 7, 3) := by decide +kernel
theorem dX4_keptOf_21 : decode cX4_keptOf 21 = .ok (.iload_n 2, 1) := by decide +kernel
theorem dX4_keptOf_22 : decode cX4_keptOf 22 = .ok (.goto 5, 3) := by decide +kernel
theorem dX4_keptOf_25 : decode cX4_keptOf 25 = .ok (.bipush 50, 2) := by decide +kernel
theorem dX4_keptOf_27 : decode cX4_keptOf 27 = .ok (.ireturn, 1) := by decide +kernel
theorem dX4_where_0 : decode cX4_where 0 = .ok (.aload_n 0, 1) := by decide +kernel
theorem dX4_where_1 : decode cX4_where 1 = .ok (.iload_n 1, 1) := by decide +kernel
theorem dX4_where_2 : decode cX4_where 2 = .ok (.invokevirtual 148, 3) := by decide +kernel
theorem dX4_where_5 : decode cX4_where 5 = .ok (.ifCond .ne 5, 3) := by decide +kernel
theorem dX4_where_8 : decode cX4_where 8 = .ok (.iconst (-1), 1) := by decide +kernel
theorem dX4_where_9 : decode cX4_where 9 = .ok (.ireturn, 1) := by decide +kernel
theorem dX4_where_10 : decode cX4_where 10 = .ok (.bipush 34, 2) := by decide +kernel
theorem dX4_where_12 : decode cX4_where 12 = .ok (.bipush 104, 2) := by decide +kernel
theorem dX4_where_14 : decode cX4_where 14 = .ok (.iload_n 1, 1) := by decide +kernel
theorem dX4_where_15 : decode cX4_where 15 = .ok (.imul, 1) := by decide +kernel
theorem dX4_where_16 : decode cX4_where 16 = .ok (.iadd, 1) := by decide +kernel
theorem dX4_where_17 : decode cX4_where 17 = .ok (.istore_n 3, 1) := by decide +kernel
theorem dX4_where_18 : decode cX4_where 18 = .ok (.iload_n 2, 1) := by decide +kernel
theorem dX4_where_19 : decode cX4_where 19 = .ok (.tableswitch 79 0 4 #[33, 42, 51, 64, 70], 33) := by decide +kernel
theorem dX4_where_52 : decode cX4_where 52 = .ok (.aload_n 0, 1) := by decide +kernel
theorem dX4_where_53 : decode cX4_where 53 = .ok (.getfield 7, 3) := by decide +kernel
theorem dX4_where_56 : decode cX4_where 56 = .ok (.iload_n 3, 1) := by decide +kernel
theorem dX4_where_57 : decode cX4_where 57 = .ok (.iconst 0, 1) := by decide +kernel
theorem dX4_where_58 : decode cX4_where 58 = .ok (.iadd, 1) := by decide +kernel
theorem dX4_where_59 : decode cX4_where 59 = .ok (.iaload, 1) := by decide +kernel
theorem dX4_where_60 : decode cX4_where 60 = .ok (.ireturn, 1) := by decide +kernel
theorem dX4_where_61 : decode cX4_where 61 = .ok (.aload_n 0, 1) := by decide +kernel
theorem dX4_where_62 : decode cX4_where 62 = .ok (.getfield 7, 3) := by decide +kernel
theorem dX4_where_65 : decode cX4_where 65 = .ok (.iload_n 3, 1) := by decide +kernel
theorem dX4_where_66 : decode cX4_where 66 = .ok (.iconst 1, 1) := by decide +kernel
theorem dX4_where_67 : decode cX4_where 67 = .ok (.iadd, 1) := by decide +kernel
theorem dX4_where_68 : decode cX4_where 68 = .ok (.iaload, 1) := by decide +kernel
theorem dX4_where_69 : decode cX4_where 69 = .ok (.ireturn, 1) := by decide +kernel
theorem dX4_where_70 : decode cX4_where 70 = .ok (.aload_n 0, 1) := by decide +kernel
theorem dX4_where_71 : decode cX4_where 71 = .ok (.getfield 7, 3) := by decide +kernel
theorem dX4_where_74 : decode cX4_where 74 = .ok (.iload_n 3, 1) := by decide +kernel
theorem dX4_where_75 : decode cX4_where 75 = .ok (.iconst 0, 1) := by decide +kernel
theorem dX4_where_76 : decode cX4_where 76 = .ok (.iadd, 1) := by decide +kernel
theorem dX4_where_77 : decode cX4_where 77 = .ok (.iaload, 1) := by decide +kernel
theorem dX4_where_78 : decode cX4_where 78 = .ok (.sipush 1000, 3) := by decide +kernel
theorem dX4_where_81 : decode cX4_where 81 = .ok (.idiv, 1) := by decide +kernel
theorem dX4_where_82 : decode cX4_where 82 = .ok (.ireturn, 1) := by decide +kernel
theorem dX4_where_83 : decode cX4_where 83 = .ok (.aload_n 0, 1) := by decide +kernel
theorem dX4_where_84 : decode cX4_where 84 = .ok (.iload_n 1, 1) := by decide +kernel
theorem dX4_where_85 : decode cX4_where 85 = .ok (.invokevirtual 151, 3) := by decide +kernel
theorem dX4_where_88 : decode cX4_where 88 = .ok (.ireturn, 1) := by decide +kernel
theorem dX4_where_89 : decode cX4_where 89 = .ok (.aload_n 0, 1) := by decide +kernel
theorem dX4_where_90 : decode cX4_where 90 = .ok (.getfield 7, 3) := by decide +kernel
theorem dX4_where_93 : decode cX4_where 93 = .ok (.iload_n 3, 1) := by decide +kernel
theorem dX4_where_94 : decode cX4_where 94 = .ok (.iconst 3, 1) := by decide +kernel
theorem dX4_where_95 : decode cX4_where 95 = .ok (.iadd, 1) := by decide +kernel
theorem dX4_where_96 : decode cX4_where 96 = .ok (.iaload, 1) := by decide +kernel
theorem dX4_where_97 : decode cX4_where 97 = .ok (.ireturn, 1) := by decide +kernel
theorem dX4_where_98 : decode cX4_where 98 = .ok (.bipush (-2), 2) := by decide +kernel
theorem dX4_where_100 : decode cX4_where 100 = .ok (.ireturn, 1) := by decide +kernel
theorem dX4_path_0 : decode cX4_path 0 = .ok (.aload_n 0, 1) := by decide +kernel
theorem dX4_path_1 : decode cX4_path 1 = .ok (.iload_n 1, 1) := by decide +kernel
theorem dX4_path_2 : decode cX4_path 2 = .ok (.invokevirtual 148, 3) := by decide +kernel
theorem dX4_path_5 : decode cX4_path 5 = .ok (.ifCond .ne 5, 3) := by decide +kernel
theorem dX4_path_8 : decode cX4_path 8 = .ok (.iconst (-1), 1) := by decide +kernel
theorem dX4_path_9 : decode cX4_path 9 = .ok (.ireturn, 1) := by decide +kernel
theorem dX4_path_10 : decode cX4_path 10 = .ok (.iload_n 3, 1) := by decide +kernel
theorem dX4_path_11 : decode cX4_path 11 = .ok (.iconst 0, 1) := by decide +kernel
theorem dX4_path_12 : decode cX4_path 12 = .ok (.iconst 1, 1) := by decide +kernel
theorem dX4_path_13 : decode cX4_path 13 = .ok (.invokestatic 39, 3) := by decide +kernel
theorem dX4_path_16 : decode cX4_path 16 = .ok (.ifCond .ne 6, 3) := by decide +kernel
theorem dX4_path_19 : decode cX4_path 19 = .ok (.bipush (-2), 2) := by decide +kernel
theorem dX4_path_21 : decode cX4_path 21 = .ok (.ireturn, 1) := by decide +kernel
theorem dX4_path_22 : decode cX4_path 22 = .ok (.iload_n 2, 1) := by decide +kernel
theorem dX4_path_23 : decode cX4_path 23 = .ok (.iconst 0, 1) := by decide +kernel
theorem dX4_path_24 : decode cX4_path 24 = .ok (.aload_n 0, 1) := by decide +kernel
theorem dX4_path_25 : decode cX4_path 25 = .ok (.iload_n 1, 1) := by decide +kernel
theorem dX4_path_26 : decode cX4_path 26 = .ok (.invokevirtual 151, 3) := by decide +kernel
theorem dX4_path_29 : decode cX4_path 29 = .ok (.iconst 1, 1) := by decide +kernel
theorem dX4_path_30 : decode cX4_path 30 = .ok (.isub, 1) := by decide +kernel
theorem dX4_path_31 : decode cX4_path 31 = .ok (.invokestatic 39, 3) := by decide +kernel
theorem dX4_path_34 : decode cX4_path 34 = .ok (.ifCond .ne 6, 3) := by decide +kernel
theorem dX4_path_37 : decode cX4_path 37 = .ok (.bipush (-6), 2) := by decide +kernel
theorem dX4_path_39 : decode cX4_path 39 = .ok (.ireturn, 1) := by decide +kernel
theorem dX4_path_40 : decode cX4_path 40 = .ok (.bipush 34, 2) := by decide +kernel
theorem dX4_path_42 : decode cX4_path 42 = .ok (.bipush 104, 2) := by decide +kernel
theorem dX4_path_44 : decode cX4_path 44 = .ok (.iload_n 1, 1) := by decide +kernel
theorem dX4_path_45 : decode cX4_path 45 = .ok (.imul, 1) := by decide +kernel
theorem dX4_path_46 : decode cX4_path 46 = .ok (.iadd, 1) := by decide +kernel
theorem dX4_path_47 : decode cX4_path 47 = .ok (.istore 4, 2) := by decide +kernel
theorem dX4_path_49 : decode cX4_path 49 = .ok (.aload_n 0, 1) := by decide +kernel
theorem dX4_path_50 : decode cX4_path 50 = .ok (.getfield 7, 3) := by decide +kernel
theorem dX4_path_53 : decode cX4_path 53 = .ok (.iload 4, 2) := by decide +kernel
theorem dX4_path_55 : decode cX4_path 55 = .ok (.iconst 4, 1) := by decide +kernel
theorem dX4_path_56 : decode cX4_path 56 = .ok (.iadd, 1) := by decide +kernel
theorem dX4_path_57 : decode cX4_path 57 = .ok (.iconst 2, 1) := by decide +kernel
theorem dX4_path_58 : decode cX4_path 58 = .ok (.aload_n 0, 1) := by decide +kernel
theorem dX4_path_59 : decode cX4_path 59 = .ok (.getfield 7, 3) := by decide +kernel
theorem dX4_path_62 : decode cX4_path 62 = .ok (.iload 4, 2) := by decide +kernel
theorem dX4_path_64 : decode cX4_path 64 = .ok (.iconst 2, 1) := by decide +kernel
theorem dX4_path_65 : decode cX4_path 65 = .ok (.iadd, 1) := by decide +kernel
theorem dX4_path_66 : decode cX4_path 66 = .ok (.iaload, 1) := by decide +kernel
theorem dX4_path_67 : decode cX4_path 67 = .ok (.iconst 1, 1) := by decide +kernel
theorem dX4_path_68 : decode cX4_path 68 = .ok (.isub, 1) := by decide +kernel
theorem dX4_path_69 : decode cX4_path 69 = .ok (.iload_n 2, 1) := by decide +kernel
theorem dX4_path_70 : decode cX4_path 70 = .ok (.isub, 1) := by decide +kernel
theorem dX4_path_71 : decode cX4_path 71 = .ok (.bipush 50, 2) := by decide +kernel
theorem dX4_path_73 : decode cX4_path 73 = .ok (.irem, 1) := by decide +kernel
theorem dX4_path_74 : decode cX4_path 74 = .ok (.imul, 1) := by decide +kernel
theorem dX4_path_75 : decode cX4_path 75 = .ok (.iadd, 1) := by decide +kernel
theorem dX4_path_76 : decode cX4_path 76 = .ok (.iload_n 3, 1) := by decide +kernel
theorem dX4_path_77 : decode cX4_path 77 = .ok (.iadd, 1) := by decide +kernel
theorem dX4_path_78 : decode cX4_path 78 = .ok (.iaload, 1) := by decide +kernel
theorem dX4_path_79 : decode cX4_path 79 = .ok (.ireturn, 1) := by decide +kernel
theorem dX4_isSettled_0 : decode cX4_isSettled 0 = .ok (.iconst 1, 1) := by decide +kernel
theorem dX4_isSettled_1 : decode cX4_isSettled 1 = .ok (.istore_n 2, 1) := by decide +kernel
theorem dX4_isSettled_2 : decode cX4_isSettled 2 = .ok (.iconst 0, 1) := by decide +kernel
theorem dX4_isSettled_3 : decode cX4_isSettled 3 = .ok (.istore_n 3, 1) := by decide +kernel
theorem dX4_isSettled_4 : decode cX4_isSettled 4 = .ok (.iload_n 3, 1) := by decide +kernel
theorem dX4_isSettled_5 : decode cX4_isSettled 5 = .ok (.aload_n 0, 1) := by decide +kernel
theorem dX4_isSettled_6 : decode cX4_isSettled 6 = .ok (.getfield 7, 3) := by decide +kernel
theorem dX4_isSettled_9 : decode cX4_isSettled 9 = .ok (.iconst 0, 1) := by decide +kernel
theorem dX4_isSettled_10 : decode cX4_isSettled 10 = .ok (.iaload, 1) := by decide +kernel
theorem dX4_isSettled_11 : decode cX4_isSettled 11 = .ok (.if_icmp .ge 41, 3) := by decide +kernel
theorem dX4_isSettled_14 : decode cX4_isSettled 14 = .ok (.iload_n 2, 1) := by decide +kernel
theorem dX4_isSettled_15 : decode cX4_isSettled 15 = .ok (.ifCond .eq 29, 3) := by decide +kernel
theorem dX4_isSettled_18 : decode cX4_isSettled 18 = .ok (.aload_n 0, 1) := by decide +kernel
theorem dX4_isSettled_19 : decode cX4_isSettled 19 = .ok (.iload_n 3, 1) := by decide +kernel
theorem dX4_isSettled_20 : decode cX4_isSettled 20 = .ok (.invokevirtual 60, 3) := by decide +kernel
theorem dX4_isSettled_23 : decode cX4_isSettled 23 = .ok (.aload_n 0, 1) := by decide +kernel
theorem dX4_isSettled_24 : decode cX4_isSettled 24 = .ok (.getfield 7, 3) := by decide +kernel
theorem dX4_isSettled_27 : decode cX4_isSettled 27 = .ok (.bipush 6, 2) := by decide +kernel
theorem dX4_isSettled_29 : decode cX4_isSettled 29 = .ok (.iaload, 1) := by decide +kernel
theorem dX4_isSettled_30 : decode cX4_isSettled 30 = .ok (.isub, 1) := by decide +kernel
theorem dX4_isSettled_31 : decode cX4_isSettled 31 = .ok (.iload_n 1, 1) := by decide +kernel
theorem dX4_isSettled_32 : decode cX4_isSettled 32 = .ok (.ineg, 1) := by decide +kernel
theorem dX4_isSettled_33 : decode cX4_isSettled 33 = .ok (.iload_n 1, 1) := by decide +kernel
theorem dX4_isSettled_34 : decode cX4_isSettled 34 = .ok (.invokestatic 39, 3) := by decide +kernel
theorem dX4_isSettled_37 : decode cX4_isSettled 37 = .ok (.ifCond .eq 7, 3) := by decide +kernel
theorem dX4_isSettled_40 : decode cX4_isSettled 40 = .ok (.iconst 1, 1) := by decide +kernel
theorem dX4_isSettled_41 : decode cX4_isSettled 41 = .ok (.goto 4, 3) := by decide +kernel
theorem dX4_isSettled_44 : decode cX4_isSettled 44 = .ok (.iconst 0, 1) := by decide +kernel
theorem dX4_isSettled_45 : decode cX4_isSettled 45 = .ok (.istore_n 2, 1) := by decide +kernel
theorem dX4_isSettled_46 : decode cX4_isSettled 46 = .ok (.iinc 3 1, 3) := by decide +kernel
theorem dX4_isSettled_49 : decode cX4_isSettled 49 = .ok (.goto (-45), 3) := by decide +kernel
theorem dX4_isSettled_52 : decode cX4_isSettled 52 = .ok (.iload_n 2, 1) := by decide +kernel
theorem dX4_isSettled_53 : decode cX4_isSettled 53 = .ok (.ireturn, 1) := by decide +kernel
theorem dX4_hasPart_0 : decode cX4_hasPart 0 = .ok (.aload_n 0, 1) := by decide +kernel
theorem dX4_hasPart_1 : decode cX4_hasPart 1 = .ok (.iload_n 1, 1) := by decide +kernel
theorem dX4_hasPart_2 : decode cX4_hasPart 2 = .ok (.iconst 0, 1) := by decide +kernel
theorem dX4_hasPart_3 : decode cX4_hasPart 3 = .ok (.iload_n 2, 1) := by decide +kernel
theorem dX4_hasPart_4 : decode cX4_hasPart 4 = .ok (.iload_n 2, 1) := by decide +kernel
theorem dX4_hasPart_5 : decode cX4_hasPart 5 = .ok (.invokevirtual 75, 3) := by decide +kernel
theorem dX4_hasPart_8 : decode cX4_hasPart 8 = .ok (.aload_n 0, 1) := by decide +kernel
theorem dX4_hasPart_9 : decode cX4_hasPart 9 = .ok (.iload_n 1, 1) := by decide +kernel
theorem dX4_hasPart_10 : decode cX4_hasPart 10 = .ok (.iconst 1, 1) := by decide +kernel
theorem dX4_hasPart_11 : decode cX4_hasPart 11 = .ok (.iload_n 2, 1) := by decide +kernel
theorem dX4_hasPart_12 : decode cX4_hasPart 12 = .ok (.iload_n 2, 1) := by decide +kernel
theorem dX4_hasPart_13 : decode cX4_hasPart 13 = .ok (.invokevirtual 75, 3) := by decide +kernel
theorem dX4_hasPart_16 : decode cX4_hasPart 16 = .ok (.iadd, 1) := by decide +kernel
theorem dX4_hasPart_17 : decode cX4_hasPart 17 = .ok (.i2l, 1) := by decide +kernel
theorem dX4_hasPart_18 : decode cX4_hasPart 18 = .ok (.lstore 4, 2) := by decide +kernel
theorem dX4_hasPart_20 : decode cX4_hasPart 20 = .ok (.ldc2_w 90, 3) := by decide +kernel
theorem dX4_hasPart_23 : decode cX4_hasPart 23 = .ok (.lload 4, 2) := by decide +kernel
theorem dX4_hasPart_25 : decode cX4_hasPart 25 = .ok (.lmul, 1) := by decide +kernel
theorem dX4_hasPart_26 : decode cX4_hasPart 26 = .ok (.iload_n 3, 1) := by decide +kernel
theorem dX4_hasPart_27 : decode cX4_hasPart 27 = .ok (.i2l, 1) := by decide +kernel
theorem dX4_hasPart_28 : decode cX4_hasPart 28 = .ok (.aload_n 0, 1) := by decide +kernel
theorem dX4_hasPart_29 : decode cX4_hasPart 29 = .ok (.iload_n 1, 1) := by decide +kernel
theorem dX4_hasPart_30 : decode cX4_hasPart 30 = .ok (.invokevirtual 83, 3) := by decide +kernel
theorem dX4_hasPart_33 : decode cX4_hasPart 33 = .ok (.i2l, 1) := by decide +kernel
theorem dX4_hasPart_34 : decode cX4_hasPart 34 = .ok (.lmul, 1) := by decide +kernel
theorem dX4_hasPart_35 : decode cX4_hasPart 35 = .ok (.lcmp, 1) := by decide +kernel
theorem dX4_hasPart_36 : decode cX4_hasPart 36 = .ok (.ifCond .lt 7, 3) := by decide +kernel
theorem dX4_hasPart_39 : decode cX4_hasPart 39 = .ok (.iconst 1, 1) := by decide +kernel
theorem dX4_hasPart_40 : decode cX4_hasPart 40 = .ok (.goto 4, 3) := by decide +kernel
theorem dX4_hasPart_43 : decode cX4_hasPart 43 = .ok (.iconst 0, 1) := by decide +kernel
theorem dX4_hasPart_44 : decode cX4_hasPart 44 = .ok (.ireturn, 1) := by decide +kernel
theorem dX4_areNear_0 : decode cX4_areNear 0 = .ok (.bipush 34, 2) := by decide +kernel
theorem dX4_areNear_2 : decode cX4_areNear 2 = .ok (.bipush 104, 2) := by decide +kernel
theorem dX4_areNear_4 : decode cX4_areNear 4 = .ok (.iload_n 1, 1) := by decide +kernel
theorem dX4_areNear_5 : decode cX4_areNear 5 = .ok (.imul, 1) := by decide +kernel
theorem dX4_areNear_6 : decode cX4_areNear 6 = .ok (.iadd, 1) := by decide +kernel
theorem dX4_areNear_7 : decode cX4_areNear 7 = .ok (.istore 4, 2) := by decide +kernel
theorem dX4_areNear_9 : decode cX4_areNear 9 = .ok (.bipush 34, 2) := by decide +kernel
theorem dX4_areNear_11 : decode cX4_areNear 11 = .ok (.bipush 104, 2) := by decide +kernel
theorem dX4_areNear_13 : decode cX4_areNear 13 = .ok (.iload_n 2, 1) := by decide +kernel
theorem dX4_areNear_14 : decode cX4_areNear 14 = .ok (.imul, 1) := by decide +kernel
theorem dX4_areNear_15 : decode cX4_areNear 15 = .ok (.iadd, 1) := by decide +kernel
theorem dX4_areNear_16 : decode cX4_areNear 16 = .ok (.istore 5, 2) := by decide +kernel
theorem dX4_areNear_18 : decode cX4_areNear 18 = .ok (.aload_n 0, 1) := by decide +kernel
theorem dX4_areNear_19 : decode cX4_areNear 19 = .ok (.getfield 7, 3) := by decide +kernel
theorem dX4_areNear_22 : decode cX4_areNear 22 = .ok (.iload 4, 2) := by decide +kernel
theorem dX4_areNear_24 : decode cX4_areNear 24 = .ok (.iconst 1, 1) := by decide +kernel
theorem dX4_areNear_25 : decode cX4_areNear 25 = .ok (.iadd, 1) := by decide +kernel
theorem dX4_areNear_26 : decode cX4_areNear 26 = .ok (.iaload, 1) := by decide +kernel
theorem dX4_areNear_27 : decode cX4_areNear 27 = .ok (.aload_n 0, 1) := by decide +kernel
theorem dX4_areNear_28 : decode cX4_areNear 28 = .ok (.getfield 7, 3) := by decide +kernel
theorem dX4_areNear_31 : decode cX4_areNear 31 = .ok (.iload 5, 2) := by decide +kernel
theorem dX4_areNear_33 : decode cX4_areNear 33 = .ok (.iconst 1, 1) := by decide +kernel
theorem dX4_areNear_34 : decode cX4_areNear 34 = .ok (.iadd, 1) := by decide +kernel
theorem dX4_areNear_35 : decode cX4_areNear 35 = .ok (.iaload, 1) := by decide +kernel
theorem dX4_areNear_36 : decode cX4_areNear 36 = .ok (.isub, 1) := by decide +kernel
theorem dX4_areNear_37 : decode cX4_areNear 37 = .ok (.sipush 3600, 3) := by decide +kernel
theorem dX4_areNear_40 : decode cX4_areNear 40 = .ok (.invokestatic 68, 3) := by decide +kernel
theorem dX4_areNear_43 : decode cX4_areNear 43 = .ok (.istore 6, 2) := by decide +kernel
theorem dX4_areNear_45 : decode cX4_areNear 45 = .ok (.iload 6, 2) := by decide +kernel
theorem dX4_areNear_47 : decode cX4_areNear 47 = .ok (.sipush 1800, 3) := by decide +kernel
theorem dX4_areNear_50 : decode cX4_areNear 50 = .ok (.if_icmp .le 12, 3) := by decide +kernel
theorem dX4_areNear_53 : decode cX4_areNear 53 = .ok (.sipush 3600, 3) := by decide +kernel
theorem dX4_areNear_56 : decode cX4_areNear 56 = .ok (.iload 6, 2) := by decide +kernel
theorem dX4_areNear_58 : decode cX4_areNear 58 = .ok (.isub, 1) := by decide +kernel
theorem dX4_areNear_59 : decode cX4_areNear 59 = .ok (.goto 5, 3) := by decide +kernel
theorem dX4_areNear_62 : decode cX4_areNear 62 = .ok (.iload 6, 2) := by decide +kernel
theorem dX4_areNear_64 : decode cX4_areNear 64 = .ok (.istore 6, 2) := by decide +kernel
theorem dX4_areNear_66 : decode cX4_areNear 66 = .ok (.aload_n 0, 1) := by decide +kernel
theorem dX4_areNear_67 : decode cX4_areNear 67 = .ok (.getfield 7, 3) := by decide +kernel
theorem dX4_areNear_70 : decode cX4_areNear 70 = .ok (.iload 4, 2) := by decide +kernel
theorem dX4_areNear_72 : decode cX4_areNear 72 = .ok (.iconst 0, 1) := by decide +kernel
theorem dX4_areNear_73 : decode cX4_areNear 73 = .ok (.iadd, 1) := by decide +kernel
theorem dX4_areNear_74 : decode cX4_areNear 74 = .ok (.iaload, 1) := by decide +kernel
theorem dX4_areNear_75 : decode cX4_areNear 75 = .ok (.sipush 1000, 3) := by decide +kernel
theorem dX4_areNear_78 : decode cX4_areNear 78 = .ok (.idiv, 1) := by decide +kernel
theorem dX4_areNear_79 : decode cX4_areNear 79 = .ok (.aload_n 0, 1) := by decide +kernel
theorem dX4_areNear_80 : decode cX4_areNear 80 = .ok (.getfield 7, 3) := by decide +kernel
theorem dX4_areNear_83 : decode cX4_areNear 83 = .ok (.iload 5, 2) := by decide +kernel
theorem dX4_areNear_85 : decode cX4_areNear 85 = .ok (.iconst 0, 1) := by decide +kernel
theorem dX4_areNear_86 : decode cX4_areNear 86 = .ok (.iadd, 1) := by decide +kernel
theorem dX4_areNear_87 : decode cX4_areNear 87 = .ok (.iaload, 1) := by decide +kernel
theorem dX4_areNear_88 : decode cX4_areNear 88 = .ok (.sipush 1000, 3) := by decide +kernel
theorem dX4_areNear_91 : decode cX4_areNear 91 = .ok (.idiv, 1) := by decide +kernel
theorem dX4_areNear_92 : decode cX4_areNear 92 = .ok (.if_icmp .ne 13, 3) := by decide +kernel
theorem dX4_areNear_95 : decode cX4_areNear 95 = .ok (.iload 6, 2) := by decide +kernel
theorem dX4_areNear_97 : decode cX4_areNear 97 = .ok (.iload_n 3, 1) := by decide +kernel
theorem dX4_areNear_98 : decode cX4_areNear 98 = .ok (.if_icmp .gt 7, 3) := by decide +kernel
theorem dX4_areNear_101 : decode cX4_areNear 101 = .ok (.iconst 1, 1) := by decide +kernel
theorem dX4_areNear_102 : decode cX4_areNear 102 = .ok (.goto 4, 3) := by decide +kernel
theorem dX4_areNear_105 : decode cX4_areNear 105 = .ok (.iconst 0, 1) := by decide +kernel
theorem dX4_areNear_106 : decode cX4_areNear 106 = .ok (.ireturn, 1) := by decide +kernel
theorem dX4_holds_0 : decode cX4_holds 0 = .ok (.iload_n 1, 1) := by decide +kernel
theorem dX4_holds_1 : decode cX4_holds 1 = .ok (.ifCond .ne 11, 3) := by decide +kernel
theorem dX4_holds_4 : decode cX4_holds 4 = .ok (.aload_n 0, 1) := by decide +kernel
theorem dX4_holds_5 : decode cX4_holds 5 = .ok (.iload_n 2, 1) := by decide +kernel
theorem dX4_holds_6 : decode cX4_holds 6 = .ok (.invokevirtual 154, 3) := by decide +kernel
theorem dX4_holds_9 : decode cX4_holds 9 = .ok (.goto 27, 3) := by decide +kernel
theorem dX4_holds_12 : decode cX4_holds 12 = .ok (.iload_n 1, 1) := by decide +kernel
theorem dX4_holds_13 : decode cX4_holds 13 = .ok (.iconst 1, 1) := by decide +kernel
theorem dX4_holds_14 : decode cX4_holds 14 = .ok (.if_icmp .ne 14, 3) := by decide +kernel
theorem dX4_holds_17 : decode cX4_holds 17 = .ok (.aload_n 0, 1) := by decide +kernel
theorem dX4_holds_18 : decode cX4_holds 18 = .ok (.iload_n 2, 1) := by decide +kernel
theorem dX4_holds_19 : decode cX4_holds 19 = .ok (.iload_n 3, 1) := by decide +kernel
theorem dX4_holds_20 : decode cX4_holds 20 = .ok (.iload 4, 2) := by decide +kernel
theorem dX4_holds_22 : decode cX4_holds 22 = .ok (.invokevirtual 157, 3) := by decide +kernel
theorem dX4_holds_25 : decode cX4_holds 25 = .ok (.goto 11, 3) := by decide +kernel
theorem dX4_holds_28 : decode cX4_holds 28 = .ok (.aload_n 0, 1) := by decide +kernel
theorem dX4_holds_29 : decode cX4_holds 29 = .ok (.iload_n 2, 1) := by decide +kernel
theorem dX4_holds_30 : decode cX4_holds 30 = .ok (.iload_n 3, 1) := by decide +kernel
theorem dX4_holds_31 : decode cX4_holds 31 = .ok (.iload 4, 2) := by decide +kernel
theorem dX4_holds_33 : decode cX4_holds 33 = .ok (.invokevirtual 160, 3) := by decide +kernel
theorem dX4_holds_36 : decode cX4_holds 36 = .ok (.ireturn, 1) := by decide +kernel
theorem dX4_whenHolds_0 : decode cX4_whenHolds 0 = .ok (.aload_n 0, 1) := by decide +kernel
theorem dX4_whenHolds_1 : decode cX4_whenHolds 1 = .ok (.invokevirtual 163, 3) := by decide +kernel
theorem dX4_whenHolds_4 : decode cX4_whenHolds 4 = .ok (.aload_n 0, 1) := by decide +kernel
theorem dX4_whenHolds_5 : decode cX4_whenHolds 5 = .ok (.iload_n 1, 1) := by decide +kernel
theorem dX4_whenHolds_6 : decode cX4_whenHolds 6 = .ok (.iload_n 2, 1) := by decide +kernel
theorem dX4_whenHolds_7 : decode cX4_whenHolds 7 = .ok (.iload_n 3, 1) := by decide +kernel
theorem dX4_whenHolds_8 : decode cX4_whenHolds 8 = .ok (.iload 4, 2) := by decide +kernel
theorem dX4_whenHolds_10 : decode cX4_whenHolds 10 = .ok (.invokevirtual 166, 3) := by decide +kernel
theorem dX4_whenHolds_13 : decode cX4_whenHolds 13 = .ok (.ifCond .eq 7, 3) := by decide +kernel
theorem dX4_whenHolds_16 : decode cX4_whenHolds 16 = .ok (.iconst 0, 1) := by decide +kernel
theorem dX4_whenHolds_17 : decode cX4_whenHolds 17 = .ok (.goto 5, 3) := by decide +kernel
theorem dX4_whenHolds_20 : decode cX4_whenHolds 20 = .ok (.bipush (-6), 2) := by decide +kernel
theorem dX4_whenHolds_22 : decode cX4_whenHolds 22 = .ok (.istore 6, 2) := by decide +kernel
theorem dX4_whenHolds_24 : decode cX4_whenHolds 24 = .ok (.iconst 1, 1) := by decide +kernel
theorem dX4_whenHolds_25 : decode cX4_whenHolds 25 = .ok (.istore 7, 2) := by decide +kernel
theorem dX4_whenHolds_27 : decode cX4_whenHolds 27 = .ok (.iload 7, 2) := by decide +kernel
theorem dX4_whenHolds_29 : decode cX4_whenHolds 29 = .ok (.iload 5, 2) := by decide +kernel
theorem dX4_whenHolds_31 : decode cX4_whenHolds 31 = .ok (.if_icmp .gt 39, 3) := by decide +kernel
theorem dX4_whenHolds_34 : decode cX4_whenHolds 34 = .ok (.iload 6, 2) := by decide +kernel
theorem dX4_whenHolds_36 : decode cX4_whenHolds 36 = .ok (.ifCond .ge 34, 3) := by decide +kernel
theorem dX4_whenHolds_39 : decode cX4_whenHolds 39 = .ok (.aload_n 0, 1) := by decide +kernel
theorem dX4_whenHolds_40 : decode cX4_whenHolds 40 = .ok (.invokevirtual 114, 3) := by decide +kernel
theorem dX4_whenHolds_43 : decode cX4_whenHolds 43 = .ok (.aload_n 0, 1) := by decide +kernel
theorem dX4_whenHolds_44 : decode cX4_whenHolds 44 = .ok (.iload_n 1, 1) := by decide +kernel
theorem dX4_whenHolds_45 : decode cX4_whenHolds 45 = .ok (.iload_n 2, 1) := by decide +kernel
theorem dX4_whenHolds_46 : decode cX4_whenHolds 46 = .ok (.iload_n 3, 1) := by decide +kernel
theorem dX4_whenHolds_47 : decode cX4_whenHolds 47 = .ok (.iload 4, 2) := by decide +kernel
theorem dX4_whenHolds_49 : decode cX4_whenHolds 49 = .ok (.invokevirtual 166, 3) := by decide +kernel
theorem dX4_whenHolds_52 : decode cX4_whenHolds 52 = .ok (.ifCond .eq 8, 3) := by decide +kernel
theorem dX4_whenHolds_55 : decode cX4_whenHolds 55 = .ok (.iload 7, 2) := by decide +kernel
theorem dX4_whenHolds_57 : decode cX4_whenHolds 57 = .ok (.goto 5, 3) := by decide +kernel
theorem dX4_whenHolds_60 : decode cX4_whenHolds 60 = .ok (.bipush (-6), 2) := by decide +kernel
theorem dX4_whenHolds_62 : decode cX4_whenHolds 62 = .ok (.istore 6, 2) := by decide +kernel
theorem dX4_whenHolds_64 : decode cX4_whenHolds 64 = .ok (.iinc 7 1, 3) := by decide +kernel
theorem dX4_whenHolds_67 : decode cX4_whenHolds 67 = .ok (.goto (-40), 3) := by decide +kernel
theorem dX4_whenHolds_70 : decode cX4_whenHolds 70 = .ok (.aload_n 0, 1) := by decide +kernel
theorem dX4_whenHolds_71 : decode cX4_whenHolds 71 = .ok (.invokevirtual 169, 3) := by decide +kernel
theorem dX4_whenHolds_74 : decode cX4_whenHolds 74 = .ok (.iload 6, 2) := by decide +kernel
theorem dX4_whenHolds_76 : decode cX4_whenHolds 76 = .ok (.ireturn, 1) := by decide +kernel
theorem dX4_settles_0 : decode cX4_settles 0 = .ok (.iload_n 1, 1) := by decide +kernel
theorem dX4_settles_1 : decode cX4_settles 1 = .ok (.iconst 0, 1) := by decide +kernel
theorem dX4_settles_2 : decode cX4_settles 2 = .ok (.sipush 1000, 3) := by decide +kernel
theorem dX4_settles_5 : decode cX4_settles 5 = .ok (.invokestatic 39, 3) := by decide +kernel
theorem dX4_settles_8 : decode cX4_settles 8 = .ok (.ifCond .eq 26, 3) := by decide +kernel
theorem dX4_settles_11 : decode cX4_settles 11 = .ok (.iload_n 2, 1) := by decide +kernel
theorem dX4_settles_12 : decode cX4_settles 12 = .ok (.iconst 1, 1) := by decide +kernel
theorem dX4_settles_13 : decode cX4_settles 13 = .ok (.sipush 1000, 3) := by decide +kernel
theorem dX4_settles_16 : decode cX4_settles 16 = .ok (.invokestatic 39, 3) := by decide +kernel
theorem dX4_settles_19 : decode cX4_settles 19 = .ok (.ifCond .eq 15, 3) := by decide +kernel
theorem dX4_settles_22 : decode cX4_settles 22 = .ok (.aload_n 0, 1) := by decide +kernel
theorem dX4_settles_23 : decode cX4_settles 23 = .ok (.iconst 0, 1) := by decide +kernel
theorem dX4_settles_24 : decode cX4_settles 24 = .ok (.iload_n 1, 1) := by decide +kernel
theorem dX4_settles_25 : decode cX4_settles 25 = .ok (.iconst 0, 1) := by decide +kernel
theorem dX4_settles_26 : decode cX4_settles 26 = .ok (.iconst 0, 1) := by decide +kernel
theorem dX4_settles_27 : decode cX4_settles 27 = .ok (.iload_n 2, 1) := by decide +kernel
theorem dX4_settles_28 : decode cX4_settles 28 = .ok (.invokevirtual 172, 3) := by decide +kernel
theorem dX4_settles_31 : decode cX4_settles 31 = .ok (.goto 5, 3) := by decide +kernel
theorem dX4_settles_34 : decode cX4_settles 34 = .ok (.bipush (-2), 2) := by decide +kernel
theorem dX4_settles_36 : decode cX4_settles 36 = .ok (.ireturn, 1) := by decide +kernel
theorem dX4_arrives_0 : decode cX4_arrives 0 = .ok (.iload_n 1, 1) := by decide +kernel
theorem dX4_arrives_1 : decode cX4_arrives 1 = .ok (.invokestatic 121, 3) := by decide +kernel
theorem dX4_arrives_4 : decode cX4_arrives 4 = .ok (.ifCond .eq 11, 3) := by decide +kernel
theorem dX4_arrives_7 : decode cX4_arrives 7 = .ok (.aload_n 0, 1) := by decide +kernel
theorem dX4_arrives_8 : decode cX4_arrives 8 = .ok (.iload_n 2, 1) := by decide +kernel
theorem dX4_arrives_9 : decode cX4_arrives 9 = .ok (.invokevirtual 52, 3) := by decide +kernel
theorem dX4_arrives_12 : decode cX4_arrives 12 = .ok (.ifCond .ne 5, 3) := by decide +kernel
theorem dX4_arrives_15 : decode cX4_arrives 15 = .ok (.iconst (-1), 1) := by decide +kernel
theorem dX4_arrives_16 : decode cX4_arrives 16 = .ok (.ireturn, 1) := by decide +kernel
theorem dX4_arrives_17 : decode cX4_arrives 17 = .ok (.iload_n 3, 1) := by decide +kernel
theorem dX4_arrives_18 : decode cX4_arrives 18 = .ok (.iconst 1, 1) := by decide +kernel
theorem dX4_arrives_19 : decode cX4_arrives 19 = .ok (.sipush 1000, 3) := by decide +kernel
theorem dX4_arrives_22 : decode cX4_arrives 22 = .ok (.invokestatic 39, 3) := by decide +kernel
theorem dX4_arrives_25 : decode cX4_arrives 25 = .ok (.ifCond .eq 15, 3) := by decide +kernel
theorem dX4_arrives_28 : decode cX4_arrives 28 = .ok (.iload 4, 2) := by decide +kernel
theorem dX4_arrives_30 : decode cX4_arrives 30 = .ok (.iconst 1, 1) := by decide +kernel
theorem dX4_arrives_31 : decode cX4_arrives 31 = .ok (.sipush 500, 3) := by decide +kernel
theorem dX4_arrives_34 : decode cX4_arrives 34 = .ok (.invokestatic 39, 3) := by decide +kernel
theorem dX4_arrives_37 : decode cX4_arrives 37 = .ok (.ifCond .ne 6, 3) := by decide +kernel
theorem dX4_arrives_40 : decode cX4_arrives 40 = .ok (.bipush (-2), 2) := by decide +kernel
theorem dX4_arrives_42 : decode cX4_arrives 42 = .ok (.ireturn, 1) := by decide +kernel
theorem dX4_arrives_43 : decode cX4_arrives 43 = .ok (.aload_n 0, 1) := by decide +kernel
theorem dX4_arrives_44 : decode cX4_arrives 44 = .ok (.iload_n 1, 1) := by decide +kernel
theorem dX4_arrives_45 : decode cX4_arrives 45 = .ok (.invokevirtual 83, 3) := by decide +kernel
theorem dX4_arrives_48 : decode cX4_arrives 48 = .ok (.ifCond .ne 8, 3) := by decide +kernel
theorem dX4_arrives_51 : decode cX4_arrives 51 = .ok (.bipush (-5), 2) := by decide +kernel
theorem dX4_arrives_53 : decode cX4_arrives 53 = .ok (.goto 13, 3) := by decide +kernel
theorem dX4_arrives_56 : decode cX4_arrives 56 = .ok (.aload_n 0, 1) := by decide +kernel
theorem dX4_arrives_57 : decode cX4_arrives 57 = .ok (.iconst 1, 1) := by decide +kernel
theorem dX4_arrives_58 : decode cX4_arrives 58 = .ok (.iload_n 1, 1) := by decide +kernel
theorem dX4_arrives_59 : decode cX4_arrives 59 = .ok (.iload_n 2, 1) := by decide +kernel
theorem dX4_arrives_60 : decode cX4_arrives 60 = .ok (.iload_n 3, 1) := by decide +kernel
theorem dX4_arrives_61 : decode cX4_arrives 61 = .ok (.iload 4, 2) := by decide +kernel
theorem dX4_arrives_63 : decode cX4_arrives 63 = .ok (.invokevirtual 172, 3) := by decide +kernel
theorem dX4_arrives_66 : decode cX4_arrives 66 = .ok (.ireturn, 1) := by decide +kernel
theorem dX4_meet_0 : decode cX4_meet 0 = .ok (.aload_n 0, 1) := by decide +kernel
theorem dX4_meet_1 : decode cX4_meet 1 = .ok (.iload_n 1, 1) := by decide +kernel
theorem dX4_meet_2 : decode cX4_meet 2 = .ok (.invokevirtual 148, 3) := by decide +kernel
theorem dX4_meet_5 : decode cX4_meet 5 = .ok (.ifCond .eq 11, 3) := by decide +kernel
theorem dX4_meet_8 : decode cX4_meet 8 = .ok (.aload_n 0, 1) := by decide +kernel
theorem dX4_meet_9 : decode cX4_meet 9 = .ok (.iload_n 2, 1) := by decide +kernel
theorem dX4_meet_10 : decode cX4_meet 10 = .ok (.invokevirtual 148, 3) := by decide +kernel
theorem dX4_meet_13 : decode cX4_meet 13 = .ok (.ifCond .ne 5, 3) := by decide +kernel
theorem dX4_meet_16 : decode cX4_meet 16 = .ok (.iconst (-1), 1) := by decide +kernel
theorem dX4_meet_17 : decode cX4_meet 17 = .ok (.ireturn, 1) := by decide +kernel
theorem dX4_meet_18 : decode cX4_meet 18 = .ok (.iload_n 3, 1) := by decide +kernel
theorem dX4_meet_19 : decode cX4_meet 19 = .ok (.iconst 0, 1) := by decide +kernel
theorem dX4_meet_20 : decode cX4_meet 20 = .ok (.sipush 1800, 3) := by decide +kernel
theorem dX4_meet_23 : decode cX4_meet 23 = .ok (.invokestatic 39, 3) := by decide +kernel
theorem dX4_meet_26 : decode cX4_meet 26 = .ok (.ifCond .eq 28, 3) := by decide +kernel
theorem dX4_meet_29 : decode cX4_meet 29 = .ok (.iload 4, 2) := by decide +kernel
theorem dX4_meet_31 : decode cX4_meet 31 = .ok (.iconst 1, 1) := by decide +kernel
theorem dX4_meet_32 : decode cX4_meet 32 = .ok (.sipush 1000, 3) := by decide +kernel
theorem dX4_meet_35 : decode cX4_meet 35 = .ok (.invokestatic 39, 3) := by decide +kernel
theorem dX4_meet_38 : decode cX4_meet 38 = .ok (.ifCond .eq 16, 3) := by decide +kernel
theorem dX4_meet_41 : decode cX4_meet 41 = .ok (.aload_n 0, 1) := by decide +kernel
theorem dX4_meet_42 : decode cX4_meet 42 = .ok (.iconst 2, 1) := by decide +kernel
theorem dX4_meet_43 : decode cX4_meet 43 = .ok (.iload_n 1, 1) := by decide +kernel
theorem dX4_meet_44 : decode cX4_meet 44 = .ok (.iload_n 2, 1) := by decide +kernel
theorem dX4_meet_45 : decode cX4_meet 45 = .ok (.iload_n 3, 1) := by decide +kernel
theorem dX4_meet_46 : decode cX4_meet 46 = .ok (.iload 4, 2) := by decide +kernel
theorem dX4_meet_48 : decode cX4_meet 48 = .ok (.invokevirtual 172, 3) := by decide +kernel
theorem dX4_meet_51 : decode cX4_meet 51 = .ok (.goto 5, 3) := by decide +kernel
theorem dX4_meet_54 : decode cX4_meet 54 = .ok (.bipush (-2), 2) := by decide +kernel
theorem dX4_meet_56 : decode cX4_meet 56 = .ok (.ireturn, 1) := by decide +kernel
theorem dX4_leastEkman_0 : decode cX4_leastEkman 0 = .ok (.iload_n 1, 1) := by decide +kernel
theorem dX4_leastEkman_1 : decode cX4_leastEkman 1 = .ok (.invokestatic 121, 3) := by decide +kernel
theorem dX4_leastEkman_4 : decode cX4_leastEkman 4 = .ok (.ifCond .ne 5, 3) := by decide +kernel
theorem dX4_leastEkman_7 : decode cX4_leastEkman 7 = .ok (.iconst (-1), 1) := by decide +kernel
theorem dX4_leastEkman_8 : decode cX4_leastEkman 8 = .ok (.ireturn, 1) := by decide +kernel
theorem dX4_leastEkman_9 : decode cX4_leastEkman 9 = .ok (.iload_n 2, 1) := by decide +kernel
theorem dX4_leastEkman_10 : decode cX4_leastEkman 10 = .ok (.iconst 0, 1) := by decide +kernel
theorem dX4_leastEkman_11 : decode cX4_leastEkman 11 = .ok (.sipush 11000, 3) := by decide +kernel
theorem dX4_leastEkman_14 : decode cX4_leastEkman 14 = .ok (.invokestatic 39, 3) := by decide +kernel
theorem dX4_leastEkman_17 : decode cX4_leastEkman 17 = .ok (.ifCond .eq 13, 3) := by decide +kernel
theorem dX4_leastEkman_20 : decode cX4_leastEkman 20 = .ok (.iload_n 3, 1) := by decide +kernel
theorem dX4_leastEkman_21 : decode cX4_leastEkman 21 = .ok (.iconst 1, 1) := by decide +kernel
theorem dX4_leastEkman_22 : decode cX4_leastEkman 22 = .ok (.bipush 50, 2) := by decide +kernel
theorem dX4_leastEkman_24 : decode cX4_leastEkman 24 = .ok (.invokestatic 39, 3) := by decide +kernel
theorem dX4_leastEkman_27 : decode cX4_leastEkman 27 = .ok (.ifCond .ne 6, 3) := by decide +kernel
theorem dX4_leastEkman_30 : decode cX4_leastEkman 30 = .ok (.bipush (-2), 2) := by decide +kernel
theorem dX4_leastEkman_32 : decode cX4_leastEkman 32 = .ok (.ireturn, 1) := by decide +kernel
theorem dX4_leastEkman_33 : decode cX4_leastEkman 33 = .ok (.aload_n 0, 1) := by decide +kernel
theorem dX4_leastEkman_34 : decode cX4_leastEkman 34 = .ok (.iload_n 1, 1) := by decide +kernel
theorem dX4_leastEkman_35 : decode cX4_leastEkman 35 = .ok (.invokevirtual 83, 3) := by decide +kernel
theorem dX4_leastEkman_38 : decode cX4_leastEkman 38 = .ok (.ifCond .ne 6, 3) := by decide +kernel
theorem dX4_leastEkman_41 : decode cX4_leastEkman 41 = .ok (.bipush (-5), 2) := by decide +kernel
theorem dX4_leastEkman_43 : decode cX4_leastEkman 43 = .ok (.ireturn, 1) := by decide +kernel
theorem dX4_leastEkman_44 : decode cX4_leastEkman 44 = .ok (.aload_n 0, 1) := by decide +kernel
theorem dX4_leastEkman_45 : decode cX4_leastEkman 45 = .ok (.invokevirtual 163, 3) := by decide +kernel
theorem dX4_leastEkman_48 : decode cX4_leastEkman 48 = .ok (.bipush (-6), 2) := by decide +kernel
theorem dX4_leastEkman_50 : decode cX4_leastEkman 50 = .ok (.istore 4, 2) := by decide +kernel
theorem dX4_leastEkman_52 : decode cX4_leastEkman 52 = .ok (.iconst 0, 1) := by decide +kernel
theorem dX4_leastEkman_53 : decode cX4_leastEkman 53 = .ok (.istore 5, 2) := by decide +kernel
theorem dX4_leastEkman_55 : decode cX4_leastEkman 55 = .ok (.iload 5, 2) := by decide +kernel
theorem dX4_leastEkman_57 : decode cX4_leastEkman 57 = .ok (.sipush 200, 3) := by decide +kernel
theorem dX4_leastEkman_60 : decode cX4_leastEkman 60 = .ok (.if_icmp .gt 66, 3) := by decide +kernel
theorem dX4_leastEkman_63 : decode cX4_leastEkman 63 = .ok (.iload 4, 2) := by decide +kernel
theorem dX4_leastEkman_65 : decode cX4_leastEkman 65 = .ok (.ifCond .ge 61, 3) := by decide +kernel
theorem dX4_leastEkman_68 : decode cX4_leastEkman 68 = .ok (.aload_n 0, 1) := by decide +kernel
theorem dX4_leastEkman_69 : decode cX4_leastEkman 69 = .ok (.getfield 7, 3) := by decide +kernel
theorem dX4_leastEkman_72 : decode cX4_leastEkman 72 = .ok (.bipush 7, 2) := by decide +kernel
theorem dX4_leastEkman_74 : decode cX4_leastEkman 74 = .ok (.iload 5, 2) := by decide +kernel
theorem dX4_leastEkman_76 : decode cX4_leastEkman 76 = .ok (.iastore, 1) := by decide +kernel
theorem dX4_leastEkman_77 : decode cX4_leastEkman 77 = .ok (.iconst 0, 1) := by decide +kernel
theorem dX4_leastEkman_78 : decode cX4_leastEkman 78 = .ok (.istore 6, 2) := by decide +kernel
theorem dX4_leastEkman_80 : decode cX4_leastEkman 80 = .ok (.iload 6, 2) := by decide +kernel
theorem dX4_leastEkman_82 : decode cX4_leastEkman 82 = .ok (.iload_n 3, 1) := by decide +kernel
theorem dX4_leastEkman_83 : decode cX4_leastEkman 83 = .ok (.if_icmp .ge 13, 3) := by decide +kernel
theorem dX4_leastEkman_86 : decode cX4_leastEkman 86 = .ok (.aload_n 0, 1) := by decide +kernel
theorem dX4_leastEkman_87 : decode cX4_leastEkman 87 = .ok (.invokevirtual 114, 3) := by decide +kernel
theorem dX4_leastEkman_90 : decode cX4_leastEkman 90 = .ok (.iinc 6 1, 3) := by decide +kernel
theorem dX4_leastEkman_93 : decode cX4_leastEkman 93 = .ok (.goto (-13), 3) := by decide +kernel
theorem dX4_leastEkman_96 : decode cX4_leastEkman 96 = .ok (.aload_n 0, 1) := by decide +kernel
theorem dX4_leastEkman_97 : decode cX4_leastEkman 97 = .ok (.iload_n 1, 1) := by decide +kernel
theorem dX4_leastEkman_98 : decode cX4_leastEkman 98 = .ok (.invokevirtual 132, 3) := by decide +kernel
theorem dX4_leastEkman_101 : decode cX4_leastEkman 101 = .ok (.iload_n 2, 1) := by decide +kernel
theorem dX4_leastEkman_102 : decode cX4_leastEkman 102 = .ok (.i2l, 1) := by decide +kernel
theorem dX4_leastEkman_103 : decode cX4_leastEkman 103 = .ok (.lcmp, 1) := by decide +kernel
theorem dX4_leastEkman_104 : decode cX4_leastEkman 104 = .ok (.ifCond .gt 8, 3) := by decide +kernel
theorem dX4_leastEkman_107 : decode cX4_leastEkman 107 = .ok (.iload 5, 2) := by decide +kernel
theorem dX4_leastEkman_109 : decode cX4_leastEkman 109 = .ok (.goto 5, 3) := by decide +kernel
theorem dX4_leastEkman_112 : decode cX4_leastEkman 112 = .ok (.bipush (-6), 2) := by decide +kernel
theorem dX4_leastEkman_114 : decode cX4_leastEkman 114 = .ok (.istore 4, 2) := by decide +kernel
theorem dX4_leastEkman_116 : decode cX4_leastEkman 116 = .ok (.aload_n 0, 1) := by decide +kernel
theorem dX4_leastEkman_117 : decode cX4_leastEkman 117 = .ok (.invokevirtual 169, 3) := by decide +kernel
theorem dX4_leastEkman_120 : decode cX4_leastEkman 120 = .ok (.iinc 5 1, 3) := by decide +kernel
theorem dX4_leastEkman_123 : decode cX4_leastEkman 123 = .ok (.goto (-68), 3) := by decide +kernel
theorem dX4_leastEkman_126 : decode cX4_leastEkman 126 = .ok (.iload 4, 2) := by decide +kernel
theorem dX4_leastEkman_128 : decode cX4_leastEkman 128 = .ok (.ireturn, 1) := by decide +kernel
theorem dX4_say_0 : decode cX4_say 0 = .ok (.iload_n 1, 1) := by decide +kernel
theorem dX4_say_1 : decode cX4_say 1 = .ok (.bipush 33, 2) := by decide +kernel
theorem dX4_say_3 : decode cX4_say 3 = .ok (.bipush 126, 2) := by decide +kernel
theorem dX4_say_5 : decode cX4_say 5 = .ok (.invokestatic 39, 3) := by decide +kernel
theorem dX4_say_8 : decode cX4_say 8 = .ok (.ifCond .ne 6, 3) := by decide +kernel
theorem dX4_say_11 : decode cX4_say 11 = .ok (.bipush (-2), 2) := by decide +kernel
theorem dX4_say_13 : decode cX4_say 13 = .ok (.ireturn, 1) := by decide +kernel
theorem dX4_say_14 : decode cX4_say 14 = .ok (.aload_n 0, 1) := by decide +kernel
theorem dX4_say_15 : decode cX4_say 15 = .ok (.getfield 144, 3) := by decide +kernel
theorem dX4_say_18 : decode cX4_say 18 = .ok (.bipush 60, 2) := by decide +kernel
theorem dX4_say_20 : decode cX4_say 20 = .ok (.if_icmp .ne 6, 3) := by decide +kernel
theorem dX4_say_23 : decode cX4_say 23 = .ok (.bipush (-4), 2) := by decide +kernel
theorem dX4_say_25 : decode cX4_say 25 = .ok (.ireturn, 1) := by decide +kernel
theorem dX4_say_26 : decode cX4_say 26 = .ok (.aload_n 0, 1) := by decide +kernel
theorem dX4_say_27 : decode cX4_say 27 = .ok (.getfield 29, 3) := by decide +kernel
theorem dX4_say_30 : decode cX4_say 30 = .ok (.aload_n 0, 1) := by decide +kernel
theorem dX4_say_31 : decode cX4_say 31 = .ok (.getfield 144, 3) := by decide +kernel
theorem dX4_say_34 : decode cX4_say 34 = .ok (.iload_n 1, 1) := by decide +kernel
theorem dX4_say_35 : decode cX4_say 35 = .ok (.iastore, 1) := by decide +kernel
theorem dX4_say_36 : decode cX4_say 36 = .ok (.aload_n 0, 1) := by decide +kernel
theorem dX4_say_37 : decode cX4_say 37 = .ok (.dup, 1) := by decide +kernel
theorem dX4_say_38 : decode cX4_say 38 = .ok (.getfield 144, 3) := by decide +kernel
theorem dX4_say_41 : decode cX4_say 41 = .ok (.iconst 1, 1) := by decide +kernel
theorem dX4_say_42 : decode cX4_say 42 = .ok (.iadd, 1) := by decide +kernel
theorem dX4_say_43 : decode cX4_say 43 = .ok (.putfield 144, 3) := by decide +kernel
theorem dX4_say_46 : decode cX4_say 46 = .ok (.aload_n 0, 1) := by decide +kernel
theorem dX4_say_47 : decode cX4_say 47 = .ok (.getfield 144, 3) := by decide +kernel
theorem dX4_say_50 : decode cX4_say 50 = .ok (.ireturn, 1) := by decide +kernel
theorem dX4_wipe_0 : decode cX4_wipe 0 = .ok (.aload_n 0, 1) := by decide +kernel
theorem dX4_wipe_1 : decode cX4_wipe 1 = .ok (.getfield 144, 3) := by decide +kernel
theorem dX4_wipe_4 : decode cX4_wipe 4 = .ok (.istore_n 1, 1) := by decide +kernel
theorem dX4_wipe_5 : decode cX4_wipe 5 = .ok (.aload_n 0, 1) := by decide +kernel
theorem dX4_wipe_6 : decode cX4_wipe 6 = .ok (.iconst 0, 1) := by decide +kernel
theorem dX4_wipe_7 : decode cX4_wipe 7 = .ok (.putfield 144, 3) := by decide +kernel
theorem dX4_wipe_10 : decode cX4_wipe 10 = .ok (.iload_n 1, 1) := by decide +kernel
theorem dX4_wipe_11 : decode cX4_wipe 11 = .ok (.ireturn, 1) := by decide +kernel
theorem dX4_next_0 : decode cX4_next 0 = .ok (.aload_n 0, 1) := by decide +kernel
theorem dX4_next_1 : decode cX4_next 1 = .ok (.getfield 176, 3) := by decide +kernel
theorem dX4_next_4 : decode cX4_next 4 = .ok (.aload_n 0, 1) := by decide +kernel
theorem dX4_next_5 : decode cX4_next 5 = .ok (.getfield 144, 3) := by decide +kernel
theorem dX4_next_8 : decode cX4_next 8 = .ok (.if_icmp .ge 15, 3) := by decide +kernel
theorem dX4_next_11 : decode cX4_next 11 = .ok (.aload_n 0, 1) := by decide +kernel
theorem dX4_next_12 : decode cX4_next 12 = .ok (.getfield 29, 3) := by decide +kernel
theorem dX4_next_15 : decode cX4_next 15 = .ok (.aload_n 0, 1) := by decide +kernel
theorem dX4_next_16 : decode cX4_next 16 = .ok (.getfield 176, 3) := by decide +kernel
theorem dX4_next_19 : decode cX4_next 19 = .ok (.iaload, 1) := by decide +kernel
theorem dX4_next_20 : decode cX4_next 20 = .ok (.goto 4, 3) := by decide +kernel
theorem dX4_next_23 : decode cX4_next 23 = .ok (.iconst 0, 1) := by decide +kernel
theorem dX4_next_24 : decode cX4_next 24 = .ok (.ireturn, 1) := by decide +kernel
theorem dX4_takeNumber_0 : decode cX4_takeNumber 0 = .ok (.bipush 48, 2) := by decide +kernel
theorem dX4_takeNumber_2 : decode cX4_takeNumber 2 = .ok (.iload_n 1, 1) := by decide +kernel
theorem dX4_takeNumber_3 : decode cX4_takeNumber 3 = .ok (.ifCond .le 7, 3) := by decide +kernel
theorem dX4_takeNumber_6 : decode cX4_takeNumber 6 = .ok (.iconst 1, 1) := by decide +kernel
theorem dX4_takeNumber_7 : decode cX4_takeNumber 7 = .ok (.goto 4, 3) := by decide +kernel
theorem dX4_takeNumber_10 : decode cX4_takeNumber 10 = .ok (.iconst 0, 1) := by decide +kernel
theorem dX4_takeNumber_11 : decode cX4_takeNumber 11 = .ok (.iadd, 1) := by decide +kernel
theorem dX4_takeNumber_12 : decode cX4_takeNumber 12 = .ok (.istore_n 3, 1) := by decide +kernel
theorem dX4_takeNumber_13 : decode cX4_takeNumber 13 = .ok (.aload_n 0, 1) := by decide +kernel
theorem dX4_takeNumber_14 : decode cX4_takeNumber 14 = .ok (.aload_n 0, 1) := by decide +kernel
theorem dX4_takeNumber_15 : decode cX4_takeNumber 15 = .ok (.getfield 179, 3) := by decide +kernel
theorem dX4_takeNumber_18 : decode cX4_takeNumber 18 = .ok (.ifCond .ne 16, 3) := by decide +kernel
theorem dX4_takeNumber_21 : decode cX4_takeNumber 21 = .ok (.aload_n 0, 1) := by decide +kernel
theorem dX4_takeNumber_22 : decode cX4_takeNumber 22 = .ok (.invokevirtual 183, 3) := by decide +kernel
theorem dX4_takeNumber_25 : decode cX4_takeNumber 25 = .ok (.iload_n 3, 1) := by decide +kernel
theorem dX4_takeNumber_26 : decode cX4_takeNumber 26 = .ok (.bipush 57, 2) := by decide +kernel
theorem dX4_takeNumber_28 : decode cX4_takeNumber 28 = .ok (.invokestatic 39, 3) := by decide +kernel
theorem dX4_takeNumber_31 : decode cX4_takeNumber 31 = .ok (.ifCond .ne 7, 3) := by decide +kernel
theorem dX4_takeNumber_34 : decode cX4_takeNumber 34 = .ok (.iconst 1, 1) := by decide +kernel
theorem dX4_takeNumber_35 : decode cX4_takeNumber 35 = .ok (.goto 4, 3) := by decide +kernel
theorem dX4_takeNumber_38 : decode cX4_takeNumber 38 = .ok (.iconst 0, 1) := by decide +kernel
theorem dX4_takeNumber_39 : decode cX4_takeNumber 39 = .ok (.putfield 179, 3) := by decide +kernel
theorem dX4_takeNumber_42 : decode cX4_takeNumber 42 = .ok (.iconst 0, 1) := by decide +kernel
theorem dX4_takeNumber_43 : decode cX4_takeNumber 43 = .ok (.istore 4, 2) := by decide +kernel
theorem dX4_takeNumber_45 : decode cX4_takeNumber 45 = .ok (.aload_n 0, 1) := by decide +kernel
theorem dX4_takeNumber_46 : decode cX4_takeNumber 46 = .ok (.getfield 179, 3) := by decide +kernel
theorem dX4_takeNumber_49 : decode cX4_takeNumber 49 = .ok (.ifCond .ne 7, 3) := by decide +kernel
theorem dX4_takeNumber_52 : decode cX4_takeNumber 52 = .ok (.iconst 1, 1) := by decide +kernel
theorem dX4_takeNumber_53 : decode cX4_takeNumber 53 = .ok (.goto 4, 3) := by decide +kernel
theorem dX4_takeNumber_56 : decode cX4_takeNumber 56 = .ok (.iconst 0, 1) := by decide +kernel
theorem dX4_takeNumber_57 : decode cX4_takeNumber 57 = .ok (.istore 5, 2) := by decide +kernel
theorem dX4_takeNumber_59 : decode cX4_takeNumber 59 = .ok (.iload 5, 2) := by decide +kernel
theorem dX4_takeNumber_61 : decode cX4_takeNumber 61 = .ok (.ifCond .eq 74, 3) := by decide +kernel
theorem dX4_takeNumber_64 : decode cX4_takeNumber 64 = .ok (.bipush 10, 2) := by decide +kernel
theorem dX4_takeNumber_66 : decode cX4_takeNumber 66 = .ok (.iload 4, 2) := by decide +kernel
theorem dX4_takeNumber_68 : decode cX4_takeNumber 68 = .ok (.imul, 1) := by decide +kernel
theorem dX4_takeNumber_69 : decode cX4_takeNumber 69 = .ok (.aload_n 0, 1) := by decide +kernel
theorem dX4_takeNumber_70 : decode cX4_takeNumber 70 = .ok (.invokevirtual 183, 3) := by decide +kernel
theorem dX4_takeNumber_73 : decode cX4_takeNumber 73 = .ok (.iadd, 1) := by decide +kernel
theorem dX4_takeNumber_74 : decode cX4_takeNumber 74 = .ok (.bipush 48, 2) := by decide +kernel
theorem dX4_takeNumber_76 : decode cX4_takeNumber 76 = .ok (.isub, 1) := by decide +kernel
theorem dX4_takeNumber_77 : decode cX4_takeNumber 77 = .ok (.istore 4, 2) := by decide +kernel
theorem dX4_takeNumber_79 : decode cX4_takeNumber 79 = .ok (.aload_n 0, 1) := by decide +kernel
theorem dX4_takeNumber_80 : decode cX4_takeNumber 80 = .ok (.dup, 1) := by decide +kernel
theorem dX4_takeNumber_81 : decode cX4_takeNumber 81 = .ok (.getfield 176, 3) := by decide +kernel
theorem dX4_takeNumber_84 : decode cX4_takeNumber 84 = .ok (.iconst 1, 1) := by decide +kernel
theorem dX4_takeNumber_85 : decode cX4_takeNumber 85 = .ok (.iadd, 1) := by decide +kernel
theorem dX4_takeNumber_86 : decode cX4_takeNumber 86 = .ok (.putfield 176, 3) := by decide +kernel
theorem dX4_takeNumber_89 : decode cX4_takeNumber 89 = .ok (.iload 4, 2) := by decide +kernel
theorem dX4_takeNumber_91 : decode cX4_takeNumber 91 = .ok (.ifCond .le 38, 3) := by decide +kernel
theorem dX4_takeNumber_94 : decode cX4_takeNumber 94 = .ok (.aload_n 0, 1) := by decide +kernel
theorem dX4_takeNumber_95 : decode cX4_takeNumber 95 = .ok (.invokevirtual 183, 3) := by decide +kernel
theorem dX4_takeNumber_98 : decode cX4_takeNumber 98 = .ok (.bipush 48, 2) := by decide +kernel
theorem dX4_takeNumber_100 : decode cX4_takeNumber 100 = .ok (.bipush 57, 2) := by decide +kernel
theorem dX4_takeNumber_102 : decode cX4_takeNumber 102 = .ok (.invokestatic 39, 3) := by decide +kernel
theorem dX4_takeNumber_105 : decode cX4_takeNumber 105 = .ok (.ifCond .eq 24, 3) := by decide +kernel
theorem dX4_takeNumber_108 : decode cX4_takeNumber 108 = .ok (.bipush 10, 2) := by decide +kernel
theorem dX4_takeNumber_110 : decode cX4_takeNumber 110 = .ok (.iload 4, 2) := by decide +kernel
theorem dX4_takeNumber_112 : decode cX4_takeNumber 112 = .ok (.imul, 1) := by decide +kernel
theorem dX4_takeNumber_113 : decode cX4_takeNumber 113 = .ok (.aload_n 0, 1) := by decide +kernel
theorem dX4_takeNumber_114 : decode cX4_takeNumber 114 = .ok (.invokevirtual 183, 3) := by decide +kernel
theorem dX4_takeNumber_117 : decode cX4_takeNumber 117 = .ok (.iadd, 1) := by decide +kernel
theorem dX4_takeNumber_118 : decode cX4_takeNumber 118 = .ok (.bipush 48, 2) := by decide +kernel
theorem dX4_takeNumber_120 : decode cX4_takeNumber 120 = .ok (.isub, 1) := by decide +kernel
theorem dX4_takeNumber_121 : decode cX4_takeNumber 121 = .ok (.iload_n 2, 1) := by decide +kernel
theorem dX4_takeNumber_122 : decode cX4_takeNumber 122 = .ok (.if_icmp .gt 7, 3) := by decide +kernel
theorem dX4_takeNumber_125 : decode cX4_takeNumber 125 = .ok (.iconst 1, 1) := by decide +kernel
theorem dX4_takeNumber_126 : decode cX4_takeNumber 126 = .ok (.goto 4, 3) := by decide +kernel
theorem dX4_takeNumber_129 : decode cX4_takeNumber 129 = .ok (.iconst 0, 1) := by decide +kernel
theorem dX4_takeNumber_130 : decode cX4_takeNumber 130 = .ok (.istore 5, 2) := by decide +kernel
theorem dX4_takeNumber_132 : decode cX4_takeNumber 132 = .ok (.goto (-73), 3) := by decide +kernel
theorem dX4_takeNumber_135 : decode cX4_takeNumber 135 = .ok (.iload 4, 2) := by decide +kernel
theorem dX4_takeNumber_137 : decode cX4_takeNumber 137 = .ok (.ireturn, 1) := by decide +kernel
theorem dX4_need_0 : decode cX4_need 0 = .ok (.aload_n 0, 1) := by decide +kernel
theorem dX4_need_1 : decode cX4_need 1 = .ok (.aload_n 0, 1) := by decide +kernel
theorem dX4_need_2 : decode cX4_need 2 = .ok (.getfield 179, 3) := by decide +kernel
theorem dX4_need_5 : decode cX4_need 5 = .ok (.ifCond .ne 11, 3) := by decide +kernel
theorem dX4_need_8 : decode cX4_need 8 = .ok (.aload_n 0, 1) := by decide +kernel
theorem dX4_need_9 : decode cX4_need 9 = .ok (.invokevirtual 183, 3) := by decide +kernel
theorem dX4_need_12 : decode cX4_need 12 = .ok (.iload_n 1, 1) := by decide +kernel
theorem dX4_need_13 : decode cX4_need 13 = .ok (.if_icmp .eq 7, 3) := by decide +kernel
theorem dX4_need_16 : decode cX4_need 16 = .ok (.iconst 1, 1) := by decide +kernel
theorem dX4_need_17 : decode cX4_need 17 = .ok (.goto 4, 3) := by decide +kernel
theorem dX4_need_20 : decode cX4_need 20 = .ok (.iconst 0, 1) := by decide +kernel
theorem dX4_need_21 : decode cX4_need 21 = .ok (.putfield 179, 3) := by decide +kernel
theorem dX4_need_24 : decode cX4_need 24 = .ok (.aload_n 0, 1) := by decide +kernel
theorem dX4_need_25 : decode cX4_need 25 = .ok (.dup, 1) := by decide +kernel
theorem dX4_need_26 : decode cX4_need 26 = .ok (.getfield 176, 3) := by decide +kernel
theorem dX4_need_29 : decode cX4_need 29 = .ok (.aload_n 0, 1) := by decide +kernel
theorem dX4_need_30 : decode cX4_need 30 = .ok (.getfield 179, 3) := by decide +kernel
theorem dX4_need_33 : decode cX4_need 33 = .ok (.ifCond .eq 7, 3) := by decide +kernel
theorem dX4_need_36 : decode cX4_need 36 = .ok (.iconst 0, 1) := by decide +kernel
theorem dX4_need_37 : decode cX4_need 37 = .ok (.goto 4, 3) := by decide +kernel
theorem dX4_need_40 : decode cX4_need 40 = .ok (.iconst 1, 1) := by decide +kernel
theorem dX4_need_41 : decode cX4_need 41 = .ok (.iadd, 1) := by decide +kernel
theorem dX4_need_42 : decode cX4_need 42 = .ok (.putfield 176, 3) := by decide +kernel
theorem dX4_need_45 : decode cX4_need 45 = .ok (.return_, 1) := by decide +kernel
theorem dX4_takeOne_0 : decode cX4_takeOne 0 = .ok (.aload_n 0, 1) := by decide +kernel
theorem dX4_takeOne_1 : decode cX4_takeOne 1 = .ok (.aload_n 0, 1) := by decide +kernel
theorem dX4_takeOne_2 : decode cX4_takeOne 2 = .ok (.getfield 179, 3) := by decide +kernel
theorem dX4_takeOne_5 : decode cX4_takeOne 5 = .ok (.ifCond .ne 15, 3) := by decide +kernel
theorem dX4_takeOne_8 : decode cX4_takeOne 8 = .ok (.aload_n 0, 1) := by decide +kernel
theorem dX4_takeOne_9 : decode cX4_takeOne 9 = .ok (.invokevirtual 183, 3) := by decide +kernel
theorem dX4_takeOne_12 : decode cX4_takeOne 12 = .ok (.iload_n 1, 1) := by decide +kernel
theorem dX4_takeOne_13 : decode cX4_takeOne 13 = .ok (.iload_n 2, 1) := by decide +kernel
theorem dX4_takeOne_14 : decode cX4_takeOne 14 = .ok (.invokestatic 39, 3) := by decide +kernel
theorem dX4_takeOne_17 : decode cX4_takeOne 17 = .ok (.ifCond .ne 7, 3) := by decide +kernel
theorem dX4_takeOne_20 : decode cX4_takeOne 20 = .ok (.iconst 1, 1) := by decide +kernel
theorem dX4_takeOne_21 : decode cX4_takeOne 21 = .ok (.goto 4, 3) := by decide +kernel
theorem dX4_takeOne_24 : decode cX4_takeOne 24 = .ok (.iconst 0, 1) := by decide +kernel
theorem dX4_takeOne_25 : decode cX4_takeOne 25 = .ok (.putfield 179, 3) := by decide +kernel
theorem dX4_takeOne_28 : decode cX4_takeOne 28 = .ok (.aload_n 0, 1) := by decide +kernel
theorem dX4_takeOne_29 : decode cX4_takeOne 29 = .ok (.invokevirtual 183, 3) := by decide +kernel
theorem dX4_takeOne_32 : decode cX4_takeOne 32 = .ok (.istore_n 3, 1) := by decide +kernel
theorem dX4_takeOne_33 : decode cX4_takeOne 33 = .ok (.aload_n 0, 1) := by decide +kernel
theorem dX4_takeOne_34 : decode cX4_takeOne 34 = .ok (.dup, 1) := by decide +kernel
theorem dX4_takeOne_35 : decode cX4_takeOne 35 = .ok (.getfield 176, 3) := by decide +kernel
theorem dX4_takeOne_38 : decode cX4_takeOne 38 = .ok (.aload_n 0, 1) := by decide +kernel
theorem dX4_takeOne_39 : decode cX4_takeOne 39 = .ok (.getfield 179, 3) := by decide +kernel
theorem dX4_takeOne_42 : decode cX4_takeOne 42 = .ok (.ifCond .eq 7, 3) := by decide +kernel
theorem dX4_takeOne_45 : decode cX4_takeOne 45 = .ok (.iconst 0, 1) := by decide +kernel
theorem dX4_takeOne_46 : decode cX4_takeOne 46 = .ok (.goto 4, 3) := by decide +kernel
theorem dX4_takeOne_49 : decode cX4_takeOne 49 = .ok (.iconst 1, 1) := by decide +kernel
theorem dX4_takeOne_50 : decode cX4_takeOne 50 = .ok (.iadd, 1) := by decide +kernel
theorem dX4_takeOne_51 : decode cX4_takeOne 51 = .ok (.putfield 176, 3) := by decide +kernel
theorem dX4_takeOne_54 : decode cX4_takeOne 54 = .ok (.iload_n 3, 1) := by decide +kernel
theorem dX4_takeOne_55 : decode cX4_takeOne 55 = .ok (.ireturn, 1) := by decide +kernel
theorem dX4_takeVelocity_0 : decode cX4_takeVelocity 0 = .ok (.aload_n 0, 1) := by decide +kernel
theorem dX4_takeVelocity_1 : decode cX4_takeVelocity 1 = .ok (.getfield 32, 3) := by decide +kernel
theorem dX4_takeVelocity_4 : decode cX4_takeVelocity 4 = .ok (.iload_n 1, 1) := by decide +kernel
theorem dX4_takeVelocity_5 : decode cX4_takeVelocity 5 = .ok (.iconst 1, 1) := by decide +kernel
theorem dX4_takeVelocity_6 : decode cX4_takeVelocity 6 = .ok (.iadd, 1) := by decide +kernel
theorem dX4_takeVelocity_7 : decode cX4_takeVelocity 7 = .ok (.aload_n 0, 1) := by decide +kernel
theorem dX4_takeVelocity_8 : decode cX4_takeVelocity 8 = .ok (.iconst 0, 1) := by decide +kernel
theorem dX4_takeVelocity_9 : decode cX4_takeVelocity 9 = .ok (.bipush 11, 2) := by decide +kernel
theorem dX4_takeVelocity_11 : decode cX4_takeVelocity 11 = .ok (.invokevirtual 186, 3) := by decide +kernel
theorem dX4_takeVelocity_14 : decode cX4_takeVelocity 14 = .ok (.iastore, 1) := by decide +kernel
theorem dX4_takeVelocity_15 : decode cX4_takeVelocity 15 = .ok (.aload_n 0, 1) := by decide +kernel
theorem dX4_takeVelocity_16 : decode cX4_takeVelocity 16 = .ok (.bipush 58, 2) := by decide +kernel
theorem dX4_takeVelocity_18 : decode cX4_takeVelocity 18 = .ok (.invokevirtual 189, 3) := by decide +kernel
theorem dX4_takeVelocity_21 : decode cX4_takeVelocity 21 = .ok (.aload_n 0, 1) := by decide +kernel
theorem dX4_takeVelocity_22 : decode cX4_takeVelocity 22 = .ok (.getfield 179, 3) := by decide +kernel
theorem dX4_takeVelocity_25 : decode cX4_takeVelocity 25 = .ok (.ifCond .ne 16, 3) := by decide +kernel
theorem dX4_takeVelocity_28 : decode cX4_takeVelocity 28 = .ok (.aload_n 0, 1) := by decide +kernel
theorem dX4_takeVelocity_29 : decode cX4_takeVelocity 29 = .ok (.invokevirtual 183, 3) := by decide +kernel
theorem dX4_takeVelocity_32 : decode cX4_takeVelocity 32 = .ok (.bipush 45, 2) := by decide +kernel
theorem dX4_takeVelocity_34 : decode cX4_takeVelocity 34 = .ok (.if_icmp .ne 7, 3) := by decide +kernel
theorem dX4_takeVelocity_37 : decode cX4_takeVelocity 37 = .ok (.iconst 1, 1) := by decide +kernel
theorem dX4_takeVelocity_38 : decode cX4_takeVelocity 38 = .ok (.goto 4, 3) := by decide +kernel
theorem dX4_takeVelocity_41 : decode cX4_takeVelocity 41 = .ok (.iconst 0, 1) := by decide +kernel
theorem dX4_takeVelocity_42 : decode cX4_takeVelocity 42 = .ok (.istore_n 2, 1) := by decide +kernel
theorem dX4_takeVelocity_43 : decode cX4_takeVelocity 43 = .ok (.aload_n 0, 1) := by decide +kernel
theorem dX4_takeVelocity_44 : decode cX4_takeVelocity 44 = .ok (.dup, 1) := by decide +kernel
theorem dX4_takeVelocity_45 : decode cX4_takeVelocity 45 = .ok (.getfield 176, 3) := by decide +kernel
theorem dX4_takeVelocity_48 : decode cX4_takeVelocity 48 = .ok (.iload_n 2, 1) := by decide +kernel
theorem dX4_takeVelocity_49 : decode cX4_takeVelocity 49 = .ok (.ifCond .eq 7, 3) := by decide +kernel
theorem dX4_takeVelocity_52 : decode cX4_takeVelocity 52 = .ok (.iconst 1, 1) := by decide +kernel
theorem dX4_takeVelocity_53 : decode cX4_takeVelocity 53 = .ok (.goto 4, 3) := by decide +kernel
theorem dX4_takeVelocity_56 : decode cX4_takeVelocity 56 = .ok (.iconst 0, 1) := by decide +kernel
theorem dX4_takeVelocity_57 : decode cX4_takeVelocity 57 = .ok (.iadd, 1) := by decide +kernel
theorem dX4_takeVelocity_58 : decode cX4_takeVelocity 58 = .ok (.putfield 176, 3) := by decide +kernel
theorem dX4_takeVelocity_61 : decode cX4_takeVelocity 61 = .ok (.aload_n 0, 1) := by decide +kernel
theorem dX4_takeVelocity_62 : decode cX4_takeVelocity 62 = .ok (.iconst 0, 1) := by decide +kernel
theorem dX4_takeVelocity_63 : decode cX4_takeVelocity 63 = .ok (.sipush 1500, 3) := by decide +kernel
theorem dX4_takeVelocity_66 : decode cX4_takeVelocity 66 = .ok (.invokevirtual 186, 3) := by decide +kernel
theorem dX4_takeVelocity_69 : decode cX4_takeVelocity 69 = .ok (.istore_n 3, 1) := by decide +kernel
theorem dX4_takeVelocity_70 : decode cX4_takeVelocity 70 = .ok (.aload_n 0, 1) := by decide +kernel
theorem dX4_takeVelocity_71 : decode cX4_takeVelocity 71 = .ok (.getfield 32, 3) := by decide +kernel
theorem dX4_takeVelocity_74 : decode cX4_takeVelocity 74 = .ok (.iload_n 1, 1) := by decide +kernel
theorem dX4_takeVelocity_75 : decode cX4_takeVelocity 75 = .ok (.iconst 2, 1) := by decide +kernel
theorem dX4_takeVelocity_76 : decode cX4_takeVelocity 76 = .ok (.iadd, 1) := by decide +kernel
theorem dX4_takeVelocity_77 : decode cX4_takeVelocity 77 = .ok (.iload_n 2, 1) := by decide +kernel
theorem dX4_takeVelocity_78 : decode cX4_takeVelocity 78 = .ok (.ifCond .eq 8, 3) := by decide +kernel
theorem dX4_takeVelocity_81 : decode cX4_takeVelocity 81 = .ok (.iload_n 3, 1) := by decide +kernel
theorem dX4_takeVelocity_82 : decode cX4_takeVelocity 82 = .ok (.ineg, 1) := by decide +kernel
theorem dX4_takeVelocity_83 : decode cX4_takeVelocity 83 = .ok (.goto 4, 3) := by decide +kernel
theorem dX4_takeVelocity_86 : decode cX4_takeVelocity 86 = .ok (.iload_n 3, 1) := by decide +kernel
theorem dX4_takeVelocity_87 : decode cX4_takeVelocity 87 = .ok (.iastore, 1) := by decide +kernel
theorem dX4_takeVelocity_88 : decode cX4_takeVelocity 88 = .ok (.return_, 1) := by decide +kernel
theorem dX4_takeDye_0 : decode cX4_takeDye 0 = .ok (.aload_n 0, 1) := by decide +kernel
theorem dX4_takeDye_1 : decode cX4_takeDye 1 = .ok (.getfield 32, 3) := by decide +kernel
theorem dX4_takeDye_4 : decode cX4_takeDye 4 = .ok (.iload_n 1, 1) := by decide +kernel
theorem dX4_takeDye_5 : decode cX4_takeDye 5 = .ok (.iconst 1, 1) := by decide +kernel
theorem dX4_takeDye_6 : decode cX4_takeDye 6 = .ok (.iadd, 1) := by decide +kernel
theorem dX4_takeDye_7 : decode cX4_takeDye 7 = .ok (.aload_n 0, 1) := by decide +kernel
theorem dX4_takeDye_8 : decode cX4_takeDye 8 = .ok (.bipush 97, 2) := by decide +kernel
theorem dX4_takeDye_10 : decode cX4_takeDye 10 = .ok (.bipush 99, 2) := by decide +kernel
theorem dX4_takeDye_12 : decode cX4_takeDye 12 = .ok (.invokevirtual 192, 3) := by decide +kernel
theorem dX4_takeDye_15 : decode cX4_takeDye 15 = .ok (.bipush 97, 2) := by decide +kernel
theorem dX4_takeDye_17 : decode cX4_takeDye 17 = .ok (.isub, 1) := by decide +kernel
theorem dX4_takeDye_18 : decode cX4_takeDye 18 = .ok (.iastore, 1) := by decide +kernel
theorem dX4_takeDye_19 : decode cX4_takeDye 19 = .ok (.aload_n 0, 1) := by decide +kernel
theorem dX4_takeDye_20 : decode cX4_takeDye 20 = .ok (.getfield 32, 3) := by decide +kernel
theorem dX4_takeDye_23 : decode cX4_takeDye 23 = .ok (.iload_n 1, 1) := by decide +kernel
theorem dX4_takeDye_24 : decode cX4_takeDye 24 = .ok (.iconst 2, 1) := by decide +kernel
theorem dX4_takeDye_25 : decode cX4_takeDye 25 = .ok (.iadd, 1) := by decide +kernel
theorem dX4_takeDye_26 : decode cX4_takeDye 26 = .ok (.aload_n 0, 1) := by decide +kernel
theorem dX4_takeDye_27 : decode cX4_takeDye 27 = .ok (.bipush 94, 2) := by decide +kernel
theorem dX4_takeDye_29 : decode cX4_takeDye 29 = .ok (.bipush 95, 2) := by decide +kernel
theorem dX4_takeDye_31 : decode cX4_takeDye 31 = .ok (.invokevirtual 192, 3) := by decide +kernel
theorem dX4_takeDye_34 : decode cX4_takeDye 34 = .ok (.bipush 94, 2) := by decide +kernel
theorem dX4_takeDye_36 : decode cX4_takeDye 36 = .ok (.isub, 1) := by decide +kernel
theorem dX4_takeDye_37 : decode cX4_takeDye 37 = .ok (.iastore, 1) := by decide +kernel
theorem dX4_takeDye_38 : decode cX4_takeDye 38 = .ok (.aload_n 0, 1) := by decide +kernel
theorem dX4_takeDye_39 : decode cX4_takeDye 39 = .ok (.getfield 32, 3) := by decide +kernel
theorem dX4_takeDye_42 : decode cX4_takeDye 42 = .ok (.iload_n 1, 1) := by decide +kernel
theorem dX4_takeDye_43 : decode cX4_takeDye 43 = .ok (.iconst 3, 1) := by decide +kernel
theorem dX4_takeDye_44 : decode cX4_takeDye 44 = .ok (.iadd, 1) := by decide +kernel
theorem dX4_takeDye_45 : decode cX4_takeDye 45 = .ok (.aload_n 0, 1) := by decide +kernel
theorem dX4_takeDye_46 : decode cX4_takeDye 46 = .ok (.iconst 0, 1) := by decide +kernel
theorem dX4_takeDye_47 : decode cX4_takeDye 47 = .ok (.bipush 11, 2) := by decide +kernel
theorem dX4_takeDye_49 : decode cX4_takeDye 49 = .ok (.invokevirtual 186, 3) := by decide +kernel
theorem dX4_takeDye_52 : decode cX4_takeDye 52 = .ok (.iastore, 1) := by decide +kernel
theorem dX4_takeDye_53 : decode cX4_takeDye 53 = .ok (.aload_n 0, 1) := by decide +kernel
theorem dX4_takeDye_54 : decode cX4_takeDye 54 = .ok (.bipush 58, 2) := by decide +kernel
theorem dX4_takeDye_56 : decode cX4_takeDye 56 = .ok (.invokevirtual 189, 3) := by decide +kernel
theorem dX4_takeDye_59 : decode cX4_takeDye 59 = .ok (.aload_n 0, 1) := by decide +kernel
theorem dX4_takeDye_60 : decode cX4_takeDye 60 = .ok (.getfield 32, 3) := by decide +kernel
theorem dX4_takeDye_63 : decode cX4_takeDye 63 = .ok (.iload_n 1, 1) := by decide +kernel
theorem dX4_takeDye_64 : decode cX4_takeDye 64 = .ok (.iconst 4, 1) := by decide +kernel
theorem dX4_takeDye_65 : decode cX4_takeDye 65 = .ok (.iadd, 1) := by decide +kernel
theorem dX4_takeDye_66 : decode cX4_takeDye 66 = .ok (.aload_n 0, 1) := by decide +kernel
theorem dX4_takeDye_67 : decode cX4_takeDye 67 = .ok (.iconst 0, 1) := by decide +kernel
theorem dX4_takeDye_68 : decode cX4_takeDye 68 = .ok (.bipush 23, 2) := by decide +kernel
theorem dX4_takeDye_70 : decode cX4_takeDye 70 = .ok (.invokevirtual 186, 3) := by decide +kernel
theorem dX4_takeDye_73 : decode cX4_takeDye 73 = .ok (.iastore, 1) := by decide +kernel
theorem dX4_takeDye_74 : decode cX4_takeDye 74 = .ok (.aload_n 0, 1) := by decide +kernel
theorem dX4_takeDye_75 : decode cX4_takeDye 75 = .ok (.bipush 61, 2) := by decide +kernel
theorem dX4_takeDye_77 : decode cX4_takeDye 77 = .ok (.invokevirtual 189, 3) := by decide +kernel
theorem dX4_takeDye_80 : decode cX4_takeDye 80 = .ok (.aload_n 0, 1) := by decide +kernel
theorem dX4_takeDye_81 : decode cX4_takeDye 81 = .ok (.getfield 32, 3) := by decide +kernel
theorem dX4_takeDye_84 : decode cX4_takeDye 84 = .ok (.iload_n 1, 1) := by decide +kernel
theorem dX4_takeDye_85 : decode cX4_takeDye 85 = .ok (.iconst 5, 1) := by decide +kernel
theorem dX4_takeDye_86 : decode cX4_takeDye 86 = .ok (.iadd, 1) := by decide +kernel
theorem dX4_takeDye_87 : decode cX4_takeDye 87 = .ok (.aload_n 0, 1) := by decide +kernel
theorem dX4_takeDye_88 : decode cX4_takeDye 88 = .ok (.iconst 1, 1) := by decide +kernel
theorem dX4_takeDye_89 : decode cX4_takeDye 89 = .ok (.ldc 195, 2) := by decide +kernel
theorem dX4_takeDye_91 : decode cX4_takeDye 91 = .ok (.invokevirtual 186, 3) := by decide +kernel
theorem dX4_takeDye_94 : decode cX4_takeDye 94 = .ok (.iastore, 1) := by decide +kernel
theorem dX4_takeDye_95 : decode cX4_takeDye 95 = .ok (.return_, 1) := by decide +kernel
theorem dX4_takeStep_0 : decode cX4_takeStep 0 = .ok (.bipush 6, 2) := by decide +kernel
theorem dX4_takeStep_2 : decode cX4_takeStep 2 = .ok (.aload_n 0, 1) := by decide +kernel
theorem dX4_takeStep_3 : decode cX4_takeStep 3 = .ok (.getfield 196, 3) := by decide +kernel
theorem dX4_takeStep_6 : decode cX4_takeStep 6 = .ok (.imul, 1) := by decide +kernel
theorem dX4_takeStep_7 : decode cX4_takeStep 7 = .ok (.istore_n 1, 1) := by decide +kernel
theorem dX4_takeStep_8 : decode cX4_takeStep 8 = .ok (.aload_n 0, 1) := by decide +kernel
theorem dX4_takeStep_9 : decode cX4_takeStep 9 = .ok (.invokevirtual 183, 3) := by decide +kernel
theorem dX4_takeStep_12 : decode cX4_takeStep 12 = .ok (.istore_n 2, 1) := by decide +kernel
theorem dX4_takeStep_13 : decode cX4_takeStep 13 = .ok (.aload_n 0, 1) := by decide +kernel
theorem dX4_takeStep_14 : decode cX4_takeStep 14 = .ok (.aload_n 0, 1) := by decide +kernel
theorem dX4_takeStep_15 : decode cX4_takeStep 15 = .ok (.getfield 179, 3) := by decide +kernel
theorem dX4_takeStep_18 : decode cX4_takeStep 18 = .ok (.ifCond .ne 21, 3) := by decide +kernel
theorem dX4_takeStep_21 : decode cX4_takeStep 21 = .ok (.iload_n 2, 1) := by decide +kernel
theorem dX4_takeStep_22 : decode cX4_takeStep 22 = .ok (.bipush 116, 2) := by decide +kernel
theorem dX4_takeStep_24 : decode cX4_takeStep 24 = .ok (.if_icmp .eq 19, 3) := by decide +kernel
theorem dX4_takeStep_27 : decode cX4_takeStep 27 = .ok (.iload_n 2, 1) := by decide +kernel
theorem dX4_takeStep_28 : decode cX4_takeStep 28 = .ok (.bipush 118, 2) := by decide +kernel
theorem dX4_takeStep_30 : decode cX4_takeStep 30 = .ok (.if_icmp .eq 13, 3) := by decide +kernel
theorem dX4_takeStep_33 : decode cX4_takeStep 33 = .ok (.iload_n 2, 1) := by decide +kernel
theorem dX4_takeStep_34 : decode cX4_takeStep 34 = .ok (.bipush 100, 2) := by decide +kernel
theorem dX4_takeStep_36 : decode cX4_takeStep 36 = .ok (.if_icmp .eq 7, 3) := by decide +kernel
theorem dX4_takeStep_39 : decode cX4_takeStep 39 = .ok (.iconst 1, 1) := by decide +kernel
theorem dX4_takeStep_40 : decode cX4_takeStep 40 = .ok (.goto 4, 3) := by decide +kernel
theorem dX4_takeStep_43 : decode cX4_takeStep 43 = .ok (.iconst 0, 1) := by decide +kernel
theorem dX4_takeStep_44 : decode cX4_takeStep 44 = .ok (.putfield 179, 3) := by decide +kernel
theorem dX4_takeStep_47 : decode cX4_takeStep 47 = .ok (.aload_n 0, 1) := by decide +kernel
theorem dX4_takeStep_48 : decode cX4_takeStep 48 = .ok (.getfield 32, 3) := by decide +kernel
theorem dX4_takeStep_51 : decode cX4_takeStep 51 = .ok (.iload_n 1, 1) := by decide +kernel
theorem dX4_takeStep_52 : decode cX4_takeStep 52 = .ok (.iload_n 2, 1) := by decide +kernel
theorem dX4_takeStep_53 : decode cX4_takeStep 53 = .ok (.iastore, 1) := by decide +kernel
theorem dX4_takeStep_54 : decode cX4_takeStep 54 = .ok (.aload_n 0, 1) := by decide +kernel
theorem dX4_takeStep_55 : decode cX4_takeStep 55 = .ok (.dup, 1) := by decide +kernel
theorem dX4_takeStep_56 : decode cX4_takeStep 56 = .ok (.getfield 176, 3) := by decide +kernel
theorem dX4_takeStep_59 : decode cX4_takeStep 59 = .ok (.aload_n 0, 1) := by decide +kernel
theorem dX4_takeStep_60 : decode cX4_takeStep 60 = .ok (.getfield 179, 3) := by decide +kernel
theorem dX4_takeStep_63 : decode cX4_takeStep 63 = .ok (.ifCond .eq 7, 3) := by decide +kernel
theorem dX4_takeStep_66 : decode cX4_takeStep 66 = .ok (.iconst 0, 1) := by decide +kernel
theorem dX4_takeStep_67 : decode cX4_takeStep 67 = .ok (.goto 4, 3) := by decide +kernel
theorem dX4_takeStep_70 : decode cX4_takeStep 70 = .ok (.iconst 1, 1) := by decide +kernel
theorem dX4_takeStep_71 : decode cX4_takeStep 71 = .ok (.iadd, 1) := by decide +kernel
theorem dX4_takeStep_72 : decode cX4_takeStep 72 = .ok (.putfield 176, 3) := by decide +kernel
theorem dX4_takeStep_75 : decode cX4_takeStep 75 = .ok (.iload_n 2, 1) := by decide +kernel
theorem dX4_takeStep_76 : decode cX4_takeStep 76 = .ok (.bipush 116, 2) := by decide +kernel
theorem dX4_takeStep_78 : decode cX4_takeStep 78 = .ok (.if_icmp .ne 22, 3) := by decide +kernel
theorem dX4_takeStep_81 : decode cX4_takeStep 81 = .ok (.aload_n 0, 1) := by decide +kernel
theorem dX4_takeStep_82 : decode cX4_takeStep 82 = .ok (.getfield 32, 3) := by decide +kernel
theorem dX4_takeStep_85 : decode cX4_takeStep 85 = .ok (.iload_n 1, 1) := by decide +kernel
theorem dX4_takeStep_86 : decode cX4_takeStep 86 = .ok (.iconst 1, 1) := by decide +kernel
theorem dX4_takeStep_87 : decode cX4_takeStep 87 = .ok (.iadd, 1) := by decide +kernel
theorem dX4_takeStep_88 : decode cX4_takeStep 88 = .ok (.aload_n 0, 1) := by decide +kernel
theorem dX4_takeStep_89 : decode cX4_takeStep 89 = .ok (.iconst 1, 1) := by decide +kernel
theorem dX4_takeStep_90 : decode cX4_takeStep 90 = .ok (.sipush 999, 3) := by decide +kernel
theorem dX4_takeStep_93 : decode cX4_takeStep 93 = .ok (.invokevirtual 186, 3) := by decide +kernel
theorem dX4_takeStep_96 : decode cX4_takeStep 96 = .ok (.iastore, 1) := by decide +kernel
theorem dX4_takeStep_97 : decode cX4_takeStep 97 = .ok (.goto 22, 3) := by decide +kernel
theorem dX4_takeStep_100 : decode cX4_takeStep 100 = .ok (.iload_n 2, 1) := by decide +kernel
theorem dX4_takeStep_101 : decode cX4_takeStep 101 = .ok (.bipush 118, 2) := by decide +kernel
theorem dX4_takeStep_103 : decode cX4_takeStep 103 = .ok (.if_icmp .ne 11, 3) := by decide +kernel
theorem dX4_takeStep_106 : decode cX4_takeStep 106 = .ok (.aload_n 0, 1) := by decide +kernel
theorem dX4_takeStep_107 : decode cX4_takeStep 107 = .ok (.iload_n 1, 1) := by decide +kernel
theorem dX4_takeStep_108 : decode cX4_takeStep 108 = .ok (.invokevirtual 199, 3) := by decide +kernel
theorem dX4_takeStep_111 : decode cX4_takeStep 111 = .ok (.goto 8, 3) := by decide +kernel
theorem dX4_takeStep_114 : decode cX4_takeStep 114 = .ok (.aload_n 0, 1) := by decide +kernel
theorem dX4_takeStep_115 : decode cX4_takeStep 115 = .ok (.iload_n 1, 1) := by decide +kernel
theorem dX4_takeStep_116 : decode cX4_takeStep 116 = .ok (.invokevirtual 202, 3) := by decide +kernel
theorem dX4_takeStep_119 : decode cX4_takeStep 119 = .ok (.aload_n 0, 1) := by decide +kernel
theorem dX4_takeStep_120 : decode cX4_takeStep 120 = .ok (.dup, 1) := by decide +kernel
theorem dX4_takeStep_121 : decode cX4_takeStep 121 = .ok (.getfield 196, 3) := by decide +kernel
theorem dX4_takeStep_124 : decode cX4_takeStep 124 = .ok (.iconst 1, 1) := by decide +kernel
theorem dX4_takeStep_125 : decode cX4_takeStep 125 = .ok (.iadd, 1) := by decide +kernel
theorem dX4_takeStep_126 : decode cX4_takeStep 126 = .ok (.putfield 196, 3) := by decide +kernel
theorem dX4_takeStep_129 : decode cX4_takeStep 129 = .ok (.return_, 1) := by decide +kernel
theorem dX4_fault_0 : decode cX4_fault 0 = .ok (.aload_n 0, 1) := by decide +kernel
theorem dX4_fault_1 : decode cX4_fault 1 = .ok (.iconst 0, 1) := by decide +kernel
theorem dX4_fault_2 : decode cX4_fault 2 = .ok (.putfield 176, 3) := by decide +kernel
theorem dX4_fault_5 : decode cX4_fault 5 = .ok (.aload_n 0, 1) := by decide +kernel
theorem dX4_fault_6 : decode cX4_fault 6 = .ok (.iconst 0, 1) := by decide +kernel
theorem dX4_fault_7 : decode cX4_fault 7 = .ok (.putfield 179, 3) := by decide +kernel
theorem dX4_fault_10 : decode cX4_fault 10 = .ok (.aload_n 0, 1) := by decide +kernel
theorem dX4_fault_11 : decode cX4_fault 11 = .ok (.iconst 0, 1) := by decide +kernel
theorem dX4_fault_12 : decode cX4_fault 12 = .ok (.putfield 196, 3) := by decide +kernel
theorem dX4_fault_15 : decode cX4_fault 15 = .ok (.aload_n 0, 1) := by decide +kernel
theorem dX4_fault_16 : decode cX4_fault 16 = .ok (.invokevirtual 205, 3) := by decide +kernel
theorem dX4_fault_19 : decode cX4_fault 19 = .ok (.aload_n 0, 1) := by decide +kernel
theorem dX4_fault_20 : decode cX4_fault 20 = .ok (.getfield 179, 3) := by decide +kernel
theorem dX4_fault_23 : decode cX4_fault 23 = .ok (.ifCond .ne 29, 3) := by decide +kernel
theorem dX4_fault_26 : decode cX4_fault 26 = .ok (.aload_n 0, 1) := by decide +kernel
theorem dX4_fault_27 : decode cX4_fault 27 = .ok (.invokevirtual 183, 3) := by decide +kernel
theorem dX4_fault_30 : decode cX4_fault 30 = .ok (.bipush 44, 2) := by decide +kernel
theorem dX4_fault_32 : decode cX4_fault 32 = .ok (.if_icmp .ne 20, 3) := by decide +kernel
theorem dX4_fault_35 : decode cX4_fault 35 = .ok (.aload_n 0, 1) := by decide +kernel
theorem dX4_fault_36 : decode cX4_fault 36 = .ok (.dup, 1) := by decide +kernel
theorem dX4_fault_37 : decode cX4_fault 37 = .ok (.getfield 176, 3) := by decide +kernel
theorem dX4_fault_40 : decode cX4_fault 40 = .ok (.iconst 1, 1) := by decide +kernel
theorem dX4_fault_41 : decode cX4_fault 41 = .ok (.iadd, 1) := by decide +kernel
theorem dX4_fault_42 : decode cX4_fault 42 = .ok (.putfield 176, 3) := by decide +kernel
theorem dX4_fault_45 : decode cX4_fault 45 = .ok (.aload_n 0, 1) := by decide +kernel
theorem dX4_fault_46 : decode cX4_fault 46 = .ok (.invokevirtual 205, 3) := by decide +kernel
theorem dX4_fault_49 : decode cX4_fault 49 = .ok (.goto (-30), 3) := by decide +kernel
theorem dX4_fault_52 : decode cX4_fault 52 = .ok (.aload_n 0, 1) := by decide +kernel
theorem dX4_fault_53 : decode cX4_fault 53 = .ok (.getfield 179, 3) := by decide +kernel
theorem dX4_fault_56 : decode cX4_fault 56 = .ok (.ifCond .ne 14, 3) := by decide +kernel
theorem dX4_fault_59 : decode cX4_fault 59 = .ok (.aload_n 0, 1) := by decide +kernel
theorem dX4_fault_60 : decode cX4_fault 60 = .ok (.getfield 176, 3) := by decide +kernel
theorem dX4_fault_63 : decode cX4_fault 63 = .ok (.aload_n 0, 1) := by decide +kernel
theorem dX4_fault_64 : decode cX4_fault 64 = .ok (.getfield 144, 3) := by decide +kernel
theorem dX4_fault_67 : decode cX4_fault 67 = .ok (.if_icmp .ge 10, 3) := by decide +kernel
theorem dX4_fault_70 : decode cX4_fault 70 = .ok (.aload_n 0, 1) := by decide +kernel
theorem dX4_fault_71 : decode cX4_fault 71 = .ok (.getfield 176, 3) := by decide +kernel
theorem dX4_fault_74 : decode cX4_fault 74 = .ok (.goto 5, 3) := by decide +kernel
theorem dX4_fault_77 : decode cX4_fault 77 = .ok (.bipush (-6), 2) := by decide +kernel
theorem dX4_fault_79 : decode cX4_fault 79 = .ok (.ireturn, 1) := by decide +kernel
theorem dX4_carries_0 : decode cX4_carries 0 = .ok (.aload_n 0, 1) := by decide +kernel
theorem dX4_carries_1 : decode cX4_carries 1 = .ok (.getfield 32, 3) := by decide +kernel
theorem dX4_carries_4 : decode cX4_carries 4 = .ok (.iload_n 1, 1) := by decide +kernel
theorem dX4_carries_5 : decode cX4_carries 5 = .ok (.iconst 1, 1) := by decide +kernel
theorem dX4_carries_6 : decode cX4_carries 6 = .ok (.iadd, 1) := by decide +kernel
theorem dX4_carries_7 : decode cX4_carries 7 = .ok (.iaload, 1) := by decide +kernel
theorem dX4_carries_8 : decode cX4_carries 8 = .ok (.istore_n 2, 1) := by decide +kernel
theorem dX4_carries_9 : decode cX4_carries 9 = .ok (.aload_n 0, 1) := by decide +kernel
theorem dX4_carries_10 : decode cX4_carries 10 = .ok (.getfield 32, 3) := by decide +kernel
theorem dX4_carries_13 : decode cX4_carries 13 = .ok (.iload_n 1, 1) := by decide +kernel
theorem dX4_carries_14 : decode cX4_carries 14 = .ok (.iconst 2, 1) := by decide +kernel
theorem dX4_carries_15 : decode cX4_carries 15 = .ok (.iadd, 1) := by decide +kernel
theorem dX4_carries_16 : decode cX4_carries 16 = .ok (.iaload, 1) := by decide +kernel
theorem dX4_carries_17 : decode cX4_carries 17 = .ok (.istore_n 3, 1) := by decide +kernel
theorem dX4_carries_18 : decode cX4_carries 18 = .ok (.aload_n 0, 1) := by decide +kernel
theorem dX4_carries_19 : decode cX4_carries 19 = .ok (.getfield 32, 3) := by decide +kernel
theorem dX4_carries_22 : decode cX4_carries 22 = .ok (.iload_n 1, 1) := by decide +kernel
theorem dX4_carries_23 : decode cX4_carries 23 = .ok (.iaload, 1) := by decide +kernel
theorem dX4_carries_24 : decode cX4_carries 24 = .ok (.lookupswitch 59 #[(116, 28), (118, 42)], 28) := by decide +kernel
theorem dX4_carries_52 : decode cX4_carries 52 = .ok (.aload_n 0, 1) := by decide +kernel
theorem dX4_carries_53 : decode cX4_carries 53 = .ok (.iload_n 2, 1) := by decide +kernel
theorem dX4_carries_54 : decode cX4_carries 54 = .ok (.invokevirtual 208, 3) := by decide +kernel
theorem dX4_carries_57 : decode cX4_carries 57 = .ok (.ifCond .lt 7, 3) := by decide +kernel
theorem dX4_carries_60 : decode cX4_carries 60 = .ok (.iconst 1, 1) := by decide +kernel
theorem dX4_carries_61 : decode cX4_carries 61 = .ok (.goto 4, 3) := by decide +kernel
theorem dX4_carries_64 : decode cX4_carries 64 = .ok (.iconst 0, 1) := by decide +kernel
theorem dX4_carries_65 : decode cX4_carries 65 = .ok (.ireturn, 1) := by decide +kernel
theorem dX4_carries_66 : decode cX4_carries 66 = .ok (.aload_n 0, 1) := by decide +kernel
theorem dX4_carries_67 : decode cX4_carries 67 = .ok (.iload_n 2, 1) := by decide +kernel
theorem dX4_carries_68 : decode cX4_carries 68 = .ok (.iload_n 3, 1) := by decide +kernel
theorem dX4_carries_69 : decode cX4_carries 69 = .ok (.invokevirtual 211, 3) := by decide +kernel
theorem dX4_carries_72 : decode cX4_carries 72 = .ok (.ldc 214, 2) := by decide +kernel
theorem dX4_carries_74 : decode cX4_carries 74 = .ok (.if_icmp .le 7, 3) := by decide +kernel
theorem dX4_carries_77 : decode cX4_carries 77 = .ok (.iconst 1, 1) := by decide +kernel
theorem dX4_carries_78 : decode cX4_carries 78 = .ok (.goto 4, 3) := by decide +kernel
theorem dX4_carries_81 : decode cX4_carries 81 = .ok (.iconst 0, 1) := by decide +kernel
theorem dX4_carries_82 : decode cX4_carries 82 = .ok (.ireturn, 1) := by decide +kernel
theorem dX4_carries_83 : decode cX4_carries 83 = .ok (.aload_n 0, 1) := by decide +kernel
theorem dX4_carries_84 : decode cX4_carries 84 = .ok (.iload_n 2, 1) := by decide +kernel
theorem dX4_carries_85 : decode cX4_carries 85 = .ok (.iload_n 3, 1) := by decide +kernel
theorem dX4_carries_86 : decode cX4_carries 86 = .ok (.aload_n 0, 1) := by decide +kernel
theorem dX4_carries_87 : decode cX4_carries 87 = .ok (.getfield 32, 3) := by decide +kernel
theorem dX4_carries_90 : decode cX4_carries 90 = .ok (.iload_n 1, 1) := by decide +kernel
theorem dX4_carries_91 : decode cX4_carries 91 = .ok (.iconst 3, 1) := by decide +kernel
theorem dX4_carries_92 : decode cX4_carries 92 = .ok (.iadd, 1) := by decide +kernel
theorem dX4_carries_93 : decode cX4_carries 93 = .ok (.iaload, 1) := by decide +kernel
theorem dX4_carries_94 : decode cX4_carries 94 = .ok (.aload_n 0, 1) := by decide +kernel
theorem dX4_carries_95 : decode cX4_carries 95 = .ok (.getfield 32, 3) := by decide +kernel
theorem dX4_carries_98 : decode cX4_carries 98 = .ok (.iload_n 1, 1) := by decide +kernel
theorem dX4_carries_99 : decode cX4_carries 99 = .ok (.iconst 4, 1) := by decide +kernel
theorem dX4_carries_100 : decode cX4_carries 100 = .ok (.iadd, 1) := by decide +kernel
theorem dX4_carries_101 : decode cX4_carries 101 = .ok (.iaload, 1) := by decide +kernel
theorem dX4_carries_102 : decode cX4_carries 102 = .ok (.aload_n 0, 1) := by decide +kernel
theorem dX4_carries_103 : decode cX4_carries 103 = .ok (.getfield 32, 3) := by decide +kernel
theorem dX4_carries_106 : decode cX4_carries 106 = .ok (.iload_n 1, 1) := by decide +kernel
theorem dX4_carries_107 : decode cX4_carries 107 = .ok (.iconst 5, 1) := by decide +kernel
theorem dX4_carries_108 : decode cX4_carries 108 = .ok (.iadd, 1) := by decide +kernel
theorem dX4_carries_109 : decode cX4_carries 109 = .ok (.iaload, 1) := by decide +kernel
theorem dX4_carries_110 : decode cX4_carries 110 = .ok (.invokevirtual 215, 3) := by decide +kernel
theorem dX4_carries_113 : decode cX4_carries 113 = .ok (.ifCond .lt 7, 3) := by decide +kernel
theorem dX4_carries_116 : decode cX4_carries 116 = .ok (.iconst 1, 1) := by decide +kernel
theorem dX4_carries_117 : decode cX4_carries 117 = .ok (.goto 4, 3) := by decide +kernel
theorem dX4_carries_120 : decode cX4_carries 120 = .ok (.iconst 0, 1) := by decide +kernel
theorem dX4_carries_121 : decode cX4_carries 121 = .ok (.ireturn, 1) := by decide +kernel
theorem dX4_carryOut_0 : decode cX4_carryOut 0 = .ok (.aload_n 0, 1) := by decide +kernel
theorem dX4_carryOut_1 : decode cX4_carryOut 1 = .ok (.invokevirtual 218, 3) := by decide +kernel
theorem dX4_carryOut_4 : decode cX4_carryOut 4 = .ok (.bipush (-6), 2) := by decide +kernel
theorem dX4_carryOut_6 : decode cX4_carryOut 6 = .ok (.if_icmp .eq 6, 3) := by decide +kernel
theorem dX4_carryOut_9 : decode cX4_carryOut 9 = .ok (.bipush (-3), 2) := by decide +kernel
theorem dX4_carryOut_11 : decode cX4_carryOut 11 = .ok (.ireturn, 1) := by decide +kernel
theorem dX4_carryOut_12 : decode cX4_carryOut 12 = .ok (.iconst 0, 1) := by decide +kernel
theorem dX4_carryOut_13 : decode cX4_carryOut 13 = .ok (.istore_n 1, 1) := by decide +kernel
theorem dX4_carryOut_14 : decode cX4_carryOut 14 = .ok (.iload_n 1, 1) := by decide +kernel
theorem dX4_carryOut_15 : decode cX4_carryOut 15 = .ok (.aload_n 0, 1) := by decide +kernel
theorem dX4_carryOut_16 : decode cX4_carryOut 16 = .ok (.getfield 196, 3) := by decide +kernel
theorem dX4_carryOut_19 : decode cX4_carryOut 19 = .ok (.if_icmp .ge 20, 3) := by decide +kernel
theorem dX4_carryOut_22 : decode cX4_carryOut 22 = .ok (.aload_n 0, 1) := by decide +kernel
theorem dX4_carryOut_23 : decode cX4_carryOut 23 = .ok (.bipush 6, 2) := by decide +kernel
theorem dX4_carryOut_25 : decode cX4_carryOut 25 = .ok (.iload_n 1, 1) := by decide +kernel
theorem dX4_carryOut_26 : decode cX4_carryOut 26 = .ok (.imul, 1) := by decide +kernel
theorem dX4_carryOut_27 : decode cX4_carryOut 27 = .ok (.invokevirtual 221, 3) := by decide +kernel
theorem dX4_carryOut_30 : decode cX4_carryOut 30 = .ok (.ifCond .eq 9, 3) := by decide +kernel
theorem dX4_carryOut_33 : decode cX4_carryOut 33 = .ok (.iinc 1 1, 3) := by decide +kernel
theorem dX4_carryOut_36 : decode cX4_carryOut 36 = .ok (.goto (-22), 3) := by decide +kernel
theorem dX4_carryOut_39 : decode cX4_carryOut 39 = .ok (.aload_n 0, 1) := by decide +kernel
theorem dX4_carryOut_40 : decode cX4_carryOut 40 = .ok (.iconst 0, 1) := by decide +kernel
theorem dX4_carryOut_41 : decode cX4_carryOut 41 = .ok (.putfield 144, 3) := by decide +kernel
theorem dX4_carryOut_44 : decode cX4_carryOut 44 = .ok (.iload_n 1, 1) := by decide +kernel
theorem dX4_carryOut_45 : decode cX4_carryOut 45 = .ok (.ireturn, 1) := by decide +kernel
theorem dX4_save_0 : decode cX4_save 0 = .ok (.iload_n 1, 1) := by decide +kernel
theorem dX4_save_1 : decode cX4_save 1 = .ok (.iconst 0, 1) := by decide +kernel
theorem dX4_save_2 : decode cX4_save 2 = .ok (.iconst 1, 1) := by decide +kernel
theorem dX4_save_3 : decode cX4_save 3 = .ok (.invokestatic 39, 3) := by decide +kernel
theorem dX4_save_6 : decode cX4_save 6 = .ok (.ifCond .ne 6, 3) := by decide +kernel
theorem dX4_save_9 : decode cX4_save 9 = .ok (.bipush (-2), 2) := by decide +kernel
theorem dX4_save_11 : decode cX4_save 11 = .ok (.ireturn, 1) := by decide +kernel
theorem dX4_save_12 : decode cX4_save 12 = .ok (.iconst 0, 1) := by decide +kernel
theorem dX4_save_13 : decode cX4_save 13 = .ok (.istore_n 2, 1) := by decide +kernel
theorem dX4_save_14 : decode cX4_save 14 = .ok (.iload_n 2, 1) := by decide +kernel
theorem dX4_save_15 : decode cX4_save 15 = .ok (.sipush 2386, 3) := by decide +kernel
theorem dX4_save_18 : decode cX4_save 18 = .ok (.if_icmp .ge 27, 3) := by decide +kernel
theorem dX4_save_21 : decode cX4_save 21 = .ok (.aload_n 0, 1) := by decide +kernel
theorem dX4_save_22 : decode cX4_save 22 = .ok (.getfield 16, 3) := by decide +kernel
theorem dX4_save_25 : decode cX4_save 25 = .ok (.sipush 2386, 3) := by decide +kernel
theorem dX4_save_28 : decode cX4_save 28 = .ok (.iload_n 1, 1) := by decide +kernel
theorem dX4_save_29 : decode cX4_save 29 = .ok (.imul, 1) := by decide +kernel
theorem dX4_save_30 : decode cX4_save 30 = .ok (.iload_n 2, 1) := by decide +kernel
theorem dX4_save_31 : decode cX4_save 31 = .ok (.iadd, 1) := by decide +kernel
theorem dX4_save_32 : decode cX4_save 32 = .ok (.aload_n 0, 1) := by decide +kernel
theorem dX4_save_33 : decode cX4_save 33 = .ok (.getfield 7, 3) := by decide +kernel
theorem dX4_save_36 : decode cX4_save 36 = .ok (.iload_n 2, 1) := by decide +kernel
theorem dX4_save_37 : decode cX4_save 37 = .ok (.iaload, 1) := by decide +kernel
theorem dX4_save_38 : decode cX4_save 38 = .ok (.iastore, 1) := by decide +kernel
theorem dX4_save_39 : decode cX4_save 39 = .ok (.iinc 2 1, 3) := by decide +kernel
theorem dX4_save_42 : decode cX4_save 42 = .ok (.goto (-28), 3) := by decide +kernel
theorem dX4_save_45 : decode cX4_save 45 = .ok (.aload_n 0, 1) := by decide +kernel
theorem dX4_save_46 : decode cX4_save 46 = .ok (.getfield 19, 3) := by decide +kernel
theorem dX4_save_49 : decode cX4_save 49 = .ok (.iload_n 1, 1) := by decide +kernel
theorem dX4_save_50 : decode cX4_save 50 = .ok (.iconst 1, 1) := by decide +kernel
theorem dX4_save_51 : decode cX4_save 51 = .ok (.bastore, 1) := by decide +kernel
theorem dX4_save_52 : decode cX4_save 52 = .ok (.aload_n 0, 1) := by decide +kernel
theorem dX4_save_53 : decode cX4_save 53 = .ok (.getfield 7, 3) := by decide +kernel
theorem dX4_save_56 : decode cX4_save 56 = .ok (.iconst 1, 1) := by decide +kernel
theorem dX4_save_57 : decode cX4_save 57 = .ok (.iaload, 1) := by decide +kernel
theorem dX4_save_58 : decode cX4_save 58 = .ok (.ireturn, 1) := by decide +kernel
theorem dX4_restore_0 : decode cX4_restore 0 = .ok (.iload_n 1, 1) := by decide +kernel
theorem dX4_restore_1 : decode cX4_restore 1 = .ok (.iconst 0, 1) := by decide +kernel
theorem dX4_restore_2 : decode cX4_restore 2 = .ok (.iconst 1, 1) := by decide +kernel
theorem dX4_restore_3 : decode cX4_restore 3 = .ok (.invokestatic 39, 3) := by decide +kernel
theorem dX4_restore_6 : decode cX4_restore 6 = .ok (.ifCond .ne 6, 3) := by decide +kernel
theorem dX4_restore_9 : decode cX4_restore 9 = .ok (.bipush (-2), 2) := by decide +kernel
theorem dX4_restore_11 : decode cX4_restore 11 = .ok (.ireturn, 1) := by decide +kernel
theorem dX4_restore_12 : decode cX4_restore 12 = .ok (.aload_n 0, 1) := by decide +kernel
theorem dX4_restore_13 : decode cX4_restore 13 = .ok (.getfield 19, 3) := by decide +kernel
theorem dX4_restore_16 : decode cX4_restore 16 = .ok (.iload_n 1, 1) := by decide +kernel
theorem dX4_restore_17 : decode cX4_restore 17 = .ok (.baload, 1) := by decide +kernel
theorem dX4_restore_18 : decode cX4_restore 18 = .ok (.ifCond .ne 6, 3) := by decide +kernel
theorem dX4_restore_21 : decode cX4_restore 21 = .ok (.bipush (-5), 2) := by decide +kernel
theorem dX4_restore_23 : decode cX4_restore 23 = .ok (.ireturn, 1) := by decide +kernel
theorem dX4_restore_24 : decode cX4_restore 24 = .ok (.iconst 0, 1) := by decide +kernel
theorem dX4_restore_25 : decode cX4_restore 25 = .ok (.istore_n 2, 1) := by decide +kernel
theorem dX4_restore_26 : decode cX4_restore 26 = .ok (.iload_n 2, 1) := by decide +kernel
theorem dX4_restore_27 : decode cX4_restore 27 = .ok (.sipush 2386, 3) := by decide +kernel
theorem dX4_restore_30 : decode cX4_restore 30 = .ok (.if_icmp .ge 27, 3) := by decide +kernel
theorem dX4_restore_33 : decode cX4_restore 33 = .ok (.aload_n 0, 1) := by decide +kernel
theorem dX4_restore_34 : decode cX4_restore 34 = .ok (.getfield 7, 3) := by decide +kernel
theorem dX4_restore_37 : decode cX4_restore 37 = .ok (.iload_n 2, 1) := by decide +kernel
theorem dX4_restore_38 : decode cX4_restore 38 = .ok (.aload_n 0, 1) := by decide +kernel
theorem dX4_restore_39 : decode cX4_restore 39 = .ok (.getfield 16, 3) := by decide +kernel
theorem dX4_restore_42 : decode cX4_restore 42 = .ok (.sipush 2386, 3) := by decide +kernel
theorem dX4_restore_45 : decode cX4_restore 45 = .ok (.iload_n 1, 1) := by decide +kernel
theorem dX4_restore_46 : decode cX4_restore 46 = .ok (.imul, 1) := by decide +kernel
theorem dX4_restore_47 : decode cX4_restore 47 = .ok (.iload_n 2, 1) := by decide +kernel
theorem dX4_restore_48 : decode cX4_restore 48 = .ok (.iadd, 1) := by decide +kernel
theorem dX4_restore_49 : decode cX4_restore 49 = .ok (.iaload, 1) := by decide +kernel
theorem dX4_restore_50 : decode cX4_restore 50 = .ok (.iastore, 1) := by decide +kernel
theorem dX4_restore_51 : decode cX4_restore 51 = .ok (.iinc 2 1, 3) := by decide +kernel
theorem dX4_restore_54 : decode cX4_restore 54 = .ok (.goto (-28), 3) := by decide +kernel
theorem dX4_restore_57 : decode cX4_restore 57 = .ok (.aload_n 0, 1) := by decide +kernel
theorem dX4_restore_58 : decode cX4_restore 58 = .ok (.getfield 7, 3) := by decide +kernel
theorem dX4_restore_61 : decode cX4_restore 61 = .ok (.iconst 1, 1) := by decide +kernel
theorem dX4_restore_62 : decode cX4_restore 62 = .ok (.iaload, 1) := by decide +kernel
theorem dX4_restore_63 : decode cX4_restore 63 = .ok (.ireturn, 1) := by decide +kernel
theorem dJ9_floorDiv_7cf53_0 : decode cJ9_floorDiv_7cf53 0 = .ok (.iload_n 0, 1) := by decide +kernel
theorem dJ9_floorDiv_7cf53_1 : decode cJ9_floorDiv_7cf53 1 = .ok (.iload_n 1, 1) := by decide +kernel
theorem dJ9_floorDiv_7cf53_2 : decode cJ9_floorDiv_7cf53 2 = .ok (.idiv, 1) := by decide +kernel
theorem dJ9_floorDiv_7cf53_3 : decode cJ9_floorDiv_7cf53 3 = .ok (.istore_n 2, 1) := by decide +kernel
theorem dJ9_floorDiv_7cf53_4 : decode cJ9_floorDiv_7cf53 4 = .ok (.iload_n 0, 1) := by decide +kernel
theorem dJ9_floorDiv_7cf53_5 : decode cJ9_floorDiv_7cf53 5 = .ok (.iload_n 1, 1) := by decide +kernel
theorem dJ9_floorDiv_7cf53_6 : decode cJ9_floorDiv_7cf53 6 = .ok (.ixor, 1) := by decide +kernel
theorem dJ9_floorDiv_7cf53_7 : decode cJ9_floorDiv_7cf53 7 = .ok (.ifCond .ge 14, 3) := by decide +kernel
theorem dJ9_floorDiv_7cf53_10 : decode cJ9_floorDiv_7cf53 10 = .ok (.iload_n 2, 1) := by decide +kernel
theorem dJ9_floorDiv_7cf53_11 : decode cJ9_floorDiv_7cf53 11 = .ok (.iload_n 1, 1) := by decide +kernel
theorem dJ9_floorDiv_7cf53_12 : decode cJ9_floorDiv_7cf53 12 = .ok (.imul, 1) := by decide +kernel
theorem dJ9_floorDiv_7cf53_13 : decode cJ9_floorDiv_7cf53 13 = .ok (.iload_n 0, 1) := by decide +kernel
theorem dJ9_floorDiv_7cf53_14 : decode cJ9_floorDiv_7cf53 14 = .ok (.if_icmp .eq 7, 3) := by decide +kernel
theorem dJ9_floorDiv_7cf53_17 : decode cJ9_floorDiv_7cf53 17 = .ok (.iload_n 2, 1) := by decide +kernel
theorem dJ9_floorDiv_7cf53_18 : decode cJ9_floorDiv_7cf53 18 = .ok (.iconst 1, 1) := by decide +kernel
theorem dJ9_floorDiv_7cf53_19 : decode cJ9_floorDiv_7cf53 19 = .ok (.isub, 1) := by decide +kernel
theorem dJ9_floorDiv_7cf53_20 : decode cJ9_floorDiv_7cf53 20 = .ok (.ireturn, 1) := by decide +kernel
theorem dJ9_floorDiv_7cf53_21 : decode cJ9_floorDiv_7cf53 21 = .ok (.iload_n 2, 1) := by decide +kernel
theorem dJ9_floorDiv_7cf53_22 : decode cJ9_floorDiv_7cf53 22 = .ok (.ireturn, 1) := by decide +kernel
theorem dJ9_floorMod_7cf53_0 : decode cJ9_floorMod_7cf53 0 = .ok (.iload_n 0, 1) := by decide +kernel
theorem dJ9_floorMod_7cf53_1 : decode cJ9_floorMod_7cf53 1 = .ok (.iload_n 1, 1) := by decide +kernel
theorem dJ9_floorMod_7cf53_2 : decode cJ9_floorMod_7cf53 2 = .ok (.irem, 1) := by decide +kernel
theorem dJ9_floorMod_7cf53_3 : decode cJ9_floorMod_7cf53 3 = .ok (.istore_n 2, 1) := by decide +kernel
theorem dJ9_floorMod_7cf53_4 : decode cJ9_floorMod_7cf53 4 = .ok (.iload_n 0, 1) := by decide +kernel
theorem dJ9_floorMod_7cf53_5 : decode cJ9_floorMod_7cf53 5 = .ok (.iload_n 1, 1) := by decide +kernel
theorem dJ9_floorMod_7cf53_6 : decode cJ9_floorMod_7cf53 6 = .ok (.ixor, 1) := by decide +kernel
theorem dJ9_floorMod_7cf53_7 : decode cJ9_floorMod_7cf53 7 = .ok (.ifCond .ge 11, 3) := by decide +kernel
theorem dJ9_floorMod_7cf53_10 : decode cJ9_floorMod_7cf53 10 = .ok (.iload_n 2, 1) := by decide +kernel
theorem dJ9_floorMod_7cf53_11 : decode cJ9_floorMod_7cf53 11 = .ok (.ifCond .eq 7, 3) := by decide +kernel
theorem dJ9_floorMod_7cf53_14 : decode cJ9_floorMod_7cf53 14 = .ok (.iload_n 2, 1) := by decide +kernel
theorem dJ9_floorMod_7cf53_15 : decode cJ9_floorMod_7cf53 15 = .ok (.iload_n 1, 1) := by decide +kernel
theorem dJ9_floorMod_7cf53_16 : decode cJ9_floorMod_7cf53 16 = .ok (.iadd, 1) := by decide +kernel
theorem dJ9_floorMod_7cf53_17 : decode cJ9_floorMod_7cf53 17 = .ok (.ireturn, 1) := by decide +kernel
theorem dJ9_floorMod_7cf53_18 : decode cJ9_floorMod_7cf53 18 = .ok (.iload_n 2, 1) := by decide +kernel
theorem dJ9_floorMod_7cf53_19 : decode cJ9_floorMod_7cf53 19 = .ok (.ireturn, 1) := by decide +kernel
theorem dJ9_abs_0f7a4_0 : decode cJ9_abs_0f7a4 0 = .ok (.iload_n 0, 1) := by decide +kernel
theorem dJ9_abs_0f7a4_1 : decode cJ9_abs_0f7a4 1 = .ok (.ifCond .ge 8, 3) := by decide +kernel
theorem dJ9_abs_0f7a4_4 : decode cJ9_abs_0f7a4 4 = .ok (.iload_n 0, 1) := by decide +kernel
theorem dJ9_abs_0f7a4_5 : decode cJ9_abs_0f7a4 5 = .ok (.ineg, 1) := by decide +kernel
theorem dJ9_abs_0f7a4_6 : decode cJ9_abs_0f7a4 6 = .ok (.goto 4, 3) := by decide +kernel
theorem dJ9_abs_0f7a4_9 : decode cJ9_abs_0f7a4 9 = .ok (.iload_n 0, 1) := by decide +kernel
theorem dJ9_abs_0f7a4_10 : decode cJ9_abs_0f7a4 10 = .ok (.ireturn, 1) := by decide +kernel
theorem dJ9_abs_067f4_0 : decode cJ9_abs_067f4 0 = .ok (.lload_n 0, 1) := by decide +kernel
theorem dJ9_abs_067f4_1 : decode cJ9_abs_067f4 1 = .ok (.lconst 0, 1) := by decide +kernel
theorem dJ9_abs_067f4_2 : decode cJ9_abs_067f4 2 = .ok (.lcmp, 1) := by decide +kernel
theorem dJ9_abs_067f4_3 : decode cJ9_abs_067f4 3 = .ok (.ifCond .ge 8, 3) := by decide +kernel
theorem dJ9_abs_067f4_6 : decode cJ9_abs_067f4 6 = .ok (.lload_n 0, 1) := by decide +kernel
theorem dJ9_abs_067f4_7 : decode cJ9_abs_067f4 7 = .ok (.lneg, 1) := by decide +kernel
theorem dJ9_abs_067f4_8 : decode cJ9_abs_067f4 8 = .ok (.goto 4, 3) := by decide +kernel
theorem dJ9_abs_067f4_11 : decode cJ9_abs_067f4 11 = .ok (.lload_n 0, 1) := by decide +kernel
theorem dJ9_abs_067f4_12 : decode cJ9_abs_067f4 12 = .ok (.lreturn, 1) := by decide +kernel
theorem dJ9_max_7cf53_0 : decode cJ9_max_7cf53 0 = .ok (.iload_n 0, 1) := by decide +kernel
theorem dJ9_max_7cf53_1 : decode cJ9_max_7cf53 1 = .ok (.iload_n 1, 1) := by decide +kernel
theorem dJ9_max_7cf53_2 : decode cJ9_max_7cf53 2 = .ok (.if_icmp .lt 7, 3) := by decide +kernel
theorem dJ9_max_7cf53_5 : decode cJ9_max_7cf53 5 = .ok (.iload_n 0, 1) := by decide +kernel
theorem dJ9_max_7cf53_6 : decode cJ9_max_7cf53 6 = .ok (.goto 4, 3) := by decide +kernel
theorem dJ9_max_7cf53_9 : decode cJ9_max_7cf53 9 = .ok (.iload_n 1, 1) := by decide +kernel
theorem dJ9_max_7cf53_10 : decode cJ9_max_7cf53 10 = .ok (.ireturn, 1) := by decide +kernel
theorem dJ9_min_7cf53_0 : decode cJ9_min_7cf53 0 = .ok (.iload_n 0, 1) := by decide +kernel
theorem dJ9_min_7cf53_1 : decode cJ9_min_7cf53 1 = .ok (.iload_n 1, 1) := by decide +kernel
theorem dJ9_min_7cf53_2 : decode cJ9_min_7cf53 2 = .ok (.if_icmp .gt 7, 3) := by decide +kernel
theorem dJ9_min_7cf53_5 : decode cJ9_min_7cf53 5 = .ok (.iload_n 0, 1) := by decide +kernel
theorem dJ9_min_7cf53_6 : decode cJ9_min_7cf53 6 = .ok (.goto 4, 3) := by decide +kernel
theorem dJ9_min_7cf53_9 : decode cJ9_min_7cf53 9 = .ok (.iload_n 1, 1) := by decide +kernel
theorem dJ9_min_7cf53_10 : decode cJ9_min_7cf53 10 = .ok (.ireturn, 1) := by decide +kernel
theorem dJ7_fill_53178_0 : decode cJ7_fill_53178 0 = .ok (.iconst 0, 1) := by decide +kernel
theorem dJ7_fill_53178_1 : decode cJ7_fill_53178 1 = .ok (.istore_n 2, 1) := by decide +kernel
theorem dJ7_fill_53178_2 : decode cJ7_fill_53178 2 = .ok (.aload_n 0, 1) := by decide +kernel
theorem dJ7_fill_53178_3 : decode cJ7_fill_53178 3 = .ok (.arraylength, 1) := by decide +kernel
theorem dJ7_fill_53178_4 : decode cJ7_fill_53178 4 = .ok (.istore_n 3, 1) := by decide +kernel
theorem dJ7_fill_53178_5 : decode cJ7_fill_53178 5 = .ok (.iload_n 2, 1) := by decide +kernel
theorem dJ7_fill_53178_6 : decode cJ7_fill_53178 6 = .ok (.iload_n 3, 1) := by decide +kernel
theorem dJ7_fill_53178_7 : decode cJ7_fill_53178 7 = .ok (.if_icmp .ge 13, 3) := by decide +kernel
theorem dJ7_fill_53178_10 : decode cJ7_fill_53178 10 = .ok (.aload_n 0, 1) := by decide +kernel
theorem dJ7_fill_53178_11 : decode cJ7_fill_53178 11 = .ok (.iload_n 2, 1) := by decide +kernel
theorem dJ7_fill_53178_12 : decode cJ7_fill_53178 12 = .ok (.iload_n 1, 1) := by decide +kernel
theorem dJ7_fill_53178_13 : decode cJ7_fill_53178 13 = .ok (.iastore, 1) := by decide +kernel
theorem dJ7_fill_53178_14 : decode cJ7_fill_53178 14 = .ok (.iinc 2 1, 3) := by decide +kernel
theorem dJ7_fill_53178_17 : decode cJ7_fill_53178 17 = .ok (.goto (-12), 3) := by decide +kernel
theorem dJ7_fill_53178_20 : decode cJ7_fill_53178 20 = .ok (.return_, 1) := by decide +kernel
theorem dL_law_0 : decode cL_law 0 = .ok (.new 7, 3) := by decide +kernel
theorem dL_law_3 : decode cL_law 3 = .ok (.dup, 1) := by decide +kernel
theorem dL_law_4 : decode cL_law 4 = .ok (.invokespecial 9, 3) := by decide +kernel
theorem dL_law_7 : decode cL_law 7 = .ok (.astore_n 1, 1) := by decide +kernel
theorem dL_law_8 : decode cL_law 8 = .ok (.new 10, 3) := by decide +kernel
theorem dL_law_11 : decode cL_law 11 = .ok (.dup, 1) := by decide +kernel
theorem dL_law_12 : decode cL_law 12 = .ok (.invokespecial 12, 3) := by decide +kernel
theorem dL_law_15 : decode cL_law 15 = .ok (.astore_n 2, 1) := by decide +kernel
theorem dL_law_16 : decode cL_law 16 = .ok (.iconst 0, 1) := by decide +kernel
theorem dL_law_17 : decode cL_law 17 = .ok (.istore_n 3, 1) := by decide +kernel
theorem dL_law_18 : decode cL_law 18 = .ok (.iload_n 3, 1) := by decide +kernel
theorem dL_law_19 : decode cL_law 19 = .ok (.aload_n 0, 1) := by decide +kernel
theorem dL_law_20 : decode cL_law 20 = .ok (.arraylength, 1) := by decide +kernel
theorem dL_law_21 : decode cL_law 21 = .ok (.bipush 6, 2) := by decide +kernel
theorem dL_law_23 : decode cL_law 23 = .ok (.isub, 1) := by decide +kernel
theorem dL_law_24 : decode cL_law 24 = .ok (.if_icmp .gt 872, 3) := by decide +kernel
theorem dL_law_27 : decode cL_law 27 = .ok (.aload_n 0, 1) := by decide +kernel
theorem dL_law_28 : decode cL_law 28 = .ok (.iload_n 3, 1) := by decide +kernel
theorem dL_law_29 : decode cL_law 29 = .ok (.iaload, 1) := by decide +kernel
theorem dL_law_30 : decode cL_law 30 = .ok (.bipush 31, 2) := by decide +kernel
theorem dL_law_32 : decode cL_law 32 = .ok (.iand, 1) := by decide +kernel
theorem dL_law_33 : decode cL_law 33 = .ok (.tableswitch 857 0 22 #[107, 130, 163, 196, 229, 292, 315, 348, 401, 435, 458, 491, 524, 567, 600, 653, 706, 749, 772, 785, 798, 811, 834], 107) := by decide +kernel
theorem dL_law_140 : decode cL_law 140 = .ok (.aload_n 1, 1) := by decide +kernel
theorem dL_law_141 : decode cL_law 141 = .ok (.aload_n 0, 1) := by decide +kernel
theorem dL_law_142 : decode cL_law 142 = .ok (.iload_n 3, 1) := by decide +kernel
theorem dL_law_143 : decode cL_law 143 = .ok (.iconst 1, 1) := by decide +kernel
theorem dL_law_144 : decode cL_law 144 = .ok (.iadd, 1) := by decide +kernel
theorem dL_law_145 : decode cL_law 145 = .ok (.iaload, 1) := by decide +kernel
theorem dL_law_146 : decode cL_law 146 = .ok (.invokevirtual 13, 3) := by decide +kernel
theorem dL_law_149 : decode cL_law 149 = .ok (.aload_n 2, 1) := by decide +kernel
theorem dL_law_150 : decode cL_law 150 = .ok (.aload_n 0, 1) := by decide +kernel
theorem dL_law_151 : decode cL_law 151 = .ok (.iload_n 3, 1) := by decide +kernel
theorem dL_law_152 : decode cL_law 152 = .ok (.iconst 1, 1) := by decide +kernel
theorem dL_law_153 : decode cL_law 153 = .ok (.iadd, 1) := by decide +kernel
theorem dL_law_154 : decode cL_law 154 = .ok (.iaload, 1) := by decide +kernel
theorem dL_law_155 : decode cL_law 155 = .ok (.invokevirtual 17, 3) := by decide +kernel
theorem dL_law_158 : decode cL_law 158 = .ok (.if_icmp .eq 732, 3) := by decide +kernel
theorem dL_law_161 : decode cL_law 161 = .ok (.iconst 0, 1) := by decide +kernel
theorem dL_law_162 : decode cL_law 162 = .ok (.ireturn, 1) := by decide +kernel
theorem dL_law_163 : decode cL_law 163 = .ok (.aload_n 1, 1) := by decide +kernel
theorem dL_law_164 : decode cL_law 164 = .ok (.aload_n 0, 1) := by decide +kernel
theorem dL_law_165 : decode cL_law 165 = .ok (.iload_n 3, 1) := by decide +kernel
theorem dL_law_166 : decode cL_law 166 = .ok (.iconst 1, 1) := by decide +kernel
theorem dL_law_167 : decode cL_law 167 = .ok (.iadd, 1) := by decide +kernel
theorem dL_law_168 : decode cL_law 168 = .ok (.iaload, 1) := by decide +kernel
theorem dL_law_169 : decode cL_law 169 = .ok (.aload_n 0, 1) := by decide +kernel
theorem dL_law_170 : decode cL_law 170 = .ok (.iload_n 3, 1) := by decide +kernel
theorem dL_law_171 : decode cL_law 171 = .ok (.iconst 2, 1) := by decide +kernel
theorem dL_law_172 : decode cL_law 172 = .ok (.iadd, 1) := by decide +kernel
theorem dL_law_173 : decode cL_law 173 = .ok (.iaload, 1) := by decide +kernel
theorem dL_law_174 : decode cL_law 174 = .ok (.invokevirtual 18, 3) := by decide +kernel
theorem dL_law_177 : decode cL_law 177 = .ok (.aload_n 2, 1) := by decide +kernel
theorem dL_law_178 : decode cL_law 178 = .ok (.aload_n 0, 1) := by decide +kernel
theorem dL_law_179 : decode cL_law 179 = .ok (.iload_n 3, 1) := by decide +kernel
theorem dL_law_180 : decode cL_law 180 = .ok (.iconst 1, 1) := by decide +kernel
theorem dL_law_181 : decode cL_law 181 = .ok (.iadd, 1) := by decide +kernel
theorem dL_law_182 : decode cL_law 182 = .ok (.iaload, 1) := by decide +kernel
theorem dL_law_183 : decode cL_law 183 = .ok (.aload_n 0, 1) := by decide +kernel
theorem dL_law_184 : decode cL_law 184 = .ok (.iload_n 3, 1) := by decide +kernel
theorem dL_law_185 : decode cL_law 185 = .ok (.iconst 2, 1) := by decide +kernel
theorem dL_law_186 : decode cL_law 186 = .ok (.iadd, 1) := by decide +kernel
theorem dL_law_187 : decode cL_law 187 = .ok (.iaload, 1) := by decide +kernel
theorem dL_law_188 : decode cL_law 188 = .ok (.invokevirtual 22, 3) := by decide +kernel
theorem dL_law_191 : decode cL_law 191 = .ok (.if_icmp .eq 699, 3) := by decide +kernel
theorem dL_law_194 : decode cL_law 194 = .ok (.iconst 0, 1) := by decide +kernel
theorem dL_law_195 : decode cL_law 195 = .ok (.ireturn, 1) := by decide +kernel
theorem dL_law_196 : decode cL_law 196 = .ok (.aload_n 1, 1) := by decide +kernel
theorem dL_law_197 : decode cL_law 197 = .ok (.aload_n 0, 1) := by decide +kernel
theorem dL_law_198 : decode cL_law 198 = .ok (.iload_n 3, 1) := by decide +kernel
theorem dL_law_199 : decode cL_law 199 = .ok (.iconst 1, 1) := by decide +kernel
theorem dL_law_200 : decode cL_law 200 = .ok (.iadd, 1) := by decide +kernel
theorem dL_law_201 : decode cL_law 201 = .ok (.iaload, 1) := by decide +kernel
theorem dL_law_202 : decode cL_law 202 = .ok (.aload_n 0, 1) := by decide +kernel
theorem dL_law_203 : decode cL_law 203 = .ok (.iload_n 3, 1) := by decide +kernel
theorem dL_law_204 : decode cL_law 204 = .ok (.iconst 2, 1) := by decide +kernel
theorem dL_law_205 : decode cL_law 205 = .ok (.iadd, 1) := by decide +kernel
theorem dL_law_206 : decode cL_law 206 = .ok (.iaload, 1) := by decide +kernel
theorem dL_law_207 : decode cL_law 207 = .ok (.invokevirtual 23, 3) := by decide +kernel
theorem dL_law_210 : decode cL_law 210 = .ok (.aload_n 2, 1) := by decide +kernel
theorem dL_law_211 : decode cL_law 211 = .ok (.aload_n 0, 1) := by decide +kernel
theorem dL_law_212 : decode cL_law 212 = .ok (.iload_n 3, 1) := by decide +kernel
theorem dL_law_213 : decode cL_law 213 = .ok (.iconst 1, 1) := by decide +kernel
theorem dL_law_214 : decode cL_law 214 = .ok (.iadd, 1) := by decide +kernel
theorem dL_law_215 : decode cL_law 215 = .ok (.iaload, 1) := by decide +kernel
theorem dL_law_216 : decode cL_law 216 = .ok (.aload_n 0, 1) := by decide +kernel
theorem dL_law_217 : decode cL_law 217 = .ok (.iload_n 3, 1) := by decide +kernel
theorem dL_law_218 : decode cL_law 218 = .ok (.iconst 2, 1) := by decide +kernel
theorem dL_law_219 : decode cL_law 219 = .ok (.iadd, 1) := by decide +kernel
theorem dL_law_220 : decode cL_law 220 = .ok (.iaload, 1) := by decide +kernel
theorem dL_law_221 : decode cL_law 221 = .ok (.invokevirtual 26, 3) := by decide +kernel
theorem dL_law_224 : decode cL_law 224 = .ok (.if_icmp .eq 666, 3) := by decide +kernel
theorem dL_law_227 : decode cL_law 227 = .ok (.iconst 0, 1) := by decide +kernel
theorem dL_law_228 : decode cL_law 228 = .ok (.ireturn, 1) := by decide +kernel
theorem dL_law_229 : decode cL_law 229 = .ok (.aload_n 1, 1) := by decide +kernel
theorem dL_law_230 : decode cL_law 230 = .ok (.aload_n 0, 1) := by decide +kernel
theorem dL_law_231 : decode cL_law 231 = .ok (.iload_n 3, 1) := by decide +kernel
theorem dL_law_232 : decode cL_law 232 = .ok (.iconst 1, 1) := by decide +kernel
theorem dL_law_233 : decode cL_law 233 = .ok (.iadd, 1) := by decide +kernel
theorem dL_law_234 : decode cL_law 234 = .ok (.iaload, 1) := by decide +kernel
theorem dL_law_235 : decode cL_law 235 = .ok (.aload_n 0, 1) := by decide +kernel
theorem dL_law_236 : decode cL_law 236 = .ok (.iload_n 3, 1) := by decide +kernel
theorem dL_law_237 : decode cL_law 237 = .ok (.iconst 2, 1) := by decide +kernel
theorem dL_law_238 : decode cL_law 238 = .ok (.iadd, 1) := by decide +kernel
theorem dL_law_239 : decode cL_law 239 = .ok (.iaload, 1) := by decide +kernel
theorem dL_law_240 : decode cL_law 240 = .ok (.invokevirtual 27, 3) := by decide +kernel
theorem dL_law_243 : decode cL_law 243 = .ok (.aload_n 2, 1) := by decide +kernel
theorem dL_law_244 : decode cL_law 244 = .ok (.aload_n 0, 1) := by decide +kernel
theorem dL_law_245 : decode cL_law 245 = .ok (.iload_n 3, 1) := by decide +kernel
theorem dL_law_246 : decode cL_law 246 = .ok (.iconst 1, 1) := by decide +kernel
theorem dL_law_247 : decode cL_law 247 = .ok (.iadd, 1) := by decide +kernel
theorem dL_law_248 : decode cL_law 248 = .ok (.iaload, 1) := by decide +kernel
theorem dL_law_249 : decode cL_law 249 = .ok (.aload_n 0, 1) := by decide +kernel
theorem dL_law_250 : decode cL_law 250 = .ok (.iload_n 3, 1) := by decide +kernel
theorem dL_law_251 : decode cL_law 251 = .ok (.iconst 2, 1) := by decide +kernel
theorem dL_law_252 : decode cL_law 252 = .ok (.iadd, 1) := by decide +kernel
theorem dL_law_253 : decode cL_law 253 = .ok (.iaload, 1) := by decide +kernel
theorem dL_law_254 : decode cL_law 254 = .ok (.invokevirtual 30, 3) := by decide +kernel
theorem dL_law_257 : decode cL_law 257 = .ok (.if_icmp .eq 633, 3) := by decide +kernel
theorem dL_law_260 : decode cL_law 260 = .ok (.iconst 0, 1) := by decide +kernel
theorem dL_law_261 : decode cL_law 261 = .ok (.ireturn, 1) := by decide +kernel
theorem dL_law_262 : decode cL_law 262 = .ok (.aload_n 1, 1) := by decide +kernel
theorem dL_law_263 : decode cL_law 263 = .ok (.aload_n 0, 1) := by decide +kernel
theorem dL_law_264 : decode cL_law 264 = .ok (.iload_n 3, 1) := by decide +kernel
theorem dL_law_265 : decode cL_law 265 = .ok (.iconst 1, 1) := by decide +kernel
theorem dL_law_266 : decode cL_law 266 = .ok (.iadd, 1) := by decide +kernel
theorem dL_law_267 : decode cL_law 267 = .ok (.iaload, 1) := by decide +kernel
theorem dL_law_268 : decode cL_law 268 = .ok (.aload_n 0, 1) := by decide +kernel
theorem dL_law_269 : decode cL_law 269 = .ok (.iload_n 3, 1) := by decide +kernel
theorem dL_law_270 : decode cL_law 270 = .ok (.iconst 2, 1) := by decide +kernel
theorem dL_law_271 : decode cL_law 271 = .ok (.iadd, 1) := by decide +kernel
theorem dL_law_272 : decode cL_law 272 = .ok (.iaload, 1) := by decide +kernel
theorem dL_law_273 : decode cL_law 273 = .ok (.aload_n 0, 1) := by decide +kernel
theorem dL_law_274 : decode cL_law 274 = .ok (.iload_n 3, 1) := by decide +kernel
theorem dL_law_275 : decode cL_law 275 = .ok (.iconst 3, 1) := by decide +kernel
theorem dL_law_276 : decode cL_law 276 = .ok (.iadd, 1) := by decide +kernel
theorem dL_law_277 : decode cL_law 277 = .ok (.iaload, 1) := by decide +kernel
theorem dL_law_278 : decode cL_law 278 = .ok (.aload_n 0, 1) := by decide +kernel
theorem dL_law_279 : decode cL_law 279 = .ok (.iload_n 3, 1) := by decide +kernel
theorem dL_law_280 : decode cL_law 280 = .ok (.iconst 4, 1) := by decide +kernel
theorem dL_law_281 : decode cL_law 281 = .ok (.iadd, 1) := by decide +kernel
theorem dL_law_282 : decode cL_law 282 = .ok (.iaload, 1) := by decide +kernel
theorem dL_law_283 : decode cL_law 283 = .ok (.aload_n 0, 1) := by decide +kernel
theorem dL_law_284 : decode cL_law 284 = .ok (.iload_n 3, 1) := by decide +kernel
theorem dL_law_285 : decode cL_law 285 = .ok (.iconst 5, 1) := by decide +kernel
theorem dL_law_286 : decode cL_law 286 = .ok (.iadd, 1) := by decide +kernel
theorem dL_law_287 : decode cL_law 287 = .ok (.iaload, 1) := by decide +kernel
theorem dL_law_288 : decode cL_law 288 = .ok (.invokevirtual 31, 3) := by decide +kernel
theorem dL_law_291 : decode cL_law 291 = .ok (.aload_n 2, 1) := by decide +kernel
theorem dL_law_292 : decode cL_law 292 = .ok (.aload_n 0, 1) := by decide +kernel
theorem dL_law_293 : decode cL_law 293 = .ok (.iload_n 3, 1) := by decide +kernel
theorem dL_law_294 : decode cL_law 294 = .ok (.iconst 1, 1) := by decide +kernel
theorem dL_law_295 : decode cL_law 295 = .ok (.iadd, 1) := by decide +kernel
theorem dL_law_296 : decode cL_law 296 = .ok (.iaload, 1) := by decide +kernel
theorem dL_law_297 : decode cL_law 297 = .ok (.aload_n 0, 1) := by decide +kernel
theorem dL_law_298 : decode cL_law 298 = .ok (.iload_n 3, 1) := by decide +kernel
theorem dL_law_299 : decode cL_law 299 = .ok (.iconst 2, 1) := by decide +kernel
theorem dL_law_300 : decode cL_law 300 = .ok (.iadd, 1) := by decide +kernel
theorem dL_law_301 : decode cL_law 301 = .ok (.iaload, 1) := by decide +kernel
theorem dL_law_302 : decode cL_law 302 = .ok (.aload_n 0, 1) := by decide +kernel
theorem dL_law_303 : decode cL_law 303 = .ok (.iload_n 3, 1) := by decide +kernel
theorem dL_law_304 : decode cL_law 304 = .ok (.iconst 3, 1) := by decide +kernel
theorem dL_law_305 : decode cL_law 305 = .ok (.iadd, 1) := by decide +kernel
theorem dL_law_306 : decode cL_law 306 = .ok (.iaload, 1) := by decide +kernel
theorem dL_law_307 : decode cL_law 307 = .ok (.aload_n 0, 1) := by decide +kernel
theorem dL_law_308 : decode cL_law 308 = .ok (.iload_n 3, 1) := by decide +kernel
theorem dL_law_309 : decode cL_law 309 = .ok (.iconst 4, 1) := by decide +kernel
theorem dL_law_310 : decode cL_law 310 = .ok (.iadd, 1) := by decide +kernel
theorem dL_law_311 : decode cL_law 311 = .ok (.iaload, 1) := by decide +kernel
theorem dL_law_312 : decode cL_law 312 = .ok (.aload_n 0, 1) := by decide +kernel
theorem dL_law_313 : decode cL_law 313 = .ok (.iload_n 3, 1) := by decide +kernel
theorem dL_law_314 : decode cL_law 314 = .ok (.iconst 5, 1) := by decide +kernel
theorem dL_law_315 : decode cL_law 315 = .ok (.iadd, 1) := by decide +kernel
theorem dL_law_316 : decode cL_law 316 = .ok (.iaload, 1) := by decide +kernel
theorem dL_law_317 : decode cL_law 317 = .ok (.invokevirtual 35, 3) := by decide +kernel
theorem dL_law_320 : decode cL_law 320 = .ok (.if_icmp .eq 570, 3) := by decide +kernel
theorem dL_law_323 : decode cL_law 323 = .ok (.iconst 0, 1) := by decide +kernel
theorem dL_law_324 : decode cL_law 324 = .ok (.ireturn, 1) := by decide +kernel
theorem dL_law_325 : decode cL_law 325 = .ok (.aload_n 1, 1) := by decide +kernel
theorem dL_law_326 : decode cL_law 326 = .ok (.aload_n 0, 1) := by decide +kernel
theorem dL_law_327 : decode cL_law 327 = .ok (.iload_n 3, 1) := by decide +kernel
theorem dL_law_328 : decode cL_law 328 = .ok (.iconst 1, 1) := by decide +kernel
theorem dL_law_329 : decode cL_law 329 = .ok (.iadd, 1) := by decide +kernel
theorem dL_law_330 : decode cL_law 330 = .ok (.iaload, 1) := by decide +kernel
theorem dL_law_331 : decode cL_law 331 = .ok (.invokevirtual 36, 3) := by decide +kernel
theorem dL_law_334 : decode cL_law 334 = .ok (.aload_n 2, 1) := by decide +kernel
theorem dL_law_335 : decode cL_law 335 = .ok (.aload_n 0, 1) := by decide +kernel
theorem dL_law_336 : decode cL_law 336 = .ok (.iload_n 3, 1) := by decide +kernel
theorem dL_law_337 : decode cL_law 337 = .ok (.iconst 1, 1) := by decide +kernel
theorem dL_law_338 : decode cL_law 338 = .ok (.iadd, 1) := by decide +kernel
theorem dL_law_339 : decode cL_law 339 = .ok (.iaload, 1) := by decide +kernel
theorem dL_law_340 : decode cL_law 340 = .ok (.invokevirtual 39, 3) := by decide +kernel
theorem dL_law_343 : decode cL_law 343 = .ok (.if_icmp .eq 547, 3) := by decide +kernel
theorem dL_law_346 : decode cL_law 346 = .ok (.iconst 0, 1) := by decide +kernel
theorem dL_law_347 : decode cL_law 347 = .ok (.ireturn, 1) := by decide +kernel
theorem dL_law_348 : decode cL_law 348 = .ok (.aload_n 1, 1) := by decide +kernel
theorem dL_law_349 : decode cL_law 349 = .ok (.aload_n 0, 1) := by decide +kernel
theorem dL_law_350 : decode cL_law 350 = .ok (.iload_n 3, 1) := by decide +kernel
theorem dL_law_351 : decode cL_law 351 = .ok (.iconst 1, 1) := by decide +kernel
theorem dL_law_352 : decode cL_law 352 = .ok (.iadd, 1) := by decide +kernel
theorem dL_law_353 : decode cL_law 353 = .ok (.iaload, 1) := by decide +kernel
theorem dL_law_354 : decode cL_law 354 = .ok (.aload_n 0, 1) := by decide +kernel
theorem dL_law_355 : decode cL_law 355 = .ok (.iload_n 3, 1) := by decide +kernel
theorem dL_law_356 : decode cL_law 356 = .ok (.iconst 2, 1) := by decide +kernel
theorem dL_law_357 : decode cL_law 357 = .ok (.iadd, 1) := by decide +kernel
theorem dL_law_358 : decode cL_law 358 = .ok (.iaload, 1) := by decide +kernel
theorem dL_law_359 : decode cL_law 359 = .ok (.invokevirtual 40, 3) := by decide +kernel
theorem dL_law_362 : decode cL_law 362 = .ok (.aload_n 2, 1) := by decide +kernel
theorem dL_law_363 : decode cL_law 363 = .ok (.aload_n 0, 1) := by decide +kernel
theorem dL_law_364 : decode cL_law 364 = .ok (.iload_n 3, 1) := by decide +kernel
theorem dL_law_365 : decode cL_law 365 = .ok (.iconst 1, 1) := by decide +kernel
theorem dL_law_366 : decode cL_law 366 = .ok (.iadd, 1) := by decide +kernel
theorem dL_law_367 : decode cL_law 367 = .ok (.iaload, 1) := by decide +kernel
theorem dL_law_368 : decode cL_law 368 = .ok (.aload_n 0, 1) := by decide +kernel
theorem dL_law_369 : decode cL_law 369 = .ok (.iload_n 3, 1) := by decide +kernel
theorem dL_law_370 : decode cL_law 370 = .ok (.iconst 2, 1) := by decide +kernel
theorem dL_law_371 : decode cL_law 371 = .ok (.iadd, 1) := by decide +kernel
theorem dL_law_372 : decode cL_law 372 = .ok (.iaload, 1) := by decide +kernel
theorem dL_law_373 : decode cL_law 373 = .ok (.invokevirtual 43, 3) := by decide +kernel
theorem dL_law_376 : decode cL_law 376 = .ok (.if_icmp .eq 514, 3) := by decide +kernel
theorem dL_law_379 : decode cL_law 379 = .ok (.iconst 0, 1) := by decide +kernel
theorem dL_law_380 : decode cL_law 380 = .ok (.ireturn, 1) := by decide +kernel
theorem dL_law_381 : decode cL_law 381 = .ok (.aload_n 1, 1) := by decide +kernel
theorem dL_law_382 : decode cL_law 382 = .ok (.aload_n 0, 1) := by decide +kernel
theorem dL_law_383 : decode cL_law 383 = .ok (.iload_n 3, 1) := by decide +kernel
theorem dL_law_384 : decode cL_law 384 = .ok (.iconst 1, 1) := by decide +kernel
theorem dL_law_385 : decode cL_law 385 = .ok (.iadd, 1) := by decide +kernel
theorem dL_law_386 : decode cL_law 386 = .ok (.iaload, 1) := by decide +kernel
theorem dL_law_387 : decode cL_law 387 = .ok (.aload_n 0, 1) := by decide +kernel
theorem dL_law_388 : decode cL_law 388 = .ok (.iload_n 3, 1) := by decide +kernel
theorem dL_law_389 : decode cL_law 389 = .ok (.iconst 2, 1) := by decide +kernel
theorem dL_law_390 : decode cL_law 390 = .ok (.iadd, 1) := by decide +kernel
theorem dL_law_391 : decode cL_law 391 = .ok (.iaload, 1) := by decide +kernel
theorem dL_law_392 : decode cL_law 392 = .ok (.aload_n 0, 1) := by decide +kernel
theorem dL_law_393 : decode cL_law 393 = .ok (.iload_n 3, 1) := by decide +kernel
theorem dL_law_394 : decode cL_law 394 = .ok (.iconst 3, 1) := by decide +kernel
theorem dL_law_395 : decode cL_law 395 = .ok (.iadd, 1) := by decide +kernel
theorem dL_law_396 : decode cL_law 396 = .ok (.iaload, 1) := by decide +kernel
theorem dL_law_397 : decode cL_law 397 = .ok (.aload_n 0, 1) := by decide +kernel
theorem dL_law_398 : decode cL_law 398 = .ok (.iload_n 3, 1) := by decide +kernel
theorem dL_law_399 : decode cL_law 399 = .ok (.iconst 4, 1) := by decide +kernel
theorem dL_law_400 : decode cL_law 400 = .ok (.iadd, 1) := by decide +kernel
theorem dL_law_401 : decode cL_law 401 = .ok (.iaload, 1) := by decide +kernel
theorem dL_law_402 : decode cL_law 402 = .ok (.invokevirtual 44, 3) := by decide +kernel
theorem dL_law_405 : decode cL_law 405 = .ok (.aload_n 2, 1) := by decide +kernel
theorem dL_law_406 : decode cL_law 406 = .ok (.aload_n 0, 1) := by decide +kernel
theorem dL_law_407 : decode cL_law 407 = .ok (.iload_n 3, 1) := by decide +kernel
theorem dL_law_408 : decode cL_law 408 = .ok (.iconst 1, 1) := by decide +kernel
theorem dL_law_409 : decode cL_law 409 = .ok (.iadd, 1) := by decide +kernel
theorem dL_law_410 : decode cL_law 410 = .ok (.iaload, 1) := by decide +kernel
theorem dL_law_411 : decode cL_law 411 = .ok (.aload_n 0, 1) := by decide +kernel
theorem dL_law_412 : decode cL_law 412 = .ok (.iload_n 3, 1) := by decide +kernel
theorem dL_law_413 : decode cL_law 413 = .ok (.iconst 2, 1) := by decide +kernel
theorem dL_law_414 : decode cL_law 414 = .ok (.iadd, 1) := by decide +kernel
theorem dL_law_415 : decode cL_law 415 = .ok (.iaload, 1) := by decide +kernel
theorem dL_law_416 : decode cL_law 416 = .ok (.aload_n 0, 1) := by decide +kernel
theorem dL_law_417 : decode cL_law 417 = .ok (.iload_n 3, 1) := by decide +kernel
theorem dL_law_418 : decode cL_law 418 = .ok (.iconst 3, 1) := by decide +kernel
theorem dL_law_419 : decode cL_law 419 = .ok (.iadd, 1) := by decide +kernel
theorem dL_law_420 : decode cL_law 420 = .ok (.iaload, 1) := by decide +kernel
theorem dL_law_421 : decode cL_law 421 = .ok (.aload_n 0, 1) := by decide +kernel
theorem dL_law_422 : decode cL_law 422 = .ok (.iload_n 3, 1) := by decide +kernel
theorem dL_law_423 : decode cL_law 423 = .ok (.iconst 4, 1) := by decide +kernel
theorem dL_law_424 : decode cL_law 424 = .ok (.iadd, 1) := by decide +kernel
theorem dL_law_425 : decode cL_law 425 = .ok (.iaload, 1) := by decide +kernel
theorem dL_law_426 : decode cL_law 426 = .ok (.invokevirtual 48, 3) := by decide +kernel
theorem dL_law_429 : decode cL_law 429 = .ok (.if_icmp .eq 461, 3) := by decide +kernel
theorem dL_law_432 : decode cL_law 432 = .ok (.iconst 0, 1) := by decide +kernel
theorem dL_law_433 : decode cL_law 433 = .ok (.ireturn, 1) := by decide +kernel
theorem dL_law_434 : decode cL_law 434 = .ok (.aload_n 1, 1) := by decide +kernel
theorem dL_law_435 : decode cL_law 435 = .ok (.aload_n 0, 1) := by decide +kernel
theorem dL_law_436 : decode cL_law 436 = .ok (.iload_n 3, 1) := by decide +kernel
theorem dL_law_437 : decode cL_law 437 = .ok (.iconst 1, 1) := by decide +kernel
theorem dL_law_438 : decode cL_law 438 = .ok (.iadd, 1) := by decide +kernel
theorem dL_law_439 : decode cL_law 439 = .ok (.iaload, 1) := by decide +kernel
theorem dL_law_440 : decode cL_law 440 = .ok (.aload_n 0, 1) := by decide +kernel
theorem dL_law_441 : decode cL_law 441 = .ok (.iload_n 3, 1) := by decide +kernel
theorem dL_law_442 : decode cL_law 442 = .ok (.iconst 2, 1) := by decide +kernel
theorem dL_law_443 : decode cL_law 443 = .ok (.iadd, 1) := by decide +kernel
theorem dL_law_444 : decode cL_law 444 = .ok (.iaload, 1) := by decide +kernel
theorem dL_law_445 : decode cL_law 445 = .ok (.invokevirtual 49, 3) := by decide +kernel
theorem dL_law_448 : decode cL_law 448 = .ok (.aload_n 2, 1) := by decide +kernel
theorem dL_law_449 : decode cL_law 449 = .ok (.aload_n 0, 1) := by decide +kernel
theorem dL_law_450 : decode cL_law 450 = .ok (.iload_n 3, 1) := by decide +kernel
theorem dL_law_451 : decode cL_law 451 = .ok (.iconst 1, 1) := by decide +kernel
theorem dL_law_452 : decode cL_law 452 = .ok (.iadd, 1) := by decide +kernel
theorem dL_law_453 : decode cL_law 453 = .ok (.iaload, 1) := by decide +kernel
theorem dL_law_454 : decode cL_law 454 = .ok (.aload_n 0, 1) := by decide +kernel
theorem dL_law_455 : decode cL_law 455 = .ok (.iload_n 3, 1) := by decide +kernel
theorem dL_law_456 : decode cL_law 456 = .ok (.iconst 2, 1) := by decide +kernel
theorem dL_law_457 : decode cL_law 457 = .ok (.iadd, 1) := by decide +kernel
theorem dL_law_458 : decode cL_law 458 = .ok (.iaload, 1) := by decide +kernel
theorem dL_law_459 : decode cL_law 459 = .ok (.invokevirtual 53, 3) := by decide +kernel
theorem dL_law_462 : decode cL_law 462 = .ok (.lcmp, 1) := by decide +kernel
theorem dL_law_463 : decode cL_law 463 = .ok (.ifCond .eq 427, 3) := by decide +kernel
theorem dL_law_466 : decode cL_law 466 = .ok (.iconst 0, 1) := by decide +kernel
theorem dL_law_467 : decode cL_law 467 = .ok (.ireturn, 1) := by decide +kernel
theorem dL_law_468 : decode cL_law 468 = .ok (.aload_n 1, 1) := by decide +kernel
theorem dL_law_469 : decode cL_law 469 = .ok (.aload_n 0, 1) := by decide +kernel
theorem dL_law_470 : decode cL_law 470 = .ok (.iload_n 3, 1) := by decide +kernel
theorem dL_law_471 : decode cL_law 471 = .ok (.iconst 1, 1) := by decide +kernel
theorem dL_law_472 : decode cL_law 472 = .ok (.iadd, 1) := by decide +kernel
theorem dL_law_473 : decode cL_law 473 = .ok (.iaload, 1) := by decide +kernel
theorem dL_law_474 : decode cL_law 474 = .ok (.invokevirtual 54, 3) := by decide +kernel
theorem dL_law_477 : decode cL_law 477 = .ok (.aload_n 2, 1) := by decide +kernel
theorem dL_law_478 : decode cL_law 478 = .ok (.aload_n 0, 1) := by decide +kernel
theorem dL_law_479 : decode cL_law 479 = .ok (.iload_n 3, 1) := by decide +kernel
theorem dL_law_480 : decode cL_law 480 = .ok (.iconst 1, 1) := by decide +kernel
theorem dL_law_481 : decode cL_law 481 = .ok (.iadd, 1) := by decide +kernel
theorem dL_law_482 : decode cL_law 482 = .ok (.iaload, 1) := by decide +kernel
theorem dL_law_483 : decode cL_law 483 = .ok (.invokevirtual 57, 3) := by decide +kernel
theorem dL_law_486 : decode cL_law 486 = .ok (.if_icmp .eq 404, 3) := by decide +kernel
theorem dL_law_489 : decode cL_law 489 = .ok (.iconst 0, 1) := by decide +kernel
theorem dL_law_490 : decode cL_law 490 = .ok (.ireturn, 1) := by decide +kernel
theorem dL_law_491 : decode cL_law 491 = .ok (.aload_n 1, 1) := by decide +kernel
theorem dL_law_492 : decode cL_law 492 = .ok (.aload_n 0, 1) := by decide +kernel
theorem dL_law_493 : decode cL_law 493 = .ok (.iload_n 3, 1) := by decide +kernel
theorem dL_law_494 : decode cL_law 494 = .ok (.iconst 1, 1) := by decide +kernel
theorem dL_law_495 : decode cL_law 495 = .ok (.iadd, 1) := by decide +kernel
theorem dL_law_496 : decode cL_law 496 = .ok (.iaload, 1) := by decide +kernel
theorem dL_law_497 : decode cL_law 497 = .ok (.aload_n 0, 1) := by decide +kernel
theorem dL_law_498 : decode cL_law 498 = .ok (.iload_n 3, 1) := by decide +kernel
theorem dL_law_499 : decode cL_law 499 = .ok (.iconst 2, 1) := by decide +kernel
theorem dL_law_500 : decode cL_law 500 = .ok (.iadd, 1) := by decide +kernel
theorem dL_law_501 : decode cL_law 501 = .ok (.iaload, 1) := by decide +kernel
theorem dL_law_502 : decode cL_law 502 = .ok (.invokevirtual 58, 3) := by decide +kernel
theorem dL_law_505 : decode cL_law 505 = .ok (.aload_n 2, 1) := by decide +kernel
theorem dL_law_506 : decode cL_law 506 = .ok (.aload_n 0, 1) := by decide +kernel
theorem dL_law_507 : decode cL_law 507 = .ok (.iload_n 3, 1) := by decide +kernel
theorem dL_law_508 : decode cL_law 508 = .ok (.iconst 1, 1) := by decide +kernel
theorem dL_law_509 : decode cL_law 509 = .ok (.iadd, 1) := by decide +kernel
theorem dL_law_510 : decode cL_law 510 = .ok (.iaload, 1) := by decide +kernel
theorem dL_law_511 : decode cL_law 511 = .ok (.aload_n 0, 1) := by decide +kernel
theorem dL_law_512 : decode cL_law 512 = .ok (.iload_n 3, 1) := by decide +kernel
theorem dL_law_513 : decode cL_law 513 = .ok (.iconst 2, 1) := by decide +kernel
theorem dL_law_514 : decode cL_law 514 = .ok (.iadd, 1) := by decide +kernel
theorem dL_law_515 : decode cL_law 515 = .ok (.iaload, 1) := by decide +kernel
theorem dL_law_516 : decode cL_law 516 = .ok (.invokevirtual 61, 3) := by decide +kernel
theorem dL_law_519 : decode cL_law 519 = .ok (.if_icmp .eq 371, 3) := by decide +kernel
theorem dL_law_522 : decode cL_law 522 = .ok (.iconst 0, 1) := by decide +kernel
theorem dL_law_523 : decode cL_law 523 = .ok (.ireturn, 1) := by decide +kernel
theorem dL_law_524 : decode cL_law 524 = .ok (.aload_n 1, 1) := by decide +kernel
theorem dL_law_525 : decode cL_law 525 = .ok (.aload_n 0, 1) := by decide +kernel
theorem dL_law_526 : decode cL_law 526 = .ok (.iload_n 3, 1) := by decide +kernel
theorem dL_law_527 : decode cL_law 527 = .ok (.iconst 1, 1) := by decide +kernel
theorem dL_law_528 : decode cL_law 528 = .ok (.iadd, 1) := by decide +kernel
theorem dL_law_529 : decode cL_law 529 = .ok (.iaload, 1) := by decide +kernel
theorem dL_law_530 : decode cL_law 530 = .ok (.aload_n 0, 1) := by decide +kernel
theorem dL_law_531 : decode cL_law 531 = .ok (.iload_n 3, 1) := by decide +kernel
theorem dL_law_532 : decode cL_law 532 = .ok (.iconst 2, 1) := by decide +kernel
theorem dL_law_533 : decode cL_law 533 = .ok (.iadd, 1) := by decide +kernel
theorem dL_law_534 : decode cL_law 534 = .ok (.iaload, 1) := by decide +kernel
theorem dL_law_535 : decode cL_law 535 = .ok (.invokevirtual 62, 3) := by decide +kernel
theorem dL_law_538 : decode cL_law 538 = .ok (.aload_n 2, 1) := by decide +kernel
theorem dL_law_539 : decode cL_law 539 = .ok (.aload_n 0, 1) := by decide +kernel
theorem dL_law_540 : decode cL_law 540 = .ok (.iload_n 3, 1) := by decide +kernel
theorem dL_law_541 : decode cL_law 541 = .ok (.iconst 1, 1) := by decide +kernel
theorem dL_law_542 : decode cL_law 542 = .ok (.iadd, 1) := by decide +kernel
theorem dL_law_543 : decode cL_law 543 = .ok (.iaload, 1) := by decide +kernel
theorem dL_law_544 : decode cL_law 544 = .ok (.aload_n 0, 1) := by decide +kernel
theorem dL_law_545 : decode cL_law 545 = .ok (.iload_n 3, 1) := by decide +kernel
theorem dL_law_546 : decode cL_law 546 = .ok (.iconst 2, 1) := by decide +kernel
theorem dL_law_547 : decode cL_law 547 = .ok (.iadd, 1) := by decide +kernel
theorem dL_law_548 : decode cL_law 548 = .ok (.iaload, 1) := by decide +kernel
theorem dL_law_549 : decode cL_law 549 = .ok (.invokevirtual 65, 3) := by decide +kernel
theorem dL_law_552 : decode cL_law 552 = .ok (.if_icmp .eq 338, 3) := by decide +kernel
theorem dL_law_555 : decode cL_law 555 = .ok (.iconst 0, 1) := by decide +kernel
theorem dL_law_556 : decode cL_law 556 = .ok (.ireturn, 1) := by decide +kernel
theorem dL_law_557 : decode cL_law 557 = .ok (.aload_n 1, 1) := by decide +kernel
theorem dL_law_558 : decode cL_law 558 = .ok (.aload_n 0, 1) := by decide +kernel
theorem dL_law_559 : decode cL_law 559 = .ok (.iload_n 3, 1) := by decide +kernel
theorem dL_law_560 : decode cL_law 560 = .ok (.iconst 1, 1) := by decide +kernel
theorem dL_law_561 : decode cL_law 561 = .ok (.iadd, 1) := by decide +kernel
theorem dL_law_562 : decode cL_law 562 = .ok (.iaload, 1) := by decide +kernel
theorem dL_law_563 : decode cL_law 563 = .ok (.aload_n 0, 1) := by decide +kernel
theorem dL_law_564 : decode cL_law 564 = .ok (.iload_n 3, 1) := by decide +kernel
theorem dL_law_565 : decode cL_law 565 = .ok (.iconst 2, 1) := by decide +kernel
theorem dL_law_566 : decode cL_law 566 = .ok (.iadd, 1) := by decide +kernel
theorem dL_law_567 : decode cL_law 567 = .ok (.iaload, 1) := by decide +kernel
theorem dL_law_568 : decode cL_law 568 = .ok (.aload_n 0, 1) := by decide +kernel
theorem dL_law_569 : decode cL_law 569 = .ok (.iload_n 3, 1) := by decide +kernel
theorem dL_law_570 : decode cL_law 570 = .ok (.iconst 3, 1) := by decide +kernel
theorem dL_law_571 : decode cL_law 571 = .ok (.iadd, 1) := by decide +kernel
theorem dL_law_572 : decode cL_law 572 = .ok (.iaload, 1) := by decide +kernel
theorem dL_law_573 : decode cL_law 573 = .ok (.invokevirtual 66, 3) := by decide +kernel
theorem dL_law_576 : decode cL_law 576 = .ok (.aload_n 2, 1) := by decide +kernel
theorem dL_law_577 : decode cL_law 577 = .ok (.aload_n 0, 1) := by decide +kernel
theorem dL_law_578 : decode cL_law 578 = .ok (.iload_n 3, 1) := by decide +kernel
theorem dL_law_579 : decode cL_law 579 = .ok (.iconst 1, 1) := by decide +kernel
theorem dL_law_580 : decode cL_law 580 = .ok (.iadd, 1) := by decide +kernel
theorem dL_law_581 : decode cL_law 581 = .ok (.iaload, 1) := by decide +kernel
theorem dL_law_582 : decode cL_law 582 = .ok (.aload_n 0, 1) := by decide +kernel
theorem dL_law_583 : decode cL_law 583 = .ok (.iload_n 3, 1) := by decide +kernel
theorem dL_law_584 : decode cL_law 584 = .ok (.iconst 2, 1) := by decide +kernel
theorem dL_law_585 : decode cL_law 585 = .ok (.iadd, 1) := by decide +kernel
theorem dL_law_586 : decode cL_law 586 = .ok (.iaload, 1) := by decide +kernel
theorem dL_law_587 : decode cL_law 587 = .ok (.aload_n 0, 1) := by decide +kernel
theorem dL_law_588 : decode cL_law 588 = .ok (.iload_n 3, 1) := by decide +kernel
theorem dL_law_589 : decode cL_law 589 = .ok (.iconst 3, 1) := by decide +kernel
theorem dL_law_590 : decode cL_law 590 = .ok (.iadd, 1) := by decide +kernel
theorem dL_law_591 : decode cL_law 591 = .ok (.iaload, 1) := by decide +kernel
theorem dL_law_592 : decode cL_law 592 = .ok (.invokevirtual 70, 3) := by decide +kernel
theorem dL_law_595 : decode cL_law 595 = .ok (.if_icmp .eq 295, 3) := by decide +kernel
theorem dL_law_598 : decode cL_law 598 = .ok (.iconst 0, 1) := by decide +kernel
theorem dL_law_599 : decode cL_law 599 = .ok (.ireturn, 1) := by decide +kernel
theorem dL_law_600 : decode cL_law 600 = .ok (.aload_n 1, 1) := by decide +kernel
theorem dL_law_601 : decode cL_law 601 = .ok (.aload_n 0, 1) := by decide +kernel
theorem dL_law_602 : decode cL_law 602 = .ok (.iload_n 3, 1) := by decide +kernel
theorem dL_law_603 : decode cL_law 603 = .ok (.iconst 1, 1) := by decide +kernel
theorem dL_law_604 : decode cL_law 604 = .ok (.iadd, 1) := by decide +kernel
theorem dL_law_605 : decode cL_law 605 = .ok (.iaload, 1) := by decide +kernel
theorem dL_law_606 : decode cL_law 606 = .ok (.aload_n 0, 1) := by decide +kernel
theorem dL_law_607 : decode cL_law 607 = .ok (.iload_n 3, 1) := by decide +kernel
theorem dL_law_608 : decode cL_law 608 = .ok (.iconst 2, 1) := by decide +kernel
theorem dL_law_609 : decode cL_law 609 = .ok (.iadd, 1) := by decide +kernel
theorem dL_law_610 : decode cL_law 610 = .ok (.iaload, 1) := by decide +kernel
theorem dL_law_611 : decode cL_law 611 = .ok (.invokevirtual 71, 3) := by decide +kernel
theorem dL_law_614 : decode cL_law 614 = .ok (.aload_n 2, 1) := by decide +kernel
theorem dL_law_615 : decode cL_law 615 = .ok (.aload_n 0, 1) := by decide +kernel
theorem dL_law_616 : decode cL_law 616 = .ok (.iload_n 3, 1) := by decide +kernel
theorem dL_law_617 : decode cL_law 617 = .ok (.iconst 1, 1) := by decide +kernel
theorem dL_law_618 : decode cL_law 618 = .ok (.iadd, 1) := by decide +kernel
theorem dL_law_619 : decode cL_law 619 = .ok (.iaload, 1) := by decide +kernel
theorem dL_law_620 : decode cL_law 620 = .ok (.aload_n 0, 1) := by decide +kernel
theorem dL_law_621 : decode cL_law 621 = .ok (.iload_n 3, 1) := by decide +kernel
theorem dL_law_622 : decode cL_law 622 = .ok (.iconst 2, 1) := by decide +kernel
theorem dL_law_623 : decode cL_law 623 = .ok (.iadd, 1) := by decide +kernel
theorem dL_law_624 : decode cL_law 624 = .ok (.iaload, 1) := by decide +kernel
theorem dL_law_625 : decode cL_law 625 = .ok (.invokevirtual 74, 3) := by decide +kernel
theorem dL_law_628 : decode cL_law 628 = .ok (.if_icmp .eq 262, 3) := by decide +kernel
theorem dL_law_631 : decode cL_law 631 = .ok (.iconst 0, 1) := by decide +kernel
theorem dL_law_632 : decode cL_law 632 = .ok (.ireturn, 1) := by decide +kernel
theorem dL_law_633 : decode cL_law 633 = .ok (.aload_n 1, 1) := by decide +kernel
theorem dL_law_634 : decode cL_law 634 = .ok (.aload_n 0, 1) := by decide +kernel
theorem dL_law_635 : decode cL_law 635 = .ok (.iload_n 3, 1) := by decide +kernel
theorem dL_law_636 : decode cL_law 636 = .ok (.iconst 1, 1) := by decide +kernel
theorem dL_law_637 : decode cL_law 637 = .ok (.iadd, 1) := by decide +kernel
theorem dL_law_638 : decode cL_law 638 = .ok (.iaload, 1) := by decide +kernel
theorem dL_law_639 : decode cL_law 639 = .ok (.aload_n 0, 1) := by decide +kernel
theorem dL_law_640 : decode cL_law 640 = .ok (.iload_n 3, 1) := by decide +kernel
theorem dL_law_641 : decode cL_law 641 = .ok (.iconst 2, 1) := by decide +kernel
theorem dL_law_642 : decode cL_law 642 = .ok (.iadd, 1) := by decide +kernel
theorem dL_law_643 : decode cL_law 643 = .ok (.iaload, 1) := by decide +kernel
theorem dL_law_644 : decode cL_law 644 = .ok (.aload_n 0, 1) := by decide +kernel
theorem dL_law_645 : decode cL_law 645 = .ok (.iload_n 3, 1) := by decide +kernel
theorem dL_law_646 : decode cL_law 646 = .ok (.iconst 3, 1) := by decide +kernel
theorem dL_law_647 : decode cL_law 647 = .ok (.iadd, 1) := by decide +kernel
theorem dL_law_648 : decode cL_law 648 = .ok (.iaload, 1) := by decide +kernel
theorem dL_law_649 : decode cL_law 649 = .ok (.aload_n 0, 1) := by decide +kernel
theorem dL_law_650 : decode cL_law 650 = .ok (.iload_n 3, 1) := by decide +kernel
theorem dL_law_651 : decode cL_law 651 = .ok (.iconst 4, 1) := by decide +kernel
theorem dL_law_652 : decode cL_law 652 = .ok (.iadd, 1) := by decide +kernel
theorem dL_law_653 : decode cL_law 653 = .ok (.iaload, 1) := by decide +kernel
theorem dL_law_654 : decode cL_law 654 = .ok (.invokevirtual 75, 3) := by decide +kernel
theorem dL_law_657 : decode cL_law 657 = .ok (.aload_n 2, 1) := by decide +kernel
theorem dL_law_658 : decode cL_law 658 = .ok (.aload_n 0, 1) := by decide +kernel
theorem dL_law_659 : decode cL_law 659 = .ok (.iload_n 3, 1) := by decide +kernel
theorem dL_law_660 : decode cL_law 660 = .ok (.iconst 1, 1) := by decide +kernel
theorem dL_law_661 : decode cL_law 661 = .ok (.iadd, 1) := by decide +kernel
theorem dL_law_662 : decode cL_law 662 = .ok (.iaload, 1) := by decide +kernel
theorem dL_law_663 : decode cL_law 663 = .ok (.aload_n 0, 1) := by decide +kernel
theorem dL_law_664 : decode cL_law 664 = .ok (.iload_n 3, 1) := by decide +kernel
theorem dL_law_665 : decode cL_law 665 = .ok (.iconst 2, 1) := by decide +kernel
theorem dL_law_666 : decode cL_law 666 = .ok (.iadd, 1) := by decide +kernel
theorem dL_law_667 : decode cL_law 667 = .ok (.iaload, 1) := by decide +kernel
theorem dL_law_668 : decode cL_law 668 = .ok (.aload_n 0, 1) := by decide +kernel
theorem dL_law_669 : decode cL_law 669 = .ok (.iload_n 3, 1) := by decide +kernel
theorem dL_law_670 : decode cL_law 670 = .ok (.iconst 3, 1) := by decide +kernel
theorem dL_law_671 : decode cL_law 671 = .ok (.iadd, 1) := by decide +kernel
theorem dL_law_672 : decode cL_law 672 = .ok (.iaload, 1) := by decide +kernel
theorem dL_law_673 : decode cL_law 673 = .ok (.aload_n 0, 1) := by decide +kernel
theorem dL_law_674 : decode cL_law 674 = .ok (.iload_n 3, 1) := by decide +kernel
theorem dL_law_675 : decode cL_law 675 = .ok (.iconst 4, 1) := by decide +kernel
theorem dL_law_676 : decode cL_law 676 = .ok (.iadd, 1) := by decide +kernel
theorem dL_law_677 : decode cL_law 677 = .ok (.iaload, 1) := by decide +kernel
theorem dL_law_678 : decode cL_law 678 = .ok (.invokevirtual 78, 3) := by decide +kernel
theorem dL_law_681 : decode cL_law 681 = .ok (.if_icmp .eq 209, 3) := by decide +kernel
theorem dL_law_684 : decode cL_law 684 = .ok (.iconst 0, 1) := by decide +kernel
theorem dL_law_685 : decode cL_law 685 = .ok (.ireturn, 1) := by decide +kernel
theorem dL_law_686 : decode cL_law 686 = .ok (.aload_n 1, 1) := by decide +kernel
theorem dL_law_687 : decode cL_law 687 = .ok (.aload_n 0, 1) := by decide +kernel
theorem dL_law_688 : decode cL_law 688 = .ok (.iload_n 3, 1) := by decide +kernel
theorem dL_law_689 : decode cL_law 689 = .ok (.iconst 1, 1) := by decide +kernel
theorem dL_law_690 : decode cL_law 690 = .ok (.iadd, 1) := by decide +kernel
theorem dL_law_691 : decode cL_law 691 = .ok (.iaload, 1) := by decide +kernel
theorem dL_law_692 : decode cL_law 692 = .ok (.aload_n 0, 1) := by decide +kernel
theorem dL_law_693 : decode cL_law 693 = .ok (.iload_n 3, 1) := by decide +kernel
theorem dL_law_694 : decode cL_law 694 = .ok (.iconst 2, 1) := by decide +kernel
theorem dL_law_695 : decode cL_law 695 = .ok (.iadd, 1) := by decide +kernel
theorem dL_law_696 : decode cL_law 696 = .ok (.iaload, 1) := by decide +kernel
theorem dL_law_697 : decode cL_law 697 = .ok (.aload_n 0, 1) := by decide +kernel
theorem dL_law_698 : decode cL_law 698 = .ok (.iload_n 3, 1) := by decide +kernel
theorem dL_law_699 : decode cL_law 699 = .ok (.iconst 3, 1) := by decide +kernel
theorem dL_law_700 : decode cL_law 700 = .ok (.iadd, 1) := by decide +kernel
theorem dL_law_701 : decode cL_law 701 = .ok (.iaload, 1) := by decide +kernel
theorem dL_law_702 : decode cL_law 702 = .ok (.aload_n 0, 1) := by decide +kernel
theorem dL_law_703 : decode cL_law 703 = .ok (.iload_n 3, 1) := by decide +kernel
theorem dL_law_704 : decode cL_law 704 = .ok (.iconst 4, 1) := by decide +kernel
theorem dL_law_705 : decode cL_law 705 = .ok (.iadd, 1) := by decide +kernel
theorem dL_law_706 : decode cL_law 706 = .ok (.iaload, 1) := by decide +kernel
theorem dL_law_707 : decode cL_law 707 = .ok (.invokevirtual 79, 3) := by decide +kernel
theorem dL_law_710 : decode cL_law 710 = .ok (.aload_n 2, 1) := by decide +kernel
theorem dL_law_711 : decode cL_law 711 = .ok (.aload_n 0, 1) := by decide +kernel
theorem dL_law_712 : decode cL_law 712 = .ok (.iload_n 3, 1) := by decide +kernel
theorem dL_law_713 : decode cL_law 713 = .ok (.iconst 1, 1) := by decide +kernel
theorem dL_law_714 : decode cL_law 714 = .ok (.iadd, 1) := by decide +kernel
theorem dL_law_715 : decode cL_law 715 = .ok (.iaload, 1) := by decide +kernel
theorem dL_law_716 : decode cL_law 716 = .ok (.aload_n 0, 1) := by decide +kernel
theorem dL_law_717 : decode cL_law 717 = .ok (.iload_n 3, 1) := by decide +kernel
theorem dL_law_718 : decode cL_law 718 = .ok (.iconst 2, 1) := by decide +kernel
theorem dL_law_719 : decode cL_law 719 = .ok (.iadd, 1) := by decide +kernel
theorem dL_law_720 : decode cL_law 720 = .ok (.iaload, 1) := by decide +kernel
theorem dL_law_721 : decode cL_law 721 = .ok (.aload_n 0, 1) := by decide +kernel
theorem dL_law_722 : decode cL_law 722 = .ok (.iload_n 3, 1) := by decide +kernel
theorem dL_law_723 : decode cL_law 723 = .ok (.iconst 3, 1) := by decide +kernel
theorem dL_law_724 : decode cL_law 724 = .ok (.iadd, 1) := by decide +kernel
theorem dL_law_725 : decode cL_law 725 = .ok (.iaload, 1) := by decide +kernel
theorem dL_law_726 : decode cL_law 726 = .ok (.aload_n 0, 1) := by decide +kernel
theorem dL_law_727 : decode cL_law 727 = .ok (.iload_n 3, 1) := by decide +kernel
theorem dL_law_728 : decode cL_law 728 = .ok (.iconst 4, 1) := by decide +kernel
theorem dL_law_729 : decode cL_law 729 = .ok (.iadd, 1) := by decide +kernel
theorem dL_law_730 : decode cL_law 730 = .ok (.iaload, 1) := by decide +kernel
theorem dL_law_731 : decode cL_law 731 = .ok (.invokevirtual 82, 3) := by decide +kernel
theorem dL_law_734 : decode cL_law 734 = .ok (.if_icmp .eq 156, 3) := by decide +kernel
theorem dL_law_737 : decode cL_law 737 = .ok (.iconst 0, 1) := by decide +kernel
theorem dL_law_738 : decode cL_law 738 = .ok (.ireturn, 1) := by decide +kernel
theorem dL_law_739 : decode cL_law 739 = .ok (.aload_n 1, 1) := by decide +kernel
theorem dL_law_740 : decode cL_law 740 = .ok (.aload_n 0, 1) := by decide +kernel
theorem dL_law_741 : decode cL_law 741 = .ok (.iload_n 3, 1) := by decide +kernel
theorem dL_law_742 : decode cL_law 742 = .ok (.iconst 1, 1) := by decide +kernel
theorem dL_law_743 : decode cL_law 743 = .ok (.iadd, 1) := by decide +kernel
theorem dL_law_744 : decode cL_law 744 = .ok (.iaload, 1) := by decide +kernel
theorem dL_law_745 : decode cL_law 745 = .ok (.aload_n 0, 1) := by decide +kernel
theorem dL_law_746 : decode cL_law 746 = .ok (.iload_n 3, 1) := by decide +kernel
theorem dL_law_747 : decode cL_law 747 = .ok (.iconst 2, 1) := by decide +kernel
theorem dL_law_748 : decode cL_law 748 = .ok (.iadd, 1) := by decide +kernel
theorem dL_law_749 : decode cL_law 749 = .ok (.iaload, 1) := by decide +kernel
theorem dL_law_750 : decode cL_law 750 = .ok (.aload_n 0, 1) := by decide +kernel
theorem dL_law_751 : decode cL_law 751 = .ok (.iload_n 3, 1) := by decide +kernel
theorem dL_law_752 : decode cL_law 752 = .ok (.iconst 3, 1) := by decide +kernel
theorem dL_law_753 : decode cL_law 753 = .ok (.iadd, 1) := by decide +kernel
theorem dL_law_754 : decode cL_law 754 = .ok (.iaload, 1) := by decide +kernel
theorem dL_law_755 : decode cL_law 755 = .ok (.invokevirtual 83, 3) := by decide +kernel
theorem dL_law_758 : decode cL_law 758 = .ok (.aload_n 2, 1) := by decide +kernel
theorem dL_law_759 : decode cL_law 759 = .ok (.aload_n 0, 1) := by decide +kernel
theorem dL_law_760 : decode cL_law 760 = .ok (.iload_n 3, 1) := by decide +kernel
theorem dL_law_761 : decode cL_law 761 = .ok (.iconst 1, 1) := by decide +kernel
theorem dL_law_762 : decode cL_law 762 = .ok (.iadd, 1) := by decide +kernel
theorem dL_law_763 : decode cL_law 763 = .ok (.iaload, 1) := by decide +kernel
theorem dL_law_764 : decode cL_law 764 = .ok (.aload_n 0, 1) := by decide +kernel
theorem dL_law_765 : decode cL_law 765 = .ok (.iload_n 3, 1) := by decide +kernel
theorem dL_law_766 : decode cL_law 766 = .ok (.iconst 2, 1) := by decide +kernel
theorem dL_law_767 : decode cL_law 767 = .ok (.iadd, 1) := by decide +kernel
theorem dL_law_768 : decode cL_law 768 = .ok (.iaload, 1) := by decide +kernel
theorem dL_law_769 : decode cL_law 769 = .ok (.aload_n 0, 1) := by decide +kernel
theorem dL_law_770 : decode cL_law 770 = .ok (.iload_n 3, 1) := by decide +kernel
theorem dL_law_771 : decode cL_law 771 = .ok (.iconst 3, 1) := by decide +kernel
theorem dL_law_772 : decode cL_law 772 = .ok (.iadd, 1) := by decide +kernel
theorem dL_law_773 : decode cL_law 773 = .ok (.iaload, 1) := by decide +kernel
theorem dL_law_774 : decode cL_law 774 = .ok (.invokevirtual 86, 3) := by decide +kernel
theorem dL_law_777 : decode cL_law 777 = .ok (.if_icmp .eq 113, 3) := by decide +kernel
theorem dL_law_780 : decode cL_law 780 = .ok (.iconst 0, 1) := by decide +kernel
theorem dL_law_781 : decode cL_law 781 = .ok (.ireturn, 1) := by decide +kernel
theorem dL_law_782 : decode cL_law 782 = .ok (.aload_n 1, 1) := by decide +kernel
theorem dL_law_783 : decode cL_law 783 = .ok (.aload_n 0, 1) := by decide +kernel
theorem dL_law_784 : decode cL_law 784 = .ok (.iload_n 3, 1) := by decide +kernel
theorem dL_law_785 : decode cL_law 785 = .ok (.iconst 1, 1) := by decide +kernel
theorem dL_law_786 : decode cL_law 786 = .ok (.iadd, 1) := by decide +kernel
theorem dL_law_787 : decode cL_law 787 = .ok (.iaload, 1) := by decide +kernel
theorem dL_law_788 : decode cL_law 788 = .ok (.invokevirtual 87, 3) := by decide +kernel
theorem dL_law_791 : decode cL_law 791 = .ok (.aload_n 2, 1) := by decide +kernel
theorem dL_law_792 : decode cL_law 792 = .ok (.aload_n 0, 1) := by decide +kernel
theorem dL_law_793 : decode cL_law 793 = .ok (.iload_n 3, 1) := by decide +kernel
theorem dL_law_794 : decode cL_law 794 = .ok (.iconst 1, 1) := by decide +kernel
theorem dL_law_795 : decode cL_law 795 = .ok (.iadd, 1) := by decide +kernel
theorem dL_law_796 : decode cL_law 796 = .ok (.iaload, 1) := by decide +kernel
theorem dL_law_797 : decode cL_law 797 = .ok (.invokevirtual 90, 3) := by decide +kernel
theorem dL_law_800 : decode cL_law 800 = .ok (.if_icmp .eq 90, 3) := by decide +kernel
theorem dL_law_803 : decode cL_law 803 = .ok (.iconst 0, 1) := by decide +kernel
theorem dL_law_804 : decode cL_law 804 = .ok (.ireturn, 1) := by decide +kernel
theorem dL_law_805 : decode cL_law 805 = .ok (.aload_n 1, 1) := by decide +kernel
theorem dL_law_806 : decode cL_law 806 = .ok (.invokevirtual 91, 3) := by decide +kernel
theorem dL_law_809 : decode cL_law 809 = .ok (.aload_n 2, 1) := by decide +kernel
theorem dL_law_810 : decode cL_law 810 = .ok (.invokevirtual 95, 3) := by decide +kernel
theorem dL_law_813 : decode cL_law 813 = .ok (.if_icmp .eq 77, 3) := by decide +kernel
theorem dL_law_816 : decode cL_law 816 = .ok (.iconst 0, 1) := by decide +kernel
theorem dL_law_817 : decode cL_law 817 = .ok (.ireturn, 1) := by decide +kernel
theorem dL_law_818 : decode cL_law 818 = .ok (.aload_n 1, 1) := by decide +kernel
theorem dL_law_819 : decode cL_law 819 = .ok (.invokevirtual 96, 3) := by decide +kernel
theorem dL_law_822 : decode cL_law 822 = .ok (.aload_n 2, 1) := by decide +kernel
theorem dL_law_823 : decode cL_law 823 = .ok (.invokevirtual 99, 3) := by decide +kernel
theorem dL_law_826 : decode cL_law 826 = .ok (.if_icmp .eq 64, 3) := by decide +kernel
theorem dL_law_829 : decode cL_law 829 = .ok (.iconst 0, 1) := by decide +kernel
theorem dL_law_830 : decode cL_law 830 = .ok (.ireturn, 1) := by decide +kernel
theorem dL_law_831 : decode cL_law 831 = .ok (.aload_n 1, 1) := by decide +kernel
theorem dL_law_832 : decode cL_law 832 = .ok (.invokevirtual 100, 3) := by decide +kernel
theorem dL_law_835 : decode cL_law 835 = .ok (.aload_n 2, 1) := by decide +kernel
theorem dL_law_836 : decode cL_law 836 = .ok (.invokevirtual 103, 3) := by decide +kernel
theorem dL_law_839 : decode cL_law 839 = .ok (.if_icmp .eq 51, 3) := by decide +kernel
theorem dL_law_842 : decode cL_law 842 = .ok (.iconst 0, 1) := by decide +kernel
theorem dL_law_843 : decode cL_law 843 = .ok (.ireturn, 1) := by decide +kernel
theorem dL_law_844 : decode cL_law 844 = .ok (.aload_n 1, 1) := by decide +kernel
theorem dL_law_845 : decode cL_law 845 = .ok (.aload_n 0, 1) := by decide +kernel
theorem dL_law_846 : decode cL_law 846 = .ok (.iload_n 3, 1) := by decide +kernel
theorem dL_law_847 : decode cL_law 847 = .ok (.iconst 1, 1) := by decide +kernel
theorem dL_law_848 : decode cL_law 848 = .ok (.iadd, 1) := by decide +kernel
theorem dL_law_849 : decode cL_law 849 = .ok (.iaload, 1) := by decide +kernel
theorem dL_law_850 : decode cL_law 850 = .ok (.invokevirtual 104, 3) := by decide +kernel
theorem dL_law_853 : decode cL_law 853 = .ok (.aload_n 2, 1) := by decide +kernel
theorem dL_law_854 : decode cL_law 854 = .ok (.aload_n 0, 1) := by decide +kernel
theorem dL_law_855 : decode cL_law 855 = .ok (.iload_n 3, 1) := by decide +kernel
theorem dL_law_856 : decode cL_law 856 = .ok (.iconst 1, 1) := by decide +kernel
theorem dL_law_857 : decode cL_law 857 = .ok (.iadd, 1) := by decide +kernel
theorem dL_law_858 : decode cL_law 858 = .ok (.iaload, 1) := by decide +kernel
theorem dL_law_859 : decode cL_law 859 = .ok (.invokevirtual 107, 3) := by decide +kernel
theorem dL_law_862 : decode cL_law 862 = .ok (.if_icmp .eq 28, 3) := by decide +kernel
theorem dL_law_865 : decode cL_law 865 = .ok (.iconst 0, 1) := by decide +kernel
theorem dL_law_866 : decode cL_law 866 = .ok (.ireturn, 1) := by decide +kernel
theorem dL_law_867 : decode cL_law 867 = .ok (.aload_n 1, 1) := by decide +kernel
theorem dL_law_868 : decode cL_law 868 = .ok (.aload_n 0, 1) := by decide +kernel
theorem dL_law_869 : decode cL_law 869 = .ok (.iload_n 3, 1) := by decide +kernel
theorem dL_law_870 : decode cL_law 870 = .ok (.iconst 1, 1) := by decide +kernel
theorem dL_law_871 : decode cL_law 871 = .ok (.iadd, 1) := by decide +kernel
theorem dL_law_872 : decode cL_law 872 = .ok (.iaload, 1) := by decide +kernel
theorem dL_law_873 : decode cL_law 873 = .ok (.invokevirtual 108, 3) := by decide +kernel
theorem dL_law_876 : decode cL_law 876 = .ok (.aload_n 2, 1) := by decide +kernel
theorem dL_law_877 : decode cL_law 877 = .ok (.aload_n 0, 1) := by decide +kernel
theorem dL_law_878 : decode cL_law 878 = .ok (.iload_n 3, 1) := by decide +kernel
theorem dL_law_879 : decode cL_law 879 = .ok (.iconst 1, 1) := by decide +kernel
theorem dL_law_880 : decode cL_law 880 = .ok (.iadd, 1) := by decide +kernel
theorem dL_law_881 : decode cL_law 881 = .ok (.iaload, 1) := by decide +kernel
theorem dL_law_882 : decode cL_law 882 = .ok (.invokevirtual 111, 3) := by decide +kernel
theorem dL_law_885 : decode cL_law 885 = .ok (.if_icmp .eq 5, 3) := by decide +kernel
theorem dL_law_888 : decode cL_law 888 = .ok (.iconst 0, 1) := by decide +kernel
theorem dL_law_889 : decode cL_law 889 = .ok (.ireturn, 1) := by decide +kernel
theorem dL_law_890 : decode cL_law 890 = .ok (.iinc 3 6, 3) := by decide +kernel
theorem dL_law_893 : decode cL_law 893 = .ok (.goto (-875), 3) := by decide +kernel
theorem dL_law_896 : decode cL_law 896 = .ok (.iconst 1, 1) := by decide +kernel
theorem dL_law_897 : decode cL_law 897 = .ok (.ireturn, 1) := by decide +kernel
