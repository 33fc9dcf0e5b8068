theorem dX0_init_0 : decode cX0_init 0 = .ok (.aload_n 0, 1) := by decide +kernel
theorem dX0_init_1 : decode cX0_init 1 = .ok (.invokespecial 3, 3) := by decide +kernel
theorem dX0_init_4 : decode cX0_init 4 = .ok (.aload_n 0, 1) := by decide +kernel
theorem dX0_init_5 : decode cX0_init 5 = .ok (.new 9, 3) := by decide +kernel
theorem dX0_init_8 : decode cX0_init 8 = .ok (.dup, 1) := by decide +kernel
theorem dX0_init_9 : decode cX0_init 9 = .ok (.bipush 14, 2) := by decide +kernel
theorem dX0_init_11 : decode cX0_init 11 = .ok (.invokespecial 11, 3) := by decide +kernel
theorem dX0_init_14 : decode cX0_init 14 = .ok (.putfield 14, 3) := by decide +kernel
theorem dX0_init_17 : decode cX0_init 17 = .ok (.return_, 1) := by decide +kernel
theorem dX0_count_0 : decode cX0_count 0 = .ok (.aload_n 0, 1) := by decide +kernel
theorem dX0_count_1 : decode cX0_count 1 = .ok (.getfield 20, 3) := by decide +kernel
theorem dX0_count_4 : decode cX0_count 4 = .ok (.ireturn, 1) := by decide +kernel
theorem dX0_clear_0 : decode cX0_clear 0 = .ok (.aload_n 0, 1) := by decide +kernel
theorem dX0_clear_1 : decode cX0_clear 1 = .ok (.iconst 0, 1) := by decide +kernel
theorem dX0_clear_2 : decode cX0_clear 2 = .ok (.putfield 20, 3) := by decide +kernel
theorem dX0_clear_5 : decode cX0_clear 5 = .ok (.return_, 1) := by decide +kernel
theorem dX0_remember_0 : decode cX0_remember 0 = .ok (.aload_n 0, 1) := by decide +kernel
theorem dX0_remember_1 : decode cX0_remember 1 = .ok (.getfield 14, 3) := by decide +kernel
theorem dX0_remember_4 : decode cX0_remember 4 = .ok (.aload_n 0, 1) := by decide +kernel
theorem dX0_remember_5 : decode cX0_remember 5 = .ok (.getfield 24, 3) := by decide +kernel
theorem dX0_remember_8 : decode cX0_remember 8 = .ok (.aload_n 1, 1) := by decide +kernel
theorem dX0_remember_9 : decode cX0_remember 9 = .ok (.invokevirtual 27, 3) := by decide +kernel
theorem dX0_remember_12 : decode cX0_remember 12 = .ok (.aload_n 0, 1) := by decide +kernel
theorem dX0_remember_13 : decode cX0_remember 13 = .ok (.aload_n 0, 1) := by decide +kernel
theorem dX0_remember_14 : decode cX0_remember 14 = .ok (.getfield 24, 3) := by decide +kernel
theorem dX0_remember_17 : decode cX0_remember 17 = .ok (.iconst 1, 1) := by decide +kernel
theorem dX0_remember_18 : decode cX0_remember 18 = .ok (.iadd, 1) := by decide +kernel
theorem dX0_remember_19 : decode cX0_remember 19 = .ok (.bipush 14, 2) := by decide +kernel
theorem dX0_remember_21 : decode cX0_remember 21 = .ok (.irem, 1) := by decide +kernel
theorem dX0_remember_22 : decode cX0_remember 22 = .ok (.putfield 24, 3) := by decide +kernel
theorem dX0_remember_25 : decode cX0_remember 25 = .ok (.aload_n 0, 1) := by decide +kernel
theorem dX0_remember_26 : decode cX0_remember 26 = .ok (.aload_n 0, 1) := by decide +kernel
theorem dX0_remember_27 : decode cX0_remember 27 = .ok (.getfield 20, 3) := by decide +kernel
theorem dX0_remember_30 : decode cX0_remember 30 = .ok (.iconst 1, 1) := by decide +kernel
theorem dX0_remember_31 : decode cX0_remember 31 = .ok (.iadd, 1) := by decide +kernel
theorem dX0_remember_32 : decode cX0_remember 32 = .ok (.bipush 14, 2) := by decide +kernel
theorem dX0_remember_34 : decode cX0_remember 34 = .ok (.invokestatic 31, 3) := by decide +kernel
theorem dX0_remember_37 : decode cX0_remember 37 = .ok (.putfield 20, 3) := by decide +kernel
theorem dX0_remember_40 : decode cX0_remember 40 = .ok (.return_, 1) := by decide +kernel
theorem dX0_takeBack_0 : decode cX0_takeBack 0 = .ok (.aload_n 0, 1) := by decide +kernel
theorem dX0_takeBack_1 : decode cX0_takeBack 1 = .ok (.getfield 20, 3) := by decide +kernel
theorem dX0_takeBack_4 : decode cX0_takeBack 4 = .ok (.ifCond .le 41, 3) := by decide +kernel
theorem dX0_takeBack_7 : decode cX0_takeBack 7 = .ok (.aload_n 0, 1) := by decide +kernel
theorem dX0_takeBack_8 : decode cX0_takeBack 8 = .ok (.aload_n 0, 1) := by decide +kernel
theorem dX0_takeBack_9 : decode cX0_takeBack 9 = .ok (.getfield 24, 3) := by decide +kernel
theorem dX0_takeBack_12 : decode cX0_takeBack 12 = .ok (.bipush 14, 2) := by decide +kernel
theorem dX0_takeBack_14 : decode cX0_takeBack 14 = .ok (.iadd, 1) := by decide +kernel
theorem dX0_takeBack_15 : decode cX0_takeBack 15 = .ok (.iconst 1, 1) := by decide +kernel
theorem dX0_takeBack_16 : decode cX0_takeBack 16 = .ok (.isub, 1) := by decide +kernel
theorem dX0_takeBack_17 : decode cX0_takeBack 17 = .ok (.bipush 14, 2) := by decide +kernel
theorem dX0_takeBack_19 : decode cX0_takeBack 19 = .ok (.irem, 1) := by decide +kernel
theorem dX0_takeBack_20 : decode cX0_takeBack 20 = .ok (.putfield 24, 3) := by decide +kernel
theorem dX0_takeBack_23 : decode cX0_takeBack 23 = .ok (.aload_n 0, 1) := by decide +kernel
theorem dX0_takeBack_24 : decode cX0_takeBack 24 = .ok (.dup, 1) := by decide +kernel
theorem dX0_takeBack_25 : decode cX0_takeBack 25 = .ok (.getfield 20, 3) := by decide +kernel
theorem dX0_takeBack_28 : decode cX0_takeBack 28 = .ok (.iconst 1, 1) := by decide +kernel
theorem dX0_takeBack_29 : decode cX0_takeBack 29 = .ok (.isub, 1) := by decide +kernel
theorem dX0_takeBack_30 : decode cX0_takeBack 30 = .ok (.putfield 20, 3) := by decide +kernel
theorem dX0_takeBack_33 : decode cX0_takeBack 33 = .ok (.aload_n 0, 1) := by decide +kernel
theorem dX0_takeBack_34 : decode cX0_takeBack 34 = .ok (.getfield 14, 3) := by decide +kernel
theorem dX0_takeBack_37 : decode cX0_takeBack 37 = .ok (.aload_n 0, 1) := by decide +kernel
theorem dX0_takeBack_38 : decode cX0_takeBack 38 = .ok (.getfield 24, 3) := by decide +kernel
theorem dX0_takeBack_41 : decode cX0_takeBack 41 = .ok (.aload_n 1, 1) := by decide +kernel
theorem dX0_takeBack_42 : decode cX0_takeBack 42 = .ok (.invokevirtual 37, 3) := by decide +kernel
theorem dX0_takeBack_45 : decode cX0_takeBack 45 = .ok (.aload_n 0, 1) := by decide +kernel
theorem dX0_takeBack_46 : decode cX0_takeBack 46 = .ok (.getfield 20, 3) := by decide +kernel
theorem dX0_takeBack_49 : decode cX0_takeBack 49 = .ok (.ireturn, 1) := by decide +kernel
theorem dX1_init_0 : decode cX1_init 0 = .ok (.aload_n 0, 1) := by decide +kernel
theorem dX1_init_1 : decode cX1_init 1 = .ok (.invokespecial 3, 3) := by decide +kernel
theorem dX1_init_4 : decode cX1_init 4 = .ok (.aload_n 0, 1) := by decide +kernel
theorem dX1_init_5 : decode cX1_init 5 = .ok (.new 9, 3) := by decide +kernel
theorem dX1_init_8 : decode cX1_init 8 = .ok (.dup, 1) := by decide +kernel
theorem dX1_init_9 : decode cX1_init 9 = .ok (.bipush 15, 2) := by decide +kernel
theorem dX1_init_11 : decode cX1_init 11 = .ok (.invokespecial 13, 3) := by decide +kernel
theorem dX1_init_14 : decode cX1_init 14 = .ok (.putfield 16, 3) := by decide +kernel
theorem dX1_init_17 : decode cX1_init 17 = .ok (.aload_n 0, 1) := by decide +kernel
theorem dX1_init_18 : decode cX1_init 18 = .ok (.aload_n 1, 1) := by decide +kernel
theorem dX1_init_19 : decode cX1_init 19 = .ok (.putfield 20, 3) := by decide +kernel
theorem dX1_init_22 : decode cX1_init 22 = .ok (.return_, 1) := by decide +kernel
theorem dX1_told_0 : decode cX1_told 0 = .ok (.aload_n 0, 1) := by decide +kernel
theorem dX1_told_1 : decode cX1_told 1 = .ok (.getfield 16, 3) := by decide +kernel
theorem dX1_told_4 : decode cX1_told 4 = .ok (.iconst 0, 1) := by decide +kernel
theorem dX1_told_5 : decode cX1_told 5 = .ok (.iload_n 1, 1) := by decide +kernel
theorem dX1_told_6 : decode cX1_told 6 = .ok (.iadd, 1) := by decide +kernel
theorem dX1_told_7 : decode cX1_told 7 = .ok (.invokevirtual 24, 3) := by decide +kernel
theorem dX1_told_10 : decode cX1_told 10 = .ok (.ireturn, 1) := by decide +kernel
theorem dX1_setTold_0 : decode cX1_setTold 0 = .ok (.aload_n 0, 1) := by decide +kernel
theorem dX1_setTold_1 : decode cX1_setTold 1 = .ok (.getfield 16, 3) := by decide +kernel
theorem dX1_setTold_4 : decode cX1_setTold 4 = .ok (.iconst 0, 1) := by decide +kernel
theorem dX1_setTold_5 : decode cX1_setTold 5 = .ok (.iload_n 1, 1) := by decide +kernel
theorem dX1_setTold_6 : decode cX1_setTold 6 = .ok (.iadd, 1) := by decide +kernel
theorem dX1_setTold_7 : decode cX1_setTold 7 = .ok (.iload_n 2, 1) := by decide +kernel
theorem dX1_setTold_8 : decode cX1_setTold 8 = .ok (.invokevirtual 28, 3) := by decide +kernel
theorem dX1_setTold_11 : decode cX1_setTold 11 = .ok (.return_, 1) := by decide +kernel
theorem dX1_seat_0 : decode cX1_seat 0 = .ok (.aload_n 0, 1) := by decide +kernel
theorem dX1_seat_1 : decode cX1_seat 1 = .ok (.getfield 16, 3) := by decide +kernel
theorem dX1_seat_4 : decode cX1_seat 4 = .ok (.iconst 5, 1) := by decide +kernel
theorem dX1_seat_5 : decode cX1_seat 5 = .ok (.iload_n 1, 1) := by decide +kernel
theorem dX1_seat_6 : decode cX1_seat 6 = .ok (.iadd, 1) := by decide +kernel
theorem dX1_seat_7 : decode cX1_seat 7 = .ok (.invokevirtual 24, 3) := by decide +kernel
theorem dX1_seat_10 : decode cX1_seat 10 = .ok (.ireturn, 1) := by decide +kernel
theorem dX1_setSeat_0 : decode cX1_setSeat 0 = .ok (.aload_n 0, 1) := by decide +kernel
theorem dX1_setSeat_1 : decode cX1_setSeat 1 = .ok (.getfield 16, 3) := by decide +kernel
theorem dX1_setSeat_4 : decode cX1_setSeat 4 = .ok (.iconst 5, 1) := by decide +kernel
theorem dX1_setSeat_5 : decode cX1_setSeat 5 = .ok (.iload_n 1, 1) := by decide +kernel
theorem dX1_setSeat_6 : decode cX1_setSeat 6 = .ok (.iadd, 1) := by decide +kernel
theorem dX1_setSeat_7 : decode cX1_setSeat 7 = .ok (.iload_n 2, 1) := by decide +kernel
theorem dX1_setSeat_8 : decode cX1_setSeat 8 = .ok (.invokevirtual 28, 3) := by decide +kernel
theorem dX1_setSeat_11 : decode cX1_setSeat 11 = .ok (.return_, 1) := by decide +kernel
theorem dX1_fines_0 : decode cX1_fines 0 = .ok (.aload_n 0, 1) := by decide +kernel
theorem dX1_fines_1 : decode cX1_fines 1 = .ok (.getfield 16, 3) := by decide +kernel
theorem dX1_fines_4 : decode cX1_fines 4 = .ok (.bipush 10, 2) := by decide +kernel
theorem dX1_fines_6 : decode cX1_fines 6 = .ok (.iload_n 1, 1) := by decide +kernel
theorem dX1_fines_7 : decode cX1_fines 7 = .ok (.iadd, 1) := by decide +kernel
theorem dX1_fines_8 : decode cX1_fines 8 = .ok (.invokevirtual 24, 3) := by decide +kernel
theorem dX1_fines_11 : decode cX1_fines 11 = .ok (.ireturn, 1) := by decide +kernel
theorem dX1_fine_0 : decode cX1_fine 0 = .ok (.aload_n 0, 1) := by decide +kernel
theorem dX1_fine_1 : decode cX1_fine 1 = .ok (.getfield 16, 3) := by decide +kernel
theorem dX1_fine_4 : decode cX1_fine 4 = .ok (.bipush 10, 2) := by decide +kernel
theorem dX1_fine_6 : decode cX1_fine 6 = .ok (.iload_n 1, 1) := by decide +kernel
theorem dX1_fine_7 : decode cX1_fine 7 = .ok (.iadd, 1) := by decide +kernel
theorem dX1_fine_8 : decode cX1_fine 8 = .ok (.aload_n 0, 1) := by decide +kernel
theorem dX1_fine_9 : decode cX1_fine 9 = .ok (.iload_n 1, 1) := by decide +kernel
theorem dX1_fine_10 : decode cX1_fine 10 = .ok (.invokevirtual 32, 3) := by decide +kernel
theorem dX1_fine_13 : decode cX1_fine 13 = .ok (.iload_n 2, 1) := by decide +kernel
theorem dX1_fine_14 : decode cX1_fine 14 = .ok (.iadd, 1) := by decide +kernel
theorem dX1_fine_15 : decode cX1_fine 15 = .ok (.invokevirtual 28, 3) := by decide +kernel
theorem dX1_fine_18 : decode cX1_fine 18 = .ok (.return_, 1) := by decide +kernel
theorem dX1_clear_0 : decode cX1_clear 0 = .ok (.aload_n 0, 1) := by decide +kernel
theorem dX1_clear_1 : decode cX1_clear 1 = .ok (.getfield 16, 3) := by decide +kernel
theorem dX1_clear_4 : decode cX1_clear 4 = .ok (.iconst 0, 1) := by decide +kernel
theorem dX1_clear_5 : decode cX1_clear 5 = .ok (.invokevirtual 35, 3) := by decide +kernel
theorem dX1_clear_8 : decode cX1_clear 8 = .ok (.return_, 1) := by decide +kernel
theorem dX1_become_0 : decode cX1_become 0 = .ok (.aload_n 0, 1) := by decide +kernel
theorem dX1_become_1 : decode cX1_become 1 = .ok (.getfield 16, 3) := by decide +kernel
theorem dX1_become_4 : decode cX1_become 4 = .ok (.iconst 0, 1) := by decide +kernel
theorem dX1_become_5 : decode cX1_become 5 = .ok (.aload_n 1, 1) := by decide +kernel
theorem dX1_become_6 : decode cX1_become 6 = .ok (.getfield 16, 3) := by decide +kernel
theorem dX1_become_9 : decode cX1_become 9 = .ok (.iconst 0, 1) := by decide +kernel
theorem dX1_become_10 : decode cX1_become 10 = .ok (.bipush 15, 2) := by decide +kernel
theorem dX1_become_12 : decode cX1_become 12 = .ok (.invokevirtual 38, 3) := by decide +kernel
theorem dX1_become_15 : decode cX1_become 15 = .ok (.return_, 1) := by decide +kernel
theorem dX1_known_0 : decode cX1_known 0 = .ok (.aload_n 0, 1) := by decide +kernel
theorem dX1_known_1 : decode cX1_known 1 = .ok (.getfield 20, 3) := by decide +kernel
theorem dX1_known_4 : decode cX1_known 4 = .ok (.aload_n 0, 1) := by decide +kernel
theorem dX1_known_5 : decode cX1_known 5 = .ok (.iload_n 1, 1) := by decide +kernel
theorem dX1_known_6 : decode cX1_known 6 = .ok (.invokevirtual 42, 3) := by decide +kernel
theorem dX1_known_9 : decode cX1_known 9 = .ok (.invokevirtual 45, 3) := by decide +kernel
theorem dX1_known_12 : decode cX1_known 12 = .ok (.ireturn, 1) := by decide +kernel
theorem dX1_knownBySomebody_0 : decode cX1_knownBySomebody 0 = .ok (.iconst 0, 1) := by decide +kernel
theorem dX1_knownBySomebody_1 : decode cX1_knownBySomebody 1 = .ok (.istore_n 1, 1) := by decide +kernel
theorem dX1_knownBySomebody_2 : decode cX1_knownBySomebody 2 = .ok (.iconst 0, 1) := by decide +kernel
theorem dX1_knownBySomebody_3 : decode cX1_knownBySomebody 3 = .ok (.istore_n 2, 1) := by decide +kernel
theorem dX1_knownBySomebody_4 : decode cX1_knownBySomebody 4 = .ok (.iload_n 2, 1) := by decide +kernel
theorem dX1_knownBySomebody_5 : decode cX1_knownBySomebody 5 = .ok (.aload_n 0, 1) := by decide +kernel
theorem dX1_knownBySomebody_6 : decode cX1_knownBySomebody 6 = .ok (.getfield 20, 3) := by decide +kernel
theorem dX1_knownBySomebody_9 : decode cX1_knownBySomebody 9 = .ok (.invokevirtual 50, 3) := by decide +kernel
theorem dX1_knownBySomebody_12 : decode cX1_knownBySomebody 12 = .ok (.if_icmp .ge 17, 3) := by decide +kernel
theorem dX1_knownBySomebody_15 : decode cX1_knownBySomebody 15 = .ok (.iload_n 1, 1) := by decide +kernel
theorem dX1_knownBySomebody_16 : decode cX1_knownBySomebody 16 = .ok (.aload_n 0, 1) := by decide +kernel
theorem dX1_knownBySomebody_17 : decode cX1_knownBySomebody 17 = .ok (.iload_n 2, 1) := by decide +kernel
theorem dX1_knownBySomebody_18 : decode cX1_knownBySomebody 18 = .ok (.invokevirtual 54, 3) := by decide +kernel
theorem dX1_knownBySomebody_21 : decode cX1_knownBySomebody 21 = .ok (.ior, 1) := by decide +kernel
theorem dX1_knownBySomebody_22 : decode cX1_knownBySomebody 22 = .ok (.istore_n 1, 1) := by decide +kernel
theorem dX1_knownBySomebody_23 : decode cX1_knownBySomebody 23 = .ok (.iinc 2 1, 3) := by decide +kernel
theorem dX1_knownBySomebody_26 : decode cX1_knownBySomebody 26 = .ok (.goto (-22), 3) := by decide +kernel
theorem dX1_knownBySomebody_29 : decode cX1_knownBySomebody 29 = .ok (.iload_n 1, 1) := by decide +kernel
theorem dX1_knownBySomebody_30 : decode cX1_knownBySomebody 30 = .ok (.ireturn, 1) := by decide +kernel
theorem dX1_allFines_0 : decode cX1_allFines 0 = .ok (.iconst 0, 1) := by decide +kernel
theorem dX1_allFines_1 : decode cX1_allFines 1 = .ok (.istore_n 1, 1) := by decide +kernel
theorem dX1_allFines_2 : decode cX1_allFines 2 = .ok (.iconst 0, 1) := by decide +kernel
theorem dX1_allFines_3 : decode cX1_allFines 3 = .ok (.istore_n 2, 1) := by decide +kernel
theorem dX1_allFines_4 : decode cX1_allFines 4 = .ok (.iload_n 2, 1) := by decide +kernel
theorem dX1_allFines_5 : decode cX1_allFines 5 = .ok (.aload_n 0, 1) := by decide +kernel
theorem dX1_allFines_6 : decode cX1_allFines 6 = .ok (.getfield 20, 3) := by decide +kernel
theorem dX1_allFines_9 : decode cX1_allFines 9 = .ok (.invokevirtual 50, 3) := by decide +kernel
theorem dX1_allFines_12 : decode cX1_allFines 12 = .ok (.if_icmp .ge 17, 3) := by decide +kernel
theorem dX1_allFines_15 : decode cX1_allFines 15 = .ok (.iload_n 1, 1) := by decide +kernel
theorem dX1_allFines_16 : decode cX1_allFines 16 = .ok (.aload_n 0, 1) := by decide +kernel
theorem dX1_allFines_17 : decode cX1_allFines 17 = .ok (.iload_n 2, 1) := by decide +kernel
theorem dX1_allFines_18 : decode cX1_allFines 18 = .ok (.invokevirtual 32, 3) := by decide +kernel
theorem dX1_allFines_21 : decode cX1_allFines 21 = .ok (.iadd, 1) := by decide +kernel
theorem dX1_allFines_22 : decode cX1_allFines 22 = .ok (.istore_n 1, 1) := by decide +kernel
theorem dX1_allFines_23 : decode cX1_allFines 23 = .ok (.iinc 2 1, 3) := by decide +kernel
theorem dX1_allFines_26 : decode cX1_allFines 26 = .ok (.goto (-22), 3) := by decide +kernel
theorem dX1_allFines_29 : decode cX1_allFines 29 = .ok (.iload_n 1, 1) := by decide +kernel
theorem dX1_allFines_30 : decode cX1_allFines 30 = .ok (.ireturn, 1) := by decide +kernel
theorem dX1_knowers_0 : decode cX1_knowers 0 = .ok (.iconst 0, 1) := by decide +kernel
theorem dX1_knowers_1 : decode cX1_knowers 1 = .ok (.istore_n 2, 1) := by decide +kernel
theorem dX1_knowers_2 : decode cX1_knowers 2 = .ok (.iconst 0, 1) := by decide +kernel
theorem dX1_knowers_3 : decode cX1_knowers 3 = .ok (.istore_n 3, 1) := by decide +kernel
theorem dX1_knowers_4 : decode cX1_knowers 4 = .ok (.iload_n 3, 1) := by decide +kernel
theorem dX1_knowers_5 : decode cX1_knowers 5 = .ok (.aload_n 0, 1) := by decide +kernel
theorem dX1_knowers_6 : decode cX1_knowers 6 = .ok (.getfield 20, 3) := by decide +kernel
theorem dX1_knowers_9 : decode cX1_knowers 9 = .ok (.invokevirtual 50, 3) := by decide +kernel
theorem dX1_knowers_12 : decode cX1_knowers 12 = .ok (.if_icmp .ge 27, 3) := by decide +kernel
theorem dX1_knowers_15 : decode cX1_knowers 15 = .ok (.aload_n 0, 1) := by decide +kernel
theorem dX1_knowers_16 : decode cX1_knowers 16 = .ok (.iload_n 3, 1) := by decide +kernel
theorem dX1_knowers_17 : decode cX1_knowers 17 = .ok (.invokevirtual 54, 3) := by decide +kernel
theorem dX1_knowers_20 : decode cX1_knowers 20 = .ok (.iload_n 1, 1) := by decide +kernel
theorem dX1_knowers_21 : decode cX1_knowers 21 = .ok (.invokestatic 57, 3) := by decide +kernel
theorem dX1_knowers_24 : decode cX1_knowers 24 = .ok (.ifCond .eq 9, 3) := by decide +kernel
theorem dX1_knowers_27 : decode cX1_knowers 27 = .ok (.iload_n 2, 1) := by decide +kernel
theorem dX1_knowers_28 : decode cX1_knowers 28 = .ok (.iconst 1, 1) := by decide +kernel
theorem dX1_knowers_29 : decode cX1_knowers 29 = .ok (.iload_n 3, 1) := by decide +kernel
theorem dX1_knowers_30 : decode cX1_knowers 30 = .ok (.ishl, 1) := by decide +kernel
theorem dX1_knowers_31 : decode cX1_knowers 31 = .ok (.ior, 1) := by decide +kernel
theorem dX1_knowers_32 : decode cX1_knowers 32 = .ok (.istore_n 2, 1) := by decide +kernel
theorem dX1_knowers_33 : decode cX1_knowers 33 = .ok (.iinc 3 1, 3) := by decide +kernel
theorem dX1_knowers_36 : decode cX1_knowers 36 = .ok (.goto (-32), 3) := by decide +kernel
theorem dX1_knowers_39 : decode cX1_knowers 39 = .ok (.iload_n 2, 1) := by decide +kernel
theorem dX1_knowers_40 : decode cX1_knowers 40 = .ok (.ireturn, 1) := by decide +kernel
theorem dX1_distance_0 : decode cX1_distance 0 = .ok (.aload_n 0, 1) := by decide +kernel
theorem dX1_distance_1 : decode cX1_distance 1 = .ok (.iload_n 1, 1) := by decide +kernel
theorem dX1_distance_2 : decode cX1_distance 2 = .ok (.invokevirtual 61, 3) := by decide +kernel
theorem dX1_distance_5 : decode cX1_distance 5 = .ok (.aload_n 0, 1) := by decide +kernel
theorem dX1_distance_6 : decode cX1_distance 6 = .ok (.iload_n 2, 1) := by decide +kernel
theorem dX1_distance_7 : decode cX1_distance 7 = .ok (.invokevirtual 61, 3) := by decide +kernel
theorem dX1_distance_10 : decode cX1_distance 10 = .ok (.isub, 1) := by decide +kernel
theorem dX1_distance_11 : decode cX1_distance 11 = .ok (.invokestatic 64, 3) := by decide +kernel
theorem dX1_distance_14 : decode cX1_distance 14 = .ok (.istore_n 3, 1) := by decide +kernel
theorem dX1_distance_15 : decode cX1_distance 15 = .ok (.iload_n 3, 1) := by decide +kernel
theorem dX1_distance_16 : decode cX1_distance 16 = .ok (.aload_n 0, 1) := by decide +kernel
theorem dX1_distance_17 : decode cX1_distance 17 = .ok (.getfield 20, 3) := by decide +kernel
theorem dX1_distance_20 : decode cX1_distance 20 = .ok (.invokevirtual 50, 3) := by decide +kernel
theorem dX1_distance_23 : decode cX1_distance 23 = .ok (.iload_n 3, 1) := by decide +kernel
theorem dX1_distance_24 : decode cX1_distance 24 = .ok (.isub, 1) := by decide +kernel
theorem dX1_distance_25 : decode cX1_distance 25 = .ok (.invokestatic 69, 3) := by decide +kernel
theorem dX1_distance_28 : decode cX1_distance 28 = .ok (.ireturn, 1) := by decide +kernel
theorem dX1_ears_0 : decode cX1_ears 0 = .ok (.iconst 0, 1) := by decide +kernel
theorem dX1_ears_1 : decode cX1_ears 1 = .ok (.istore_n 3, 1) := by decide +kernel
theorem dX1_ears_2 : decode cX1_ears 2 = .ok (.iconst 0, 1) := by decide +kernel
theorem dX1_ears_3 : decode cX1_ears 3 = .ok (.istore 4, 2) := by decide +kernel
theorem dX1_ears_5 : decode cX1_ears 5 = .ok (.iload 4, 2) := by decide +kernel
theorem dX1_ears_7 : decode cX1_ears 7 = .ok (.aload_n 0, 1) := by decide +kernel
theorem dX1_ears_8 : decode cX1_ears 8 = .ok (.getfield 20, 3) := by decide +kernel
theorem dX1_ears_11 : decode cX1_ears 11 = .ok (.invokevirtual 50, 3) := by decide +kernel
theorem dX1_ears_14 : decode cX1_ears 14 = .ok (.if_icmp .ge 54, 3) := by decide +kernel
theorem dX1_ears_17 : decode cX1_ears 17 = .ok (.aload_n 0, 1) := by decide +kernel
theorem dX1_ears_18 : decode cX1_ears 18 = .ok (.getfield 20, 3) := by decide +kernel
theorem dX1_ears_21 : decode cX1_ears 21 = .ok (.iload 4, 2) := by decide +kernel
theorem dX1_ears_23 : decode cX1_ears 23 = .ok (.invokevirtual 73, 3) := by decide +kernel
theorem dX1_ears_26 : decode cX1_ears 26 = .ok (.iconst 1, 1) := by decide +kernel
theorem dX1_ears_27 : decode cX1_ears 27 = .ok (.if_icmp .ne 7, 3) := by decide +kernel
theorem dX1_ears_30 : decode cX1_ears 30 = .ok (.iconst 1, 1) := by decide +kernel
theorem dX1_ears_31 : decode cX1_ears 31 = .ok (.goto 4, 3) := by decide +kernel
theorem dX1_ears_34 : decode cX1_ears 34 = .ok (.iload_n 2, 1) := by decide +kernel
theorem dX1_ears_35 : decode cX1_ears 35 = .ok (.istore 5, 2) := by decide +kernel
theorem dX1_ears_37 : decode cX1_ears 37 = .ok (.iload 4, 2) := by decide +kernel
theorem dX1_ears_39 : decode cX1_ears 39 = .ok (.iload_n 1, 1) := by decide +kernel
theorem dX1_ears_40 : decode cX1_ears 40 = .ok (.if_icmp .eq 22, 3) := by decide +kernel
theorem dX1_ears_43 : decode cX1_ears 43 = .ok (.aload_n 0, 1) := by decide +kernel
theorem dX1_ears_44 : decode cX1_ears 44 = .ok (.iload 4, 2) := by decide +kernel
theorem dX1_ears_46 : decode cX1_ears 46 = .ok (.iload_n 1, 1) := by decide +kernel
theorem dX1_ears_47 : decode cX1_ears 47 = .ok (.invokevirtual 76, 3) := by decide +kernel
theorem dX1_ears_50 : decode cX1_ears 50 = .ok (.iload 5, 2) := by decide +kernel
theorem dX1_ears_52 : decode cX1_ears 52 = .ok (.if_icmp .gt 10, 3) := by decide +kernel
theorem dX1_ears_55 : decode cX1_ears 55 = .ok (.iload_n 3, 1) := by decide +kernel
theorem dX1_ears_56 : decode cX1_ears 56 = .ok (.iconst 1, 1) := by decide +kernel
theorem dX1_ears_57 : decode cX1_ears 57 = .ok (.iload 4, 2) := by decide +kernel
theorem dX1_ears_59 : decode cX1_ears 59 = .ok (.ishl, 1) := by decide +kernel
theorem dX1_ears_60 : decode cX1_ears 60 = .ok (.ior, 1) := by decide +kernel
theorem dX1_ears_61 : decode cX1_ears 61 = .ok (.istore_n 3, 1) := by decide +kernel
theorem dX1_ears_62 : decode cX1_ears 62 = .ok (.iinc 4 1, 3) := by decide +kernel
theorem dX1_ears_65 : decode cX1_ears 65 = .ok (.goto (-60), 3) := by decide +kernel
theorem dX1_ears_68 : decode cX1_ears 68 = .ok (.iload_n 3, 1) := by decide +kernel
theorem dX1_ears_69 : decode cX1_ears 69 = .ok (.ireturn, 1) := by decide +kernel
theorem dX1_lie_0 : decode cX1_lie 0 = .ok (.aload_n 0, 1) := by decide +kernel
theorem dX1_lie_1 : decode cX1_lie 1 = .ok (.iload_n 1, 1) := by decide +kernel
theorem dX1_lie_2 : decode cX1_lie 2 = .ok (.iload_n 3, 1) := by decide +kernel
theorem dX1_lie_3 : decode cX1_lie 3 = .ok (.invokevirtual 79, 3) := by decide +kernel
theorem dX1_lie_6 : decode cX1_lie 6 = .ok (.istore 4, 2) := by decide +kernel
theorem dX1_lie_8 : decode cX1_lie 8 = .ok (.iload 4, 2) := by decide +kernel
theorem dX1_lie_10 : decode cX1_lie 10 = .ok (.aload_n 0, 1) := by decide +kernel
theorem dX1_lie_11 : decode cX1_lie 11 = .ok (.iload_n 2, 1) := by decide +kernel
theorem dX1_lie_12 : decode cX1_lie 12 = .ok (.invokevirtual 82, 3) := by decide +kernel
theorem dX1_lie_15 : decode cX1_lie 15 = .ok (.iand, 1) := by decide +kernel
theorem dX1_lie_16 : decode cX1_lie 16 = .ok (.istore 5, 2) := by decide +kernel
theorem dX1_lie_18 : decode cX1_lie 18 = .ok (.aload_n 0, 1) := by decide +kernel
theorem dX1_lie_19 : decode cX1_lie 19 = .ok (.iload_n 1, 1) := by decide +kernel
theorem dX1_lie_20 : decode cX1_lie 20 = .ok (.iload 5, 2) := by decide +kernel
theorem dX1_lie_22 : decode cX1_lie 22 = .ok (.invokevirtual 85, 3) := by decide +kernel
theorem dX1_lie_25 : decode cX1_lie 25 = .ok (.istore 6, 2) := by decide +kernel
theorem dX1_lie_27 : decode cX1_lie 27 = .ok (.iload 6, 2) := by decide +kernel
theorem dX1_lie_29 : decode cX1_lie 29 = .ok (.bipush (-9), 2) := by decide +kernel
theorem dX1_lie_31 : decode cX1_lie 31 = .ok (.if_icmp .ne 12, 3) := by decide +kernel
theorem dX1_lie_34 : decode cX1_lie 34 = .ok (.aload_n 0, 1) := by decide +kernel
theorem dX1_lie_35 : decode cX1_lie 35 = .ok (.iload 5, 2) := by decide +kernel
theorem dX1_lie_37 : decode cX1_lie 37 = .ok (.invokevirtual 88, 3) := by decide +kernel
theorem dX1_lie_40 : decode cX1_lie 40 = .ok (.bipush (-9), 2) := by decide +kernel
theorem dX1_lie_42 : decode cX1_lie 42 = .ok (.ireturn, 1) := by decide +kernel
theorem dX1_lie_43 : decode cX1_lie 43 = .ok (.aload_n 0, 1) := by decide +kernel
theorem dX1_lie_44 : decode cX1_lie 44 = .ok (.iload 4, 2) := by decide +kernel
theorem dX1_lie_46 : decode cX1_lie 46 = .ok (.iload_n 2, 1) := by decide +kernel
theorem dX1_lie_47 : decode cX1_lie 47 = .ok (.invokevirtual 91, 3) := by decide +kernel
theorem dX1_lie_50 : decode cX1_lie 50 = .ok (.aload_n 0, 1) := by decide +kernel
theorem dX1_lie_51 : decode cX1_lie 51 = .ok (.getfield 20, 3) := by decide +kernel
theorem dX1_lie_54 : decode cX1_lie 54 = .ok (.iload_n 1, 1) := by decide +kernel
theorem dX1_lie_55 : decode cX1_lie 55 = .ok (.invokevirtual 73, 3) := by decide +kernel
theorem dX1_lie_58 : decode cX1_lie 58 = .ok (.iconst 3, 1) := by decide +kernel
theorem dX1_lie_59 : decode cX1_lie 59 = .ok (.if_icmp .eq 9, 3) := by decide +kernel
theorem dX1_lie_62 : decode cX1_lie 62 = .ok (.aload_n 0, 1) := by decide +kernel
theorem dX1_lie_63 : decode cX1_lie 63 = .ok (.iload_n 1, 1) := by decide +kernel
theorem dX1_lie_64 : decode cX1_lie 64 = .ok (.iconst 1, 1) := by decide +kernel
theorem dX1_lie_65 : decode cX1_lie 65 = .ok (.invokevirtual 94, 3) := by decide +kernel
theorem dX1_lie_68 : decode cX1_lie 68 = .ok (.iload 6, 2) := by decide +kernel
theorem dX1_lie_70 : decode cX1_lie 70 = .ok (.ireturn, 1) := by decide +kernel
theorem dX1_firstBold_0 : decode cX1_firstBold 0 = .ok (.aload_n 0, 1) := by decide +kernel
theorem dX1_firstBold_1 : decode cX1_firstBold 1 = .ok (.getfield 20, 3) := by decide +kernel
theorem dX1_firstBold_4 : decode cX1_firstBold 4 = .ok (.invokevirtual 50, 3) := by decide +kernel
theorem dX1_firstBold_7 : decode cX1_firstBold 7 = .ok (.istore_n 3, 1) := by decide +kernel
theorem dX1_firstBold_8 : decode cX1_firstBold 8 = .ok (.iconst 1, 1) := by decide +kernel
theorem dX1_firstBold_9 : decode cX1_firstBold 9 = .ok (.istore 4, 2) := by decide +kernel
theorem dX1_firstBold_11 : decode cX1_firstBold 11 = .ok (.iload 4, 2) := by decide +kernel
theorem dX1_firstBold_13 : decode cX1_firstBold 13 = .ok (.iload_n 3, 1) := by decide +kernel
theorem dX1_firstBold_14 : decode cX1_firstBold 14 = .ok (.if_icmp .ge 50, 3) := by decide +kernel
theorem dX1_firstBold_17 : decode cX1_firstBold 17 = .ok (.aload_n 0, 1) := by decide +kernel
theorem dX1_firstBold_18 : decode cX1_firstBold 18 = .ok (.aload_n 0, 1) := by decide +kernel
theorem dX1_firstBold_19 : decode cX1_firstBold 19 = .ok (.iload_n 1, 1) := by decide +kernel
theorem dX1_firstBold_20 : decode cX1_firstBold 20 = .ok (.invokevirtual 61, 3) := by decide +kernel
theorem dX1_firstBold_23 : decode cX1_firstBold 23 = .ok (.iload 4, 2) := by decide +kernel
theorem dX1_firstBold_25 : decode cX1_firstBold 25 = .ok (.iadd, 1) := by decide +kernel
theorem dX1_firstBold_26 : decode cX1_firstBold 26 = .ok (.iload_n 3, 1) := by decide +kernel
theorem dX1_firstBold_27 : decode cX1_firstBold 27 = .ok (.irem, 1) := by decide +kernel
theorem dX1_firstBold_28 : decode cX1_firstBold 28 = .ok (.invokevirtual 97, 3) := by decide +kernel
theorem dX1_firstBold_31 : decode cX1_firstBold 31 = .ok (.istore 5, 2) := by decide +kernel
theorem dX1_firstBold_33 : decode cX1_firstBold 33 = .ok (.iload_n 2, 1) := by decide +kernel
theorem dX1_firstBold_34 : decode cX1_firstBold 34 = .ok (.iload 5, 2) := by decide +kernel
theorem dX1_firstBold_36 : decode cX1_firstBold 36 = .ok (.invokestatic 57, 3) := by decide +kernel
theorem dX1_firstBold_39 : decode cX1_firstBold 39 = .ok (.ifCond .eq 19, 3) := by decide +kernel
theorem dX1_firstBold_42 : decode cX1_firstBold 42 = .ok (.aload_n 0, 1) := by decide +kernel
theorem dX1_firstBold_43 : decode cX1_firstBold 43 = .ok (.getfield 20, 3) := by decide +kernel
theorem dX1_firstBold_46 : decode cX1_firstBold 46 = .ok (.iload 5, 2) := by decide +kernel
theorem dX1_firstBold_48 : decode cX1_firstBold 48 = .ok (.invokevirtual 73, 3) := by decide +kernel
theorem dX1_firstBold_51 : decode cX1_firstBold 51 = .ok (.iconst 2, 1) := by decide +kernel
theorem dX1_firstBold_52 : decode cX1_firstBold 52 = .ok (.if_icmp .eq 6, 3) := by decide +kernel
theorem dX1_firstBold_55 : decode cX1_firstBold 55 = .ok (.iload 5, 2) := by decide +kernel
theorem dX1_firstBold_57 : decode cX1_firstBold 57 = .ok (.ireturn, 1) := by decide +kernel
theorem dX1_firstBold_58 : decode cX1_firstBold 58 = .ok (.iinc 4 1, 3) := by decide +kernel
theorem dX1_firstBold_61 : decode cX1_firstBold 61 = .ok (.goto (-50), 3) := by decide +kernel
theorem dX1_firstBold_64 : decode cX1_firstBold 64 = .ok (.bipush (-9), 2) := by decide +kernel
theorem dX1_firstBold_66 : decode cX1_firstBold 66 = .ok (.ireturn, 1) := by decide +kernel
theorem dX1_sitter_0 : decode cX1_sitter 0 = .ok (.iconst 0, 1) := by decide +kernel
theorem dX1_sitter_1 : decode cX1_sitter 1 = .ok (.istore_n 2, 1) := by decide +kernel
theorem dX1_sitter_2 : decode cX1_sitter 2 = .ok (.iload_n 2, 1) := by decide +kernel
theorem dX1_sitter_3 : decode cX1_sitter 3 = .ok (.aload_n 0, 1) := by decide +kernel
theorem dX1_sitter_4 : decode cX1_sitter 4 = .ok (.getfield 20, 3) := by decide +kernel
theorem dX1_sitter_7 : decode cX1_sitter 7 = .ok (.invokevirtual 50, 3) := by decide +kernel
theorem dX1_sitter_10 : decode cX1_sitter 10 = .ok (.if_icmp .ge 20, 3) := by decide +kernel
theorem dX1_sitter_13 : decode cX1_sitter 13 = .ok (.aload_n 0, 1) := by decide +kernel
theorem dX1_sitter_14 : decode cX1_sitter 14 = .ok (.iload_n 2, 1) := by decide +kernel
theorem dX1_sitter_15 : decode cX1_sitter 15 = .ok (.invokevirtual 61, 3) := by decide +kernel
theorem dX1_sitter_18 : decode cX1_sitter 18 = .ok (.iload_n 1, 1) := by decide +kernel
theorem dX1_sitter_19 : decode cX1_sitter 19 = .ok (.if_icmp .ne 5, 3) := by decide +kernel
theorem dX1_sitter_22 : decode cX1_sitter 22 = .ok (.iload_n 2, 1) := by decide +kernel
theorem dX1_sitter_23 : decode cX1_sitter 23 = .ok (.ireturn, 1) := by decide +kernel
theorem dX1_sitter_24 : decode cX1_sitter 24 = .ok (.iinc 2 1, 3) := by decide +kernel
theorem dX1_sitter_27 : decode cX1_sitter 27 = .ok (.goto (-25), 3) := by decide +kernel
theorem dX1_sitter_30 : decode cX1_sitter 30 = .ok (.iconst 0, 1) := by decide +kernel
theorem dX1_sitter_31 : decode cX1_sitter 31 = .ok (.ireturn, 1) := by decide +kernel
theorem dX1_fineEach_0 : decode cX1_fineEach 0 = .ok (.iload_n 1, 1) := by decide +kernel
theorem dX1_fineEach_1 : decode cX1_fineEach 1 = .ok (.invokestatic 100, 3) := by decide +kernel
theorem dX1_fineEach_4 : decode cX1_fineEach 4 = .ok (.istore_n 2, 1) := by decide +kernel
theorem dX1_fineEach_5 : decode cX1_fineEach 5 = .ok (.iconst 0, 1) := by decide +kernel
theorem dX1_fineEach_6 : decode cX1_fineEach 6 = .ok (.istore_n 3, 1) := by decide +kernel
theorem dX1_fineEach_7 : decode cX1_fineEach 7 = .ok (.iload_n 3, 1) := by decide +kernel
theorem dX1_fineEach_8 : decode cX1_fineEach 8 = .ok (.aload_n 0, 1) := by decide +kernel
theorem dX1_fineEach_9 : decode cX1_fineEach 9 = .ok (.getfield 20, 3) := by decide +kernel
theorem dX1_fineEach_12 : decode cX1_fineEach 12 = .ok (.invokevirtual 50, 3) := by decide +kernel
theorem dX1_fineEach_15 : decode cX1_fineEach 15 = .ok (.if_icmp .ge 30, 3) := by decide +kernel
theorem dX1_fineEach_18 : decode cX1_fineEach 18 = .ok (.iload_n 2, 1) := by decide +kernel
theorem dX1_fineEach_19 : decode cX1_fineEach 19 = .ok (.ifCond .le 20, 3) := by decide +kernel
theorem dX1_fineEach_22 : decode cX1_fineEach 22 = .ok (.iload_n 1, 1) := by decide +kernel
theorem dX1_fineEach_23 : decode cX1_fineEach 23 = .ok (.iload_n 3, 1) := by decide +kernel
theorem dX1_fineEach_24 : decode cX1_fineEach 24 = .ok (.invokestatic 57, 3) := by decide +kernel
theorem dX1_fineEach_27 : decode cX1_fineEach 27 = .ok (.ifCond .eq 12, 3) := by decide +kernel
theorem dX1_fineEach_30 : decode cX1_fineEach 30 = .ok (.aload_n 0, 1) := by decide +kernel
theorem dX1_fineEach_31 : decode cX1_fineEach 31 = .ok (.iload_n 3, 1) := by decide +kernel
theorem dX1_fineEach_32 : decode cX1_fineEach 32 = .ok (.bipush 12, 2) := by decide +kernel
theorem dX1_fineEach_34 : decode cX1_fineEach 34 = .ok (.iload_n 2, 1) := by decide +kernel
theorem dX1_fineEach_35 : decode cX1_fineEach 35 = .ok (.idiv, 1) := by decide +kernel
theorem dX1_fineEach_36 : decode cX1_fineEach 36 = .ok (.invokevirtual 94, 3) := by decide +kernel
theorem dX1_fineEach_39 : decode cX1_fineEach 39 = .ok (.iinc 3 1, 3) := by decide +kernel
theorem dX1_fineEach_42 : decode cX1_fineEach 42 = .ok (.goto (-35), 3) := by decide +kernel
theorem dX1_fineEach_45 : decode cX1_fineEach 45 = .ok (.return_, 1) := by decide +kernel
theorem dX1_tellEach_0 : decode cX1_tellEach 0 = .ok (.iconst 0, 1) := by decide +kernel
theorem dX1_tellEach_1 : decode cX1_tellEach 1 = .ok (.istore_n 3, 1) := by decide +kernel
theorem dX1_tellEach_2 : decode cX1_tellEach 2 = .ok (.iload_n 3, 1) := by decide +kernel
theorem dX1_tellEach_3 : decode cX1_tellEach 3 = .ok (.aload_n 0, 1) := by decide +kernel
theorem dX1_tellEach_4 : decode cX1_tellEach 4 = .ok (.getfield 20, 3) := by decide +kernel
theorem dX1_tellEach_7 : decode cX1_tellEach 7 = .ok (.invokevirtual 50, 3) := by decide +kernel
theorem dX1_tellEach_10 : decode cX1_tellEach 10 = .ok (.if_icmp .ge 31, 3) := by decide +kernel
theorem dX1_tellEach_13 : decode cX1_tellEach 13 = .ok (.iload_n 1, 1) := by decide +kernel
theorem dX1_tellEach_14 : decode cX1_tellEach 14 = .ok (.iload_n 3, 1) := by decide +kernel
theorem dX1_tellEach_15 : decode cX1_tellEach 15 = .ok (.invokestatic 57, 3) := by decide +kernel
theorem dX1_tellEach_18 : decode cX1_tellEach 18 = .ok (.ifCond .eq 17, 3) := by decide +kernel
theorem dX1_tellEach_21 : decode cX1_tellEach 21 = .ok (.aload_n 0, 1) := by decide +kernel
theorem dX1_tellEach_22 : decode cX1_tellEach 22 = .ok (.iload_n 3, 1) := by decide +kernel
theorem dX1_tellEach_23 : decode cX1_tellEach 23 = .ok (.aload_n 0, 1) := by decide +kernel
theorem dX1_tellEach_24 : decode cX1_tellEach 24 = .ok (.iload_n 3, 1) := by decide +kernel
theorem dX1_tellEach_25 : decode cX1_tellEach 25 = .ok (.invokevirtual 42, 3) := by decide +kernel
theorem dX1_tellEach_28 : decode cX1_tellEach 28 = .ok (.iconst 1, 1) := by decide +kernel
theorem dX1_tellEach_29 : decode cX1_tellEach 29 = .ok (.iload_n 2, 1) := by decide +kernel
theorem dX1_tellEach_30 : decode cX1_tellEach 30 = .ok (.ishl, 1) := by decide +kernel
theorem dX1_tellEach_31 : decode cX1_tellEach 31 = .ok (.ior, 1) := by decide +kernel
theorem dX1_tellEach_32 : decode cX1_tellEach 32 = .ok (.invokevirtual 105, 3) := by decide +kernel
theorem dX1_tellEach_35 : decode cX1_tellEach 35 = .ok (.iinc 3 1, 3) := by decide +kernel
theorem dX1_tellEach_38 : decode cX1_tellEach 38 = .ok (.goto (-36), 3) := by decide +kernel
theorem dX1_tellEach_41 : decode cX1_tellEach 41 = .ok (.return_, 1) := by decide +kernel
theorem dX1_sitInOrder_0 : decode cX1_sitInOrder 0 = .ok (.aload_n 0, 1) := by decide +kernel
theorem dX1_sitInOrder_1 : decode cX1_sitInOrder 1 = .ok (.getfield 20, 3) := by decide +kernel
theorem dX1_sitInOrder_4 : decode cX1_sitInOrder 4 = .ok (.invokevirtual 50, 3) := by decide +kernel
theorem dX1_sitInOrder_7 : decode cX1_sitInOrder 7 = .ok (.istore_n 2, 1) := by decide +kernel
theorem dX1_sitInOrder_8 : decode cX1_sitInOrder 8 = .ok (.iconst 1, 1) := by decide +kernel
theorem dX1_sitInOrder_9 : decode cX1_sitInOrder 9 = .ok (.iload_n 2, 1) := by decide +kernel
theorem dX1_sitInOrder_10 : decode cX1_sitInOrder 10 = .ok (.ishl, 1) := by decide +kernel
theorem dX1_sitInOrder_11 : decode cX1_sitInOrder 11 = .ok (.iconst 2, 1) := by decide +kernel
theorem dX1_sitInOrder_12 : decode cX1_sitInOrder 12 = .ok (.isub, 1) := by decide +kernel
theorem dX1_sitInOrder_13 : decode cX1_sitInOrder 13 = .ok (.istore_n 3, 1) := by decide +kernel
theorem dX1_sitInOrder_14 : decode cX1_sitInOrder 14 = .ok (.iload_n 2, 1) := by decide +kernel
theorem dX1_sitInOrder_15 : decode cX1_sitInOrder 15 = .ok (.iconst 1, 1) := by decide +kernel
theorem dX1_sitInOrder_16 : decode cX1_sitInOrder 16 = .ok (.isub, 1) := by decide +kernel
theorem dX1_sitInOrder_17 : decode cX1_sitInOrder 17 = .ok (.invokestatic 108, 3) := by decide +kernel
theorem dX1_sitInOrder_20 : decode cX1_sitInOrder 20 = .ok (.istore 4, 2) := by decide +kernel
theorem dX1_sitInOrder_22 : decode cX1_sitInOrder 22 = .ok (.iload_n 1, 1) := by decide +kernel
theorem dX1_sitInOrder_23 : decode cX1_sitInOrder 23 = .ok (.istore 5, 2) := by decide +kernel
theorem dX1_sitInOrder_25 : decode cX1_sitInOrder 25 = .ok (.aload_n 0, 1) := by decide +kernel
theorem dX1_sitInOrder_26 : decode cX1_sitInOrder 26 = .ok (.iconst 0, 1) := by decide +kernel
theorem dX1_sitInOrder_27 : decode cX1_sitInOrder 27 = .ok (.invokevirtual 61, 3) := by decide +kernel
theorem dX1_sitInOrder_30 : decode cX1_sitInOrder 30 = .ok (.istore 6, 2) := by decide +kernel
theorem dX1_sitInOrder_32 : decode cX1_sitInOrder 32 = .ok (.iconst 0, 1) := by decide +kernel
theorem dX1_sitInOrder_33 : decode cX1_sitInOrder 33 = .ok (.istore 7, 2) := by decide +kernel
theorem dX1_sitInOrder_35 : decode cX1_sitInOrder 35 = .ok (.iload 7, 2) := by decide +kernel
theorem dX1_sitInOrder_37 : decode cX1_sitInOrder 37 = .ok (.iload_n 2, 1) := by decide +kernel
theorem dX1_sitInOrder_38 : decode cX1_sitInOrder 38 = .ok (.if_icmp .ge 73, 3) := by decide +kernel
theorem dX1_sitInOrder_41 : decode cX1_sitInOrder 41 = .ok (.iload 7, 2) := by decide +kernel
theorem dX1_sitInOrder_43 : decode cX1_sitInOrder 43 = .ok (.iload 6, 2) := by decide +kernel
theorem dX1_sitInOrder_45 : decode cX1_sitInOrder 45 = .ok (.if_icmp .eq 60, 3) := by decide +kernel
theorem dX1_sitInOrder_48 : decode cX1_sitInOrder 48 = .ok (.iload 4, 2) := by decide +kernel
theorem dX1_sitInOrder_50 : decode cX1_sitInOrder 50 = .ok (.iload_n 3, 1) := by decide +kernel
theorem dX1_sitInOrder_51 : decode cX1_sitInOrder 51 = .ok (.invokestatic 100, 3) := by decide +kernel
theorem dX1_sitInOrder_54 : decode cX1_sitInOrder 54 = .ok (.iconst 1, 1) := by decide +kernel
theorem dX1_sitInOrder_55 : decode cX1_sitInOrder 55 = .ok (.invokestatic 111, 3) := by decide +kernel
theorem dX1_sitInOrder_58 : decode cX1_sitInOrder 58 = .ok (.idiv, 1) := by decide +kernel
theorem dX1_sitInOrder_59 : decode cX1_sitInOrder 59 = .ok (.istore 4, 2) := by decide +kernel
theorem dX1_sitInOrder_61 : decode cX1_sitInOrder 61 = .ok (.aload_n 0, 1) := by decide +kernel
theorem dX1_sitInOrder_62 : decode cX1_sitInOrder 62 = .ok (.iload_n 3, 1) := by decide +kernel
theorem dX1_sitInOrder_63 : decode cX1_sitInOrder 63 = .ok (.iload 5, 2) := by decide +kernel
theorem dX1_sitInOrder_65 : decode cX1_sitInOrder 65 = .ok (.iload 4, 2) := by decide +kernel
theorem dX1_sitInOrder_67 : decode cX1_sitInOrder 67 = .ok (.iconst 1, 1) := by decide +kernel
theorem dX1_sitInOrder_68 : decode cX1_sitInOrder 68 = .ok (.invokestatic 111, 3) := by decide +kernel
theorem dX1_sitInOrder_71 : decode cX1_sitInOrder 71 = .ok (.idiv, 1) := by decide +kernel
theorem dX1_sitInOrder_72 : decode cX1_sitInOrder 72 = .ok (.invokevirtual 114, 3) := by decide +kernel
theorem dX1_sitInOrder_75 : decode cX1_sitInOrder 75 = .ok (.istore 8, 2) := by decide +kernel
theorem dX1_sitInOrder_77 : decode cX1_sitInOrder 77 = .ok (.iload 5, 2) := by decide +kernel
theorem dX1_sitInOrder_79 : decode cX1_sitInOrder 79 = .ok (.iload 4, 2) := by decide +kernel
theorem dX1_sitInOrder_81 : decode cX1_sitInOrder 81 = .ok (.iconst 1, 1) := by decide +kernel
theorem dX1_sitInOrder_82 : decode cX1_sitInOrder 82 = .ok (.invokestatic 111, 3) := by decide +kernel
theorem dX1_sitInOrder_85 : decode cX1_sitInOrder 85 = .ok (.irem, 1) := by decide +kernel
theorem dX1_sitInOrder_86 : decode cX1_sitInOrder 86 = .ok (.istore 5, 2) := by decide +kernel
theorem dX1_sitInOrder_88 : decode cX1_sitInOrder 88 = .ok (.aload_n 0, 1) := by decide +kernel
theorem dX1_sitInOrder_89 : decode cX1_sitInOrder 89 = .ok (.iload 8, 2) := by decide +kernel
theorem dX1_sitInOrder_91 : decode cX1_sitInOrder 91 = .ok (.iload 7, 2) := by decide +kernel
theorem dX1_sitInOrder_93 : decode cX1_sitInOrder 93 = .ok (.invokevirtual 117, 3) := by decide +kernel
theorem dX1_sitInOrder_96 : decode cX1_sitInOrder 96 = .ok (.iload_n 3, 1) := by decide +kernel
theorem dX1_sitInOrder_97 : decode cX1_sitInOrder 97 = .ok (.iconst 1, 1) := by decide +kernel
theorem dX1_sitInOrder_98 : decode cX1_sitInOrder 98 = .ok (.iload 8, 2) := by decide +kernel
theorem dX1_sitInOrder_100 : decode cX1_sitInOrder 100 = .ok (.ishl, 1) := by decide +kernel
theorem dX1_sitInOrder_101 : decode cX1_sitInOrder 101 = .ok (.iconst (-1), 1) := by decide +kernel
theorem dX1_sitInOrder_102 : decode cX1_sitInOrder 102 = .ok (.ixor, 1) := by decide +kernel
theorem dX1_sitInOrder_103 : decode cX1_sitInOrder 103 = .ok (.iand, 1) := by decide +kernel
theorem dX1_sitInOrder_104 : decode cX1_sitInOrder 104 = .ok (.istore_n 3, 1) := by decide +kernel
theorem dX1_sitInOrder_105 : decode cX1_sitInOrder 105 = .ok (.iinc 7 1, 3) := by decide +kernel
theorem dX1_sitInOrder_108 : decode cX1_sitInOrder 108 = .ok (.goto (-73), 3) := by decide +kernel
theorem dX1_sitInOrder_111 : decode cX1_sitInOrder 111 = .ok (.return_, 1) := by decide +kernel
theorem dX1_member_0 : decode cX1_member 0 = .ok (.iload_n 2, 1) := by decide +kernel
theorem dX1_member_1 : decode cX1_member 1 = .ok (.istore_n 3, 1) := by decide +kernel
theorem dX1_member_2 : decode cX1_member 2 = .ok (.iconst 0, 1) := by decide +kernel
theorem dX1_member_3 : decode cX1_member 3 = .ok (.istore 4, 2) := by decide +kernel
theorem dX1_member_5 : decode cX1_member 5 = .ok (.iload 4, 2) := by decide +kernel
theorem dX1_member_7 : decode cX1_member 7 = .ok (.aload_n 0, 1) := by decide +kernel
theorem dX1_member_8 : decode cX1_member 8 = .ok (.getfield 20, 3) := by decide +kernel
theorem dX1_member_11 : decode cX1_member 11 = .ok (.invokevirtual 50, 3) := by decide +kernel
theorem dX1_member_14 : decode cX1_member 14 = .ok (.if_icmp .ge 28, 3) := by decide +kernel
theorem dX1_member_17 : decode cX1_member 17 = .ok (.iload_n 1, 1) := by decide +kernel
theorem dX1_member_18 : decode cX1_member 18 = .ok (.iload 4, 2) := by decide +kernel
theorem dX1_member_20 : decode cX1_member 20 = .ok (.invokestatic 57, 3) := by decide +kernel
theorem dX1_member_23 : decode cX1_member 23 = .ok (.ifCond .eq 13, 3) := by decide +kernel
theorem dX1_member_26 : decode cX1_member 26 = .ok (.iload_n 3, 1) := by decide +kernel
theorem dX1_member_27 : decode cX1_member 27 = .ok (.ifCond .ne 6, 3) := by decide +kernel
theorem dX1_member_30 : decode cX1_member 30 = .ok (.iload 4, 2) := by decide +kernel
theorem dX1_member_32 : decode cX1_member 32 = .ok (.ireturn, 1) := by decide +kernel
theorem dX1_member_33 : decode cX1_member 33 = .ok (.iinc 3 (-1), 3) := by decide +kernel
theorem dX1_member_36 : decode cX1_member 36 = .ok (.iinc 4 1, 3) := by decide +kernel
theorem dX1_member_39 : decode cX1_member 39 = .ok (.goto (-34), 3) := by decide +kernel
theorem dX1_member_42 : decode cX1_member 42 = .ok (.iconst 0, 1) := by decide +kernel
theorem dX1_member_43 : decode cX1_member 43 = .ok (.ireturn, 1) := by decide +kernel
theorem dX1_seatFigures_0 : decode cX1_seatFigures 0 = .ok (.iconst 0, 1) := by decide +kernel
theorem dX1_seatFigures_1 : decode cX1_seatFigures 1 = .ok (.istore_n 1, 1) := by decide +kernel
theorem dX1_seatFigures_2 : decode cX1_seatFigures 2 = .ok (.iconst 0, 1) := by decide +kernel
theorem dX1_seatFigures_3 : decode cX1_seatFigures 3 = .ok (.istore_n 2, 1) := by decide +kernel
theorem dX1_seatFigures_4 : decode cX1_seatFigures 4 = .ok (.iload_n 2, 1) := by decide +kernel
theorem dX1_seatFigures_5 : decode cX1_seatFigures 5 = .ok (.aload_n 0, 1) := by decide +kernel
theorem dX1_seatFigures_6 : decode cX1_seatFigures 6 = .ok (.getfield 20, 3) := by decide +kernel
theorem dX1_seatFigures_9 : decode cX1_seatFigures 9 = .ok (.invokevirtual 50, 3) := by decide +kernel
theorem dX1_seatFigures_12 : decode cX1_seatFigures 12 = .ok (.if_icmp .ge 22, 3) := by decide +kernel
theorem dX1_seatFigures_15 : decode cX1_seatFigures 15 = .ok (.bipush 10, 2) := by decide +kernel
theorem dX1_seatFigures_17 : decode cX1_seatFigures 17 = .ok (.iload_n 1, 1) := by decide +kernel
theorem dX1_seatFigures_18 : decode cX1_seatFigures 18 = .ok (.imul, 1) := by decide +kernel
theorem dX1_seatFigures_19 : decode cX1_seatFigures 19 = .ok (.aload_n 0, 1) := by decide +kernel
theorem dX1_seatFigures_20 : decode cX1_seatFigures 20 = .ok (.iload_n 2, 1) := by decide +kernel
theorem dX1_seatFigures_21 : decode cX1_seatFigures 21 = .ok (.invokevirtual 97, 3) := by decide +kernel
theorem dX1_seatFigures_24 : decode cX1_seatFigures 24 = .ok (.iadd, 1) := by decide +kernel
theorem dX1_seatFigures_25 : decode cX1_seatFigures 25 = .ok (.iconst 1, 1) := by decide +kernel
theorem dX1_seatFigures_26 : decode cX1_seatFigures 26 = .ok (.iadd, 1) := by decide +kernel
theorem dX1_seatFigures_27 : decode cX1_seatFigures 27 = .ok (.istore_n 1, 1) := by decide +kernel
theorem dX1_seatFigures_28 : decode cX1_seatFigures 28 = .ok (.iinc 2 1, 3) := by decide +kernel
theorem dX1_seatFigures_31 : decode cX1_seatFigures 31 = .ok (.goto (-27), 3) := by decide +kernel
theorem dX1_seatFigures_34 : decode cX1_seatFigures 34 = .ok (.iload_n 1, 1) := by decide +kernel
theorem dX1_seatFigures_35 : decode cX1_seatFigures 35 = .ok (.ireturn, 1) := by decide +kernel
theorem dX2_init_0 : decode cX2_init 0 = .ok (.aload_n 0, 1) := by decide +kernel
theorem dX2_init_1 : decode cX2_init 1 = .ok (.invokespecial 1, 3) := by decide +kernel
theorem dX2_init_4 : decode cX2_init 4 = .ok (.aload_n 0, 1) := by decide +kernel
theorem dX2_init_5 : decode cX2_init 5 = .ok (.iload_n 1, 1) := by decide +kernel
theorem dX2_init_6 : decode cX2_init 6 = .ok (.iconst 0, 1) := by decide +kernel
theorem dX2_init_7 : decode cX2_init 7 = .ok (.invokestatic 7, 3) := by decide +kernel
theorem dX2_init_10 : decode cX2_init 10 = .ok (.newarray .int, 2) := by decide +kernel
theorem dX2_init_12 : decode cX2_init 12 = .ok (.putfield 13, 3) := by decide +kernel
theorem dX2_init_15 : decode cX2_init 15 = .ok (.return_, 1) := by decide +kernel
theorem dX2_at_0 : decode cX2_at 0 = .ok (.iload_n 1, 1) := by decide +kernel
theorem dX2_at_1 : decode cX2_at 1 = .ok (.ifCond .lt 21, 3) := by decide +kernel
theorem dX2_at_4 : decode cX2_at 4 = .ok (.iload_n 1, 1) := by decide +kernel
theorem dX2_at_5 : decode cX2_at 5 = .ok (.aload_n 0, 1) := by decide +kernel
theorem dX2_at_6 : decode cX2_at 6 = .ok (.getfield 13, 3) := by decide +kernel
theorem dX2_at_9 : decode cX2_at 9 = .ok (.arraylength, 1) := by decide +kernel
theorem dX2_at_10 : decode cX2_at 10 = .ok (.if_icmp .ge 12, 3) := by decide +kernel
theorem dX2_at_13 : decode cX2_at 13 = .ok (.aload_n 0, 1) := by decide +kernel
theorem dX2_at_14 : decode cX2_at 14 = .ok (.getfield 13, 3) := by decide +kernel
theorem dX2_at_17 : decode cX2_at 17 = .ok (.iload_n 1, 1) := by decide +kernel
theorem dX2_at_18 : decode cX2_at 18 = .ok (.iaload, 1) := by decide +kernel
theorem dX2_at_19 : decode cX2_at 19 = .ok (.goto 4, 3) := by decide +kernel
theorem dX2_at_22 : decode cX2_at 22 = .ok (.iconst 0, 1) := by decide +kernel
theorem dX2_at_23 : decode cX2_at 23 = .ok (.ireturn, 1) := by decide +kernel
theorem dX2_put_0 : decode cX2_put 0 = .ok (.iload_n 1, 1) := by decide +kernel
theorem dX2_put_1 : decode cX2_put 1 = .ok (.ifCond .lt 19, 3) := by decide +kernel
theorem dX2_put_4 : decode cX2_put 4 = .ok (.iload_n 1, 1) := by decide +kernel
theorem dX2_put_5 : decode cX2_put 5 = .ok (.aload_n 0, 1) := by decide +kernel
theorem dX2_put_6 : decode cX2_put 6 = .ok (.getfield 13, 3) := by decide +kernel
theorem dX2_put_9 : decode cX2_put 9 = .ok (.arraylength, 1) := by decide +kernel
theorem dX2_put_10 : decode cX2_put 10 = .ok (.if_icmp .ge 10, 3) := by decide +kernel
theorem dX2_put_13 : decode cX2_put 13 = .ok (.aload_n 0, 1) := by decide +kernel
theorem dX2_put_14 : decode cX2_put 14 = .ok (.getfield 13, 3) := by decide +kernel
theorem dX2_put_17 : decode cX2_put 17 = .ok (.iload_n 1, 1) := by decide +kernel
theorem dX2_put_18 : decode cX2_put 18 = .ok (.iload_n 2, 1) := by decide +kernel
theorem dX2_put_19 : decode cX2_put 19 = .ok (.iastore, 1) := by decide +kernel
theorem dX2_put_20 : decode cX2_put 20 = .ok (.return_, 1) := by decide +kernel
theorem dX2_fill_0 : decode cX2_fill 0 = .ok (.iconst 0, 1) := by decide +kernel
theorem dX2_fill_1 : decode cX2_fill 1 = .ok (.istore_n 2, 1) := by decide +kernel
theorem dX2_fill_2 : decode cX2_fill 2 = .ok (.iload_n 2, 1) := by decide +kernel
theorem dX2_fill_3 : decode cX2_fill 3 = .ok (.aload_n 0, 1) := by decide +kernel
theorem dX2_fill_4 : decode cX2_fill 4 = .ok (.getfield 13, 3) := by decide +kernel
theorem dX2_fill_7 : decode cX2_fill 7 = .ok (.arraylength, 1) := by decide +kernel
theorem dX2_fill_8 : decode cX2_fill 8 = .ok (.if_icmp .ge 16, 3) := by decide +kernel
theorem dX2_fill_11 : decode cX2_fill 11 = .ok (.aload_n 0, 1) := by decide +kernel
theorem dX2_fill_12 : decode cX2_fill 12 = .ok (.getfield 13, 3) := by decide +kernel
theorem dX2_fill_15 : decode cX2_fill 15 = .ok (.iload_n 2, 1) := by decide +kernel
theorem dX2_fill_16 : decode cX2_fill 16 = .ok (.iload_n 1, 1) := by decide +kernel
theorem dX2_fill_17 : decode cX2_fill 17 = .ok (.iastore, 1) := by decide +kernel
theorem dX2_fill_18 : decode cX2_fill 18 = .ok (.iinc 2 1, 3) := by decide +kernel
theorem dX2_fill_21 : decode cX2_fill 21 = .ok (.goto (-19), 3) := by decide +kernel
theorem dX2_fill_24 : decode cX2_fill 24 = .ok (.return_, 1) := by decide +kernel
theorem dX2_copy_0 : decode cX2_copy 0 = .ok (.iconst 0, 1) := by decide +kernel
theorem dX2_copy_1 : decode cX2_copy 1 = .ok (.istore 5, 2) := by decide +kernel
theorem dX2_copy_3 : decode cX2_copy 3 = .ok (.iload 5, 2) := by decide +kernel
theorem dX2_copy_5 : decode cX2_copy 5 = .ok (.iload 4, 2) := by decide +kernel
theorem dX2_copy_7 : decode cX2_copy 7 = .ok (.if_icmp .ge 25, 3) := by decide +kernel
theorem dX2_copy_10 : decode cX2_copy 10 = .ok (.aload_n 0, 1) := by decide +kernel
theorem dX2_copy_11 : decode cX2_copy 11 = .ok (.iload_n 1, 1) := by decide +kernel
theorem dX2_copy_12 : decode cX2_copy 12 = .ok (.iload 5, 2) := by decide +kernel
theorem dX2_copy_14 : decode cX2_copy 14 = .ok (.iadd, 1) := by decide +kernel
theorem dX2_copy_15 : decode cX2_copy 15 = .ok (.aload_n 2, 1) := by decide +kernel
theorem dX2_copy_16 : decode cX2_copy 16 = .ok (.iload_n 3, 1) := by decide +kernel
theorem dX2_copy_17 : decode cX2_copy 17 = .ok (.iload 5, 2) := by decide +kernel
theorem dX2_copy_19 : decode cX2_copy 19 = .ok (.iadd, 1) := by decide +kernel
theorem dX2_copy_20 : decode cX2_copy 20 = .ok (.invokevirtual 19, 3) := by decide +kernel
theorem dX2_copy_23 : decode cX2_copy 23 = .ok (.invokevirtual 23, 3) := by decide +kernel
theorem dX2_copy_26 : decode cX2_copy 26 = .ok (.iinc 5 1, 3) := by decide +kernel
theorem dX2_copy_29 : decode cX2_copy 29 = .ok (.goto (-26), 3) := by decide +kernel
theorem dX2_copy_32 : decode cX2_copy 32 = .ok (.return_, 1) := by decide +kernel
theorem dX3_init_0 : decode cX3_init 0 = .ok (.aload_n 0, 1) := by decide +kernel
theorem dX3_init_1 : decode cX3_init 1 = .ok (.invokespecial 3, 3) := by decide +kernel
theorem dX3_init_4 : decode cX3_init 4 = .ok (.return_, 1) := by decide +kernel
theorem dX3_count_0 : decode cX3_count 0 = .ok (.aload_n 0, 1) := by decide +kernel
theorem dX3_count_1 : decode cX3_count 1 = .ok (.getfield 9, 3) := by decide +kernel
theorem dX3_count_4 : decode cX3_count 4 = .ok (.ireturn, 1) := by decide +kernel
theorem dX3_add_0 : decode cX3_add 0 = .ok (.aload_n 0, 1) := by decide +kernel
theorem dX3_add_1 : decode cX3_add 1 = .ok (.getfield 9, 3) := by decide +kernel
theorem dX3_add_4 : decode cX3_add 4 = .ok (.bipush 6, 2) := by decide +kernel
theorem dX3_add_6 : decode cX3_add 6 = .ok (.if_icmp .lt 6, 3) := by decide +kernel
theorem dX3_add_9 : decode cX3_add 9 = .ok (.bipush (-4), 2) := by decide +kernel
theorem dX3_add_11 : decode cX3_add 11 = .ok (.ireturn, 1) := by decide +kernel
theorem dX3_add_12 : decode cX3_add 12 = .ok (.iload_n 2, 1) := by decide +kernel
theorem dX3_add_13 : decode cX3_add 13 = .ok (.ifCond .eq 18, 3) := by decide +kernel
theorem dX3_add_16 : decode cX3_add 16 = .ok (.aload_n 0, 1) := by decide +kernel
theorem dX3_add_17 : decode cX3_add 17 = .ok (.dup, 1) := by decide +kernel
theorem dX3_add_18 : decode cX3_add 18 = .ok (.getfield 15, 3) := by decide +kernel
theorem dX3_add_21 : decode cX3_add 21 = .ok (.iconst 1, 1) := by decide +kernel
theorem dX3_add_22 : decode cX3_add 22 = .ok (.iload_n 1, 1) := by decide +kernel
theorem dX3_add_23 : decode cX3_add 23 = .ok (.ishl, 1) := by decide +kernel
theorem dX3_add_24 : decode cX3_add 24 = .ok (.ior, 1) := by decide +kernel
theorem dX3_add_25 : decode cX3_add 25 = .ok (.putfield 15, 3) := by decide +kernel
theorem dX3_add_28 : decode cX3_add 28 = .ok (.goto 15, 3) := by decide +kernel
theorem dX3_add_31 : decode cX3_add 31 = .ok (.aload_n 0, 1) := by decide +kernel
theorem dX3_add_32 : decode cX3_add 32 = .ok (.dup, 1) := by decide +kernel
theorem dX3_add_33 : decode cX3_add 33 = .ok (.getfield 18, 3) := by decide +kernel
theorem dX3_add_36 : decode cX3_add 36 = .ok (.iconst 1, 1) := by decide +kernel
theorem dX3_add_37 : decode cX3_add 37 = .ok (.iload_n 1, 1) := by decide +kernel
theorem dX3_add_38 : decode cX3_add 38 = .ok (.ishl, 1) := by decide +kernel
theorem dX3_add_39 : decode cX3_add 39 = .ok (.ior, 1) := by decide +kernel
theorem dX3_add_40 : decode cX3_add 40 = .ok (.putfield 18, 3) := by decide +kernel
theorem dX3_add_43 : decode cX3_add 43 = .ok (.aload_n 0, 1) := by decide +kernel
theorem dX3_add_44 : decode cX3_add 44 = .ok (.dup, 1) := by decide +kernel
theorem dX3_add_45 : decode cX3_add 45 = .ok (.getfield 9, 3) := by decide +kernel
theorem dX3_add_48 : decode cX3_add 48 = .ok (.iconst 1, 1) := by decide +kernel
theorem dX3_add_49 : decode cX3_add 49 = .ok (.iadd, 1) := by decide +kernel
theorem dX3_add_50 : decode cX3_add 50 = .ok (.putfield 9, 3) := by decide +kernel
theorem dX3_add_53 : decode cX3_add 53 = .ok (.aload_n 0, 1) := by decide +kernel
theorem dX3_add_54 : decode cX3_add 54 = .ok (.getfield 9, 3) := by decide +kernel
theorem dX3_add_57 : decode cX3_add 57 = .ok (.ireturn, 1) := by decide +kernel
theorem dX3_clear_0 : decode cX3_clear 0 = .ok (.aload_n 0, 1) := by decide +kernel
theorem dX3_clear_1 : decode cX3_clear 1 = .ok (.getfield 9, 3) := by decide +kernel
theorem dX3_clear_4 : decode cX3_clear 4 = .ok (.istore_n 1, 1) := by decide +kernel
theorem dX3_clear_5 : decode cX3_clear 5 = .ok (.aload_n 0, 1) := by decide +kernel
theorem dX3_clear_6 : decode cX3_clear 6 = .ok (.iconst 0, 1) := by decide +kernel
theorem dX3_clear_7 : decode cX3_clear 7 = .ok (.putfield 9, 3) := by decide +kernel
theorem dX3_clear_10 : decode cX3_clear 10 = .ok (.aload_n 0, 1) := by decide +kernel
theorem dX3_clear_11 : decode cX3_clear 11 = .ok (.iconst 0, 1) := by decide +kernel
theorem dX3_clear_12 : decode cX3_clear 12 = .ok (.putfield 15, 3) := by decide +kernel
theorem dX3_clear_15 : decode cX3_clear 15 = .ok (.aload_n 0, 1) := by decide +kernel
theorem dX3_clear_16 : decode cX3_clear 16 = .ok (.iconst 0, 1) := by decide +kernel
theorem dX3_clear_17 : decode cX3_clear 17 = .ok (.putfield 18, 3) := by decide +kernel
theorem dX3_clear_20 : decode cX3_clear 20 = .ok (.iload_n 1, 1) := by decide +kernel
theorem dX3_clear_21 : decode cX3_clear 21 = .ok (.ireturn, 1) := by decide +kernel
theorem dX3_allows_0 : decode cX3_allows 0 = .ok (.iload_n 1, 1) := by decide +kernel
theorem dX3_allows_1 : decode cX3_allows 1 = .ok (.aload_n 0, 1) := by decide +kernel
theorem dX3_allows_2 : decode cX3_allows 2 = .ok (.getfield 15, 3) := by decide +kernel
theorem dX3_allows_5 : decode cX3_allows 5 = .ok (.iand, 1) := by decide +kernel
theorem dX3_allows_6 : decode cX3_allows 6 = .ok (.aload_n 0, 1) := by decide +kernel
theorem dX3_allows_7 : decode cX3_allows 7 = .ok (.getfield 15, 3) := by decide +kernel
theorem dX3_allows_10 : decode cX3_allows 10 = .ok (.if_icmp .ne 16, 3) := by decide +kernel
theorem dX3_allows_13 : decode cX3_allows 13 = .ok (.iload_n 1, 1) := by decide +kernel
theorem dX3_allows_14 : decode cX3_allows 14 = .ok (.aload_n 0, 1) := by decide +kernel
theorem dX3_allows_15 : decode cX3_allows 15 = .ok (.getfield 18, 3) := by decide +kernel
theorem dX3_allows_18 : decode cX3_allows 18 = .ok (.iand, 1) := by decide +kernel
theorem dX3_allows_19 : decode cX3_allows 19 = .ok (.ifCond .ne 7, 3) := by decide +kernel
theorem dX3_allows_22 : decode cX3_allows 22 = .ok (.iconst 1, 1) := by decide +kernel
theorem dX3_allows_23 : decode cX3_allows 23 = .ok (.goto 4, 3) := by decide +kernel
theorem dX3_allows_26 : decode cX3_allows 26 = .ok (.iconst 0, 1) := by decide +kernel
theorem dX3_allows_27 : decode cX3_allows 27 = .ok (.ireturn, 1) := by decide +kernel
theorem dX4_init_0 : decode cX4_init 0 = .ok (.aload_n 0, 1) := by decide +kernel
theorem dX4_init_1 : decode cX4_init 1 = .ok (.invokespecial 1, 3) := by decide +kernel
theorem dX4_init_4 : decode cX4_init 4 = .ok (.aload_n 0, 1) := by decide +kernel
theorem dX4_init_5 : decode cX4_init 5 = .ok (.new 7, 3) := by decide +kernel
theorem dX4_init_8 : decode cX4_init 8 = .ok (.dup, 1) := by decide +kernel
theorem dX4_init_9 : decode cX4_init 9 = .ok (.iload_n 1, 1) := by decide +kernel
theorem dX4_init_10 : decode cX4_init 10 = .ok (.bipush 15, 2) := by decide +kernel
theorem dX4_init_12 : decode cX4_init 12 = .ok (.imul, 1) := by decide +kernel
theorem dX4_init_13 : decode cX4_init 13 = .ok (.invokespecial 11, 3) := by decide +kernel
theorem dX4_init_16 : decode cX4_init 16 = .ok (.putfield 14, 3) := by decide +kernel
theorem dX4_init_19 : decode cX4_init 19 = .ok (.return_, 1) := by decide +kernel
theorem dX4_store_0 : decode cX4_store 0 = .ok (.aload_n 0, 1) := by decide +kernel
theorem dX4_store_1 : decode cX4_store 1 = .ok (.getfield 14, 3) := by decide +kernel
theorem dX4_store_4 : decode cX4_store 4 = .ok (.iload_n 1, 1) := by decide +kernel
theorem dX4_store_5 : decode cX4_store 5 = .ok (.bipush 15, 2) := by decide +kernel
theorem dX4_store_7 : decode cX4_store 7 = .ok (.imul, 1) := by decide +kernel
theorem dX4_store_8 : decode cX4_store 8 = .ok (.aload_n 2, 1) := by decide +kernel
theorem dX4_store_9 : decode cX4_store 9 = .ok (.getfield 20, 3) := by decide +kernel
theorem dX4_store_12 : decode cX4_store 12 = .ok (.iconst 0, 1) := by decide +kernel
theorem dX4_store_13 : decode cX4_store 13 = .ok (.bipush 15, 2) := by decide +kernel
theorem dX4_store_15 : decode cX4_store 15 = .ok (.invokevirtual 21, 3) := by decide +kernel
theorem dX4_store_18 : decode cX4_store 18 = .ok (.return_, 1) := by decide +kernel
theorem dX4_fetch_0 : decode cX4_fetch 0 = .ok (.aload_n 2, 1) := by decide +kernel
theorem dX4_fetch_1 : decode cX4_fetch 1 = .ok (.getfield 20, 3) := by decide +kernel
theorem dX4_fetch_4 : decode cX4_fetch 4 = .ok (.iconst 0, 1) := by decide +kernel
theorem dX4_fetch_5 : decode cX4_fetch 5 = .ok (.aload_n 0, 1) := by decide +kernel
theorem dX4_fetch_6 : decode cX4_fetch 6 = .ok (.getfield 14, 3) := by decide +kernel
theorem dX4_fetch_9 : decode cX4_fetch 9 = .ok (.iload_n 1, 1) := by decide +kernel
theorem dX4_fetch_10 : decode cX4_fetch 10 = .ok (.bipush 15, 2) := by decide +kernel
theorem dX4_fetch_12 : decode cX4_fetch 12 = .ok (.imul, 1) := by decide +kernel
theorem dX4_fetch_13 : decode cX4_fetch 13 = .ok (.bipush 15, 2) := by decide +kernel
theorem dX4_fetch_15 : decode cX4_fetch 15 = .ok (.invokevirtual 21, 3) := by decide +kernel
theorem dX4_fetch_18 : decode cX4_fetch 18 = .ok (.return_, 1) := by decide +kernel
theorem dX5_init_0 : decode cX5_init 0 = .ok (.aload_n 0, 1) := by decide +kernel
theorem dX5_init_1 : decode cX5_init 1 = .ok (.invokespecial 3, 3) := by decide +kernel
theorem dX5_init_4 : decode cX5_init 4 = .ok (.aload_n 0, 1) := by decide +kernel
theorem dX5_init_5 : decode cX5_init 5 = .ok (.new 9, 3) := by decide +kernel
theorem dX5_init_8 : decode cX5_init 8 = .ok (.dup, 1) := by decide +kernel
theorem dX5_init_9 : decode cX5_init 9 = .ok (.iconst 5, 1) := by decide +kernel
theorem dX5_init_10 : decode cX5_init 10 = .ok (.invokespecial 11, 3) := by decide +kernel
theorem dX5_init_13 : decode cX5_init 13 = .ok (.putfield 14, 3) := by decide +kernel
theorem dX5_init_16 : decode cX5_init 16 = .ok (.aload_n 0, 1) := by decide +kernel
theorem dX5_init_17 : decode cX5_init 17 = .ok (.new 9, 3) := by decide +kernel
theorem dX5_init_20 : decode cX5_init 20 = .ok (.dup, 1) := by decide +kernel
theorem dX5_init_21 : decode cX5_init 21 = .ok (.iconst 4, 1) := by decide +kernel
theorem dX5_init_22 : decode cX5_init 22 = .ok (.invokespecial 11, 3) := by decide +kernel
theorem dX5_init_25 : decode cX5_init 25 = .ok (.putfield 20, 3) := by decide +kernel
theorem dX5_init_28 : decode cX5_init 28 = .ok (.aload_n 0, 1) := by decide +kernel
theorem dX5_init_29 : decode cX5_init 29 = .ok (.new 9, 3) := by decide +kernel
theorem dX5_init_32 : decode cX5_init 32 = .ok (.dup, 1) := by decide +kernel
theorem dX5_init_33 : decode cX5_init 33 = .ok (.iconst 4, 1) := by decide +kernel
theorem dX5_init_34 : decode cX5_init 34 = .ok (.invokespecial 11, 3) := by decide +kernel
theorem dX5_init_37 : decode cX5_init 37 = .ok (.putfield 23, 3) := by decide +kernel
theorem dX5_init_40 : decode cX5_init 40 = .ok (.return_, 1) := by decide +kernel
theorem dX5_people_0 : decode cX5_people 0 = .ok (.aload_n 0, 1) := by decide +kernel
theorem dX5_people_1 : decode cX5_people 1 = .ok (.getfield 26, 3) := by decide +kernel
theorem dX5_people_4 : decode cX5_people 4 = .ok (.ireturn, 1) := by decide +kernel
theorem dX5_rules_0 : decode cX5_rules 0 = .ok (.aload_n 0, 1) := by decide +kernel
theorem dX5_rules_1 : decode cX5_rules 1 = .ok (.getfield 30, 3) := by decide +kernel
theorem dX5_rules_4 : decode cX5_rules 4 = .ok (.ireturn, 1) := by decide +kernel
theorem dX5_kind_0 : decode cX5_kind 0 = .ok (.aload_n 0, 1) := by decide +kernel
theorem dX5_kind_1 : decode cX5_kind 1 = .ok (.getfield 14, 3) := by decide +kernel
theorem dX5_kind_4 : decode cX5_kind 4 = .ok (.iload_n 1, 1) := by decide +kernel
theorem dX5_kind_5 : decode cX5_kind 5 = .ok (.invokevirtual 33, 3) := by decide +kernel
theorem dX5_kind_8 : decode cX5_kind 8 = .ok (.ireturn, 1) := by decide +kernel
theorem dX5_clear_0 : decode cX5_clear 0 = .ok (.aload_n 0, 1) := by decide +kernel
theorem dX5_clear_1 : decode cX5_clear 1 = .ok (.iconst 0, 1) := by decide +kernel
theorem dX5_clear_2 : decode cX5_clear 2 = .ok (.putfield 26, 3) := by decide +kernel
theorem dX5_clear_5 : decode cX5_clear 5 = .ok (.aload_n 0, 1) := by decide +kernel
theorem dX5_clear_6 : decode cX5_clear 6 = .ok (.iconst 0, 1) := by decide +kernel
theorem dX5_clear_7 : decode cX5_clear 7 = .ok (.putfield 30, 3) := by decide +kernel
theorem dX5_clear_10 : decode cX5_clear 10 = .ok (.return_, 1) := by decide +kernel
theorem dX5_addPerson_0 : decode cX5_addPerson 0 = .ok (.aload_n 0, 1) := by decide +kernel
theorem dX5_addPerson_1 : decode cX5_addPerson 1 = .ok (.getfield 26, 3) := by decide +kernel
theorem dX5_addPerson_4 : decode cX5_addPerson 4 = .ok (.istore_n 2, 1) := by decide +kernel
theorem dX5_addPerson_5 : decode cX5_addPerson 5 = .ok (.aload_n 0, 1) := by decide +kernel
theorem dX5_addPerson_6 : decode cX5_addPerson 6 = .ok (.getfield 26, 3) := by decide +kernel
theorem dX5_addPerson_9 : decode cX5_addPerson 9 = .ok (.iconst 5, 1) := by decide +kernel
theorem dX5_addPerson_10 : decode cX5_addPerson 10 = .ok (.if_icmp .ge 22, 3) := by decide +kernel
theorem dX5_addPerson_13 : decode cX5_addPerson 13 = .ok (.aload_n 0, 1) := by decide +kernel
theorem dX5_addPerson_14 : decode cX5_addPerson 14 = .ok (.getfield 14, 3) := by decide +kernel
theorem dX5_addPerson_17 : decode cX5_addPerson 17 = .ok (.iload_n 2, 1) := by decide +kernel
theorem dX5_addPerson_18 : decode cX5_addPerson 18 = .ok (.iload_n 1, 1) := by decide +kernel
theorem dX5_addPerson_19 : decode cX5_addPerson 19 = .ok (.invokevirtual 37, 3) := by decide +kernel
theorem dX5_addPerson_22 : decode cX5_addPerson 22 = .ok (.aload_n 0, 1) := by decide +kernel
theorem dX5_addPerson_23 : decode cX5_addPerson 23 = .ok (.dup, 1) := by decide +kernel
theorem dX5_addPerson_24 : decode cX5_addPerson 24 = .ok (.getfield 26, 3) := by decide +kernel
theorem dX5_addPerson_27 : decode cX5_addPerson 27 = .ok (.iconst 1, 1) := by decide +kernel
theorem dX5_addPerson_28 : decode cX5_addPerson 28 = .ok (.iadd, 1) := by decide +kernel
theorem dX5_addPerson_29 : decode cX5_addPerson 29 = .ok (.putfield 26, 3) := by decide +kernel
theorem dX5_addPerson_32 : decode cX5_addPerson 32 = .ok (.iload_n 2, 1) := by decide +kernel
theorem dX5_addPerson_33 : decode cX5_addPerson 33 = .ok (.ireturn, 1) := by decide +kernel
theorem dX5_addRule_0 : decode cX5_addRule 0 = .ok (.aload_n 0, 1) := by decide +kernel
theorem dX5_addRule_1 : decode cX5_addRule 1 = .ok (.getfield 30, 3) := by decide +kernel
theorem dX5_addRule_4 : decode cX5_addRule 4 = .ok (.iconst 4, 1) := by decide +kernel
theorem dX5_addRule_5 : decode cX5_addRule 5 = .ok (.if_icmp .ge 45, 3) := by decide +kernel
theorem dX5_addRule_8 : decode cX5_addRule 8 = .ok (.aload_n 0, 1) := by decide +kernel
theorem dX5_addRule_9 : decode cX5_addRule 9 = .ok (.getfield 20, 3) := by decide +kernel
theorem dX5_addRule_12 : decode cX5_addRule 12 = .ok (.aload_n 0, 1) := by decide +kernel
theorem dX5_addRule_13 : decode cX5_addRule 13 = .ok (.getfield 30, 3) := by decide +kernel
theorem dX5_addRule_16 : decode cX5_addRule 16 = .ok (.iconst 1, 1) := by decide +kernel
theorem dX5_addRule_17 : decode cX5_addRule 17 = .ok (.iload_n 1, 1) := by decide +kernel
theorem dX5_addRule_18 : decode cX5_addRule 18 = .ok (.ishl, 1) := by decide +kernel
theorem dX5_addRule_19 : decode cX5_addRule 19 = .ok (.iconst 1, 1) := by decide +kernel
theorem dX5_addRule_20 : decode cX5_addRule 20 = .ok (.iload_n 2, 1) := by decide +kernel
theorem dX5_addRule_21 : decode cX5_addRule 21 = .ok (.ishl, 1) := by decide +kernel
theorem dX5_addRule_22 : decode cX5_addRule 22 = .ok (.ior, 1) := by decide +kernel
theorem dX5_addRule_23 : decode cX5_addRule 23 = .ok (.invokevirtual 37, 3) := by decide +kernel
theorem dX5_addRule_26 : decode cX5_addRule 26 = .ok (.aload_n 0, 1) := by decide +kernel
theorem dX5_addRule_27 : decode cX5_addRule 27 = .ok (.getfield 23, 3) := by decide +kernel
theorem dX5_addRule_30 : decode cX5_addRule 30 = .ok (.aload_n 0, 1) := by decide +kernel
theorem dX5_addRule_31 : decode cX5_addRule 31 = .ok (.getfield 30, 3) := by decide +kernel
theorem dX5_addRule_34 : decode cX5_addRule 34 = .ok (.iconst 1, 1) := by decide +kernel
theorem dX5_addRule_35 : decode cX5_addRule 35 = .ok (.iload_n 3, 1) := by decide +kernel
theorem dX5_addRule_36 : decode cX5_addRule 36 = .ok (.ishl, 1) := by decide +kernel
theorem dX5_addRule_37 : decode cX5_addRule 37 = .ok (.invokevirtual 37, 3) := by decide +kernel
theorem dX5_addRule_40 : decode cX5_addRule 40 = .ok (.aload_n 0, 1) := by decide +kernel
theorem dX5_addRule_41 : decode cX5_addRule 41 = .ok (.dup, 1) := by decide +kernel
theorem dX5_addRule_42 : decode cX5_addRule 42 = .ok (.getfield 30, 3) := by decide +kernel
theorem dX5_addRule_45 : decode cX5_addRule 45 = .ok (.iconst 1, 1) := by decide +kernel
theorem dX5_addRule_46 : decode cX5_addRule 46 = .ok (.iadd, 1) := by decide +kernel
theorem dX5_addRule_47 : decode cX5_addRule 47 = .ok (.putfield 30, 3) := by decide +kernel
theorem dX5_addRule_50 : decode cX5_addRule 50 = .ok (.return_, 1) := by decide +kernel
theorem dX5_closure_0 : decode cX5_closure 0 = .ok (.iload_n 1, 1) := by decide +kernel
theorem dX5_closure_1 : decode cX5_closure 1 = .ok (.istore_n 2, 1) := by decide +kernel
theorem dX5_closure_2 : decode cX5_closure 2 = .ok (.iconst 0, 1) := by decide +kernel
theorem dX5_closure_3 : decode cX5_closure 3 = .ok (.istore_n 3, 1) := by decide +kernel
theorem dX5_closure_4 : decode cX5_closure 4 = .ok (.iload_n 3, 1) := by decide +kernel
theorem dX5_closure_5 : decode cX5_closure 5 = .ok (.aload_n 0, 1) := by decide +kernel
theorem dX5_closure_6 : decode cX5_closure 6 = .ok (.getfield 30, 3) := by decide +kernel
theorem dX5_closure_9 : decode cX5_closure 9 = .ok (.if_icmp .ge 59, 3) := by decide +kernel
theorem dX5_closure_12 : decode cX5_closure 12 = .ok (.iconst 0, 1) := by decide +kernel
theorem dX5_closure_13 : decode cX5_closure 13 = .ok (.istore 4, 2) := by decide +kernel
theorem dX5_closure_15 : decode cX5_closure 15 = .ok (.iload 4, 2) := by decide +kernel
theorem dX5_closure_17 : decode cX5_closure 17 = .ok (.aload_n 0, 1) := by decide +kernel
theorem dX5_closure_18 : decode cX5_closure 18 = .ok (.getfield 30, 3) := by decide +kernel
theorem dX5_closure_21 : decode cX5_closure 21 = .ok (.if_icmp .ge 41, 3) := by decide +kernel
theorem dX5_closure_24 : decode cX5_closure 24 = .ok (.aload_n 0, 1) := by decide +kernel
theorem dX5_closure_25 : decode cX5_closure 25 = .ok (.getfield 20, 3) := by decide +kernel
theorem dX5_closure_28 : decode cX5_closure 28 = .ok (.iload 4, 2) := by decide +kernel
theorem dX5_closure_30 : decode cX5_closure 30 = .ok (.invokevirtual 33, 3) := by decide +kernel
theorem dX5_closure_33 : decode cX5_closure 33 = .ok (.istore 5, 2) := by decide +kernel
theorem dX5_closure_35 : decode cX5_closure 35 = .ok (.iload_n 2, 1) := by decide +kernel
theorem dX5_closure_36 : decode cX5_closure 36 = .ok (.iload 5, 2) := by decide +kernel
theorem dX5_closure_38 : decode cX5_closure 38 = .ok (.iand, 1) := by decide +kernel
theorem dX5_closure_39 : decode cX5_closure 39 = .ok (.iload 5, 2) := by decide +kernel
theorem dX5_closure_41 : decode cX5_closure 41 = .ok (.if_icmp .ne 15, 3) := by decide +kernel
theorem dX5_closure_44 : decode cX5_closure 44 = .ok (.iload_n 2, 1) := by decide +kernel
theorem dX5_closure_45 : decode cX5_closure 45 = .ok (.aload_n 0, 1) := by decide +kernel
theorem dX5_closure_46 : decode cX5_closure 46 = .ok (.getfield 23, 3) := by decide +kernel
theorem dX5_closure_49 : decode cX5_closure 49 = .ok (.iload 4, 2) := by decide +kernel
theorem dX5_closure_51 : decode cX5_closure 51 = .ok (.invokevirtual 33, 3) := by decide +kernel
theorem dX5_closure_54 : decode cX5_closure 54 = .ok (.ior, 1) := by decide +kernel
theorem dX5_closure_55 : decode cX5_closure 55 = .ok (.istore_n 2, 1) := by decide +kernel
theorem dX5_closure_56 : decode cX5_closure 56 = .ok (.iinc 4 1, 3) := by decide +kernel
theorem dX5_closure_59 : decode cX5_closure 59 = .ok (.goto (-44), 3) := by decide +kernel
theorem dX5_closure_62 : decode cX5_closure 62 = .ok (.iinc 3 1, 3) := by decide +kernel
theorem dX5_closure_65 : decode cX5_closure 65 = .ok (.goto (-61), 3) := by decide +kernel
theorem dX5_closure_68 : decode cX5_closure 68 = .ok (.iload_n 2, 1) := by decide +kernel
theorem dX5_closure_69 : decode cX5_closure 69 = .ok (.ireturn, 1) := by decide +kernel
theorem dX6_init_0 : decode cX6_init 0 = .ok (.aload_n 0, 1) := by decide +kernel
theorem dX6_init_1 : decode cX6_init 1 = .ok (.invokespecial 3, 3) := by decide +kernel
theorem dX6_init_4 : decode cX6_init 4 = .ok (.aload_n 0, 1) := by decide +kernel
theorem dX6_init_5 : decode cX6_init 5 = .ok (.new 9, 3) := by decide +kernel
theorem dX6_init_8 : decode cX6_init 8 = .ok (.dup, 1) := by decide +kernel
theorem dX6_init_9 : decode cX6_init 9 = .ok (.bipush 40, 2) := by decide +kernel
theorem dX6_init_11 : decode cX6_init 11 = .ok (.invokespecial 11, 3) := by decide +kernel
theorem dX6_init_14 : decode cX6_init 14 = .ok (.putfield 14, 3) := by decide +kernel
theorem dX6_init_17 : decode cX6_init 17 = .ok (.return_, 1) := by decide +kernel
theorem dX6_length_0 : decode cX6_length 0 = .ok (.aload_n 0, 1) := by decide +kernel
theorem dX6_length_1 : decode cX6_length 1 = .ok (.getfield 20, 3) := by decide +kernel
theorem dX6_length_4 : decode cX6_length 4 = .ok (.ireturn, 1) := by decide +kernel
theorem dX6_at_0 : decode cX6_at 0 = .ok (.aload_n 0, 1) := by decide +kernel
theorem dX6_at_1 : decode cX6_at 1 = .ok (.getfield 14, 3) := by decide +kernel
theorem dX6_at_4 : decode cX6_at 4 = .ok (.iload_n 1, 1) := by decide +kernel
theorem dX6_at_5 : decode cX6_at 5 = .ok (.invokevirtual 24, 3) := by decide +kernel
theorem dX6_at_8 : decode cX6_at 8 = .ok (.ireturn, 1) := by decide +kernel
theorem dX6_digit_0 : decode cX6_digit 0 = .ok (.aload_n 0, 1) := by decide +kernel
theorem dX6_digit_1 : decode cX6_digit 1 = .ok (.getfield 14, 3) := by decide +kernel
theorem dX6_digit_4 : decode cX6_digit 4 = .ok (.iload_n 1, 1) := by decide +kernel
theorem dX6_digit_5 : decode cX6_digit 5 = .ok (.invokevirtual 24, 3) := by decide +kernel
theorem dX6_digit_8 : decode cX6_digit 8 = .ok (.bipush 48, 2) := by decide +kernel
theorem dX6_digit_10 : decode cX6_digit 10 = .ok (.isub, 1) := by decide +kernel
theorem dX6_digit_11 : decode cX6_digit 11 = .ok (.ireturn, 1) := by decide +kernel
theorem dX6_letter_0 : decode cX6_letter 0 = .ok (.aload_n 0, 1) := by decide +kernel
theorem dX6_letter_1 : decode cX6_letter 1 = .ok (.getfield 14, 3) := by decide +kernel
theorem dX6_letter_4 : decode cX6_letter 4 = .ok (.iload_n 1, 1) := by decide +kernel
theorem dX6_letter_5 : decode cX6_letter 5 = .ok (.invokevirtual 24, 3) := by decide +kernel
theorem dX6_letter_8 : decode cX6_letter 8 = .ok (.bipush 97, 2) := by decide +kernel
theorem dX6_letter_10 : decode cX6_letter 10 = .ok (.isub, 1) := by decide +kernel
theorem dX6_letter_11 : decode cX6_letter 11 = .ok (.ireturn, 1) := by decide +kernel
theorem dX6_append_0 : decode cX6_append 0 = .ok (.aload_n 0, 1) := by decide +kernel
theorem dX6_append_1 : decode cX6_append 1 = .ok (.getfield 20, 3) := by decide +kernel
theorem dX6_append_4 : decode cX6_append 4 = .ok (.bipush 40, 2) := by decide +kernel
theorem dX6_append_6 : decode cX6_append 6 = .ok (.if_icmp .lt 6, 3) := by decide +kernel
theorem dX6_append_9 : decode cX6_append 9 = .ok (.bipush (-4), 2) := by decide +kernel
theorem dX6_append_11 : decode cX6_append 11 = .ok (.ireturn, 1) := by decide +kernel
theorem dX6_append_12 : decode cX6_append 12 = .ok (.aload_n 0, 1) := by decide +kernel
theorem dX6_append_13 : decode cX6_append 13 = .ok (.getfield 14, 3) := by decide +kernel
theorem dX6_append_16 : decode cX6_append 16 = .ok (.aload_n 0, 1) := by decide +kernel
theorem dX6_append_17 : decode cX6_append 17 = .ok (.getfield 20, 3) := by decide +kernel
theorem dX6_append_20 : decode cX6_append 20 = .ok (.iload_n 1, 1) := by decide +kernel
theorem dX6_append_21 : decode cX6_append 21 = .ok (.invokevirtual 28, 3) := by decide +kernel
theorem dX6_append_24 : decode cX6_append 24 = .ok (.aload_n 0, 1) := by decide +kernel
theorem dX6_append_25 : decode cX6_append 25 = .ok (.dup, 1) := by decide +kernel
theorem dX6_append_26 : decode cX6_append 26 = .ok (.getfield 20, 3) := by decide +kernel
theorem dX6_append_29 : decode cX6_append 29 = .ok (.iconst 1, 1) := by decide +kernel
theorem dX6_append_30 : decode cX6_append 30 = .ok (.iadd, 1) := by decide +kernel
theorem dX6_append_31 : decode cX6_append 31 = .ok (.putfield 20, 3) := by decide +kernel
theorem dX6_append_34 : decode cX6_append 34 = .ok (.aload_n 0, 1) := by decide +kernel
theorem dX6_append_35 : decode cX6_append 35 = .ok (.getfield 20, 3) := by decide +kernel
theorem dX6_append_38 : decode cX6_append 38 = .ok (.ireturn, 1) := by decide +kernel
theorem dX6_clear_0 : decode cX6_clear 0 = .ok (.aload_n 0, 1) := by decide +kernel
theorem dX6_clear_1 : decode cX6_clear 1 = .ok (.getfield 20, 3) := by decide +kernel
theorem dX6_clear_4 : decode cX6_clear 4 = .ok (.istore_n 1, 1) := by decide +kernel
theorem dX6_clear_5 : decode cX6_clear 5 = .ok (.aload_n 0, 1) := by decide +kernel
theorem dX6_clear_6 : decode cX6_clear 6 = .ok (.iconst 0, 1) := by decide +kernel
theorem dX6_clear_7 : decode cX6_clear 7 = .ok (.putfield 20, 3) := by decide +kernel
theorem dX6_clear_10 : decode cX6_clear 10 = .ok (.iload_n 1, 1) := by decide +kernel
theorem dX6_clear_11 : decode cX6_clear 11 = .ok (.ireturn, 1) := by decide +kernel
theorem dX6_firstFault_0 : decode cX6_firstFault 0 = .ok (.iconst 0, 1) := by decide +kernel
theorem dX6_firstFault_1 : decode cX6_firstFault 1 = .ok (.istore_n 1, 1) := by decide +kernel
theorem dX6_firstFault_2 : decode cX6_firstFault 2 = .ok (.iload_n 1, 1) := by decide +kernel
theorem dX6_firstFault_3 : decode cX6_firstFault 3 = .ok (.aload_n 0, 1) := by decide +kernel
theorem dX6_firstFault_4 : decode cX6_firstFault 4 = .ok (.getfield 20, 3) := by decide +kernel
theorem dX6_firstFault_7 : decode cX6_firstFault 7 = .ok (.if_icmp .ge 19, 3) := by decide +kernel
theorem dX6_firstFault_10 : decode cX6_firstFault 10 = .ok (.aload_n 0, 1) := by decide +kernel
theorem dX6_firstFault_11 : decode cX6_firstFault 11 = .ok (.iload_n 1, 1) := by decide +kernel
theorem dX6_firstFault_12 : decode cX6_firstFault 12 = .ok (.invokevirtual 32, 3) := by decide +kernel
theorem dX6_firstFault_15 : decode cX6_firstFault 15 = .ok (.ifCond .ne 5, 3) := by decide +kernel
theorem dX6_firstFault_18 : decode cX6_firstFault 18 = .ok (.iload_n 1, 1) := by decide +kernel
theorem dX6_firstFault_19 : decode cX6_firstFault 19 = .ok (.ireturn, 1) := by decide +kernel
theorem dX6_firstFault_20 : decode cX6_firstFault 20 = .ok (.iinc 1 1, 3) := by decide +kernel
theorem dX6_firstFault_23 : decode cX6_firstFault 23 = .ok (.goto (-21), 3) := by decide +kernel
theorem dX6_firstFault_26 : decode cX6_firstFault 26 = .ok (.aload_n 0, 1) := by decide +kernel
theorem dX6_firstFault_27 : decode cX6_firstFault 27 = .ok (.getfield 20, 3) := by decide +kernel
theorem dX6_firstFault_30 : decode cX6_firstFault 30 = .ok (.ifCond .le 18, 3) := by decide +kernel
theorem dX6_firstFault_33 : decode cX6_firstFault 33 = .ok (.aload_n 0, 1) := by decide +kernel
theorem dX6_firstFault_34 : decode cX6_firstFault 34 = .ok (.getfield 20, 3) := by decide +kernel
theorem dX6_firstFault_37 : decode cX6_firstFault 37 = .ok (.iconst 1, 1) := by decide +kernel
theorem dX6_firstFault_38 : decode cX6_firstFault 38 = .ok (.isub, 1) := by decide +kernel
theorem dX6_firstFault_39 : decode cX6_firstFault 39 = .ok (.iconst 4, 1) := by decide +kernel
theorem dX6_firstFault_40 : decode cX6_firstFault 40 = .ok (.irem, 1) := by decide +kernel
theorem dX6_firstFault_41 : decode cX6_firstFault 41 = .ok (.ifCond .ne 7, 3) := by decide +kernel
theorem dX6_firstFault_44 : decode cX6_firstFault 44 = .ok (.iconst 1, 1) := by decide +kernel
theorem dX6_firstFault_45 : decode cX6_firstFault 45 = .ok (.goto 4, 3) := by decide +kernel
theorem dX6_firstFault_48 : decode cX6_firstFault 48 = .ok (.iconst 0, 1) := by decide +kernel
theorem dX6_firstFault_49 : decode cX6_firstFault 49 = .ok (.istore_n 1, 1) := by decide +kernel
theorem dX6_firstFault_50 : decode cX6_firstFault 50 = .ok (.iload_n 1, 1) := by decide +kernel
theorem dX6_firstFault_51 : decode cX6_firstFault 51 = .ok (.ifCond .eq 8, 3) := by decide +kernel
theorem dX6_firstFault_54 : decode cX6_firstFault 54 = .ok (.bipush (-9), 2) := by decide +kernel
theorem dX6_firstFault_56 : decode cX6_firstFault 56 = .ok (.goto 7, 3) := by decide +kernel
theorem dX6_firstFault_59 : decode cX6_firstFault 59 = .ok (.aload_n 0, 1) := by decide +kernel
theorem dX6_firstFault_60 : decode cX6_firstFault 60 = .ok (.getfield 20, 3) := by decide +kernel
theorem dX6_firstFault_63 : decode cX6_firstFault 63 = .ok (.ireturn, 1) := by decide +kernel
theorem dX6_fits_0 : decode cX6_fits 0 = .ok (.iload_n 1, 1) := by decide +kernel
theorem dX6_fits_1 : decode cX6_fits 1 = .ok (.ifCond .ne 19, 3) := by decide +kernel
theorem dX6_fits_4 : decode cX6_fits 4 = .ok (.aload_n 0, 1) := by decide +kernel
theorem dX6_fits_5 : decode cX6_fits 5 = .ok (.iconst 0, 1) := by decide +kernel
theorem dX6_fits_6 : decode cX6_fits 6 = .ok (.invokevirtual 36, 3) := by decide +kernel
theorem dX6_fits_9 : decode cX6_fits 9 = .ok (.bipush 75, 2) := by decide +kernel
theorem dX6_fits_11 : decode cX6_fits 11 = .ok (.if_icmp .ne 7, 3) := by decide +kernel
theorem dX6_fits_14 : decode cX6_fits 14 = .ok (.iconst 1, 1) := by decide +kernel
theorem dX6_fits_15 : decode cX6_fits 15 = .ok (.goto 4, 3) := by decide +kernel
theorem dX6_fits_18 : decode cX6_fits 18 = .ok (.iconst 0, 1) := by decide +kernel
theorem dX6_fits_19 : decode cX6_fits 19 = .ok (.ireturn, 1) := by decide +kernel
theorem dX6_fits_20 : decode cX6_fits 20 = .ok (.iload_n 1, 1) := by decide +kernel
theorem dX6_fits_21 : decode cX6_fits 21 = .ok (.iconst 1, 1) := by decide +kernel
theorem dX6_fits_22 : decode cX6_fits 22 = .ok (.isub, 1) := by decide +kernel
theorem dX6_fits_23 : decode cX6_fits 23 = .ok (.iconst 4, 1) := by decide +kernel
theorem dX6_fits_24 : decode cX6_fits 24 = .ok (.irem, 1) := by decide +kernel
theorem dX6_fits_25 : decode cX6_fits 25 = .ok (.istore_n 2, 1) := by decide +kernel
theorem dX6_fits_26 : decode cX6_fits 26 = .ok (.iload_n 2, 1) := by decide +kernel
theorem dX6_fits_27 : decode cX6_fits 27 = .ok (.ifCond .ne 9, 3) := by decide +kernel
theorem dX6_fits_30 : decode cX6_fits 30 = .ok (.aload_n 0, 1) := by decide +kernel
theorem dX6_fits_31 : decode cX6_fits 31 = .ok (.iload_n 1, 1) := by decide +kernel
theorem dX6_fits_32 : decode cX6_fits 32 = .ok (.invokevirtual 37, 3) := by decide +kernel
theorem dX6_fits_35 : decode cX6_fits 35 = .ok (.ireturn, 1) := by decide +kernel
theorem dX6_fits_36 : decode cX6_fits 36 = .ok (.aload_n 0, 1) := by decide +kernel
theorem dX6_fits_37 : decode cX6_fits 37 = .ok (.iload_n 1, 1) := by decide +kernel
theorem dX6_fits_38 : decode cX6_fits 38 = .ok (.iload_n 2, 1) := by decide +kernel
theorem dX6_fits_39 : decode cX6_fits 39 = .ok (.isub, 1) := by decide +kernel
theorem dX6_fits_40 : decode cX6_fits 40 = .ok (.invokevirtual 36, 3) := by decide +kernel
theorem dX6_fits_43 : decode cX6_fits 43 = .ok (.bipush 82, 2) := by decide +kernel
theorem dX6_fits_45 : decode cX6_fits 45 = .ok (.if_icmp .ne 13, 3) := by decide +kernel
theorem dX6_fits_48 : decode cX6_fits 48 = .ok (.aload_n 0, 1) := by decide +kernel
theorem dX6_fits_49 : decode cX6_fits 49 = .ok (.iload_n 1, 1) := by decide +kernel
theorem dX6_fits_50 : decode cX6_fits 50 = .ok (.invokevirtual 40, 3) := by decide +kernel
theorem dX6_fits_53 : decode cX6_fits 53 = .ok (.iconst 5, 1) := by decide +kernel
theorem dX6_fits_54 : decode cX6_fits 54 = .ok (.invokestatic 43, 3) := by decide +kernel
theorem dX6_fits_57 : decode cX6_fits 57 = .ok (.ireturn, 1) := by decide +kernel
theorem dX6_fits_58 : decode cX6_fits 58 = .ok (.iload_n 2, 1) := by decide +kernel
theorem dX6_fits_59 : decode cX6_fits 59 = .ok (.iconst 1, 1) := by decide +kernel
theorem dX6_fits_60 : decode cX6_fits 60 = .ok (.if_icmp .ne 15, 3) := by decide +kernel
theorem dX6_fits_63 : decode cX6_fits 63 = .ok (.aload_n 0, 1) := by decide +kernel
theorem dX6_fits_64 : decode cX6_fits 64 = .ok (.iload_n 1, 1) := by decide +kernel
theorem dX6_fits_65 : decode cX6_fits 65 = .ok (.invokevirtual 40, 3) := by decide +kernel
theorem dX6_fits_68 : decode cX6_fits 68 = .ok (.iconst 3, 1) := by decide +kernel
theorem dX6_fits_69 : decode cX6_fits 69 = .ok (.invokestatic 43, 3) := by decide +kernel
theorem dX6_fits_72 : decode cX6_fits 72 = .ok (.goto 13, 3) := by decide +kernel
theorem dX6_fits_75 : decode cX6_fits 75 = .ok (.aload_n 0, 1) := by decide +kernel
theorem dX6_fits_76 : decode cX6_fits 76 = .ok (.iload_n 1, 1) := by decide +kernel
theorem dX6_fits_77 : decode cX6_fits 77 = .ok (.invokevirtual 47, 3) := by decide +kernel
theorem dX6_fits_80 : decode cX6_fits 80 = .ok (.bipush 7, 2) := by decide +kernel
theorem dX6_fits_82 : decode cX6_fits 82 = .ok (.invokestatic 43, 3) := by decide +kernel
theorem dX6_fits_85 : decode cX6_fits 85 = .ok (.ireturn, 1) := by decide +kernel
theorem dX6_startsPart_0 : decode cX6_startsPart 0 = .ok (.aload_n 0, 1) := by decide +kernel
theorem dX6_startsPart_1 : decode cX6_startsPart 1 = .ok (.iload_n 1, 1) := by decide +kernel
theorem dX6_startsPart_2 : decode cX6_startsPart 2 = .ok (.invokevirtual 36, 3) := by decide +kernel
theorem dX6_startsPart_5 : decode cX6_startsPart 5 = .ok (.bipush 80, 2) := by decide +kernel
theorem dX6_startsPart_7 : decode cX6_startsPart 7 = .ok (.if_icmp .ne 20, 3) := by decide +kernel
theorem dX6_startsPart_10 : decode cX6_startsPart 10 = .ok (.aload_n 0, 1) := by decide +kernel
theorem dX6_startsPart_11 : decode cX6_startsPart 11 = .ok (.iload_n 1, 1) := by decide +kernel
theorem dX6_startsPart_12 : decode cX6_startsPart 12 = .ok (.bipush 80, 2) := by decide +kernel
theorem dX6_startsPart_14 : decode cX6_startsPart 14 = .ok (.invokevirtual 50, 3) := by decide +kernel
theorem dX6_startsPart_17 : decode cX6_startsPart 17 = .ok (.iconst 5, 1) := by decide +kernel
theorem dX6_startsPart_18 : decode cX6_startsPart 18 = .ok (.if_icmp .ge 7, 3) := by decide +kernel
theorem dX6_startsPart_21 : decode cX6_startsPart 21 = .ok (.iconst 1, 1) := by decide +kernel
theorem dX6_startsPart_22 : decode cX6_startsPart 22 = .ok (.goto 4, 3) := by decide +kernel
theorem dX6_startsPart_25 : decode cX6_startsPart 25 = .ok (.iconst 0, 1) := by decide +kernel
theorem dX6_startsPart_26 : decode cX6_startsPart 26 = .ok (.ireturn, 1) := by decide +kernel
theorem dX6_startsPart_27 : decode cX6_startsPart 27 = .ok (.aload_n 0, 1) := by decide +kernel
theorem dX6_startsPart_28 : decode cX6_startsPart 28 = .ok (.iload_n 1, 1) := by decide +kernel
theorem dX6_startsPart_29 : decode cX6_startsPart 29 = .ok (.invokevirtual 36, 3) := by decide +kernel
theorem dX6_startsPart_32 : decode cX6_startsPart 32 = .ok (.bipush 82, 2) := by decide +kernel
theorem dX6_startsPart_34 : decode cX6_startsPart 34 = .ok (.if_icmp .ne 18, 3) := by decide +kernel
theorem dX6_startsPart_37 : decode cX6_startsPart 37 = .ok (.aload_n 0, 1) := by decide +kernel
theorem dX6_startsPart_38 : decode cX6_startsPart 38 = .ok (.iload_n 1, 1) := by decide +kernel
theorem dX6_startsPart_39 : decode cX6_startsPart 39 = .ok (.bipush 82, 2) := by decide +kernel
theorem dX6_startsPart_41 : decode cX6_startsPart 41 = .ok (.invokevirtual 50, 3) := by decide +kernel
theorem dX6_startsPart_44 : decode cX6_startsPart 44 = .ok (.iconst 4, 1) := by decide +kernel
theorem dX6_startsPart_45 : decode cX6_startsPart 45 = .ok (.if_icmp .ge 7, 3) := by decide +kernel
theorem dX6_startsPart_48 : decode cX6_startsPart 48 = .ok (.iconst 1, 1) := by decide +kernel
theorem dX6_startsPart_49 : decode cX6_startsPart 49 = .ok (.goto 4, 3) := by decide +kernel
theorem dX6_startsPart_52 : decode cX6_startsPart 52 = .ok (.iconst 0, 1) := by decide +kernel
theorem dX6_startsPart_53 : decode cX6_startsPart 53 = .ok (.ireturn, 1) := by decide +kernel
theorem dX6_partsAhead_0 : decode cX6_partsAhead 0 = .ok (.iconst 0, 1) := by decide +kernel
theorem dX6_partsAhead_1 : decode cX6_partsAhead 1 = .ok (.istore_n 3, 1) := by decide +kernel
theorem dX6_partsAhead_2 : decode cX6_partsAhead 2 = .ok (.iconst 1, 1) := by decide +kernel
theorem dX6_partsAhead_3 : decode cX6_partsAhead 3 = .ok (.istore 4, 2) := by decide +kernel
theorem dX6_partsAhead_5 : decode cX6_partsAhead 5 = .ok (.iload 4, 2) := by decide +kernel
theorem dX6_partsAhead_7 : decode cX6_partsAhead 7 = .ok (.iload_n 1, 1) := by decide +kernel
theorem dX6_partsAhead_8 : decode cX6_partsAhead 8 = .ok (.if_icmp .ge 22, 3) := by decide +kernel
theorem dX6_partsAhead_11 : decode cX6_partsAhead 11 = .ok (.aload_n 0, 1) := by decide +kernel
theorem dX6_partsAhead_12 : decode cX6_partsAhead 12 = .ok (.iload 4, 2) := by decide +kernel
theorem dX6_partsAhead_14 : decode cX6_partsAhead 14 = .ok (.invokevirtual 36, 3) := by decide +kernel
theorem dX6_partsAhead_17 : decode cX6_partsAhead 17 = .ok (.iload_n 2, 1) := by decide +kernel
theorem dX6_partsAhead_18 : decode cX6_partsAhead 18 = .ok (.if_icmp .ne 6, 3) := by decide +kernel
theorem dX6_partsAhead_21 : decode cX6_partsAhead 21 = .ok (.iinc 3 1, 3) := by decide +kernel
theorem dX6_partsAhead_24 : decode cX6_partsAhead 24 = .ok (.iinc 4 4, 3) := by decide +kernel
theorem dX6_partsAhead_27 : decode cX6_partsAhead 27 = .ok (.goto (-22), 3) := by decide +kernel
theorem dX6_partsAhead_30 : decode cX6_partsAhead 30 = .ok (.iload_n 3, 1) := by decide +kernel
theorem dX6_partsAhead_31 : decode cX6_partsAhead 31 = .ok (.ireturn, 1) := by decide +kernel
theorem dX6_isBetween_0 : decode cX6_isBetween 0 = .ok (.iload_n 0, 1) := by decide +kernel
theorem dX6_isBetween_1 : decode cX6_isBetween 1 = .ok (.ifCond .lt 12, 3) := by decide +kernel
theorem dX6_isBetween_4 : decode cX6_isBetween 4 = .ok (.iload_n 0, 1) := by decide +kernel
theorem dX6_isBetween_5 : decode cX6_isBetween 5 = .ok (.iload_n 1, 1) := by decide +kernel
theorem dX6_isBetween_6 : decode cX6_isBetween 6 = .ok (.if_icmp .gt 7, 3) := by decide +kernel
theorem dX6_isBetween_9 : decode cX6_isBetween 9 = .ok (.iconst 1, 1) := by decide +kernel
theorem dX6_isBetween_10 : decode cX6_isBetween 10 = .ok (.goto 4, 3) := by decide +kernel
theorem dX6_isBetween_13 : decode cX6_isBetween 13 = .ok (.iconst 0, 1) := by decide +kernel
theorem dX6_isBetween_14 : decode cX6_isBetween 14 = .ok (.ireturn, 1) := by decide +kernel
theorem dJ6_bitCount_0f7a4_0 : decode cJ6_bitCount_0f7a4 0 = .ok (.iload_n 0, 1) := by decide +kernel
theorem dJ6_bitCount_0f7a4_1 : decode cJ6_bitCount_0f7a4 1 = .ok (.iload_n 0, 1) := by decide +kernel
theorem dJ6_bitCount_0f7a4_2 : decode cJ6_bitCount_0f7a4 2 = .ok (.iconst 1, 1) := by decide +kernel
theorem dJ6_bitCount_0f7a4_3 : decode cJ6_bitCount_0f7a4 3 = .ok (.iushr, 1) := by decide +kernel
theorem dJ6_bitCount_0f7a4_4 : decode cJ6_bitCount_0f7a4 4 = .ok (.ldc_w 265, 3) := by decide +kernel
theorem dJ6_bitCount_0f7a4_7 : decode cJ6_bitCount_0f7a4 7 = .ok (.iand, 1) := by decide +kernel
theorem dJ6_bitCount_0f7a4_8 : decode cJ6_bitCount_0f7a4 8 = .ok (.isub, 1) := by decide +kernel
theorem dJ6_bitCount_0f7a4_9 : decode cJ6_bitCount_0f7a4 9 = .ok (.istore_n 0, 1) := by decide +kernel
theorem dJ6_bitCount_0f7a4_10 : decode cJ6_bitCount_0f7a4 10 = .ok (.iload_n 0, 1) := by decide +kernel
theorem dJ6_bitCount_0f7a4_11 : decode cJ6_bitCount_0f7a4 11 = .ok (.ldc_w 266, 3) := by decide +kernel
theorem dJ6_bitCount_0f7a4_14 : decode cJ6_bitCount_0f7a4 14 = .ok (.iand, 1) := by decide +kernel
theorem dJ6_bitCount_0f7a4_15 : decode cJ6_bitCount_0f7a4 15 = .ok (.iload_n 0, 1) := by decide +kernel
theorem dJ6_bitCount_0f7a4_16 : decode cJ6_bitCount_0f7a4 16 = .ok (.iconst 2, 1) := by decide +kernel
theorem dJ6_bitCount_0f7a4_17 : decode cJ6_bitCount_0f7a4 17 = .ok (.iushr, 1) := by decide +kernel
theorem dJ6_bitCount_0f7a4_18 : decode cJ6_bitCount_0f7a4 18 = .ok (.ldc_w 266, 3) := by decide +kernel
theorem dJ6_bitCount_0f7a4_21 : decode cJ6_bitCount_0f7a4 21 = .ok (.iand, 1) := by decide +kernel
theorem dJ6_bitCount_0f7a4_22 : decode cJ6_bitCount_0f7a4 22 = .ok (.iadd, 1) := by decide +kernel
theorem dJ6_bitCount_0f7a4_23 : decode cJ6_bitCount_0f7a4 23 = .ok (.istore_n 0, 1) := by decide +kernel
theorem dJ6_bitCount_0f7a4_24 : decode cJ6_bitCount_0f7a4 24 = .ok (.iload_n 0, 1) := by decide +kernel
theorem dJ6_bitCount_0f7a4_25 : decode cJ6_bitCount_0f7a4 25 = .ok (.iload_n 0, 1) := by decide +kernel
theorem dJ6_bitCount_0f7a4_26 : decode cJ6_bitCount_0f7a4 26 = .ok (.iconst 4, 1) := by decide +kernel
theorem dJ6_bitCount_0f7a4_27 : decode cJ6_bitCount_0f7a4 27 = .ok (.iushr, 1) := by decide +kernel
theorem dJ6_bitCount_0f7a4_28 : decode cJ6_bitCount_0f7a4 28 = .ok (.iadd, 1) := by decide +kernel
theorem dJ6_bitCount_0f7a4_29 : decode cJ6_bitCount_0f7a4 29 = .ok (.ldc_w 267, 3) := by decide +kernel
theorem dJ6_bitCount_0f7a4_32 : decode cJ6_bitCount_0f7a4 32 = .ok (.iand, 1) := by decide +kernel
theorem dJ6_bitCount_0f7a4_33 : decode cJ6_bitCount_0f7a4 33 = .ok (.istore_n 0, 1) := by decide +kernel
theorem dJ6_bitCount_0f7a4_34 : decode cJ6_bitCount_0f7a4 34 = .ok (.iload_n 0, 1) := by decide +kernel
theorem dJ6_bitCount_0f7a4_35 : decode cJ6_bitCount_0f7a4 35 = .ok (.iload_n 0, 1) := by decide +kernel
theorem dJ6_bitCount_0f7a4_36 : decode cJ6_bitCount_0f7a4 36 = .ok (.bipush 8, 2) := by decide +kernel
theorem dJ6_bitCount_0f7a4_38 : decode cJ6_bitCount_0f7a4 38 = .ok (.iushr, 1) := by decide +kernel
theorem dJ6_bitCount_0f7a4_39 : decode cJ6_bitCount_0f7a4 39 = .ok (.iadd, 1) := by decide +kernel
theorem dJ6_bitCount_0f7a4_40 : decode cJ6_bitCount_0f7a4 40 = .ok (.istore_n 0, 1) := by decide +kernel
theorem dJ6_bitCount_0f7a4_41 : decode cJ6_bitCount_0f7a4 41 = .ok (.iload_n 0, 1) := by decide +kernel
theorem dJ6_bitCount_0f7a4_42 : decode cJ6_bitCount_0f7a4 42 = .ok (.iload_n 0, 1) := by decide +kernel
theorem dJ6_bitCount_0f7a4_43 : decode cJ6_bitCount_0f7a4 43 = .ok (.bipush 16, 2) := by decide +kernel
theorem dJ6_bitCount_0f7a4_45 : decode cJ6_bitCount_0f7a4 45 = .ok (.iushr, 1) := by decide +kernel
theorem dJ6_bitCount_0f7a4_46 : decode cJ6_bitCount_0f7a4 46 = .ok (.iadd, 1) := by decide +kernel
theorem dJ6_bitCount_0f7a4_47 : decode cJ6_bitCount_0f7a4 47 = .ok (.istore_n 0, 1) := by decide +kernel
theorem dJ6_bitCount_0f7a4_48 : decode cJ6_bitCount_0f7a4 48 = .ok (.iload_n 0, 1) := by decide +kernel
theorem dJ6_bitCount_0f7a4_49 : decode cJ6_bitCount_0f7a4 49 = .ok (.bipush 63, 2) := by decide +kernel
theorem dJ6_bitCount_0f7a4_51 : decode cJ6_bitCount_0f7a4 51 = .ok (.iand, 1) := by decide +kernel
theorem dJ6_bitCount_0f7a4_52 : decode cJ6_bitCount_0f7a4 52 = .ok (.ireturn, 1) := by decide +kernel
