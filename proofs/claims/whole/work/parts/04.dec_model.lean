theorem dX8_init_0 : decode cX8_init 0 = .ok (.aload_n 0, 1) := by decide +kernel
theorem dX8_init_1 : decode cX8_init 1 = .ok (.invokespecial 1, 3) := by decide +kernel
theorem dX8_init_4 : decode cX8_init 4 = .ok (.aload_n 0, 1) := by decide +kernel
theorem dX8_init_5 : decode cX8_init 5 = .ok (.bipush 40, 2) := by decide +kernel
theorem dX8_init_7 : decode cX8_init 7 = .ok (.newarray .int, 2) := by decide +kernel
theorem dX8_init_9 : decode cX8_init 9 = .ok (.putfield 7, 3) := by decide +kernel
theorem dX8_init_12 : decode cX8_init 12 = .ok (.aload_n 0, 1) := by decide +kernel
theorem dX8_init_13 : decode cX8_init 13 = .ok (.iconst 5, 1) := by decide +kernel
theorem dX8_init_14 : decode cX8_init 14 = .ok (.newarray .int, 2) := by decide +kernel
theorem dX8_init_16 : decode cX8_init 16 = .ok (.putfield 13, 3) := by decide +kernel
theorem dX8_init_19 : decode cX8_init 19 = .ok (.aload_n 0, 1) := by decide +kernel
theorem dX8_init_20 : decode cX8_init 20 = .ok (.bipush 12, 2) := by decide +kernel
theorem dX8_init_22 : decode cX8_init 22 = .ok (.newarray .int, 2) := by decide +kernel
theorem dX8_init_24 : decode cX8_init 24 = .ok (.putfield 16, 3) := by decide +kernel
theorem dX8_init_27 : decode cX8_init 27 = .ok (.aload_n 0, 1) := by decide +kernel
theorem dX8_init_28 : decode cX8_init 28 = .ok (.iconst 5, 1) := by decide +kernel
theorem dX8_init_29 : decode cX8_init 29 = .ok (.newarray .int, 2) := by decide +kernel
theorem dX8_init_31 : decode cX8_init 31 = .ok (.putfield 19, 3) := by decide +kernel
theorem dX8_init_34 : decode cX8_init 34 = .ok (.aload_n 0, 1) := by decide +kernel
theorem dX8_init_35 : decode cX8_init 35 = .ok (.iconst 5, 1) := by decide +kernel
theorem dX8_init_36 : decode cX8_init 36 = .ok (.newarray .int, 2) := by decide +kernel
theorem dX8_init_38 : decode cX8_init 38 = .ok (.putfield 22, 3) := by decide +kernel
theorem dX8_init_41 : decode cX8_init 41 = .ok (.aload_n 0, 1) := by decide +kernel
theorem dX8_init_42 : decode cX8_init 42 = .ok (.bipush 12, 2) := by decide +kernel
theorem dX8_init_44 : decode cX8_init 44 = .ok (.newarray .int, 2) := by decide +kernel
theorem dX8_init_46 : decode cX8_init 46 = .ok (.putfield 25, 3) := by decide +kernel
theorem dX8_init_49 : decode cX8_init 49 = .ok (.aload_n 0, 1) := by decide +kernel
theorem dX8_init_50 : decode cX8_init 50 = .ok (.bipush 15, 2) := by decide +kernel
theorem dX8_init_52 : decode cX8_init 52 = .ok (.newarray .int, 2) := by decide +kernel
theorem dX8_init_54 : decode cX8_init 54 = .ok (.putfield 28, 3) := by decide +kernel
theorem dX8_init_57 : decode cX8_init 57 = .ok (.aload_n 0, 1) := by decide +kernel
theorem dX8_init_58 : decode cX8_init 58 = .ok (.bipush 15, 2) := by decide +kernel
theorem dX8_init_60 : decode cX8_init 60 = .ok (.newarray .int, 2) := by decide +kernel
theorem dX8_init_62 : decode cX8_init 62 = .ok (.putfield 31, 3) := by decide +kernel
theorem dX8_init_65 : decode cX8_init 65 = .ok (.aload_n 0, 1) := by decide +kernel
theorem dX8_init_66 : decode cX8_init 66 = .ok (.sipush 210, 3) := by decide +kernel
theorem dX8_init_69 : decode cX8_init 69 = .ok (.newarray .int, 2) := by decide +kernel
theorem dX8_init_71 : decode cX8_init 71 = .ok (.putfield 34, 3) := by decide +kernel
theorem dX8_init_74 : decode cX8_init 74 = .ok (.aload_n 0, 1) := by decide +kernel
theorem dX8_init_75 : decode cX8_init 75 = .ok (.bipush 30, 2) := by decide +kernel
theorem dX8_init_77 : decode cX8_init 77 = .ok (.newarray .int, 2) := by decide +kernel
theorem dX8_init_79 : decode cX8_init 79 = .ok (.putfield 37, 3) := by decide +kernel
theorem dX8_init_82 : decode cX8_init 82 = .ok (.aload_n 0, 1) := by decide +kernel
theorem dX8_init_83 : decode cX8_init 83 = .ok (.iconst 2, 1) := by decide +kernel
theorem dX8_init_84 : decode cX8_init 84 = .ok (.newarray .boolean, 2) := by decide +kernel
theorem dX8_init_86 : decode cX8_init 86 = .ok (.putfield 40, 3) := by decide +kernel
theorem dX8_init_89 : decode cX8_init 89 = .ok (.aload_n 0, 1) := by decide +kernel
theorem dX8_init_90 : decode cX8_init 90 = .ok (.bipush 6, 2) := by decide +kernel
theorem dX8_init_92 : decode cX8_init 92 = .ok (.newarray .int, 2) := by decide +kernel
theorem dX8_init_94 : decode cX8_init 94 = .ok (.putfield 44, 3) := by decide +kernel
theorem dX8_init_97 : decode cX8_init 97 = .ok (.aload_n 0, 1) := by decide +kernel
theorem dX8_init_98 : decode cX8_init 98 = .ok (.bipush 6, 2) := by decide +kernel
theorem dX8_init_100 : decode cX8_init 100 = .ok (.newarray .int, 2) := by decide +kernel
theorem dX8_init_102 : decode cX8_init 102 = .ok (.putfield 47, 3) := by decide +kernel
theorem dX8_init_105 : decode cX8_init 105 = .ok (.aload_n 0, 1) := by decide +kernel
theorem dX8_init_106 : decode cX8_init 106 = .ok (.bipush 32, 2) := by decide +kernel
theorem dX8_init_108 : decode cX8_init 108 = .ok (.newarray .int, 2) := by decide +kernel
theorem dX8_init_110 : decode cX8_init 110 = .ok (.putfield 50, 3) := by decide +kernel
theorem dX8_init_113 : decode cX8_init 113 = .ok (.return_, 1) := by decide +kernel
theorem dX8_in_0 : decode cX8_in 0 = .ok (.lload_n 0, 1) := by decide +kernel
theorem dX8_in_1 : decode cX8_in 1 = .ok (.lload_n 2, 1) := by decide +kernel
theorem dX8_in_2 : decode cX8_in 2 = .ok (.lcmp, 1) := by decide +kernel
theorem dX8_in_3 : decode cX8_in 3 = .ok (.ifCond .lt 14, 3) := by decide +kernel
theorem dX8_in_6 : decode cX8_in 6 = .ok (.lload_n 0, 1) := by decide +kernel
theorem dX8_in_7 : decode cX8_in 7 = .ok (.lload 4, 2) := by decide +kernel
theorem dX8_in_9 : decode cX8_in 9 = .ok (.lcmp, 1) := by decide +kernel
theorem dX8_in_10 : decode cX8_in 10 = .ok (.ifCond .gt 7, 3) := by decide +kernel
theorem dX8_in_13 : decode cX8_in 13 = .ok (.iconst 1, 1) := by decide +kernel
theorem dX8_in_14 : decode cX8_in 14 = .ok (.goto 4, 3) := by decide +kernel
theorem dX8_in_17 : decode cX8_in 17 = .ok (.iconst 0, 1) := by decide +kernel
theorem dX8_in_18 : decode cX8_in 18 = .ok (.ireturn, 1) := by decide +kernel
theorem dX8_has_0 : decode cX8_has 0 = .ok (.iload_n 0, 1) := by decide +kernel
theorem dX8_has_1 : decode cX8_has 1 = .ok (.iload_n 1, 1) := by decide +kernel
theorem dX8_has_2 : decode cX8_has 2 = .ok (.ishr, 1) := by decide +kernel
theorem dX8_has_3 : decode cX8_has 3 = .ok (.iconst 1, 1) := by decide +kernel
theorem dX8_has_4 : decode cX8_has 4 = .ok (.iand, 1) := by decide +kernel
theorem dX8_has_5 : decode cX8_has 5 = .ok (.iconst 1, 1) := by decide +kernel
theorem dX8_has_6 : decode cX8_has 6 = .ok (.if_icmp .ne 7, 3) := by decide +kernel
theorem dX8_has_9 : decode cX8_has 9 = .ok (.iconst 1, 1) := by decide +kernel
theorem dX8_has_10 : decode cX8_has 10 = .ok (.goto 4, 3) := by decide +kernel
theorem dX8_has_13 : decode cX8_has 13 = .ok (.iconst 0, 1) := by decide +kernel
theorem dX8_has_14 : decode cX8_has 14 = .ok (.ireturn, 1) := by decide +kernel
theorem dX8_many_0 : decode cX8_many 0 = .ok (.iconst 0, 1) := by decide +kernel
theorem dX8_many_1 : decode cX8_many 1 = .ok (.istore_n 1, 1) := by decide +kernel
theorem dX8_many_2 : decode cX8_many 2 = .ok (.iconst 0, 1) := by decide +kernel
theorem dX8_many_3 : decode cX8_many 3 = .ok (.istore_n 2, 1) := by decide +kernel
theorem dX8_many_4 : decode cX8_many 4 = .ok (.iload_n 2, 1) := by decide +kernel
theorem dX8_many_5 : decode cX8_many 5 = .ok (.bipush 6, 2) := by decide +kernel
theorem dX8_many_7 : decode cX8_many 7 = .ok (.if_icmp .ge 17, 3) := by decide +kernel
theorem dX8_many_10 : decode cX8_many 10 = .ok (.iload_n 1, 1) := by decide +kernel
theorem dX8_many_11 : decode cX8_many 11 = .ok (.iload_n 0, 1) := by decide +kernel
theorem dX8_many_12 : decode cX8_many 12 = .ok (.iload_n 2, 1) := by decide +kernel
theorem dX8_many_13 : decode cX8_many 13 = .ok (.ishr, 1) := by decide +kernel
theorem dX8_many_14 : decode cX8_many 14 = .ok (.iconst 1, 1) := by decide +kernel
theorem dX8_many_15 : decode cX8_many 15 = .ok (.iand, 1) := by decide +kernel
theorem dX8_many_16 : decode cX8_many 16 = .ok (.iadd, 1) := by decide +kernel
theorem dX8_many_17 : decode cX8_many 17 = .ok (.istore_n 1, 1) := by decide +kernel
theorem dX8_many_18 : decode cX8_many 18 = .ok (.iinc 2 1, 3) := by decide +kernel
theorem dX8_many_21 : decode cX8_many 21 = .ok (.goto (-17), 3) := by decide +kernel
theorem dX8_many_24 : decode cX8_many 24 = .ok (.iload_n 1, 1) := by decide +kernel
theorem dX8_many_25 : decode cX8_many 25 = .ok (.ireturn, 1) := by decide +kernel
theorem dX8_noPerson_0 : decode cX8_noPerson 0 = .ok (.iload_n 1, 1) := by decide +kernel
theorem dX8_noPerson_1 : decode cX8_noPerson 1 = .ok (.i2l, 1) := by decide +kernel
theorem dX8_noPerson_2 : decode cX8_noPerson 2 = .ok (.lconst 0, 1) := by decide +kernel
theorem dX8_noPerson_3 : decode cX8_noPerson 3 = .ok (.aload_n 0, 1) := by decide +kernel
theorem dX8_noPerson_4 : decode cX8_noPerson 4 = .ok (.getfield 57, 3) := by decide +kernel
theorem dX8_noPerson_7 : decode cX8_noPerson 7 = .ok (.iconst 1, 1) := by decide +kernel
theorem dX8_noPerson_8 : decode cX8_noPerson 8 = .ok (.isub, 1) := by decide +kernel
theorem dX8_noPerson_9 : decode cX8_noPerson 9 = .ok (.i2l, 1) := by decide +kernel
theorem dX8_noPerson_10 : decode cX8_noPerson 10 = .ok (.invokestatic 60, 3) := by decide +kernel
theorem dX8_noPerson_13 : decode cX8_noPerson 13 = .ok (.ifCond .ne 7, 3) := by decide +kernel
theorem dX8_noPerson_16 : decode cX8_noPerson 16 = .ok (.iconst 1, 1) := by decide +kernel
theorem dX8_noPerson_17 : decode cX8_noPerson 17 = .ok (.goto 4, 3) := by decide +kernel
theorem dX8_noPerson_20 : decode cX8_noPerson 20 = .ok (.iconst 0, 1) := by decide +kernel
theorem dX8_noPerson_21 : decode cX8_noPerson 21 = .ok (.ireturn, 1) := by decide +kernel
theorem dX8_noFact_0 : decode cX8_noFact 0 = .ok (.iload_n 0, 1) := by decide +kernel
theorem dX8_noFact_1 : decode cX8_noFact 1 = .ok (.i2l, 1) := by decide +kernel
theorem dX8_noFact_2 : decode cX8_noFact 2 = .ok (.lconst 0, 1) := by decide +kernel
theorem dX8_noFact_3 : decode cX8_noFact 3 = .ok (.ldc2_w 64, 3) := by decide +kernel
theorem dX8_noFact_6 : decode cX8_noFact 6 = .ok (.invokestatic 60, 3) := by decide +kernel
theorem dX8_noFact_9 : decode cX8_noFact 9 = .ok (.ifCond .ne 7, 3) := by decide +kernel
theorem dX8_noFact_12 : decode cX8_noFact 12 = .ok (.iconst 1, 1) := by decide +kernel
theorem dX8_noFact_13 : decode cX8_noFact 13 = .ok (.goto 4, 3) := by decide +kernel
theorem dX8_noFact_16 : decode cX8_noFact 16 = .ok (.iconst 0, 1) := by decide +kernel
theorem dX8_noFact_17 : decode cX8_noFact 17 = .ok (.ireturn, 1) := by decide +kernel
theorem dX8_write_0 : decode cX8_write 0 = .ok (.aload_n 0, 1) := by decide +kernel
theorem dX8_write_1 : decode cX8_write 1 = .ok (.iconst 0, 1) := by decide +kernel
theorem dX8_write_2 : decode cX8_write 2 = .ok (.putfield 53, 3) := by decide +kernel
theorem dX8_write_5 : decode cX8_write 5 = .ok (.iload_n 1, 1) := by decide +kernel
theorem dX8_write_6 : decode cX8_write 6 = .ok (.i2l, 1) := by decide +kernel
theorem dX8_write_7 : decode cX8_write 7 = .ok (.lconst 0, 1) := by decide +kernel
theorem dX8_write_8 : decode cX8_write 8 = .ok (.ldc2_w 66, 3) := by decide +kernel
theorem dX8_write_11 : decode cX8_write 11 = .ok (.invokestatic 60, 3) := by decide +kernel
theorem dX8_write_14 : decode cX8_write 14 = .ok (.ifCond .ne 6, 3) := by decide +kernel
theorem dX8_write_17 : decode cX8_write 17 = .ok (.bipush (-2), 2) := by decide +kernel
theorem dX8_write_19 : decode cX8_write 19 = .ok (.ireturn, 1) := by decide +kernel
theorem dX8_write_20 : decode cX8_write 20 = .ok (.aload_n 0, 1) := by decide +kernel
theorem dX8_write_21 : decode cX8_write 21 = .ok (.getfield 68, 3) := by decide +kernel
theorem dX8_write_24 : decode cX8_write 24 = .ok (.bipush 40, 2) := by decide +kernel
theorem dX8_write_26 : decode cX8_write 26 = .ok (.if_icmp .ne 6, 3) := by decide +kernel
theorem dX8_write_29 : decode cX8_write 29 = .ok (.bipush (-4), 2) := by decide +kernel
theorem dX8_write_31 : decode cX8_write 31 = .ok (.ireturn, 1) := by decide +kernel
theorem dX8_write_32 : decode cX8_write 32 = .ok (.aload_n 0, 1) := by decide +kernel
theorem dX8_write_33 : decode cX8_write 33 = .ok (.getfield 7, 3) := by decide +kernel
theorem dX8_write_36 : decode cX8_write 36 = .ok (.aload_n 0, 1) := by decide +kernel
theorem dX8_write_37 : decode cX8_write 37 = .ok (.getfield 68, 3) := by decide +kernel
theorem dX8_write_40 : decode cX8_write 40 = .ok (.iload_n 1, 1) := by decide +kernel
theorem dX8_write_41 : decode cX8_write 41 = .ok (.iastore, 1) := by decide +kernel
theorem dX8_write_42 : decode cX8_write 42 = .ok (.aload_n 0, 1) := by decide +kernel
theorem dX8_write_43 : decode cX8_write 43 = .ok (.dup, 1) := by decide +kernel
theorem dX8_write_44 : decode cX8_write 44 = .ok (.getfield 68, 3) := by decide +kernel
theorem dX8_write_47 : decode cX8_write 47 = .ok (.iconst 1, 1) := by decide +kernel
theorem dX8_write_48 : decode cX8_write 48 = .ok (.iadd, 1) := by decide +kernel
theorem dX8_write_49 : decode cX8_write 49 = .ok (.putfield 68, 3) := by decide +kernel
theorem dX8_write_52 : decode cX8_write 52 = .ok (.aload_n 0, 1) := by decide +kernel
theorem dX8_write_53 : decode cX8_write 53 = .ok (.getfield 68, 3) := by decide +kernel
theorem dX8_write_56 : decode cX8_write 56 = .ok (.ireturn, 1) := by decide +kernel
theorem dX8_wipe_0 : decode cX8_wipe 0 = .ok (.aload_n 0, 1) := by decide +kernel
theorem dX8_wipe_1 : decode cX8_wipe 1 = .ok (.iconst 0, 1) := by decide +kernel
theorem dX8_wipe_2 : decode cX8_wipe 2 = .ok (.putfield 53, 3) := by decide +kernel
theorem dX8_wipe_5 : decode cX8_wipe 5 = .ok (.aload_n 0, 1) := by decide +kernel
theorem dX8_wipe_6 : decode cX8_wipe 6 = .ok (.getfield 68, 3) := by decide +kernel
theorem dX8_wipe_9 : decode cX8_wipe 9 = .ok (.istore_n 1, 1) := by decide +kernel
theorem dX8_wipe_10 : decode cX8_wipe 10 = .ok (.aload_n 0, 1) := by decide +kernel
theorem dX8_wipe_11 : decode cX8_wipe 11 = .ok (.iconst 0, 1) := by decide +kernel
theorem dX8_wipe_12 : decode cX8_wipe 12 = .ok (.putfield 68, 3) := by decide +kernel
theorem dX8_wipe_15 : decode cX8_wipe 15 = .ok (.iload_n 1, 1) := by decide +kernel
theorem dX8_wipe_16 : decode cX8_wipe 16 = .ok (.ireturn, 1) := by decide +kernel
theorem dX8_sign_0 : decode cX8_sign 0 = .ok (.aload_n 0, 1) := by decide +kernel
theorem dX8_sign_1 : decode cX8_sign 1 = .ok (.getfield 71, 3) := by decide +kernel
theorem dX8_sign_4 : decode cX8_sign 4 = .ok (.aload_n 0, 1) := by decide +kernel
theorem dX8_sign_5 : decode cX8_sign 5 = .ok (.getfield 68, 3) := by decide +kernel
theorem dX8_sign_8 : decode cX8_sign 8 = .ok (.if_icmp .eq 24, 3) := by decide +kernel
theorem dX8_sign_11 : decode cX8_sign 11 = .ok (.aload_n 0, 1) := by decide +kernel
theorem dX8_sign_12 : decode cX8_sign 12 = .ok (.getfield 7, 3) := by decide +kernel
theorem dX8_sign_15 : decode cX8_sign 15 = .ok (.aload_n 0, 1) := by decide +kernel
theorem dX8_sign_16 : decode cX8_sign 16 = .ok (.getfield 71, 3) := by decide +kernel
theorem dX8_sign_19 : decode cX8_sign 19 = .ok (.iaload, 1) := by decide +kernel
theorem dX8_sign_20 : decode cX8_sign 20 = .ok (.iload_n 1, 1) := by decide +kernel
theorem dX8_sign_21 : decode cX8_sign 21 = .ok (.isub, 1) := by decide +kernel
theorem dX8_sign_22 : decode cX8_sign 22 = .ok (.i2l, 1) := by decide +kernel
theorem dX8_sign_23 : decode cX8_sign 23 = .ok (.lconst 0, 1) := by decide +kernel
theorem dX8_sign_24 : decode cX8_sign 24 = .ok (.iload_n 2, 1) := by decide +kernel
theorem dX8_sign_25 : decode cX8_sign 25 = .ok (.i2l, 1) := by decide +kernel
theorem dX8_sign_26 : decode cX8_sign 26 = .ok (.invokestatic 60, 3) := by decide +kernel
theorem dX8_sign_29 : decode cX8_sign 29 = .ok (.ifCond .ne 6, 3) := by decide +kernel
theorem dX8_sign_32 : decode cX8_sign 32 = .ok (.bipush (-9), 2) := by decide +kernel
theorem dX8_sign_34 : decode cX8_sign 34 = .ok (.ireturn, 1) := by decide +kernel
theorem dX8_sign_35 : decode cX8_sign 35 = .ok (.aload_n 0, 1) := by decide +kernel
theorem dX8_sign_36 : decode cX8_sign 36 = .ok (.dup, 1) := by decide +kernel
theorem dX8_sign_37 : decode cX8_sign 37 = .ok (.getfield 71, 3) := by decide +kernel
theorem dX8_sign_40 : decode cX8_sign 40 = .ok (.iconst 1, 1) := by decide +kernel
theorem dX8_sign_41 : decode cX8_sign 41 = .ok (.iadd, 1) := by decide +kernel
theorem dX8_sign_42 : decode cX8_sign 42 = .ok (.putfield 71, 3) := by decide +kernel
theorem dX8_sign_45 : decode cX8_sign 45 = .ok (.aload_n 0, 1) := by decide +kernel
theorem dX8_sign_46 : decode cX8_sign 46 = .ok (.getfield 7, 3) := by decide +kernel
theorem dX8_sign_49 : decode cX8_sign 49 = .ok (.aload_n 0, 1) := by decide +kernel
theorem dX8_sign_50 : decode cX8_sign 50 = .ok (.getfield 71, 3) := by decide +kernel
theorem dX8_sign_53 : decode cX8_sign 53 = .ok (.iconst 1, 1) := by decide +kernel
theorem dX8_sign_54 : decode cX8_sign 54 = .ok (.isub, 1) := by decide +kernel
theorem dX8_sign_55 : decode cX8_sign 55 = .ok (.iaload, 1) := by decide +kernel
theorem dX8_sign_56 : decode cX8_sign 56 = .ok (.iload_n 1, 1) := by decide +kernel
theorem dX8_sign_57 : decode cX8_sign 57 = .ok (.isub, 1) := by decide +kernel
theorem dX8_sign_58 : decode cX8_sign 58 = .ok (.ireturn, 1) := by decide +kernel
theorem dX8_readPerson_0 : decode cX8_readPerson 0 = .ok (.aload_n 0, 1) := by decide +kernel
theorem dX8_readPerson_1 : decode cX8_readPerson 1 = .ok (.bipush 48, 2) := by decide +kernel
theorem dX8_readPerson_3 : decode cX8_readPerson 3 = .ok (.iconst 3, 1) := by decide +kernel
theorem dX8_readPerson_4 : decode cX8_readPerson 4 = .ok (.invokevirtual 74, 3) := by decide +kernel
theorem dX8_readPerson_7 : decode cX8_readPerson 7 = .ok (.istore_n 1, 1) := by decide +kernel
theorem dX8_readPerson_8 : decode cX8_readPerson 8 = .ok (.iload_n 1, 1) := by decide +kernel
theorem dX8_readPerson_9 : decode cX8_readPerson 9 = .ok (.bipush (-9), 2) := by decide +kernel
theorem dX8_readPerson_11 : decode cX8_readPerson 11 = .ok (.if_icmp .ne 8, 3) := by decide +kernel
theorem dX8_readPerson_14 : decode cX8_readPerson 14 = .ok (.bipush (-9), 2) := by decide +kernel
theorem dX8_readPerson_16 : decode cX8_readPerson 16 = .ok (.goto 11, 3) := by decide +kernel
theorem dX8_readPerson_19 : decode cX8_readPerson 19 = .ok (.aload_n 0, 1) := by decide +kernel
theorem dX8_readPerson_20 : decode cX8_readPerson 20 = .ok (.bipush 97, 2) := by decide +kernel
theorem dX8_readPerson_22 : decode cX8_readPerson 22 = .ok (.bipush 7, 2) := by decide +kernel
theorem dX8_readPerson_24 : decode cX8_readPerson 24 = .ok (.invokevirtual 74, 3) := by decide +kernel
theorem dX8_readPerson_27 : decode cX8_readPerson 27 = .ok (.istore_n 2, 1) := by decide +kernel
theorem dX8_readPerson_28 : decode cX8_readPerson 28 = .ok (.iload_n 2, 1) := by decide +kernel
theorem dX8_readPerson_29 : decode cX8_readPerson 29 = .ok (.bipush (-9), 2) := by decide +kernel
theorem dX8_readPerson_31 : decode cX8_readPerson 31 = .ok (.if_icmp .ne 8, 3) := by decide +kernel
theorem dX8_readPerson_34 : decode cX8_readPerson 34 = .ok (.bipush (-9), 2) := by decide +kernel
theorem dX8_readPerson_36 : decode cX8_readPerson 36 = .ok (.goto 11, 3) := by decide +kernel
theorem dX8_readPerson_39 : decode cX8_readPerson 39 = .ok (.aload_n 0, 1) := by decide +kernel
theorem dX8_readPerson_40 : decode cX8_readPerson 40 = .ok (.bipush 97, 2) := by decide +kernel
theorem dX8_readPerson_42 : decode cX8_readPerson 42 = .ok (.bipush 7, 2) := by decide +kernel
theorem dX8_readPerson_44 : decode cX8_readPerson 44 = .ok (.invokevirtual 74, 3) := by decide +kernel
theorem dX8_readPerson_47 : decode cX8_readPerson 47 = .ok (.istore_n 3, 1) := by decide +kernel
theorem dX8_readPerson_48 : decode cX8_readPerson 48 = .ok (.iload_n 3, 1) := by decide +kernel
theorem dX8_readPerson_49 : decode cX8_readPerson 49 = .ok (.bipush (-9), 2) := by decide +kernel
theorem dX8_readPerson_51 : decode cX8_readPerson 51 = .ok (.if_icmp .ne 5, 3) := by decide +kernel
theorem dX8_readPerson_54 : decode cX8_readPerson 54 = .ok (.iconst 0, 1) := by decide +kernel
theorem dX8_readPerson_55 : decode cX8_readPerson 55 = .ok (.ireturn, 1) := by decide +kernel
theorem dX8_readPerson_56 : decode cX8_readPerson 56 = .ok (.aload_n 0, 1) := by decide +kernel
theorem dX8_readPerson_57 : decode cX8_readPerson 57 = .ok (.getfield 19, 3) := by decide +kernel
theorem dX8_readPerson_60 : decode cX8_readPerson 60 = .ok (.aload_n 0, 1) := by decide +kernel
theorem dX8_readPerson_61 : decode cX8_readPerson 61 = .ok (.getfield 78, 3) := by decide +kernel
theorem dX8_readPerson_64 : decode cX8_readPerson 64 = .ok (.iload_n 1, 1) := by decide +kernel
theorem dX8_readPerson_65 : decode cX8_readPerson 65 = .ok (.iastore, 1) := by decide +kernel
theorem dX8_readPerson_66 : decode cX8_readPerson 66 = .ok (.aload_n 0, 1) := by decide +kernel
theorem dX8_readPerson_67 : decode cX8_readPerson 67 = .ok (.getfield 22, 3) := by decide +kernel
theorem dX8_readPerson_70 : decode cX8_readPerson 70 = .ok (.aload_n 0, 1) := by decide +kernel
theorem dX8_readPerson_71 : decode cX8_readPerson 71 = .ok (.getfield 78, 3) := by decide +kernel
theorem dX8_readPerson_74 : decode cX8_readPerson 74 = .ok (.iload_n 2, 1) := by decide +kernel
theorem dX8_readPerson_75 : decode cX8_readPerson 75 = .ok (.bipush 8, 2) := by decide +kernel
theorem dX8_readPerson_77 : decode cX8_readPerson 77 = .ok (.iload_n 3, 1) := by decide +kernel
theorem dX8_readPerson_78 : decode cX8_readPerson 78 = .ok (.imul, 1) := by decide +kernel
theorem dX8_readPerson_79 : decode cX8_readPerson 79 = .ok (.iadd, 1) := by decide +kernel
theorem dX8_readPerson_80 : decode cX8_readPerson 80 = .ok (.iastore, 1) := by decide +kernel
theorem dX8_readPerson_81 : decode cX8_readPerson 81 = .ok (.aload_n 0, 1) := by decide +kernel
theorem dX8_readPerson_82 : decode cX8_readPerson 82 = .ok (.dup, 1) := by decide +kernel
theorem dX8_readPerson_83 : decode cX8_readPerson 83 = .ok (.getfield 78, 3) := by decide +kernel
theorem dX8_readPerson_86 : decode cX8_readPerson 86 = .ok (.iconst 1, 1) := by decide +kernel
theorem dX8_readPerson_87 : decode cX8_readPerson 87 = .ok (.iadd, 1) := by decide +kernel
theorem dX8_readPerson_88 : decode cX8_readPerson 88 = .ok (.putfield 78, 3) := by decide +kernel
theorem dX8_readPerson_91 : decode cX8_readPerson 91 = .ok (.iconst 1, 1) := by decide +kernel
theorem dX8_readPerson_92 : decode cX8_readPerson 92 = .ok (.ireturn, 1) := by decide +kernel
theorem dX8_readOne_0 : decode cX8_readOne 0 = .ok (.iconst 0, 1) := by decide +kernel
theorem dX8_readOne_1 : decode cX8_readOne 1 = .ok (.istore_n 1, 1) := by decide +kernel
theorem dX8_readOne_2 : decode cX8_readOne 2 = .ok (.iload_n 1, 1) := by decide +kernel
theorem dX8_readOne_3 : decode cX8_readOne 3 = .ok (.iconst 3, 1) := by decide +kernel
theorem dX8_readOne_4 : decode cX8_readOne 4 = .ok (.if_icmp .ge 39, 3) := by decide +kernel
theorem dX8_readOne_7 : decode cX8_readOne 7 = .ok (.aload_n 0, 1) := by decide +kernel
theorem dX8_readOne_8 : decode cX8_readOne 8 = .ok (.bipush 48, 2) := by decide +kernel
theorem dX8_readOne_10 : decode cX8_readOne 10 = .ok (.iconst 5, 1) := by decide +kernel
theorem dX8_readOne_11 : decode cX8_readOne 11 = .ok (.invokevirtual 74, 3) := by decide +kernel
theorem dX8_readOne_14 : decode cX8_readOne 14 = .ok (.istore_n 2, 1) := by decide +kernel
theorem dX8_readOne_15 : decode cX8_readOne 15 = .ok (.iload_n 2, 1) := by decide +kernel
theorem dX8_readOne_16 : decode cX8_readOne 16 = .ok (.bipush (-9), 2) := by decide +kernel
theorem dX8_readOne_18 : decode cX8_readOne 18 = .ok (.if_icmp .ne 5, 3) := by decide +kernel
theorem dX8_readOne_21 : decode cX8_readOne 21 = .ok (.iconst 0, 1) := by decide +kernel
theorem dX8_readOne_22 : decode cX8_readOne 22 = .ok (.ireturn, 1) := by decide +kernel
theorem dX8_readOne_23 : decode cX8_readOne 23 = .ok (.aload_n 0, 1) := by decide +kernel
theorem dX8_readOne_24 : decode cX8_readOne 24 = .ok (.getfield 25, 3) := by decide +kernel
theorem dX8_readOne_27 : decode cX8_readOne 27 = .ok (.iconst 3, 1) := by decide +kernel
theorem dX8_readOne_28 : decode cX8_readOne 28 = .ok (.aload_n 0, 1) := by decide +kernel
theorem dX8_readOne_29 : decode cX8_readOne 29 = .ok (.getfield 81, 3) := by decide +kernel
theorem dX8_readOne_32 : decode cX8_readOne 32 = .ok (.imul, 1) := by decide +kernel
theorem dX8_readOne_33 : decode cX8_readOne 33 = .ok (.iload_n 1, 1) := by decide +kernel
theorem dX8_readOne_34 : decode cX8_readOne 34 = .ok (.iadd, 1) := by decide +kernel
theorem dX8_readOne_35 : decode cX8_readOne 35 = .ok (.iload_n 2, 1) := by decide +kernel
theorem dX8_readOne_36 : decode cX8_readOne 36 = .ok (.iastore, 1) := by decide +kernel
theorem dX8_readOne_37 : decode cX8_readOne 37 = .ok (.iinc 1 1, 3) := by decide +kernel
theorem dX8_readOne_40 : decode cX8_readOne 40 = .ok (.goto (-38), 3) := by decide +kernel
theorem dX8_readOne_43 : decode cX8_readOne 43 = .ok (.aload_n 0, 1) := by decide +kernel
theorem dX8_readOne_44 : decode cX8_readOne 44 = .ok (.dup, 1) := by decide +kernel
theorem dX8_readOne_45 : decode cX8_readOne 45 = .ok (.getfield 81, 3) := by decide +kernel
theorem dX8_readOne_48 : decode cX8_readOne 48 = .ok (.iconst 1, 1) := by decide +kernel
theorem dX8_readOne_49 : decode cX8_readOne 49 = .ok (.iadd, 1) := by decide +kernel
theorem dX8_readOne_50 : decode cX8_readOne 50 = .ok (.putfield 81, 3) := by decide +kernel
theorem dX8_readOne_53 : decode cX8_readOne 53 = .ok (.iconst 1, 1) := by decide +kernel
theorem dX8_readOne_54 : decode cX8_readOne 54 = .ok (.ireturn, 1) := by decide +kernel
theorem dX8_readPart_0 : decode cX8_readPart 0 = .ok (.aload_n 0, 1) := by decide +kernel
theorem dX8_readPart_1 : decode cX8_readPart 1 = .ok (.getfield 7, 3) := by decide +kernel
theorem dX8_readPart_4 : decode cX8_readPart 4 = .ok (.aload_n 0, 1) := by decide +kernel
theorem dX8_readPart_5 : decode cX8_readPart 5 = .ok (.getfield 71, 3) := by decide +kernel
theorem dX8_readPart_8 : decode cX8_readPart 8 = .ok (.iaload, 1) := by decide +kernel
theorem dX8_readPart_9 : decode cX8_readPart 9 = .ok (.istore_n 1, 1) := by decide +kernel
theorem dX8_readPart_10 : decode cX8_readPart 10 = .ok (.aload_n 0, 1) := by decide +kernel
theorem dX8_readPart_11 : decode cX8_readPart 11 = .ok (.dup, 1) := by decide +kernel
theorem dX8_readPart_12 : decode cX8_readPart 12 = .ok (.getfield 71, 3) := by decide +kernel
theorem dX8_readPart_15 : decode cX8_readPart 15 = .ok (.iconst 1, 1) := by decide +kernel
theorem dX8_readPart_16 : decode cX8_readPart 16 = .ok (.iadd, 1) := by decide +kernel
theorem dX8_readPart_17 : decode cX8_readPart 17 = .ok (.putfield 71, 3) := by decide +kernel
theorem dX8_readPart_20 : decode cX8_readPart 20 = .ok (.iload_n 1, 1) := by decide +kernel
theorem dX8_readPart_21 : decode cX8_readPart 21 = .ok (.bipush 80, 2) := by decide +kernel
theorem dX8_readPart_23 : decode cX8_readPart 23 = .ok (.if_icmp .ne 16, 3) := by decide +kernel
theorem dX8_readPart_26 : decode cX8_readPart 26 = .ok (.aload_n 0, 1) := by decide +kernel
theorem dX8_readPart_27 : decode cX8_readPart 27 = .ok (.getfield 78, 3) := by decide +kernel
theorem dX8_readPart_30 : decode cX8_readPart 30 = .ok (.iconst 5, 1) := by decide +kernel
theorem dX8_readPart_31 : decode cX8_readPart 31 = .ok (.if_icmp .ge 8, 3) := by decide +kernel
theorem dX8_readPart_34 : decode cX8_readPart 34 = .ok (.aload_n 0, 1) := by decide +kernel
theorem dX8_readPart_35 : decode cX8_readPart 35 = .ok (.invokevirtual 84, 3) := by decide +kernel
theorem dX8_readPart_38 : decode cX8_readPart 38 = .ok (.ireturn, 1) := by decide +kernel
theorem dX8_readPart_39 : decode cX8_readPart 39 = .ok (.iload_n 1, 1) := by decide +kernel
theorem dX8_readPart_40 : decode cX8_readPart 40 = .ok (.bipush 82, 2) := by decide +kernel
theorem dX8_readPart_42 : decode cX8_readPart 42 = .ok (.if_icmp .ne 16, 3) := by decide +kernel
theorem dX8_readPart_45 : decode cX8_readPart 45 = .ok (.aload_n 0, 1) := by decide +kernel
theorem dX8_readPart_46 : decode cX8_readPart 46 = .ok (.getfield 81, 3) := by decide +kernel
theorem dX8_readPart_49 : decode cX8_readPart 49 = .ok (.iconst 4, 1) := by decide +kernel
theorem dX8_readPart_50 : decode cX8_readPart 50 = .ok (.if_icmp .ge 8, 3) := by decide +kernel
theorem dX8_readPart_53 : decode cX8_readPart 53 = .ok (.aload_n 0, 1) := by decide +kernel
theorem dX8_readPart_54 : decode cX8_readPart 54 = .ok (.invokevirtual 88, 3) := by decide +kernel
theorem dX8_readPart_57 : decode cX8_readPart 57 = .ok (.ireturn, 1) := by decide +kernel
theorem dX8_readPart_58 : decode cX8_readPart 58 = .ok (.aload_n 0, 1) := by decide +kernel
theorem dX8_readPart_59 : decode cX8_readPart 59 = .ok (.dup, 1) := by decide +kernel
theorem dX8_readPart_60 : decode cX8_readPart 60 = .ok (.getfield 71, 3) := by decide +kernel
theorem dX8_readPart_63 : decode cX8_readPart 63 = .ok (.iconst 1, 1) := by decide +kernel
theorem dX8_readPart_64 : decode cX8_readPart 64 = .ok (.isub, 1) := by decide +kernel
theorem dX8_readPart_65 : decode cX8_readPart 65 = .ok (.putfield 71, 3) := by decide +kernel
theorem dX8_readPart_68 : decode cX8_readPart 68 = .ok (.iconst 0, 1) := by decide +kernel
theorem dX8_readPart_69 : decode cX8_readPart 69 = .ok (.ireturn, 1) := by decide +kernel
theorem dX8_readTable_0 : decode cX8_readTable 0 = .ok (.aload_n 0, 1) := by decide +kernel
theorem dX8_readTable_1 : decode cX8_readTable 1 = .ok (.iconst 0, 1) := by decide +kernel
theorem dX8_readTable_2 : decode cX8_readTable 2 = .ok (.putfield 71, 3) := by decide +kernel
theorem dX8_readTable_5 : decode cX8_readTable 5 = .ok (.aload_n 0, 1) := by decide +kernel
theorem dX8_readTable_6 : decode cX8_readTable 6 = .ok (.iconst 0, 1) := by decide +kernel
theorem dX8_readTable_7 : decode cX8_readTable 7 = .ok (.putfield 78, 3) := by decide +kernel
theorem dX8_readTable_10 : decode cX8_readTable 10 = .ok (.aload_n 0, 1) := by decide +kernel
theorem dX8_readTable_11 : decode cX8_readTable 11 = .ok (.iconst 0, 1) := by decide +kernel
theorem dX8_readTable_12 : decode cX8_readTable 12 = .ok (.putfield 81, 3) := by decide +kernel
theorem dX8_readTable_15 : decode cX8_readTable 15 = .ok (.aload_n 0, 1) := by decide +kernel
theorem dX8_readTable_16 : decode cX8_readTable 16 = .ok (.getfield 68, 3) := by decide +kernel
theorem dX8_readTable_19 : decode cX8_readTable 19 = .ok (.ifCond .eq 14, 3) := by decide +kernel
theorem dX8_readTable_22 : decode cX8_readTable 22 = .ok (.aload_n 0, 1) := by decide +kernel
theorem dX8_readTable_23 : decode cX8_readTable 23 = .ok (.getfield 7, 3) := by decide +kernel
theorem dX8_readTable_26 : decode cX8_readTable 26 = .ok (.iconst 0, 1) := by decide +kernel
theorem dX8_readTable_27 : decode cX8_readTable 27 = .ok (.iaload, 1) := by decide +kernel
theorem dX8_readTable_28 : decode cX8_readTable 28 = .ok (.bipush 75, 2) := by decide +kernel
theorem dX8_readTable_30 : decode cX8_readTable 30 = .ok (.if_icmp .eq 5, 3) := by decide +kernel
theorem dX8_readTable_33 : decode cX8_readTable 33 = .ok (.iconst 0, 1) := by decide +kernel
theorem dX8_readTable_34 : decode cX8_readTable 34 = .ok (.ireturn, 1) := by decide +kernel
theorem dX8_readTable_35 : decode cX8_readTable 35 = .ok (.aload_n 0, 1) := by decide +kernel
theorem dX8_readTable_36 : decode cX8_readTable 36 = .ok (.iconst 1, 1) := by decide +kernel
theorem dX8_readTable_37 : decode cX8_readTable 37 = .ok (.putfield 71, 3) := by decide +kernel
theorem dX8_readTable_40 : decode cX8_readTable 40 = .ok (.aload_n 0, 1) := by decide +kernel
theorem dX8_readTable_41 : decode cX8_readTable 41 = .ok (.getfield 71, 3) := by decide +kernel
theorem dX8_readTable_44 : decode cX8_readTable 44 = .ok (.aload_n 0, 1) := by decide +kernel
theorem dX8_readTable_45 : decode cX8_readTable 45 = .ok (.getfield 68, 3) := by decide +kernel
theorem dX8_readTable_48 : decode cX8_readTable 48 = .ok (.if_icmp .ge 15, 3) := by decide +kernel
theorem dX8_readTable_51 : decode cX8_readTable 51 = .ok (.aload_n 0, 1) := by decide +kernel
theorem dX8_readTable_52 : decode cX8_readTable 52 = .ok (.invokevirtual 91, 3) := by decide +kernel
theorem dX8_readTable_55 : decode cX8_readTable 55 = .ok (.ifCond .ne (-15), 3) := by decide +kernel
theorem dX8_readTable_58 : decode cX8_readTable 58 = .ok (.aload_n 0, 1) := by decide +kernel
theorem dX8_readTable_59 : decode cX8_readTable 59 = .ok (.getfield 71, 3) := by decide +kernel
theorem dX8_readTable_62 : decode cX8_readTable 62 = .ok (.ireturn, 1) := by decide +kernel
theorem dX8_readTable_63 : decode cX8_readTable 63 = .ok (.bipush (-9), 2) := by decide +kernel
theorem dX8_readTable_65 : decode cX8_readTable 65 = .ok (.ireturn, 1) := by decide +kernel
theorem dX8_fault_0 : decode cX8_fault 0 = .ok (.aload_n 0, 1) := by decide +kernel
theorem dX8_fault_1 : decode cX8_fault 1 = .ok (.iconst 0, 1) := by decide +kernel
theorem dX8_fault_2 : decode cX8_fault 2 = .ok (.putfield 53, 3) := by decide +kernel
theorem dX8_fault_5 : decode cX8_fault 5 = .ok (.aload_n 0, 1) := by decide +kernel
theorem dX8_fault_6 : decode cX8_fault 6 = .ok (.invokevirtual 94, 3) := by decide +kernel
theorem dX8_fault_9 : decode cX8_fault 9 = .ok (.ireturn, 1) := by decide +kernel
theorem dX8_table_0 : decode cX8_table 0 = .ok (.aload_n 0, 1) := by decide +kernel
theorem dX8_table_1 : decode cX8_table 1 = .ok (.iconst 0, 1) := by decide +kernel
theorem dX8_table_2 : decode cX8_table 2 = .ok (.putfield 53, 3) := by decide +kernel
theorem dX8_table_5 : decode cX8_table 5 = .ok (.aload_n 0, 1) := by decide +kernel
theorem dX8_table_6 : decode cX8_table 6 = .ok (.invokevirtual 94, 3) := by decide +kernel
theorem dX8_table_9 : decode cX8_table 9 = .ok (.bipush (-9), 2) := by decide +kernel
theorem dX8_table_11 : decode cX8_table 11 = .ok (.if_icmp .eq 6, 3) := by decide +kernel
theorem dX8_table_14 : decode cX8_table 14 = .ok (.bipush (-3), 2) := by decide +kernel
theorem dX8_table_16 : decode cX8_table 16 = .ok (.ireturn, 1) := by decide +kernel
theorem dX8_table_17 : decode cX8_table 17 = .ok (.aload_n 0, 1) := by decide +kernel
theorem dX8_table_18 : decode cX8_table 18 = .ok (.aload_n 0, 1) := by decide +kernel
theorem dX8_table_19 : decode cX8_table 19 = .ok (.getfield 78, 3) := by decide +kernel
theorem dX8_table_22 : decode cX8_table 22 = .ok (.putfield 57, 3) := by decide +kernel
theorem dX8_table_25 : decode cX8_table 25 = .ok (.aload_n 0, 1) := by decide +kernel
theorem dX8_table_26 : decode cX8_table 26 = .ok (.aload_n 0, 1) := by decide +kernel
theorem dX8_table_27 : decode cX8_table 27 = .ok (.getfield 81, 3) := by decide +kernel
theorem dX8_table_30 : decode cX8_table 30 = .ok (.putfield 98, 3) := by decide +kernel
theorem dX8_table_33 : decode cX8_table 33 = .ok (.iconst 0, 1) := by decide +kernel
theorem dX8_table_34 : decode cX8_table 34 = .ok (.istore_n 1, 1) := by decide +kernel
theorem dX8_table_35 : decode cX8_table 35 = .ok (.iload_n 1, 1) := by decide +kernel
theorem dX8_table_36 : decode cX8_table 36 = .ok (.bipush 15, 2) := by decide +kernel
theorem dX8_table_38 : decode cX8_table 38 = .ok (.if_icmp .ge 16, 3) := by decide +kernel
theorem dX8_table_41 : decode cX8_table 41 = .ok (.aload_n 0, 1) := by decide +kernel
theorem dX8_table_42 : decode cX8_table 42 = .ok (.getfield 28, 3) := by decide +kernel
theorem dX8_table_45 : decode cX8_table 45 = .ok (.iload_n 1, 1) := by decide +kernel
theorem dX8_table_46 : decode cX8_table 46 = .ok (.iconst 0, 1) := by decide +kernel
theorem dX8_table_47 : decode cX8_table 47 = .ok (.iastore, 1) := by decide +kernel
theorem dX8_table_48 : decode cX8_table 48 = .ok (.iinc 1 1, 3) := by decide +kernel
theorem dX8_table_51 : decode cX8_table 51 = .ok (.goto (-16), 3) := by decide +kernel
theorem dX8_table_54 : decode cX8_table 54 = .ok (.iconst 0, 1) := by decide +kernel
theorem dX8_table_55 : decode cX8_table 55 = .ok (.istore_n 1, 1) := by decide +kernel
theorem dX8_table_56 : decode cX8_table 56 = .ok (.iload_n 1, 1) := by decide +kernel
theorem dX8_table_57 : decode cX8_table 57 = .ok (.aload_n 0, 1) := by decide +kernel
theorem dX8_table_58 : decode cX8_table 58 = .ok (.getfield 57, 3) := by decide +kernel
theorem dX8_table_61 : decode cX8_table 61 = .ok (.if_icmp .ge 44, 3) := by decide +kernel
theorem dX8_table_64 : decode cX8_table 64 = .ok (.aload_n 0, 1) := by decide +kernel
theorem dX8_table_65 : decode cX8_table 65 = .ok (.getfield 13, 3) := by decide +kernel
theorem dX8_table_68 : decode cX8_table 68 = .ok (.iload_n 1, 1) := by decide +kernel
theorem dX8_table_69 : decode cX8_table 69 = .ok (.aload_n 0, 1) := by decide +kernel
theorem dX8_table_70 : decode cX8_table 70 = .ok (.getfield 19, 3) := by decide +kernel
theorem dX8_table_73 : decode cX8_table 73 = .ok (.iload_n 1, 1) := by decide +kernel
theorem dX8_table_74 : decode cX8_table 74 = .ok (.iaload, 1) := by decide +kernel
theorem dX8_table_75 : decode cX8_table 75 = .ok (.iastore, 1) := by decide +kernel
theorem dX8_table_76 : decode cX8_table 76 = .ok (.aload_n 0, 1) := by decide +kernel
theorem dX8_table_77 : decode cX8_table 77 = .ok (.getfield 28, 3) := by decide +kernel
theorem dX8_table_80 : decode cX8_table 80 = .ok (.iconst 0, 1) := by decide +kernel
theorem dX8_table_81 : decode cX8_table 81 = .ok (.iload_n 1, 1) := by decide +kernel
theorem dX8_table_82 : decode cX8_table 82 = .ok (.iadd, 1) := by decide +kernel
theorem dX8_table_83 : decode cX8_table 83 = .ok (.aload_n 0, 1) := by decide +kernel
theorem dX8_table_84 : decode cX8_table 84 = .ok (.getfield 22, 3) := by decide +kernel
theorem dX8_table_87 : decode cX8_table 87 = .ok (.iload_n 1, 1) := by decide +kernel
theorem dX8_table_88 : decode cX8_table 88 = .ok (.iaload, 1) := by decide +kernel
theorem dX8_table_89 : decode cX8_table 89 = .ok (.iastore, 1) := by decide +kernel
theorem dX8_table_90 : decode cX8_table 90 = .ok (.aload_n 0, 1) := by decide +kernel
theorem dX8_table_91 : decode cX8_table 91 = .ok (.getfield 28, 3) := by decide +kernel
theorem dX8_table_94 : decode cX8_table 94 = .ok (.iconst 5, 1) := by decide +kernel
theorem dX8_table_95 : decode cX8_table 95 = .ok (.iload_n 1, 1) := by decide +kernel
theorem dX8_table_96 : decode cX8_table 96 = .ok (.iadd, 1) := by decide +kernel
theorem dX8_table_97 : decode cX8_table 97 = .ok (.iload_n 1, 1) := by decide +kernel
theorem dX8_table_98 : decode cX8_table 98 = .ok (.iastore, 1) := by decide +kernel
theorem dX8_table_99 : decode cX8_table 99 = .ok (.iinc 1 1, 3) := by decide +kernel
theorem dX8_table_102 : decode cX8_table 102 = .ok (.goto (-46), 3) := by decide +kernel
theorem dX8_table_105 : decode cX8_table 105 = .ok (.iconst 0, 1) := by decide +kernel
theorem dX8_table_106 : decode cX8_table 106 = .ok (.istore_n 1, 1) := by decide +kernel
theorem dX8_table_107 : decode cX8_table 107 = .ok (.iload_n 1, 1) := by decide +kernel
theorem dX8_table_108 : decode cX8_table 108 = .ok (.iconst 3, 1) := by decide +kernel
theorem dX8_table_109 : decode cX8_table 109 = .ok (.aload_n 0, 1) := by decide +kernel
theorem dX8_table_110 : decode cX8_table 110 = .ok (.getfield 98, 3) := by decide +kernel
theorem dX8_table_113 : decode cX8_table 113 = .ok (.imul, 1) := by decide +kernel
theorem dX8_table_114 : decode cX8_table 114 = .ok (.if_icmp .ge 21, 3) := by decide +kernel
theorem dX8_table_117 : decode cX8_table 117 = .ok (.aload_n 0, 1) := by decide +kernel
theorem dX8_table_118 : decode cX8_table 118 = .ok (.getfield 16, 3) := by decide +kernel
theorem dX8_table_121 : decode cX8_table 121 = .ok (.iload_n 1, 1) := by decide +kernel
theorem dX8_table_122 : decode cX8_table 122 = .ok (.aload_n 0, 1) := by decide +kernel
theorem dX8_table_123 : decode cX8_table 123 = .ok (.getfield 25, 3) := by decide +kernel
theorem dX8_table_126 : decode cX8_table 126 = .ok (.iload_n 1, 1) := by decide +kernel
theorem dX8_table_127 : decode cX8_table 127 = .ok (.iaload, 1) := by decide +kernel
theorem dX8_table_128 : decode cX8_table 128 = .ok (.iastore, 1) := by decide +kernel
theorem dX8_table_129 : decode cX8_table 129 = .ok (.iinc 1 1, 3) := by decide +kernel
theorem dX8_table_132 : decode cX8_table 132 = .ok (.goto (-25), 3) := by decide +kernel
theorem dX8_table_135 : decode cX8_table 135 = .ok (.aload_n 0, 1) := by decide +kernel
theorem dX8_table_136 : decode cX8_table 136 = .ok (.iconst 0, 1) := by decide +kernel
theorem dX8_table_137 : decode cX8_table 137 = .ok (.putfield 101, 3) := by decide +kernel
theorem dX8_table_140 : decode cX8_table 140 = .ok (.aload_n 0, 1) := by decide +kernel
theorem dX8_table_141 : decode cX8_table 141 = .ok (.getfield 40, 3) := by decide +kernel
theorem dX8_table_144 : decode cX8_table 144 = .ok (.iconst 0, 1) := by decide +kernel
theorem dX8_table_145 : decode cX8_table 145 = .ok (.iconst 0, 1) := by decide +kernel
theorem dX8_table_146 : decode cX8_table 146 = .ok (.bastore, 1) := by decide +kernel
theorem dX8_table_147 : decode cX8_table 147 = .ok (.aload_n 0, 1) := by decide +kernel
theorem dX8_table_148 : decode cX8_table 148 = .ok (.getfield 40, 3) := by decide +kernel
theorem dX8_table_151 : decode cX8_table 151 = .ok (.iconst 1, 1) := by decide +kernel
theorem dX8_table_152 : decode cX8_table 152 = .ok (.iconst 0, 1) := by decide +kernel
theorem dX8_table_153 : decode cX8_table 153 = .ok (.bastore, 1) := by decide +kernel
theorem dX8_table_154 : decode cX8_table 154 = .ok (.bipush 10, 2) := by decide +kernel
theorem dX8_table_156 : decode cX8_table 156 = .ok (.aload_n 0, 1) := by decide +kernel
theorem dX8_table_157 : decode cX8_table 157 = .ok (.getfield 57, 3) := by decide +kernel
theorem dX8_table_160 : decode cX8_table 160 = .ok (.imul, 1) := by decide +kernel
theorem dX8_table_161 : decode cX8_table 161 = .ok (.aload_n 0, 1) := by decide +kernel
theorem dX8_table_162 : decode cX8_table 162 = .ok (.getfield 98, 3) := by decide +kernel
theorem dX8_table_165 : decode cX8_table 165 = .ok (.iadd, 1) := by decide +kernel
theorem dX8_table_166 : decode cX8_table 166 = .ok (.ireturn, 1) := by decide +kernel
theorem dX8_closed_0 : decode cX8_closed 0 = .ok (.iload_n 1, 1) := by decide +kernel
theorem dX8_closed_1 : decode cX8_closed 1 = .ok (.istore_n 2, 1) := by decide +kernel
theorem dX8_closed_2 : decode cX8_closed 2 = .ok (.iconst 0, 1) := by decide +kernel
theorem dX8_closed_3 : decode cX8_closed 3 = .ok (.istore_n 3, 1) := by decide +kernel
theorem dX8_closed_4 : decode cX8_closed 4 = .ok (.iload_n 3, 1) := by decide +kernel
theorem dX8_closed_5 : decode cX8_closed 5 = .ok (.iconst 4, 1) := by decide +kernel
theorem dX8_closed_6 : decode cX8_closed 6 = .ok (.if_icmp .ge 93, 3) := by decide +kernel
theorem dX8_closed_9 : decode cX8_closed 9 = .ok (.iconst 0, 1) := by decide +kernel
theorem dX8_closed_10 : decode cX8_closed 10 = .ok (.istore 4, 2) := by decide +kernel
theorem dX8_closed_12 : decode cX8_closed 12 = .ok (.iload 4, 2) := by decide +kernel
theorem dX8_closed_14 : decode cX8_closed 14 = .ok (.aload_n 0, 1) := by decide +kernel
theorem dX8_closed_15 : decode cX8_closed 15 = .ok (.getfield 98, 3) := by decide +kernel
theorem dX8_closed_18 : decode cX8_closed 18 = .ok (.if_icmp .ge 75, 3) := by decide +kernel
theorem dX8_closed_21 : decode cX8_closed 21 = .ok (.iload_n 2, 1) := by decide +kernel
theorem dX8_closed_22 : decode cX8_closed 22 = .ok (.aload_n 0, 1) := by decide +kernel
theorem dX8_closed_23 : decode cX8_closed 23 = .ok (.getfield 16, 3) := by decide +kernel
theorem dX8_closed_26 : decode cX8_closed 26 = .ok (.iconst 3, 1) := by decide +kernel
theorem dX8_closed_27 : decode cX8_closed 27 = .ok (.iload 4, 2) := by decide +kernel
theorem dX8_closed_29 : decode cX8_closed 29 = .ok (.imul, 1) := by decide +kernel
theorem dX8_closed_30 : decode cX8_closed 30 = .ok (.iaload, 1) := by decide +kernel
theorem dX8_closed_31 : decode cX8_closed 31 = .ok (.invokestatic 104, 3) := by decide +kernel
theorem dX8_closed_34 : decode cX8_closed 34 = .ok (.ifCond .eq 25, 3) := by decide +kernel
theorem dX8_closed_37 : decode cX8_closed 37 = .ok (.iload_n 2, 1) := by decide +kernel
theorem dX8_closed_38 : decode cX8_closed 38 = .ok (.aload_n 0, 1) := by decide +kernel
theorem dX8_closed_39 : decode cX8_closed 39 = .ok (.getfield 16, 3) := by decide +kernel
theorem dX8_closed_42 : decode cX8_closed 42 = .ok (.iconst 3, 1) := by decide +kernel
theorem dX8_closed_43 : decode cX8_closed 43 = .ok (.iload 4, 2) := by decide +kernel
theorem dX8_closed_45 : decode cX8_closed 45 = .ok (.imul, 1) := by decide +kernel
theorem dX8_closed_46 : decode cX8_closed 46 = .ok (.iconst 1, 1) := by decide +kernel
theorem dX8_closed_47 : decode cX8_closed 47 = .ok (.iadd, 1) := by decide +kernel
theorem dX8_closed_48 : decode cX8_closed 48 = .ok (.iaload, 1) := by decide +kernel
theorem dX8_closed_49 : decode cX8_closed 49 = .ok (.invokestatic 104, 3) := by decide +kernel
theorem dX8_closed_52 : decode cX8_closed 52 = .ok (.ifCond .eq 7, 3) := by decide +kernel
theorem dX8_closed_55 : decode cX8_closed 55 = .ok (.iconst 1, 1) := by decide +kernel
theorem dX8_closed_56 : decode cX8_closed 56 = .ok (.goto 4, 3) := by decide +kernel
theorem dX8_closed_59 : decode cX8_closed 59 = .ok (.iconst 0, 1) := by decide +kernel
theorem dX8_closed_60 : decode cX8_closed 60 = .ok (.istore 5, 2) := by decide +kernel
theorem dX8_closed_62 : decode cX8_closed 62 = .ok (.iload_n 2, 1) := by decide +kernel
theorem dX8_closed_63 : decode cX8_closed 63 = .ok (.iload 5, 2) := by decide +kernel
theorem dX8_closed_65 : decode cX8_closed 65 = .ok (.ifCond .eq 19, 3) := by decide +kernel
theorem dX8_closed_68 : decode cX8_closed 68 = .ok (.iconst 1, 1) := by decide +kernel
theorem dX8_closed_69 : decode cX8_closed 69 = .ok (.aload_n 0, 1) := by decide +kernel
theorem dX8_closed_70 : decode cX8_closed 70 = .ok (.getfield 16, 3) := by decide +kernel
theorem dX8_closed_73 : decode cX8_closed 73 = .ok (.iconst 3, 1) := by decide +kernel
theorem dX8_closed_74 : decode cX8_closed 74 = .ok (.iload 4, 2) := by decide +kernel
theorem dX8_closed_76 : decode cX8_closed 76 = .ok (.imul, 1) := by decide +kernel
theorem dX8_closed_77 : decode cX8_closed 77 = .ok (.iconst 2, 1) := by decide +kernel
theorem dX8_closed_78 : decode cX8_closed 78 = .ok (.iadd, 1) := by decide +kernel
theorem dX8_closed_79 : decode cX8_closed 79 = .ok (.iaload, 1) := by decide +kernel
theorem dX8_closed_80 : decode cX8_closed 80 = .ok (.ishl, 1) := by decide +kernel
theorem dX8_closed_81 : decode cX8_closed 81 = .ok (.goto 4, 3) := by decide +kernel
theorem dX8_closed_84 : decode cX8_closed 84 = .ok (.iconst 0, 1) := by decide +kernel
theorem dX8_closed_85 : decode cX8_closed 85 = .ok (.ior, 1) := by decide +kernel
theorem dX8_closed_86 : decode cX8_closed 86 = .ok (.istore_n 2, 1) := by decide +kernel
theorem dX8_closed_87 : decode cX8_closed 87 = .ok (.iinc 4 1, 3) := by decide +kernel
theorem dX8_closed_90 : decode cX8_closed 90 = .ok (.goto (-78), 3) := by decide +kernel
theorem dX8_closed_93 : decode cX8_closed 93 = .ok (.iinc 3 1, 3) := by decide +kernel
theorem dX8_closed_96 : decode cX8_closed 96 = .ok (.goto (-92), 3) := by decide +kernel
theorem dX8_closed_99 : decode cX8_closed 99 = .ok (.iload_n 2, 1) := by decide +kernel
theorem dX8_closed_100 : decode cX8_closed 100 = .ok (.ireturn, 1) := by decide +kernel
theorem dX8_farOf_0 : decode cX8_farOf 0 = .ok (.aload_n 1, 1) := by decide +kernel
theorem dX8_farOf_1 : decode cX8_farOf 1 = .ok (.iconst 5, 1) := by decide +kernel
theorem dX8_farOf_2 : decode cX8_farOf 2 = .ok (.iload_n 2, 1) := by decide +kernel
theorem dX8_farOf_3 : decode cX8_farOf 3 = .ok (.iadd, 1) := by decide +kernel
theorem dX8_farOf_4 : decode cX8_farOf 4 = .ok (.iaload, 1) := by decide +kernel
theorem dX8_farOf_5 : decode cX8_farOf 5 = .ok (.aload_n 1, 1) := by decide +kernel
theorem dX8_farOf_6 : decode cX8_farOf 6 = .ok (.iconst 5, 1) := by decide +kernel
theorem dX8_farOf_7 : decode cX8_farOf 7 = .ok (.iload_n 3, 1) := by decide +kernel
theorem dX8_farOf_8 : decode cX8_farOf 8 = .ok (.iadd, 1) := by decide +kernel
theorem dX8_farOf_9 : decode cX8_farOf 9 = .ok (.iaload, 1) := by decide +kernel
theorem dX8_farOf_10 : decode cX8_farOf 10 = .ok (.isub, 1) := by decide +kernel
theorem dX8_farOf_11 : decode cX8_farOf 11 = .ok (.istore 4, 2) := by decide +kernel
theorem dX8_farOf_13 : decode cX8_farOf 13 = .ok (.iload 4, 2) := by decide +kernel
theorem dX8_farOf_15 : decode cX8_farOf 15 = .ok (.ifCond .ge 9, 3) := by decide +kernel
theorem dX8_farOf_18 : decode cX8_farOf 18 = .ok (.iload 4, 2) := by decide +kernel
theorem dX8_farOf_20 : decode cX8_farOf 20 = .ok (.ineg, 1) := by decide +kernel
theorem dX8_farOf_21 : decode cX8_farOf 21 = .ok (.goto 5, 3) := by decide +kernel
theorem dX8_farOf_24 : decode cX8_farOf 24 = .ok (.iload 4, 2) := by decide +kernel
theorem dX8_farOf_26 : decode cX8_farOf 26 = .ok (.istore 4, 2) := by decide +kernel
theorem dX8_farOf_28 : decode cX8_farOf 28 = .ok (.iload 4, 2) := by decide +kernel
theorem dX8_farOf_30 : decode cX8_farOf 30 = .ok (.aload_n 0, 1) := by decide +kernel
theorem dX8_farOf_31 : decode cX8_farOf 31 = .ok (.getfield 57, 3) := by decide +kernel
theorem dX8_farOf_34 : decode cX8_farOf 34 = .ok (.iload 4, 2) := by decide +kernel
theorem dX8_farOf_36 : decode cX8_farOf 36 = .ok (.isub, 1) := by decide +kernel
theorem dX8_farOf_37 : decode cX8_farOf 37 = .ok (.if_icmp .ge 8, 3) := by decide +kernel
theorem dX8_farOf_40 : decode cX8_farOf 40 = .ok (.iload 4, 2) := by decide +kernel
theorem dX8_farOf_42 : decode cX8_farOf 42 = .ok (.goto 10, 3) := by decide +kernel
theorem dX8_farOf_45 : decode cX8_farOf 45 = .ok (.aload_n 0, 1) := by decide +kernel
theorem dX8_farOf_46 : decode cX8_farOf 46 = .ok (.getfield 57, 3) := by decide +kernel
theorem dX8_farOf_49 : decode cX8_farOf 49 = .ok (.iload 4, 2) := by decide +kernel
theorem dX8_farOf_51 : decode cX8_farOf 51 = .ok (.isub, 1) := by decide +kernel
theorem dX8_farOf_52 : decode cX8_farOf 52 = .ok (.ireturn, 1) := by decide +kernel
theorem dX8_hears_0 : decode cX8_hears 0 = .ok (.aload_n 0, 1) := by decide +kernel
theorem dX8_hears_1 : decode cX8_hears 1 = .ok (.getfield 13, 3) := by decide +kernel
theorem dX8_hears_4 : decode cX8_hears 4 = .ok (.iload_n 2, 1) := by decide +kernel
theorem dX8_hears_5 : decode cX8_hears 5 = .ok (.iaload, 1) := by decide +kernel
theorem dX8_hears_6 : decode cX8_hears 6 = .ok (.iconst 1, 1) := by decide +kernel
theorem dX8_hears_7 : decode cX8_hears 7 = .ok (.if_icmp .ne 7, 3) := by decide +kernel
theorem dX8_hears_10 : decode cX8_hears 10 = .ok (.iconst 1, 1) := by decide +kernel
theorem dX8_hears_11 : decode cX8_hears 11 = .ok (.goto 5, 3) := by decide +kernel
theorem dX8_hears_14 : decode cX8_hears 14 = .ok (.iload 4, 2) := by decide +kernel
theorem dX8_hears_16 : decode cX8_hears 16 = .ok (.istore 5, 2) := by decide +kernel
theorem dX8_hears_18 : decode cX8_hears 18 = .ok (.iload_n 2, 1) := by decide +kernel
theorem dX8_hears_19 : decode cX8_hears 19 = .ok (.iload_n 3, 1) := by decide +kernel
theorem dX8_hears_20 : decode cX8_hears 20 = .ok (.if_icmp .eq 19, 3) := by decide +kernel
theorem dX8_hears_23 : decode cX8_hears 23 = .ok (.aload_n 0, 1) := by decide +kernel
theorem dX8_hears_24 : decode cX8_hears 24 = .ok (.aload_n 1, 1) := by decide +kernel
theorem dX8_hears_25 : decode cX8_hears 25 = .ok (.iload_n 2, 1) := by decide +kernel
theorem dX8_hears_26 : decode cX8_hears 26 = .ok (.iload_n 3, 1) := by decide +kernel
theorem dX8_hears_27 : decode cX8_hears 27 = .ok (.invokevirtual 108, 3) := by decide +kernel
theorem dX8_hears_30 : decode cX8_hears 30 = .ok (.iload 5, 2) := by decide +kernel
theorem dX8_hears_32 : decode cX8_hears 32 = .ok (.if_icmp .gt 7, 3) := by decide +kernel
theorem dX8_hears_35 : decode cX8_hears 35 = .ok (.iconst 1, 1) := by decide +kernel
theorem dX8_hears_36 : decode cX8_hears 36 = .ok (.goto 4, 3) := by decide +kernel
theorem dX8_hears_39 : decode cX8_hears 39 = .ok (.iconst 0, 1) := by decide +kernel
theorem dX8_hears_40 : decode cX8_hears 40 = .ok (.ireturn, 1) := by decide +kernel
theorem dX8_hearersOf_0 : decode cX8_hearersOf 0 = .ok (.iconst 0, 1) := by decide +kernel
theorem dX8_hearersOf_1 : decode cX8_hearersOf 1 = .ok (.istore 4, 2) := by decide +kernel
theorem dX8_hearersOf_3 : decode cX8_hearersOf 3 = .ok (.iconst 0, 1) := by decide +kernel
theorem dX8_hearersOf_4 : decode cX8_hearersOf 4 = .ok (.istore 5, 2) := by decide +kernel
theorem dX8_hearersOf_6 : decode cX8_hearersOf 6 = .ok (.iload 5, 2) := by decide +kernel
theorem dX8_hearersOf_8 : decode cX8_hearersOf 8 = .ok (.aload_n 0, 1) := by decide +kernel
theorem dX8_hearersOf_9 : decode cX8_hearersOf 9 = .ok (.getfield 57, 3) := by decide +kernel
theorem dX8_hearersOf_12 : decode cX8_hearersOf 12 = .ok (.if_icmp .ge 34, 3) := by decide +kernel
theorem dX8_hearersOf_15 : decode cX8_hearersOf 15 = .ok (.iload 4, 2) := by decide +kernel
theorem dX8_hearersOf_17 : decode cX8_hearersOf 17 = .ok (.aload_n 0, 1) := by decide +kernel
theorem dX8_hearersOf_18 : decode cX8_hearersOf 18 = .ok (.aload_n 1, 1) := by decide +kernel
theorem dX8_hearersOf_19 : decode cX8_hearersOf 19 = .ok (.iload 5, 2) := by decide +kernel
theorem dX8_hearersOf_21 : decode cX8_hearersOf 21 = .ok (.iload_n 2, 1) := by decide +kernel
theorem dX8_hearersOf_22 : decode cX8_hearersOf 22 = .ok (.iload_n 3, 1) := by decide +kernel
theorem dX8_hearersOf_23 : decode cX8_hearersOf 23 = .ok (.invokevirtual 112, 3) := by decide +kernel
theorem dX8_hearersOf_26 : decode cX8_hearersOf 26 = .ok (.ifCond .eq 10, 3) := by decide +kernel
theorem dX8_hearersOf_29 : decode cX8_hearersOf 29 = .ok (.iconst 1, 1) := by decide +kernel
theorem dX8_hearersOf_30 : decode cX8_hearersOf 30 = .ok (.iload 5, 2) := by decide +kernel
theorem dX8_hearersOf_32 : decode cX8_hearersOf 32 = .ok (.ishl, 1) := by decide +kernel
theorem dX8_hearersOf_33 : decode cX8_hearersOf 33 = .ok (.goto 4, 3) := by decide +kernel
theorem dX8_hearersOf_36 : decode cX8_hearersOf 36 = .ok (.iconst 0, 1) := by decide +kernel
theorem dX8_hearersOf_37 : decode cX8_hearersOf 37 = .ok (.ior, 1) := by decide +kernel
theorem dX8_hearersOf_38 : decode cX8_hearersOf 38 = .ok (.istore 4, 2) := by decide +kernel
theorem dX8_hearersOf_40 : decode cX8_hearersOf 40 = .ok (.iinc 5 1, 3) := by decide +kernel
theorem dX8_hearersOf_43 : decode cX8_hearersOf 43 = .ok (.goto (-37), 3) := by decide +kernel
theorem dX8_hearersOf_46 : decode cX8_hearersOf 46 = .ok (.iload 4, 2) := by decide +kernel
theorem dX8_hearersOf_48 : decode cX8_hearersOf 48 = .ok (.ireturn, 1) := by decide +kernel
theorem dX8_knowersOf_0 : decode cX8_knowersOf 0 = .ok (.iconst 0, 1) := by decide +kernel
theorem dX8_knowersOf_1 : decode cX8_knowersOf 1 = .ok (.istore 5, 2) := by decide +kernel
theorem dX8_knowersOf_3 : decode cX8_knowersOf 3 = .ok (.iconst 0, 1) := by decide +kernel
theorem dX8_knowersOf_4 : decode cX8_knowersOf 4 = .ok (.istore 6, 2) := by decide +kernel
theorem dX8_knowersOf_6 : decode cX8_knowersOf 6 = .ok (.iload 6, 2) := by decide +kernel
theorem dX8_knowersOf_8 : decode cX8_knowersOf 8 = .ok (.aload_n 0, 1) := by decide +kernel
theorem dX8_knowersOf_9 : decode cX8_knowersOf 9 = .ok (.getfield 57, 3) := by decide +kernel
theorem dX8_knowersOf_12 : decode cX8_knowersOf 12 = .ok (.if_icmp .ge 52, 3) := by decide +kernel
theorem dX8_knowersOf_15 : decode cX8_knowersOf 15 = .ok (.iload 5, 2) := by decide +kernel
theorem dX8_knowersOf_17 : decode cX8_knowersOf 17 = .ok (.aload_n 0, 1) := by decide +kernel
theorem dX8_knowersOf_18 : decode cX8_knowersOf 18 = .ok (.aload_n 1, 1) := by decide +kernel
theorem dX8_knowersOf_19 : decode cX8_knowersOf 19 = .ok (.iload 6, 2) := by decide +kernel
theorem dX8_knowersOf_21 : decode cX8_knowersOf 21 = .ok (.iload_n 2, 1) := by decide +kernel
theorem dX8_knowersOf_22 : decode cX8_knowersOf 22 = .ok (.iload 4, 2) := by decide +kernel
theorem dX8_knowersOf_24 : decode cX8_knowersOf 24 = .ok (.invokevirtual 112, 3) := by decide +kernel
theorem dX8_knowersOf_27 : decode cX8_knowersOf 27 = .ok (.ifCond .eq 27, 3) := by decide +kernel
theorem dX8_knowersOf_30 : decode cX8_knowersOf 30 = .ok (.aload_n 0, 1) := by decide +kernel
theorem dX8_knowersOf_31 : decode cX8_knowersOf 31 = .ok (.aload_n 1, 1) := by decide +kernel
theorem dX8_knowersOf_32 : decode cX8_knowersOf 32 = .ok (.iconst 0, 1) := by decide +kernel
theorem dX8_knowersOf_33 : decode cX8_knowersOf 33 = .ok (.iload 6, 2) := by decide +kernel
theorem dX8_knowersOf_35 : decode cX8_knowersOf 35 = .ok (.iadd, 1) := by decide +kernel
theorem dX8_knowersOf_36 : decode cX8_knowersOf 36 = .ok (.iaload, 1) := by decide +kernel
theorem dX8_knowersOf_37 : decode cX8_knowersOf 37 = .ok (.invokevirtual 116, 3) := by decide +kernel
theorem dX8_knowersOf_40 : decode cX8_knowersOf 40 = .ok (.iload_n 3, 1) := by decide +kernel
theorem dX8_knowersOf_41 : decode cX8_knowersOf 41 = .ok (.invokestatic 104, 3) := by decide +kernel
theorem dX8_knowersOf_44 : decode cX8_knowersOf 44 = .ok (.ifCond .eq 10, 3) := by decide +kernel
theorem dX8_knowersOf_47 : decode cX8_knowersOf 47 = .ok (.iconst 1, 1) := by decide +kernel
theorem dX8_knowersOf_48 : decode cX8_knowersOf 48 = .ok (.iload 6, 2) := by decide +kernel
theorem dX8_knowersOf_50 : decode cX8_knowersOf 50 = .ok (.ishl, 1) := by decide +kernel
theorem dX8_knowersOf_51 : decode cX8_knowersOf 51 = .ok (.goto 4, 3) := by decide +kernel
theorem dX8_knowersOf_54 : decode cX8_knowersOf 54 = .ok (.iconst 0, 1) := by decide +kernel
theorem dX8_knowersOf_55 : decode cX8_knowersOf 55 = .ok (.ior, 1) := by decide +kernel
theorem dX8_knowersOf_56 : decode cX8_knowersOf 56 = .ok (.istore 5, 2) := by decide +kernel
theorem dX8_knowersOf_58 : decode cX8_knowersOf 58 = .ok (.iinc 6 1, 3) := by decide +kernel
theorem dX8_knowersOf_61 : decode cX8_knowersOf 61 = .ok (.goto (-55), 3) := by decide +kernel
theorem dX8_knowersOf_64 : decode cX8_knowersOf 64 = .ok (.iload 5, 2) := by decide +kernel
theorem dX8_knowersOf_66 : decode cX8_knowersOf 66 = .ok (.ireturn, 1) := by decide +kernel
theorem dX8_finesOf_0 : decode cX8_finesOf 0 = .ok (.iconst 0, 1) := by decide +kernel
theorem dX8_finesOf_1 : decode cX8_finesOf 1 = .ok (.istore_n 2, 1) := by decide +kernel
theorem dX8_finesOf_2 : decode cX8_finesOf 2 = .ok (.iconst 0, 1) := by decide +kernel
theorem dX8_finesOf_3 : decode cX8_finesOf 3 = .ok (.istore_n 3, 1) := by decide +kernel
theorem dX8_finesOf_4 : decode cX8_finesOf 4 = .ok (.iload_n 3, 1) := by decide +kernel
theorem dX8_finesOf_5 : decode cX8_finesOf 5 = .ok (.aload_n 0, 1) := by decide +kernel
theorem dX8_finesOf_6 : decode cX8_finesOf 6 = .ok (.getfield 57, 3) := by decide +kernel
theorem dX8_finesOf_9 : decode cX8_finesOf 9 = .ok (.if_icmp .ge 18, 3) := by decide +kernel
theorem dX8_finesOf_12 : decode cX8_finesOf 12 = .ok (.iload_n 2, 1) := by decide +kernel
theorem dX8_finesOf_13 : decode cX8_finesOf 13 = .ok (.aload_n 1, 1) := by decide +kernel
theorem dX8_finesOf_14 : decode cX8_finesOf 14 = .ok (.bipush 10, 2) := by decide +kernel
theorem dX8_finesOf_16 : decode cX8_finesOf 16 = .ok (.iload_n 3, 1) := by decide +kernel
theorem dX8_finesOf_17 : decode cX8_finesOf 17 = .ok (.iadd, 1) := by decide +kernel
theorem dX8_finesOf_18 : decode cX8_finesOf 18 = .ok (.iaload, 1) := by decide +kernel
theorem dX8_finesOf_19 : decode cX8_finesOf 19 = .ok (.iadd, 1) := by decide +kernel
theorem dX8_finesOf_20 : decode cX8_finesOf 20 = .ok (.istore_n 2, 1) := by decide +kernel
theorem dX8_finesOf_21 : decode cX8_finesOf 21 = .ok (.iinc 3 1, 3) := by decide +kernel
theorem dX8_finesOf_24 : decode cX8_finesOf 24 = .ok (.goto (-20), 3) := by decide +kernel
theorem dX8_finesOf_27 : decode cX8_finesOf 27 = .ok (.iload_n 2, 1) := by decide +kernel
theorem dX8_finesOf_28 : decode cX8_finesOf 28 = .ok (.ireturn, 1) := by decide +kernel
theorem dX8_about_0 : decode cX8_about 0 = .ok (.aload_n 0, 1) := by decide +kernel
theorem dX8_about_1 : decode cX8_about 1 = .ok (.iconst 0, 1) := by decide +kernel
theorem dX8_about_2 : decode cX8_about 2 = .ok (.putfield 53, 3) := by decide +kernel
theorem dX8_about_5 : decode cX8_about 5 = .ok (.iconst 0, 1) := by decide +kernel
theorem dX8_about_6 : decode cX8_about 6 = .ok (.istore_n 2, 1) := by decide +kernel
theorem dX8_about_7 : decode cX8_about 7 = .ok (.iconst 0, 1) := by decide +kernel
theorem dX8_about_8 : decode cX8_about 8 = .ok (.istore_n 3, 1) := by decide +kernel
theorem dX8_about_9 : decode cX8_about 9 = .ok (.iload_n 3, 1) := by decide +kernel
theorem dX8_about_10 : decode cX8_about 10 = .ok (.aload_n 0, 1) := by decide +kernel
theorem dX8_about_11 : decode cX8_about 11 = .ok (.getfield 57, 3) := by decide +kernel
theorem dX8_about_14 : decode cX8_about 14 = .ok (.if_icmp .ge 24, 3) := by decide +kernel
theorem dX8_about_17 : decode cX8_about 17 = .ok (.iload_n 2, 1) := by decide +kernel
theorem dX8_about_18 : decode cX8_about 18 = .ok (.aload_n 0, 1) := by decide +kernel
theorem dX8_about_19 : decode cX8_about 19 = .ok (.aload_n 0, 1) := by decide +kernel
theorem dX8_about_20 : decode cX8_about 20 = .ok (.getfield 28, 3) := by decide +kernel
theorem dX8_about_23 : decode cX8_about 23 = .ok (.iconst 0, 1) := by decide +kernel
theorem dX8_about_24 : decode cX8_about 24 = .ok (.iload_n 3, 1) := by decide +kernel
theorem dX8_about_25 : decode cX8_about 25 = .ok (.iadd, 1) := by decide +kernel
theorem dX8_about_26 : decode cX8_about 26 = .ok (.iaload, 1) := by decide +kernel
theorem dX8_about_27 : decode cX8_about 27 = .ok (.invokevirtual 116, 3) := by decide +kernel
theorem dX8_about_30 : decode cX8_about 30 = .ok (.ior, 1) := by decide +kernel
theorem dX8_about_31 : decode cX8_about 31 = .ok (.istore_n 2, 1) := by decide +kernel
theorem dX8_about_32 : decode cX8_about 32 = .ok (.iinc 3 1, 3) := by decide +kernel
theorem dX8_about_35 : decode cX8_about 35 = .ok (.goto (-26), 3) := by decide +kernel
theorem dX8_about_38 : decode cX8_about 38 = .ok (.iload_n 1, 1) := by decide +kernel
theorem dX8_about_39 : decode cX8_about 39 = .ok (.tableswitch 77 0 6 #[41, 46, 51, 60, 62, 67, 72], 41) := by decide +kernel
theorem dX8_about_80 : decode cX8_about 80 = .ok (.aload_n 0, 1) := by decide +kernel
theorem dX8_about_81 : decode cX8_about 81 = .ok (.getfield 57, 3) := by decide +kernel
theorem dX8_about_84 : decode cX8_about 84 = .ok (.ireturn, 1) := by decide +kernel
theorem dX8_about_85 : decode cX8_about 85 = .ok (.aload_n 0, 1) := by decide +kernel
theorem dX8_about_86 : decode cX8_about 86 = .ok (.getfield 98, 3) := by decide +kernel
theorem dX8_about_89 : decode cX8_about 89 = .ok (.ireturn, 1) := by decide +kernel
theorem dX8_about_90 : decode cX8_about 90 = .ok (.aload_n 0, 1) := by decide +kernel
theorem dX8_about_91 : decode cX8_about 91 = .ok (.aload_n 0, 1) := by decide +kernel
theorem dX8_about_92 : decode cX8_about 92 = .ok (.getfield 28, 3) := by decide +kernel
theorem dX8_about_95 : decode cX8_about 95 = .ok (.invokevirtual 120, 3) := by decide +kernel
theorem dX8_about_98 : decode cX8_about 98 = .ok (.ireturn, 1) := by decide +kernel
theorem dX8_about_99 : decode cX8_about 99 = .ok (.iload_n 2, 1) := by decide +kernel
theorem dX8_about_100 : decode cX8_about 100 = .ok (.ireturn, 1) := by decide +kernel
theorem dX8_about_101 : decode cX8_about 101 = .ok (.aload_n 0, 1) := by decide +kernel
theorem dX8_about_102 : decode cX8_about 102 = .ok (.getfield 101, 3) := by decide +kernel
theorem dX8_about_105 : decode cX8_about 105 = .ok (.ireturn, 1) := by decide +kernel
theorem dX8_about_106 : decode cX8_about 106 = .ok (.aload_n 0, 1) := by decide +kernel
theorem dX8_about_107 : decode cX8_about 107 = .ok (.getfield 124, 3) := by decide +kernel
theorem dX8_about_110 : decode cX8_about 110 = .ok (.ireturn, 1) := by decide +kernel
theorem dX8_about_111 : decode cX8_about 111 = .ok (.aload_n 0, 1) := by decide +kernel
theorem dX8_about_112 : decode cX8_about 112 = .ok (.getfield 68, 3) := by decide +kernel
theorem dX8_about_115 : decode cX8_about 115 = .ok (.ireturn, 1) := by decide +kernel
theorem dX8_about_116 : decode cX8_about 116 = .ok (.bipush (-2), 2) := by decide +kernel
theorem dX8_about_118 : decode cX8_about 118 = .ok (.ireturn, 1) := by decide +kernel
theorem dX8_person_0 : decode cX8_person 0 = .ok (.aload_n 0, 1) := by decide +kernel
theorem dX8_person_1 : decode cX8_person 1 = .ok (.iconst 0, 1) := by decide +kernel
theorem dX8_person_2 : decode cX8_person 2 = .ok (.putfield 53, 3) := by decide +kernel
theorem dX8_person_5 : decode cX8_person 5 = .ok (.aload_n 0, 1) := by decide +kernel
theorem dX8_person_6 : decode cX8_person 6 = .ok (.iload_n 1, 1) := by decide +kernel
theorem dX8_person_7 : decode cX8_person 7 = .ok (.invokevirtual 127, 3) := by decide +kernel
theorem dX8_person_10 : decode cX8_person 10 = .ok (.ifCond .eq 5, 3) := by decide +kernel
theorem dX8_person_13 : decode cX8_person 13 = .ok (.iconst (-1), 1) := by decide +kernel
theorem dX8_person_14 : decode cX8_person 14 = .ok (.ireturn, 1) := by decide +kernel
theorem dX8_person_15 : decode cX8_person 15 = .ok (.iload_n 2, 1) := by decide +kernel
theorem dX8_person_16 : decode cX8_person 16 = .ok (.tableswitch 84 0 4 #[36, 43, 52, 65, 74], 36) := by decide +kernel
theorem dX8_person_52 : decode cX8_person 52 = .ok (.aload_n 0, 1) := by decide +kernel
theorem dX8_person_53 : decode cX8_person 53 = .ok (.getfield 13, 3) := by decide +kernel
theorem dX8_person_56 : decode cX8_person 56 = .ok (.iload_n 1, 1) := by decide +kernel
theorem dX8_person_57 : decode cX8_person 57 = .ok (.iaload, 1) := by decide +kernel
theorem dX8_person_58 : decode cX8_person 58 = .ok (.ireturn, 1) := by decide +kernel
theorem dX8_person_59 : decode cX8_person 59 = .ok (.aload_n 0, 1) := by decide +kernel
theorem dX8_person_60 : decode cX8_person 60 = .ok (.getfield 28, 3) := by decide +kernel
theorem dX8_person_63 : decode cX8_person 63 = .ok (.iconst 0, 1) := by decide +kernel
theorem dX8_person_64 : decode cX8_person 64 = .ok (.iload_n 1, 1) := by decide +kernel
theorem dX8_person_65 : decode cX8_person 65 = .ok (.iadd, 1) := by decide +kernel
theorem dX8_person_66 : decode cX8_person 66 = .ok (.iaload, 1) := by decide +kernel
theorem dX8_person_67 : decode cX8_person 67 = .ok (.ireturn, 1) := by decide +kernel
theorem dX8_person_68 : decode cX8_person 68 = .ok (.aload_n 0, 1) := by decide +kernel
theorem dX8_person_69 : decode cX8_person 69 = .ok (.aload_n 0, 1) := by decide +kernel
theorem dX8_person_70 : decode cX8_person 70 = .ok (.getfield 28, 3) := by decide +kernel
theorem dX8_person_73 : decode cX8_person 73 = .ok (.iconst 0, 1) := by decide +kernel
theorem dX8_person_74 : decode cX8_person 74 = .ok (.iload_n 1, 1) := by decide +kernel
theorem dX8_person_75 : decode cX8_person 75 = .ok (.iadd, 1) := by decide +kernel
theorem dX8_person_76 : decode cX8_person 76 = .ok (.iaload, 1) := by decide +kernel
theorem dX8_person_77 : decode cX8_person 77 = .ok (.invokevirtual 116, 3) := by decide +kernel
theorem dX8_person_80 : decode cX8_person 80 = .ok (.ireturn, 1) := by decide +kernel
theorem dX8_person_81 : decode cX8_person 81 = .ok (.aload_n 0, 1) := by decide +kernel
theorem dX8_person_82 : decode cX8_person 82 = .ok (.getfield 28, 3) := by decide +kernel
theorem dX8_person_85 : decode cX8_person 85 = .ok (.iconst 5, 1) := by decide +kernel
theorem dX8_person_86 : decode cX8_person 86 = .ok (.iload_n 1, 1) := by decide +kernel
theorem dX8_person_87 : decode cX8_person 87 = .ok (.iadd, 1) := by decide +kernel
theorem dX8_person_88 : decode cX8_person 88 = .ok (.iaload, 1) := by decide +kernel
theorem dX8_person_89 : decode cX8_person 89 = .ok (.ireturn, 1) := by decide +kernel
theorem dX8_person_90 : decode cX8_person 90 = .ok (.aload_n 0, 1) := by decide +kernel
theorem dX8_person_91 : decode cX8_person 91 = .ok (.getfield 28, 3) := by decide +kernel
theorem dX8_person_94 : decode cX8_person 94 = .ok (.bipush 10, 2) := by decide +kernel
theorem dX8_person_96 : decode cX8_person 96 = .ok (.iload_n 1, 1) := by decide +kernel
theorem dX8_person_97 : decode cX8_person 97 = .ok (.iadd, 1) := by decide +kernel
theorem dX8_person_98 : decode cX8_person 98 = .ok (.iaload, 1) := by decide +kernel
theorem dX8_person_99 : decode cX8_person 99 = .ok (.ireturn, 1) := by decide +kernel
theorem dX8_person_100 : decode cX8_person 100 = .ok (.bipush (-2), 2) := by decide +kernel
theorem dX8_person_102 : decode cX8_person 102 = .ok (.ireturn, 1) := by decide +kernel
theorem dX8_far_0 : decode cX8_far 0 = .ok (.aload_n 0, 1) := by decide +kernel
theorem dX8_far_1 : decode cX8_far 1 = .ok (.iconst 0, 1) := by decide +kernel
theorem dX8_far_2 : decode cX8_far 2 = .ok (.putfield 53, 3) := by decide +kernel
theorem dX8_far_5 : decode cX8_far 5 = .ok (.aload_n 0, 1) := by decide +kernel
theorem dX8_far_6 : decode cX8_far 6 = .ok (.iload_n 1, 1) := by decide +kernel
theorem dX8_far_7 : decode cX8_far 7 = .ok (.invokevirtual 127, 3) := by decide +kernel
theorem dX8_far_10 : decode cX8_far 10 = .ok (.ifCond .ne 11, 3) := by decide +kernel
theorem dX8_far_13 : decode cX8_far 13 = .ok (.aload_n 0, 1) := by decide +kernel
theorem dX8_far_14 : decode cX8_far 14 = .ok (.iload_n 2, 1) := by decide +kernel
theorem dX8_far_15 : decode cX8_far 15 = .ok (.invokevirtual 127, 3) := by decide +kernel
theorem dX8_far_18 : decode cX8_far 18 = .ok (.ifCond .eq 7, 3) := by decide +kernel
theorem dX8_far_21 : decode cX8_far 21 = .ok (.iconst (-1), 1) := by decide +kernel
theorem dX8_far_22 : decode cX8_far 22 = .ok (.goto 13, 3) := by decide +kernel
theorem dX8_far_25 : decode cX8_far 25 = .ok (.aload_n 0, 1) := by decide +kernel
theorem dX8_far_26 : decode cX8_far 26 = .ok (.aload_n 0, 1) := by decide +kernel
theorem dX8_far_27 : decode cX8_far 27 = .ok (.getfield 28, 3) := by decide +kernel
theorem dX8_far_30 : decode cX8_far 30 = .ok (.iload_n 1, 1) := by decide +kernel
theorem dX8_far_31 : decode cX8_far 31 = .ok (.iload_n 2, 1) := by decide +kernel
theorem dX8_far_32 : decode cX8_far 32 = .ok (.invokevirtual 108, 3) := by decide +kernel
theorem dX8_far_35 : decode cX8_far 35 = .ok (.ireturn, 1) := by decide +kernel
theorem dX8_note_0 : decode cX8_note 0 = .ok (.aload_n 0, 1) := by decide +kernel
theorem dX8_note_1 : decode cX8_note 1 = .ok (.getfield 101, 3) := by decide +kernel
theorem dX8_note_4 : decode cX8_note 4 = .ok (.bipush 14, 2) := by decide +kernel
theorem dX8_note_6 : decode cX8_note 6 = .ok (.if_icmp .ne 43, 3) := by decide +kernel
theorem dX8_note_9 : decode cX8_note 9 = .ok (.iconst 0, 1) := by decide +kernel
theorem dX8_note_10 : decode cX8_note 10 = .ok (.istore_n 1, 1) := by decide +kernel
theorem dX8_note_11 : decode cX8_note 11 = .ok (.iload_n 1, 1) := by decide +kernel
theorem dX8_note_12 : decode cX8_note 12 = .ok (.sipush 195, 3) := by decide +kernel
theorem dX8_note_15 : decode cX8_note 15 = .ok (.if_icmp .ge 24, 3) := by decide +kernel
theorem dX8_note_18 : decode cX8_note 18 = .ok (.aload_n 0, 1) := by decide +kernel
theorem dX8_note_19 : decode cX8_note 19 = .ok (.getfield 34, 3) := by decide +kernel
theorem dX8_note_22 : decode cX8_note 22 = .ok (.iload_n 1, 1) := by decide +kernel
theorem dX8_note_23 : decode cX8_note 23 = .ok (.aload_n 0, 1) := by decide +kernel
theorem dX8_note_24 : decode cX8_note 24 = .ok (.getfield 34, 3) := by decide +kernel
theorem dX8_note_27 : decode cX8_note 27 = .ok (.iload_n 1, 1) := by decide +kernel
theorem dX8_note_28 : decode cX8_note 28 = .ok (.bipush 15, 2) := by decide +kernel
theorem dX8_note_30 : decode cX8_note 30 = .ok (.iadd, 1) := by decide +kernel
theorem dX8_note_31 : decode cX8_note 31 = .ok (.iaload, 1) := by decide +kernel
theorem dX8_note_32 : decode cX8_note 32 = .ok (.iastore, 1) := by decide +kernel
theorem dX8_note_33 : decode cX8_note 33 = .ok (.iinc 1 1, 3) := by decide +kernel
theorem dX8_note_36 : decode cX8_note 36 = .ok (.goto (-25), 3) := by decide +kernel
theorem dX8_note_39 : decode cX8_note 39 = .ok (.aload_n 0, 1) := by decide +kernel
theorem dX8_note_40 : decode cX8_note 40 = .ok (.dup, 1) := by decide +kernel
theorem dX8_note_41 : decode cX8_note 41 = .ok (.getfield 101, 3) := by decide +kernel
theorem dX8_note_44 : decode cX8_note 44 = .ok (.iconst 1, 1) := by decide +kernel
theorem dX8_note_45 : decode cX8_note 45 = .ok (.isub, 1) := by decide +kernel
theorem dX8_note_46 : decode cX8_note 46 = .ok (.putfield 101, 3) := by decide +kernel
theorem dX8_note_49 : decode cX8_note 49 = .ok (.iconst 0, 1) := by decide +kernel
theorem dX8_note_50 : decode cX8_note 50 = .ok (.istore_n 1, 1) := by decide +kernel
theorem dX8_note_51 : decode cX8_note 51 = .ok (.iload_n 1, 1) := by decide +kernel
theorem dX8_note_52 : decode cX8_note 52 = .ok (.bipush 15, 2) := by decide +kernel
theorem dX8_note_54 : decode cX8_note 54 = .ok (.if_icmp .ge 29, 3) := by decide +kernel
theorem dX8_note_57 : decode cX8_note 57 = .ok (.aload_n 0, 1) := by decide +kernel
theorem dX8_note_58 : decode cX8_note 58 = .ok (.getfield 34, 3) := by decide +kernel
theorem dX8_note_61 : decode cX8_note 61 = .ok (.bipush 15, 2) := by decide +kernel
theorem dX8_note_63 : decode cX8_note 63 = .ok (.aload_n 0, 1) := by decide +kernel
theorem dX8_note_64 : decode cX8_note 64 = .ok (.getfield 101, 3) := by decide +kernel
theorem dX8_note_67 : decode cX8_note 67 = .ok (.imul, 1) := by decide +kernel
theorem dX8_note_68 : decode cX8_note 68 = .ok (.iload_n 1, 1) := by decide +kernel
theorem dX8_note_69 : decode cX8_note 69 = .ok (.iadd, 1) := by decide +kernel
theorem dX8_note_70 : decode cX8_note 70 = .ok (.aload_n 0, 1) := by decide +kernel
theorem dX8_note_71 : decode cX8_note 71 = .ok (.getfield 28, 3) := by decide +kernel
theorem dX8_note_74 : decode cX8_note 74 = .ok (.iload_n 1, 1) := by decide +kernel
theorem dX8_note_75 : decode cX8_note 75 = .ok (.iaload, 1) := by decide +kernel
theorem dX8_note_76 : decode cX8_note 76 = .ok (.iastore, 1) := by decide +kernel
theorem dX8_note_77 : decode cX8_note 77 = .ok (.iinc 1 1, 3) := by decide +kernel
theorem dX8_note_80 : decode cX8_note 80 = .ok (.goto (-29), 3) := by decide +kernel
theorem dX8_note_83 : decode cX8_note 83 = .ok (.aload_n 0, 1) := by decide +kernel
theorem dX8_note_84 : decode cX8_note 84 = .ok (.dup, 1) := by decide +kernel
theorem dX8_note_85 : decode cX8_note 85 = .ok (.getfield 101, 3) := by decide +kernel
theorem dX8_note_88 : decode cX8_note 88 = .ok (.iconst 1, 1) := by decide +kernel
theorem dX8_note_89 : decode cX8_note 89 = .ok (.iadd, 1) := by decide +kernel
theorem dX8_note_90 : decode cX8_note 90 = .ok (.putfield 101, 3) := by decide +kernel
theorem dX8_note_93 : decode cX8_note 93 = .ok (.return_, 1) := by decide +kernel
theorem dX8_sitter_0 : decode cX8_sitter 0 = .ok (.bipush (-9), 2) := by decide +kernel
theorem dX8_sitter_2 : decode cX8_sitter 2 = .ok (.istore_n 3, 1) := by decide +kernel
theorem dX8_sitter_3 : decode cX8_sitter 3 = .ok (.iconst 0, 1) := by decide +kernel
theorem dX8_sitter_4 : decode cX8_sitter 4 = .ok (.istore 4, 2) := by decide +kernel
theorem dX8_sitter_6 : decode cX8_sitter 6 = .ok (.iload 4, 2) := by decide +kernel
theorem dX8_sitter_8 : decode cX8_sitter 8 = .ok (.aload_n 0, 1) := by decide +kernel
theorem dX8_sitter_9 : decode cX8_sitter 9 = .ok (.getfield 57, 3) := by decide +kernel
theorem dX8_sitter_12 : decode cX8_sitter 12 = .ok (.if_icmp .ge 26, 3) := by decide +kernel
theorem dX8_sitter_15 : decode cX8_sitter 15 = .ok (.aload_n 1, 1) := by decide +kernel
theorem dX8_sitter_16 : decode cX8_sitter 16 = .ok (.iconst 5, 1) := by decide +kernel
theorem dX8_sitter_17 : decode cX8_sitter 17 = .ok (.iload 4, 2) := by decide +kernel
theorem dX8_sitter_19 : decode cX8_sitter 19 = .ok (.iadd, 1) := by decide +kernel
theorem dX8_sitter_20 : decode cX8_sitter 20 = .ok (.iaload, 1) := by decide +kernel
theorem dX8_sitter_21 : decode cX8_sitter 21 = .ok (.iload_n 2, 1) := by decide +kernel
theorem dX8_sitter_22 : decode cX8_sitter 22 = .ok (.if_icmp .ne 8, 3) := by decide +kernel
theorem dX8_sitter_25 : decode cX8_sitter 25 = .ok (.iload 4, 2) := by decide +kernel
theorem dX8_sitter_27 : decode cX8_sitter 27 = .ok (.goto 4, 3) := by decide +kernel
theorem dX8_sitter_30 : decode cX8_sitter 30 = .ok (.iload_n 3, 1) := by decide +kernel
theorem dX8_sitter_31 : decode cX8_sitter 31 = .ok (.istore_n 3, 1) := by decide +kernel
theorem dX8_sitter_32 : decode cX8_sitter 32 = .ok (.iinc 4 1, 3) := by decide +kernel
theorem dX8_sitter_35 : decode cX8_sitter 35 = .ok (.goto (-29), 3) := by decide +kernel
theorem dX8_sitter_38 : decode cX8_sitter 38 = .ok (.iload_n 3, 1) := by decide +kernel
theorem dX8_sitter_39 : decode cX8_sitter 39 = .ok (.ireturn, 1) := by decide +kernel
theorem dX8_corrector_0 : decode cX8_corrector 0 = .ok (.bipush (-9), 2) := by decide +kernel
theorem dX8_corrector_2 : decode cX8_corrector 2 = .ok (.istore 4, 2) := by decide +kernel
theorem dX8_corrector_4 : decode cX8_corrector 4 = .ok (.aload_n 0, 1) := by decide +kernel
theorem dX8_corrector_5 : decode cX8_corrector 5 = .ok (.getfield 57, 3) := by decide +kernel
theorem dX8_corrector_8 : decode cX8_corrector 8 = .ok (.iconst 1, 1) := by decide +kernel
theorem dX8_corrector_9 : decode cX8_corrector 9 = .ok (.isub, 1) := by decide +kernel
theorem dX8_corrector_10 : decode cX8_corrector 10 = .ok (.istore 5, 2) := by decide +kernel
theorem dX8_corrector_12 : decode cX8_corrector 12 = .ok (.iload 5, 2) := by decide +kernel
theorem dX8_corrector_14 : decode cX8_corrector 14 = .ok (.ifCond .le 58, 3) := by decide +kernel
theorem dX8_corrector_17 : decode cX8_corrector 17 = .ok (.aload_n 0, 1) := by decide +kernel
theorem dX8_corrector_18 : decode cX8_corrector 18 = .ok (.aload_n 1, 1) := by decide +kernel
theorem dX8_corrector_19 : decode cX8_corrector 19 = .ok (.aload_n 1, 1) := by decide +kernel
theorem dX8_corrector_20 : decode cX8_corrector 20 = .ok (.iconst 5, 1) := by decide +kernel
theorem dX8_corrector_21 : decode cX8_corrector 21 = .ok (.iload_n 2, 1) := by decide +kernel
theorem dX8_corrector_22 : decode cX8_corrector 22 = .ok (.iadd, 1) := by decide +kernel
theorem dX8_corrector_23 : decode cX8_corrector 23 = .ok (.iaload, 1) := by decide +kernel
theorem dX8_corrector_24 : decode cX8_corrector 24 = .ok (.iload 5, 2) := by decide +kernel
theorem dX8_corrector_26 : decode cX8_corrector 26 = .ok (.iadd, 1) := by decide +kernel
theorem dX8_corrector_27 : decode cX8_corrector 27 = .ok (.aload_n 0, 1) := by decide +kernel
theorem dX8_corrector_28 : decode cX8_corrector 28 = .ok (.getfield 57, 3) := by decide +kernel
theorem dX8_corrector_31 : decode cX8_corrector 31 = .ok (.irem, 1) := by decide +kernel
theorem dX8_corrector_32 : decode cX8_corrector 32 = .ok (.invokevirtual 131, 3) := by decide +kernel
theorem dX8_corrector_35 : decode cX8_corrector 35 = .ok (.istore 6, 2) := by decide +kernel
theorem dX8_corrector_37 : decode cX8_corrector 37 = .ok (.iload_n 3, 1) := by decide +kernel
theorem dX8_corrector_38 : decode cX8_corrector 38 = .ok (.iload 6, 2) := by decide +kernel
theorem dX8_corrector_40 : decode cX8_corrector 40 = .ok (.invokestatic 104, 3) := by decide +kernel
theorem dX8_corrector_43 : decode cX8_corrector 43 = .ok (.ifCond .eq 19, 3) := by decide +kernel
theorem dX8_corrector_46 : decode cX8_corrector 46 = .ok (.aload_n 0, 1) := by decide +kernel
theorem dX8_corrector_47 : decode cX8_corrector 47 = .ok (.getfield 13, 3) := by decide +kernel
theorem dX8_corrector_50 : decode cX8_corrector 50 = .ok (.iload 6, 2) := by decide +kernel
theorem dX8_corrector_52 : decode cX8_corrector 52 = .ok (.iaload, 1) := by decide +kernel
theorem dX8_corrector_53 : decode cX8_corrector 53 = .ok (.iconst 2, 1) := by decide +kernel
theorem dX8_corrector_54 : decode cX8_corrector 54 = .ok (.if_icmp .eq 8, 3) := by decide +kernel
theorem dX8_corrector_57 : decode cX8_corrector 57 = .ok (.iload 6, 2) := by decide +kernel
theorem dX8_corrector_59 : decode cX8_corrector 59 = .ok (.goto 5, 3) := by decide +kernel
theorem dX8_corrector_62 : decode cX8_corrector 62 = .ok (.iload 4, 2) := by decide +kernel
theorem dX8_corrector_64 : decode cX8_corrector 64 = .ok (.istore 4, 2) := by decide +kernel
theorem dX8_corrector_66 : decode cX8_corrector 66 = .ok (.iinc 5 (-1), 3) := by decide +kernel
theorem dX8_corrector_69 : decode cX8_corrector 69 = .ok (.goto (-57), 3) := by decide +kernel
theorem dX8_corrector_72 : decode cX8_corrector 72 = .ok (.iload 4, 2) := by decide +kernel
theorem dX8_corrector_74 : decode cX8_corrector 74 = .ok (.ireturn, 1) := by decide +kernel
theorem dX8_goSay_0 : decode cX8_goSay 0 = .ok (.aload_n 0, 1) := by decide +kernel
theorem dX8_goSay_1 : decode cX8_goSay 1 = .ok (.aload_n 1, 1) := by decide +kernel
theorem dX8_goSay_2 : decode cX8_goSay 2 = .ok (.iload_n 2, 1) := by decide +kernel
theorem dX8_goSay_3 : decode cX8_goSay 3 = .ok (.iload_n 3, 1) := by decide +kernel
theorem dX8_goSay_4 : decode cX8_goSay 4 = .ok (.iload 4, 2) := by decide +kernel
theorem dX8_goSay_6 : decode cX8_goSay 6 = .ok (.invokevirtual 135, 3) := by decide +kernel
theorem dX8_goSay_9 : decode cX8_goSay 9 = .ok (.istore 5, 2) := by decide +kernel
theorem dX8_goSay_11 : decode cX8_goSay 11 = .ok (.aload_n 0, 1) := by decide +kernel
theorem dX8_goSay_12 : decode cX8_goSay 12 = .ok (.aload_n 1, 1) := by decide +kernel
theorem dX8_goSay_13 : decode cX8_goSay 13 = .ok (.iload_n 2, 1) := by decide +kernel
theorem dX8_goSay_14 : decode cX8_goSay 14 = .ok (.iload 5, 2) := by decide +kernel
theorem dX8_goSay_16 : decode cX8_goSay 16 = .ok (.invokevirtual 139, 3) := by decide +kernel
theorem dX8_goSay_19 : decode cX8_goSay 19 = .ok (.istore 6, 2) := by decide +kernel
theorem dX8_goSay_21 : decode cX8_goSay 21 = .ok (.aload_n 0, 1) := by decide +kernel
theorem dX8_goSay_22 : decode cX8_goSay 22 = .ok (.aload_n 1, 1) := by decide +kernel
theorem dX8_goSay_23 : decode cX8_goSay 23 = .ok (.iload_n 2, 1) := by decide +kernel
theorem dX8_goSay_24 : decode cX8_goSay 24 = .ok (.iload 4, 2) := by decide +kernel
theorem dX8_goSay_26 : decode cX8_goSay 26 = .ok (.invokevirtual 142, 3) := by decide +kernel
theorem dX8_goSay_29 : decode cX8_goSay 29 = .ok (.istore 7, 2) := by decide +kernel
theorem dX8_goSay_31 : decode cX8_goSay 31 = .ok (.iconst 0, 1) := by decide +kernel
theorem dX8_goSay_32 : decode cX8_goSay 32 = .ok (.istore 8, 2) := by decide +kernel
theorem dX8_goSay_34 : decode cX8_goSay 34 = .ok (.iload 8, 2) := by decide +kernel
theorem dX8_goSay_36 : decode cX8_goSay 36 = .ok (.aload_n 0, 1) := by decide +kernel
theorem dX8_goSay_37 : decode cX8_goSay 37 = .ok (.getfield 57, 3) := by decide +kernel
theorem dX8_goSay_40 : decode cX8_goSay 40 = .ok (.if_icmp .ge 81, 3) := by decide +kernel
theorem dX8_goSay_43 : decode cX8_goSay 43 = .ok (.aload_n 1, 1) := by decide +kernel
theorem dX8_goSay_44 : decode cX8_goSay 44 = .ok (.iconst 0, 1) := by decide +kernel
theorem dX8_goSay_45 : decode cX8_goSay 45 = .ok (.iload 8, 2) := by decide +kernel
theorem dX8_goSay_47 : decode cX8_goSay 47 = .ok (.iadd, 1) := by decide +kernel
theorem dX8_goSay_48 : decode cX8_goSay 48 = .ok (.dup2, 1) := by decide +kernel
theorem dX8_goSay_49 : decode cX8_goSay 49 = .ok (.iaload, 1) := by decide +kernel
theorem dX8_goSay_50 : decode cX8_goSay 50 = .ok (.iload 6, 2) := by decide +kernel
theorem dX8_goSay_52 : decode cX8_goSay 52 = .ok (.bipush (-9), 2) := by decide +kernel
theorem dX8_goSay_54 : decode cX8_goSay 54 = .ok (.if_icmp .eq 19, 3) := by decide +kernel
theorem dX8_goSay_57 : decode cX8_goSay 57 = .ok (.iload 7, 2) := by decide +kernel
theorem dX8_goSay_59 : decode cX8_goSay 59 = .ok (.iload 8, 2) := by decide +kernel
theorem dX8_goSay_61 : decode cX8_goSay 61 = .ok (.invokestatic 104, 3) := by decide +kernel
theorem dX8_goSay_64 : decode cX8_goSay 64 = .ok (.ifCond .eq 9, 3) := by decide +kernel
theorem dX8_goSay_67 : decode cX8_goSay 67 = .ok (.iconst 1, 1) := by decide +kernel
theorem dX8_goSay_68 : decode cX8_goSay 68 = .ok (.iload_n 3, 1) := by decide +kernel
theorem dX8_goSay_69 : decode cX8_goSay 69 = .ok (.ishl, 1) := by decide +kernel
theorem dX8_goSay_70 : decode cX8_goSay 70 = .ok (.goto 4, 3) := by decide +kernel
theorem dX8_goSay_73 : decode cX8_goSay 73 = .ok (.iconst 0, 1) := by decide +kernel
theorem dX8_goSay_74 : decode cX8_goSay 74 = .ok (.ior, 1) := by decide +kernel
theorem dX8_goSay_75 : decode cX8_goSay 75 = .ok (.iastore, 1) := by decide +kernel
theorem dX8_goSay_76 : decode cX8_goSay 76 = .ok (.aload_n 1, 1) := by decide +kernel
theorem dX8_goSay_77 : decode cX8_goSay 77 = .ok (.bipush 10, 2) := by decide +kernel
theorem dX8_goSay_79 : decode cX8_goSay 79 = .ok (.iload 8, 2) := by decide +kernel
theorem dX8_goSay_81 : decode cX8_goSay 81 = .ok (.iadd, 1) := by decide +kernel
theorem dX8_goSay_82 : decode cX8_goSay 82 = .ok (.dup2, 1) := by decide +kernel
theorem dX8_goSay_83 : decode cX8_goSay 83 = .ok (.iaload, 1) := by decide +kernel
theorem dX8_goSay_84 : decode cX8_goSay 84 = .ok (.iload 6, 2) := by decide +kernel
theorem dX8_goSay_86 : decode cX8_goSay 86 = .ok (.bipush (-9), 2) := by decide +kernel
theorem dX8_goSay_88 : decode cX8_goSay 88 = .ok (.if_icmp .ne 24, 3) := by decide +kernel
theorem dX8_goSay_91 : decode cX8_goSay 91 = .ok (.iload 5, 2) := by decide +kernel
theorem dX8_goSay_93 : decode cX8_goSay 93 = .ok (.iload 8, 2) := by decide +kernel
theorem dX8_goSay_95 : decode cX8_goSay 95 = .ok (.invokestatic 104, 3) := by decide +kernel
theorem dX8_goSay_98 : decode cX8_goSay 98 = .ok (.ifCond .eq 14, 3) := by decide +kernel
theorem dX8_goSay_101 : decode cX8_goSay 101 = .ok (.bipush 12, 2) := by decide +kernel
theorem dX8_goSay_103 : decode cX8_goSay 103 = .ok (.iload 5, 2) := by decide +kernel
theorem dX8_goSay_105 : decode cX8_goSay 105 = .ok (.invokestatic 145, 3) := by decide +kernel
theorem dX8_goSay_108 : decode cX8_goSay 108 = .ok (.idiv, 1) := by decide +kernel
theorem dX8_goSay_109 : decode cX8_goSay 109 = .ok (.goto 4, 3) := by decide +kernel
theorem dX8_goSay_112 : decode cX8_goSay 112 = .ok (.iconst 0, 1) := by decide +kernel
theorem dX8_goSay_113 : decode cX8_goSay 113 = .ok (.iadd, 1) := by decide +kernel
theorem dX8_goSay_114 : decode cX8_goSay 114 = .ok (.iastore, 1) := by decide +kernel
theorem dX8_goSay_115 : decode cX8_goSay 115 = .ok (.iinc 8 1, 3) := by decide +kernel
theorem dX8_goSay_118 : decode cX8_goSay 118 = .ok (.goto (-84), 3) := by decide +kernel
theorem dX8_goSay_121 : decode cX8_goSay 121 = .ok (.aload_n 1, 1) := by decide +kernel
theorem dX8_goSay_122 : decode cX8_goSay 122 = .ok (.bipush 10, 2) := by decide +kernel
theorem dX8_goSay_124 : decode cX8_goSay 124 = .ok (.iload_n 2, 1) := by decide +kernel
theorem dX8_goSay_125 : decode cX8_goSay 125 = .ok (.iadd, 1) := by decide +kernel
theorem dX8_goSay_126 : decode cX8_goSay 126 = .ok (.dup2, 1) := by decide +kernel
theorem dX8_goSay_127 : decode cX8_goSay 127 = .ok (.iaload, 1) := by decide +kernel
theorem dX8_goSay_128 : decode cX8_goSay 128 = .ok (.iload 6, 2) := by decide +kernel
theorem dX8_goSay_130 : decode cX8_goSay 130 = .ok (.bipush (-9), 2) := by decide +kernel
theorem dX8_goSay_132 : decode cX8_goSay 132 = .ok (.if_icmp .eq 17, 3) := by decide +kernel
theorem dX8_goSay_135 : decode cX8_goSay 135 = .ok (.aload_n 0, 1) := by decide +kernel
theorem dX8_goSay_136 : decode cX8_goSay 136 = .ok (.getfield 13, 3) := by decide +kernel
theorem dX8_goSay_139 : decode cX8_goSay 139 = .ok (.iload_n 2, 1) := by decide +kernel
theorem dX8_goSay_140 : decode cX8_goSay 140 = .ok (.iaload, 1) := by decide +kernel
theorem dX8_goSay_141 : decode cX8_goSay 141 = .ok (.iconst 3, 1) := by decide +kernel
theorem dX8_goSay_142 : decode cX8_goSay 142 = .ok (.if_icmp .eq 7, 3) := by decide +kernel
theorem dX8_goSay_145 : decode cX8_goSay 145 = .ok (.iconst 1, 1) := by decide +kernel
theorem dX8_goSay_146 : decode cX8_goSay 146 = .ok (.goto 4, 3) := by decide +kernel
theorem dX8_goSay_149 : decode cX8_goSay 149 = .ok (.iconst 0, 1) := by decide +kernel
theorem dX8_goSay_150 : decode cX8_goSay 150 = .ok (.iadd, 1) := by decide +kernel
theorem dX8_goSay_151 : decode cX8_goSay 151 = .ok (.iastore, 1) := by decide +kernel
theorem dX8_goSay_152 : decode cX8_goSay 152 = .ok (.iload 6, 2) := by decide +kernel
theorem dX8_goSay_154 : decode cX8_goSay 154 = .ok (.ireturn, 1) := by decide +kernel
theorem dX8_say_0 : decode cX8_say 0 = .ok (.aload_n 0, 1) := by decide +kernel
theorem dX8_say_1 : decode cX8_say 1 = .ok (.iconst 0, 1) := by decide +kernel
theorem dX8_say_2 : decode cX8_say 2 = .ok (.putfield 53, 3) := by decide +kernel
theorem dX8_say_5 : decode cX8_say 5 = .ok (.aload_n 0, 1) := by decide +kernel
theorem dX8_say_6 : decode cX8_say 6 = .ok (.iload_n 1, 1) := by decide +kernel
theorem dX8_say_7 : decode cX8_say 7 = .ok (.invokevirtual 127, 3) := by decide +kernel
theorem dX8_say_10 : decode cX8_say 10 = .ok (.ifCond .ne 10, 3) := by decide +kernel
theorem dX8_say_13 : decode cX8_say 13 = .ok (.iload_n 2, 1) := by decide +kernel
theorem dX8_say_14 : decode cX8_say 14 = .ok (.invokestatic 148, 3) := by decide +kernel
theorem dX8_say_17 : decode cX8_say 17 = .ok (.ifCond .eq 5, 3) := by decide +kernel
theorem dX8_say_20 : decode cX8_say 20 = .ok (.iconst (-1), 1) := by decide +kernel
theorem dX8_say_21 : decode cX8_say 21 = .ok (.ireturn, 1) := by decide +kernel
theorem dX8_say_22 : decode cX8_say 22 = .ok (.iload_n 3, 1) := by decide +kernel
theorem dX8_say_23 : decode cX8_say 23 = .ok (.i2l, 1) := by decide +kernel
theorem dX8_say_24 : decode cX8_say 24 = .ok (.lconst 1, 1) := by decide +kernel
theorem dX8_say_25 : decode cX8_say 25 = .ok (.ldc2_w 151, 3) := by decide +kernel
theorem dX8_say_28 : decode cX8_say 28 = .ok (.invokestatic 60, 3) := by decide +kernel
theorem dX8_say_31 : decode cX8_say 31 = .ok (.ifCond .ne 6, 3) := by decide +kernel
theorem dX8_say_34 : decode cX8_say 34 = .ok (.bipush (-2), 2) := by decide +kernel
theorem dX8_say_36 : decode cX8_say 36 = .ok (.ireturn, 1) := by decide +kernel
theorem dX8_say_37 : decode cX8_say 37 = .ok (.aload_n 0, 1) := by decide +kernel
theorem dX8_say_38 : decode cX8_say 38 = .ok (.invokevirtual 153, 3) := by decide +kernel
theorem dX8_say_41 : decode cX8_say 41 = .ok (.aload_n 0, 1) := by decide +kernel
theorem dX8_say_42 : decode cX8_say 42 = .ok (.aload_n 0, 1) := by decide +kernel
theorem dX8_say_43 : decode cX8_say 43 = .ok (.getfield 28, 3) := by decide +kernel
theorem dX8_say_46 : decode cX8_say 46 = .ok (.iload_n 1, 1) := by decide +kernel
theorem dX8_say_47 : decode cX8_say 47 = .ok (.iload_n 2, 1) := by decide +kernel
theorem dX8_say_48 : decode cX8_say 48 = .ok (.iload_n 3, 1) := by decide +kernel
theorem dX8_say_49 : decode cX8_say 49 = .ok (.invokevirtual 156, 3) := by decide +kernel
theorem dX8_say_52 : decode cX8_say 52 = .ok (.ireturn, 1) := by decide +kernel
theorem dX8_teach_0 : decode cX8_teach 0 = .ok (.aload_n 0, 1) := by decide +kernel
theorem dX8_teach_1 : decode cX8_teach 1 = .ok (.iconst 0, 1) := by decide +kernel
theorem dX8_teach_2 : decode cX8_teach 2 = .ok (.putfield 53, 3) := by decide +kernel
theorem dX8_teach_5 : decode cX8_teach 5 = .ok (.aload_n 0, 1) := by decide +kernel
theorem dX8_teach_6 : decode cX8_teach 6 = .ok (.iload_n 1, 1) := by decide +kernel
theorem dX8_teach_7 : decode cX8_teach 7 = .ok (.invokevirtual 127, 3) := by decide +kernel
theorem dX8_teach_10 : decode cX8_teach 10 = .ok (.ifCond .ne 10, 3) := by decide +kernel
theorem dX8_teach_13 : decode cX8_teach 13 = .ok (.iload_n 2, 1) := by decide +kernel
theorem dX8_teach_14 : decode cX8_teach 14 = .ok (.invokestatic 148, 3) := by decide +kernel
theorem dX8_teach_17 : decode cX8_teach 17 = .ok (.ifCond .eq 5, 3) := by decide +kernel
theorem dX8_teach_20 : decode cX8_teach 20 = .ok (.iconst (-1), 1) := by decide +kernel
theorem dX8_teach_21 : decode cX8_teach 21 = .ok (.ireturn, 1) := by decide +kernel
theorem dX8_teach_22 : decode cX8_teach 22 = .ok (.aload_n 0, 1) := by decide +kernel
theorem dX8_teach_23 : decode cX8_teach 23 = .ok (.getfield 28, 3) := by decide +kernel
theorem dX8_teach_26 : decode cX8_teach 26 = .ok (.iconst 0, 1) := by decide +kernel
theorem dX8_teach_27 : decode cX8_teach 27 = .ok (.iload_n 1, 1) := by decide +kernel
theorem dX8_teach_28 : decode cX8_teach 28 = .ok (.iadd, 1) := by decide +kernel
theorem dX8_teach_29 : decode cX8_teach 29 = .ok (.iaload, 1) := by decide +kernel
theorem dX8_teach_30 : decode cX8_teach 30 = .ok (.iload_n 2, 1) := by decide +kernel
theorem dX8_teach_31 : decode cX8_teach 31 = .ok (.invokestatic 104, 3) := by decide +kernel
theorem dX8_teach_34 : decode cX8_teach 34 = .ok (.ifCond .eq 6, 3) := by decide +kernel
theorem dX8_teach_37 : decode cX8_teach 37 = .ok (.bipush (-3), 2) := by decide +kernel
theorem dX8_teach_39 : decode cX8_teach 39 = .ok (.ireturn, 1) := by decide +kernel
theorem dX8_teach_40 : decode cX8_teach 40 = .ok (.aload_n 0, 1) := by decide +kernel
theorem dX8_teach_41 : decode cX8_teach 41 = .ok (.invokevirtual 153, 3) := by decide +kernel
theorem dX8_teach_44 : decode cX8_teach 44 = .ok (.aload_n 0, 1) := by decide +kernel
theorem dX8_teach_45 : decode cX8_teach 45 = .ok (.getfield 28, 3) := by decide +kernel
theorem dX8_teach_48 : decode cX8_teach 48 = .ok (.iconst 0, 1) := by decide +kernel
theorem dX8_teach_49 : decode cX8_teach 49 = .ok (.iload_n 1, 1) := by decide +kernel
theorem dX8_teach_50 : decode cX8_teach 50 = .ok (.iadd, 1) := by decide +kernel
theorem dX8_teach_51 : decode cX8_teach 51 = .ok (.dup2, 1) := by decide +kernel
theorem dX8_teach_52 : decode cX8_teach 52 = .ok (.iaload, 1) := by decide +kernel
theorem dX8_teach_53 : decode cX8_teach 53 = .ok (.iconst 1, 1) := by decide +kernel
theorem dX8_teach_54 : decode cX8_teach 54 = .ok (.iload_n 2, 1) := by decide +kernel
theorem dX8_teach_55 : decode cX8_teach 55 = .ok (.ishl, 1) := by decide +kernel
theorem dX8_teach_56 : decode cX8_teach 56 = .ok (.ior, 1) := by decide +kernel
theorem dX8_teach_57 : decode cX8_teach 57 = .ok (.iastore, 1) := by decide +kernel
theorem dX8_teach_58 : decode cX8_teach 58 = .ok (.aload_n 0, 1) := by decide +kernel
theorem dX8_teach_59 : decode cX8_teach 59 = .ok (.aload_n 0, 1) := by decide +kernel
theorem dX8_teach_60 : decode cX8_teach 60 = .ok (.getfield 28, 3) := by decide +kernel
theorem dX8_teach_63 : decode cX8_teach 63 = .ok (.iconst 0, 1) := by decide +kernel
theorem dX8_teach_64 : decode cX8_teach 64 = .ok (.iload_n 1, 1) := by decide +kernel
theorem dX8_teach_65 : decode cX8_teach 65 = .ok (.iadd, 1) := by decide +kernel
theorem dX8_teach_66 : decode cX8_teach 66 = .ok (.iaload, 1) := by decide +kernel
theorem dX8_teach_67 : decode cX8_teach 67 = .ok (.invokevirtual 116, 3) := by decide +kernel
theorem dX8_teach_70 : decode cX8_teach 70 = .ok (.ireturn, 1) := by decide +kernel
theorem dX8_forget_0 : decode cX8_forget 0 = .ok (.aload_n 0, 1) := by decide +kernel
theorem dX8_forget_1 : decode cX8_forget 1 = .ok (.iconst 0, 1) := by decide +kernel
theorem dX8_forget_2 : decode cX8_forget 2 = .ok (.putfield 53, 3) := by decide +kernel
theorem dX8_forget_5 : decode cX8_forget 5 = .ok (.aload_n 0, 1) := by decide +kernel
theorem dX8_forget_6 : decode cX8_forget 6 = .ok (.iload_n 1, 1) := by decide +kernel
theorem dX8_forget_7 : decode cX8_forget 7 = .ok (.invokevirtual 127, 3) := by decide +kernel
theorem dX8_forget_10 : decode cX8_forget 10 = .ok (.ifCond .ne 10, 3) := by decide +kernel
theorem dX8_forget_13 : decode cX8_forget 13 = .ok (.iload_n 2, 1) := by decide +kernel
theorem dX8_forget_14 : decode cX8_forget 14 = .ok (.invokestatic 148, 3) := by decide +kernel
theorem dX8_forget_17 : decode cX8_forget 17 = .ok (.ifCond .eq 5, 3) := by decide +kernel
theorem dX8_forget_20 : decode cX8_forget 20 = .ok (.iconst (-1), 1) := by decide +kernel
theorem dX8_forget_21 : decode cX8_forget 21 = .ok (.ireturn, 1) := by decide +kernel
theorem dX8_forget_22 : decode cX8_forget 22 = .ok (.aload_n 0, 1) := by decide +kernel
theorem dX8_forget_23 : decode cX8_forget 23 = .ok (.getfield 28, 3) := by decide +kernel
theorem dX8_forget_26 : decode cX8_forget 26 = .ok (.iconst 0, 1) := by decide +kernel
theorem dX8_forget_27 : decode cX8_forget 27 = .ok (.iload_n 1, 1) := by decide +kernel
theorem dX8_forget_28 : decode cX8_forget 28 = .ok (.iadd, 1) := by decide +kernel
theorem dX8_forget_29 : decode cX8_forget 29 = .ok (.iaload, 1) := by decide +kernel
theorem dX8_forget_30 : decode cX8_forget 30 = .ok (.iload_n 2, 1) := by decide +kernel
theorem dX8_forget_31 : decode cX8_forget 31 = .ok (.invokestatic 104, 3) := by decide +kernel
theorem dX8_forget_34 : decode cX8_forget 34 = .ok (.ifCond .ne 6, 3) := by decide +kernel
theorem dX8_forget_37 : decode cX8_forget 37 = .ok (.bipush (-3), 2) := by decide +kernel
theorem dX8_forget_39 : decode cX8_forget 39 = .ok (.ireturn, 1) := by decide +kernel
theorem dX8_forget_40 : decode cX8_forget 40 = .ok (.aload_n 0, 1) := by decide +kernel
theorem dX8_forget_41 : decode cX8_forget 41 = .ok (.invokevirtual 153, 3) := by decide +kernel
theorem dX8_forget_44 : decode cX8_forget 44 = .ok (.aload_n 0, 1) := by decide +kernel
theorem dX8_forget_45 : decode cX8_forget 45 = .ok (.getfield 28, 3) := by decide +kernel
theorem dX8_forget_48 : decode cX8_forget 48 = .ok (.iconst 0, 1) := by decide +kernel
theorem dX8_forget_49 : decode cX8_forget 49 = .ok (.iload_n 1, 1) := by decide +kernel
theorem dX8_forget_50 : decode cX8_forget 50 = .ok (.iadd, 1) := by decide +kernel
theorem dX8_forget_51 : decode cX8_forget 51 = .ok (.dup2, 1) := by decide +kernel
theorem dX8_forget_52 : decode cX8_forget 52 = .ok (.iaload, 1) := by decide +kernel
theorem dX8_forget_53 : decode cX8_forget 53 = .ok (.iconst 1, 1) := by decide +kernel
theorem dX8_forget_54 : decode cX8_forget 54 = .ok (.iload_n 2, 1) := by decide +kernel
theorem dX8_forget_55 : decode cX8_forget 55 = .ok (.ishl, 1) := by decide +kernel
theorem dX8_forget_56 : decode cX8_forget 56 = .ok (.iconst (-1), 1) := by decide +kernel
theorem dX8_forget_57 : decode cX8_forget 57 = .ok (.ixor, 1) := by decide +kernel
theorem dX8_forget_58 : decode cX8_forget 58 = .ok (.iand, 1) := by decide +kernel
theorem dX8_forget_59 : decode cX8_forget 59 = .ok (.iastore, 1) := by decide +kernel
theorem dX8_forget_60 : decode cX8_forget 60 = .ok (.aload_n 0, 1) := by decide +kernel
theorem dX8_forget_61 : decode cX8_forget 61 = .ok (.aload_n 0, 1) := by decide +kernel
theorem dX8_forget_62 : decode cX8_forget 62 = .ok (.getfield 28, 3) := by decide +kernel
theorem dX8_forget_65 : decode cX8_forget 65 = .ok (.iconst 0, 1) := by decide +kernel
theorem dX8_forget_66 : decode cX8_forget 66 = .ok (.iload_n 1, 1) := by decide +kernel
theorem dX8_forget_67 : decode cX8_forget 67 = .ok (.iadd, 1) := by decide +kernel
theorem dX8_forget_68 : decode cX8_forget 68 = .ok (.iaload, 1) := by decide +kernel
theorem dX8_forget_69 : decode cX8_forget 69 = .ok (.invokevirtual 116, 3) := by decide +kernel
theorem dX8_forget_72 : decode cX8_forget 72 = .ok (.ireturn, 1) := by decide +kernel
theorem dX8_change_0 : decode cX8_change 0 = .ok (.aload_n 0, 1) := by decide +kernel
theorem dX8_change_1 : decode cX8_change 1 = .ok (.iconst 0, 1) := by decide +kernel
theorem dX8_change_2 : decode cX8_change 2 = .ok (.putfield 53, 3) := by decide +kernel
theorem dX8_change_5 : decode cX8_change 5 = .ok (.aload_n 0, 1) := by decide +kernel
theorem dX8_change_6 : decode cX8_change 6 = .ok (.iload_n 1, 1) := by decide +kernel
theorem dX8_change_7 : decode cX8_change 7 = .ok (.invokevirtual 127, 3) := by decide +kernel
theorem dX8_change_10 : decode cX8_change 10 = .ok (.ifCond .ne 11, 3) := by decide +kernel
theorem dX8_change_13 : decode cX8_change 13 = .ok (.aload_n 0, 1) := by decide +kernel
theorem dX8_change_14 : decode cX8_change 14 = .ok (.iload_n 2, 1) := by decide +kernel
theorem dX8_change_15 : decode cX8_change 15 = .ok (.invokevirtual 127, 3) := by decide +kernel
theorem dX8_change_18 : decode cX8_change 18 = .ok (.ifCond .eq 5, 3) := by decide +kernel
theorem dX8_change_21 : decode cX8_change 21 = .ok (.iconst (-1), 1) := by decide +kernel
theorem dX8_change_22 : decode cX8_change 22 = .ok (.ireturn, 1) := by decide +kernel
theorem dX8_change_23 : decode cX8_change 23 = .ok (.iload_n 1, 1) := by decide +kernel
theorem dX8_change_24 : decode cX8_change 24 = .ok (.iload_n 2, 1) := by decide +kernel
theorem dX8_change_25 : decode cX8_change 25 = .ok (.if_icmp .ne 6, 3) := by decide +kernel
theorem dX8_change_28 : decode cX8_change 28 = .ok (.bipush (-2), 2) := by decide +kernel
theorem dX8_change_30 : decode cX8_change 30 = .ok (.ireturn, 1) := by decide +kernel
theorem dX8_change_31 : decode cX8_change 31 = .ok (.aload_n 0, 1) := by decide +kernel
theorem dX8_change_32 : decode cX8_change 32 = .ok (.invokevirtual 153, 3) := by decide +kernel
theorem dX8_change_35 : decode cX8_change 35 = .ok (.aload_n 0, 1) := by decide +kernel
theorem dX8_change_36 : decode cX8_change 36 = .ok (.getfield 28, 3) := by decide +kernel
theorem dX8_change_39 : decode cX8_change 39 = .ok (.iconst 5, 1) := by decide +kernel
theorem dX8_change_40 : decode cX8_change 40 = .ok (.iload_n 1, 1) := by decide +kernel
theorem dX8_change_41 : decode cX8_change 41 = .ok (.iadd, 1) := by decide +kernel
theorem dX8_change_42 : decode cX8_change 42 = .ok (.iaload, 1) := by decide +kernel
theorem dX8_change_43 : decode cX8_change 43 = .ok (.istore_n 3, 1) := by decide +kernel
theorem dX8_change_44 : decode cX8_change 44 = .ok (.aload_n 0, 1) := by decide +kernel
theorem dX8_change_45 : decode cX8_change 45 = .ok (.getfield 28, 3) := by decide +kernel
theorem dX8_change_48 : decode cX8_change 48 = .ok (.iconst 5, 1) := by decide +kernel
theorem dX8_change_49 : decode cX8_change 49 = .ok (.iload_n 1, 1) := by decide +kernel
theorem dX8_change_50 : decode cX8_change 50 = .ok (.iadd, 1) := by decide +kernel
theorem dX8_change_51 : decode cX8_change 51 = .ok (.aload_n 0, 1) := by decide +kernel
theorem dX8_change_52 : decode cX8_change 52 = .ok (.getfield 28, 3) := by decide +kernel
theorem dX8_change_55 : decode cX8_change 55 = .ok (.iconst 5, 1) := by decide +kernel
theorem dX8_change_56 : decode cX8_change 56 = .ok (.iload_n 2, 1) := by decide +kernel
theorem dX8_change_57 : decode cX8_change 57 = .ok (.iadd, 1) := by decide +kernel
theorem dX8_change_58 : decode cX8_change 58 = .ok (.iaload, 1) := by decide +kernel
theorem dX8_change_59 : decode cX8_change 59 = .ok (.iastore, 1) := by decide +kernel
theorem dX8_change_60 : decode cX8_change 60 = .ok (.aload_n 0, 1) := by decide +kernel
theorem dX8_change_61 : decode cX8_change 61 = .ok (.getfield 28, 3) := by decide +kernel
theorem dX8_change_64 : decode cX8_change 64 = .ok (.iconst 5, 1) := by decide +kernel
theorem dX8_change_65 : decode cX8_change 65 = .ok (.iload_n 2, 1) := by decide +kernel
theorem dX8_change_66 : decode cX8_change 66 = .ok (.iadd, 1) := by decide +kernel
theorem dX8_change_67 : decode cX8_change 67 = .ok (.iload_n 3, 1) := by decide +kernel
theorem dX8_change_68 : decode cX8_change 68 = .ok (.iastore, 1) := by decide +kernel
theorem dX8_change_69 : decode cX8_change 69 = .ok (.aload_n 0, 1) := by decide +kernel
theorem dX8_change_70 : decode cX8_change 70 = .ok (.getfield 28, 3) := by decide +kernel
theorem dX8_change_73 : decode cX8_change 73 = .ok (.iconst 5, 1) := by decide +kernel
theorem dX8_change_74 : decode cX8_change 74 = .ok (.iload_n 1, 1) := by decide +kernel
theorem dX8_change_75 : decode cX8_change 75 = .ok (.iadd, 1) := by decide +kernel
theorem dX8_change_76 : decode cX8_change 76 = .ok (.iaload, 1) := by decide +kernel
theorem dX8_change_77 : decode cX8_change 77 = .ok (.ireturn, 1) := by decide +kernel
theorem dX8_undo_0 : decode cX8_undo 0 = .ok (.aload_n 0, 1) := by decide +kernel
theorem dX8_undo_1 : decode cX8_undo 1 = .ok (.iconst 0, 1) := by decide +kernel
theorem dX8_undo_2 : decode cX8_undo 2 = .ok (.putfield 53, 3) := by decide +kernel
theorem dX8_undo_5 : decode cX8_undo 5 = .ok (.aload_n 0, 1) := by decide +kernel
theorem dX8_undo_6 : decode cX8_undo 6 = .ok (.getfield 101, 3) := by decide +kernel
theorem dX8_undo_9 : decode cX8_undo 9 = .ok (.ifCond .ne 6, 3) := by decide +kernel
theorem dX8_undo_12 : decode cX8_undo 12 = .ok (.bipush (-3), 2) := by decide +kernel
theorem dX8_undo_14 : decode cX8_undo 14 = .ok (.ireturn, 1) := by decide +kernel
theorem dX8_undo_15 : decode cX8_undo 15 = .ok (.aload_n 0, 1) := by decide +kernel
theorem dX8_undo_16 : decode cX8_undo 16 = .ok (.dup, 1) := by decide +kernel
theorem dX8_undo_17 : decode cX8_undo 17 = .ok (.getfield 101, 3) := by decide +kernel
theorem dX8_undo_20 : decode cX8_undo 20 = .ok (.iconst 1, 1) := by decide +kernel
theorem dX8_undo_21 : decode cX8_undo 21 = .ok (.isub, 1) := by decide +kernel
theorem dX8_undo_22 : decode cX8_undo 22 = .ok (.putfield 101, 3) := by decide +kernel
theorem dX8_undo_25 : decode cX8_undo 25 = .ok (.iconst 0, 1) := by decide +kernel
theorem dX8_undo_26 : decode cX8_undo 26 = .ok (.istore_n 1, 1) := by decide +kernel
theorem dX8_undo_27 : decode cX8_undo 27 = .ok (.iload_n 1, 1) := by decide +kernel
theorem dX8_undo_28 : decode cX8_undo 28 = .ok (.bipush 15, 2) := by decide +kernel
theorem dX8_undo_30 : decode cX8_undo 30 = .ok (.if_icmp .ge 29, 3) := by decide +kernel
theorem dX8_undo_33 : decode cX8_undo 33 = .ok (.aload_n 0, 1) := by decide +kernel
theorem dX8_undo_34 : decode cX8_undo 34 = .ok (.getfield 28, 3) := by decide +kernel
theorem dX8_undo_37 : decode cX8_undo 37 = .ok (.iload_n 1, 1) := by decide +kernel
theorem dX8_undo_38 : decode cX8_undo 38 = .ok (.aload_n 0, 1) := by decide +kernel
theorem dX8_undo_39 : decode cX8_undo 39 = .ok (.getfield 34, 3) := by decide +kernel
theorem dX8_undo_42 : decode cX8_undo 42 = .ok (.bipush 15, 2) := by decide +kernel
theorem dX8_undo_44 : decode cX8_undo 44 = .ok (.aload_n 0, 1) := by decide +kernel
theorem dX8_undo_45 : decode cX8_undo 45 = .ok (.getfield 101, 3) := by decide +kernel
theorem dX8_undo_48 : decode cX8_undo 48 = .ok (.imul, 1) := by decide +kernel
theorem dX8_undo_49 : decode cX8_undo 49 = .ok (.iload_n 1, 1) := by decide +kernel
theorem dX8_undo_50 : decode cX8_undo 50 = .ok (.iadd, 1) := by decide +kernel
theorem dX8_undo_51 : decode cX8_undo 51 = .ok (.iaload, 1) := by decide +kernel
theorem dX8_undo_52 : decode cX8_undo 52 = .ok (.iastore, 1) := by decide +kernel
theorem dX8_undo_53 : decode cX8_undo 53 = .ok (.iinc 1 1, 3) := by decide +kernel
theorem dX8_undo_56 : decode cX8_undo 56 = .ok (.goto (-29), 3) := by decide +kernel
theorem dX8_undo_59 : decode cX8_undo 59 = .ok (.aload_n 0, 1) := by decide +kernel
theorem dX8_undo_60 : decode cX8_undo 60 = .ok (.getfield 101, 3) := by decide +kernel
theorem dX8_undo_63 : decode cX8_undo 63 = .ok (.ireturn, 1) := by decide +kernel
theorem dX8_hearers_0 : decode cX8_hearers 0 = .ok (.aload_n 0, 1) := by decide +kernel
theorem dX8_hearers_1 : decode cX8_hearers 1 = .ok (.iconst 0, 1) := by decide +kernel
theorem dX8_hearers_2 : decode cX8_hearers 2 = .ok (.putfield 53, 3) := by decide +kernel
theorem dX8_hearers_5 : decode cX8_hearers 5 = .ok (.aload_n 0, 1) := by decide +kernel
theorem dX8_hearers_6 : decode cX8_hearers 6 = .ok (.iload_n 1, 1) := by decide +kernel
theorem dX8_hearers_7 : decode cX8_hearers 7 = .ok (.invokevirtual 127, 3) := by decide +kernel
theorem dX8_hearers_10 : decode cX8_hearers 10 = .ok (.ifCond .eq 5, 3) := by decide +kernel
theorem dX8_hearers_13 : decode cX8_hearers 13 = .ok (.iconst (-1), 1) := by decide +kernel
theorem dX8_hearers_14 : decode cX8_hearers 14 = .ok (.ireturn, 1) := by decide +kernel
theorem dX8_hearers_15 : decode cX8_hearers 15 = .ok (.iload_n 2, 1) := by decide +kernel
theorem dX8_hearers_16 : decode cX8_hearers 16 = .ok (.i2l, 1) := by decide +kernel
theorem dX8_hearers_17 : decode cX8_hearers 17 = .ok (.lconst 1, 1) := by decide +kernel
theorem dX8_hearers_18 : decode cX8_hearers 18 = .ok (.ldc2_w 151, 3) := by decide +kernel
theorem dX8_hearers_21 : decode cX8_hearers 21 = .ok (.invokestatic 60, 3) := by decide +kernel
theorem dX8_hearers_24 : decode cX8_hearers 24 = .ok (.ifCond .eq 16, 3) := by decide +kernel
theorem dX8_hearers_27 : decode cX8_hearers 27 = .ok (.aload_n 0, 1) := by decide +kernel
theorem dX8_hearers_28 : decode cX8_hearers 28 = .ok (.aload_n 0, 1) := by decide +kernel
theorem dX8_hearers_29 : decode cX8_hearers 29 = .ok (.getfield 28, 3) := by decide +kernel
theorem dX8_hearers_32 : decode cX8_hearers 32 = .ok (.iload_n 1, 1) := by decide +kernel
theorem dX8_hearers_33 : decode cX8_hearers 33 = .ok (.iload_n 2, 1) := by decide +kernel
theorem dX8_hearers_34 : decode cX8_hearers 34 = .ok (.invokevirtual 142, 3) := by decide +kernel
theorem dX8_hearers_37 : decode cX8_hearers 37 = .ok (.goto 5, 3) := by decide +kernel
theorem dX8_hearers_40 : decode cX8_hearers 40 = .ok (.bipush (-2), 2) := by decide +kernel
theorem dX8_hearers_42 : decode cX8_hearers 42 = .ok (.ireturn, 1) := by decide +kernel
theorem dX8_safe_0 : decode cX8_safe 0 = .ok (.aload_n 0, 1) := by decide +kernel
theorem dX8_safe_1 : decode cX8_safe 1 = .ok (.iconst 0, 1) := by decide +kernel
theorem dX8_safe_2 : decode cX8_safe 2 = .ok (.putfield 53, 3) := by decide +kernel
theorem dX8_safe_5 : decode cX8_safe 5 = .ok (.aload_n 0, 1) := by decide +kernel
theorem dX8_safe_6 : decode cX8_safe 6 = .ok (.iload_n 1, 1) := by decide +kernel
theorem dX8_safe_7 : decode cX8_safe 7 = .ok (.invokevirtual 127, 3) := by decide +kernel
theorem dX8_safe_10 : decode cX8_safe 10 = .ok (.ifCond .eq 5, 3) := by decide +kernel
theorem dX8_safe_13 : decode cX8_safe 13 = .ok (.iconst (-1), 1) := by decide +kernel
theorem dX8_safe_14 : decode cX8_safe 14 = .ok (.ireturn, 1) := by decide +kernel
theorem dX8_safe_15 : decode cX8_safe 15 = .ok (.iload_n 2, 1) := by decide +kernel
theorem dX8_safe_16 : decode cX8_safe 16 = .ok (.i2l, 1) := by decide +kernel
theorem dX8_safe_17 : decode cX8_safe 17 = .ok (.lconst 1, 1) := by decide +kernel
theorem dX8_safe_18 : decode cX8_safe 18 = .ok (.ldc2_w 151, 3) := by decide +kernel
theorem dX8_safe_21 : decode cX8_safe 21 = .ok (.invokestatic 60, 3) := by decide +kernel
theorem dX8_safe_24 : decode cX8_safe 24 = .ok (.ifCond .ne 6, 3) := by decide +kernel
theorem dX8_safe_27 : decode cX8_safe 27 = .ok (.bipush (-2), 2) := by decide +kernel
theorem dX8_safe_29 : decode cX8_safe 29 = .ok (.ireturn, 1) := by decide +kernel
theorem dX8_safe_30 : decode cX8_safe 30 = .ok (.iconst 0, 1) := by decide +kernel
theorem dX8_safe_31 : decode cX8_safe 31 = .ok (.istore_n 3, 1) := by decide +kernel
theorem dX8_safe_32 : decode cX8_safe 32 = .ok (.iconst 0, 1) := by decide +kernel
theorem dX8_safe_33 : decode cX8_safe 33 = .ok (.istore 4, 2) := by decide +kernel
theorem dX8_safe_35 : decode cX8_safe 35 = .ok (.iload 4, 2) := by decide +kernel
theorem dX8_safe_37 : decode cX8_safe 37 = .ok (.bipush 6, 2) := by decide +kernel
theorem dX8_safe_39 : decode cX8_safe 39 = .ok (.if_icmp .ge 35, 3) := by decide +kernel
theorem dX8_safe_42 : decode cX8_safe 42 = .ok (.iload_n 3, 1) := by decide +kernel
theorem dX8_safe_43 : decode cX8_safe 43 = .ok (.aload_n 0, 1) := by decide +kernel
theorem dX8_safe_44 : decode cX8_safe 44 = .ok (.aload_n 0, 1) := by decide +kernel
theorem dX8_safe_45 : decode cX8_safe 45 = .ok (.getfield 28, 3) := by decide +kernel
theorem dX8_safe_48 : decode cX8_safe 48 = .ok (.iload_n 1, 1) := by decide +kernel
theorem dX8_safe_49 : decode cX8_safe 49 = .ok (.iload 4, 2) := by decide +kernel
theorem dX8_safe_51 : decode cX8_safe 51 = .ok (.iload_n 2, 1) := by decide +kernel
theorem dX8_safe_52 : decode cX8_safe 52 = .ok (.invokevirtual 135, 3) := by decide +kernel
theorem dX8_safe_55 : decode cX8_safe 55 = .ok (.ifCond .ne 10, 3) := by decide +kernel
theorem dX8_safe_58 : decode cX8_safe 58 = .ok (.iconst 1, 1) := by decide +kernel
theorem dX8_safe_59 : decode cX8_safe 59 = .ok (.iload 4, 2) := by decide +kernel
theorem dX8_safe_61 : decode cX8_safe 61 = .ok (.ishl, 1) := by decide +kernel
theorem dX8_safe_62 : decode cX8_safe 62 = .ok (.goto 4, 3) := by decide +kernel
theorem dX8_safe_65 : decode cX8_safe 65 = .ok (.iconst 0, 1) := by decide +kernel
theorem dX8_safe_66 : decode cX8_safe 66 = .ok (.ior, 1) := by decide +kernel
theorem dX8_safe_67 : decode cX8_safe 67 = .ok (.istore_n 3, 1) := by decide +kernel
theorem dX8_safe_68 : decode cX8_safe 68 = .ok (.iinc 4 1, 3) := by decide +kernel
theorem dX8_safe_71 : decode cX8_safe 71 = .ok (.goto (-36), 3) := by decide +kernel
theorem dX8_safe_74 : decode cX8_safe 74 = .ok (.iload_n 3, 1) := by decide +kernel
theorem dX8_safe_75 : decode cX8_safe 75 = .ok (.ireturn, 1) := by decide +kernel
theorem dX8_begin_0 : decode cX8_begin 0 = .ok (.iconst 0, 1) := by decide +kernel
theorem dX8_begin_1 : decode cX8_begin 1 = .ok (.istore_n 1, 1) := by decide +kernel
theorem dX8_begin_2 : decode cX8_begin 2 = .ok (.iload_n 1, 1) := by decide +kernel
theorem dX8_begin_3 : decode cX8_begin 3 = .ok (.bipush 15, 2) := by decide +kernel
theorem dX8_begin_5 : decode cX8_begin 5 = .ok (.if_icmp .ge 21, 3) := by decide +kernel
theorem dX8_begin_8 : decode cX8_begin 8 = .ok (.aload_n 0, 1) := by decide +kernel
theorem dX8_begin_9 : decode cX8_begin 9 = .ok (.getfield 31, 3) := by decide +kernel
theorem dX8_begin_12 : decode cX8_begin 12 = .ok (.iload_n 1, 1) := by decide +kernel
theorem dX8_begin_13 : decode cX8_begin 13 = .ok (.aload_n 0, 1) := by decide +kernel
theorem dX8_begin_14 : decode cX8_begin 14 = .ok (.getfield 28, 3) := by decide +kernel
theorem dX8_begin_17 : decode cX8_begin 17 = .ok (.iload_n 1, 1) := by decide +kernel
theorem dX8_begin_18 : decode cX8_begin 18 = .ok (.iaload, 1) := by decide +kernel
theorem dX8_begin_19 : decode cX8_begin 19 = .ok (.iastore, 1) := by decide +kernel
theorem dX8_begin_20 : decode cX8_begin 20 = .ok (.iinc 1 1, 3) := by decide +kernel
theorem dX8_begin_23 : decode cX8_begin 23 = .ok (.goto (-21), 3) := by decide +kernel
theorem dX8_begin_26 : decode cX8_begin 26 = .ok (.return_, 1) := by decide +kernel
theorem dX8_power_0 : decode cX8_power 0 = .ok (.iconst 1, 1) := by decide +kernel
theorem dX8_power_1 : decode cX8_power 1 = .ok (.istore_n 2, 1) := by decide +kernel
theorem dX8_power_2 : decode cX8_power 2 = .ok (.iconst 0, 1) := by decide +kernel
theorem dX8_power_3 : decode cX8_power 3 = .ok (.istore_n 3, 1) := by decide +kernel
theorem dX8_power_4 : decode cX8_power 4 = .ok (.iload_n 3, 1) := by decide +kernel
theorem dX8_power_5 : decode cX8_power 5 = .ok (.iload_n 1, 1) := by decide +kernel
theorem dX8_power_6 : decode cX8_power 6 = .ok (.if_icmp .ge 13, 3) := by decide +kernel
theorem dX8_power_9 : decode cX8_power 9 = .ok (.iload_n 2, 1) := by decide +kernel
theorem dX8_power_10 : decode cX8_power 10 = .ok (.iload_n 0, 1) := by decide +kernel
theorem dX8_power_11 : decode cX8_power 11 = .ok (.imul, 1) := by decide +kernel
theorem dX8_power_12 : decode cX8_power 12 = .ok (.istore_n 2, 1) := by decide +kernel
theorem dX8_power_13 : decode cX8_power 13 = .ok (.iinc 3 1, 3) := by decide +kernel
theorem dX8_power_16 : decode cX8_power 16 = .ok (.goto (-12), 3) := by decide +kernel
theorem dX8_power_19 : decode cX8_power 19 = .ok (.iload_n 2, 1) := by decide +kernel
theorem dX8_power_20 : decode cX8_power 20 = .ok (.ireturn, 1) := by decide +kernel
theorem dX8_laySeats_0 : decode cX8_laySeats 0 = .ok (.aload_n 0, 1) := by decide +kernel
theorem dX8_laySeats_1 : decode cX8_laySeats 1 = .ok (.invokevirtual 159, 3) := by decide +kernel
theorem dX8_laySeats_4 : decode cX8_laySeats 4 = .ok (.iconst 0, 1) := by decide +kernel
theorem dX8_laySeats_5 : decode cX8_laySeats 5 = .ok (.istore_n 2, 1) := by decide +kernel
theorem dX8_laySeats_6 : decode cX8_laySeats 6 = .ok (.iconst 0, 1) := by decide +kernel
theorem dX8_laySeats_7 : decode cX8_laySeats 7 = .ok (.istore_n 3, 1) := by decide +kernel
theorem dX8_laySeats_8 : decode cX8_laySeats 8 = .ok (.iload_n 3, 1) := by decide +kernel
theorem dX8_laySeats_9 : decode cX8_laySeats 9 = .ok (.aload_n 0, 1) := by decide +kernel
theorem dX8_laySeats_10 : decode cX8_laySeats 10 = .ok (.getfield 57, 3) := by decide +kernel
theorem dX8_laySeats_13 : decode cX8_laySeats 13 = .ok (.if_icmp .ge 50, 3) := by decide +kernel
theorem dX8_laySeats_16 : decode cX8_laySeats 16 = .ok (.iload_n 1, 1) := by decide +kernel
theorem dX8_laySeats_17 : decode cX8_laySeats 17 = .ok (.aload_n 0, 1) := by decide +kernel
theorem dX8_laySeats_18 : decode cX8_laySeats 18 = .ok (.getfield 57, 3) := by decide +kernel
theorem dX8_laySeats_21 : decode cX8_laySeats 21 = .ok (.aload_n 0, 1) := by decide +kernel
theorem dX8_laySeats_22 : decode cX8_laySeats 22 = .ok (.getfield 57, 3) := by decide +kernel
theorem dX8_laySeats_25 : decode cX8_laySeats 25 = .ok (.iconst 1, 1) := by decide +kernel
theorem dX8_laySeats_26 : decode cX8_laySeats 26 = .ok (.isub, 1) := by decide +kernel
theorem dX8_laySeats_27 : decode cX8_laySeats 27 = .ok (.iload_n 3, 1) := by decide +kernel
theorem dX8_laySeats_28 : decode cX8_laySeats 28 = .ok (.isub, 1) := by decide +kernel
theorem dX8_laySeats_29 : decode cX8_laySeats 29 = .ok (.invokestatic 162, 3) := by decide +kernel
theorem dX8_laySeats_32 : decode cX8_laySeats 32 = .ok (.idiv, 1) := by decide +kernel
theorem dX8_laySeats_33 : decode cX8_laySeats 33 = .ok (.aload_n 0, 1) := by decide +kernel
theorem dX8_laySeats_34 : decode cX8_laySeats 34 = .ok (.getfield 57, 3) := by decide +kernel
theorem dX8_laySeats_37 : decode cX8_laySeats 37 = .ok (.irem, 1) := by decide +kernel
theorem dX8_laySeats_38 : decode cX8_laySeats 38 = .ok (.istore 4, 2) := by decide +kernel
theorem dX8_laySeats_40 : decode cX8_laySeats 40 = .ok (.iload_n 2, 1) := by decide +kernel
theorem dX8_laySeats_41 : decode cX8_laySeats 41 = .ok (.iconst 1, 1) := by decide +kernel
theorem dX8_laySeats_42 : decode cX8_laySeats 42 = .ok (.iload 4, 2) := by decide +kernel
theorem dX8_laySeats_44 : decode cX8_laySeats 44 = .ok (.ishl, 1) := by decide +kernel
theorem dX8_laySeats_45 : decode cX8_laySeats 45 = .ok (.ior, 1) := by decide +kernel
theorem dX8_laySeats_46 : decode cX8_laySeats 46 = .ok (.istore_n 2, 1) := by decide +kernel
theorem dX8_laySeats_47 : decode cX8_laySeats 47 = .ok (.aload_n 0, 1) := by decide +kernel
theorem dX8_laySeats_48 : decode cX8_laySeats 48 = .ok (.getfield 31, 3) := by decide +kernel
theorem dX8_laySeats_51 : decode cX8_laySeats 51 = .ok (.iconst 5, 1) := by decide +kernel
theorem dX8_laySeats_52 : decode cX8_laySeats 52 = .ok (.iload 4, 2) := by decide +kernel
theorem dX8_laySeats_54 : decode cX8_laySeats 54 = .ok (.iadd, 1) := by decide +kernel
theorem dX8_laySeats_55 : decode cX8_laySeats 55 = .ok (.iload_n 3, 1) := by decide +kernel
theorem dX8_laySeats_56 : decode cX8_laySeats 56 = .ok (.iastore, 1) := by decide +kernel
theorem dX8_laySeats_57 : decode cX8_laySeats 57 = .ok (.iinc 3 1, 3) := by decide +kernel
theorem dX8_laySeats_60 : decode cX8_laySeats 60 = .ok (.goto (-52), 3) := by decide +kernel
theorem dX8_laySeats_63 : decode cX8_laySeats 63 = .ok (.iload_n 2, 1) := by decide +kernel
theorem dX8_laySeats_64 : decode cX8_laySeats 64 = .ok (.iconst 1, 1) := by decide +kernel
theorem dX8_laySeats_65 : decode cX8_laySeats 65 = .ok (.aload_n 0, 1) := by decide +kernel
theorem dX8_laySeats_66 : decode cX8_laySeats 66 = .ok (.getfield 57, 3) := by decide +kernel
theorem dX8_laySeats_69 : decode cX8_laySeats 69 = .ok (.ishl, 1) := by decide +kernel
theorem dX8_laySeats_70 : decode cX8_laySeats 70 = .ok (.iconst 1, 1) := by decide +kernel
theorem dX8_laySeats_71 : decode cX8_laySeats 71 = .ok (.isub, 1) := by decide +kernel
theorem dX8_laySeats_72 : decode cX8_laySeats 72 = .ok (.if_icmp .ne 22, 3) := by decide +kernel
theorem dX8_laySeats_75 : decode cX8_laySeats 75 = .ok (.aload_n 0, 1) := by decide +kernel
theorem dX8_laySeats_76 : decode cX8_laySeats 76 = .ok (.getfield 31, 3) := by decide +kernel
theorem dX8_laySeats_79 : decode cX8_laySeats 79 = .ok (.iconst 5, 1) := by decide +kernel
theorem dX8_laySeats_80 : decode cX8_laySeats 80 = .ok (.iaload, 1) := by decide +kernel
theorem dX8_laySeats_81 : decode cX8_laySeats 81 = .ok (.aload_n 0, 1) := by decide +kernel
theorem dX8_laySeats_82 : decode cX8_laySeats 82 = .ok (.getfield 28, 3) := by decide +kernel
theorem dX8_laySeats_85 : decode cX8_laySeats 85 = .ok (.iconst 5, 1) := by decide +kernel
theorem dX8_laySeats_86 : decode cX8_laySeats 86 = .ok (.iaload, 1) := by decide +kernel
theorem dX8_laySeats_87 : decode cX8_laySeats 87 = .ok (.if_icmp .ne 7, 3) := by decide +kernel
theorem dX8_laySeats_90 : decode cX8_laySeats 90 = .ok (.iconst 1, 1) := by decide +kernel
theorem dX8_laySeats_91 : decode cX8_laySeats 91 = .ok (.goto 4, 3) := by decide +kernel
theorem dX8_laySeats_94 : decode cX8_laySeats 94 = .ok (.iconst 0, 1) := by decide +kernel
theorem dX8_laySeats_95 : decode cX8_laySeats 95 = .ok (.ireturn, 1) := by decide +kernel
theorem dX8_findSeats_0 : decode cX8_findSeats 0 = .ok (.aload_n 0, 1) := by decide +kernel
theorem dX8_findSeats_1 : decode cX8_findSeats 1 = .ok (.bipush (-9), 2) := by decide +kernel
theorem dX8_findSeats_3 : decode cX8_findSeats 3 = .ok (.putfield 165, 3) := by decide +kernel
theorem dX8_findSeats_6 : decode cX8_findSeats 6 = .ok (.aload_n 0, 1) := by decide +kernel
theorem dX8_findSeats_7 : decode cX8_findSeats 7 = .ok (.bipush (-9), 2) := by decide +kernel
theorem dX8_findSeats_9 : decode cX8_findSeats 9 = .ok (.putfield 168, 3) := by decide +kernel
theorem dX8_findSeats_12 : decode cX8_findSeats 12 = .ok (.iconst 0, 1) := by decide +kernel
theorem dX8_findSeats_13 : decode cX8_findSeats 13 = .ok (.istore 5, 2) := by decide +kernel
theorem dX8_findSeats_15 : decode cX8_findSeats 15 = .ok (.iload 5, 2) := by decide +kernel
theorem dX8_findSeats_17 : decode cX8_findSeats 17 = .ok (.aload_n 0, 1) := by decide +kernel
theorem dX8_findSeats_18 : decode cX8_findSeats 18 = .ok (.getfield 57, 3) := by decide +kernel
theorem dX8_findSeats_21 : decode cX8_findSeats 21 = .ok (.aload_n 0, 1) := by decide +kernel
theorem dX8_findSeats_22 : decode cX8_findSeats 22 = .ok (.getfield 57, 3) := by decide +kernel
theorem dX8_findSeats_25 : decode cX8_findSeats 25 = .ok (.invokestatic 162, 3) := by decide +kernel
theorem dX8_findSeats_28 : decode cX8_findSeats 28 = .ok (.if_icmp .ge 122, 3) := by decide +kernel
theorem dX8_findSeats_31 : decode cX8_findSeats 31 = .ok (.aload_n 0, 1) := by decide +kernel
theorem dX8_findSeats_32 : decode cX8_findSeats 32 = .ok (.iload 5, 2) := by decide +kernel
theorem dX8_findSeats_34 : decode cX8_findSeats 34 = .ok (.invokevirtual 171, 3) := by decide +kernel
theorem dX8_findSeats_37 : decode cX8_findSeats 37 = .ok (.ifCond .eq 107, 3) := by decide +kernel
theorem dX8_findSeats_40 : decode cX8_findSeats 40 = .ok (.aload_n 0, 1) := by decide +kernel
theorem dX8_findSeats_41 : decode cX8_findSeats 41 = .ok (.aload_n 0, 1) := by decide +kernel
theorem dX8_findSeats_42 : decode cX8_findSeats 42 = .ok (.getfield 31, 3) := by decide +kernel
theorem dX8_findSeats_45 : decode cX8_findSeats 45 = .ok (.iload_n 1, 1) := by decide +kernel
theorem dX8_findSeats_46 : decode cX8_findSeats 46 = .ok (.iload_n 2, 1) := by decide +kernel
theorem dX8_findSeats_47 : decode cX8_findSeats 47 = .ok (.iload_n 3, 1) := by decide +kernel
theorem dX8_findSeats_48 : decode cX8_findSeats 48 = .ok (.invokevirtual 135, 3) := by decide +kernel
theorem dX8_findSeats_51 : decode cX8_findSeats 51 = .ok (.invokestatic 145, 3) := by decide +kernel
theorem dX8_findSeats_54 : decode cX8_findSeats 54 = .ok (.istore 6, 2) := by decide +kernel
theorem dX8_findSeats_56 : decode cX8_findSeats 56 = .ok (.aload_n 0, 1) := by decide +kernel
theorem dX8_findSeats_57 : decode cX8_findSeats 57 = .ok (.getfield 165, 3) := by decide +kernel
theorem dX8_findSeats_60 : decode cX8_findSeats 60 = .ok (.bipush (-9), 2) := by decide +kernel
theorem dX8_findSeats_62 : decode cX8_findSeats 62 = .ok (.if_icmp .eq 29, 3) := by decide +kernel
theorem dX8_findSeats_65 : decode cX8_findSeats 65 = .ok (.iload 4, 2) := by decide +kernel
theorem dX8_findSeats_67 : decode cX8_findSeats 67 = .ok (.ifCond .eq 15, 3) := by decide +kernel
theorem dX8_findSeats_70 : decode cX8_findSeats 70 = .ok (.iload 6, 2) := by decide +kernel
theorem dX8_findSeats_72 : decode cX8_findSeats 72 = .ok (.aload_n 0, 1) := by decide +kernel
theorem dX8_findSeats_73 : decode cX8_findSeats 73 = .ok (.getfield 165, 3) := by decide +kernel
theorem dX8_findSeats_76 : decode cX8_findSeats 76 = .ok (.if_icmp .le 68, 3) := by decide +kernel
theorem dX8_findSeats_79 : decode cX8_findSeats 79 = .ok (.goto 12, 3) := by decide +kernel
theorem dX8_findSeats_82 : decode cX8_findSeats 82 = .ok (.iload 6, 2) := by decide +kernel
theorem dX8_findSeats_84 : decode cX8_findSeats 84 = .ok (.aload_n 0, 1) := by decide +kernel
theorem dX8_findSeats_85 : decode cX8_findSeats 85 = .ok (.getfield 165, 3) := by decide +kernel
theorem dX8_findSeats_88 : decode cX8_findSeats 88 = .ok (.if_icmp .ge 56, 3) := by decide +kernel
theorem dX8_findSeats_91 : decode cX8_findSeats 91 = .ok (.aload_n 0, 1) := by decide +kernel
theorem dX8_findSeats_92 : decode cX8_findSeats 92 = .ok (.iload 6, 2) := by decide +kernel
theorem dX8_findSeats_94 : decode cX8_findSeats 94 = .ok (.putfield 165, 3) := by decide +kernel
theorem dX8_findSeats_97 : decode cX8_findSeats 97 = .ok (.aload_n 0, 1) := by decide +kernel
theorem dX8_findSeats_98 : decode cX8_findSeats 98 = .ok (.iconst 0, 1) := by decide +kernel
theorem dX8_findSeats_99 : decode cX8_findSeats 99 = .ok (.putfield 168, 3) := by decide +kernel
theorem dX8_findSeats_102 : decode cX8_findSeats 102 = .ok (.iconst 0, 1) := by decide +kernel
theorem dX8_findSeats_103 : decode cX8_findSeats 103 = .ok (.istore 7, 2) := by decide +kernel
theorem dX8_findSeats_105 : decode cX8_findSeats 105 = .ok (.iload 7, 2) := by decide +kernel
theorem dX8_findSeats_107 : decode cX8_findSeats 107 = .ok (.aload_n 0, 1) := by decide +kernel
theorem dX8_findSeats_108 : decode cX8_findSeats 108 = .ok (.getfield 57, 3) := by decide +kernel
theorem dX8_findSeats_111 : decode cX8_findSeats 111 = .ok (.if_icmp .ge 33, 3) := by decide +kernel
theorem dX8_findSeats_114 : decode cX8_findSeats 114 = .ok (.aload_n 0, 1) := by decide +kernel
theorem dX8_findSeats_115 : decode cX8_findSeats 115 = .ok (.bipush 10, 2) := by decide +kernel
theorem dX8_findSeats_117 : decode cX8_findSeats 117 = .ok (.aload_n 0, 1) := by decide +kernel
theorem dX8_findSeats_118 : decode cX8_findSeats 118 = .ok (.getfield 168, 3) := by decide +kernel
theorem dX8_findSeats_121 : decode cX8_findSeats 121 = .ok (.imul, 1) := by decide +kernel
theorem dX8_findSeats_122 : decode cX8_findSeats 122 = .ok (.aload_n 0, 1) := by decide +kernel
theorem dX8_findSeats_123 : decode cX8_findSeats 123 = .ok (.aload_n 0, 1) := by decide +kernel
theorem dX8_findSeats_124 : decode cX8_findSeats 124 = .ok (.getfield 31, 3) := by decide +kernel
theorem dX8_findSeats_127 : decode cX8_findSeats 127 = .ok (.iload 7, 2) := by decide +kernel
theorem dX8_findSeats_129 : decode cX8_findSeats 129 = .ok (.invokevirtual 131, 3) := by decide +kernel
theorem dX8_findSeats_132 : decode cX8_findSeats 132 = .ok (.iadd, 1) := by decide +kernel
theorem dX8_findSeats_133 : decode cX8_findSeats 133 = .ok (.iconst 1, 1) := by decide +kernel
theorem dX8_findSeats_134 : decode cX8_findSeats 134 = .ok (.iadd, 1) := by decide +kernel
theorem dX8_findSeats_135 : decode cX8_findSeats 135 = .ok (.putfield 168, 3) := by decide +kernel
theorem dX8_findSeats_138 : decode cX8_findSeats 138 = .ok (.iinc 7 1, 3) := by decide +kernel
theorem dX8_findSeats_141 : decode cX8_findSeats 141 = .ok (.goto (-36), 3) := by decide +kernel
theorem dX8_findSeats_144 : decode cX8_findSeats 144 = .ok (.iinc 5 1, 3) := by decide +kernel
theorem dX8_findSeats_147 : decode cX8_findSeats 147 = .ok (.goto (-132), 3) := by decide +kernel
theorem dX8_findSeats_150 : decode cX8_findSeats 150 = .ok (.return_, 1) := by decide +kernel
theorem dX8_seating_0 : decode cX8_seating 0 = .ok (.aload_n 0, 1) := by decide +kernel
theorem dX8_seating_1 : decode cX8_seating 1 = .ok (.iconst 0, 1) := by decide +kernel
theorem dX8_seating_2 : decode cX8_seating 2 = .ok (.putfield 53, 3) := by decide +kernel
theorem dX8_seating_5 : decode cX8_seating 5 = .ok (.aload_n 0, 1) := by decide +kernel
theorem dX8_seating_6 : decode cX8_seating 6 = .ok (.iload_n 1, 1) := by decide +kernel
theorem dX8_seating_7 : decode cX8_seating 7 = .ok (.invokevirtual 127, 3) := by decide +kernel
theorem dX8_seating_10 : decode cX8_seating 10 = .ok (.ifCond .ne 10, 3) := by decide +kernel
theorem dX8_seating_13 : decode cX8_seating 13 = .ok (.iload_n 2, 1) := by decide +kernel
theorem dX8_seating_14 : decode cX8_seating 14 = .ok (.invokestatic 148, 3) := by decide +kernel
theorem dX8_seating_17 : decode cX8_seating 17 = .ok (.ifCond .eq 5, 3) := by decide +kernel
theorem dX8_seating_20 : decode cX8_seating 20 = .ok (.iconst (-1), 1) := by decide +kernel
theorem dX8_seating_21 : decode cX8_seating 21 = .ok (.ireturn, 1) := by decide +kernel
theorem dX8_seating_22 : decode cX8_seating 22 = .ok (.iload_n 3, 1) := by decide +kernel
theorem dX8_seating_23 : decode cX8_seating 23 = .ok (.i2l, 1) := by decide +kernel
theorem dX8_seating_24 : decode cX8_seating 24 = .ok (.lconst 1, 1) := by decide +kernel
theorem dX8_seating_25 : decode cX8_seating 25 = .ok (.ldc2_w 151, 3) := by decide +kernel
theorem dX8_seating_28 : decode cX8_seating 28 = .ok (.invokestatic 60, 3) := by decide +kernel
theorem dX8_seating_31 : decode cX8_seating 31 = .ok (.ifCond .ne 6, 3) := by decide +kernel
theorem dX8_seating_34 : decode cX8_seating 34 = .ok (.bipush (-2), 2) := by decide +kernel
theorem dX8_seating_36 : decode cX8_seating 36 = .ok (.ireturn, 1) := by decide +kernel
theorem dX8_seating_37 : decode cX8_seating 37 = .ok (.aload_n 0, 1) := by decide +kernel
theorem dX8_seating_38 : decode cX8_seating 38 = .ok (.iload_n 1, 1) := by decide +kernel
theorem dX8_seating_39 : decode cX8_seating 39 = .ok (.iload_n 2, 1) := by decide +kernel
theorem dX8_seating_40 : decode cX8_seating 40 = .ok (.iload_n 3, 1) := by decide +kernel
theorem dX8_seating_41 : decode cX8_seating 41 = .ok (.iload 4, 2) := by decide +kernel
theorem dX8_seating_43 : decode cX8_seating 43 = .ok (.invokevirtual 174, 3) := by decide +kernel
theorem dX8_seating_46 : decode cX8_seating 46 = .ok (.iload 5, 2) := by decide +kernel
theorem dX8_seating_48 : decode cX8_seating 48 = .ok (.ifCond .eq 10, 3) := by decide +kernel
theorem dX8_seating_51 : decode cX8_seating 51 = .ok (.aload_n 0, 1) := by decide +kernel
theorem dX8_seating_52 : decode cX8_seating 52 = .ok (.getfield 168, 3) := by decide +kernel
theorem dX8_seating_55 : decode cX8_seating 55 = .ok (.goto 7, 3) := by decide +kernel
theorem dX8_seating_58 : decode cX8_seating 58 = .ok (.aload_n 0, 1) := by decide +kernel
theorem dX8_seating_59 : decode cX8_seating 59 = .ok (.getfield 165, 3) := by decide +kernel
theorem dX8_seating_62 : decode cX8_seating 62 = .ok (.ireturn, 1) := by decide +kernel
theorem dX8_keepFrom_0 : decode cX8_keepFrom 0 = .ok (.aload_n 0, 1) := by decide +kernel
theorem dX8_keepFrom_1 : decode cX8_keepFrom 1 = .ok (.iconst 0, 1) := by decide +kernel
theorem dX8_keepFrom_2 : decode cX8_keepFrom 2 = .ok (.putfield 53, 3) := by decide +kernel
theorem dX8_keepFrom_5 : decode cX8_keepFrom 5 = .ok (.aload_n 0, 1) := by decide +kernel
theorem dX8_keepFrom_6 : decode cX8_keepFrom 6 = .ok (.iload_n 1, 1) := by decide +kernel
theorem dX8_keepFrom_7 : decode cX8_keepFrom 7 = .ok (.invokevirtual 127, 3) := by decide +kernel
theorem dX8_keepFrom_10 : decode cX8_keepFrom 10 = .ok (.ifCond .ne 10, 3) := by decide +kernel
theorem dX8_keepFrom_13 : decode cX8_keepFrom 13 = .ok (.iload_n 2, 1) := by decide +kernel
theorem dX8_keepFrom_14 : decode cX8_keepFrom 14 = .ok (.invokestatic 148, 3) := by decide +kernel
theorem dX8_keepFrom_17 : decode cX8_keepFrom 17 = .ok (.ifCond .eq 5, 3) := by decide +kernel
theorem dX8_keepFrom_20 : decode cX8_keepFrom 20 = .ok (.iconst (-1), 1) := by decide +kernel
theorem dX8_keepFrom_21 : decode cX8_keepFrom 21 = .ok (.ireturn, 1) := by decide +kernel
theorem dX8_keepFrom_22 : decode cX8_keepFrom 22 = .ok (.aload_n 0, 1) := by decide +kernel
theorem dX8_keepFrom_23 : decode cX8_keepFrom 23 = .ok (.getfield 28, 3) := by decide +kernel
theorem dX8_keepFrom_26 : decode cX8_keepFrom 26 = .ok (.iconst 0, 1) := by decide +kernel
theorem dX8_keepFrom_27 : decode cX8_keepFrom 27 = .ok (.iload_n 1, 1) := by decide +kernel
theorem dX8_keepFrom_28 : decode cX8_keepFrom 28 = .ok (.iadd, 1) := by decide +kernel
theorem dX8_keepFrom_29 : decode cX8_keepFrom 29 = .ok (.iaload, 1) := by decide +kernel
theorem dX8_keepFrom_30 : decode cX8_keepFrom 30 = .ok (.istore_n 3, 1) := by decide +kernel
theorem dX8_keepFrom_31 : decode cX8_keepFrom 31 = .ok (.bipush (-9), 2) := by decide +kernel
theorem dX8_keepFrom_33 : decode cX8_keepFrom 33 = .ok (.istore 4, 2) := by decide +kernel
theorem dX8_keepFrom_35 : decode cX8_keepFrom 35 = .ok (.iconst 0, 1) := by decide +kernel
theorem dX8_keepFrom_36 : decode cX8_keepFrom 36 = .ok (.istore 5, 2) := by decide +kernel
theorem dX8_keepFrom_38 : decode cX8_keepFrom 38 = .ok (.iload 5, 2) := by decide +kernel
theorem dX8_keepFrom_40 : decode cX8_keepFrom 40 = .ok (.bipush 63, 2) := by decide +kernel
theorem dX8_keepFrom_42 : decode cX8_keepFrom 42 = .ok (.if_icmp .gt 76, 3) := by decide +kernel
theorem dX8_keepFrom_45 : decode cX8_keepFrom 45 = .ok (.iload 5, 2) := by decide +kernel
theorem dX8_keepFrom_47 : decode cX8_keepFrom 47 = .ok (.iload_n 3, 1) := by decide +kernel
theorem dX8_keepFrom_48 : decode cX8_keepFrom 48 = .ok (.iconst (-1), 1) := by decide +kernel
theorem dX8_keepFrom_49 : decode cX8_keepFrom 49 = .ok (.ixor, 1) := by decide +kernel
theorem dX8_keepFrom_50 : decode cX8_keepFrom 50 = .ok (.iand, 1) := by decide +kernel
theorem dX8_keepFrom_51 : decode cX8_keepFrom 51 = .ok (.ifCond .ne 24, 3) := by decide +kernel
theorem dX8_keepFrom_54 : decode cX8_keepFrom 54 = .ok (.aload_n 0, 1) := by decide +kernel
theorem dX8_keepFrom_55 : decode cX8_keepFrom 55 = .ok (.iload_n 3, 1) := by decide +kernel
theorem dX8_keepFrom_56 : decode cX8_keepFrom 56 = .ok (.iload 5, 2) := by decide +kernel
theorem dX8_keepFrom_58 : decode cX8_keepFrom 58 = .ok (.iconst (-1), 1) := by decide +kernel
theorem dX8_keepFrom_59 : decode cX8_keepFrom 59 = .ok (.ixor, 1) := by decide +kernel
theorem dX8_keepFrom_60 : decode cX8_keepFrom 60 = .ok (.iand, 1) := by decide +kernel
theorem dX8_keepFrom_61 : decode cX8_keepFrom 61 = .ok (.invokevirtual 116, 3) := by decide +kernel
theorem dX8_keepFrom_64 : decode cX8_keepFrom 64 = .ok (.iload_n 2, 1) := by decide +kernel
theorem dX8_keepFrom_65 : decode cX8_keepFrom 65 = .ok (.invokestatic 104, 3) := by decide +kernel
theorem dX8_keepFrom_68 : decode cX8_keepFrom 68 = .ok (.ifCond .ne 7, 3) := by decide +kernel
theorem dX8_keepFrom_71 : decode cX8_keepFrom 71 = .ok (.iconst 1, 1) := by decide +kernel
theorem dX8_keepFrom_72 : decode cX8_keepFrom 72 = .ok (.goto 4, 3) := by decide +kernel
theorem dX8_keepFrom_75 : decode cX8_keepFrom 75 = .ok (.iconst 0, 1) := by decide +kernel
theorem dX8_keepFrom_76 : decode cX8_keepFrom 76 = .ok (.istore 6, 2) := by decide +kernel
theorem dX8_keepFrom_78 : decode cX8_keepFrom 78 = .ok (.iload 6, 2) := by decide +kernel
theorem dX8_keepFrom_80 : decode cX8_keepFrom 80 = .ok (.ifCond .eq 28, 3) := by decide +kernel
theorem dX8_keepFrom_83 : decode cX8_keepFrom 83 = .ok (.iload 4, 2) := by decide +kernel
theorem dX8_keepFrom_85 : decode cX8_keepFrom 85 = .ok (.bipush (-9), 2) := by decide +kernel
theorem dX8_keepFrom_87 : decode cX8_keepFrom 87 = .ok (.if_icmp .eq 16, 3) := by decide +kernel
theorem dX8_keepFrom_90 : decode cX8_keepFrom 90 = .ok (.iload 5, 2) := by decide +kernel
theorem dX8_keepFrom_92 : decode cX8_keepFrom 92 = .ok (.invokestatic 145, 3) := by decide +kernel
theorem dX8_keepFrom_95 : decode cX8_keepFrom 95 = .ok (.iload 4, 2) := by decide +kernel
theorem dX8_keepFrom_97 : decode cX8_keepFrom 97 = .ok (.invokestatic 145, 3) := by decide +kernel
theorem dX8_keepFrom_100 : decode cX8_keepFrom 100 = .ok (.if_icmp .ge 8, 3) := by decide +kernel
theorem dX8_keepFrom_103 : decode cX8_keepFrom 103 = .ok (.iload 5, 2) := by decide +kernel
theorem dX8_keepFrom_105 : decode cX8_keepFrom 105 = .ok (.goto 5, 3) := by decide +kernel
theorem dX8_keepFrom_108 : decode cX8_keepFrom 108 = .ok (.iload 4, 2) := by decide +kernel
theorem dX8_keepFrom_110 : decode cX8_keepFrom 110 = .ok (.istore 4, 2) := by decide +kernel
theorem dX8_keepFrom_112 : decode cX8_keepFrom 112 = .ok (.iinc 5 1, 3) := by decide +kernel
theorem dX8_keepFrom_115 : decode cX8_keepFrom 115 = .ok (.goto (-77), 3) := by decide +kernel
theorem dX8_keepFrom_118 : decode cX8_keepFrom 118 = .ok (.iload 4, 2) := by decide +kernel
theorem dX8_keepFrom_120 : decode cX8_keepFrom 120 = .ok (.ireturn, 1) := by decide +kernel
theorem dX8_learn_0 : decode cX8_learn 0 = .ok (.aload_n 0, 1) := by decide +kernel
theorem dX8_learn_1 : decode cX8_learn 1 = .ok (.iconst 0, 1) := by decide +kernel
theorem dX8_learn_2 : decode cX8_learn 2 = .ok (.putfield 53, 3) := by decide +kernel
theorem dX8_learn_5 : decode cX8_learn 5 = .ok (.aload_n 0, 1) := by decide +kernel
theorem dX8_learn_6 : decode cX8_learn 6 = .ok (.iload_n 1, 1) := by decide +kernel
theorem dX8_learn_7 : decode cX8_learn 7 = .ok (.invokevirtual 127, 3) := by decide +kernel
theorem dX8_learn_10 : decode cX8_learn 10 = .ok (.ifCond .ne 10, 3) := by decide +kernel
theorem dX8_learn_13 : decode cX8_learn 13 = .ok (.iload_n 2, 1) := by decide +kernel
theorem dX8_learn_14 : decode cX8_learn 14 = .ok (.invokestatic 148, 3) := by decide +kernel
theorem dX8_learn_17 : decode cX8_learn 17 = .ok (.ifCond .eq 5, 3) := by decide +kernel
theorem dX8_learn_20 : decode cX8_learn 20 = .ok (.iconst (-1), 1) := by decide +kernel
theorem dX8_learn_21 : decode cX8_learn 21 = .ok (.ireturn, 1) := by decide +kernel
theorem dX8_learn_22 : decode cX8_learn 22 = .ok (.aload_n 0, 1) := by decide +kernel
theorem dX8_learn_23 : decode cX8_learn 23 = .ok (.getfield 28, 3) := by decide +kernel
theorem dX8_learn_26 : decode cX8_learn 26 = .ok (.iconst 0, 1) := by decide +kernel
theorem dX8_learn_27 : decode cX8_learn 27 = .ok (.iload_n 1, 1) := by decide +kernel
theorem dX8_learn_28 : decode cX8_learn 28 = .ok (.iadd, 1) := by decide +kernel
theorem dX8_learn_29 : decode cX8_learn 29 = .ok (.iaload, 1) := by decide +kernel
theorem dX8_learn_30 : decode cX8_learn 30 = .ok (.istore_n 3, 1) := by decide +kernel
theorem dX8_learn_31 : decode cX8_learn 31 = .ok (.bipush (-9), 2) := by decide +kernel
theorem dX8_learn_33 : decode cX8_learn 33 = .ok (.istore 4, 2) := by decide +kernel
theorem dX8_learn_35 : decode cX8_learn 35 = .ok (.iconst 0, 1) := by decide +kernel
theorem dX8_learn_36 : decode cX8_learn 36 = .ok (.istore 5, 2) := by decide +kernel
theorem dX8_learn_38 : decode cX8_learn 38 = .ok (.iload 5, 2) := by decide +kernel
theorem dX8_learn_40 : decode cX8_learn 40 = .ok (.bipush 63, 2) := by decide +kernel
theorem dX8_learn_42 : decode cX8_learn 42 = .ok (.if_icmp .gt 74, 3) := by decide +kernel
theorem dX8_learn_45 : decode cX8_learn 45 = .ok (.iload 5, 2) := by decide +kernel
theorem dX8_learn_47 : decode cX8_learn 47 = .ok (.iload_n 2, 1) := by decide +kernel
theorem dX8_learn_48 : decode cX8_learn 48 = .ok (.invokestatic 104, 3) := by decide +kernel
theorem dX8_learn_51 : decode cX8_learn 51 = .ok (.ifCond .ne 22, 3) := by decide +kernel
theorem dX8_learn_54 : decode cX8_learn 54 = .ok (.aload_n 0, 1) := by decide +kernel
theorem dX8_learn_55 : decode cX8_learn 55 = .ok (.iload_n 3, 1) := by decide +kernel
theorem dX8_learn_56 : decode cX8_learn 56 = .ok (.iload 5, 2) := by decide +kernel
theorem dX8_learn_58 : decode cX8_learn 58 = .ok (.ior, 1) := by decide +kernel
theorem dX8_learn_59 : decode cX8_learn 59 = .ok (.invokevirtual 116, 3) := by decide +kernel
theorem dX8_learn_62 : decode cX8_learn 62 = .ok (.iload_n 2, 1) := by decide +kernel
theorem dX8_learn_63 : decode cX8_learn 63 = .ok (.invokestatic 104, 3) := by decide +kernel
theorem dX8_learn_66 : decode cX8_learn 66 = .ok (.ifCond .eq 7, 3) := by decide +kernel
theorem dX8_learn_69 : decode cX8_learn 69 = .ok (.iconst 1, 1) := by decide +kernel
theorem dX8_learn_70 : decode cX8_learn 70 = .ok (.goto 4, 3) := by decide +kernel
theorem dX8_learn_73 : decode cX8_learn 73 = .ok (.iconst 0, 1) := by decide +kernel
theorem dX8_learn_74 : decode cX8_learn 74 = .ok (.istore 6, 2) := by decide +kernel
theorem dX8_learn_76 : decode cX8_learn 76 = .ok (.iload 6, 2) := by decide +kernel
theorem dX8_learn_78 : decode cX8_learn 78 = .ok (.ifCond .eq 28, 3) := by decide +kernel
theorem dX8_learn_81 : decode cX8_learn 81 = .ok (.iload 4, 2) := by decide +kernel
theorem dX8_learn_83 : decode cX8_learn 83 = .ok (.bipush (-9), 2) := by decide +kernel
theorem dX8_learn_85 : decode cX8_learn 85 = .ok (.if_icmp .eq 16, 3) := by decide +kernel
theorem dX8_learn_88 : decode cX8_learn 88 = .ok (.iload 5, 2) := by decide +kernel
theorem dX8_learn_90 : decode cX8_learn 90 = .ok (.invokestatic 145, 3) := by decide +kernel
theorem dX8_learn_93 : decode cX8_learn 93 = .ok (.iload 4, 2) := by decide +kernel
theorem dX8_learn_95 : decode cX8_learn 95 = .ok (.invokestatic 145, 3) := by decide +kernel
theorem dX8_learn_98 : decode cX8_learn 98 = .ok (.if_icmp .ge 8, 3) := by decide +kernel
theorem dX8_learn_101 : decode cX8_learn 101 = .ok (.iload 5, 2) := by decide +kernel
theorem dX8_learn_103 : decode cX8_learn 103 = .ok (.goto 5, 3) := by decide +kernel
theorem dX8_learn_106 : decode cX8_learn 106 = .ok (.iload 4, 2) := by decide +kernel
theorem dX8_learn_108 : decode cX8_learn 108 = .ok (.istore 4, 2) := by decide +kernel
theorem dX8_learn_110 : decode cX8_learn 110 = .ok (.iinc 5 1, 3) := by decide +kernel
theorem dX8_learn_113 : decode cX8_learn 113 = .ok (.goto (-75), 3) := by decide +kernel
theorem dX8_learn_116 : decode cX8_learn 116 = .ok (.iload 4, 2) := by decide +kernel
theorem dX8_learn_118 : decode cX8_learn 118 = .ok (.ireturn, 1) := by decide +kernel
theorem dX8_judge_0 : decode cX8_judge 0 = .ok (.aload_n 0, 1) := by decide +kernel
theorem dX8_judge_1 : decode cX8_judge 1 = .ok (.iconst 0, 1) := by decide +kernel
theorem dX8_judge_2 : decode cX8_judge 2 = .ok (.putfield 53, 3) := by decide +kernel
theorem dX8_judge_5 : decode cX8_judge 5 = .ok (.iload_n 1, 1) := by decide +kernel
theorem dX8_judge_6 : decode cX8_judge 6 = .ok (.i2l, 1) := by decide +kernel
theorem dX8_judge_7 : decode cX8_judge 7 = .ok (.lconst 1, 1) := by decide +kernel
theorem dX8_judge_8 : decode cX8_judge 8 = .ok (.ldc2_w 178, 3) := by decide +kernel
theorem dX8_judge_11 : decode cX8_judge 11 = .ok (.invokestatic 60, 3) := by decide +kernel
theorem dX8_judge_14 : decode cX8_judge 14 = .ok (.ifCond .eq 22, 3) := by decide +kernel
theorem dX8_judge_17 : decode cX8_judge 17 = .ok (.iload_n 2, 1) := by decide +kernel
theorem dX8_judge_18 : decode cX8_judge 18 = .ok (.i2l, 1) := by decide +kernel
theorem dX8_judge_19 : decode cX8_judge 19 = .ok (.lconst 0, 1) := by decide +kernel
theorem dX8_judge_20 : decode cX8_judge 20 = .ok (.sipush 1000, 3) := by decide +kernel
theorem dX8_judge_23 : decode cX8_judge 23 = .ok (.iload_n 1, 1) := by decide +kernel
theorem dX8_judge_24 : decode cX8_judge 24 = .ok (.invokestatic 162, 3) := by decide +kernel
theorem dX8_judge_27 : decode cX8_judge 27 = .ok (.iconst 1, 1) := by decide +kernel
theorem dX8_judge_28 : decode cX8_judge 28 = .ok (.isub, 1) := by decide +kernel
theorem dX8_judge_29 : decode cX8_judge 29 = .ok (.i2l, 1) := by decide +kernel
theorem dX8_judge_30 : decode cX8_judge 30 = .ok (.invokestatic 60, 3) := by decide +kernel
theorem dX8_judge_33 : decode cX8_judge 33 = .ok (.ifCond .ne 6, 3) := by decide +kernel
theorem dX8_judge_36 : decode cX8_judge 36 = .ok (.bipush (-2), 2) := by decide +kernel
theorem dX8_judge_38 : decode cX8_judge 38 = .ok (.ireturn, 1) := by decide +kernel
theorem dX8_judge_39 : decode cX8_judge 39 = .ok (.aload_n 0, 1) := by decide +kernel
theorem dX8_judge_40 : decode cX8_judge 40 = .ok (.invokevirtual 159, 3) := by decide +kernel
theorem dX8_judge_43 : decode cX8_judge 43 = .ok (.iconst 0, 1) := by decide +kernel
theorem dX8_judge_44 : decode cX8_judge 44 = .ok (.istore_n 3, 1) := by decide +kernel
theorem dX8_judge_45 : decode cX8_judge 45 = .ok (.iload_n 3, 1) := by decide +kernel
theorem dX8_judge_46 : decode cX8_judge 46 = .ok (.iload_n 1, 1) := by decide +kernel
theorem dX8_judge_47 : decode cX8_judge 47 = .ok (.if_icmp .ge 107, 3) := by decide +kernel
theorem dX8_judge_50 : decode cX8_judge 50 = .ok (.iload_n 2, 1) := by decide +kernel
theorem dX8_judge_51 : decode cX8_judge 51 = .ok (.sipush 1000, 3) := by decide +kernel
theorem dX8_judge_54 : decode cX8_judge 54 = .ok (.iload_n 1, 1) := by decide +kernel
theorem dX8_judge_55 : decode cX8_judge 55 = .ok (.iconst 1, 1) := by decide +kernel
theorem dX8_judge_56 : decode cX8_judge 56 = .ok (.isub, 1) := by decide +kernel
theorem dX8_judge_57 : decode cX8_judge 57 = .ok (.iload_n 3, 1) := by decide +kernel
theorem dX8_judge_58 : decode cX8_judge 58 = .ok (.isub, 1) := by decide +kernel
theorem dX8_judge_59 : decode cX8_judge 59 = .ok (.invokestatic 162, 3) := by decide +kernel
theorem dX8_judge_62 : decode cX8_judge 62 = .ok (.idiv, 1) := by decide +kernel
theorem dX8_judge_63 : decode cX8_judge 63 = .ok (.sipush 1000, 3) := by decide +kernel
theorem dX8_judge_66 : decode cX8_judge 66 = .ok (.irem, 1) := by decide +kernel
theorem dX8_judge_67 : decode cX8_judge 67 = .ok (.istore 4, 2) := by decide +kernel
theorem dX8_judge_69 : decode cX8_judge 69 = .ok (.iload 4, 2) := by decide +kernel
theorem dX8_judge_71 : decode cX8_judge 71 = .ok (.bipush 100, 2) := by decide +kernel
theorem dX8_judge_73 : decode cX8_judge 73 = .ok (.idiv, 1) := by decide +kernel
theorem dX8_judge_74 : decode cX8_judge 74 = .ok (.iconst 1, 1) := by decide +kernel
theorem dX8_judge_75 : decode cX8_judge 75 = .ok (.isub, 1) := by decide +kernel
theorem dX8_judge_76 : decode cX8_judge 76 = .ok (.istore 5, 2) := by decide +kernel
theorem dX8_judge_78 : decode cX8_judge 78 = .ok (.iload 4, 2) := by decide +kernel
theorem dX8_judge_80 : decode cX8_judge 80 = .ok (.bipush 10, 2) := by decide +kernel
theorem dX8_judge_82 : decode cX8_judge 82 = .ok (.idiv, 1) := by decide +kernel
theorem dX8_judge_83 : decode cX8_judge 83 = .ok (.bipush 10, 2) := by decide +kernel
theorem dX8_judge_85 : decode cX8_judge 85 = .ok (.irem, 1) := by decide +kernel
theorem dX8_judge_86 : decode cX8_judge 86 = .ok (.iconst 1, 1) := by decide +kernel
theorem dX8_judge_87 : decode cX8_judge 87 = .ok (.isub, 1) := by decide +kernel
theorem dX8_judge_88 : decode cX8_judge 88 = .ok (.istore 6, 2) := by decide +kernel
theorem dX8_judge_90 : decode cX8_judge 90 = .ok (.iload 4, 2) := by decide +kernel
theorem dX8_judge_92 : decode cX8_judge 92 = .ok (.bipush 10, 2) := by decide +kernel
theorem dX8_judge_94 : decode cX8_judge 94 = .ok (.irem, 1) := by decide +kernel
theorem dX8_judge_95 : decode cX8_judge 95 = .ok (.istore 7, 2) := by decide +kernel
theorem dX8_judge_97 : decode cX8_judge 97 = .ok (.aload_n 0, 1) := by decide +kernel
theorem dX8_judge_98 : decode cX8_judge 98 = .ok (.iload 5, 2) := by decide +kernel
theorem dX8_judge_100 : decode cX8_judge 100 = .ok (.invokevirtual 127, 3) := by decide +kernel
theorem dX8_judge_103 : decode cX8_judge 103 = .ok (.ifCond .ne 43, 3) := by decide +kernel
theorem dX8_judge_106 : decode cX8_judge 106 = .ok (.iload 6, 2) := by decide +kernel
theorem dX8_judge_108 : decode cX8_judge 108 = .ok (.invokestatic 148, 3) := by decide +kernel
theorem dX8_judge_111 : decode cX8_judge 111 = .ok (.ifCond .ne 35, 3) := by decide +kernel
theorem dX8_judge_114 : decode cX8_judge 114 = .ok (.iload 7, 2) := by decide +kernel
theorem dX8_judge_116 : decode cX8_judge 116 = .ok (.i2l, 1) := by decide +kernel
theorem dX8_judge_117 : decode cX8_judge 117 = .ok (.lconst 1, 1) := by decide +kernel
theorem dX8_judge_118 : decode cX8_judge 118 = .ok (.ldc2_w 151, 3) := by decide +kernel
theorem dX8_judge_121 : decode cX8_judge 121 = .ok (.invokestatic 60, 3) := by decide +kernel
theorem dX8_judge_124 : decode cX8_judge 124 = .ok (.ifCond .eq 22, 3) := by decide +kernel
theorem dX8_judge_127 : decode cX8_judge 127 = .ok (.aload_n 0, 1) := by decide +kernel
theorem dX8_judge_128 : decode cX8_judge 128 = .ok (.aload_n 0, 1) := by decide +kernel
theorem dX8_judge_129 : decode cX8_judge 129 = .ok (.getfield 31, 3) := by decide +kernel
theorem dX8_judge_132 : decode cX8_judge 132 = .ok (.iload 5, 2) := by decide +kernel
theorem dX8_judge_134 : decode cX8_judge 134 = .ok (.iload 6, 2) := by decide +kernel
theorem dX8_judge_136 : decode cX8_judge 136 = .ok (.iload 7, 2) := by decide +kernel
theorem dX8_judge_138 : decode cX8_judge 138 = .ok (.invokevirtual 156, 3) := by decide +kernel
theorem dX8_judge_141 : decode cX8_judge 141 = .ok (.bipush (-9), 2) := by decide +kernel
theorem dX8_judge_143 : decode cX8_judge 143 = .ok (.if_icmp .ne 5, 3) := by decide +kernel
theorem dX8_judge_146 : decode cX8_judge 146 = .ok (.iload_n 3, 1) := by decide +kernel
theorem dX8_judge_147 : decode cX8_judge 147 = .ok (.ireturn, 1) := by decide +kernel
theorem dX8_judge_148 : decode cX8_judge 148 = .ok (.iinc 3 1, 3) := by decide +kernel
theorem dX8_judge_151 : decode cX8_judge 151 = .ok (.goto (-106), 3) := by decide +kernel
theorem dX8_judge_154 : decode cX8_judge 154 = .ok (.bipush (-9), 2) := by decide +kernel
theorem dX8_judge_156 : decode cX8_judge 156 = .ok (.ireturn, 1) := by decide +kernel
theorem dX8_ways_0 : decode cX8_ways 0 = .ok (.iconst 1, 1) := by decide +kernel
theorem dX8_ways_1 : decode cX8_ways 1 = .ok (.istore_n 1, 1) := by decide +kernel
theorem dX8_ways_2 : decode cX8_ways 2 = .ok (.iconst 2, 1) := by decide +kernel
theorem dX8_ways_3 : decode cX8_ways 3 = .ok (.istore_n 2, 1) := by decide +kernel
theorem dX8_ways_4 : decode cX8_ways 4 = .ok (.iload_n 2, 1) := by decide +kernel
theorem dX8_ways_5 : decode cX8_ways 5 = .ok (.iload_n 0, 1) := by decide +kernel
theorem dX8_ways_6 : decode cX8_ways 6 = .ok (.if_icmp .gt 13, 3) := by decide +kernel
theorem dX8_ways_9 : decode cX8_ways 9 = .ok (.iload_n 1, 1) := by decide +kernel
theorem dX8_ways_10 : decode cX8_ways 10 = .ok (.iload_n 2, 1) := by decide +kernel
theorem dX8_ways_11 : decode cX8_ways 11 = .ok (.imul, 1) := by decide +kernel
theorem dX8_ways_12 : decode cX8_ways 12 = .ok (.istore_n 1, 1) := by decide +kernel
theorem dX8_ways_13 : decode cX8_ways 13 = .ok (.iinc 2 1, 3) := by decide +kernel
theorem dX8_ways_16 : decode cX8_ways 16 = .ok (.goto (-12), 3) := by decide +kernel
theorem dX8_ways_19 : decode cX8_ways 19 = .ok (.iload_n 1, 1) := by decide +kernel
theorem dX8_ways_20 : decode cX8_ways 20 = .ok (.ireturn, 1) := by decide +kernel
theorem dX8_divisor_0 : decode cX8_divisor 0 = .ok (.iload_n 0, 1) := by decide +kernel
theorem dX8_divisor_1 : decode cX8_divisor 1 = .ok (.ifCond .ge 8, 3) := by decide +kernel
theorem dX8_divisor_4 : decode cX8_divisor 4 = .ok (.iload_n 0, 1) := by decide +kernel
theorem dX8_divisor_5 : decode cX8_divisor 5 = .ok (.ineg, 1) := by decide +kernel
theorem dX8_divisor_6 : decode cX8_divisor 6 = .ok (.goto 4, 3) := by decide +kernel
theorem dX8_divisor_9 : decode cX8_divisor 9 = .ok (.iload_n 0, 1) := by decide +kernel
theorem dX8_divisor_10 : decode cX8_divisor 10 = .ok (.istore_n 2, 1) := by decide +kernel
theorem dX8_divisor_11 : decode cX8_divisor 11 = .ok (.iload_n 1, 1) := by decide +kernel
theorem dX8_divisor_12 : decode cX8_divisor 12 = .ok (.istore_n 3, 1) := by decide +kernel
theorem dX8_divisor_13 : decode cX8_divisor 13 = .ok (.iload_n 3, 1) := by decide +kernel
theorem dX8_divisor_14 : decode cX8_divisor 14 = .ok (.ifCond .eq 16, 3) := by decide +kernel
theorem dX8_divisor_17 : decode cX8_divisor 17 = .ok (.iload_n 2, 1) := by decide +kernel
theorem dX8_divisor_18 : decode cX8_divisor 18 = .ok (.iload_n 3, 1) := by decide +kernel
theorem dX8_divisor_19 : decode cX8_divisor 19 = .ok (.irem, 1) := by decide +kernel
theorem dX8_divisor_20 : decode cX8_divisor 20 = .ok (.istore 4, 2) := by decide +kernel
theorem dX8_divisor_22 : decode cX8_divisor 22 = .ok (.iload_n 3, 1) := by decide +kernel
theorem dX8_divisor_23 : decode cX8_divisor 23 = .ok (.istore_n 2, 1) := by decide +kernel
theorem dX8_divisor_24 : decode cX8_divisor 24 = .ok (.iload 4, 2) := by decide +kernel
theorem dX8_divisor_26 : decode cX8_divisor 26 = .ok (.istore_n 3, 1) := by decide +kernel
theorem dX8_divisor_27 : decode cX8_divisor 27 = .ok (.goto (-14), 3) := by decide +kernel
theorem dX8_divisor_30 : decode cX8_divisor 30 = .ok (.iload_n 2, 1) := by decide +kernel
theorem dX8_divisor_31 : decode cX8_divisor 31 = .ok (.ireturn, 1) := by decide +kernel
theorem dX8_fraction_0 : decode cX8_fraction 0 = .ok (.iload_n 0, 1) := by decide +kernel
theorem dX8_fraction_1 : decode cX8_fraction 1 = .ok (.iload_n 1, 1) := by decide +kernel
theorem dX8_fraction_2 : decode cX8_fraction 2 = .ok (.invokestatic 180, 3) := by decide +kernel
theorem dX8_fraction_5 : decode cX8_fraction 5 = .ok (.istore_n 3, 1) := by decide +kernel
theorem dX8_fraction_6 : decode cX8_fraction 6 = .ok (.iload_n 2, 1) := by decide +kernel
theorem dX8_fraction_7 : decode cX8_fraction 7 = .ok (.ifCond .eq 9, 3) := by decide +kernel
theorem dX8_fraction_10 : decode cX8_fraction 10 = .ok (.iload_n 0, 1) := by decide +kernel
theorem dX8_fraction_11 : decode cX8_fraction 11 = .ok (.iload_n 3, 1) := by decide +kernel
theorem dX8_fraction_12 : decode cX8_fraction 12 = .ok (.idiv, 1) := by decide +kernel
theorem dX8_fraction_13 : decode cX8_fraction 13 = .ok (.goto 6, 3) := by decide +kernel
theorem dX8_fraction_16 : decode cX8_fraction 16 = .ok (.iload_n 1, 1) := by decide +kernel
theorem dX8_fraction_17 : decode cX8_fraction 17 = .ok (.iload_n 3, 1) := by decide +kernel
theorem dX8_fraction_18 : decode cX8_fraction 18 = .ok (.idiv, 1) := by decide +kernel
theorem dX8_fraction_19 : decode cX8_fraction 19 = .ok (.ireturn, 1) := by decide +kernel
theorem dX8_share_0 : decode cX8_share 0 = .ok (.aload_n 0, 1) := by decide +kernel
theorem dX8_share_1 : decode cX8_share 1 = .ok (.iconst 0, 1) := by decide +kernel
theorem dX8_share_2 : decode cX8_share 2 = .ok (.putfield 53, 3) := by decide +kernel
theorem dX8_share_5 : decode cX8_share 5 = .ok (.aload_n 0, 1) := by decide +kernel
theorem dX8_share_6 : decode cX8_share 6 = .ok (.iload_n 1, 1) := by decide +kernel
theorem dX8_share_7 : decode cX8_share 7 = .ok (.invokevirtual 127, 3) := by decide +kernel
theorem dX8_share_10 : decode cX8_share 10 = .ok (.ifCond .eq 5, 3) := by decide +kernel
theorem dX8_share_13 : decode cX8_share 13 = .ok (.iconst (-1), 1) := by decide +kernel
theorem dX8_share_14 : decode cX8_share 14 = .ok (.ireturn, 1) := by decide +kernel
theorem dX8_share_15 : decode cX8_share 15 = .ok (.iconst 0, 1) := by decide +kernel
theorem dX8_share_16 : decode cX8_share 16 = .ok (.istore_n 3, 1) := by decide +kernel
theorem dX8_share_17 : decode cX8_share 17 = .ok (.iload_n 3, 1) := by decide +kernel
theorem dX8_share_18 : decode cX8_share 18 = .ok (.iconst 1, 1) := by decide +kernel
theorem dX8_share_19 : decode cX8_share 19 = .ok (.aload_n 0, 1) := by decide +kernel
theorem dX8_share_20 : decode cX8_share 20 = .ok (.getfield 57, 3) := by decide +kernel
theorem dX8_share_23 : decode cX8_share 23 = .ok (.ishl, 1) := by decide +kernel
theorem dX8_share_24 : decode cX8_share 24 = .ok (.if_icmp .ge 72, 3) := by decide +kernel
theorem dX8_share_27 : decode cX8_share 27 = .ok (.iconst 0, 1) := by decide +kernel
theorem dX8_share_28 : decode cX8_share 28 = .ok (.istore 4, 2) := by decide +kernel
theorem dX8_share_30 : decode cX8_share 30 = .ok (.iconst 0, 1) := by decide +kernel
theorem dX8_share_31 : decode cX8_share 31 = .ok (.istore 5, 2) := by decide +kernel
theorem dX8_share_33 : decode cX8_share 33 = .ok (.iload 5, 2) := by decide +kernel
theorem dX8_share_35 : decode cX8_share 35 = .ok (.aload_n 0, 1) := by decide +kernel
theorem dX8_share_36 : decode cX8_share 36 = .ok (.getfield 57, 3) := by decide +kernel
theorem dX8_share_39 : decode cX8_share 39 = .ok (.if_icmp .ge 36, 3) := by decide +kernel
theorem dX8_share_42 : decode cX8_share 42 = .ok (.iload 4, 2) := by decide +kernel
theorem dX8_share_44 : decode cX8_share 44 = .ok (.iload_n 3, 1) := by decide +kernel
theorem dX8_share_45 : decode cX8_share 45 = .ok (.iload 5, 2) := by decide +kernel
theorem dX8_share_47 : decode cX8_share 47 = .ok (.invokestatic 104, 3) := by decide +kernel
theorem dX8_share_50 : decode cX8_share 50 = .ok (.ifCond .eq 15, 3) := by decide +kernel
theorem dX8_share_53 : decode cX8_share 53 = .ok (.aload_n 0, 1) := by decide +kernel
theorem dX8_share_54 : decode cX8_share 54 = .ok (.getfield 28, 3) := by decide +kernel
theorem dX8_share_57 : decode cX8_share 57 = .ok (.iconst 0, 1) := by decide +kernel
theorem dX8_share_58 : decode cX8_share 58 = .ok (.iload 5, 2) := by decide +kernel
theorem dX8_share_60 : decode cX8_share 60 = .ok (.iadd, 1) := by decide +kernel
theorem dX8_share_61 : decode cX8_share 61 = .ok (.iaload, 1) := by decide +kernel
theorem dX8_share_62 : decode cX8_share 62 = .ok (.goto 4, 3) := by decide +kernel
theorem dX8_share_65 : decode cX8_share 65 = .ok (.iconst 0, 1) := by decide +kernel
theorem dX8_share_66 : decode cX8_share 66 = .ok (.ior, 1) := by decide +kernel
theorem dX8_share_67 : decode cX8_share 67 = .ok (.istore 4, 2) := by decide +kernel
theorem dX8_share_69 : decode cX8_share 69 = .ok (.iinc 5 1, 3) := by decide +kernel
theorem dX8_share_72 : decode cX8_share 72 = .ok (.goto (-39), 3) := by decide +kernel
theorem dX8_share_75 : decode cX8_share 75 = .ok (.aload_n 0, 1) := by decide +kernel
theorem dX8_share_76 : decode cX8_share 76 = .ok (.getfield 50, 3) := by decide +kernel
theorem dX8_share_79 : decode cX8_share 79 = .ok (.iload_n 3, 1) := by decide +kernel
theorem dX8_share_80 : decode cX8_share 80 = .ok (.aload_n 0, 1) := by decide +kernel
theorem dX8_share_81 : decode cX8_share 81 = .ok (.iload 4, 2) := by decide +kernel
theorem dX8_share_83 : decode cX8_share 83 = .ok (.invokevirtual 116, 3) := by decide +kernel
theorem dX8_share_86 : decode cX8_share 86 = .ok (.invokestatic 145, 3) := by decide +kernel
theorem dX8_share_89 : decode cX8_share 89 = .ok (.iastore, 1) := by decide +kernel
theorem dX8_share_90 : decode cX8_share 90 = .ok (.iinc 3 1, 3) := by decide +kernel
theorem dX8_share_93 : decode cX8_share 93 = .ok (.goto (-76), 3) := by decide +kernel
theorem dX8_share_96 : decode cX8_share 96 = .ok (.iconst 0, 1) := by decide +kernel
theorem dX8_share_97 : decode cX8_share 97 = .ok (.istore_n 3, 1) := by decide +kernel
theorem dX8_share_98 : decode cX8_share 98 = .ok (.iconst 0, 1) := by decide +kernel
theorem dX8_share_99 : decode cX8_share 99 = .ok (.istore 4, 2) := by decide +kernel
theorem dX8_share_101 : decode cX8_share 101 = .ok (.iload 4, 2) := by decide +kernel
theorem dX8_share_103 : decode cX8_share 103 = .ok (.iconst 1, 1) := by decide +kernel
theorem dX8_share_104 : decode cX8_share 104 = .ok (.aload_n 0, 1) := by decide +kernel
theorem dX8_share_105 : decode cX8_share 105 = .ok (.getfield 57, 3) := by decide +kernel
theorem dX8_share_108 : decode cX8_share 108 = .ok (.ishl, 1) := by decide +kernel
theorem dX8_share_109 : decode cX8_share 109 = .ok (.if_icmp .ge 66, 3) := by decide +kernel
theorem dX8_share_112 : decode cX8_share 112 = .ok (.iload 4, 2) := by decide +kernel
theorem dX8_share_114 : decode cX8_share 114 = .ok (.iload_n 1, 1) := by decide +kernel
theorem dX8_share_115 : decode cX8_share 115 = .ok (.invokestatic 104, 3) := by decide +kernel
theorem dX8_share_118 : decode cX8_share 118 = .ok (.ifCond .ne 51, 3) := by decide +kernel
theorem dX8_share_121 : decode cX8_share 121 = .ok (.iload 4, 2) := by decide +kernel
theorem dX8_share_123 : decode cX8_share 123 = .ok (.invokestatic 145, 3) := by decide +kernel
theorem dX8_share_126 : decode cX8_share 126 = .ok (.istore 5, 2) := by decide +kernel
theorem dX8_share_128 : decode cX8_share 128 = .ok (.iload_n 3, 1) := by decide +kernel
theorem dX8_share_129 : decode cX8_share 129 = .ok (.iload 5, 2) := by decide +kernel
theorem dX8_share_131 : decode cX8_share 131 = .ok (.invokestatic 183, 3) := by decide +kernel
theorem dX8_share_134 : decode cX8_share 134 = .ok (.aload_n 0, 1) := by decide +kernel
theorem dX8_share_135 : decode cX8_share 135 = .ok (.getfield 57, 3) := by decide +kernel
theorem dX8_share_138 : decode cX8_share 138 = .ok (.iconst 1, 1) := by decide +kernel
theorem dX8_share_139 : decode cX8_share 139 = .ok (.isub, 1) := by decide +kernel
theorem dX8_share_140 : decode cX8_share 140 = .ok (.iload 5, 2) := by decide +kernel
theorem dX8_share_142 : decode cX8_share 142 = .ok (.isub, 1) := by decide +kernel
theorem dX8_share_143 : decode cX8_share 143 = .ok (.invokestatic 183, 3) := by decide +kernel
theorem dX8_share_146 : decode cX8_share 146 = .ok (.imul, 1) := by decide +kernel
theorem dX8_share_147 : decode cX8_share 147 = .ok (.aload_n 0, 1) := by decide +kernel
theorem dX8_share_148 : decode cX8_share 148 = .ok (.getfield 50, 3) := by decide +kernel
theorem dX8_share_151 : decode cX8_share 151 = .ok (.iload 4, 2) := by decide +kernel
theorem dX8_share_153 : decode cX8_share 153 = .ok (.iconst 1, 1) := by decide +kernel
theorem dX8_share_154 : decode cX8_share 154 = .ok (.iload_n 1, 1) := by decide +kernel
theorem dX8_share_155 : decode cX8_share 155 = .ok (.ishl, 1) := by decide +kernel
theorem dX8_share_156 : decode cX8_share 156 = .ok (.ior, 1) := by decide +kernel
theorem dX8_share_157 : decode cX8_share 157 = .ok (.iaload, 1) := by decide +kernel
theorem dX8_share_158 : decode cX8_share 158 = .ok (.aload_n 0, 1) := by decide +kernel
theorem dX8_share_159 : decode cX8_share 159 = .ok (.getfield 50, 3) := by decide +kernel
theorem dX8_share_162 : decode cX8_share 162 = .ok (.iload 4, 2) := by decide +kernel
theorem dX8_share_164 : decode cX8_share 164 = .ok (.iaload, 1) := by decide +kernel
theorem dX8_share_165 : decode cX8_share 165 = .ok (.isub, 1) := by decide +kernel
theorem dX8_share_166 : decode cX8_share 166 = .ok (.imul, 1) := by decide +kernel
theorem dX8_share_167 : decode cX8_share 167 = .ok (.iadd, 1) := by decide +kernel
theorem dX8_share_168 : decode cX8_share 168 = .ok (.istore_n 3, 1) := by decide +kernel
theorem dX8_share_169 : decode cX8_share 169 = .ok (.iinc 4 1, 3) := by decide +kernel
theorem dX8_share_172 : decode cX8_share 172 = .ok (.goto (-71), 3) := by decide +kernel
theorem dX8_share_175 : decode cX8_share 175 = .ok (.iload_n 3, 1) := by decide +kernel
theorem dX8_share_176 : decode cX8_share 176 = .ok (.aload_n 0, 1) := by decide +kernel
theorem dX8_share_177 : decode cX8_share 177 = .ok (.getfield 57, 3) := by decide +kernel
theorem dX8_share_180 : decode cX8_share 180 = .ok (.invokestatic 183, 3) := by decide +kernel
theorem dX8_share_183 : decode cX8_share 183 = .ok (.iload_n 2, 1) := by decide +kernel
theorem dX8_share_184 : decode cX8_share 184 = .ok (.invokestatic 186, 3) := by decide +kernel
theorem dX8_share_187 : decode cX8_share 187 = .ok (.ireturn, 1) := by decide +kernel
theorem dX8_see_0 : decode cX8_see 0 = .ok (.aload_n 0, 1) := by decide +kernel
theorem dX8_see_1 : decode cX8_see 1 = .ok (.iconst 0, 1) := by decide +kernel
theorem dX8_see_2 : decode cX8_see 2 = .ok (.putfield 53, 3) := by decide +kernel
theorem dX8_see_5 : decode cX8_see 5 = .ok (.iload_n 1, 1) := by decide +kernel
theorem dX8_see_6 : decode cX8_see 6 = .ok (.invokestatic 148, 3) := by decide +kernel
theorem dX8_see_9 : decode cX8_see 9 = .ok (.ifCond .eq 5, 3) := by decide +kernel
theorem dX8_see_12 : decode cX8_see 12 = .ok (.iconst (-1), 1) := by decide +kernel
theorem dX8_see_13 : decode cX8_see 13 = .ok (.ireturn, 1) := by decide +kernel
theorem dX8_see_14 : decode cX8_see 14 = .ok (.iload_n 2, 1) := by decide +kernel
theorem dX8_see_15 : decode cX8_see 15 = .ok (.i2l, 1) := by decide +kernel
theorem dX8_see_16 : decode cX8_see 16 = .ok (.lconst 0, 1) := by decide +kernel
theorem dX8_see_17 : decode cX8_see 17 = .ok (.lconst 1, 1) := by decide +kernel
theorem dX8_see_18 : decode cX8_see 18 = .ok (.invokestatic 60, 3) := by decide +kernel
theorem dX8_see_21 : decode cX8_see 21 = .ok (.ifCond .ne 6, 3) := by decide +kernel
theorem dX8_see_24 : decode cX8_see 24 = .ok (.bipush (-2), 2) := by decide +kernel
theorem dX8_see_26 : decode cX8_see 26 = .ok (.ireturn, 1) := by decide +kernel
theorem dX8_see_27 : decode cX8_see 27 = .ok (.aload_n 0, 1) := by decide +kernel
theorem dX8_see_28 : decode cX8_see 28 = .ok (.getfield 124, 3) := by decide +kernel
theorem dX8_see_31 : decode cX8_see 31 = .ok (.bipush 6, 2) := by decide +kernel
theorem dX8_see_33 : decode cX8_see 33 = .ok (.if_icmp .ne 6, 3) := by decide +kernel
theorem dX8_see_36 : decode cX8_see 36 = .ok (.bipush (-4), 2) := by decide +kernel
theorem dX8_see_38 : decode cX8_see 38 = .ok (.ireturn, 1) := by decide +kernel
theorem dX8_see_39 : decode cX8_see 39 = .ok (.aload_n 0, 1) := by decide +kernel
theorem dX8_see_40 : decode cX8_see 40 = .ok (.getfield 44, 3) := by decide +kernel
theorem dX8_see_43 : decode cX8_see 43 = .ok (.aload_n 0, 1) := by decide +kernel
theorem dX8_see_44 : decode cX8_see 44 = .ok (.getfield 124, 3) := by decide +kernel
theorem dX8_see_47 : decode cX8_see 47 = .ok (.iload_n 1, 1) := by decide +kernel
theorem dX8_see_48 : decode cX8_see 48 = .ok (.iastore, 1) := by decide +kernel
theorem dX8_see_49 : decode cX8_see 49 = .ok (.aload_n 0, 1) := by decide +kernel
theorem dX8_see_50 : decode cX8_see 50 = .ok (.getfield 47, 3) := by decide +kernel
theorem dX8_see_53 : decode cX8_see 53 = .ok (.aload_n 0, 1) := by decide +kernel
theorem dX8_see_54 : decode cX8_see 54 = .ok (.getfield 124, 3) := by decide +kernel
theorem dX8_see_57 : decode cX8_see 57 = .ok (.iload_n 2, 1) := by decide +kernel
theorem dX8_see_58 : decode cX8_see 58 = .ok (.iastore, 1) := by decide +kernel
theorem dX8_see_59 : decode cX8_see 59 = .ok (.aload_n 0, 1) := by decide +kernel
theorem dX8_see_60 : decode cX8_see 60 = .ok (.dup, 1) := by decide +kernel
theorem dX8_see_61 : decode cX8_see 61 = .ok (.getfield 124, 3) := by decide +kernel
theorem dX8_see_64 : decode cX8_see 64 = .ok (.iconst 1, 1) := by decide +kernel
theorem dX8_see_65 : decode cX8_see 65 = .ok (.iadd, 1) := by decide +kernel
theorem dX8_see_66 : decode cX8_see 66 = .ok (.putfield 124, 3) := by decide +kernel
theorem dX8_see_69 : decode cX8_see 69 = .ok (.aload_n 0, 1) := by decide +kernel
theorem dX8_see_70 : decode cX8_see 70 = .ok (.getfield 124, 3) := by decide +kernel
theorem dX8_see_73 : decode cX8_see 73 = .ok (.ireturn, 1) := by decide +kernel
theorem dX8_unsee_0 : decode cX8_unsee 0 = .ok (.aload_n 0, 1) := by decide +kernel
theorem dX8_unsee_1 : decode cX8_unsee 1 = .ok (.iconst 0, 1) := by decide +kernel
theorem dX8_unsee_2 : decode cX8_unsee 2 = .ok (.putfield 53, 3) := by decide +kernel
theorem dX8_unsee_5 : decode cX8_unsee 5 = .ok (.aload_n 0, 1) := by decide +kernel
theorem dX8_unsee_6 : decode cX8_unsee 6 = .ok (.getfield 124, 3) := by decide +kernel
theorem dX8_unsee_9 : decode cX8_unsee 9 = .ok (.istore_n 1, 1) := by decide +kernel
theorem dX8_unsee_10 : decode cX8_unsee 10 = .ok (.aload_n 0, 1) := by decide +kernel
theorem dX8_unsee_11 : decode cX8_unsee 11 = .ok (.iconst 0, 1) := by decide +kernel
theorem dX8_unsee_12 : decode cX8_unsee 12 = .ok (.putfield 124, 3) := by decide +kernel
theorem dX8_unsee_15 : decode cX8_unsee 15 = .ok (.iload_n 1, 1) := by decide +kernel
theorem dX8_unsee_16 : decode cX8_unsee 16 = .ok (.ireturn, 1) := by decide +kernel
theorem dX8_findMinds_0 : decode cX8_findMinds 0 = .ok (.aload_n 0, 1) := by decide +kernel
theorem dX8_findMinds_1 : decode cX8_findMinds 1 = .ok (.iconst 0, 1) := by decide +kernel
theorem dX8_findMinds_2 : decode cX8_findMinds 2 = .ok (.putfield 190, 3) := by decide +kernel
theorem dX8_findMinds_5 : decode cX8_findMinds 5 = .ok (.aload_n 0, 1) := by decide +kernel
theorem dX8_findMinds_6 : decode cX8_findMinds 6 = .ok (.bipush 63, 2) := by decide +kernel
theorem dX8_findMinds_8 : decode cX8_findMinds 8 = .ok (.putfield 193, 3) := by decide +kernel
theorem dX8_findMinds_11 : decode cX8_findMinds 11 = .ok (.aload_n 0, 1) := by decide +kernel
theorem dX8_findMinds_12 : decode cX8_findMinds 12 = .ok (.iconst 0, 1) := by decide +kernel
theorem dX8_findMinds_13 : decode cX8_findMinds 13 = .ok (.putfield 196, 3) := by decide +kernel
theorem dX8_findMinds_16 : decode cX8_findMinds 16 = .ok (.iconst 0, 1) := by decide +kernel
theorem dX8_findMinds_17 : decode cX8_findMinds 17 = .ok (.istore_n 1, 1) := by decide +kernel
theorem dX8_findMinds_18 : decode cX8_findMinds 18 = .ok (.iload_n 1, 1) := by decide +kernel
theorem dX8_findMinds_19 : decode cX8_findMinds 19 = .ok (.bipush 63, 2) := by decide +kernel
theorem dX8_findMinds_21 : decode cX8_findMinds 21 = .ok (.if_icmp .gt 109, 3) := by decide +kernel
theorem dX8_findMinds_24 : decode cX8_findMinds 24 = .ok (.aload_n 0, 1) := by decide +kernel
theorem dX8_findMinds_25 : decode cX8_findMinds 25 = .ok (.iload_n 1, 1) := by decide +kernel
theorem dX8_findMinds_26 : decode cX8_findMinds 26 = .ok (.invokevirtual 116, 3) := by decide +kernel
theorem dX8_findMinds_29 : decode cX8_findMinds 29 = .ok (.istore_n 2, 1) := by decide +kernel
theorem dX8_findMinds_30 : decode cX8_findMinds 30 = .ok (.iconst 1, 1) := by decide +kernel
theorem dX8_findMinds_31 : decode cX8_findMinds 31 = .ok (.istore_n 3, 1) := by decide +kernel
theorem dX8_findMinds_32 : decode cX8_findMinds 32 = .ok (.iconst 0, 1) := by decide +kernel
theorem dX8_findMinds_33 : decode cX8_findMinds 33 = .ok (.istore 4, 2) := by decide +kernel
theorem dX8_findMinds_35 : decode cX8_findMinds 35 = .ok (.iload 4, 2) := by decide +kernel
theorem dX8_findMinds_37 : decode cX8_findMinds 37 = .ok (.aload_n 0, 1) := by decide +kernel
theorem dX8_findMinds_38 : decode cX8_findMinds 38 = .ok (.getfield 124, 3) := by decide +kernel
theorem dX8_findMinds_41 : decode cX8_findMinds 41 = .ok (.if_icmp .ge 49, 3) := by decide +kernel
theorem dX8_findMinds_44 : decode cX8_findMinds 44 = .ok (.iload_n 3, 1) := by decide +kernel
theorem dX8_findMinds_45 : decode cX8_findMinds 45 = .ok (.ifCond .eq 37, 3) := by decide +kernel
theorem dX8_findMinds_48 : decode cX8_findMinds 48 = .ok (.iload_n 2, 1) := by decide +kernel
theorem dX8_findMinds_49 : decode cX8_findMinds 49 = .ok (.aload_n 0, 1) := by decide +kernel
theorem dX8_findMinds_50 : decode cX8_findMinds 50 = .ok (.getfield 44, 3) := by decide +kernel
theorem dX8_findMinds_53 : decode cX8_findMinds 53 = .ok (.iload 4, 2) := by decide +kernel
theorem dX8_findMinds_55 : decode cX8_findMinds 55 = .ok (.iaload, 1) := by decide +kernel
theorem dX8_findMinds_56 : decode cX8_findMinds 56 = .ok (.invokestatic 104, 3) := by decide +kernel
theorem dX8_findMinds_59 : decode cX8_findMinds 59 = .ok (.aload_n 0, 1) := by decide +kernel
theorem dX8_findMinds_60 : decode cX8_findMinds 60 = .ok (.getfield 47, 3) := by decide +kernel
theorem dX8_findMinds_63 : decode cX8_findMinds 63 = .ok (.iload 4, 2) := by decide +kernel
theorem dX8_findMinds_65 : decode cX8_findMinds 65 = .ok (.iaload, 1) := by decide +kernel
theorem dX8_findMinds_66 : decode cX8_findMinds 66 = .ok (.iconst 1, 1) := by decide +kernel
theorem dX8_findMinds_67 : decode cX8_findMinds 67 = .ok (.if_icmp .ne 7, 3) := by decide +kernel
theorem dX8_findMinds_70 : decode cX8_findMinds 70 = .ok (.iconst 1, 1) := by decide +kernel
theorem dX8_findMinds_71 : decode cX8_findMinds 71 = .ok (.goto 4, 3) := by decide +kernel
theorem dX8_findMinds_74 : decode cX8_findMinds 74 = .ok (.iconst 0, 1) := by decide +kernel
theorem dX8_findMinds_75 : decode cX8_findMinds 75 = .ok (.if_icmp .ne 7, 3) := by decide +kernel
theorem dX8_findMinds_78 : decode cX8_findMinds 78 = .ok (.iconst 1, 1) := by decide +kernel
theorem dX8_findMinds_79 : decode cX8_findMinds 79 = .ok (.goto 4, 3) := by decide +kernel
theorem dX8_findMinds_82 : decode cX8_findMinds 82 = .ok (.iconst 0, 1) := by decide +kernel
theorem dX8_findMinds_83 : decode cX8_findMinds 83 = .ok (.istore_n 3, 1) := by decide +kernel
theorem dX8_findMinds_84 : decode cX8_findMinds 84 = .ok (.iinc 4 1, 3) := by decide +kernel
theorem dX8_findMinds_87 : decode cX8_findMinds 87 = .ok (.goto (-52), 3) := by decide +kernel
theorem dX8_findMinds_90 : decode cX8_findMinds 90 = .ok (.iload_n 3, 1) := by decide +kernel
theorem dX8_findMinds_91 : decode cX8_findMinds 91 = .ok (.ifCond .eq 33, 3) := by decide +kernel
theorem dX8_findMinds_94 : decode cX8_findMinds 94 = .ok (.aload_n 0, 1) := by decide +kernel
theorem dX8_findMinds_95 : decode cX8_findMinds 95 = .ok (.dup, 1) := by decide +kernel
theorem dX8_findMinds_96 : decode cX8_findMinds 96 = .ok (.getfield 190, 3) := by decide +kernel
theorem dX8_findMinds_99 : decode cX8_findMinds 99 = .ok (.iconst 1, 1) := by decide +kernel
theorem dX8_findMinds_100 : decode cX8_findMinds 100 = .ok (.iadd, 1) := by decide +kernel
theorem dX8_findMinds_101 : decode cX8_findMinds 101 = .ok (.putfield 190, 3) := by decide +kernel
theorem dX8_findMinds_104 : decode cX8_findMinds 104 = .ok (.aload_n 0, 1) := by decide +kernel
theorem dX8_findMinds_105 : decode cX8_findMinds 105 = .ok (.dup, 1) := by decide +kernel
theorem dX8_findMinds_106 : decode cX8_findMinds 106 = .ok (.getfield 193, 3) := by decide +kernel
theorem dX8_findMinds_109 : decode cX8_findMinds 109 = .ok (.iload_n 2, 1) := by decide +kernel
theorem dX8_findMinds_110 : decode cX8_findMinds 110 = .ok (.iand, 1) := by decide +kernel
theorem dX8_findMinds_111 : decode cX8_findMinds 111 = .ok (.putfield 193, 3) := by decide +kernel
theorem dX8_findMinds_114 : decode cX8_findMinds 114 = .ok (.aload_n 0, 1) := by decide +kernel
theorem dX8_findMinds_115 : decode cX8_findMinds 115 = .ok (.dup, 1) := by decide +kernel
theorem dX8_findMinds_116 : decode cX8_findMinds 116 = .ok (.getfield 196, 3) := by decide +kernel
theorem dX8_findMinds_119 : decode cX8_findMinds 119 = .ok (.iload_n 2, 1) := by decide +kernel
theorem dX8_findMinds_120 : decode cX8_findMinds 120 = .ok (.ior, 1) := by decide +kernel
theorem dX8_findMinds_121 : decode cX8_findMinds 121 = .ok (.putfield 196, 3) := by decide +kernel
theorem dX8_findMinds_124 : decode cX8_findMinds 124 = .ok (.iinc 1 1, 3) := by decide +kernel
theorem dX8_findMinds_127 : decode cX8_findMinds 127 = .ok (.goto (-109), 3) := by decide +kernel
theorem dX8_findMinds_130 : decode cX8_findMinds 130 = .ok (.return_, 1) := by decide +kernel
theorem dX8_minds_0 : decode cX8_minds 0 = .ok (.aload_n 0, 1) := by decide +kernel
theorem dX8_minds_1 : decode cX8_minds 1 = .ok (.iconst 0, 1) := by decide +kernel
theorem dX8_minds_2 : decode cX8_minds 2 = .ok (.putfield 53, 3) := by decide +kernel
theorem dX8_minds_5 : decode cX8_minds 5 = .ok (.iload_n 1, 1) := by decide +kernel
theorem dX8_minds_6 : decode cX8_minds 6 = .ok (.i2l, 1) := by decide +kernel
theorem dX8_minds_7 : decode cX8_minds 7 = .ok (.lconst 0, 1) := by decide +kernel
theorem dX8_minds_8 : decode cX8_minds 8 = .ok (.ldc2_w 151, 3) := by decide +kernel
theorem dX8_minds_11 : decode cX8_minds 11 = .ok (.invokestatic 60, 3) := by decide +kernel
theorem dX8_minds_14 : decode cX8_minds 14 = .ok (.ifCond .ne 6, 3) := by decide +kernel
theorem dX8_minds_17 : decode cX8_minds 17 = .ok (.bipush (-2), 2) := by decide +kernel
theorem dX8_minds_19 : decode cX8_minds 19 = .ok (.ireturn, 1) := by decide +kernel
theorem dX8_minds_20 : decode cX8_minds 20 = .ok (.aload_n 0, 1) := by decide +kernel
theorem dX8_minds_21 : decode cX8_minds 21 = .ok (.invokevirtual 199, 3) := by decide +kernel
theorem dX8_minds_24 : decode cX8_minds 24 = .ok (.iload_n 1, 1) := by decide +kernel
theorem dX8_minds_25 : decode cX8_minds 25 = .ok (.ifCond .ne 8, 3) := by decide +kernel
theorem dX8_minds_28 : decode cX8_minds 28 = .ok (.aload_n 0, 1) := by decide +kernel
theorem dX8_minds_29 : decode cX8_minds 29 = .ok (.getfield 190, 3) := by decide +kernel
theorem dX8_minds_32 : decode cX8_minds 32 = .ok (.ireturn, 1) := by decide +kernel
theorem dX8_minds_33 : decode cX8_minds 33 = .ok (.aload_n 0, 1) := by decide +kernel
theorem dX8_minds_34 : decode cX8_minds 34 = .ok (.getfield 190, 3) := by decide +kernel
theorem dX8_minds_37 : decode cX8_minds 37 = .ok (.ifCond .ne 8, 3) := by decide +kernel
theorem dX8_minds_40 : decode cX8_minds 40 = .ok (.bipush (-9), 2) := by decide +kernel
theorem dX8_minds_42 : decode cX8_minds 42 = .ok (.goto 24, 3) := by decide +kernel
theorem dX8_minds_45 : decode cX8_minds 45 = .ok (.iload_n 1, 1) := by decide +kernel
theorem dX8_minds_46 : decode cX8_minds 46 = .ok (.iconst 1, 1) := by decide +kernel
theorem dX8_minds_47 : decode cX8_minds 47 = .ok (.if_icmp .ne 10, 3) := by decide +kernel
theorem dX8_minds_50 : decode cX8_minds 50 = .ok (.aload_n 0, 1) := by decide +kernel
theorem dX8_minds_51 : decode cX8_minds 51 = .ok (.getfield 193, 3) := by decide +kernel
theorem dX8_minds_54 : decode cX8_minds 54 = .ok (.goto 12, 3) := by decide +kernel
theorem dX8_minds_57 : decode cX8_minds 57 = .ok (.bipush 63, 2) := by decide +kernel
theorem dX8_minds_59 : decode cX8_minds 59 = .ok (.aload_n 0, 1) := by decide +kernel
theorem dX8_minds_60 : decode cX8_minds 60 = .ok (.getfield 196, 3) := by decide +kernel
theorem dX8_minds_63 : decode cX8_minds 63 = .ok (.iconst (-1), 1) := by decide +kernel
theorem dX8_minds_64 : decode cX8_minds 64 = .ok (.ixor, 1) := by decide +kernel
theorem dX8_minds_65 : decode cX8_minds 65 = .ok (.iand, 1) := by decide +kernel
theorem dX8_minds_66 : decode cX8_minds 66 = .ok (.ireturn, 1) := by decide +kernel
theorem dX8_pays_0 : decode cX8_pays 0 = .ok (.iload_n 0, 1) := by decide +kernel
theorem dX8_pays_1 : decode cX8_pays 1 = .ok (.iconst 3, 1) := by decide +kernel
theorem dX8_pays_2 : decode cX8_pays 2 = .ok (.if_icmp .ne 11, 3) := by decide +kernel
theorem dX8_pays_5 : decode cX8_pays 5 = .ok (.iload_n 1, 1) := by decide +kernel
theorem dX8_pays_6 : decode cX8_pays 6 = .ok (.iconst 3, 1) := by decide +kernel
theorem dX8_pays_7 : decode cX8_pays 7 = .ok (.if_icmp .ne 6, 3) := by decide +kernel
theorem dX8_pays_10 : decode cX8_pays 10 = .ok (.bipush 6, 2) := by decide +kernel
theorem dX8_pays_12 : decode cX8_pays 12 = .ok (.ireturn, 1) := by decide +kernel
theorem dX8_pays_13 : decode cX8_pays 13 = .ok (.iload_n 0, 1) := by decide +kernel
theorem dX8_pays_14 : decode cX8_pays 14 = .ok (.iload_n 1, 1) := by decide +kernel
theorem dX8_pays_15 : decode cX8_pays 15 = .ok (.if_icmp .gt 9, 3) := by decide +kernel
theorem dX8_pays_18 : decode cX8_pays 18 = .ok (.iconst 3, 1) := by decide +kernel
theorem dX8_pays_19 : decode cX8_pays 19 = .ok (.iload_n 0, 1) := by decide +kernel
theorem dX8_pays_20 : decode cX8_pays 20 = .ok (.iadd, 1) := by decide +kernel
theorem dX8_pays_21 : decode cX8_pays 21 = .ok (.goto 6, 3) := by decide +kernel
theorem dX8_pays_24 : decode cX8_pays 24 = .ok (.iconst 1, 1) := by decide +kernel
theorem dX8_pays_25 : decode cX8_pays 25 = .ok (.iload_n 1, 1) := by decide +kernel
theorem dX8_pays_26 : decode cX8_pays 26 = .ok (.iadd, 1) := by decide +kernel
theorem dX8_pays_27 : decode cX8_pays 27 = .ok (.ireturn, 1) := by decide +kernel
theorem dX8_findRests_0 : decode cX8_findRests 0 = .ok (.aload_n 0, 1) := by decide +kernel
theorem dX8_findRests_1 : decode cX8_findRests 1 = .ok (.iconst 0, 1) := by decide +kernel
theorem dX8_findRests_2 : decode cX8_findRests 2 = .ok (.putfield 202, 3) := by decide +kernel
theorem dX8_findRests_5 : decode cX8_findRests 5 = .ok (.aload_n 0, 1) := by decide +kernel
theorem dX8_findRests_6 : decode cX8_findRests 6 = .ok (.bipush (-9), 2) := by decide +kernel
theorem dX8_findRests_8 : decode cX8_findRests 8 = .ok (.putfield 205, 3) := by decide +kernel
theorem dX8_findRests_11 : decode cX8_findRests 11 = .ok (.iconst 0, 1) := by decide +kernel
theorem dX8_findRests_12 : decode cX8_findRests 12 = .ok (.istore_n 1, 1) := by decide +kernel
theorem dX8_findRests_13 : decode cX8_findRests 13 = .ok (.iload_n 1, 1) := by decide +kernel
theorem dX8_findRests_14 : decode cX8_findRests 14 = .ok (.iconst 4, 1) := by decide +kernel
theorem dX8_findRests_15 : decode cX8_findRests 15 = .ok (.if_icmp .ge 123, 3) := by decide +kernel
theorem dX8_findRests_18 : decode cX8_findRests 18 = .ok (.iconst 0, 1) := by decide +kernel
theorem dX8_findRests_19 : decode cX8_findRests 19 = .ok (.istore_n 2, 1) := by decide +kernel
theorem dX8_findRests_20 : decode cX8_findRests 20 = .ok (.iload_n 2, 1) := by decide +kernel
theorem dX8_findRests_21 : decode cX8_findRests 21 = .ok (.iconst 4, 1) := by decide +kernel
theorem dX8_findRests_22 : decode cX8_findRests 22 = .ok (.if_icmp .ge 110, 3) := by decide +kernel
theorem dX8_findRests_25 : decode cX8_findRests 25 = .ok (.iconst 1, 1) := by decide +kernel
theorem dX8_findRests_26 : decode cX8_findRests 26 = .ok (.istore_n 3, 1) := by decide +kernel
theorem dX8_findRests_27 : decode cX8_findRests 27 = .ok (.iconst 0, 1) := by decide +kernel
theorem dX8_findRests_28 : decode cX8_findRests 28 = .ok (.istore 4, 2) := by decide +kernel
theorem dX8_findRests_30 : decode cX8_findRests 30 = .ok (.iload 4, 2) := by decide +kernel
theorem dX8_findRests_32 : decode cX8_findRests 32 = .ok (.iconst 4, 1) := by decide +kernel
theorem dX8_findRests_33 : decode cX8_findRests 33 = .ok (.if_icmp .ge 47, 3) := by decide +kernel
theorem dX8_findRests_36 : decode cX8_findRests 36 = .ok (.iload_n 3, 1) := by decide +kernel
theorem dX8_findRests_37 : decode cX8_findRests 37 = .ok (.ifCond .eq 35, 3) := by decide +kernel
theorem dX8_findRests_40 : decode cX8_findRests 40 = .ok (.iload 4, 2) := by decide +kernel
theorem dX8_findRests_42 : decode cX8_findRests 42 = .ok (.iload_n 2, 1) := by decide +kernel
theorem dX8_findRests_43 : decode cX8_findRests 43 = .ok (.invokestatic 208, 3) := by decide +kernel
theorem dX8_findRests_46 : decode cX8_findRests 46 = .ok (.iload_n 1, 1) := by decide +kernel
theorem dX8_findRests_47 : decode cX8_findRests 47 = .ok (.iload_n 2, 1) := by decide +kernel
theorem dX8_findRests_48 : decode cX8_findRests 48 = .ok (.invokestatic 208, 3) := by decide +kernel
theorem dX8_findRests_51 : decode cX8_findRests 51 = .ok (.if_icmp .lt 21, 3) := by decide +kernel
theorem dX8_findRests_54 : decode cX8_findRests 54 = .ok (.iload 4, 2) := by decide +kernel
theorem dX8_findRests_56 : decode cX8_findRests 56 = .ok (.iload_n 1, 1) := by decide +kernel
theorem dX8_findRests_57 : decode cX8_findRests 57 = .ok (.invokestatic 208, 3) := by decide +kernel
theorem dX8_findRests_60 : decode cX8_findRests 60 = .ok (.iload_n 2, 1) := by decide +kernel
theorem dX8_findRests_61 : decode cX8_findRests 61 = .ok (.iload_n 1, 1) := by decide +kernel
theorem dX8_findRests_62 : decode cX8_findRests 62 = .ok (.invokestatic 208, 3) := by decide +kernel
theorem dX8_findRests_65 : decode cX8_findRests 65 = .ok (.if_icmp .lt 7, 3) := by decide +kernel
theorem dX8_findRests_68 : decode cX8_findRests 68 = .ok (.iconst 1, 1) := by decide +kernel
theorem dX8_findRests_69 : decode cX8_findRests 69 = .ok (.goto 4, 3) := by decide +kernel
theorem dX8_findRests_72 : decode cX8_findRests 72 = .ok (.iconst 0, 1) := by decide +kernel
theorem dX8_findRests_73 : decode cX8_findRests 73 = .ok (.istore_n 3, 1) := by decide +kernel
theorem dX8_findRests_74 : decode cX8_findRests 74 = .ok (.iinc 4 1, 3) := by decide +kernel
theorem dX8_findRests_77 : decode cX8_findRests 77 = .ok (.goto (-47), 3) := by decide +kernel
theorem dX8_findRests_80 : decode cX8_findRests 80 = .ok (.aload_n 0, 1) := by decide +kernel
theorem dX8_findRests_81 : decode cX8_findRests 81 = .ok (.iload_n 3, 1) := by decide +kernel
theorem dX8_findRests_82 : decode cX8_findRests 82 = .ok (.ifCond .eq 19, 3) := by decide +kernel
theorem dX8_findRests_85 : decode cX8_findRests 85 = .ok (.aload_n 0, 1) := by decide +kernel
theorem dX8_findRests_86 : decode cX8_findRests 86 = .ok (.getfield 202, 3) := by decide +kernel
theorem dX8_findRests_89 : decode cX8_findRests 89 = .ok (.ifCond .ne 12, 3) := by decide +kernel
theorem dX8_findRests_92 : decode cX8_findRests 92 = .ok (.bipush 10, 2) := by decide +kernel
theorem dX8_findRests_94 : decode cX8_findRests 94 = .ok (.iload_n 1, 1) := by decide +kernel
theorem dX8_findRests_95 : decode cX8_findRests 95 = .ok (.imul, 1) := by decide +kernel
theorem dX8_findRests_96 : decode cX8_findRests 96 = .ok (.iload_n 2, 1) := by decide +kernel
theorem dX8_findRests_97 : decode cX8_findRests 97 = .ok (.iadd, 1) := by decide +kernel
theorem dX8_findRests_98 : decode cX8_findRests 98 = .ok (.goto 7, 3) := by decide +kernel
theorem dX8_findRests_101 : decode cX8_findRests 101 = .ok (.aload_n 0, 1) := by decide +kernel
theorem dX8_findRests_102 : decode cX8_findRests 102 = .ok (.getfield 205, 3) := by decide +kernel
theorem dX8_findRests_105 : decode cX8_findRests 105 = .ok (.putfield 205, 3) := by decide +kernel
theorem dX8_findRests_108 : decode cX8_findRests 108 = .ok (.aload_n 0, 1) := by decide +kernel
theorem dX8_findRests_109 : decode cX8_findRests 109 = .ok (.dup, 1) := by decide +kernel
theorem dX8_findRests_110 : decode cX8_findRests 110 = .ok (.getfield 202, 3) := by decide +kernel
theorem dX8_findRests_113 : decode cX8_findRests 113 = .ok (.iload_n 3, 1) := by decide +kernel
theorem dX8_findRests_114 : decode cX8_findRests 114 = .ok (.ifCond .eq 7, 3) := by decide +kernel
theorem dX8_findRests_117 : decode cX8_findRests 117 = .ok (.iconst 1, 1) := by decide +kernel
theorem dX8_findRests_118 : decode cX8_findRests 118 = .ok (.goto 4, 3) := by decide +kernel
theorem dX8_findRests_121 : decode cX8_findRests 121 = .ok (.iconst 0, 1) := by decide +kernel
theorem dX8_findRests_122 : decode cX8_findRests 122 = .ok (.iadd, 1) := by decide +kernel
theorem dX8_findRests_123 : decode cX8_findRests 123 = .ok (.putfield 202, 3) := by decide +kernel
theorem dX8_findRests_126 : decode cX8_findRests 126 = .ok (.iinc 2 1, 3) := by decide +kernel
theorem dX8_findRests_129 : decode cX8_findRests 129 = .ok (.goto (-109), 3) := by decide +kernel
theorem dX8_findRests_132 : decode cX8_findRests 132 = .ok (.iinc 1 1, 3) := by decide +kernel
theorem dX8_findRests_135 : decode cX8_findRests 135 = .ok (.goto (-122), 3) := by decide +kernel
theorem dX8_findRests_138 : decode cX8_findRests 138 = .ok (.return_, 1) := by decide +kernel
theorem dX8_rests_0 : decode cX8_rests 0 = .ok (.aload_n 0, 1) := by decide +kernel
theorem dX8_rests_1 : decode cX8_rests 1 = .ok (.iconst 0, 1) := by decide +kernel
theorem dX8_rests_2 : decode cX8_rests 2 = .ok (.putfield 53, 3) := by decide +kernel
theorem dX8_rests_5 : decode cX8_rests 5 = .ok (.iload_n 1, 1) := by decide +kernel
theorem dX8_rests_6 : decode cX8_rests 6 = .ok (.i2l, 1) := by decide +kernel
theorem dX8_rests_7 : decode cX8_rests 7 = .ok (.lconst 0, 1) := by decide +kernel
theorem dX8_rests_8 : decode cX8_rests 8 = .ok (.lconst 1, 1) := by decide +kernel
theorem dX8_rests_9 : decode cX8_rests 9 = .ok (.invokestatic 60, 3) := by decide +kernel
theorem dX8_rests_12 : decode cX8_rests 12 = .ok (.ifCond .ne 6, 3) := by decide +kernel
theorem dX8_rests_15 : decode cX8_rests 15 = .ok (.bipush (-2), 2) := by decide +kernel
theorem dX8_rests_17 : decode cX8_rests 17 = .ok (.ireturn, 1) := by decide +kernel
theorem dX8_rests_18 : decode cX8_rests 18 = .ok (.aload_n 0, 1) := by decide +kernel
theorem dX8_rests_19 : decode cX8_rests 19 = .ok (.invokevirtual 211, 3) := by decide +kernel
theorem dX8_rests_22 : decode cX8_rests 22 = .ok (.iload_n 1, 1) := by decide +kernel
theorem dX8_rests_23 : decode cX8_rests 23 = .ok (.ifCond .ne 10, 3) := by decide +kernel
theorem dX8_rests_26 : decode cX8_rests 26 = .ok (.aload_n 0, 1) := by decide +kernel
theorem dX8_rests_27 : decode cX8_rests 27 = .ok (.getfield 202, 3) := by decide +kernel
theorem dX8_rests_30 : decode cX8_rests 30 = .ok (.goto 7, 3) := by decide +kernel
theorem dX8_rests_33 : decode cX8_rests 33 = .ok (.aload_n 0, 1) := by decide +kernel
theorem dX8_rests_34 : decode cX8_rests 34 = .ok (.getfield 205, 3) := by decide +kernel
theorem dX8_rests_37 : decode cX8_rests 37 = .ok (.ireturn, 1) := by decide +kernel
theorem dX8_deaf_0 : decode cX8_deaf 0 = .ok (.aload_n 0, 1) := by decide +kernel
theorem dX8_deaf_1 : decode cX8_deaf 1 = .ok (.iconst 0, 1) := by decide +kernel
theorem dX8_deaf_2 : decode cX8_deaf 2 = .ok (.putfield 53, 3) := by decide +kernel
theorem dX8_deaf_5 : decode cX8_deaf 5 = .ok (.aload_n 0, 1) := by decide +kernel
theorem dX8_deaf_6 : decode cX8_deaf 6 = .ok (.iload_n 1, 1) := by decide +kernel
theorem dX8_deaf_7 : decode cX8_deaf 7 = .ok (.invokevirtual 127, 3) := by decide +kernel
theorem dX8_deaf_10 : decode cX8_deaf 10 = .ok (.ifCond .ne 10, 3) := by decide +kernel
theorem dX8_deaf_13 : decode cX8_deaf 13 = .ok (.iload_n 2, 1) := by decide +kernel
theorem dX8_deaf_14 : decode cX8_deaf 14 = .ok (.invokestatic 148, 3) := by decide +kernel
theorem dX8_deaf_17 : decode cX8_deaf 17 = .ok (.ifCond .eq 5, 3) := by decide +kernel
theorem dX8_deaf_20 : decode cX8_deaf 20 = .ok (.iconst (-1), 1) := by decide +kernel
theorem dX8_deaf_21 : decode cX8_deaf 21 = .ok (.ireturn, 1) := by decide +kernel
theorem dX8_deaf_22 : decode cX8_deaf 22 = .ok (.iload_n 3, 1) := by decide +kernel
theorem dX8_deaf_23 : decode cX8_deaf 23 = .ok (.i2l, 1) := by decide +kernel
theorem dX8_deaf_24 : decode cX8_deaf 24 = .ok (.lconst 1, 1) := by decide +kernel
theorem dX8_deaf_25 : decode cX8_deaf 25 = .ok (.ldc2_w 151, 3) := by decide +kernel
theorem dX8_deaf_28 : decode cX8_deaf 28 = .ok (.invokestatic 60, 3) := by decide +kernel
theorem dX8_deaf_31 : decode cX8_deaf 31 = .ok (.ifCond .eq 16, 3) := by decide +kernel
theorem dX8_deaf_34 : decode cX8_deaf 34 = .ok (.iload 4, 2) := by decide +kernel
theorem dX8_deaf_36 : decode cX8_deaf 36 = .ok (.i2l, 1) := by decide +kernel
theorem dX8_deaf_37 : decode cX8_deaf 37 = .ok (.lconst 0, 1) := by decide +kernel
theorem dX8_deaf_38 : decode cX8_deaf 38 = .ok (.ldc2_w 214, 3) := by decide +kernel
theorem dX8_deaf_41 : decode cX8_deaf 41 = .ok (.invokestatic 60, 3) := by decide +kernel
theorem dX8_deaf_44 : decode cX8_deaf 44 = .ok (.ifCond .ne 6, 3) := by decide +kernel
theorem dX8_deaf_47 : decode cX8_deaf 47 = .ok (.bipush (-2), 2) := by decide +kernel
theorem dX8_deaf_49 : decode cX8_deaf 49 = .ok (.ireturn, 1) := by decide +kernel
theorem dX8_deaf_50 : decode cX8_deaf 50 = .ok (.aload_n 0, 1) := by decide +kernel
theorem dX8_deaf_51 : decode cX8_deaf 51 = .ok (.aload_n 0, 1) := by decide +kernel
theorem dX8_deaf_52 : decode cX8_deaf 52 = .ok (.getfield 28, 3) := by decide +kernel
theorem dX8_deaf_55 : decode cX8_deaf 55 = .ok (.iload_n 1, 1) := by decide +kernel
theorem dX8_deaf_56 : decode cX8_deaf 56 = .ok (.iload_n 2, 1) := by decide +kernel
theorem dX8_deaf_57 : decode cX8_deaf 57 = .ok (.iload_n 3, 1) := by decide +kernel
theorem dX8_deaf_58 : decode cX8_deaf 58 = .ok (.invokevirtual 135, 3) := by decide +kernel
theorem dX8_deaf_61 : decode cX8_deaf 61 = .ok (.invokestatic 145, 3) := by decide +kernel
theorem dX8_deaf_64 : decode cX8_deaf 64 = .ok (.istore 6, 2) := by decide +kernel
theorem dX8_deaf_66 : decode cX8_deaf 66 = .ok (.iload 4, 2) := by decide +kernel
theorem dX8_deaf_68 : decode cX8_deaf 68 = .ok (.iload 6, 2) := by decide +kernel
theorem dX8_deaf_70 : decode cX8_deaf 70 = .ok (.invokestatic 162, 3) := by decide +kernel
theorem dX8_deaf_73 : decode cX8_deaf 73 = .ok (.bipush 10, 2) := by decide +kernel
theorem dX8_deaf_75 : decode cX8_deaf 75 = .ok (.iload 6, 2) := by decide +kernel
theorem dX8_deaf_77 : decode cX8_deaf 77 = .ok (.invokestatic 162, 3) := by decide +kernel
theorem dX8_deaf_80 : decode cX8_deaf 80 = .ok (.iload 5, 2) := by decide +kernel
theorem dX8_deaf_82 : decode cX8_deaf 82 = .ok (.invokestatic 186, 3) := by decide +kernel
theorem dX8_deaf_85 : decode cX8_deaf 85 = .ok (.ireturn, 1) := by decide +kernel
theorem dX8_seed_0 : decode cX8_seed 0 = .ok (.aload_n 0, 1) := by decide +kernel
theorem dX8_seed_1 : decode cX8_seed 1 = .ok (.iconst 0, 1) := by decide +kernel
theorem dX8_seed_2 : decode cX8_seed 2 = .ok (.putfield 53, 3) := by decide +kernel
theorem dX8_seed_5 : decode cX8_seed 5 = .ok (.aload_n 0, 1) := by decide +kernel
theorem dX8_seed_6 : decode cX8_seed 6 = .ok (.getfield 216, 3) := by decide +kernel
theorem dX8_seed_9 : decode cX8_seed 9 = .ok (.lstore_n 3, 1) := by decide +kernel
theorem dX8_seed_10 : decode cX8_seed 10 = .ok (.aload_n 0, 1) := by decide +kernel
theorem dX8_seed_11 : decode cX8_seed 11 = .ok (.lload_n 1, 1) := by decide +kernel
theorem dX8_seed_12 : decode cX8_seed 12 = .ok (.putfield 216, 3) := by decide +kernel
theorem dX8_seed_15 : decode cX8_seed 15 = .ok (.lload_n 3, 1) := by decide +kernel
theorem dX8_seed_16 : decode cX8_seed 16 = .ok (.lreturn, 1) := by decide +kernel
theorem dX8_evenings_0 : decode cX8_evenings 0 = .ok (.aload_n 0, 1) := by decide +kernel
theorem dX8_evenings_1 : decode cX8_evenings 1 = .ok (.iconst 0, 1) := by decide +kernel
theorem dX8_evenings_2 : decode cX8_evenings 2 = .ok (.putfield 53, 3) := by decide +kernel
theorem dX8_evenings_5 : decode cX8_evenings 5 = .ok (.iload_n 1, 1) := by decide +kernel
theorem dX8_evenings_6 : decode cX8_evenings 6 = .ok (.i2l, 1) := by decide +kernel
theorem dX8_evenings_7 : decode cX8_evenings 7 = .ok (.lconst 1, 1) := by decide +kernel
theorem dX8_evenings_8 : decode cX8_evenings 8 = .ok (.ldc2_w 220, 3) := by decide +kernel
theorem dX8_evenings_11 : decode cX8_evenings 11 = .ok (.invokestatic 60, 3) := by decide +kernel
theorem dX8_evenings_14 : decode cX8_evenings 14 = .ok (.ifCond .ne 6, 3) := by decide +kernel
theorem dX8_evenings_17 : decode cX8_evenings 17 = .ok (.bipush (-2), 2) := by decide +kernel
theorem dX8_evenings_19 : decode cX8_evenings 19 = .ok (.ireturn, 1) := by decide +kernel
theorem dX8_evenings_20 : decode cX8_evenings 20 = .ok (.aload_n 0, 1) := by decide +kernel
theorem dX8_evenings_21 : decode cX8_evenings 21 = .ok (.invokevirtual 159, 3) := by decide +kernel
theorem dX8_evenings_24 : decode cX8_evenings 24 = .ok (.iconst 0, 1) := by decide +kernel
theorem dX8_evenings_25 : decode cX8_evenings 25 = .ok (.istore_n 2, 1) := by decide +kernel
theorem dX8_evenings_26 : decode cX8_evenings 26 = .ok (.iload_n 2, 1) := by decide +kernel
theorem dX8_evenings_27 : decode cX8_evenings 27 = .ok (.iload_n 1, 1) := by decide +kernel
theorem dX8_evenings_28 : decode cX8_evenings 28 = .ok (.if_icmp .ge 80, 3) := by decide +kernel
theorem dX8_evenings_31 : decode cX8_evenings 31 = .ok (.aload_n 0, 1) := by decide +kernel
theorem dX8_evenings_32 : decode cX8_evenings 32 = .ok (.aload_n 0, 1) := by decide +kernel
theorem dX8_evenings_33 : decode cX8_evenings 33 = .ok (.getfield 216, 3) := by decide +kernel
theorem dX8_evenings_36 : decode cX8_evenings 36 = .ok (.ldc2_w 222, 3) := by decide +kernel
theorem dX8_evenings_39 : decode cX8_evenings 39 = .ok (.lmul, 1) := by decide +kernel
theorem dX8_evenings_40 : decode cX8_evenings 40 = .ok (.ldc2_w 224, 3) := by decide +kernel
theorem dX8_evenings_43 : decode cX8_evenings 43 = .ok (.ladd, 1) := by decide +kernel
theorem dX8_evenings_44 : decode cX8_evenings 44 = .ok (.putfield 216, 3) := by decide +kernel
theorem dX8_evenings_47 : decode cX8_evenings 47 = .ok (.aload_n 0, 1) := by decide +kernel
theorem dX8_evenings_48 : decode cX8_evenings 48 = .ok (.getfield 216, 3) := by decide +kernel
theorem dX8_evenings_51 : decode cX8_evenings 51 = .ok (.bipush 33, 2) := by decide +kernel
theorem dX8_evenings_53 : decode cX8_evenings 53 = .ok (.lushr, 1) := by decide +kernel
theorem dX8_evenings_54 : decode cX8_evenings 54 = .ok (.ldc2_w 226, 3) := by decide +kernel
theorem dX8_evenings_57 : decode cX8_evenings 57 = .ok (.lrem, 1) := by decide +kernel
theorem dX8_evenings_58 : decode cX8_evenings 58 = .ok (.l2i, 1) := by decide +kernel
theorem dX8_evenings_59 : decode cX8_evenings 59 = .ok (.istore_n 3, 1) := by decide +kernel
theorem dX8_evenings_60 : decode cX8_evenings 60 = .ok (.aload_n 0, 1) := by decide +kernel
theorem dX8_evenings_61 : decode cX8_evenings 61 = .ok (.iload_n 3, 1) := by decide +kernel
theorem dX8_evenings_62 : decode cX8_evenings 62 = .ok (.bipush 12, 2) := by decide +kernel
theorem dX8_evenings_64 : decode cX8_evenings 64 = .ok (.idiv, 1) := by decide +kernel
theorem dX8_evenings_65 : decode cX8_evenings 65 = .ok (.invokevirtual 127, 3) := by decide +kernel
theorem dX8_evenings_68 : decode cX8_evenings 68 = .ok (.ifCond .ne 34, 3) := by decide +kernel
theorem dX8_evenings_71 : decode cX8_evenings 71 = .ok (.aload_n 0, 1) := by decide +kernel
theorem dX8_evenings_72 : decode cX8_evenings 72 = .ok (.aload_n 0, 1) := by decide +kernel
theorem dX8_evenings_73 : decode cX8_evenings 73 = .ok (.getfield 31, 3) := by decide +kernel
theorem dX8_evenings_76 : decode cX8_evenings 76 = .ok (.iload_n 3, 1) := by decide +kernel
theorem dX8_evenings_77 : decode cX8_evenings 77 = .ok (.bipush 12, 2) := by decide +kernel
theorem dX8_evenings_79 : decode cX8_evenings 79 = .ok (.idiv, 1) := by decide +kernel
theorem dX8_evenings_80 : decode cX8_evenings 80 = .ok (.iload_n 3, 1) := by decide +kernel
theorem dX8_evenings_81 : decode cX8_evenings 81 = .ok (.bipush 6, 2) := by decide +kernel
theorem dX8_evenings_83 : decode cX8_evenings 83 = .ok (.irem, 1) := by decide +kernel
theorem dX8_evenings_84 : decode cX8_evenings 84 = .ok (.iload_n 3, 1) := by decide +kernel
theorem dX8_evenings_85 : decode cX8_evenings 85 = .ok (.bipush 12, 2) := by decide +kernel
theorem dX8_evenings_87 : decode cX8_evenings 87 = .ok (.irem, 1) := by decide +kernel
theorem dX8_evenings_88 : decode cX8_evenings 88 = .ok (.bipush 6, 2) := by decide +kernel
theorem dX8_evenings_90 : decode cX8_evenings 90 = .ok (.if_icmp .ge 7, 3) := by decide +kernel
theorem dX8_evenings_93 : decode cX8_evenings 93 = .ok (.iconst 1, 1) := by decide +kernel
theorem dX8_evenings_94 : decode cX8_evenings 94 = .ok (.goto 4, 3) := by decide +kernel
theorem dX8_evenings_97 : decode cX8_evenings 97 = .ok (.iconst 2, 1) := by decide +kernel
theorem dX8_evenings_98 : decode cX8_evenings 98 = .ok (.invokevirtual 156, 3) := by decide +kernel
theorem dX8_evenings_101 : decode cX8_evenings 101 = .ok (.pop, 1) := by decide +kernel
theorem dX8_evenings_102 : decode cX8_evenings 102 = .ok (.iinc 2 1, 3) := by decide +kernel
theorem dX8_evenings_105 : decode cX8_evenings 105 = .ok (.goto (-79), 3) := by decide +kernel
theorem dX8_evenings_108 : decode cX8_evenings 108 = .ok (.aload_n 0, 1) := by decide +kernel
theorem dX8_evenings_109 : decode cX8_evenings 109 = .ok (.aload_n 0, 1) := by decide +kernel
theorem dX8_evenings_110 : decode cX8_evenings 110 = .ok (.getfield 31, 3) := by decide +kernel
theorem dX8_evenings_113 : decode cX8_evenings 113 = .ok (.invokevirtual 120, 3) := by decide +kernel
theorem dX8_evenings_116 : decode cX8_evenings 116 = .ok (.aload_n 0, 1) := by decide +kernel
theorem dX8_evenings_117 : decode cX8_evenings 117 = .ok (.aload_n 0, 1) := by decide +kernel
theorem dX8_evenings_118 : decode cX8_evenings 118 = .ok (.getfield 28, 3) := by decide +kernel
theorem dX8_evenings_121 : decode cX8_evenings 121 = .ok (.invokevirtual 120, 3) := by decide +kernel
theorem dX8_evenings_124 : decode cX8_evenings 124 = .ok (.isub, 1) := by decide +kernel
theorem dX8_evenings_125 : decode cX8_evenings 125 = .ok (.ireturn, 1) := by decide +kernel
theorem dX8_keep_0 : decode cX8_keep 0 = .ok (.aload_n 0, 1) := by decide +kernel
theorem dX8_keep_1 : decode cX8_keep 1 = .ok (.iconst 0, 1) := by decide +kernel
theorem dX8_keep_2 : decode cX8_keep 2 = .ok (.putfield 53, 3) := by decide +kernel
theorem dX8_keep_5 : decode cX8_keep 5 = .ok (.iload_n 1, 1) := by decide +kernel
theorem dX8_keep_6 : decode cX8_keep 6 = .ok (.i2l, 1) := by decide +kernel
theorem dX8_keep_7 : decode cX8_keep 7 = .ok (.lconst 0, 1) := by decide +kernel
theorem dX8_keep_8 : decode cX8_keep 8 = .ok (.lconst 1, 1) := by decide +kernel
theorem dX8_keep_9 : decode cX8_keep 9 = .ok (.invokestatic 60, 3) := by decide +kernel
theorem dX8_keep_12 : decode cX8_keep 12 = .ok (.ifCond .ne 5, 3) := by decide +kernel
theorem dX8_keep_15 : decode cX8_keep 15 = .ok (.iconst (-1), 1) := by decide +kernel
theorem dX8_keep_16 : decode cX8_keep 16 = .ok (.ireturn, 1) := by decide +kernel
theorem dX8_keep_17 : decode cX8_keep 17 = .ok (.aload_n 0, 1) := by decide +kernel
theorem dX8_keep_18 : decode cX8_keep 18 = .ok (.getfield 40, 3) := by decide +kernel
theorem dX8_keep_21 : decode cX8_keep 21 = .ok (.iload_n 1, 1) := by decide +kernel
theorem dX8_keep_22 : decode cX8_keep 22 = .ok (.iconst 1, 1) := by decide +kernel
theorem dX8_keep_23 : decode cX8_keep 23 = .ok (.bastore, 1) := by decide +kernel
theorem dX8_keep_24 : decode cX8_keep 24 = .ok (.iconst 0, 1) := by decide +kernel
theorem dX8_keep_25 : decode cX8_keep 25 = .ok (.istore_n 2, 1) := by decide +kernel
theorem dX8_keep_26 : decode cX8_keep 26 = .ok (.iload_n 2, 1) := by decide +kernel
theorem dX8_keep_27 : decode cX8_keep 27 = .ok (.bipush 15, 2) := by decide +kernel
theorem dX8_keep_29 : decode cX8_keep 29 = .ok (.if_icmp .ge 26, 3) := by decide +kernel
theorem dX8_keep_32 : decode cX8_keep 32 = .ok (.aload_n 0, 1) := by decide +kernel
theorem dX8_keep_33 : decode cX8_keep 33 = .ok (.getfield 37, 3) := by decide +kernel
theorem dX8_keep_36 : decode cX8_keep 36 = .ok (.bipush 15, 2) := by decide +kernel
theorem dX8_keep_38 : decode cX8_keep 38 = .ok (.iload_n 1, 1) := by decide +kernel
theorem dX8_keep_39 : decode cX8_keep 39 = .ok (.imul, 1) := by decide +kernel
theorem dX8_keep_40 : decode cX8_keep 40 = .ok (.iload_n 2, 1) := by decide +kernel
theorem dX8_keep_41 : decode cX8_keep 41 = .ok (.iadd, 1) := by decide +kernel
theorem dX8_keep_42 : decode cX8_keep 42 = .ok (.aload_n 0, 1) := by decide +kernel
theorem dX8_keep_43 : decode cX8_keep 43 = .ok (.getfield 28, 3) := by decide +kernel
theorem dX8_keep_46 : decode cX8_keep 46 = .ok (.iload_n 2, 1) := by decide +kernel
theorem dX8_keep_47 : decode cX8_keep 47 = .ok (.iaload, 1) := by decide +kernel
theorem dX8_keep_48 : decode cX8_keep 48 = .ok (.iastore, 1) := by decide +kernel
theorem dX8_keep_49 : decode cX8_keep 49 = .ok (.iinc 2 1, 3) := by decide +kernel
theorem dX8_keep_52 : decode cX8_keep 52 = .ok (.goto (-26), 3) := by decide +kernel
theorem dX8_keep_55 : decode cX8_keep 55 = .ok (.aload_n 0, 1) := by decide +kernel
theorem dX8_keep_56 : decode cX8_keep 56 = .ok (.aload_n 0, 1) := by decide +kernel
theorem dX8_keep_57 : decode cX8_keep 57 = .ok (.getfield 28, 3) := by decide +kernel
theorem dX8_keep_60 : decode cX8_keep 60 = .ok (.invokevirtual 120, 3) := by decide +kernel
theorem dX8_keep_63 : decode cX8_keep 63 = .ok (.ireturn, 1) := by decide +kernel
theorem dX8_again_0 : decode cX8_again 0 = .ok (.aload_n 0, 1) := by decide +kernel
theorem dX8_again_1 : decode cX8_again 1 = .ok (.iconst 0, 1) := by decide +kernel
theorem dX8_again_2 : decode cX8_again 2 = .ok (.putfield 53, 3) := by decide +kernel
theorem dX8_again_5 : decode cX8_again 5 = .ok (.iload_n 1, 1) := by decide +kernel
theorem dX8_again_6 : decode cX8_again 6 = .ok (.i2l, 1) := by decide +kernel
theorem dX8_again_7 : decode cX8_again 7 = .ok (.lconst 0, 1) := by decide +kernel
theorem dX8_again_8 : decode cX8_again 8 = .ok (.lconst 1, 1) := by decide +kernel
theorem dX8_again_9 : decode cX8_again 9 = .ok (.invokestatic 60, 3) := by decide +kernel
theorem dX8_again_12 : decode cX8_again 12 = .ok (.ifCond .ne 5, 3) := by decide +kernel
theorem dX8_again_15 : decode cX8_again 15 = .ok (.iconst (-1), 1) := by decide +kernel
theorem dX8_again_16 : decode cX8_again 16 = .ok (.ireturn, 1) := by decide +kernel
theorem dX8_again_17 : decode cX8_again 17 = .ok (.aload_n 0, 1) := by decide +kernel
theorem dX8_again_18 : decode cX8_again 18 = .ok (.getfield 40, 3) := by decide +kernel
theorem dX8_again_21 : decode cX8_again 21 = .ok (.iload_n 1, 1) := by decide +kernel
theorem dX8_again_22 : decode cX8_again 22 = .ok (.baload, 1) := by decide +kernel
theorem dX8_again_23 : decode cX8_again 23 = .ok (.ifCond .ne 6, 3) := by decide +kernel
theorem dX8_again_26 : decode cX8_again 26 = .ok (.bipush (-3), 2) := by decide +kernel
theorem dX8_again_28 : decode cX8_again 28 = .ok (.ireturn, 1) := by decide +kernel
theorem dX8_again_29 : decode cX8_again 29 = .ok (.iconst 0, 1) := by decide +kernel
theorem dX8_again_30 : decode cX8_again 30 = .ok (.istore_n 2, 1) := by decide +kernel
theorem dX8_again_31 : decode cX8_again 31 = .ok (.iload_n 2, 1) := by decide +kernel
theorem dX8_again_32 : decode cX8_again 32 = .ok (.bipush 15, 2) := by decide +kernel
theorem dX8_again_34 : decode cX8_again 34 = .ok (.if_icmp .ge 26, 3) := by decide +kernel
theorem dX8_again_37 : decode cX8_again 37 = .ok (.aload_n 0, 1) := by decide +kernel
theorem dX8_again_38 : decode cX8_again 38 = .ok (.getfield 28, 3) := by decide +kernel
theorem dX8_again_41 : decode cX8_again 41 = .ok (.iload_n 2, 1) := by decide +kernel
theorem dX8_again_42 : decode cX8_again 42 = .ok (.aload_n 0, 1) := by decide +kernel
theorem dX8_again_43 : decode cX8_again 43 = .ok (.getfield 37, 3) := by decide +kernel
theorem dX8_again_46 : decode cX8_again 46 = .ok (.bipush 15, 2) := by decide +kernel
theorem dX8_again_48 : decode cX8_again 48 = .ok (.iload_n 1, 1) := by decide +kernel
theorem dX8_again_49 : decode cX8_again 49 = .ok (.imul, 1) := by decide +kernel
theorem dX8_again_50 : decode cX8_again 50 = .ok (.iload_n 2, 1) := by decide +kernel
theorem dX8_again_51 : decode cX8_again 51 = .ok (.iadd, 1) := by decide +kernel
theorem dX8_again_52 : decode cX8_again 52 = .ok (.iaload, 1) := by decide +kernel
theorem dX8_again_53 : decode cX8_again 53 = .ok (.iastore, 1) := by decide +kernel
theorem dX8_again_54 : decode cX8_again 54 = .ok (.iinc 2 1, 3) := by decide +kernel
theorem dX8_again_57 : decode cX8_again 57 = .ok (.goto (-26), 3) := by decide +kernel
theorem dX8_again_60 : decode cX8_again 60 = .ok (.aload_n 0, 1) := by decide +kernel
theorem dX8_again_61 : decode cX8_again 61 = .ok (.iconst 0, 1) := by decide +kernel
theorem dX8_again_62 : decode cX8_again 62 = .ok (.putfield 101, 3) := by decide +kernel
theorem dX8_again_65 : decode cX8_again 65 = .ok (.aload_n 0, 1) := by decide +kernel
theorem dX8_again_66 : decode cX8_again 66 = .ok (.aload_n 0, 1) := by decide +kernel
theorem dX8_again_67 : decode cX8_again 67 = .ok (.getfield 28, 3) := by decide +kernel
theorem dX8_again_70 : decode cX8_again 70 = .ok (.invokevirtual 120, 3) := by decide +kernel
theorem dX8_again_73 : decode cX8_again 73 = .ok (.ireturn, 1) := by decide +kernel
