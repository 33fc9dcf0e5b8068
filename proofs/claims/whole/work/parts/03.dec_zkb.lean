theorem dX7_init_0 : decode cX7_init 0 = .ok (.aload_n 0, 1) := by decide +kernel
theorem dX7_init_1 : decode cX7_init 1 = .ok (.invokespecial 1, 3) := by decide +kernel
theorem dX7_init_4 : decode cX7_init 4 = .ok (.new 7, 3) := by decide +kernel
theorem dX7_init_7 : decode cX7_init 7 = .ok (.dup, 1) := by decide +kernel
theorem dX7_init_8 : decode cX7_init 8 = .ok (.invokespecial 9, 3) := by decide +kernel
theorem dX7_init_11 : decode cX7_init 11 = .ok (.astore_n 1, 1) := by decide +kernel
theorem dX7_init_12 : decode cX7_init 12 = .ok (.aload_n 0, 1) := by decide +kernel
theorem dX7_init_13 : decode cX7_init 13 = .ok (.new 10, 3) := by decide +kernel
theorem dX7_init_16 : decode cX7_init 16 = .ok (.dup, 1) := by decide +kernel
theorem dX7_init_17 : decode cX7_init 17 = .ok (.invokespecial 12, 3) := by decide +kernel
theorem dX7_init_20 : decode cX7_init 20 = .ok (.putfield 13, 3) := by decide +kernel
theorem dX7_init_23 : decode cX7_init 23 = .ok (.aload_n 0, 1) := by decide +kernel
theorem dX7_init_24 : decode cX7_init 24 = .ok (.aload_n 1, 1) := by decide +kernel
theorem dX7_init_25 : decode cX7_init 25 = .ok (.putfield 19, 3) := by decide +kernel
theorem dX7_init_28 : decode cX7_init 28 = .ok (.aload_n 0, 1) := by decide +kernel
theorem dX7_init_29 : decode cX7_init 29 = .ok (.new 23, 3) := by decide +kernel
theorem dX7_init_32 : decode cX7_init 32 = .ok (.dup, 1) := by decide +kernel
theorem dX7_init_33 : decode cX7_init 33 = .ok (.aload_n 1, 1) := by decide +kernel
theorem dX7_init_34 : decode cX7_init 34 = .ok (.invokespecial 25, 3) := by decide +kernel
theorem dX7_init_37 : decode cX7_init 37 = .ok (.putfield 28, 3) := by decide +kernel
theorem dX7_init_40 : decode cX7_init 40 = .ok (.aload_n 0, 1) := by decide +kernel
theorem dX7_init_41 : decode cX7_init 41 = .ok (.new 23, 3) := by decide +kernel
theorem dX7_init_44 : decode cX7_init 44 = .ok (.dup, 1) := by decide +kernel
theorem dX7_init_45 : decode cX7_init 45 = .ok (.aload_n 1, 1) := by decide +kernel
theorem dX7_init_46 : decode cX7_init 46 = .ok (.invokespecial 25, 3) := by decide +kernel
theorem dX7_init_49 : decode cX7_init 49 = .ok (.putfield 32, 3) := by decide +kernel
theorem dX7_init_52 : decode cX7_init 52 = .ok (.aload_n 0, 1) := by decide +kernel
theorem dX7_init_53 : decode cX7_init 53 = .ok (.new 35, 3) := by decide +kernel
theorem dX7_init_56 : decode cX7_init 56 = .ok (.dup, 1) := by decide +kernel
theorem dX7_init_57 : decode cX7_init 57 = .ok (.invokespecial 37, 3) := by decide +kernel
theorem dX7_init_60 : decode cX7_init 60 = .ok (.putfield 38, 3) := by decide +kernel
theorem dX7_init_63 : decode cX7_init 63 = .ok (.aload_n 0, 1) := by decide +kernel
theorem dX7_init_64 : decode cX7_init 64 = .ok (.new 42, 3) := by decide +kernel
theorem dX7_init_67 : decode cX7_init 67 = .ok (.dup, 1) := by decide +kernel
theorem dX7_init_68 : decode cX7_init 68 = .ok (.iconst 2, 1) := by decide +kernel
theorem dX7_init_69 : decode cX7_init 69 = .ok (.invokespecial 44, 3) := by decide +kernel
theorem dX7_init_72 : decode cX7_init 72 = .ok (.putfield 47, 3) := by decide +kernel
theorem dX7_init_75 : decode cX7_init 75 = .ok (.aload_n 0, 1) := by decide +kernel
theorem dX7_init_76 : decode cX7_init 76 = .ok (.new 51, 3) := by decide +kernel
theorem dX7_init_79 : decode cX7_init 79 = .ok (.dup, 1) := by decide +kernel
theorem dX7_init_80 : decode cX7_init 80 = .ok (.invokespecial 53, 3) := by decide +kernel
theorem dX7_init_83 : decode cX7_init 83 = .ok (.putfield 54, 3) := by decide +kernel
theorem dX7_init_86 : decode cX7_init 86 = .ok (.return_, 1) := by decide +kernel
theorem dX7_write_0 : decode cX7_write 0 = .ok (.iload_n 1, 1) := by decide +kernel
theorem dX7_write_1 : decode cX7_write 1 = .ok (.ifCond .lt 10, 3) := by decide +kernel
theorem dX7_write_4 : decode cX7_write 4 = .ok (.iload_n 1, 1) := by decide +kernel
theorem dX7_write_5 : decode cX7_write 5 = .ok (.sipush 255, 3) := by decide +kernel
theorem dX7_write_8 : decode cX7_write 8 = .ok (.if_icmp .le 6, 3) := by decide +kernel
theorem dX7_write_11 : decode cX7_write 11 = .ok (.bipush (-2), 2) := by decide +kernel
theorem dX7_write_13 : decode cX7_write 13 = .ok (.ireturn, 1) := by decide +kernel
theorem dX7_write_14 : decode cX7_write 14 = .ok (.aload_n 0, 1) := by decide +kernel
theorem dX7_write_15 : decode cX7_write 15 = .ok (.getfield 13, 3) := by decide +kernel
theorem dX7_write_18 : decode cX7_write 18 = .ok (.iload_n 1, 1) := by decide +kernel
theorem dX7_write_19 : decode cX7_write 19 = .ok (.invokevirtual 58, 3) := by decide +kernel
theorem dX7_write_22 : decode cX7_write 22 = .ok (.ireturn, 1) := by decide +kernel
theorem dX7_wipe_0 : decode cX7_wipe 0 = .ok (.aload_n 0, 1) := by decide +kernel
theorem dX7_wipe_1 : decode cX7_wipe 1 = .ok (.getfield 13, 3) := by decide +kernel
theorem dX7_wipe_4 : decode cX7_wipe 4 = .ok (.invokevirtual 62, 3) := by decide +kernel
theorem dX7_wipe_7 : decode cX7_wipe 7 = .ok (.ireturn, 1) := by decide +kernel
theorem dX7_fault_0 : decode cX7_fault 0 = .ok (.aload_n 0, 1) := by decide +kernel
theorem dX7_fault_1 : decode cX7_fault 1 = .ok (.getfield 13, 3) := by decide +kernel
theorem dX7_fault_4 : decode cX7_fault 4 = .ok (.invokevirtual 66, 3) := by decide +kernel
theorem dX7_fault_7 : decode cX7_fault 7 = .ok (.ireturn, 1) := by decide +kernel
theorem dX7_table_0 : decode cX7_table 0 = .ok (.aload_n 0, 1) := by decide +kernel
theorem dX7_table_1 : decode cX7_table 1 = .ok (.getfield 13, 3) := by decide +kernel
theorem dX7_table_4 : decode cX7_table 4 = .ok (.invokevirtual 66, 3) := by decide +kernel
theorem dX7_table_7 : decode cX7_table 7 = .ok (.bipush (-9), 2) := by decide +kernel
theorem dX7_table_9 : decode cX7_table 9 = .ok (.if_icmp .eq 6, 3) := by decide +kernel
theorem dX7_table_12 : decode cX7_table 12 = .ok (.bipush (-3), 2) := by decide +kernel
theorem dX7_table_14 : decode cX7_table 14 = .ok (.ireturn, 1) := by decide +kernel
theorem dX7_table_15 : decode cX7_table 15 = .ok (.aload_n 0, 1) := by decide +kernel
theorem dX7_table_16 : decode cX7_table 16 = .ok (.getfield 19, 3) := by decide +kernel
theorem dX7_table_19 : decode cX7_table 19 = .ok (.invokevirtual 69, 3) := by decide +kernel
theorem dX7_table_22 : decode cX7_table 22 = .ok (.aload_n 0, 1) := by decide +kernel
theorem dX7_table_23 : decode cX7_table 23 = .ok (.getfield 28, 3) := by decide +kernel
theorem dX7_table_26 : decode cX7_table 26 = .ok (.invokevirtual 71, 3) := by decide +kernel
theorem dX7_table_29 : decode cX7_table 29 = .ok (.iconst 1, 1) := by decide +kernel
theorem dX7_table_30 : decode cX7_table 30 = .ok (.istore_n 1, 1) := by decide +kernel
theorem dX7_table_31 : decode cX7_table 31 = .ok (.iload_n 1, 1) := by decide +kernel
theorem dX7_table_32 : decode cX7_table 32 = .ok (.aload_n 0, 1) := by decide +kernel
theorem dX7_table_33 : decode cX7_table 33 = .ok (.getfield 13, 3) := by decide +kernel
theorem dX7_table_36 : decode cX7_table 36 = .ok (.invokevirtual 72, 3) := by decide +kernel
theorem dX7_table_39 : decode cX7_table 39 = .ok (.if_icmp .ge 67, 3) := by decide +kernel
theorem dX7_table_42 : decode cX7_table 42 = .ok (.aload_n 0, 1) := by decide +kernel
theorem dX7_table_43 : decode cX7_table 43 = .ok (.getfield 13, 3) := by decide +kernel
theorem dX7_table_46 : decode cX7_table 46 = .ok (.iload_n 1, 1) := by decide +kernel
theorem dX7_table_47 : decode cX7_table 47 = .ok (.invokevirtual 75, 3) := by decide +kernel
theorem dX7_table_50 : decode cX7_table 50 = .ok (.bipush 80, 2) := by decide +kernel
theorem dX7_table_52 : decode cX7_table 52 = .ok (.if_icmp .ne 11, 3) := by decide +kernel
theorem dX7_table_55 : decode cX7_table 55 = .ok (.aload_n 0, 1) := by decide +kernel
theorem dX7_table_56 : decode cX7_table 56 = .ok (.iload_n 1, 1) := by decide +kernel
theorem dX7_table_57 : decode cX7_table 57 = .ok (.invokevirtual 78, 3) := by decide +kernel
theorem dX7_table_60 : decode cX7_table 60 = .ok (.goto 40, 3) := by decide +kernel
theorem dX7_table_63 : decode cX7_table 63 = .ok (.aload_n 0, 1) := by decide +kernel
theorem dX7_table_64 : decode cX7_table 64 = .ok (.getfield 19, 3) := by decide +kernel
theorem dX7_table_67 : decode cX7_table 67 = .ok (.aload_n 0, 1) := by decide +kernel
theorem dX7_table_68 : decode cX7_table 68 = .ok (.getfield 13, 3) := by decide +kernel
theorem dX7_table_71 : decode cX7_table 71 = .ok (.iload_n 1, 1) := by decide +kernel
theorem dX7_table_72 : decode cX7_table 72 = .ok (.iconst 1, 1) := by decide +kernel
theorem dX7_table_73 : decode cX7_table 73 = .ok (.iadd, 1) := by decide +kernel
theorem dX7_table_74 : decode cX7_table 74 = .ok (.invokevirtual 81, 3) := by decide +kernel
theorem dX7_table_77 : decode cX7_table 77 = .ok (.aload_n 0, 1) := by decide +kernel
theorem dX7_table_78 : decode cX7_table 78 = .ok (.getfield 13, 3) := by decide +kernel
theorem dX7_table_81 : decode cX7_table 81 = .ok (.iload_n 1, 1) := by decide +kernel
theorem dX7_table_82 : decode cX7_table 82 = .ok (.iconst 2, 1) := by decide +kernel
theorem dX7_table_83 : decode cX7_table 83 = .ok (.iadd, 1) := by decide +kernel
theorem dX7_table_84 : decode cX7_table 84 = .ok (.invokevirtual 81, 3) := by decide +kernel
theorem dX7_table_87 : decode cX7_table 87 = .ok (.aload_n 0, 1) := by decide +kernel
theorem dX7_table_88 : decode cX7_table 88 = .ok (.getfield 13, 3) := by decide +kernel
theorem dX7_table_91 : decode cX7_table 91 = .ok (.iload_n 1, 1) := by decide +kernel
theorem dX7_table_92 : decode cX7_table 92 = .ok (.iconst 3, 1) := by decide +kernel
theorem dX7_table_93 : decode cX7_table 93 = .ok (.iadd, 1) := by decide +kernel
theorem dX7_table_94 : decode cX7_table 94 = .ok (.invokevirtual 81, 3) := by decide +kernel
theorem dX7_table_97 : decode cX7_table 97 = .ok (.invokevirtual 84, 3) := by decide +kernel
theorem dX7_table_100 : decode cX7_table 100 = .ok (.iinc 1 4, 3) := by decide +kernel
theorem dX7_table_103 : decode cX7_table 103 = .ok (.goto (-72), 3) := by decide +kernel
theorem dX7_table_106 : decode cX7_table 106 = .ok (.aload_n 0, 1) := by decide +kernel
theorem dX7_table_107 : decode cX7_table 107 = .ok (.getfield 38, 3) := by decide +kernel
theorem dX7_table_110 : decode cX7_table 110 = .ok (.invokevirtual 88, 3) := by decide +kernel
theorem dX7_table_113 : decode cX7_table 113 = .ok (.aload_n 0, 1) := by decide +kernel
theorem dX7_table_114 : decode cX7_table 114 = .ok (.iconst 0, 1) := by decide +kernel
theorem dX7_table_115 : decode cX7_table 115 = .ok (.putfield 89, 3) := by decide +kernel
theorem dX7_table_118 : decode cX7_table 118 = .ok (.bipush 10, 2) := by decide +kernel
theorem dX7_table_120 : decode cX7_table 120 = .ok (.aload_n 0, 1) := by decide +kernel
theorem dX7_table_121 : decode cX7_table 121 = .ok (.getfield 19, 3) := by decide +kernel
theorem dX7_table_124 : decode cX7_table 124 = .ok (.invokevirtual 93, 3) := by decide +kernel
theorem dX7_table_127 : decode cX7_table 127 = .ok (.imul, 1) := by decide +kernel
theorem dX7_table_128 : decode cX7_table 128 = .ok (.aload_n 0, 1) := by decide +kernel
theorem dX7_table_129 : decode cX7_table 129 = .ok (.getfield 19, 3) := by decide +kernel
theorem dX7_table_132 : decode cX7_table 132 = .ok (.invokevirtual 96, 3) := by decide +kernel
theorem dX7_table_135 : decode cX7_table 135 = .ok (.iadd, 1) := by decide +kernel
theorem dX7_table_136 : decode cX7_table 136 = .ok (.ireturn, 1) := by decide +kernel
theorem dX7_about_0 : decode cX7_about 0 = .ok (.iload_n 1, 1) := by decide +kernel
theorem dX7_about_1 : decode cX7_about 1 = .ok (.tableswitch 99 0 6 #[43, 51, 59, 67, 75, 83, 91], 43) := by decide +kernel
theorem dX7_about_44 : decode cX7_about 44 = .ok (.aload_n 0, 1) := by decide +kernel
theorem dX7_about_45 : decode cX7_about 45 = .ok (.getfield 19, 3) := by decide +kernel
theorem dX7_about_48 : decode cX7_about 48 = .ok (.invokevirtual 93, 3) := by decide +kernel
theorem dX7_about_51 : decode cX7_about 51 = .ok (.ireturn, 1) := by decide +kernel
theorem dX7_about_52 : decode cX7_about 52 = .ok (.aload_n 0, 1) := by decide +kernel
theorem dX7_about_53 : decode cX7_about 53 = .ok (.getfield 19, 3) := by decide +kernel
theorem dX7_about_56 : decode cX7_about 56 = .ok (.invokevirtual 96, 3) := by decide +kernel
theorem dX7_about_59 : decode cX7_about 59 = .ok (.ireturn, 1) := by decide +kernel
theorem dX7_about_60 : decode cX7_about 60 = .ok (.aload_n 0, 1) := by decide +kernel
theorem dX7_about_61 : decode cX7_about 61 = .ok (.getfield 28, 3) := by decide +kernel
theorem dX7_about_64 : decode cX7_about 64 = .ok (.invokevirtual 99, 3) := by decide +kernel
theorem dX7_about_67 : decode cX7_about 67 = .ok (.ireturn, 1) := by decide +kernel
theorem dX7_about_68 : decode cX7_about 68 = .ok (.aload_n 0, 1) := by decide +kernel
theorem dX7_about_69 : decode cX7_about 69 = .ok (.getfield 28, 3) := by decide +kernel
theorem dX7_about_72 : decode cX7_about 72 = .ok (.invokevirtual 102, 3) := by decide +kernel
theorem dX7_about_75 : decode cX7_about 75 = .ok (.ireturn, 1) := by decide +kernel
theorem dX7_about_76 : decode cX7_about 76 = .ok (.aload_n 0, 1) := by decide +kernel
theorem dX7_about_77 : decode cX7_about 77 = .ok (.getfield 38, 3) := by decide +kernel
theorem dX7_about_80 : decode cX7_about 80 = .ok (.invokevirtual 105, 3) := by decide +kernel
theorem dX7_about_83 : decode cX7_about 83 = .ok (.ireturn, 1) := by decide +kernel
theorem dX7_about_84 : decode cX7_about 84 = .ok (.aload_n 0, 1) := by decide +kernel
theorem dX7_about_85 : decode cX7_about 85 = .ok (.getfield 54, 3) := by decide +kernel
theorem dX7_about_88 : decode cX7_about 88 = .ok (.invokevirtual 108, 3) := by decide +kernel
theorem dX7_about_91 : decode cX7_about 91 = .ok (.ireturn, 1) := by decide +kernel
theorem dX7_about_92 : decode cX7_about 92 = .ok (.aload_n 0, 1) := by decide +kernel
theorem dX7_about_93 : decode cX7_about 93 = .ok (.getfield 13, 3) := by decide +kernel
theorem dX7_about_96 : decode cX7_about 96 = .ok (.invokevirtual 72, 3) := by decide +kernel
theorem dX7_about_99 : decode cX7_about 99 = .ok (.ireturn, 1) := by decide +kernel
theorem dX7_about_100 : decode cX7_about 100 = .ok (.bipush (-2), 2) := by decide +kernel
theorem dX7_about_102 : decode cX7_about 102 = .ok (.ireturn, 1) := by decide +kernel
theorem dX7_person_0 : decode cX7_person 0 = .ok (.aload_n 0, 1) := by decide +kernel
theorem dX7_person_1 : decode cX7_person 1 = .ok (.iload_n 1, 1) := by decide +kernel
theorem dX7_person_2 : decode cX7_person 2 = .ok (.invokevirtual 109, 3) := by decide +kernel
theorem dX7_person_5 : decode cX7_person 5 = .ok (.ifCond .ne 5, 3) := by decide +kernel
theorem dX7_person_8 : decode cX7_person 8 = .ok (.iconst (-1), 1) := by decide +kernel
theorem dX7_person_9 : decode cX7_person 9 = .ok (.ireturn, 1) := by decide +kernel
theorem dX7_person_10 : decode cX7_person 10 = .ok (.iload_n 2, 1) := by decide +kernel
theorem dX7_person_11 : decode cX7_person 11 = .ok (.tableswitch 78 0 4 #[33, 42, 51, 60, 69], 33) := by decide +kernel
theorem dX7_person_44 : decode cX7_person 44 = .ok (.aload_n 0, 1) := by decide +kernel
theorem dX7_person_45 : decode cX7_person 45 = .ok (.getfield 19, 3) := by decide +kernel
theorem dX7_person_48 : decode cX7_person 48 = .ok (.iload_n 1, 1) := by decide +kernel
theorem dX7_person_49 : decode cX7_person 49 = .ok (.invokevirtual 113, 3) := by decide +kernel
theorem dX7_person_52 : decode cX7_person 52 = .ok (.ireturn, 1) := by decide +kernel
theorem dX7_person_53 : decode cX7_person 53 = .ok (.aload_n 0, 1) := by decide +kernel
theorem dX7_person_54 : decode cX7_person 54 = .ok (.getfield 28, 3) := by decide +kernel
theorem dX7_person_57 : decode cX7_person 57 = .ok (.iload_n 1, 1) := by decide +kernel
theorem dX7_person_58 : decode cX7_person 58 = .ok (.invokevirtual 116, 3) := by decide +kernel
theorem dX7_person_61 : decode cX7_person 61 = .ok (.ireturn, 1) := by decide +kernel
theorem dX7_person_62 : decode cX7_person 62 = .ok (.aload_n 0, 1) := by decide +kernel
theorem dX7_person_63 : decode cX7_person 63 = .ok (.getfield 28, 3) := by decide +kernel
theorem dX7_person_66 : decode cX7_person 66 = .ok (.iload_n 1, 1) := by decide +kernel
theorem dX7_person_67 : decode cX7_person 67 = .ok (.invokevirtual 119, 3) := by decide +kernel
theorem dX7_person_70 : decode cX7_person 70 = .ok (.ireturn, 1) := by decide +kernel
theorem dX7_person_71 : decode cX7_person 71 = .ok (.aload_n 0, 1) := by decide +kernel
theorem dX7_person_72 : decode cX7_person 72 = .ok (.getfield 28, 3) := by decide +kernel
theorem dX7_person_75 : decode cX7_person 75 = .ok (.iload_n 1, 1) := by decide +kernel
theorem dX7_person_76 : decode cX7_person 76 = .ok (.invokevirtual 122, 3) := by decide +kernel
theorem dX7_person_79 : decode cX7_person 79 = .ok (.ireturn, 1) := by decide +kernel
theorem dX7_person_80 : decode cX7_person 80 = .ok (.aload_n 0, 1) := by decide +kernel
theorem dX7_person_81 : decode cX7_person 81 = .ok (.getfield 28, 3) := by decide +kernel
theorem dX7_person_84 : decode cX7_person 84 = .ok (.iload_n 1, 1) := by decide +kernel
theorem dX7_person_85 : decode cX7_person 85 = .ok (.invokevirtual 125, 3) := by decide +kernel
theorem dX7_person_88 : decode cX7_person 88 = .ok (.ireturn, 1) := by decide +kernel
theorem dX7_person_89 : decode cX7_person 89 = .ok (.bipush (-2), 2) := by decide +kernel
theorem dX7_person_91 : decode cX7_person 91 = .ok (.ireturn, 1) := by decide +kernel
theorem dX7_far_0 : decode cX7_far 0 = .ok (.aload_n 0, 1) := by decide +kernel
theorem dX7_far_1 : decode cX7_far 1 = .ok (.iload_n 1, 1) := by decide +kernel
theorem dX7_far_2 : decode cX7_far 2 = .ok (.invokevirtual 109, 3) := by decide +kernel
theorem dX7_far_5 : decode cX7_far 5 = .ok (.ifCond .eq 11, 3) := by decide +kernel
theorem dX7_far_8 : decode cX7_far 8 = .ok (.aload_n 0, 1) := by decide +kernel
theorem dX7_far_9 : decode cX7_far 9 = .ok (.iload_n 2, 1) := by decide +kernel
theorem dX7_far_10 : decode cX7_far 10 = .ok (.invokevirtual 109, 3) := by decide +kernel
theorem dX7_far_13 : decode cX7_far 13 = .ok (.ifCond .ne 5, 3) := by decide +kernel
theorem dX7_far_16 : decode cX7_far 16 = .ok (.iconst (-1), 1) := by decide +kernel
theorem dX7_far_17 : decode cX7_far 17 = .ok (.ireturn, 1) := by decide +kernel
theorem dX7_far_18 : decode cX7_far 18 = .ok (.aload_n 0, 1) := by decide +kernel
theorem dX7_far_19 : decode cX7_far 19 = .ok (.getfield 28, 3) := by decide +kernel
theorem dX7_far_22 : decode cX7_far 22 = .ok (.iload_n 1, 1) := by decide +kernel
theorem dX7_far_23 : decode cX7_far 23 = .ok (.iload_n 2, 1) := by decide +kernel
theorem dX7_far_24 : decode cX7_far 24 = .ok (.invokevirtual 128, 3) := by decide +kernel
theorem dX7_far_27 : decode cX7_far 27 = .ok (.ireturn, 1) := by decide +kernel
theorem dX7_say_0 : decode cX7_say 0 = .ok (.aload_n 0, 1) := by decide +kernel
theorem dX7_say_1 : decode cX7_say 1 = .ok (.iload_n 1, 1) := by decide +kernel
theorem dX7_say_2 : decode cX7_say 2 = .ok (.iload_n 2, 1) := by decide +kernel
theorem dX7_say_3 : decode cX7_say 3 = .ok (.iload_n 3, 1) := by decide +kernel
theorem dX7_say_4 : decode cX7_say 4 = .ok (.invokevirtual 132, 3) := by decide +kernel
theorem dX7_say_7 : decode cX7_say 7 = .ok (.istore 4, 2) := by decide +kernel
theorem dX7_say_9 : decode cX7_say 9 = .ok (.iload 4, 2) := by decide +kernel
theorem dX7_say_11 : decode cX7_say 11 = .ok (.ifCond .eq 6, 3) := by decide +kernel
theorem dX7_say_14 : decode cX7_say 14 = .ok (.iload 4, 2) := by decide +kernel
theorem dX7_say_16 : decode cX7_say 16 = .ok (.ireturn, 1) := by decide +kernel
theorem dX7_say_17 : decode cX7_say 17 = .ok (.aload_n 0, 1) := by decide +kernel
theorem dX7_say_18 : decode cX7_say 18 = .ok (.getfield 38, 3) := by decide +kernel
theorem dX7_say_21 : decode cX7_say 21 = .ok (.aload_n 0, 1) := by decide +kernel
theorem dX7_say_22 : decode cX7_say 22 = .ok (.getfield 28, 3) := by decide +kernel
theorem dX7_say_25 : decode cX7_say 25 = .ok (.invokevirtual 136, 3) := by decide +kernel
theorem dX7_say_28 : decode cX7_say 28 = .ok (.aload_n 0, 1) := by decide +kernel
theorem dX7_say_29 : decode cX7_say 29 = .ok (.getfield 28, 3) := by decide +kernel
theorem dX7_say_32 : decode cX7_say 32 = .ok (.iload_n 1, 1) := by decide +kernel
theorem dX7_say_33 : decode cX7_say 33 = .ok (.iload_n 2, 1) := by decide +kernel
theorem dX7_say_34 : decode cX7_say 34 = .ok (.iload_n 3, 1) := by decide +kernel
theorem dX7_say_35 : decode cX7_say 35 = .ok (.invokevirtual 140, 3) := by decide +kernel
theorem dX7_say_38 : decode cX7_say 38 = .ok (.ireturn, 1) := by decide +kernel
theorem dX7_teach_0 : decode cX7_teach 0 = .ok (.aload_n 0, 1) := by decide +kernel
theorem dX7_teach_1 : decode cX7_teach 1 = .ok (.iload_n 1, 1) := by decide +kernel
theorem dX7_teach_2 : decode cX7_teach 2 = .ok (.invokevirtual 109, 3) := by decide +kernel
theorem dX7_teach_5 : decode cX7_teach 5 = .ok (.ifCond .eq 10, 3) := by decide +kernel
theorem dX7_teach_8 : decode cX7_teach 8 = .ok (.iload_n 2, 1) := by decide +kernel
theorem dX7_teach_9 : decode cX7_teach 9 = .ok (.invokestatic 143, 3) := by decide +kernel
theorem dX7_teach_12 : decode cX7_teach 12 = .ok (.ifCond .ne 5, 3) := by decide +kernel
theorem dX7_teach_15 : decode cX7_teach 15 = .ok (.iconst (-1), 1) := by decide +kernel
theorem dX7_teach_16 : decode cX7_teach 16 = .ok (.ireturn, 1) := by decide +kernel
theorem dX7_teach_17 : decode cX7_teach 17 = .ok (.aload_n 0, 1) := by decide +kernel
theorem dX7_teach_18 : decode cX7_teach 18 = .ok (.getfield 28, 3) := by decide +kernel
theorem dX7_teach_21 : decode cX7_teach 21 = .ok (.iload_n 1, 1) := by decide +kernel
theorem dX7_teach_22 : decode cX7_teach 22 = .ok (.invokevirtual 116, 3) := by decide +kernel
theorem dX7_teach_25 : decode cX7_teach 25 = .ok (.iload_n 2, 1) := by decide +kernel
theorem dX7_teach_26 : decode cX7_teach 26 = .ok (.invokestatic 146, 3) := by decide +kernel
theorem dX7_teach_29 : decode cX7_teach 29 = .ok (.ifCond .eq 6, 3) := by decide +kernel
theorem dX7_teach_32 : decode cX7_teach 32 = .ok (.bipush (-3), 2) := by decide +kernel
theorem dX7_teach_34 : decode cX7_teach 34 = .ok (.ireturn, 1) := by decide +kernel
theorem dX7_teach_35 : decode cX7_teach 35 = .ok (.aload_n 0, 1) := by decide +kernel
theorem dX7_teach_36 : decode cX7_teach 36 = .ok (.getfield 38, 3) := by decide +kernel
theorem dX7_teach_39 : decode cX7_teach 39 = .ok (.aload_n 0, 1) := by decide +kernel
theorem dX7_teach_40 : decode cX7_teach 40 = .ok (.getfield 28, 3) := by decide +kernel
theorem dX7_teach_43 : decode cX7_teach 43 = .ok (.invokevirtual 136, 3) := by decide +kernel
theorem dX7_teach_46 : decode cX7_teach 46 = .ok (.aload_n 0, 1) := by decide +kernel
theorem dX7_teach_47 : decode cX7_teach 47 = .ok (.getfield 28, 3) := by decide +kernel
theorem dX7_teach_50 : decode cX7_teach 50 = .ok (.iload_n 1, 1) := by decide +kernel
theorem dX7_teach_51 : decode cX7_teach 51 = .ok (.aload_n 0, 1) := by decide +kernel
theorem dX7_teach_52 : decode cX7_teach 52 = .ok (.getfield 28, 3) := by decide +kernel
theorem dX7_teach_55 : decode cX7_teach 55 = .ok (.iload_n 1, 1) := by decide +kernel
theorem dX7_teach_56 : decode cX7_teach 56 = .ok (.invokevirtual 116, 3) := by decide +kernel
theorem dX7_teach_59 : decode cX7_teach 59 = .ok (.iconst 1, 1) := by decide +kernel
theorem dX7_teach_60 : decode cX7_teach 60 = .ok (.iload_n 2, 1) := by decide +kernel
theorem dX7_teach_61 : decode cX7_teach 61 = .ok (.ishl, 1) := by decide +kernel
theorem dX7_teach_62 : decode cX7_teach 62 = .ok (.ior, 1) := by decide +kernel
theorem dX7_teach_63 : decode cX7_teach 63 = .ok (.invokevirtual 150, 3) := by decide +kernel
theorem dX7_teach_66 : decode cX7_teach 66 = .ok (.aload_n 0, 1) := by decide +kernel
theorem dX7_teach_67 : decode cX7_teach 67 = .ok (.getfield 28, 3) := by decide +kernel
theorem dX7_teach_70 : decode cX7_teach 70 = .ok (.iload_n 1, 1) := by decide +kernel
theorem dX7_teach_71 : decode cX7_teach 71 = .ok (.invokevirtual 119, 3) := by decide +kernel
theorem dX7_teach_74 : decode cX7_teach 74 = .ok (.ireturn, 1) := by decide +kernel
theorem dX7_forget_0 : decode cX7_forget 0 = .ok (.aload_n 0, 1) := by decide +kernel
theorem dX7_forget_1 : decode cX7_forget 1 = .ok (.iload_n 1, 1) := by decide +kernel
theorem dX7_forget_2 : decode cX7_forget 2 = .ok (.invokevirtual 109, 3) := by decide +kernel
theorem dX7_forget_5 : decode cX7_forget 5 = .ok (.ifCond .eq 10, 3) := by decide +kernel
theorem dX7_forget_8 : decode cX7_forget 8 = .ok (.iload_n 2, 1) := by decide +kernel
theorem dX7_forget_9 : decode cX7_forget 9 = .ok (.invokestatic 143, 3) := by decide +kernel
theorem dX7_forget_12 : decode cX7_forget 12 = .ok (.ifCond .ne 5, 3) := by decide +kernel
theorem dX7_forget_15 : decode cX7_forget 15 = .ok (.iconst (-1), 1) := by decide +kernel
theorem dX7_forget_16 : decode cX7_forget 16 = .ok (.ireturn, 1) := by decide +kernel
theorem dX7_forget_17 : decode cX7_forget 17 = .ok (.aload_n 0, 1) := by decide +kernel
theorem dX7_forget_18 : decode cX7_forget 18 = .ok (.getfield 28, 3) := by decide +kernel
theorem dX7_forget_21 : decode cX7_forget 21 = .ok (.iload_n 1, 1) := by decide +kernel
theorem dX7_forget_22 : decode cX7_forget 22 = .ok (.invokevirtual 116, 3) := by decide +kernel
theorem dX7_forget_25 : decode cX7_forget 25 = .ok (.iload_n 2, 1) := by decide +kernel
theorem dX7_forget_26 : decode cX7_forget 26 = .ok (.invokestatic 146, 3) := by decide +kernel
theorem dX7_forget_29 : decode cX7_forget 29 = .ok (.ifCond .ne 6, 3) := by decide +kernel
theorem dX7_forget_32 : decode cX7_forget 32 = .ok (.bipush (-3), 2) := by decide +kernel
theorem dX7_forget_34 : decode cX7_forget 34 = .ok (.ireturn, 1) := by decide +kernel
theorem dX7_forget_35 : decode cX7_forget 35 = .ok (.aload_n 0, 1) := by decide +kernel
theorem dX7_forget_36 : decode cX7_forget 36 = .ok (.getfield 38, 3) := by decide +kernel
theorem dX7_forget_39 : decode cX7_forget 39 = .ok (.aload_n 0, 1) := by decide +kernel
theorem dX7_forget_40 : decode cX7_forget 40 = .ok (.getfield 28, 3) := by decide +kernel
theorem dX7_forget_43 : decode cX7_forget 43 = .ok (.invokevirtual 136, 3) := by decide +kernel
theorem dX7_forget_46 : decode cX7_forget 46 = .ok (.aload_n 0, 1) := by decide +kernel
theorem dX7_forget_47 : decode cX7_forget 47 = .ok (.getfield 28, 3) := by decide +kernel
theorem dX7_forget_50 : decode cX7_forget 50 = .ok (.iload_n 1, 1) := by decide +kernel
theorem dX7_forget_51 : decode cX7_forget 51 = .ok (.aload_n 0, 1) := by decide +kernel
theorem dX7_forget_52 : decode cX7_forget 52 = .ok (.getfield 28, 3) := by decide +kernel
theorem dX7_forget_55 : decode cX7_forget 55 = .ok (.iload_n 1, 1) := by decide +kernel
theorem dX7_forget_56 : decode cX7_forget 56 = .ok (.invokevirtual 116, 3) := by decide +kernel
theorem dX7_forget_59 : decode cX7_forget 59 = .ok (.iconst 1, 1) := by decide +kernel
theorem dX7_forget_60 : decode cX7_forget 60 = .ok (.iload_n 2, 1) := by decide +kernel
theorem dX7_forget_61 : decode cX7_forget 61 = .ok (.ishl, 1) := by decide +kernel
theorem dX7_forget_62 : decode cX7_forget 62 = .ok (.iconst (-1), 1) := by decide +kernel
theorem dX7_forget_63 : decode cX7_forget 63 = .ok (.ixor, 1) := by decide +kernel
theorem dX7_forget_64 : decode cX7_forget 64 = .ok (.iand, 1) := by decide +kernel
theorem dX7_forget_65 : decode cX7_forget 65 = .ok (.invokevirtual 150, 3) := by decide +kernel
theorem dX7_forget_68 : decode cX7_forget 68 = .ok (.aload_n 0, 1) := by decide +kernel
theorem dX7_forget_69 : decode cX7_forget 69 = .ok (.getfield 28, 3) := by decide +kernel
theorem dX7_forget_72 : decode cX7_forget 72 = .ok (.iload_n 1, 1) := by decide +kernel
theorem dX7_forget_73 : decode cX7_forget 73 = .ok (.invokevirtual 119, 3) := by decide +kernel
theorem dX7_forget_76 : decode cX7_forget 76 = .ok (.ireturn, 1) := by decide +kernel
theorem dX7_change_0 : decode cX7_change 0 = .ok (.aload_n 0, 1) := by decide +kernel
theorem dX7_change_1 : decode cX7_change 1 = .ok (.iload_n 1, 1) := by decide +kernel
theorem dX7_change_2 : decode cX7_change 2 = .ok (.invokevirtual 109, 3) := by decide +kernel
theorem dX7_change_5 : decode cX7_change 5 = .ok (.ifCond .eq 11, 3) := by decide +kernel
theorem dX7_change_8 : decode cX7_change 8 = .ok (.aload_n 0, 1) := by decide +kernel
theorem dX7_change_9 : decode cX7_change 9 = .ok (.iload_n 2, 1) := by decide +kernel
theorem dX7_change_10 : decode cX7_change 10 = .ok (.invokevirtual 109, 3) := by decide +kernel
theorem dX7_change_13 : decode cX7_change 13 = .ok (.ifCond .ne 5, 3) := by decide +kernel
theorem dX7_change_16 : decode cX7_change 16 = .ok (.iconst (-1), 1) := by decide +kernel
theorem dX7_change_17 : decode cX7_change 17 = .ok (.ireturn, 1) := by decide +kernel
theorem dX7_change_18 : decode cX7_change 18 = .ok (.iload_n 1, 1) := by decide +kernel
theorem dX7_change_19 : decode cX7_change 19 = .ok (.iload_n 2, 1) := by decide +kernel
theorem dX7_change_20 : decode cX7_change 20 = .ok (.if_icmp .ne 6, 3) := by decide +kernel
theorem dX7_change_23 : decode cX7_change 23 = .ok (.bipush (-2), 2) := by decide +kernel
theorem dX7_change_25 : decode cX7_change 25 = .ok (.ireturn, 1) := by decide +kernel
theorem dX7_change_26 : decode cX7_change 26 = .ok (.aload_n 0, 1) := by decide +kernel
theorem dX7_change_27 : decode cX7_change 27 = .ok (.getfield 38, 3) := by decide +kernel
theorem dX7_change_30 : decode cX7_change 30 = .ok (.aload_n 0, 1) := by decide +kernel
theorem dX7_change_31 : decode cX7_change 31 = .ok (.getfield 28, 3) := by decide +kernel
theorem dX7_change_34 : decode cX7_change 34 = .ok (.invokevirtual 136, 3) := by decide +kernel
theorem dX7_change_37 : decode cX7_change 37 = .ok (.aload_n 0, 1) := by decide +kernel
theorem dX7_change_38 : decode cX7_change 38 = .ok (.getfield 28, 3) := by decide +kernel
theorem dX7_change_41 : decode cX7_change 41 = .ok (.iload_n 1, 1) := by decide +kernel
theorem dX7_change_42 : decode cX7_change 42 = .ok (.invokevirtual 122, 3) := by decide +kernel
theorem dX7_change_45 : decode cX7_change 45 = .ok (.istore_n 3, 1) := by decide +kernel
theorem dX7_change_46 : decode cX7_change 46 = .ok (.aload_n 0, 1) := by decide +kernel
theorem dX7_change_47 : decode cX7_change 47 = .ok (.getfield 28, 3) := by decide +kernel
theorem dX7_change_50 : decode cX7_change 50 = .ok (.iload_n 1, 1) := by decide +kernel
theorem dX7_change_51 : decode cX7_change 51 = .ok (.aload_n 0, 1) := by decide +kernel
theorem dX7_change_52 : decode cX7_change 52 = .ok (.getfield 28, 3) := by decide +kernel
theorem dX7_change_55 : decode cX7_change 55 = .ok (.iload_n 2, 1) := by decide +kernel
theorem dX7_change_56 : decode cX7_change 56 = .ok (.invokevirtual 122, 3) := by decide +kernel
theorem dX7_change_59 : decode cX7_change 59 = .ok (.invokevirtual 154, 3) := by decide +kernel
theorem dX7_change_62 : decode cX7_change 62 = .ok (.aload_n 0, 1) := by decide +kernel
theorem dX7_change_63 : decode cX7_change 63 = .ok (.getfield 28, 3) := by decide +kernel
theorem dX7_change_66 : decode cX7_change 66 = .ok (.iload_n 2, 1) := by decide +kernel
theorem dX7_change_67 : decode cX7_change 67 = .ok (.iload_n 3, 1) := by decide +kernel
theorem dX7_change_68 : decode cX7_change 68 = .ok (.invokevirtual 154, 3) := by decide +kernel
theorem dX7_change_71 : decode cX7_change 71 = .ok (.aload_n 0, 1) := by decide +kernel
theorem dX7_change_72 : decode cX7_change 72 = .ok (.getfield 28, 3) := by decide +kernel
theorem dX7_change_75 : decode cX7_change 75 = .ok (.iload_n 1, 1) := by decide +kernel
theorem dX7_change_76 : decode cX7_change 76 = .ok (.invokevirtual 122, 3) := by decide +kernel
theorem dX7_change_79 : decode cX7_change 79 = .ok (.ireturn, 1) := by decide +kernel
theorem dX7_undo_0 : decode cX7_undo 0 = .ok (.aload_n 0, 1) := by decide +kernel
theorem dX7_undo_1 : decode cX7_undo 1 = .ok (.getfield 38, 3) := by decide +kernel
theorem dX7_undo_4 : decode cX7_undo 4 = .ok (.invokevirtual 105, 3) := by decide +kernel
theorem dX7_undo_7 : decode cX7_undo 7 = .ok (.ifCond .ne 6, 3) := by decide +kernel
theorem dX7_undo_10 : decode cX7_undo 10 = .ok (.bipush (-3), 2) := by decide +kernel
theorem dX7_undo_12 : decode cX7_undo 12 = .ok (.ireturn, 1) := by decide +kernel
theorem dX7_undo_13 : decode cX7_undo 13 = .ok (.aload_n 0, 1) := by decide +kernel
theorem dX7_undo_14 : decode cX7_undo 14 = .ok (.getfield 38, 3) := by decide +kernel
theorem dX7_undo_17 : decode cX7_undo 17 = .ok (.aload_n 0, 1) := by decide +kernel
theorem dX7_undo_18 : decode cX7_undo 18 = .ok (.getfield 28, 3) := by decide +kernel
theorem dX7_undo_21 : decode cX7_undo 21 = .ok (.invokevirtual 157, 3) := by decide +kernel
theorem dX7_undo_24 : decode cX7_undo 24 = .ok (.ireturn, 1) := by decide +kernel
theorem dX7_hearers_0 : decode cX7_hearers 0 = .ok (.aload_n 0, 1) := by decide +kernel
theorem dX7_hearers_1 : decode cX7_hearers 1 = .ok (.iload_n 1, 1) := by decide +kernel
theorem dX7_hearers_2 : decode cX7_hearers 2 = .ok (.iconst 0, 1) := by decide +kernel
theorem dX7_hearers_3 : decode cX7_hearers 3 = .ok (.iload_n 2, 1) := by decide +kernel
theorem dX7_hearers_4 : decode cX7_hearers 4 = .ok (.invokevirtual 132, 3) := by decide +kernel
theorem dX7_hearers_7 : decode cX7_hearers 7 = .ok (.istore_n 3, 1) := by decide +kernel
theorem dX7_hearers_8 : decode cX7_hearers 8 = .ok (.iload_n 3, 1) := by decide +kernel
theorem dX7_hearers_9 : decode cX7_hearers 9 = .ok (.ifCond .eq 7, 3) := by decide +kernel
theorem dX7_hearers_12 : decode cX7_hearers 12 = .ok (.iload_n 3, 1) := by decide +kernel
theorem dX7_hearers_13 : decode cX7_hearers 13 = .ok (.goto 12, 3) := by decide +kernel
theorem dX7_hearers_16 : decode cX7_hearers 16 = .ok (.aload_n 0, 1) := by decide +kernel
theorem dX7_hearers_17 : decode cX7_hearers 17 = .ok (.getfield 28, 3) := by decide +kernel
theorem dX7_hearers_20 : decode cX7_hearers 20 = .ok (.iload_n 1, 1) := by decide +kernel
theorem dX7_hearers_21 : decode cX7_hearers 21 = .ok (.iload_n 2, 1) := by decide +kernel
theorem dX7_hearers_22 : decode cX7_hearers 22 = .ok (.invokevirtual 161, 3) := by decide +kernel
theorem dX7_hearers_25 : decode cX7_hearers 25 = .ok (.ireturn, 1) := by decide +kernel
theorem dX7_safe_0 : decode cX7_safe 0 = .ok (.aload_n 0, 1) := by decide +kernel
theorem dX7_safe_1 : decode cX7_safe 1 = .ok (.iload_n 1, 1) := by decide +kernel
theorem dX7_safe_2 : decode cX7_safe 2 = .ok (.iconst 0, 1) := by decide +kernel
theorem dX7_safe_3 : decode cX7_safe 3 = .ok (.iload_n 2, 1) := by decide +kernel
theorem dX7_safe_4 : decode cX7_safe 4 = .ok (.invokevirtual 132, 3) := by decide +kernel
theorem dX7_safe_7 : decode cX7_safe 7 = .ok (.istore_n 3, 1) := by decide +kernel
theorem dX7_safe_8 : decode cX7_safe 8 = .ok (.iload_n 3, 1) := by decide +kernel
theorem dX7_safe_9 : decode cX7_safe 9 = .ok (.ifCond .eq 5, 3) := by decide +kernel
theorem dX7_safe_12 : decode cX7_safe 12 = .ok (.iload_n 3, 1) := by decide +kernel
theorem dX7_safe_13 : decode cX7_safe 13 = .ok (.ireturn, 1) := by decide +kernel
theorem dX7_safe_14 : decode cX7_safe 14 = .ok (.aload_n 0, 1) := by decide +kernel
theorem dX7_safe_15 : decode cX7_safe 15 = .ok (.getfield 28, 3) := by decide +kernel
theorem dX7_safe_18 : decode cX7_safe 18 = .ok (.iload_n 1, 1) := by decide +kernel
theorem dX7_safe_19 : decode cX7_safe 19 = .ok (.iload_n 2, 1) := by decide +kernel
theorem dX7_safe_20 : decode cX7_safe 20 = .ok (.invokevirtual 161, 3) := by decide +kernel
theorem dX7_safe_23 : decode cX7_safe 23 = .ok (.istore 4, 2) := by decide +kernel
theorem dX7_safe_25 : decode cX7_safe 25 = .ok (.iconst 0, 1) := by decide +kernel
theorem dX7_safe_26 : decode cX7_safe 26 = .ok (.istore 5, 2) := by decide +kernel
theorem dX7_safe_28 : decode cX7_safe 28 = .ok (.iconst 0, 1) := by decide +kernel
theorem dX7_safe_29 : decode cX7_safe 29 = .ok (.istore 6, 2) := by decide +kernel
theorem dX7_safe_31 : decode cX7_safe 31 = .ok (.iload 6, 2) := by decide +kernel
theorem dX7_safe_33 : decode cX7_safe 33 = .ok (.aload_n 0, 1) := by decide +kernel
theorem dX7_safe_34 : decode cX7_safe 34 = .ok (.getfield 19, 3) := by decide +kernel
theorem dX7_safe_37 : decode cX7_safe 37 = .ok (.invokevirtual 93, 3) := by decide +kernel
theorem dX7_safe_40 : decode cX7_safe 40 = .ok (.if_icmp .ge 33, 3) := by decide +kernel
theorem dX7_safe_43 : decode cX7_safe 43 = .ok (.iload 4, 2) := by decide +kernel
theorem dX7_safe_45 : decode cX7_safe 45 = .ok (.iload 6, 2) := by decide +kernel
theorem dX7_safe_47 : decode cX7_safe 47 = .ok (.invokestatic 146, 3) := by decide +kernel
theorem dX7_safe_50 : decode cX7_safe 50 = .ok (.ifCond .eq 17, 3) := by decide +kernel
theorem dX7_safe_53 : decode cX7_safe 53 = .ok (.iload 5, 2) := by decide +kernel
theorem dX7_safe_55 : decode cX7_safe 55 = .ok (.aload_n 0, 1) := by decide +kernel
theorem dX7_safe_56 : decode cX7_safe 56 = .ok (.getfield 28, 3) := by decide +kernel
theorem dX7_safe_59 : decode cX7_safe 59 = .ok (.iload 6, 2) := by decide +kernel
theorem dX7_safe_61 : decode cX7_safe 61 = .ok (.invokevirtual 119, 3) := by decide +kernel
theorem dX7_safe_64 : decode cX7_safe 64 = .ok (.ior, 1) := by decide +kernel
theorem dX7_safe_65 : decode cX7_safe 65 = .ok (.istore 5, 2) := by decide +kernel
theorem dX7_safe_67 : decode cX7_safe 67 = .ok (.iinc 6 1, 3) := by decide +kernel
theorem dX7_safe_70 : decode cX7_safe 70 = .ok (.goto (-39), 3) := by decide +kernel
theorem dX7_safe_73 : decode cX7_safe 73 = .ok (.bipush 63, 2) := by decide +kernel
theorem dX7_safe_75 : decode cX7_safe 75 = .ok (.iload 5, 2) := by decide +kernel
theorem dX7_safe_77 : decode cX7_safe 77 = .ok (.iconst (-1), 1) := by decide +kernel
theorem dX7_safe_78 : decode cX7_safe 78 = .ok (.ixor, 1) := by decide +kernel
theorem dX7_safe_79 : decode cX7_safe 79 = .ok (.iand, 1) := by decide +kernel
theorem dX7_safe_80 : decode cX7_safe 80 = .ok (.ireturn, 1) := by decide +kernel
theorem dX7_seating_0 : decode cX7_seating 0 = .ok (.aload_n 0, 1) := by decide +kernel
theorem dX7_seating_1 : decode cX7_seating 1 = .ok (.iload_n 1, 1) := by decide +kernel
theorem dX7_seating_2 : decode cX7_seating 2 = .ok (.iload_n 2, 1) := by decide +kernel
theorem dX7_seating_3 : decode cX7_seating 3 = .ok (.iload_n 3, 1) := by decide +kernel
theorem dX7_seating_4 : decode cX7_seating 4 = .ok (.invokevirtual 132, 3) := by decide +kernel
theorem dX7_seating_7 : decode cX7_seating 7 = .ok (.istore 6, 2) := by decide +kernel
theorem dX7_seating_9 : decode cX7_seating 9 = .ok (.iload 6, 2) := by decide +kernel
theorem dX7_seating_11 : decode cX7_seating 11 = .ok (.ifCond .eq 6, 3) := by decide +kernel
theorem dX7_seating_14 : decode cX7_seating 14 = .ok (.iload 6, 2) := by decide +kernel
theorem dX7_seating_16 : decode cX7_seating 16 = .ok (.ireturn, 1) := by decide +kernel
theorem dX7_seating_17 : decode cX7_seating 17 = .ok (.aload_n 0, 1) := by decide +kernel
theorem dX7_seating_18 : decode cX7_seating 18 = .ok (.getfield 32, 3) := by decide +kernel
theorem dX7_seating_21 : decode cX7_seating 21 = .ok (.aload_n 0, 1) := by decide +kernel
theorem dX7_seating_22 : decode cX7_seating 22 = .ok (.getfield 28, 3) := by decide +kernel
theorem dX7_seating_25 : decode cX7_seating 25 = .ok (.invokevirtual 164, 3) := by decide +kernel
theorem dX7_seating_28 : decode cX7_seating 28 = .ok (.aload_n 0, 1) := by decide +kernel
theorem dX7_seating_29 : decode cX7_seating 29 = .ok (.getfield 28, 3) := by decide +kernel
theorem dX7_seating_32 : decode cX7_seating 32 = .ok (.iload_n 2, 1) := by decide +kernel
theorem dX7_seating_33 : decode cX7_seating 33 = .ok (.invokevirtual 167, 3) := by decide +kernel
theorem dX7_seating_36 : decode cX7_seating 36 = .ok (.istore 7, 2) := by decide +kernel
theorem dX7_seating_38 : decode cX7_seating 38 = .ok (.aload_n 0, 1) := by decide +kernel
theorem dX7_seating_39 : decode cX7_seating 39 = .ok (.getfield 19, 3) := by decide +kernel
theorem dX7_seating_42 : decode cX7_seating 42 = .ok (.invokevirtual 93, 3) := by decide +kernel
theorem dX7_seating_45 : decode cX7_seating 45 = .ok (.iconst 1, 1) := by decide +kernel
theorem dX7_seating_46 : decode cX7_seating 46 = .ok (.isub, 1) := by decide +kernel
theorem dX7_seating_47 : decode cX7_seating 47 = .ok (.invokestatic 170, 3) := by decide +kernel
theorem dX7_seating_50 : decode cX7_seating 50 = .ok (.istore 8, 2) := by decide +kernel
theorem dX7_seating_52 : decode cX7_seating 52 = .ok (.bipush (-9), 2) := by decide +kernel
theorem dX7_seating_54 : decode cX7_seating 54 = .ok (.istore 9, 2) := by decide +kernel
theorem dX7_seating_56 : decode cX7_seating 56 = .ok (.bipush (-9), 2) := by decide +kernel
theorem dX7_seating_58 : decode cX7_seating 58 = .ok (.istore 10, 2) := by decide +kernel
theorem dX7_seating_60 : decode cX7_seating 60 = .ok (.iconst 0, 1) := by decide +kernel
theorem dX7_seating_61 : decode cX7_seating 61 = .ok (.istore 11, 2) := by decide +kernel
theorem dX7_seating_63 : decode cX7_seating 63 = .ok (.iload 11, 2) := by decide +kernel
theorem dX7_seating_65 : decode cX7_seating 65 = .ok (.iload 8, 2) := by decide +kernel
theorem dX7_seating_67 : decode cX7_seating 67 = .ok (.if_icmp .ge 77, 3) := by decide +kernel
theorem dX7_seating_70 : decode cX7_seating 70 = .ok (.aload_n 0, 1) := by decide +kernel
theorem dX7_seating_71 : decode cX7_seating 71 = .ok (.getfield 32, 3) := by decide +kernel
theorem dX7_seating_74 : decode cX7_seating 74 = .ok (.iload 11, 2) := by decide +kernel
theorem dX7_seating_76 : decode cX7_seating 76 = .ok (.invokevirtual 173, 3) := by decide +kernel
theorem dX7_seating_79 : decode cX7_seating 79 = .ok (.aload_n 0, 1) := by decide +kernel
theorem dX7_seating_80 : decode cX7_seating 80 = .ok (.getfield 32, 3) := by decide +kernel
theorem dX7_seating_83 : decode cX7_seating 83 = .ok (.iload_n 1, 1) := by decide +kernel
theorem dX7_seating_84 : decode cX7_seating 84 = .ok (.iload_n 3, 1) := by decide +kernel
theorem dX7_seating_85 : decode cX7_seating 85 = .ok (.invokevirtual 161, 3) := by decide +kernel
theorem dX7_seating_88 : decode cX7_seating 88 = .ok (.iload 7, 2) := by decide +kernel
theorem dX7_seating_90 : decode cX7_seating 90 = .ok (.iand, 1) := by decide +kernel
theorem dX7_seating_91 : decode cX7_seating 91 = .ok (.invokestatic 176, 3) := by decide +kernel
theorem dX7_seating_94 : decode cX7_seating 94 = .ok (.istore 12, 2) := by decide +kernel
theorem dX7_seating_96 : decode cX7_seating 96 = .ok (.iload 9, 2) := by decide +kernel
theorem dX7_seating_98 : decode cX7_seating 98 = .ok (.bipush (-9), 2) := by decide +kernel
theorem dX7_seating_100 : decode cX7_seating 100 = .ok (.if_icmp .eq 25, 3) := by decide +kernel
theorem dX7_seating_103 : decode cX7_seating 103 = .ok (.iload 4, 2) := by decide +kernel
theorem dX7_seating_105 : decode cX7_seating 105 = .ok (.ifCond .eq 13, 3) := by decide +kernel
theorem dX7_seating_108 : decode cX7_seating 108 = .ok (.iload 12, 2) := by decide +kernel
theorem dX7_seating_110 : decode cX7_seating 110 = .ok (.iload 9, 2) := by decide +kernel
theorem dX7_seating_112 : decode cX7_seating 112 = .ok (.if_icmp .le 26, 3) := by decide +kernel
theorem dX7_seating_115 : decode cX7_seating 115 = .ok (.goto 10, 3) := by decide +kernel
theorem dX7_seating_118 : decode cX7_seating 118 = .ok (.iload 12, 2) := by decide +kernel
theorem dX7_seating_120 : decode cX7_seating 120 = .ok (.iload 9, 2) := by decide +kernel
theorem dX7_seating_122 : decode cX7_seating 122 = .ok (.if_icmp .ge 16, 3) := by decide +kernel
theorem dX7_seating_125 : decode cX7_seating 125 = .ok (.iload 12, 2) := by decide +kernel
theorem dX7_seating_127 : decode cX7_seating 127 = .ok (.istore 9, 2) := by decide +kernel
theorem dX7_seating_129 : decode cX7_seating 129 = .ok (.aload_n 0, 1) := by decide +kernel
theorem dX7_seating_130 : decode cX7_seating 130 = .ok (.getfield 32, 3) := by decide +kernel
theorem dX7_seating_133 : decode cX7_seating 133 = .ok (.invokevirtual 181, 3) := by decide +kernel
theorem dX7_seating_136 : decode cX7_seating 136 = .ok (.istore 10, 2) := by decide +kernel
theorem dX7_seating_138 : decode cX7_seating 138 = .ok (.iinc 11 1, 3) := by decide +kernel
theorem dX7_seating_141 : decode cX7_seating 141 = .ok (.goto (-78), 3) := by decide +kernel
theorem dX7_seating_144 : decode cX7_seating 144 = .ok (.iload 5, 2) := by decide +kernel
theorem dX7_seating_146 : decode cX7_seating 146 = .ok (.ifCond .eq 8, 3) := by decide +kernel
theorem dX7_seating_149 : decode cX7_seating 149 = .ok (.iload 10, 2) := by decide +kernel
theorem dX7_seating_151 : decode cX7_seating 151 = .ok (.goto 5, 3) := by decide +kernel
theorem dX7_seating_154 : decode cX7_seating 154 = .ok (.iload 9, 2) := by decide +kernel
theorem dX7_seating_156 : decode cX7_seating 156 = .ok (.ireturn, 1) := by decide +kernel
theorem dX7_keepFrom_0 : decode cX7_keepFrom 0 = .ok (.aload_n 0, 1) := by decide +kernel
theorem dX7_keepFrom_1 : decode cX7_keepFrom 1 = .ok (.iload_n 1, 1) := by decide +kernel
theorem dX7_keepFrom_2 : decode cX7_keepFrom 2 = .ok (.invokevirtual 109, 3) := by decide +kernel
theorem dX7_keepFrom_5 : decode cX7_keepFrom 5 = .ok (.ifCond .eq 10, 3) := by decide +kernel
theorem dX7_keepFrom_8 : decode cX7_keepFrom 8 = .ok (.iload_n 2, 1) := by decide +kernel
theorem dX7_keepFrom_9 : decode cX7_keepFrom 9 = .ok (.invokestatic 143, 3) := by decide +kernel
theorem dX7_keepFrom_12 : decode cX7_keepFrom 12 = .ok (.ifCond .ne 5, 3) := by decide +kernel
theorem dX7_keepFrom_15 : decode cX7_keepFrom 15 = .ok (.iconst (-1), 1) := by decide +kernel
theorem dX7_keepFrom_16 : decode cX7_keepFrom 16 = .ok (.ireturn, 1) := by decide +kernel
theorem dX7_keepFrom_17 : decode cX7_keepFrom 17 = .ok (.aload_n 0, 1) := by decide +kernel
theorem dX7_keepFrom_18 : decode cX7_keepFrom 18 = .ok (.getfield 28, 3) := by decide +kernel
theorem dX7_keepFrom_21 : decode cX7_keepFrom 21 = .ok (.iload_n 1, 1) := by decide +kernel
theorem dX7_keepFrom_22 : decode cX7_keepFrom 22 = .ok (.invokevirtual 116, 3) := by decide +kernel
theorem dX7_keepFrom_25 : decode cX7_keepFrom 25 = .ok (.istore_n 3, 1) := by decide +kernel
theorem dX7_keepFrom_26 : decode cX7_keepFrom 26 = .ok (.bipush (-9), 2) := by decide +kernel
theorem dX7_keepFrom_28 : decode cX7_keepFrom 28 = .ok (.istore 4, 2) := by decide +kernel
theorem dX7_keepFrom_30 : decode cX7_keepFrom 30 = .ok (.iconst 0, 1) := by decide +kernel
theorem dX7_keepFrom_31 : decode cX7_keepFrom 31 = .ok (.istore 5, 2) := by decide +kernel
theorem dX7_keepFrom_33 : decode cX7_keepFrom 33 = .ok (.iload 5, 2) := by decide +kernel
theorem dX7_keepFrom_35 : decode cX7_keepFrom 35 = .ok (.bipush 63, 2) := by decide +kernel
theorem dX7_keepFrom_37 : decode cX7_keepFrom 37 = .ok (.if_icmp .gt 64, 3) := by decide +kernel
theorem dX7_keepFrom_40 : decode cX7_keepFrom 40 = .ok (.iload 5, 2) := by decide +kernel
theorem dX7_keepFrom_42 : decode cX7_keepFrom 42 = .ok (.iload_n 3, 1) := by decide +kernel
theorem dX7_keepFrom_43 : decode cX7_keepFrom 43 = .ok (.iconst (-1), 1) := by decide +kernel
theorem dX7_keepFrom_44 : decode cX7_keepFrom 44 = .ok (.ixor, 1) := by decide +kernel
theorem dX7_keepFrom_45 : decode cX7_keepFrom 45 = .ok (.iand, 1) := by decide +kernel
theorem dX7_keepFrom_46 : decode cX7_keepFrom 46 = .ok (.ifCond .ne 27, 3) := by decide +kernel
theorem dX7_keepFrom_49 : decode cX7_keepFrom 49 = .ok (.aload_n 0, 1) := by decide +kernel
theorem dX7_keepFrom_50 : decode cX7_keepFrom 50 = .ok (.getfield 19, 3) := by decide +kernel
theorem dX7_keepFrom_53 : decode cX7_keepFrom 53 = .ok (.iload_n 3, 1) := by decide +kernel
theorem dX7_keepFrom_54 : decode cX7_keepFrom 54 = .ok (.iload 5, 2) := by decide +kernel
theorem dX7_keepFrom_56 : decode cX7_keepFrom 56 = .ok (.iconst (-1), 1) := by decide +kernel
theorem dX7_keepFrom_57 : decode cX7_keepFrom 57 = .ok (.ixor, 1) := by decide +kernel
theorem dX7_keepFrom_58 : decode cX7_keepFrom 58 = .ok (.iand, 1) := by decide +kernel
theorem dX7_keepFrom_59 : decode cX7_keepFrom 59 = .ok (.invokevirtual 184, 3) := by decide +kernel
theorem dX7_keepFrom_62 : decode cX7_keepFrom 62 = .ok (.iload_n 2, 1) := by decide +kernel
theorem dX7_keepFrom_63 : decode cX7_keepFrom 63 = .ok (.invokestatic 146, 3) := by decide +kernel
theorem dX7_keepFrom_66 : decode cX7_keepFrom 66 = .ok (.ifCond .ne 7, 3) := by decide +kernel
theorem dX7_keepFrom_69 : decode cX7_keepFrom 69 = .ok (.iconst 1, 1) := by decide +kernel
theorem dX7_keepFrom_70 : decode cX7_keepFrom 70 = .ok (.goto 4, 3) := by decide +kernel
theorem dX7_keepFrom_73 : decode cX7_keepFrom 73 = .ok (.iconst 0, 1) := by decide +kernel
theorem dX7_keepFrom_74 : decode cX7_keepFrom 74 = .ok (.istore 6, 2) := by decide +kernel
theorem dX7_keepFrom_76 : decode cX7_keepFrom 76 = .ok (.iload 6, 2) := by decide +kernel
theorem dX7_keepFrom_78 : decode cX7_keepFrom 78 = .ok (.ifCond .eq 17, 3) := by decide +kernel
theorem dX7_keepFrom_81 : decode cX7_keepFrom 81 = .ok (.iload 5, 2) := by decide +kernel
theorem dX7_keepFrom_83 : decode cX7_keepFrom 83 = .ok (.iload 4, 2) := by decide +kernel
theorem dX7_keepFrom_85 : decode cX7_keepFrom 85 = .ok (.invokestatic 187, 3) := by decide +kernel
theorem dX7_keepFrom_88 : decode cX7_keepFrom 88 = .ok (.ifCond .eq 7, 3) := by decide +kernel
theorem dX7_keepFrom_91 : decode cX7_keepFrom 91 = .ok (.iload 5, 2) := by decide +kernel
theorem dX7_keepFrom_93 : decode cX7_keepFrom 93 = .ok (.istore 4, 2) := by decide +kernel
theorem dX7_keepFrom_95 : decode cX7_keepFrom 95 = .ok (.iinc 5 1, 3) := by decide +kernel
theorem dX7_keepFrom_98 : decode cX7_keepFrom 98 = .ok (.goto (-65), 3) := by decide +kernel
theorem dX7_keepFrom_101 : decode cX7_keepFrom 101 = .ok (.iload 4, 2) := by decide +kernel
theorem dX7_keepFrom_103 : decode cX7_keepFrom 103 = .ok (.ireturn, 1) := by decide +kernel
theorem dX7_learn_0 : decode cX7_learn 0 = .ok (.aload_n 0, 1) := by decide +kernel
theorem dX7_learn_1 : decode cX7_learn 1 = .ok (.iload_n 1, 1) := by decide +kernel
theorem dX7_learn_2 : decode cX7_learn 2 = .ok (.invokevirtual 109, 3) := by decide +kernel
theorem dX7_learn_5 : decode cX7_learn 5 = .ok (.ifCond .eq 10, 3) := by decide +kernel
theorem dX7_learn_8 : decode cX7_learn 8 = .ok (.iload_n 2, 1) := by decide +kernel
theorem dX7_learn_9 : decode cX7_learn 9 = .ok (.invokestatic 143, 3) := by decide +kernel
theorem dX7_learn_12 : decode cX7_learn 12 = .ok (.ifCond .ne 5, 3) := by decide +kernel
theorem dX7_learn_15 : decode cX7_learn 15 = .ok (.iconst (-1), 1) := by decide +kernel
theorem dX7_learn_16 : decode cX7_learn 16 = .ok (.ireturn, 1) := by decide +kernel
theorem dX7_learn_17 : decode cX7_learn 17 = .ok (.aload_n 0, 1) := by decide +kernel
theorem dX7_learn_18 : decode cX7_learn 18 = .ok (.getfield 28, 3) := by decide +kernel
theorem dX7_learn_21 : decode cX7_learn 21 = .ok (.iload_n 1, 1) := by decide +kernel
theorem dX7_learn_22 : decode cX7_learn 22 = .ok (.invokevirtual 116, 3) := by decide +kernel
theorem dX7_learn_25 : decode cX7_learn 25 = .ok (.istore_n 3, 1) := by decide +kernel
theorem dX7_learn_26 : decode cX7_learn 26 = .ok (.bipush (-9), 2) := by decide +kernel
theorem dX7_learn_28 : decode cX7_learn 28 = .ok (.istore 4, 2) := by decide +kernel
theorem dX7_learn_30 : decode cX7_learn 30 = .ok (.iconst 0, 1) := by decide +kernel
theorem dX7_learn_31 : decode cX7_learn 31 = .ok (.istore 5, 2) := by decide +kernel
theorem dX7_learn_33 : decode cX7_learn 33 = .ok (.iload 5, 2) := by decide +kernel
theorem dX7_learn_35 : decode cX7_learn 35 = .ok (.bipush 63, 2) := by decide +kernel
theorem dX7_learn_37 : decode cX7_learn 37 = .ok (.if_icmp .gt 62, 3) := by decide +kernel
theorem dX7_learn_40 : decode cX7_learn 40 = .ok (.iload 5, 2) := by decide +kernel
theorem dX7_learn_42 : decode cX7_learn 42 = .ok (.iload_n 2, 1) := by decide +kernel
theorem dX7_learn_43 : decode cX7_learn 43 = .ok (.invokestatic 146, 3) := by decide +kernel
theorem dX7_learn_46 : decode cX7_learn 46 = .ok (.ifCond .ne 25, 3) := by decide +kernel
theorem dX7_learn_49 : decode cX7_learn 49 = .ok (.aload_n 0, 1) := by decide +kernel
theorem dX7_learn_50 : decode cX7_learn 50 = .ok (.getfield 19, 3) := by decide +kernel
theorem dX7_learn_53 : decode cX7_learn 53 = .ok (.iload_n 3, 1) := by decide +kernel
theorem dX7_learn_54 : decode cX7_learn 54 = .ok (.iload 5, 2) := by decide +kernel
theorem dX7_learn_56 : decode cX7_learn 56 = .ok (.ior, 1) := by decide +kernel
theorem dX7_learn_57 : decode cX7_learn 57 = .ok (.invokevirtual 184, 3) := by decide +kernel
theorem dX7_learn_60 : decode cX7_learn 60 = .ok (.iload_n 2, 1) := by decide +kernel
theorem dX7_learn_61 : decode cX7_learn 61 = .ok (.invokestatic 146, 3) := by decide +kernel
theorem dX7_learn_64 : decode cX7_learn 64 = .ok (.ifCond .eq 7, 3) := by decide +kernel
theorem dX7_learn_67 : decode cX7_learn 67 = .ok (.iconst 1, 1) := by decide +kernel
theorem dX7_learn_68 : decode cX7_learn 68 = .ok (.goto 4, 3) := by decide +kernel
theorem dX7_learn_71 : decode cX7_learn 71 = .ok (.iconst 0, 1) := by decide +kernel
theorem dX7_learn_72 : decode cX7_learn 72 = .ok (.istore 6, 2) := by decide +kernel
theorem dX7_learn_74 : decode cX7_learn 74 = .ok (.iload 6, 2) := by decide +kernel
theorem dX7_learn_76 : decode cX7_learn 76 = .ok (.ifCond .eq 17, 3) := by decide +kernel
theorem dX7_learn_79 : decode cX7_learn 79 = .ok (.iload 5, 2) := by decide +kernel
theorem dX7_learn_81 : decode cX7_learn 81 = .ok (.iload 4, 2) := by decide +kernel
theorem dX7_learn_83 : decode cX7_learn 83 = .ok (.invokestatic 187, 3) := by decide +kernel
theorem dX7_learn_86 : decode cX7_learn 86 = .ok (.ifCond .eq 7, 3) := by decide +kernel
theorem dX7_learn_89 : decode cX7_learn 89 = .ok (.iload 5, 2) := by decide +kernel
theorem dX7_learn_91 : decode cX7_learn 91 = .ok (.istore 4, 2) := by decide +kernel
theorem dX7_learn_93 : decode cX7_learn 93 = .ok (.iinc 5 1, 3) := by decide +kernel
theorem dX7_learn_96 : decode cX7_learn 96 = .ok (.goto (-63), 3) := by decide +kernel
theorem dX7_learn_99 : decode cX7_learn 99 = .ok (.iload 4, 2) := by decide +kernel
theorem dX7_learn_101 : decode cX7_learn 101 = .ok (.ireturn, 1) := by decide +kernel
theorem dX7_judge_0 : decode cX7_judge 0 = .ok (.iload_n 1, 1) := by decide +kernel
theorem dX7_judge_1 : decode cX7_judge 1 = .ok (.iconst 1, 1) := by decide +kernel
theorem dX7_judge_2 : decode cX7_judge 2 = .ok (.if_icmp .lt 20, 3) := by decide +kernel
theorem dX7_judge_5 : decode cX7_judge 5 = .ok (.iload_n 1, 1) := by decide +kernel
theorem dX7_judge_6 : decode cX7_judge 6 = .ok (.iconst 3, 1) := by decide +kernel
theorem dX7_judge_7 : decode cX7_judge 7 = .ok (.if_icmp .gt 15, 3) := by decide +kernel
theorem dX7_judge_10 : decode cX7_judge 10 = .ok (.iload_n 2, 1) := by decide +kernel
theorem dX7_judge_11 : decode cX7_judge 11 = .ok (.ifCond .lt 11, 3) := by decide +kernel
theorem dX7_judge_14 : decode cX7_judge 14 = .ok (.iload_n 2, 1) := by decide +kernel
theorem dX7_judge_15 : decode cX7_judge 15 = .ok (.iload_n 1, 1) := by decide +kernel
theorem dX7_judge_16 : decode cX7_judge 16 = .ok (.invokestatic 190, 3) := by decide +kernel
theorem dX7_judge_19 : decode cX7_judge 19 = .ok (.if_icmp .lt 6, 3) := by decide +kernel
theorem dX7_judge_22 : decode cX7_judge 22 = .ok (.bipush (-2), 2) := by decide +kernel
theorem dX7_judge_24 : decode cX7_judge 24 = .ok (.ireturn, 1) := by decide +kernel
theorem dX7_judge_25 : decode cX7_judge 25 = .ok (.aload_n 0, 1) := by decide +kernel
theorem dX7_judge_26 : decode cX7_judge 26 = .ok (.getfield 32, 3) := by decide +kernel
theorem dX7_judge_29 : decode cX7_judge 29 = .ok (.aload_n 0, 1) := by decide +kernel
theorem dX7_judge_30 : decode cX7_judge 30 = .ok (.getfield 28, 3) := by decide +kernel
theorem dX7_judge_33 : decode cX7_judge 33 = .ok (.invokevirtual 164, 3) := by decide +kernel
theorem dX7_judge_36 : decode cX7_judge 36 = .ok (.iconst 0, 1) := by decide +kernel
theorem dX7_judge_37 : decode cX7_judge 37 = .ok (.istore_n 3, 1) := by decide +kernel
theorem dX7_judge_38 : decode cX7_judge 38 = .ok (.iload_n 3, 1) := by decide +kernel
theorem dX7_judge_39 : decode cX7_judge 39 = .ok (.iload_n 1, 1) := by decide +kernel
theorem dX7_judge_40 : decode cX7_judge 40 = .ok (.if_icmp .ge 64, 3) := by decide +kernel
theorem dX7_judge_43 : decode cX7_judge 43 = .ok (.iload_n 1, 1) := by decide +kernel
theorem dX7_judge_44 : decode cX7_judge 44 = .ok (.iconst 1, 1) := by decide +kernel
theorem dX7_judge_45 : decode cX7_judge 45 = .ok (.isub, 1) := by decide +kernel
theorem dX7_judge_46 : decode cX7_judge 46 = .ok (.iload_n 3, 1) := by decide +kernel
theorem dX7_judge_47 : decode cX7_judge 47 = .ok (.isub, 1) := by decide +kernel
theorem dX7_judge_48 : decode cX7_judge 48 = .ok (.invokestatic 190, 3) := by decide +kernel
theorem dX7_judge_51 : decode cX7_judge 51 = .ok (.iconst 1, 1) := by decide +kernel
theorem dX7_judge_52 : decode cX7_judge 52 = .ok (.invokestatic 193, 3) := by decide +kernel
theorem dX7_judge_55 : decode cX7_judge 55 = .ok (.istore 4, 2) := by decide +kernel
theorem dX7_judge_57 : decode cX7_judge 57 = .ok (.iload_n 2, 1) := by decide +kernel
theorem dX7_judge_58 : decode cX7_judge 58 = .ok (.iload 4, 2) := by decide +kernel
theorem dX7_judge_60 : decode cX7_judge 60 = .ok (.idiv, 1) := by decide +kernel
theorem dX7_judge_61 : decode cX7_judge 61 = .ok (.sipush 1000, 3) := by decide +kernel
theorem dX7_judge_64 : decode cX7_judge 64 = .ok (.irem, 1) := by decide +kernel
theorem dX7_judge_65 : decode cX7_judge 65 = .ok (.istore 5, 2) := by decide +kernel
theorem dX7_judge_67 : decode cX7_judge 67 = .ok (.aload_n 0, 1) := by decide +kernel
theorem dX7_judge_68 : decode cX7_judge 68 = .ok (.iload 5, 2) := by decide +kernel
theorem dX7_judge_70 : decode cX7_judge 70 = .ok (.bipush 100, 2) := by decide +kernel
theorem dX7_judge_72 : decode cX7_judge 72 = .ok (.idiv, 1) := by decide +kernel
theorem dX7_judge_73 : decode cX7_judge 73 = .ok (.iconst 1, 1) := by decide +kernel
theorem dX7_judge_74 : decode cX7_judge 74 = .ok (.isub, 1) := by decide +kernel
theorem dX7_judge_75 : decode cX7_judge 75 = .ok (.iload 5, 2) := by decide +kernel
theorem dX7_judge_77 : decode cX7_judge 77 = .ok (.bipush 10, 2) := by decide +kernel
theorem dX7_judge_79 : decode cX7_judge 79 = .ok (.idiv, 1) := by decide +kernel
theorem dX7_judge_80 : decode cX7_judge 80 = .ok (.bipush 10, 2) := by decide +kernel
theorem dX7_judge_82 : decode cX7_judge 82 = .ok (.irem, 1) := by decide +kernel
theorem dX7_judge_83 : decode cX7_judge 83 = .ok (.iconst 1, 1) := by decide +kernel
theorem dX7_judge_84 : decode cX7_judge 84 = .ok (.isub, 1) := by decide +kernel
theorem dX7_judge_85 : decode cX7_judge 85 = .ok (.iload 5, 2) := by decide +kernel
theorem dX7_judge_87 : decode cX7_judge 87 = .ok (.bipush 10, 2) := by decide +kernel
theorem dX7_judge_89 : decode cX7_judge 89 = .ok (.irem, 1) := by decide +kernel
theorem dX7_judge_90 : decode cX7_judge 90 = .ok (.invokevirtual 198, 3) := by decide +kernel
theorem dX7_judge_93 : decode cX7_judge 93 = .ok (.ifCond .ne 5, 3) := by decide +kernel
theorem dX7_judge_96 : decode cX7_judge 96 = .ok (.iload_n 3, 1) := by decide +kernel
theorem dX7_judge_97 : decode cX7_judge 97 = .ok (.ireturn, 1) := by decide +kernel
theorem dX7_judge_98 : decode cX7_judge 98 = .ok (.iinc 3 1, 3) := by decide +kernel
theorem dX7_judge_101 : decode cX7_judge 101 = .ok (.goto (-63), 3) := by decide +kernel
theorem dX7_judge_104 : decode cX7_judge 104 = .ok (.bipush (-9), 2) := by decide +kernel
theorem dX7_judge_106 : decode cX7_judge 106 = .ok (.ireturn, 1) := by decide +kernel
theorem dX7_share_0 : decode cX7_share 0 = .ok (.aload_n 0, 1) := by decide +kernel
theorem dX7_share_1 : decode cX7_share 1 = .ok (.iload_n 1, 1) := by decide +kernel
theorem dX7_share_2 : decode cX7_share 2 = .ok (.invokevirtual 109, 3) := by decide +kernel
theorem dX7_share_5 : decode cX7_share 5 = .ok (.ifCond .ne 5, 3) := by decide +kernel
theorem dX7_share_8 : decode cX7_share 8 = .ok (.iconst (-1), 1) := by decide +kernel
theorem dX7_share_9 : decode cX7_share 9 = .ok (.ireturn, 1) := by decide +kernel
theorem dX7_share_10 : decode cX7_share 10 = .ok (.aload_n 0, 1) := by decide +kernel
theorem dX7_share_11 : decode cX7_share 11 = .ok (.getfield 19, 3) := by decide +kernel
theorem dX7_share_14 : decode cX7_share 14 = .ok (.invokevirtual 93, 3) := by decide +kernel
theorem dX7_share_17 : decode cX7_share 17 = .ok (.istore_n 3, 1) := by decide +kernel
theorem dX7_share_18 : decode cX7_share 18 = .ok (.iconst 0, 1) := by decide +kernel
theorem dX7_share_19 : decode cX7_share 19 = .ok (.istore 4, 2) := by decide +kernel
theorem dX7_share_21 : decode cX7_share 21 = .ok (.iconst 0, 1) := by decide +kernel
theorem dX7_share_22 : decode cX7_share 22 = .ok (.istore 5, 2) := by decide +kernel
theorem dX7_share_24 : decode cX7_share 24 = .ok (.iload 5, 2) := by decide +kernel
theorem dX7_share_26 : decode cX7_share 26 = .ok (.iconst 1, 1) := by decide +kernel
theorem dX7_share_27 : decode cX7_share 27 = .ok (.iload_n 3, 1) := by decide +kernel
theorem dX7_share_28 : decode cX7_share 28 = .ok (.ishl, 1) := by decide +kernel
theorem dX7_share_29 : decode cX7_share 29 = .ok (.if_icmp .ge 67, 3) := by decide +kernel
theorem dX7_share_32 : decode cX7_share 32 = .ok (.iload 5, 2) := by decide +kernel
theorem dX7_share_34 : decode cX7_share 34 = .ok (.iload_n 1, 1) := by decide +kernel
theorem dX7_share_35 : decode cX7_share 35 = .ok (.invokestatic 146, 3) := by decide +kernel
theorem dX7_share_38 : decode cX7_share 38 = .ok (.ifCond .ne 52, 3) := by decide +kernel
theorem dX7_share_41 : decode cX7_share 41 = .ok (.iload 5, 2) := by decide +kernel
theorem dX7_share_43 : decode cX7_share 43 = .ok (.invokestatic 176, 3) := by decide +kernel
theorem dX7_share_46 : decode cX7_share 46 = .ok (.istore 6, 2) := by decide +kernel
theorem dX7_share_48 : decode cX7_share 48 = .ok (.iload 6, 2) := by decide +kernel
theorem dX7_share_50 : decode cX7_share 50 = .ok (.invokestatic 170, 3) := by decide +kernel
theorem dX7_share_53 : decode cX7_share 53 = .ok (.iload_n 3, 1) := by decide +kernel
theorem dX7_share_54 : decode cX7_share 54 = .ok (.iconst 1, 1) := by decide +kernel
theorem dX7_share_55 : decode cX7_share 55 = .ok (.isub, 1) := by decide +kernel
theorem dX7_share_56 : decode cX7_share 56 = .ok (.iload 6, 2) := by decide +kernel
theorem dX7_share_58 : decode cX7_share 58 = .ok (.isub, 1) := by decide +kernel
theorem dX7_share_59 : decode cX7_share 59 = .ok (.invokestatic 170, 3) := by decide +kernel
theorem dX7_share_62 : decode cX7_share 62 = .ok (.imul, 1) := by decide +kernel
theorem dX7_share_63 : decode cX7_share 63 = .ok (.istore 7, 2) := by decide +kernel
theorem dX7_share_65 : decode cX7_share 65 = .ok (.iload 4, 2) := by decide +kernel
theorem dX7_share_67 : decode cX7_share 67 = .ok (.iload 7, 2) := by decide +kernel
theorem dX7_share_69 : decode cX7_share 69 = .ok (.aload_n 0, 1) := by decide +kernel
theorem dX7_share_70 : decode cX7_share 70 = .ok (.iload 5, 2) := by decide +kernel
theorem dX7_share_72 : decode cX7_share 72 = .ok (.iconst 1, 1) := by decide +kernel
theorem dX7_share_73 : decode cX7_share 73 = .ok (.iload_n 1, 1) := by decide +kernel
theorem dX7_share_74 : decode cX7_share 74 = .ok (.ishl, 1) := by decide +kernel
theorem dX7_share_75 : decode cX7_share 75 = .ok (.ior, 1) := by decide +kernel
theorem dX7_share_76 : decode cX7_share 76 = .ok (.invokevirtual 202, 3) := by decide +kernel
theorem dX7_share_79 : decode cX7_share 79 = .ok (.aload_n 0, 1) := by decide +kernel
theorem dX7_share_80 : decode cX7_share 80 = .ok (.iload 5, 2) := by decide +kernel
theorem dX7_share_82 : decode cX7_share 82 = .ok (.invokevirtual 202, 3) := by decide +kernel
theorem dX7_share_85 : decode cX7_share 85 = .ok (.isub, 1) := by decide +kernel
theorem dX7_share_86 : decode cX7_share 86 = .ok (.imul, 1) := by decide +kernel
theorem dX7_share_87 : decode cX7_share 87 = .ok (.iadd, 1) := by decide +kernel
theorem dX7_share_88 : decode cX7_share 88 = .ok (.istore 4, 2) := by decide +kernel
theorem dX7_share_90 : decode cX7_share 90 = .ok (.iinc 5 1, 3) := by decide +kernel
theorem dX7_share_93 : decode cX7_share 93 = .ok (.goto (-69), 3) := by decide +kernel
theorem dX7_share_96 : decode cX7_share 96 = .ok (.iload 4, 2) := by decide +kernel
theorem dX7_share_98 : decode cX7_share 98 = .ok (.iload_n 3, 1) := by decide +kernel
theorem dX7_share_99 : decode cX7_share 99 = .ok (.invokestatic 170, 3) := by decide +kernel
theorem dX7_share_102 : decode cX7_share 102 = .ok (.iload_n 2, 1) := by decide +kernel
theorem dX7_share_103 : decode cX7_share 103 = .ok (.invokestatic 205, 3) := by decide +kernel
theorem dX7_share_106 : decode cX7_share 106 = .ok (.ireturn, 1) := by decide +kernel
theorem dX7_see_0 : decode cX7_see 0 = .ok (.iload_n 1, 1) := by decide +kernel
theorem dX7_see_1 : decode cX7_see 1 = .ok (.invokestatic 143, 3) := by decide +kernel
theorem dX7_see_4 : decode cX7_see 4 = .ok (.ifCond .ne 5, 3) := by decide +kernel
theorem dX7_see_7 : decode cX7_see 7 = .ok (.iconst (-1), 1) := by decide +kernel
theorem dX7_see_8 : decode cX7_see 8 = .ok (.ireturn, 1) := by decide +kernel
theorem dX7_see_9 : decode cX7_see 9 = .ok (.iload_n 2, 1) := by decide +kernel
theorem dX7_see_10 : decode cX7_see 10 = .ok (.ifCond .lt 8, 3) := by decide +kernel
theorem dX7_see_13 : decode cX7_see 13 = .ok (.iload_n 2, 1) := by decide +kernel
theorem dX7_see_14 : decode cX7_see 14 = .ok (.iconst 1, 1) := by decide +kernel
theorem dX7_see_15 : decode cX7_see 15 = .ok (.if_icmp .le 6, 3) := by decide +kernel
theorem dX7_see_18 : decode cX7_see 18 = .ok (.bipush (-2), 2) := by decide +kernel
theorem dX7_see_20 : decode cX7_see 20 = .ok (.ireturn, 1) := by decide +kernel
theorem dX7_see_21 : decode cX7_see 21 = .ok (.aload_n 0, 1) := by decide +kernel
theorem dX7_see_22 : decode cX7_see 22 = .ok (.getfield 54, 3) := by decide +kernel
theorem dX7_see_25 : decode cX7_see 25 = .ok (.iload_n 1, 1) := by decide +kernel
theorem dX7_see_26 : decode cX7_see 26 = .ok (.iload_n 2, 1) := by decide +kernel
theorem dX7_see_27 : decode cX7_see 27 = .ok (.iconst 1, 1) := by decide +kernel
theorem dX7_see_28 : decode cX7_see 28 = .ok (.if_icmp .ne 7, 3) := by decide +kernel
theorem dX7_see_31 : decode cX7_see 31 = .ok (.iconst 1, 1) := by decide +kernel
theorem dX7_see_32 : decode cX7_see 32 = .ok (.goto 4, 3) := by decide +kernel
theorem dX7_see_35 : decode cX7_see 35 = .ok (.iconst 0, 1) := by decide +kernel
theorem dX7_see_36 : decode cX7_see 36 = .ok (.invokevirtual 209, 3) := by decide +kernel
theorem dX7_see_39 : decode cX7_see 39 = .ok (.ireturn, 1) := by decide +kernel
theorem dX7_unsee_0 : decode cX7_unsee 0 = .ok (.aload_n 0, 1) := by decide +kernel
theorem dX7_unsee_1 : decode cX7_unsee 1 = .ok (.getfield 54, 3) := by decide +kernel
theorem dX7_unsee_4 : decode cX7_unsee 4 = .ok (.invokevirtual 213, 3) := by decide +kernel
theorem dX7_unsee_7 : decode cX7_unsee 7 = .ok (.ireturn, 1) := by decide +kernel
theorem dX7_minds_0 : decode cX7_minds 0 = .ok (.iload_n 1, 1) := by decide +kernel
theorem dX7_minds_1 : decode cX7_minds 1 = .ok (.ifCond .lt 8, 3) := by decide +kernel
theorem dX7_minds_4 : decode cX7_minds 4 = .ok (.iload_n 1, 1) := by decide +kernel
theorem dX7_minds_5 : decode cX7_minds 5 = .ok (.iconst 2, 1) := by decide +kernel
theorem dX7_minds_6 : decode cX7_minds 6 = .ok (.if_icmp .le 6, 3) := by decide +kernel
theorem dX7_minds_9 : decode cX7_minds 9 = .ok (.bipush (-2), 2) := by decide +kernel
theorem dX7_minds_11 : decode cX7_minds 11 = .ok (.ireturn, 1) := by decide +kernel
theorem dX7_minds_12 : decode cX7_minds 12 = .ok (.iconst 0, 1) := by decide +kernel
theorem dX7_minds_13 : decode cX7_minds 13 = .ok (.istore_n 2, 1) := by decide +kernel
theorem dX7_minds_14 : decode cX7_minds 14 = .ok (.bipush 63, 2) := by decide +kernel
theorem dX7_minds_16 : decode cX7_minds 16 = .ok (.istore_n 3, 1) := by decide +kernel
theorem dX7_minds_17 : decode cX7_minds 17 = .ok (.iconst 0, 1) := by decide +kernel
theorem dX7_minds_18 : decode cX7_minds 18 = .ok (.istore 4, 2) := by decide +kernel
theorem dX7_minds_20 : decode cX7_minds 20 = .ok (.iconst 0, 1) := by decide +kernel
theorem dX7_minds_21 : decode cX7_minds 21 = .ok (.istore 5, 2) := by decide +kernel
theorem dX7_minds_23 : decode cX7_minds 23 = .ok (.iload 5, 2) := by decide +kernel
theorem dX7_minds_25 : decode cX7_minds 25 = .ok (.bipush 63, 2) := by decide +kernel
theorem dX7_minds_27 : decode cX7_minds 27 = .ok (.if_icmp .gt 47, 3) := by decide +kernel
theorem dX7_minds_30 : decode cX7_minds 30 = .ok (.aload_n 0, 1) := by decide +kernel
theorem dX7_minds_31 : decode cX7_minds 31 = .ok (.getfield 19, 3) := by decide +kernel
theorem dX7_minds_34 : decode cX7_minds 34 = .ok (.iload 5, 2) := by decide +kernel
theorem dX7_minds_36 : decode cX7_minds 36 = .ok (.invokevirtual 184, 3) := by decide +kernel
theorem dX7_minds_39 : decode cX7_minds 39 = .ok (.istore 6, 2) := by decide +kernel
theorem dX7_minds_41 : decode cX7_minds 41 = .ok (.aload_n 0, 1) := by decide +kernel
theorem dX7_minds_42 : decode cX7_minds 42 = .ok (.getfield 54, 3) := by decide +kernel
theorem dX7_minds_45 : decode cX7_minds 45 = .ok (.iload 6, 2) := by decide +kernel
theorem dX7_minds_47 : decode cX7_minds 47 = .ok (.invokevirtual 214, 3) := by decide +kernel
theorem dX7_minds_50 : decode cX7_minds 50 = .ok (.ifCond .eq 18, 3) := by decide +kernel
theorem dX7_minds_53 : decode cX7_minds 53 = .ok (.iinc 2 1, 3) := by decide +kernel
theorem dX7_minds_56 : decode cX7_minds 56 = .ok (.iload_n 3, 1) := by decide +kernel
theorem dX7_minds_57 : decode cX7_minds 57 = .ok (.iload 6, 2) := by decide +kernel
theorem dX7_minds_59 : decode cX7_minds 59 = .ok (.iand, 1) := by decide +kernel
theorem dX7_minds_60 : decode cX7_minds 60 = .ok (.istore_n 3, 1) := by decide +kernel
theorem dX7_minds_61 : decode cX7_minds 61 = .ok (.iload 4, 2) := by decide +kernel
theorem dX7_minds_63 : decode cX7_minds 63 = .ok (.iload 6, 2) := by decide +kernel
theorem dX7_minds_65 : decode cX7_minds 65 = .ok (.ior, 1) := by decide +kernel
theorem dX7_minds_66 : decode cX7_minds 66 = .ok (.istore 4, 2) := by decide +kernel
theorem dX7_minds_68 : decode cX7_minds 68 = .ok (.iinc 5 1, 3) := by decide +kernel
theorem dX7_minds_71 : decode cX7_minds 71 = .ok (.goto (-48), 3) := by decide +kernel
theorem dX7_minds_74 : decode cX7_minds 74 = .ok (.iload_n 1, 1) := by decide +kernel
theorem dX7_minds_75 : decode cX7_minds 75 = .ok (.ifCond .ne 5, 3) := by decide +kernel
theorem dX7_minds_78 : decode cX7_minds 78 = .ok (.iload_n 2, 1) := by decide +kernel
theorem dX7_minds_79 : decode cX7_minds 79 = .ok (.ireturn, 1) := by decide +kernel
theorem dX7_minds_80 : decode cX7_minds 80 = .ok (.iload_n 2, 1) := by decide +kernel
theorem dX7_minds_81 : decode cX7_minds 81 = .ok (.ifCond .ne 6, 3) := by decide +kernel
theorem dX7_minds_84 : decode cX7_minds 84 = .ok (.bipush (-9), 2) := by decide +kernel
theorem dX7_minds_86 : decode cX7_minds 86 = .ok (.ireturn, 1) := by decide +kernel
theorem dX7_minds_87 : decode cX7_minds 87 = .ok (.iload_n 1, 1) := by decide +kernel
theorem dX7_minds_88 : decode cX7_minds 88 = .ok (.iconst 1, 1) := by decide +kernel
theorem dX7_minds_89 : decode cX7_minds 89 = .ok (.if_icmp .ne 7, 3) := by decide +kernel
theorem dX7_minds_92 : decode cX7_minds 92 = .ok (.iload_n 3, 1) := by decide +kernel
theorem dX7_minds_93 : decode cX7_minds 93 = .ok (.goto 10, 3) := by decide +kernel
theorem dX7_minds_96 : decode cX7_minds 96 = .ok (.bipush 63, 2) := by decide +kernel
theorem dX7_minds_98 : decode cX7_minds 98 = .ok (.iload 4, 2) := by decide +kernel
theorem dX7_minds_100 : decode cX7_minds 100 = .ok (.iconst (-1), 1) := by decide +kernel
theorem dX7_minds_101 : decode cX7_minds 101 = .ok (.ixor, 1) := by decide +kernel
theorem dX7_minds_102 : decode cX7_minds 102 = .ok (.iand, 1) := by decide +kernel
theorem dX7_minds_103 : decode cX7_minds 103 = .ok (.ireturn, 1) := by decide +kernel
theorem dX7_rests_0 : decode cX7_rests 0 = .ok (.iload_n 1, 1) := by decide +kernel
theorem dX7_rests_1 : decode cX7_rests 1 = .ok (.ifCond .lt 8, 3) := by decide +kernel
theorem dX7_rests_4 : decode cX7_rests 4 = .ok (.iload_n 1, 1) := by decide +kernel
theorem dX7_rests_5 : decode cX7_rests 5 = .ok (.iconst 1, 1) := by decide +kernel
theorem dX7_rests_6 : decode cX7_rests 6 = .ok (.if_icmp .le 6, 3) := by decide +kernel
theorem dX7_rests_9 : decode cX7_rests 9 = .ok (.bipush (-2), 2) := by decide +kernel
theorem dX7_rests_11 : decode cX7_rests 11 = .ok (.ireturn, 1) := by decide +kernel
theorem dX7_rests_12 : decode cX7_rests 12 = .ok (.iconst 0, 1) := by decide +kernel
theorem dX7_rests_13 : decode cX7_rests 13 = .ok (.istore_n 2, 1) := by decide +kernel
theorem dX7_rests_14 : decode cX7_rests 14 = .ok (.bipush (-9), 2) := by decide +kernel
theorem dX7_rests_16 : decode cX7_rests 16 = .ok (.istore_n 3, 1) := by decide +kernel
theorem dX7_rests_17 : decode cX7_rests 17 = .ok (.iconst 0, 1) := by decide +kernel
theorem dX7_rests_18 : decode cX7_rests 18 = .ok (.istore 4, 2) := by decide +kernel
theorem dX7_rests_20 : decode cX7_rests 20 = .ok (.iload 4, 2) := by decide +kernel
theorem dX7_rests_22 : decode cX7_rests 22 = .ok (.iconst 3, 1) := by decide +kernel
theorem dX7_rests_23 : decode cX7_rests 23 = .ok (.if_icmp .gt 64, 3) := by decide +kernel
theorem dX7_rests_26 : decode cX7_rests 26 = .ok (.iconst 0, 1) := by decide +kernel
theorem dX7_rests_27 : decode cX7_rests 27 = .ok (.istore 5, 2) := by decide +kernel
theorem dX7_rests_29 : decode cX7_rests 29 = .ok (.iload 5, 2) := by decide +kernel
theorem dX7_rests_31 : decode cX7_rests 31 = .ok (.iconst 3, 1) := by decide +kernel
theorem dX7_rests_32 : decode cX7_rests 32 = .ok (.if_icmp .gt 49, 3) := by decide +kernel
theorem dX7_rests_35 : decode cX7_rests 35 = .ok (.iload 4, 2) := by decide +kernel
theorem dX7_rests_37 : decode cX7_rests 37 = .ok (.iload 5, 2) := by decide +kernel
theorem dX7_rests_39 : decode cX7_rests 39 = .ok (.invokestatic 217, 3) := by decide +kernel
theorem dX7_rests_42 : decode cX7_rests 42 = .ok (.ifCond .eq 33, 3) := by decide +kernel
theorem dX7_rests_45 : decode cX7_rests 45 = .ok (.iload 5, 2) := by decide +kernel
theorem dX7_rests_47 : decode cX7_rests 47 = .ok (.iload 4, 2) := by decide +kernel
theorem dX7_rests_49 : decode cX7_rests 49 = .ok (.invokestatic 217, 3) := by decide +kernel
theorem dX7_rests_52 : decode cX7_rests 52 = .ok (.ifCond .eq 23, 3) := by decide +kernel
theorem dX7_rests_55 : decode cX7_rests 55 = .ok (.iload_n 2, 1) := by decide +kernel
theorem dX7_rests_56 : decode cX7_rests 56 = .ok (.ifCond .ne 14, 3) := by decide +kernel
theorem dX7_rests_59 : decode cX7_rests 59 = .ok (.bipush 10, 2) := by decide +kernel
theorem dX7_rests_61 : decode cX7_rests 61 = .ok (.iload 4, 2) := by decide +kernel
theorem dX7_rests_63 : decode cX7_rests 63 = .ok (.imul, 1) := by decide +kernel
theorem dX7_rests_64 : decode cX7_rests 64 = .ok (.iload 5, 2) := by decide +kernel
theorem dX7_rests_66 : decode cX7_rests 66 = .ok (.iadd, 1) := by decide +kernel
theorem dX7_rests_67 : decode cX7_rests 67 = .ok (.goto 4, 3) := by decide +kernel
theorem dX7_rests_70 : decode cX7_rests 70 = .ok (.iload_n 3, 1) := by decide +kernel
theorem dX7_rests_71 : decode cX7_rests 71 = .ok (.istore_n 3, 1) := by decide +kernel
theorem dX7_rests_72 : decode cX7_rests 72 = .ok (.iinc 2 1, 3) := by decide +kernel
theorem dX7_rests_75 : decode cX7_rests 75 = .ok (.iinc 5 1, 3) := by decide +kernel
theorem dX7_rests_78 : decode cX7_rests 78 = .ok (.goto (-49), 3) := by decide +kernel
theorem dX7_rests_81 : decode cX7_rests 81 = .ok (.iinc 4 1, 3) := by decide +kernel
theorem dX7_rests_84 : decode cX7_rests 84 = .ok (.goto (-64), 3) := by decide +kernel
theorem dX7_rests_87 : decode cX7_rests 87 = .ok (.iload_n 1, 1) := by decide +kernel
theorem dX7_rests_88 : decode cX7_rests 88 = .ok (.ifCond .ne 7, 3) := by decide +kernel
theorem dX7_rests_91 : decode cX7_rests 91 = .ok (.iload_n 2, 1) := by decide +kernel
theorem dX7_rests_92 : decode cX7_rests 92 = .ok (.goto 4, 3) := by decide +kernel
theorem dX7_rests_95 : decode cX7_rests 95 = .ok (.iload_n 3, 1) := by decide +kernel
theorem dX7_rests_96 : decode cX7_rests 96 = .ok (.ireturn, 1) := by decide +kernel
theorem dX7_deaf_0 : decode cX7_deaf 0 = .ok (.aload_n 0, 1) := by decide +kernel
theorem dX7_deaf_1 : decode cX7_deaf 1 = .ok (.iload_n 1, 1) := by decide +kernel
theorem dX7_deaf_2 : decode cX7_deaf 2 = .ok (.iload_n 2, 1) := by decide +kernel
theorem dX7_deaf_3 : decode cX7_deaf 3 = .ok (.iload_n 3, 1) := by decide +kernel
theorem dX7_deaf_4 : decode cX7_deaf 4 = .ok (.invokevirtual 132, 3) := by decide +kernel
theorem dX7_deaf_7 : decode cX7_deaf 7 = .ok (.istore 6, 2) := by decide +kernel
theorem dX7_deaf_9 : decode cX7_deaf 9 = .ok (.iload 6, 2) := by decide +kernel
theorem dX7_deaf_11 : decode cX7_deaf 11 = .ok (.ifCond .eq 6, 3) := by decide +kernel
theorem dX7_deaf_14 : decode cX7_deaf 14 = .ok (.iload 6, 2) := by decide +kernel
theorem dX7_deaf_16 : decode cX7_deaf 16 = .ok (.ireturn, 1) := by decide +kernel
theorem dX7_deaf_17 : decode cX7_deaf 17 = .ok (.iload 4, 2) := by decide +kernel
theorem dX7_deaf_19 : decode cX7_deaf 19 = .ok (.ifCond .lt 10, 3) := by decide +kernel
theorem dX7_deaf_22 : decode cX7_deaf 22 = .ok (.iload 4, 2) := by decide +kernel
theorem dX7_deaf_24 : decode cX7_deaf 24 = .ok (.bipush 10, 2) := by decide +kernel
theorem dX7_deaf_26 : decode cX7_deaf 26 = .ok (.if_icmp .le 6, 3) := by decide +kernel
theorem dX7_deaf_29 : decode cX7_deaf 29 = .ok (.bipush (-2), 2) := by decide +kernel
theorem dX7_deaf_31 : decode cX7_deaf 31 = .ok (.ireturn, 1) := by decide +kernel
theorem dX7_deaf_32 : decode cX7_deaf 32 = .ok (.aload_n 0, 1) := by decide +kernel
theorem dX7_deaf_33 : decode cX7_deaf 33 = .ok (.getfield 28, 3) := by decide +kernel
theorem dX7_deaf_36 : decode cX7_deaf 36 = .ok (.iload_n 1, 1) := by decide +kernel
theorem dX7_deaf_37 : decode cX7_deaf 37 = .ok (.iload_n 3, 1) := by decide +kernel
theorem dX7_deaf_38 : decode cX7_deaf 38 = .ok (.invokevirtual 161, 3) := by decide +kernel
theorem dX7_deaf_41 : decode cX7_deaf 41 = .ok (.aload_n 0, 1) := by decide +kernel
theorem dX7_deaf_42 : decode cX7_deaf 42 = .ok (.getfield 28, 3) := by decide +kernel
theorem dX7_deaf_45 : decode cX7_deaf 45 = .ok (.iload_n 2, 1) := by decide +kernel
theorem dX7_deaf_46 : decode cX7_deaf 46 = .ok (.invokevirtual 167, 3) := by decide +kernel
theorem dX7_deaf_49 : decode cX7_deaf 49 = .ok (.iand, 1) := by decide +kernel
theorem dX7_deaf_50 : decode cX7_deaf 50 = .ok (.invokestatic 176, 3) := by decide +kernel
theorem dX7_deaf_53 : decode cX7_deaf 53 = .ok (.istore 7, 2) := by decide +kernel
theorem dX7_deaf_55 : decode cX7_deaf 55 = .ok (.iload 4, 2) := by decide +kernel
theorem dX7_deaf_57 : decode cX7_deaf 57 = .ok (.iload 7, 2) := by decide +kernel
theorem dX7_deaf_59 : decode cX7_deaf 59 = .ok (.invokestatic 220, 3) := by decide +kernel
theorem dX7_deaf_62 : decode cX7_deaf 62 = .ok (.bipush 10, 2) := by decide +kernel
theorem dX7_deaf_64 : decode cX7_deaf 64 = .ok (.iload 7, 2) := by decide +kernel
theorem dX7_deaf_66 : decode cX7_deaf 66 = .ok (.invokestatic 220, 3) := by decide +kernel
theorem dX7_deaf_69 : decode cX7_deaf 69 = .ok (.iload 5, 2) := by decide +kernel
theorem dX7_deaf_71 : decode cX7_deaf 71 = .ok (.invokestatic 205, 3) := by decide +kernel
theorem dX7_deaf_74 : decode cX7_deaf 74 = .ok (.ireturn, 1) := by decide +kernel
theorem dX7_seed_0 : decode cX7_seed 0 = .ok (.aload_n 0, 1) := by decide +kernel
theorem dX7_seed_1 : decode cX7_seed 1 = .ok (.getfield 223, 3) := by decide +kernel
theorem dX7_seed_4 : decode cX7_seed 4 = .ok (.lstore_n 3, 1) := by decide +kernel
theorem dX7_seed_5 : decode cX7_seed 5 = .ok (.aload_n 0, 1) := by decide +kernel
theorem dX7_seed_6 : decode cX7_seed 6 = .ok (.lload_n 1, 1) := by decide +kernel
theorem dX7_seed_7 : decode cX7_seed 7 = .ok (.putfield 223, 3) := by decide +kernel
theorem dX7_seed_10 : decode cX7_seed 10 = .ok (.lload_n 3, 1) := by decide +kernel
theorem dX7_seed_11 : decode cX7_seed 11 = .ok (.lreturn, 1) := by decide +kernel
theorem dX7_evenings_0 : decode cX7_evenings 0 = .ok (.iload_n 1, 1) := by decide +kernel
theorem dX7_evenings_1 : decode cX7_evenings 1 = .ok (.iconst 1, 1) := by decide +kernel
theorem dX7_evenings_2 : decode cX7_evenings 2 = .ok (.if_icmp .lt 9, 3) := by decide +kernel
theorem dX7_evenings_5 : decode cX7_evenings 5 = .ok (.iload_n 1, 1) := by decide +kernel
theorem dX7_evenings_6 : decode cX7_evenings 6 = .ok (.bipush 30, 2) := by decide +kernel
theorem dX7_evenings_8 : decode cX7_evenings 8 = .ok (.if_icmp .le 6, 3) := by decide +kernel
theorem dX7_evenings_11 : decode cX7_evenings 11 = .ok (.bipush (-2), 2) := by decide +kernel
theorem dX7_evenings_13 : decode cX7_evenings 13 = .ok (.ireturn, 1) := by decide +kernel
theorem dX7_evenings_14 : decode cX7_evenings 14 = .ok (.aload_n 0, 1) := by decide +kernel
theorem dX7_evenings_15 : decode cX7_evenings 15 = .ok (.getfield 32, 3) := by decide +kernel
theorem dX7_evenings_18 : decode cX7_evenings 18 = .ok (.aload_n 0, 1) := by decide +kernel
theorem dX7_evenings_19 : decode cX7_evenings 19 = .ok (.getfield 28, 3) := by decide +kernel
theorem dX7_evenings_22 : decode cX7_evenings 22 = .ok (.invokevirtual 164, 3) := by decide +kernel
theorem dX7_evenings_25 : decode cX7_evenings 25 = .ok (.iconst 0, 1) := by decide +kernel
theorem dX7_evenings_26 : decode cX7_evenings 26 = .ok (.istore_n 2, 1) := by decide +kernel
theorem dX7_evenings_27 : decode cX7_evenings 27 = .ok (.iload_n 2, 1) := by decide +kernel
theorem dX7_evenings_28 : decode cX7_evenings 28 = .ok (.iload_n 1, 1) := by decide +kernel
theorem dX7_evenings_29 : decode cX7_evenings 29 = .ok (.if_icmp .ge 84, 3) := by decide +kernel
theorem dX7_evenings_32 : decode cX7_evenings 32 = .ok (.aload_n 0, 1) := by decide +kernel
theorem dX7_evenings_33 : decode cX7_evenings 33 = .ok (.aload_n 0, 1) := by decide +kernel
theorem dX7_evenings_34 : decode cX7_evenings 34 = .ok (.getfield 223, 3) := by decide +kernel
theorem dX7_evenings_37 : decode cX7_evenings 37 = .ok (.ldc2_w 227, 3) := by decide +kernel
theorem dX7_evenings_40 : decode cX7_evenings 40 = .ok (.lmul, 1) := by decide +kernel
theorem dX7_evenings_41 : decode cX7_evenings 41 = .ok (.ldc2_w 229, 3) := by decide +kernel
theorem dX7_evenings_44 : decode cX7_evenings 44 = .ok (.ladd, 1) := by decide +kernel
theorem dX7_evenings_45 : decode cX7_evenings 45 = .ok (.putfield 223, 3) := by decide +kernel
theorem dX7_evenings_48 : decode cX7_evenings 48 = .ok (.aload_n 0, 1) := by decide +kernel
theorem dX7_evenings_49 : decode cX7_evenings 49 = .ok (.getfield 223, 3) := by decide +kernel
theorem dX7_evenings_52 : decode cX7_evenings 52 = .ok (.bipush 33, 2) := by decide +kernel
theorem dX7_evenings_54 : decode cX7_evenings 54 = .ok (.lushr, 1) := by decide +kernel
theorem dX7_evenings_55 : decode cX7_evenings 55 = .ok (.l2i, 1) := by decide +kernel
theorem dX7_evenings_56 : decode cX7_evenings 56 = .ok (.bipush 60, 2) := by decide +kernel
theorem dX7_evenings_58 : decode cX7_evenings 58 = .ok (.irem, 1) := by decide +kernel
theorem dX7_evenings_59 : decode cX7_evenings 59 = .ok (.istore_n 3, 1) := by decide +kernel
theorem dX7_evenings_60 : decode cX7_evenings 60 = .ok (.iload_n 3, 1) := by decide +kernel
theorem dX7_evenings_61 : decode cX7_evenings 61 = .ok (.bipush 12, 2) := by decide +kernel
theorem dX7_evenings_63 : decode cX7_evenings 63 = .ok (.idiv, 1) := by decide +kernel
theorem dX7_evenings_64 : decode cX7_evenings 64 = .ok (.istore 4, 2) := by decide +kernel
theorem dX7_evenings_66 : decode cX7_evenings 66 = .ok (.iload_n 3, 1) := by decide +kernel
theorem dX7_evenings_67 : decode cX7_evenings 67 = .ok (.bipush 12, 2) := by decide +kernel
theorem dX7_evenings_69 : decode cX7_evenings 69 = .ok (.irem, 1) := by decide +kernel
theorem dX7_evenings_70 : decode cX7_evenings 70 = .ok (.bipush 6, 2) := by decide +kernel
theorem dX7_evenings_72 : decode cX7_evenings 72 = .ok (.if_icmp .ge 7, 3) := by decide +kernel
theorem dX7_evenings_75 : decode cX7_evenings 75 = .ok (.iconst 1, 1) := by decide +kernel
theorem dX7_evenings_76 : decode cX7_evenings 76 = .ok (.goto 4, 3) := by decide +kernel
theorem dX7_evenings_79 : decode cX7_evenings 79 = .ok (.iconst 2, 1) := by decide +kernel
theorem dX7_evenings_80 : decode cX7_evenings 80 = .ok (.istore 5, 2) := by decide +kernel
theorem dX7_evenings_82 : decode cX7_evenings 82 = .ok (.aload_n 0, 1) := by decide +kernel
theorem dX7_evenings_83 : decode cX7_evenings 83 = .ok (.iload 4, 2) := by decide +kernel
theorem dX7_evenings_85 : decode cX7_evenings 85 = .ok (.invokevirtual 109, 3) := by decide +kernel
theorem dX7_evenings_88 : decode cX7_evenings 88 = .ok (.ifCond .eq 19, 3) := by decide +kernel
theorem dX7_evenings_91 : decode cX7_evenings 91 = .ok (.aload_n 0, 1) := by decide +kernel
theorem dX7_evenings_92 : decode cX7_evenings 92 = .ok (.getfield 32, 3) := by decide +kernel
theorem dX7_evenings_95 : decode cX7_evenings 95 = .ok (.iload 4, 2) := by decide +kernel
theorem dX7_evenings_97 : decode cX7_evenings 97 = .ok (.iload_n 3, 1) := by decide +kernel
theorem dX7_evenings_98 : decode cX7_evenings 98 = .ok (.bipush 6, 2) := by decide +kernel
theorem dX7_evenings_100 : decode cX7_evenings 100 = .ok (.irem, 1) := by decide +kernel
theorem dX7_evenings_101 : decode cX7_evenings 101 = .ok (.iload 5, 2) := by decide +kernel
theorem dX7_evenings_103 : decode cX7_evenings 103 = .ok (.invokevirtual 140, 3) := by decide +kernel
theorem dX7_evenings_106 : decode cX7_evenings 106 = .ok (.pop, 1) := by decide +kernel
theorem dX7_evenings_107 : decode cX7_evenings 107 = .ok (.iinc 2 1, 3) := by decide +kernel
theorem dX7_evenings_110 : decode cX7_evenings 110 = .ok (.goto (-83), 3) := by decide +kernel
theorem dX7_evenings_113 : decode cX7_evenings 113 = .ok (.aload_n 0, 1) := by decide +kernel
theorem dX7_evenings_114 : decode cX7_evenings 114 = .ok (.getfield 32, 3) := by decide +kernel
theorem dX7_evenings_117 : decode cX7_evenings 117 = .ok (.invokevirtual 99, 3) := by decide +kernel
theorem dX7_evenings_120 : decode cX7_evenings 120 = .ok (.aload_n 0, 1) := by decide +kernel
theorem dX7_evenings_121 : decode cX7_evenings 121 = .ok (.getfield 28, 3) := by decide +kernel
theorem dX7_evenings_124 : decode cX7_evenings 124 = .ok (.invokevirtual 99, 3) := by decide +kernel
theorem dX7_evenings_127 : decode cX7_evenings 127 = .ok (.isub, 1) := by decide +kernel
theorem dX7_evenings_128 : decode cX7_evenings 128 = .ok (.ireturn, 1) := by decide +kernel
theorem dX7_keep_0 : decode cX7_keep 0 = .ok (.iload_n 1, 1) := by decide +kernel
theorem dX7_keep_1 : decode cX7_keep 1 = .ok (.invokestatic 231, 3) := by decide +kernel
theorem dX7_keep_4 : decode cX7_keep 4 = .ok (.ifCond .ne 5, 3) := by decide +kernel
theorem dX7_keep_7 : decode cX7_keep 7 = .ok (.iconst (-1), 1) := by decide +kernel
theorem dX7_keep_8 : decode cX7_keep 8 = .ok (.ireturn, 1) := by decide +kernel
theorem dX7_keep_9 : decode cX7_keep 9 = .ok (.aload_n 0, 1) := by decide +kernel
theorem dX7_keep_10 : decode cX7_keep 10 = .ok (.getfield 47, 3) := by decide +kernel
theorem dX7_keep_13 : decode cX7_keep 13 = .ok (.iload_n 1, 1) := by decide +kernel
theorem dX7_keep_14 : decode cX7_keep 14 = .ok (.aload_n 0, 1) := by decide +kernel
theorem dX7_keep_15 : decode cX7_keep 15 = .ok (.getfield 28, 3) := by decide +kernel
theorem dX7_keep_18 : decode cX7_keep 18 = .ok (.invokevirtual 234, 3) := by decide +kernel
theorem dX7_keep_21 : decode cX7_keep 21 = .ok (.aload_n 0, 1) := by decide +kernel
theorem dX7_keep_22 : decode cX7_keep 22 = .ok (.dup, 1) := by decide +kernel
theorem dX7_keep_23 : decode cX7_keep 23 = .ok (.getfield 89, 3) := by decide +kernel
theorem dX7_keep_26 : decode cX7_keep 26 = .ok (.iconst 1, 1) := by decide +kernel
theorem dX7_keep_27 : decode cX7_keep 27 = .ok (.iload_n 1, 1) := by decide +kernel
theorem dX7_keep_28 : decode cX7_keep 28 = .ok (.ishl, 1) := by decide +kernel
theorem dX7_keep_29 : decode cX7_keep 29 = .ok (.ior, 1) := by decide +kernel
theorem dX7_keep_30 : decode cX7_keep 30 = .ok (.putfield 89, 3) := by decide +kernel
theorem dX7_keep_33 : decode cX7_keep 33 = .ok (.aload_n 0, 1) := by decide +kernel
theorem dX7_keep_34 : decode cX7_keep 34 = .ok (.getfield 28, 3) := by decide +kernel
theorem dX7_keep_37 : decode cX7_keep 37 = .ok (.invokevirtual 99, 3) := by decide +kernel
theorem dX7_keep_40 : decode cX7_keep 40 = .ok (.ireturn, 1) := by decide +kernel
theorem dX7_again_0 : decode cX7_again 0 = .ok (.iload_n 1, 1) := by decide +kernel
theorem dX7_again_1 : decode cX7_again 1 = .ok (.invokestatic 231, 3) := by decide +kernel
theorem dX7_again_4 : decode cX7_again 4 = .ok (.ifCond .ne 5, 3) := by decide +kernel
theorem dX7_again_7 : decode cX7_again 7 = .ok (.iconst (-1), 1) := by decide +kernel
theorem dX7_again_8 : decode cX7_again 8 = .ok (.ireturn, 1) := by decide +kernel
theorem dX7_again_9 : decode cX7_again 9 = .ok (.aload_n 0, 1) := by decide +kernel
theorem dX7_again_10 : decode cX7_again 10 = .ok (.getfield 89, 3) := by decide +kernel
theorem dX7_again_13 : decode cX7_again 13 = .ok (.iload_n 1, 1) := by decide +kernel
theorem dX7_again_14 : decode cX7_again 14 = .ok (.invokestatic 146, 3) := by decide +kernel
theorem dX7_again_17 : decode cX7_again 17 = .ok (.ifCond .ne 6, 3) := by decide +kernel
theorem dX7_again_20 : decode cX7_again 20 = .ok (.bipush (-3), 2) := by decide +kernel
theorem dX7_again_22 : decode cX7_again 22 = .ok (.ireturn, 1) := by decide +kernel
theorem dX7_again_23 : decode cX7_again 23 = .ok (.aload_n 0, 1) := by decide +kernel
theorem dX7_again_24 : decode cX7_again 24 = .ok (.getfield 47, 3) := by decide +kernel
theorem dX7_again_27 : decode cX7_again 27 = .ok (.iload_n 1, 1) := by decide +kernel
theorem dX7_again_28 : decode cX7_again 28 = .ok (.aload_n 0, 1) := by decide +kernel
theorem dX7_again_29 : decode cX7_again 29 = .ok (.getfield 28, 3) := by decide +kernel
theorem dX7_again_32 : decode cX7_again 32 = .ok (.invokevirtual 238, 3) := by decide +kernel
theorem dX7_again_35 : decode cX7_again 35 = .ok (.aload_n 0, 1) := by decide +kernel
theorem dX7_again_36 : decode cX7_again 36 = .ok (.getfield 38, 3) := by decide +kernel
theorem dX7_again_39 : decode cX7_again 39 = .ok (.invokevirtual 88, 3) := by decide +kernel
theorem dX7_again_42 : decode cX7_again 42 = .ok (.aload_n 0, 1) := by decide +kernel
theorem dX7_again_43 : decode cX7_again 43 = .ok (.getfield 28, 3) := by decide +kernel
theorem dX7_again_46 : decode cX7_again 46 = .ok (.invokevirtual 99, 3) := by decide +kernel
theorem dX7_again_49 : decode cX7_again 49 = .ok (.ireturn, 1) := by decide +kernel
theorem dX7_isPerson_0 : decode cX7_isPerson 0 = .ok (.iload_n 1, 1) := by decide +kernel
theorem dX7_isPerson_1 : decode cX7_isPerson 1 = .ok (.ifCond .lt 18, 3) := by decide +kernel
theorem dX7_isPerson_4 : decode cX7_isPerson 4 = .ok (.iload_n 1, 1) := by decide +kernel
theorem dX7_isPerson_5 : decode cX7_isPerson 5 = .ok (.aload_n 0, 1) := by decide +kernel
theorem dX7_isPerson_6 : decode cX7_isPerson 6 = .ok (.getfield 19, 3) := by decide +kernel
theorem dX7_isPerson_9 : decode cX7_isPerson 9 = .ok (.invokevirtual 93, 3) := by decide +kernel
theorem dX7_isPerson_12 : decode cX7_isPerson 12 = .ok (.if_icmp .ge 7, 3) := by decide +kernel
theorem dX7_isPerson_15 : decode cX7_isPerson 15 = .ok (.iconst 1, 1) := by decide +kernel
theorem dX7_isPerson_16 : decode cX7_isPerson 16 = .ok (.goto 4, 3) := by decide +kernel
theorem dX7_isPerson_19 : decode cX7_isPerson 19 = .ok (.iconst 0, 1) := by decide +kernel
theorem dX7_isPerson_20 : decode cX7_isPerson 20 = .ok (.ireturn, 1) := by decide +kernel
theorem dX7_isFact_0 : decode cX7_isFact 0 = .ok (.iload_n 0, 1) := by decide +kernel
theorem dX7_isFact_1 : decode cX7_isFact 1 = .ok (.ifCond .lt 13, 3) := by decide +kernel
theorem dX7_isFact_4 : decode cX7_isFact 4 = .ok (.iload_n 0, 1) := by decide +kernel
theorem dX7_isFact_5 : decode cX7_isFact 5 = .ok (.bipush 6, 2) := by decide +kernel
theorem dX7_isFact_7 : decode cX7_isFact 7 = .ok (.if_icmp .ge 7, 3) := by decide +kernel
theorem dX7_isFact_10 : decode cX7_isFact 10 = .ok (.iconst 1, 1) := by decide +kernel
theorem dX7_isFact_11 : decode cX7_isFact 11 = .ok (.goto 4, 3) := by decide +kernel
theorem dX7_isFact_14 : decode cX7_isFact 14 = .ok (.iconst 0, 1) := by decide +kernel
theorem dX7_isFact_15 : decode cX7_isFact 15 = .ok (.ireturn, 1) := by decide +kernel
theorem dX7_isVoice_0 : decode cX7_isVoice 0 = .ok (.iload_n 0, 1) := by decide +kernel
theorem dX7_isVoice_1 : decode cX7_isVoice 1 = .ok (.iconst 1, 1) := by decide +kernel
theorem dX7_isVoice_2 : decode cX7_isVoice 2 = .ok (.if_icmp .lt 12, 3) := by decide +kernel
theorem dX7_isVoice_5 : decode cX7_isVoice 5 = .ok (.iload_n 0, 1) := by decide +kernel
theorem dX7_isVoice_6 : decode cX7_isVoice 6 = .ok (.iconst 2, 1) := by decide +kernel
theorem dX7_isVoice_7 : decode cX7_isVoice 7 = .ok (.if_icmp .gt 7, 3) := by decide +kernel
theorem dX7_isVoice_10 : decode cX7_isVoice 10 = .ok (.iconst 1, 1) := by decide +kernel
theorem dX7_isVoice_11 : decode cX7_isVoice 11 = .ok (.goto 4, 3) := by decide +kernel
theorem dX7_isVoice_14 : decode cX7_isVoice 14 = .ok (.iconst 0, 1) := by decide +kernel
theorem dX7_isVoice_15 : decode cX7_isVoice 15 = .ok (.ireturn, 1) := by decide +kernel
theorem dX7_isSlot_0 : decode cX7_isSlot 0 = .ok (.iload_n 0, 1) := by decide +kernel
theorem dX7_isSlot_1 : decode cX7_isSlot 1 = .ok (.ifCond .lt 12, 3) := by decide +kernel
theorem dX7_isSlot_4 : decode cX7_isSlot 4 = .ok (.iload_n 0, 1) := by decide +kernel
theorem dX7_isSlot_5 : decode cX7_isSlot 5 = .ok (.iconst 2, 1) := by decide +kernel
theorem dX7_isSlot_6 : decode cX7_isSlot 6 = .ok (.if_icmp .ge 7, 3) := by decide +kernel
theorem dX7_isSlot_9 : decode cX7_isSlot 9 = .ok (.iconst 1, 1) := by decide +kernel
theorem dX7_isSlot_10 : decode cX7_isSlot 10 = .ok (.goto 4, 3) := by decide +kernel
theorem dX7_isSlot_13 : decode cX7_isSlot 13 = .ok (.iconst 0, 1) := by decide +kernel
theorem dX7_isSlot_14 : decode cX7_isSlot 14 = .ok (.ireturn, 1) := by decide +kernel
theorem dX7_refusalToSay_0 : decode cX7_refusalToSay 0 = .ok (.aload_n 0, 1) := by decide +kernel
theorem dX7_refusalToSay_1 : decode cX7_refusalToSay 1 = .ok (.iload_n 1, 1) := by decide +kernel
theorem dX7_refusalToSay_2 : decode cX7_refusalToSay 2 = .ok (.invokevirtual 109, 3) := by decide +kernel
theorem dX7_refusalToSay_5 : decode cX7_refusalToSay 5 = .ok (.ifCond .eq 10, 3) := by decide +kernel
theorem dX7_refusalToSay_8 : decode cX7_refusalToSay 8 = .ok (.iload_n 2, 1) := by decide +kernel
theorem dX7_refusalToSay_9 : decode cX7_refusalToSay 9 = .ok (.invokestatic 143, 3) := by decide +kernel
theorem dX7_refusalToSay_12 : decode cX7_refusalToSay 12 = .ok (.ifCond .ne 5, 3) := by decide +kernel
theorem dX7_refusalToSay_15 : decode cX7_refusalToSay 15 = .ok (.iconst (-1), 1) := by decide +kernel
theorem dX7_refusalToSay_16 : decode cX7_refusalToSay 16 = .ok (.ireturn, 1) := by decide +kernel
theorem dX7_refusalToSay_17 : decode cX7_refusalToSay 17 = .ok (.iload_n 3, 1) := by decide +kernel
theorem dX7_refusalToSay_18 : decode cX7_refusalToSay 18 = .ok (.invokestatic 241, 3) := by decide +kernel
theorem dX7_refusalToSay_21 : decode cX7_refusalToSay 21 = .ok (.ifCond .eq 7, 3) := by decide +kernel
theorem dX7_refusalToSay_24 : decode cX7_refusalToSay 24 = .ok (.iconst 0, 1) := by decide +kernel
theorem dX7_refusalToSay_25 : decode cX7_refusalToSay 25 = .ok (.goto 5, 3) := by decide +kernel
theorem dX7_refusalToSay_28 : decode cX7_refusalToSay 28 = .ok (.bipush (-2), 2) := by decide +kernel
theorem dX7_refusalToSay_30 : decode cX7_refusalToSay 30 = .ok (.ireturn, 1) := by decide +kernel
theorem dX7_lets_0 : decode cX7_lets 0 = .ok (.aload_n 0, 1) := by decide +kernel
theorem dX7_lets_1 : decode cX7_lets 1 = .ok (.getfield 19, 3) := by decide +kernel
theorem dX7_lets_4 : decode cX7_lets 4 = .ok (.aload_n 0, 1) := by decide +kernel
theorem dX7_lets_5 : decode cX7_lets 5 = .ok (.getfield 13, 3) := by decide +kernel
theorem dX7_lets_8 : decode cX7_lets 8 = .ok (.iload_n 1, 1) := by decide +kernel
theorem dX7_lets_9 : decode cX7_lets 9 = .ok (.iconst 1, 1) := by decide +kernel
theorem dX7_lets_10 : decode cX7_lets 10 = .ok (.iadd, 1) := by decide +kernel
theorem dX7_lets_11 : decode cX7_lets 11 = .ok (.invokevirtual 81, 3) := by decide +kernel
theorem dX7_lets_14 : decode cX7_lets 14 = .ok (.invokevirtual 244, 3) := by decide +kernel
theorem dX7_lets_17 : decode cX7_lets 17 = .ok (.istore_n 2, 1) := by decide +kernel
theorem dX7_lets_18 : decode cX7_lets 18 = .ok (.aload_n 0, 1) := by decide +kernel
theorem dX7_lets_19 : decode cX7_lets 19 = .ok (.getfield 28, 3) := by decide +kernel
theorem dX7_lets_22 : decode cX7_lets 22 = .ok (.iload_n 2, 1) := by decide +kernel
theorem dX7_lets_23 : decode cX7_lets 23 = .ok (.aload_n 0, 1) := by decide +kernel
theorem dX7_lets_24 : decode cX7_lets 24 = .ok (.getfield 13, 3) := by decide +kernel
theorem dX7_lets_27 : decode cX7_lets 27 = .ok (.iload_n 1, 1) := by decide +kernel
theorem dX7_lets_28 : decode cX7_lets 28 = .ok (.iconst 2, 1) := by decide +kernel
theorem dX7_lets_29 : decode cX7_lets 29 = .ok (.iadd, 1) := by decide +kernel
theorem dX7_lets_30 : decode cX7_lets 30 = .ok (.invokevirtual 247, 3) := by decide +kernel
theorem dX7_lets_33 : decode cX7_lets 33 = .ok (.aload_n 0, 1) := by decide +kernel
theorem dX7_lets_34 : decode cX7_lets 34 = .ok (.getfield 13, 3) := by decide +kernel
theorem dX7_lets_37 : decode cX7_lets 37 = .ok (.iload_n 1, 1) := by decide +kernel
theorem dX7_lets_38 : decode cX7_lets 38 = .ok (.iconst 3, 1) := by decide +kernel
theorem dX7_lets_39 : decode cX7_lets 39 = .ok (.iadd, 1) := by decide +kernel
theorem dX7_lets_40 : decode cX7_lets 40 = .ok (.invokevirtual 247, 3) := by decide +kernel
theorem dX7_lets_43 : decode cX7_lets 43 = .ok (.iconst 3, 1) := by decide +kernel
theorem dX7_lets_44 : decode cX7_lets 44 = .ok (.ishl, 1) := by decide +kernel
theorem dX7_lets_45 : decode cX7_lets 45 = .ok (.ior, 1) := by decide +kernel
theorem dX7_lets_46 : decode cX7_lets 46 = .ok (.invokevirtual 150, 3) := by decide +kernel
theorem dX7_lets_49 : decode cX7_lets 49 = .ok (.aload_n 0, 1) := by decide +kernel
theorem dX7_lets_50 : decode cX7_lets 50 = .ok (.getfield 28, 3) := by decide +kernel
theorem dX7_lets_53 : decode cX7_lets 53 = .ok (.iload_n 2, 1) := by decide +kernel
theorem dX7_lets_54 : decode cX7_lets 54 = .ok (.iload_n 2, 1) := by decide +kernel
theorem dX7_lets_55 : decode cX7_lets 55 = .ok (.invokevirtual 154, 3) := by decide +kernel
theorem dX7_lets_58 : decode cX7_lets 58 = .ok (.return_, 1) := by decide +kernel
theorem dX7_isPutRight_0 : decode cX7_isPutRight 0 = .ok (.aload_n 0, 1) := by decide +kernel
theorem dX7_isPutRight_1 : decode cX7_isPutRight 1 = .ok (.iload_n 1, 1) := by decide +kernel
theorem dX7_isPutRight_2 : decode cX7_isPutRight 2 = .ok (.iload_n 2, 1) := by decide +kernel
theorem dX7_isPutRight_3 : decode cX7_isPutRight 3 = .ok (.iload_n 3, 1) := by decide +kernel
theorem dX7_isPutRight_4 : decode cX7_isPutRight 4 = .ok (.invokevirtual 132, 3) := by decide +kernel
theorem dX7_isPutRight_7 : decode cX7_isPutRight 7 = .ok (.ifCond .ne 22, 3) := by decide +kernel
theorem dX7_isPutRight_10 : decode cX7_isPutRight 10 = .ok (.aload_n 0, 1) := by decide +kernel
theorem dX7_isPutRight_11 : decode cX7_isPutRight 11 = .ok (.getfield 32, 3) := by decide +kernel
theorem dX7_isPutRight_14 : decode cX7_isPutRight 14 = .ok (.iload_n 1, 1) := by decide +kernel
theorem dX7_isPutRight_15 : decode cX7_isPutRight 15 = .ok (.iload_n 2, 1) := by decide +kernel
theorem dX7_isPutRight_16 : decode cX7_isPutRight 16 = .ok (.iload_n 3, 1) := by decide +kernel
theorem dX7_isPutRight_17 : decode cX7_isPutRight 17 = .ok (.invokevirtual 140, 3) := by decide +kernel
theorem dX7_isPutRight_20 : decode cX7_isPutRight 20 = .ok (.bipush (-9), 2) := by decide +kernel
theorem dX7_isPutRight_22 : decode cX7_isPutRight 22 = .ok (.if_icmp .eq 7, 3) := by decide +kernel
theorem dX7_isPutRight_25 : decode cX7_isPutRight 25 = .ok (.iconst 1, 1) := by decide +kernel
theorem dX7_isPutRight_26 : decode cX7_isPutRight 26 = .ok (.goto 4, 3) := by decide +kernel
theorem dX7_isPutRight_29 : decode cX7_isPutRight 29 = .ok (.iconst 0, 1) := by decide +kernel
theorem dX7_isPutRight_30 : decode cX7_isPutRight 30 = .ok (.ireturn, 1) := by decide +kernel
theorem dX7_factsTogether_0 : decode cX7_factsTogether 0 = .ok (.iconst 0, 1) := by decide +kernel
theorem dX7_factsTogether_1 : decode cX7_factsTogether 1 = .ok (.istore_n 2, 1) := by decide +kernel
theorem dX7_factsTogether_2 : decode cX7_factsTogether 2 = .ok (.iconst 0, 1) := by decide +kernel
theorem dX7_factsTogether_3 : decode cX7_factsTogether 3 = .ok (.istore_n 3, 1) := by decide +kernel
theorem dX7_factsTogether_4 : decode cX7_factsTogether 4 = .ok (.iload_n 3, 1) := by decide +kernel
theorem dX7_factsTogether_5 : decode cX7_factsTogether 5 = .ok (.aload_n 0, 1) := by decide +kernel
theorem dX7_factsTogether_6 : decode cX7_factsTogether 6 = .ok (.getfield 19, 3) := by decide +kernel
theorem dX7_factsTogether_9 : decode cX7_factsTogether 9 = .ok (.invokevirtual 93, 3) := by decide +kernel
theorem dX7_factsTogether_12 : decode cX7_factsTogether 12 = .ok (.if_icmp .ge 28, 3) := by decide +kernel
theorem dX7_factsTogether_15 : decode cX7_factsTogether 15 = .ok (.iload_n 1, 1) := by decide +kernel
theorem dX7_factsTogether_16 : decode cX7_factsTogether 16 = .ok (.iload_n 3, 1) := by decide +kernel
theorem dX7_factsTogether_17 : decode cX7_factsTogether 17 = .ok (.invokestatic 146, 3) := by decide +kernel
theorem dX7_factsTogether_20 : decode cX7_factsTogether 20 = .ok (.ifCond .eq 14, 3) := by decide +kernel
theorem dX7_factsTogether_23 : decode cX7_factsTogether 23 = .ok (.iload_n 2, 1) := by decide +kernel
theorem dX7_factsTogether_24 : decode cX7_factsTogether 24 = .ok (.aload_n 0, 1) := by decide +kernel
theorem dX7_factsTogether_25 : decode cX7_factsTogether 25 = .ok (.getfield 28, 3) := by decide +kernel
theorem dX7_factsTogether_28 : decode cX7_factsTogether 28 = .ok (.iload_n 3, 1) := by decide +kernel
theorem dX7_factsTogether_29 : decode cX7_factsTogether 29 = .ok (.invokevirtual 116, 3) := by decide +kernel
theorem dX7_factsTogether_32 : decode cX7_factsTogether 32 = .ok (.ior, 1) := by decide +kernel
theorem dX7_factsTogether_33 : decode cX7_factsTogether 33 = .ok (.istore_n 2, 1) := by decide +kernel
theorem dX7_factsTogether_34 : decode cX7_factsTogether 34 = .ok (.iinc 3 1, 3) := by decide +kernel
theorem dX7_factsTogether_37 : decode cX7_factsTogether 37 = .ok (.goto (-33), 3) := by decide +kernel
theorem dX7_factsTogether_40 : decode cX7_factsTogether 40 = .ok (.aload_n 0, 1) := by decide +kernel
theorem dX7_factsTogether_41 : decode cX7_factsTogether 41 = .ok (.getfield 19, 3) := by decide +kernel
theorem dX7_factsTogether_44 : decode cX7_factsTogether 44 = .ok (.iload_n 2, 1) := by decide +kernel
theorem dX7_factsTogether_45 : decode cX7_factsTogether 45 = .ok (.invokevirtual 184, 3) := by decide +kernel
theorem dX7_factsTogether_48 : decode cX7_factsTogether 48 = .ok (.invokestatic 176, 3) := by decide +kernel
theorem dX7_factsTogether_51 : decode cX7_factsTogether 51 = .ok (.ireturn, 1) := by decide +kernel
theorem dX7_isBestWait_0 : decode cX7_isBestWait 0 = .ok (.iconst 0, 1) := by decide +kernel
theorem dX7_isBestWait_1 : decode cX7_isBestWait 1 = .ok (.istore_n 2, 1) := by decide +kernel
theorem dX7_isBestWait_2 : decode cX7_isBestWait 2 = .ok (.iload_n 2, 1) := by decide +kernel
theorem dX7_isBestWait_3 : decode cX7_isBestWait 3 = .ok (.iconst 3, 1) := by decide +kernel
theorem dX7_isBestWait_4 : decode cX7_isBestWait 4 = .ok (.if_icmp .gt 24, 3) := by decide +kernel
theorem dX7_isBestWait_7 : decode cX7_isBestWait 7 = .ok (.iload_n 2, 1) := by decide +kernel
theorem dX7_isBestWait_8 : decode cX7_isBestWait 8 = .ok (.iload_n 1, 1) := by decide +kernel
theorem dX7_isBestWait_9 : decode cX7_isBestWait 9 = .ok (.invokestatic 250, 3) := by decide +kernel
theorem dX7_isBestWait_12 : decode cX7_isBestWait 12 = .ok (.iload_n 0, 1) := by decide +kernel
theorem dX7_isBestWait_13 : decode cX7_isBestWait 13 = .ok (.iload_n 1, 1) := by decide +kernel
theorem dX7_isBestWait_14 : decode cX7_isBestWait 14 = .ok (.invokestatic 250, 3) := by decide +kernel
theorem dX7_isBestWait_17 : decode cX7_isBestWait 17 = .ok (.if_icmp .ge 5, 3) := by decide +kernel
theorem dX7_isBestWait_20 : decode cX7_isBestWait 20 = .ok (.iconst 0, 1) := by decide +kernel
theorem dX7_isBestWait_21 : decode cX7_isBestWait 21 = .ok (.ireturn, 1) := by decide +kernel
theorem dX7_isBestWait_22 : decode cX7_isBestWait 22 = .ok (.iinc 2 1, 3) := by decide +kernel
theorem dX7_isBestWait_25 : decode cX7_isBestWait 25 = .ok (.goto (-23), 3) := by decide +kernel
theorem dX7_isBestWait_28 : decode cX7_isBestWait 28 = .ok (.iconst 1, 1) := by decide +kernel
theorem dX7_isBestWait_29 : decode cX7_isBestWait 29 = .ok (.ireturn, 1) := by decide +kernel
theorem dX7_waitCost_0 : decode cX7_waitCost 0 = .ok (.iload_n 0, 1) := by decide +kernel
theorem dX7_waitCost_1 : decode cX7_waitCost 1 = .ok (.iconst 3, 1) := by decide +kernel
theorem dX7_waitCost_2 : decode cX7_waitCost 2 = .ok (.if_icmp .ne 11, 3) := by decide +kernel
theorem dX7_waitCost_5 : decode cX7_waitCost 5 = .ok (.iload_n 1, 1) := by decide +kernel
theorem dX7_waitCost_6 : decode cX7_waitCost 6 = .ok (.iconst 3, 1) := by decide +kernel
theorem dX7_waitCost_7 : decode cX7_waitCost 7 = .ok (.if_icmp .ne 6, 3) := by decide +kernel
theorem dX7_waitCost_10 : decode cX7_waitCost 10 = .ok (.bipush 6, 2) := by decide +kernel
theorem dX7_waitCost_12 : decode cX7_waitCost 12 = .ok (.ireturn, 1) := by decide +kernel
theorem dX7_waitCost_13 : decode cX7_waitCost 13 = .ok (.iload_n 0, 1) := by decide +kernel
theorem dX7_waitCost_14 : decode cX7_waitCost 14 = .ok (.iload_n 1, 1) := by decide +kernel
theorem dX7_waitCost_15 : decode cX7_waitCost 15 = .ok (.invokestatic 253, 3) := by decide +kernel
theorem dX7_waitCost_18 : decode cX7_waitCost 18 = .ok (.iload_n 0, 1) := by decide +kernel
theorem dX7_waitCost_19 : decode cX7_waitCost 19 = .ok (.iload_n 1, 1) := by decide +kernel
theorem dX7_waitCost_20 : decode cX7_waitCost 20 = .ok (.if_icmp .gt 7, 3) := by decide +kernel
theorem dX7_waitCost_23 : decode cX7_waitCost 23 = .ok (.iconst 3, 1) := by decide +kernel
theorem dX7_waitCost_24 : decode cX7_waitCost 24 = .ok (.goto 4, 3) := by decide +kernel
theorem dX7_waitCost_27 : decode cX7_waitCost 27 = .ok (.iconst 1, 1) := by decide +kernel
theorem dX7_waitCost_28 : decode cX7_waitCost 28 = .ok (.iadd, 1) := by decide +kernel
theorem dX7_waitCost_29 : decode cX7_waitCost 29 = .ok (.ireturn, 1) := by decide +kernel
theorem dX7_contains_0 : decode cX7_contains 0 = .ok (.iload_n 0, 1) := by decide +kernel
theorem dX7_contains_1 : decode cX7_contains 1 = .ok (.iload_n 1, 1) := by decide +kernel
theorem dX7_contains_2 : decode cX7_contains 2 = .ok (.ishr, 1) := by decide +kernel
theorem dX7_contains_3 : decode cX7_contains 3 = .ok (.iconst 1, 1) := by decide +kernel
theorem dX7_contains_4 : decode cX7_contains 4 = .ok (.iand, 1) := by decide +kernel
theorem dX7_contains_5 : decode cX7_contains 5 = .ok (.iconst 1, 1) := by decide +kernel
theorem dX7_contains_6 : decode cX7_contains 6 = .ok (.if_icmp .ne 7, 3) := by decide +kernel
theorem dX7_contains_9 : decode cX7_contains 9 = .ok (.iconst 1, 1) := by decide +kernel
theorem dX7_contains_10 : decode cX7_contains 10 = .ok (.goto 4, 3) := by decide +kernel
theorem dX7_contains_13 : decode cX7_contains 13 = .ok (.iconst 0, 1) := by decide +kernel
theorem dX7_contains_14 : decode cX7_contains 14 = .ok (.ireturn, 1) := by decide +kernel
theorem dX7_isSmaller_0 : decode cX7_isSmaller 0 = .ok (.iload_n 1, 1) := by decide +kernel
theorem dX7_isSmaller_1 : decode cX7_isSmaller 1 = .ok (.bipush (-9), 2) := by decide +kernel
theorem dX7_isSmaller_3 : decode cX7_isSmaller 3 = .ok (.if_icmp .eq 14, 3) := by decide +kernel
theorem dX7_isSmaller_6 : decode cX7_isSmaller 6 = .ok (.iload_n 0, 1) := by decide +kernel
theorem dX7_isSmaller_7 : decode cX7_isSmaller 7 = .ok (.invokestatic 176, 3) := by decide +kernel
theorem dX7_isSmaller_10 : decode cX7_isSmaller 10 = .ok (.iload_n 1, 1) := by decide +kernel
theorem dX7_isSmaller_11 : decode cX7_isSmaller 11 = .ok (.invokestatic 176, 3) := by decide +kernel
theorem dX7_isSmaller_14 : decode cX7_isSmaller 14 = .ok (.if_icmp .ge 7, 3) := by decide +kernel
theorem dX7_isSmaller_17 : decode cX7_isSmaller 17 = .ok (.iconst 1, 1) := by decide +kernel
theorem dX7_isSmaller_18 : decode cX7_isSmaller 18 = .ok (.goto 4, 3) := by decide +kernel
theorem dX7_isSmaller_21 : decode cX7_isSmaller 21 = .ok (.iconst 0, 1) := by decide +kernel
theorem dX7_isSmaller_22 : decode cX7_isSmaller 22 = .ok (.ireturn, 1) := by decide +kernel
theorem dX7_factorial_0 : decode cX7_factorial 0 = .ok (.iconst 1, 1) := by decide +kernel
theorem dX7_factorial_1 : decode cX7_factorial 1 = .ok (.istore_n 1, 1) := by decide +kernel
theorem dX7_factorial_2 : decode cX7_factorial 2 = .ok (.iconst 2, 1) := by decide +kernel
theorem dX7_factorial_3 : decode cX7_factorial 3 = .ok (.istore_n 2, 1) := by decide +kernel
theorem dX7_factorial_4 : decode cX7_factorial 4 = .ok (.iload_n 2, 1) := by decide +kernel
theorem dX7_factorial_5 : decode cX7_factorial 5 = .ok (.iload_n 0, 1) := by decide +kernel
theorem dX7_factorial_6 : decode cX7_factorial 6 = .ok (.if_icmp .gt 13, 3) := by decide +kernel
theorem dX7_factorial_9 : decode cX7_factorial 9 = .ok (.iload_n 1, 1) := by decide +kernel
theorem dX7_factorial_10 : decode cX7_factorial 10 = .ok (.iload_n 2, 1) := by decide +kernel
theorem dX7_factorial_11 : decode cX7_factorial 11 = .ok (.imul, 1) := by decide +kernel
theorem dX7_factorial_12 : decode cX7_factorial 12 = .ok (.istore_n 1, 1) := by decide +kernel
theorem dX7_factorial_13 : decode cX7_factorial 13 = .ok (.iinc 2 1, 3) := by decide +kernel
theorem dX7_factorial_16 : decode cX7_factorial 16 = .ok (.goto (-12), 3) := by decide +kernel
theorem dX7_factorial_19 : decode cX7_factorial 19 = .ok (.iload_n 1, 1) := by decide +kernel
theorem dX7_factorial_20 : decode cX7_factorial 20 = .ok (.ireturn, 1) := by decide +kernel
theorem dX7_power_0 : decode cX7_power 0 = .ok (.iconst 1, 1) := by decide +kernel
theorem dX7_power_1 : decode cX7_power 1 = .ok (.istore_n 2, 1) := by decide +kernel
theorem dX7_power_2 : decode cX7_power 2 = .ok (.iconst 0, 1) := by decide +kernel
theorem dX7_power_3 : decode cX7_power 3 = .ok (.istore_n 3, 1) := by decide +kernel
theorem dX7_power_4 : decode cX7_power 4 = .ok (.iload_n 3, 1) := by decide +kernel
theorem dX7_power_5 : decode cX7_power 5 = .ok (.iload_n 1, 1) := by decide +kernel
theorem dX7_power_6 : decode cX7_power 6 = .ok (.if_icmp .ge 13, 3) := by decide +kernel
theorem dX7_power_9 : decode cX7_power 9 = .ok (.iload_n 2, 1) := by decide +kernel
theorem dX7_power_10 : decode cX7_power 10 = .ok (.iload_n 0, 1) := by decide +kernel
theorem dX7_power_11 : decode cX7_power 11 = .ok (.imul, 1) := by decide +kernel
theorem dX7_power_12 : decode cX7_power 12 = .ok (.istore_n 2, 1) := by decide +kernel
theorem dX7_power_13 : decode cX7_power 13 = .ok (.iinc 3 1, 3) := by decide +kernel
theorem dX7_power_16 : decode cX7_power 16 = .ok (.goto (-12), 3) := by decide +kernel
theorem dX7_power_19 : decode cX7_power 19 = .ok (.iload_n 2, 1) := by decide +kernel
theorem dX7_power_20 : decode cX7_power 20 = .ok (.ireturn, 1) := by decide +kernel
theorem dX7_thousands_0 : decode cX7_thousands 0 = .ok (.sipush 1000, 3) := by decide +kernel
theorem dX7_thousands_3 : decode cX7_thousands 3 = .ok (.iload_n 0, 1) := by decide +kernel
theorem dX7_thousands_4 : decode cX7_thousands 4 = .ok (.invokestatic 220, 3) := by decide +kernel
theorem dX7_thousands_7 : decode cX7_thousands 7 = .ok (.ireturn, 1) := by decide +kernel
theorem dX7_lowestTerm_0 : decode cX7_lowestTerm 0 = .ok (.iload_n 0, 1) := by decide +kernel
theorem dX7_lowestTerm_1 : decode cX7_lowestTerm 1 = .ok (.iload_n 1, 1) := by decide +kernel
theorem dX7_lowestTerm_2 : decode cX7_lowestTerm 2 = .ok (.invokestatic 256, 3) := by decide +kernel
theorem dX7_lowestTerm_5 : decode cX7_lowestTerm 5 = .ok (.iconst 1, 1) := by decide +kernel
theorem dX7_lowestTerm_6 : decode cX7_lowestTerm 6 = .ok (.invokestatic 193, 3) := by decide +kernel
theorem dX7_lowestTerm_9 : decode cX7_lowestTerm 9 = .ok (.istore_n 3, 1) := by decide +kernel
theorem dX7_lowestTerm_10 : decode cX7_lowestTerm 10 = .ok (.iload_n 2, 1) := by decide +kernel
theorem dX7_lowestTerm_11 : decode cX7_lowestTerm 11 = .ok (.ifCond .eq 7, 3) := by decide +kernel
theorem dX7_lowestTerm_14 : decode cX7_lowestTerm 14 = .ok (.iload_n 0, 1) := by decide +kernel
theorem dX7_lowestTerm_15 : decode cX7_lowestTerm 15 = .ok (.goto 4, 3) := by decide +kernel
theorem dX7_lowestTerm_18 : decode cX7_lowestTerm 18 = .ok (.iload_n 1, 1) := by decide +kernel
theorem dX7_lowestTerm_19 : decode cX7_lowestTerm 19 = .ok (.iload_n 3, 1) := by decide +kernel
theorem dX7_lowestTerm_20 : decode cX7_lowestTerm 20 = .ok (.idiv, 1) := by decide +kernel
theorem dX7_lowestTerm_21 : decode cX7_lowestTerm 21 = .ok (.ireturn, 1) := by decide +kernel
theorem dX7_commonDivisor_0 : decode cX7_commonDivisor 0 = .ok (.iload_n 0, 1) := by decide +kernel
theorem dX7_commonDivisor_1 : decode cX7_commonDivisor 1 = .ok (.istore_n 2, 1) := by decide +kernel
theorem dX7_commonDivisor_2 : decode cX7_commonDivisor 2 = .ok (.iload_n 1, 1) := by decide +kernel
theorem dX7_commonDivisor_3 : decode cX7_commonDivisor 3 = .ok (.istore_n 3, 1) := by decide +kernel
theorem dX7_commonDivisor_4 : decode cX7_commonDivisor 4 = .ok (.iconst 0, 1) := by decide +kernel
theorem dX7_commonDivisor_5 : decode cX7_commonDivisor 5 = .ok (.istore 4, 2) := by decide +kernel
theorem dX7_commonDivisor_7 : decode cX7_commonDivisor 7 = .ok (.iload 4, 2) := by decide +kernel
theorem dX7_commonDivisor_9 : decode cX7_commonDivisor 9 = .ok (.bipush 64, 2) := by decide +kernel
theorem dX7_commonDivisor_11 : decode cX7_commonDivisor 11 = .ok (.if_icmp .ge 23, 3) := by decide +kernel
theorem dX7_commonDivisor_14 : decode cX7_commonDivisor 14 = .ok (.iload_n 3, 1) := by decide +kernel
theorem dX7_commonDivisor_15 : decode cX7_commonDivisor 15 = .ok (.ifCond .eq 19, 3) := by decide +kernel
theorem dX7_commonDivisor_18 : decode cX7_commonDivisor 18 = .ok (.iload_n 2, 1) := by decide +kernel
theorem dX7_commonDivisor_19 : decode cX7_commonDivisor 19 = .ok (.iload_n 3, 1) := by decide +kernel
theorem dX7_commonDivisor_20 : decode cX7_commonDivisor 20 = .ok (.irem, 1) := by decide +kernel
theorem dX7_commonDivisor_21 : decode cX7_commonDivisor 21 = .ok (.istore 5, 2) := by decide +kernel
theorem dX7_commonDivisor_23 : decode cX7_commonDivisor 23 = .ok (.iload_n 3, 1) := by decide +kernel
theorem dX7_commonDivisor_24 : decode cX7_commonDivisor 24 = .ok (.istore_n 2, 1) := by decide +kernel
theorem dX7_commonDivisor_25 : decode cX7_commonDivisor 25 = .ok (.iload 5, 2) := by decide +kernel
theorem dX7_commonDivisor_27 : decode cX7_commonDivisor 27 = .ok (.istore_n 3, 1) := by decide +kernel
theorem dX7_commonDivisor_28 : decode cX7_commonDivisor 28 = .ok (.iinc 4 1, 3) := by decide +kernel
theorem dX7_commonDivisor_31 : decode cX7_commonDivisor 31 = .ok (.goto (-24), 3) := by decide +kernel
theorem dX7_commonDivisor_34 : decode cX7_commonDivisor 34 = .ok (.iload_n 2, 1) := by decide +kernel
theorem dX7_commonDivisor_35 : decode cX7_commonDivisor 35 = .ok (.ireturn, 1) := by decide +kernel
