theorem d_M_init_0 : decode b_M_init 0 = .ok (.aload_n 0, 1) := by decide +kernel
theorem d_M_init_1 : decode b_M_init 1 = .ok (.invokespecial 1, 3) := by decide +kernel
theorem d_M_init_4 : decode b_M_init 4 = .ok (.aload_n 0, 1) := by decide +kernel
theorem d_M_init_5 : decode b_M_init 5 = .ok (.sipush 170, 3) := by decide +kernel
theorem d_M_init_8 : decode b_M_init 8 = .ok (.newarray .int, 2) := by decide +kernel
theorem d_M_init_10 : decode b_M_init 10 = .ok (.putfield 7, 3) := by decide +kernel
theorem d_M_init_13 : decode b_M_init 13 = .ok (.aload_n 0, 1) := by decide +kernel
theorem d_M_init_14 : decode b_M_init 14 = .ok (.sipush 1020, 3) := by decide +kernel
theorem d_M_init_17 : decode b_M_init 17 = .ok (.newarray .int, 2) := by decide +kernel
theorem d_M_init_19 : decode b_M_init 19 = .ok (.putfield 13, 3) := by decide +kernel
theorem d_M_init_22 : decode b_M_init 22 = .ok (.aload_n 0, 1) := by decide +kernel
theorem d_M_init_23 : decode b_M_init 23 = .ok (.sipush 340, 3) := by decide +kernel
theorem d_M_init_26 : decode b_M_init 26 = .ok (.newarray .int, 2) := by decide +kernel
theorem d_M_init_28 : decode b_M_init 28 = .ok (.putfield 16, 3) := by decide +kernel
theorem d_M_init_31 : decode b_M_init 31 = .ok (.aload_n 0, 1) := by decide +kernel
theorem d_M_init_32 : decode b_M_init 32 = .ok (.iconst 2, 1) := by decide +kernel
theorem d_M_init_33 : decode b_M_init 33 = .ok (.newarray .boolean, 2) := by decide +kernel
theorem d_M_init_35 : decode b_M_init 35 = .ok (.putfield 19, 3) := by decide +kernel
theorem d_M_init_38 : decode b_M_init 38 = .ok (.aload_n 0, 1) := by decide +kernel
theorem d_M_init_39 : decode b_M_init 39 = .ok (.bipush 80, 2) := by decide +kernel
theorem d_M_init_41 : decode b_M_init 41 = .ok (.newarray .int, 2) := by decide +kernel
theorem d_M_init_43 : decode b_M_init 43 = .ok (.putfield 23, 3) := by decide +kernel
theorem d_M_init_46 : decode b_M_init 46 = .ok (.aload_n 0, 1) := by decide +kernel
theorem d_M_init_47 : decode b_M_init 47 = .ok (.getfield 7, 3) := by decide +kernel
theorem d_M_init_50 : decode b_M_init 50 = .ok (.iconst 0, 1) := by decide +kernel
theorem d_M_init_51 : decode b_M_init 51 = .ok (.sipush 600, 3) := by decide +kernel
theorem d_M_init_54 : decode b_M_init 54 = .ok (.iastore, 1) := by decide +kernel
theorem d_M_init_55 : decode b_M_init 55 = .ok (.aload_n 0, 1) := by decide +kernel
theorem d_M_init_56 : decode b_M_init 56 = .ok (.getfield 7, 3) := by decide +kernel
theorem d_M_init_59 : decode b_M_init 59 = .ok (.iconst 1, 1) := by decide +kernel
theorem d_M_init_60 : decode b_M_init 60 = .ok (.bipush 10, 2) := by decide +kernel
theorem d_M_init_62 : decode b_M_init 62 = .ok (.iastore, 1) := by decide +kernel
theorem d_M_init_63 : decode b_M_init 63 = .ok (.aload_n 0, 1) := by decide +kernel
theorem d_M_init_64 : decode b_M_init 64 = .ok (.getfield 7, 3) := by decide +kernel
theorem d_M_init_67 : decode b_M_init 67 = .ok (.iconst 2, 1) := by decide +kernel
theorem d_M_init_68 : decode b_M_init 68 = .ok (.iconst 2, 1) := by decide +kernel
theorem d_M_init_69 : decode b_M_init 69 = .ok (.iastore, 1) := by decide +kernel
theorem d_M_init_70 : decode b_M_init 70 = .ok (.return_, 1) := by decide +kernel
theorem d_M_in_0 : decode b_M_in 0 = .ok (.iload_n 0, 1) := by decide +kernel
theorem d_M_in_1 : decode b_M_in 1 = .ok (.iload_n 1, 1) := by decide +kernel
theorem d_M_in_2 : decode b_M_in 2 = .ok (.if_icmp .lt 12, 3) := by decide +kernel
theorem d_M_in_5 : decode b_M_in 5 = .ok (.iload_n 0, 1) := by decide +kernel
theorem d_M_in_6 : decode b_M_in 6 = .ok (.iload_n 2, 1) := by decide +kernel
theorem d_M_in_7 : decode b_M_in 7 = .ok (.if_icmp .gt 7, 3) := by decide +kernel
theorem d_M_in_10 : decode b_M_in 10 = .ok (.iconst 1, 1) := by decide +kernel
theorem d_M_in_11 : decode b_M_in 11 = .ok (.goto 4, 3) := by decide +kernel
theorem d_M_in_14 : decode b_M_in 14 = .ok (.iconst 0, 1) := by decide +kernel
theorem d_M_in_15 : decode b_M_in 15 = .ok (.ireturn, 1) := by decide +kernel
theorem d_M_isFile_0 : decode b_M_isFile 0 = .ok (.iload_n 0, 1) := by decide +kernel
theorem d_M_isFile_1 : decode b_M_isFile 1 = .ok (.iconst 0, 1) := by decide +kernel
theorem d_M_isFile_2 : decode b_M_isFile 2 = .ok (.iconst 1, 1) := by decide +kernel
theorem d_M_isFile_3 : decode b_M_isFile 3 = .ok (.invokestatic 26, 3) := by decide +kernel
theorem d_M_isFile_6 : decode b_M_isFile 6 = .ok (.ireturn, 1) := by decide +kernel
theorem d_M_isBlock_0 : decode b_M_isBlock 0 = .ok (.iload_n 1, 1) := by decide +kernel
theorem d_M_isBlock_1 : decode b_M_isBlock 1 = .ok (.invokestatic 30, 3) := by decide +kernel
theorem d_M_isBlock_4 : decode b_M_isBlock 4 = .ok (.ifCond .eq 26, 3) := by decide +kernel
theorem d_M_isBlock_7 : decode b_M_isBlock 7 = .ok (.iload_n 2, 1) := by decide +kernel
theorem d_M_isBlock_8 : decode b_M_isBlock 8 = .ok (.iconst 0, 1) := by decide +kernel
theorem d_M_isBlock_9 : decode b_M_isBlock 9 = .ok (.aload_n 0, 1) := by decide +kernel
theorem d_M_isBlock_10 : decode b_M_isBlock 10 = .ok (.getfield 7, 3) := by decide +kernel
theorem d_M_isBlock_13 : decode b_M_isBlock 13 = .ok (.bipush 8, 2) := by decide +kernel
theorem d_M_isBlock_15 : decode b_M_isBlock 15 = .ok (.iload_n 1, 1) := by decide +kernel
theorem d_M_isBlock_16 : decode b_M_isBlock 16 = .ok (.iadd, 1) := by decide +kernel
theorem d_M_isBlock_17 : decode b_M_isBlock 17 = .ok (.iaload, 1) := by decide +kernel
theorem d_M_isBlock_18 : decode b_M_isBlock 18 = .ok (.iconst 1, 1) := by decide +kernel
theorem d_M_isBlock_19 : decode b_M_isBlock 19 = .ok (.isub, 1) := by decide +kernel
theorem d_M_isBlock_20 : decode b_M_isBlock 20 = .ok (.invokestatic 26, 3) := by decide +kernel
theorem d_M_isBlock_23 : decode b_M_isBlock 23 = .ok (.ifCond .eq 7, 3) := by decide +kernel
theorem d_M_isBlock_26 : decode b_M_isBlock 26 = .ok (.iconst 1, 1) := by decide +kernel
theorem d_M_isBlock_27 : decode b_M_isBlock 27 = .ok (.goto 4, 3) := by decide +kernel
theorem d_M_isBlock_30 : decode b_M_isBlock 30 = .ok (.iconst 0, 1) := by decide +kernel
theorem d_M_isBlock_31 : decode b_M_isBlock 31 = .ok (.ireturn, 1) := by decide +kernel
theorem d_M_of_0 : decode b_M_of 0 = .ok (.bipush 10, 2) := by decide +kernel
theorem d_M_of_2 : decode b_M_of 2 = .ok (.bipush 80, 2) := by decide +kernel
theorem d_M_of_4 : decode b_M_of 4 = .ok (.iload_n 0, 1) := by decide +kernel
theorem d_M_of_5 : decode b_M_of 5 = .ok (.imul, 1) := by decide +kernel
theorem d_M_of_6 : decode b_M_of 6 = .ok (.iadd, 1) := by decide +kernel
theorem d_M_of_7 : decode b_M_of 7 = .ok (.iconst 4, 1) := by decide +kernel
theorem d_M_of_8 : decode b_M_of 8 = .ok (.iload_n 1, 1) := by decide +kernel
theorem d_M_of_9 : decode b_M_of 9 = .ok (.imul, 1) := by decide +kernel
theorem d_M_of_10 : decode b_M_of 10 = .ok (.iadd, 1) := by decide +kernel
theorem d_M_of_11 : decode b_M_of 11 = .ok (.iload_n 2, 1) := by decide +kernel
theorem d_M_of_12 : decode b_M_of 12 = .ok (.iadd, 1) := by decide +kernel
theorem d_M_of_13 : decode b_M_of 13 = .ok (.ireturn, 1) := by decide +kernel
theorem d_M_apart_0 : decode b_M_apart 0 = .ok (.iload_n 0, 1) := by decide +kernel
theorem d_M_apart_1 : decode b_M_apart 1 = .ok (.iload_n 1, 1) := by decide +kernel
theorem d_M_apart_2 : decode b_M_apart 2 = .ok (.if_icmp .le 9, 3) := by decide +kernel
theorem d_M_apart_5 : decode b_M_apart 5 = .ok (.iload_n 0, 1) := by decide +kernel
theorem d_M_apart_6 : decode b_M_apart 6 = .ok (.iload_n 1, 1) := by decide +kernel
theorem d_M_apart_7 : decode b_M_apart 7 = .ok (.isub, 1) := by decide +kernel
theorem d_M_apart_8 : decode b_M_apart 8 = .ok (.goto 6, 3) := by decide +kernel
theorem d_M_apart_11 : decode b_M_apart 11 = .ok (.iload_n 1, 1) := by decide +kernel
theorem d_M_apart_12 : decode b_M_apart 12 = .ok (.iload_n 0, 1) := by decide +kernel
theorem d_M_apart_13 : decode b_M_apart 13 = .ok (.isub, 1) := by decide +kernel
theorem d_M_apart_14 : decode b_M_apart 14 = .ok (.ireturn, 1) := by decide +kernel
theorem d_M_know_0 : decode b_M_know 0 = .ok (.aload_n 0, 1) := by decide +kernel
theorem d_M_know_1 : decode b_M_know 1 = .ok (.getfield 34, 3) := by decide +kernel
theorem d_M_know_4 : decode b_M_know 4 = .ok (.bipush 6, 2) := by decide +kernel
theorem d_M_know_6 : decode b_M_know 6 = .ok (.if_icmp .ne 44, 3) := by decide +kernel
theorem d_M_know_9 : decode b_M_know 9 = .ok (.iconst 0, 1) := by decide +kernel
theorem d_M_know_10 : decode b_M_know 10 = .ok (.istore_n 1, 1) := by decide +kernel
theorem d_M_know_11 : decode b_M_know 11 = .ok (.iload_n 1, 1) := by decide +kernel
theorem d_M_know_12 : decode b_M_know 12 = .ok (.sipush 850, 3) := by decide +kernel
theorem d_M_know_15 : decode b_M_know 15 = .ok (.if_icmp .ge 25, 3) := by decide +kernel
theorem d_M_know_18 : decode b_M_know 18 = .ok (.aload_n 0, 1) := by decide +kernel
theorem d_M_know_19 : decode b_M_know 19 = .ok (.getfield 13, 3) := by decide +kernel
theorem d_M_know_22 : decode b_M_know 22 = .ok (.iload_n 1, 1) := by decide +kernel
theorem d_M_know_23 : decode b_M_know 23 = .ok (.aload_n 0, 1) := by decide +kernel
theorem d_M_know_24 : decode b_M_know 24 = .ok (.getfield 13, 3) := by decide +kernel
theorem d_M_know_27 : decode b_M_know 27 = .ok (.sipush 170, 3) := by decide +kernel
theorem d_M_know_30 : decode b_M_know 30 = .ok (.iload_n 1, 1) := by decide +kernel
theorem d_M_know_31 : decode b_M_know 31 = .ok (.iadd, 1) := by decide +kernel
theorem d_M_know_32 : decode b_M_know 32 = .ok (.iaload, 1) := by decide +kernel
theorem d_M_know_33 : decode b_M_know 33 = .ok (.iastore, 1) := by decide +kernel
theorem d_M_know_34 : decode b_M_know 34 = .ok (.iinc 1 1, 3) := by decide +kernel
theorem d_M_know_37 : decode b_M_know 37 = .ok (.goto (-26), 3) := by decide +kernel
theorem d_M_know_40 : decode b_M_know 40 = .ok (.aload_n 0, 1) := by decide +kernel
theorem d_M_know_41 : decode b_M_know 41 = .ok (.dup, 1) := by decide +kernel
theorem d_M_know_42 : decode b_M_know 42 = .ok (.getfield 34, 3) := by decide +kernel
theorem d_M_know_45 : decode b_M_know 45 = .ok (.iconst 1, 1) := by decide +kernel
theorem d_M_know_46 : decode b_M_know 46 = .ok (.isub, 1) := by decide +kernel
theorem d_M_know_47 : decode b_M_know 47 = .ok (.putfield 34, 3) := by decide +kernel
theorem d_M_know_50 : decode b_M_know 50 = .ok (.iconst 0, 1) := by decide +kernel
theorem d_M_know_51 : decode b_M_know 51 = .ok (.istore_n 1, 1) := by decide +kernel
theorem d_M_know_52 : decode b_M_know 52 = .ok (.iload_n 1, 1) := by decide +kernel
theorem d_M_know_53 : decode b_M_know 53 = .ok (.sipush 170, 3) := by decide +kernel
theorem d_M_know_56 : decode b_M_know 56 = .ok (.if_icmp .ge 30, 3) := by decide +kernel
theorem d_M_know_59 : decode b_M_know 59 = .ok (.aload_n 0, 1) := by decide +kernel
theorem d_M_know_60 : decode b_M_know 60 = .ok (.getfield 13, 3) := by decide +kernel
theorem d_M_know_63 : decode b_M_know 63 = .ok (.sipush 170, 3) := by decide +kernel
theorem d_M_know_66 : decode b_M_know 66 = .ok (.aload_n 0, 1) := by decide +kernel
theorem d_M_know_67 : decode b_M_know 67 = .ok (.getfield 34, 3) := by decide +kernel
theorem d_M_know_70 : decode b_M_know 70 = .ok (.imul, 1) := by decide +kernel
theorem d_M_know_71 : decode b_M_know 71 = .ok (.iload_n 1, 1) := by decide +kernel
theorem d_M_know_72 : decode b_M_know 72 = .ok (.iadd, 1) := by decide +kernel
theorem d_M_know_73 : decode b_M_know 73 = .ok (.aload_n 0, 1) := by decide +kernel
theorem d_M_know_74 : decode b_M_know 74 = .ok (.getfield 7, 3) := by decide +kernel
theorem d_M_know_77 : decode b_M_know 77 = .ok (.iload_n 1, 1) := by decide +kernel
theorem d_M_know_78 : decode b_M_know 78 = .ok (.iaload, 1) := by decide +kernel
theorem d_M_know_79 : decode b_M_know 79 = .ok (.iastore, 1) := by decide +kernel
theorem d_M_know_80 : decode b_M_know 80 = .ok (.iinc 1 1, 3) := by decide +kernel
theorem d_M_know_83 : decode b_M_know 83 = .ok (.goto (-31), 3) := by decide +kernel
theorem d_M_know_86 : decode b_M_know 86 = .ok (.aload_n 0, 1) := by decide +kernel
theorem d_M_know_87 : decode b_M_know 87 = .ok (.dup, 1) := by decide +kernel
theorem d_M_know_88 : decode b_M_know 88 = .ok (.getfield 34, 3) := by decide +kernel
theorem d_M_know_91 : decode b_M_know 91 = .ok (.iconst 1, 1) := by decide +kernel
theorem d_M_know_92 : decode b_M_know 92 = .ok (.iadd, 1) := by decide +kernel
theorem d_M_know_93 : decode b_M_know 93 = .ok (.putfield 34, 3) := by decide +kernel
theorem d_M_know_96 : decode b_M_know 96 = .ok (.return_, 1) := by decide +kernel
theorem d_M_whole_0 : decode b_M_whole 0 = .ok (.aload_n 0, 1) := by decide +kernel
theorem d_M_whole_1 : decode b_M_whole 1 = .ok (.getfield 7, 3) := by decide +kernel
theorem d_M_whole_4 : decode b_M_whole 4 = .ok (.iload_n 1, 1) := by decide +kernel
theorem d_M_whole_5 : decode b_M_whole 5 = .ok (.iload_n 2, 1) := by decide +kernel
theorem d_M_whole_6 : decode b_M_whole 6 = .ok (.iconst 0, 1) := by decide +kernel
theorem d_M_whole_7 : decode b_M_whole 7 = .ok (.invokestatic 38, 3) := by decide +kernel
theorem d_M_whole_10 : decode b_M_whole 10 = .ok (.iaload, 1) := by decide +kernel
theorem d_M_whole_11 : decode b_M_whole 11 = .ok (.iconst 2, 1) := by decide +kernel
theorem d_M_whole_12 : decode b_M_whole 12 = .ok (.aload_n 0, 1) := by decide +kernel
theorem d_M_whole_13 : decode b_M_whole 13 = .ok (.getfield 7, 3) := by decide +kernel
theorem d_M_whole_16 : decode b_M_whole 16 = .ok (.iload_n 1, 1) := by decide +kernel
theorem d_M_whole_17 : decode b_M_whole 17 = .ok (.iload_n 2, 1) := by decide +kernel
theorem d_M_whole_18 : decode b_M_whole 18 = .ok (.iconst 2, 1) := by decide +kernel
theorem d_M_whole_19 : decode b_M_whole 19 = .ok (.invokestatic 38, 3) := by decide +kernel
theorem d_M_whole_22 : decode b_M_whole 22 = .ok (.iaload, 1) := by decide +kernel
theorem d_M_whole_23 : decode b_M_whole 23 = .ok (.imul, 1) := by decide +kernel
theorem d_M_whole_24 : decode b_M_whole 24 = .ok (.iadd, 1) := by decide +kernel
theorem d_M_whole_25 : decode b_M_whole 25 = .ok (.ireturn, 1) := by decide +kernel
theorem d_M_feet_0 : decode b_M_feet 0 = .ok (.iconst 0, 1) := by decide +kernel
theorem d_M_feet_1 : decode b_M_feet 1 = .ok (.istore_n 3, 1) := by decide +kernel
theorem d_M_feet_2 : decode b_M_feet 2 = .ok (.iconst 0, 1) := by decide +kernel
theorem d_M_feet_3 : decode b_M_feet 3 = .ok (.istore 4, 2) := by decide +kernel
theorem d_M_feet_5 : decode b_M_feet 5 = .ok (.iload 4, 2) := by decide +kernel
theorem d_M_feet_7 : decode b_M_feet 7 = .ok (.iload_n 2, 1) := by decide +kernel
theorem d_M_feet_8 : decode b_M_feet 8 = .ok (.if_icmp .ge 19, 3) := by decide +kernel
theorem d_M_feet_11 : decode b_M_feet 11 = .ok (.iload_n 3, 1) := by decide +kernel
theorem d_M_feet_12 : decode b_M_feet 12 = .ok (.aload_n 0, 1) := by decide +kernel
theorem d_M_feet_13 : decode b_M_feet 13 = .ok (.iload_n 1, 1) := by decide +kernel
theorem d_M_feet_14 : decode b_M_feet 14 = .ok (.iload 4, 2) := by decide +kernel
theorem d_M_feet_16 : decode b_M_feet 16 = .ok (.invokevirtual 42, 3) := by decide +kernel
theorem d_M_feet_19 : decode b_M_feet 19 = .ok (.iadd, 1) := by decide +kernel
theorem d_M_feet_20 : decode b_M_feet 20 = .ok (.istore_n 3, 1) := by decide +kernel
theorem d_M_feet_21 : decode b_M_feet 21 = .ok (.iinc 4 1, 3) := by decide +kernel
theorem d_M_feet_24 : decode b_M_feet 24 = .ok (.goto (-19), 3) := by decide +kernel
theorem d_M_feet_27 : decode b_M_feet 27 = .ok (.iload_n 3, 1) := by decide +kernel
theorem d_M_feet_28 : decode b_M_feet 28 = .ok (.ireturn, 1) := by decide +kernel
theorem d_M_allFeet_0 : decode b_M_allFeet 0 = .ok (.aload_n 0, 1) := by decide +kernel
theorem d_M_allFeet_1 : decode b_M_allFeet 1 = .ok (.iload_n 1, 1) := by decide +kernel
theorem d_M_allFeet_2 : decode b_M_allFeet 2 = .ok (.aload_n 0, 1) := by decide +kernel
theorem d_M_allFeet_3 : decode b_M_allFeet 3 = .ok (.getfield 7, 3) := by decide +kernel
theorem d_M_allFeet_6 : decode b_M_allFeet 6 = .ok (.bipush 8, 2) := by decide +kernel
theorem d_M_allFeet_8 : decode b_M_allFeet 8 = .ok (.iload_n 1, 1) := by decide +kernel
theorem d_M_allFeet_9 : decode b_M_allFeet 9 = .ok (.iadd, 1) := by decide +kernel
theorem d_M_allFeet_10 : decode b_M_allFeet 10 = .ok (.iaload, 1) := by decide +kernel
theorem d_M_allFeet_11 : decode b_M_allFeet 11 = .ok (.invokevirtual 46, 3) := by decide +kernel
theorem d_M_allFeet_14 : decode b_M_allFeet 14 = .ok (.ireturn, 1) := by decide +kernel
theorem d_M_end_0 : decode b_M_end 0 = .ok (.iload_n 1, 1) := by decide +kernel
theorem d_M_end_1 : decode b_M_end 1 = .ok (.ifCond .ne 11, 3) := by decide +kernel
theorem d_M_end_4 : decode b_M_end 4 = .ok (.aload_n 0, 1) := by decide +kernel
theorem d_M_end_5 : decode b_M_end 5 = .ok (.iconst 0, 1) := by decide +kernel
theorem d_M_end_6 : decode b_M_end 6 = .ok (.invokevirtual 49, 3) := by decide +kernel
theorem d_M_end_9 : decode b_M_end 9 = .ok (.goto 15, 3) := by decide +kernel
theorem d_M_end_12 : decode b_M_end 12 = .ok (.aload_n 0, 1) := by decide +kernel
theorem d_M_end_13 : decode b_M_end 13 = .ok (.getfield 7, 3) := by decide +kernel
theorem d_M_end_16 : decode b_M_end 16 = .ok (.iconst 0, 1) := by decide +kernel
theorem d_M_end_17 : decode b_M_end 17 = .ok (.iaload, 1) := by decide +kernel
theorem d_M_end_18 : decode b_M_end 18 = .ok (.aload_n 0, 1) := by decide +kernel
theorem d_M_end_19 : decode b_M_end 19 = .ok (.iconst 1, 1) := by decide +kernel
theorem d_M_end_20 : decode b_M_end 20 = .ok (.invokevirtual 49, 3) := by decide +kernel
theorem d_M_end_23 : decode b_M_end 23 = .ok (.isub, 1) := by decide +kernel
theorem d_M_end_24 : decode b_M_end 24 = .ok (.ireturn, 1) := by decide +kernel
theorem d_M_gap_0 : decode b_M_gap 0 = .ok (.aload_n 0, 1) := by decide +kernel
theorem d_M_gap_1 : decode b_M_gap 1 = .ok (.iconst 1, 1) := by decide +kernel
theorem d_M_gap_2 : decode b_M_gap 2 = .ok (.invokevirtual 53, 3) := by decide +kernel
theorem d_M_gap_5 : decode b_M_gap 5 = .ok (.aload_n 0, 1) := by decide +kernel
theorem d_M_gap_6 : decode b_M_gap 6 = .ok (.iconst 0, 1) := by decide +kernel
theorem d_M_gap_7 : decode b_M_gap 7 = .ok (.invokevirtual 53, 3) := by decide +kernel
theorem d_M_gap_10 : decode b_M_gap 10 = .ok (.isub, 1) := by decide +kernel
theorem d_M_gap_11 : decode b_M_gap 11 = .ok (.ireturn, 1) := by decide +kernel
theorem d_M_lower_0 : decode b_M_lower 0 = .ok (.iload_n 1, 1) := by decide +kernel
theorem d_M_lower_1 : decode b_M_lower 1 = .ok (.ifCond .ne 12, 3) := by decide +kernel
theorem d_M_lower_4 : decode b_M_lower 4 = .ok (.aload_n 0, 1) := by decide +kernel
theorem d_M_lower_5 : decode b_M_lower 5 = .ok (.iconst 0, 1) := by decide +kernel
theorem d_M_lower_6 : decode b_M_lower 6 = .ok (.iload_n 2, 1) := by decide +kernel
theorem d_M_lower_7 : decode b_M_lower 7 = .ok (.invokevirtual 46, 3) := by decide +kernel
theorem d_M_lower_10 : decode b_M_lower 10 = .ok (.goto 18, 3) := by decide +kernel
theorem d_M_lower_13 : decode b_M_lower 13 = .ok (.aload_n 0, 1) := by decide +kernel
theorem d_M_lower_14 : decode b_M_lower 14 = .ok (.getfield 7, 3) := by decide +kernel
theorem d_M_lower_17 : decode b_M_lower 17 = .ok (.iconst 0, 1) := by decide +kernel
theorem d_M_lower_18 : decode b_M_lower 18 = .ok (.iaload, 1) := by decide +kernel
theorem d_M_lower_19 : decode b_M_lower 19 = .ok (.aload_n 0, 1) := by decide +kernel
theorem d_M_lower_20 : decode b_M_lower 20 = .ok (.iconst 1, 1) := by decide +kernel
theorem d_M_lower_21 : decode b_M_lower 21 = .ok (.iload_n 2, 1) := by decide +kernel
theorem d_M_lower_22 : decode b_M_lower 22 = .ok (.iconst 1, 1) := by decide +kernel
theorem d_M_lower_23 : decode b_M_lower 23 = .ok (.iadd, 1) := by decide +kernel
theorem d_M_lower_24 : decode b_M_lower 24 = .ok (.invokevirtual 46, 3) := by decide +kernel
theorem d_M_lower_27 : decode b_M_lower 27 = .ok (.isub, 1) := by decide +kernel
theorem d_M_lower_28 : decode b_M_lower 28 = .ok (.ireturn, 1) := by decide +kernel
theorem d_M_upper_0 : decode b_M_upper 0 = .ok (.aload_n 0, 1) := by decide +kernel
theorem d_M_upper_1 : decode b_M_upper 1 = .ok (.iload_n 1, 1) := by decide +kernel
theorem d_M_upper_2 : decode b_M_upper 2 = .ok (.iload_n 2, 1) := by decide +kernel
theorem d_M_upper_3 : decode b_M_upper 3 = .ok (.invokevirtual 56, 3) := by decide +kernel
theorem d_M_upper_6 : decode b_M_upper 6 = .ok (.aload_n 0, 1) := by decide +kernel
theorem d_M_upper_7 : decode b_M_upper 7 = .ok (.iload_n 1, 1) := by decide +kernel
theorem d_M_upper_8 : decode b_M_upper 8 = .ok (.iload_n 2, 1) := by decide +kernel
theorem d_M_upper_9 : decode b_M_upper 9 = .ok (.invokevirtual 42, 3) := by decide +kernel
theorem d_M_upper_12 : decode b_M_upper 12 = .ok (.iadd, 1) := by decide +kernel
theorem d_M_upper_13 : decode b_M_upper 13 = .ok (.ireturn, 1) := by decide +kernel
theorem d_M_travel_0 : decode b_M_travel 0 = .ok (.aload_n 0, 1) := by decide +kernel
theorem d_M_travel_1 : decode b_M_travel 1 = .ok (.getfield 7, 3) := by decide +kernel
theorem d_M_travel_4 : decode b_M_travel 4 = .ok (.bipush 6, 2) := by decide +kernel
theorem d_M_travel_6 : decode b_M_travel 6 = .ok (.aload_n 0, 1) := by decide +kernel
theorem d_M_travel_7 : decode b_M_travel 7 = .ok (.getfield 7, 3) := by decide +kernel
theorem d_M_travel_10 : decode b_M_travel 10 = .ok (.bipush 6, 2) := by decide +kernel
theorem d_M_travel_12 : decode b_M_travel 12 = .ok (.iaload, 1) := by decide +kernel
theorem d_M_travel_13 : decode b_M_travel 13 = .ok (.aload_n 0, 1) := by decide +kernel
theorem d_M_travel_14 : decode b_M_travel 14 = .ok (.getfield 7, 3) := by decide +kernel
theorem d_M_travel_17 : decode b_M_travel 17 = .ok (.iconst 3, 1) := by decide +kernel
theorem d_M_travel_18 : decode b_M_travel 18 = .ok (.iaload, 1) := by decide +kernel
theorem d_M_travel_19 : decode b_M_travel 19 = .ok (.iload_n 1, 1) := by decide +kernel
theorem d_M_travel_20 : decode b_M_travel 20 = .ok (.invokestatic 59, 3) := by decide +kernel
theorem d_M_travel_23 : decode b_M_travel 23 = .ok (.iadd, 1) := by decide +kernel
theorem d_M_travel_24 : decode b_M_travel 24 = .ok (.ldc 62, 2) := by decide +kernel
theorem d_M_travel_26 : decode b_M_travel 26 = .ok (.irem, 1) := by decide +kernel
theorem d_M_travel_27 : decode b_M_travel 27 = .ok (.iastore, 1) := by decide +kernel
theorem d_M_travel_28 : decode b_M_travel 28 = .ok (.aload_n 0, 1) := by decide +kernel
theorem d_M_travel_29 : decode b_M_travel 29 = .ok (.getfield 7, 3) := by decide +kernel
theorem d_M_travel_32 : decode b_M_travel 32 = .ok (.iconst 3, 1) := by decide +kernel
theorem d_M_travel_33 : decode b_M_travel 33 = .ok (.iload_n 1, 1) := by decide +kernel
theorem d_M_travel_34 : decode b_M_travel 34 = .ok (.iastore, 1) := by decide +kernel
theorem d_M_travel_35 : decode b_M_travel 35 = .ok (.return_, 1) := by decide +kernel
theorem d_M_endOf_0 : decode b_M_endOf 0 = .ok (.iload_n 1, 1) := by decide +kernel
theorem d_M_endOf_1 : decode b_M_endOf 1 = .ok (.iload_n 3, 1) := by decide +kernel
theorem d_M_endOf_2 : decode b_M_endOf 2 = .ok (.iadd, 1) := by decide +kernel
theorem d_M_endOf_3 : decode b_M_endOf 3 = .ok (.iconst 2, 1) := by decide +kernel
theorem d_M_endOf_4 : decode b_M_endOf 4 = .ok (.irem, 1) := by decide +kernel
theorem d_M_endOf_5 : decode b_M_endOf 5 = .ok (.ifCond .ne 7, 3) := by decide +kernel
theorem d_M_endOf_8 : decode b_M_endOf 8 = .ok (.iconst 1, 1) := by decide +kernel
theorem d_M_endOf_9 : decode b_M_endOf 9 = .ok (.goto 4, 3) := by decide +kernel
theorem d_M_endOf_12 : decode b_M_endOf 12 = .ok (.iconst 0, 1) := by decide +kernel
theorem d_M_endOf_13 : decode b_M_endOf 13 = .ok (.iload 4, 2) := by decide +kernel
theorem d_M_endOf_15 : decode b_M_endOf 15 = .ok (.if_icmp .ne 7, 3) := by decide +kernel
theorem d_M_endOf_18 : decode b_M_endOf 18 = .ok (.iconst 1, 1) := by decide +kernel
theorem d_M_endOf_19 : decode b_M_endOf 19 = .ok (.goto 4, 3) := by decide +kernel
theorem d_M_endOf_22 : decode b_M_endOf 22 = .ok (.iconst 0, 1) := by decide +kernel
theorem d_M_endOf_23 : decode b_M_endOf 23 = .ok (.istore 5, 2) := by decide +kernel
theorem d_M_endOf_25 : decode b_M_endOf 25 = .ok (.iload 5, 2) := by decide +kernel
theorem d_M_endOf_27 : decode b_M_endOf 27 = .ok (.ifCond .eq 12, 3) := by decide +kernel
theorem d_M_endOf_30 : decode b_M_endOf 30 = .ok (.aload_n 0, 1) := by decide +kernel
theorem d_M_endOf_31 : decode b_M_endOf 31 = .ok (.iload_n 1, 1) := by decide +kernel
theorem d_M_endOf_32 : decode b_M_endOf 32 = .ok (.iload_n 2, 1) := by decide +kernel
theorem d_M_endOf_33 : decode b_M_endOf 33 = .ok (.invokevirtual 56, 3) := by decide +kernel
theorem d_M_endOf_36 : decode b_M_endOf 36 = .ok (.goto 9, 3) := by decide +kernel
theorem d_M_endOf_39 : decode b_M_endOf 39 = .ok (.aload_n 0, 1) := by decide +kernel
theorem d_M_endOf_40 : decode b_M_endOf 40 = .ok (.iload_n 1, 1) := by decide +kernel
theorem d_M_endOf_41 : decode b_M_endOf 41 = .ok (.iload_n 2, 1) := by decide +kernel
theorem d_M_endOf_42 : decode b_M_endOf 42 = .ok (.invokevirtual 63, 3) := by decide +kernel
theorem d_M_endOf_45 : decode b_M_endOf 45 = .ok (.ireturn, 1) := by decide +kernel
theorem d_M_travelTo_0 : decode b_M_travelTo 0 = .ok (.aload_n 0, 1) := by decide +kernel
theorem d_M_travelTo_1 : decode b_M_travelTo 1 = .ok (.getfield 7, 3) := by decide +kernel
theorem d_M_travelTo_4 : decode b_M_travelTo 4 = .ok (.iconst 3, 1) := by decide +kernel
theorem d_M_travelTo_5 : decode b_M_travelTo 5 = .ok (.iaload, 1) := by decide +kernel
theorem d_M_travelTo_6 : decode b_M_travelTo 6 = .ok (.aload_n 0, 1) := by decide +kernel
theorem d_M_travelTo_7 : decode b_M_travelTo 7 = .ok (.iload_n 1, 1) := by decide +kernel
theorem d_M_travelTo_8 : decode b_M_travelTo 8 = .ok (.iload_n 2, 1) := by decide +kernel
theorem d_M_travelTo_9 : decode b_M_travelTo 9 = .ok (.iload_n 3, 1) := by decide +kernel
theorem d_M_travelTo_10 : decode b_M_travelTo 10 = .ok (.iconst 1, 1) := by decide +kernel
theorem d_M_travelTo_11 : decode b_M_travelTo 11 = .ok (.invokevirtual 66, 3) := by decide +kernel
theorem d_M_travelTo_14 : decode b_M_travelTo 14 = .ok (.invokestatic 59, 3) := by decide +kernel
theorem d_M_travelTo_17 : decode b_M_travelTo 17 = .ok (.aload_n 0, 1) := by decide +kernel
theorem d_M_travelTo_18 : decode b_M_travelTo 18 = .ok (.iload_n 1, 1) := by decide +kernel
theorem d_M_travelTo_19 : decode b_M_travelTo 19 = .ok (.iload_n 2, 1) := by decide +kernel
theorem d_M_travelTo_20 : decode b_M_travelTo 20 = .ok (.invokevirtual 42, 3) := by decide +kernel
theorem d_M_travelTo_23 : decode b_M_travelTo 23 = .ok (.iadd, 1) := by decide +kernel
theorem d_M_travelTo_24 : decode b_M_travelTo 24 = .ok (.ireturn, 1) := by decide +kernel
theorem d_M_writeFault_0 : decode b_M_writeFault 0 = .ok (.iload_n 1, 1) := by decide +kernel
theorem d_M_writeFault_1 : decode b_M_writeFault 1 = .ok (.invokestatic 30, 3) := by decide +kernel
theorem d_M_writeFault_4 : decode b_M_writeFault 4 = .ok (.ifCond .ne 5, 3) := by decide +kernel
theorem d_M_writeFault_7 : decode b_M_writeFault 7 = .ok (.iconst (-1), 1) := by decide +kernel
theorem d_M_writeFault_8 : decode b_M_writeFault 8 = .ok (.ireturn, 1) := by decide +kernel
theorem d_M_writeFault_9 : decode b_M_writeFault 9 = .ok (.iload_n 2, 1) := by decide +kernel
theorem d_M_writeFault_10 : decode b_M_writeFault 10 = .ok (.iconst 1, 1) := by decide +kernel
theorem d_M_writeFault_11 : decode b_M_writeFault 11 = .ok (.bipush 99, 2) := by decide +kernel
theorem d_M_writeFault_13 : decode b_M_writeFault 13 = .ok (.invokestatic 26, 3) := by decide +kernel
theorem d_M_writeFault_16 : decode b_M_writeFault 16 = .ok (.ifCond .eq 14, 3) := by decide +kernel
theorem d_M_writeFault_19 : decode b_M_writeFault 19 = .ok (.iload_n 3, 1) := by decide +kernel
theorem d_M_writeFault_20 : decode b_M_writeFault 20 = .ok (.iconst 0, 1) := by decide +kernel
theorem d_M_writeFault_21 : decode b_M_writeFault 21 = .ok (.sipush 9999, 3) := by decide +kernel
theorem d_M_writeFault_24 : decode b_M_writeFault 24 = .ok (.invokestatic 26, 3) := by decide +kernel
theorem d_M_writeFault_27 : decode b_M_writeFault 27 = .ok (.ifCond .ne 6, 3) := by decide +kernel
theorem d_M_writeFault_30 : decode b_M_writeFault 30 = .ok (.bipush (-2), 2) := by decide +kernel
theorem d_M_writeFault_32 : decode b_M_writeFault 32 = .ok (.ireturn, 1) := by decide +kernel
theorem d_M_writeFault_33 : decode b_M_writeFault 33 = .ok (.aload_n 0, 1) := by decide +kernel
theorem d_M_writeFault_34 : decode b_M_writeFault 34 = .ok (.getfield 7, 3) := by decide +kernel
theorem d_M_writeFault_37 : decode b_M_writeFault 37 = .ok (.bipush 8, 2) := by decide +kernel
theorem d_M_writeFault_39 : decode b_M_writeFault 39 = .ok (.iload_n 1, 1) := by decide +kernel
theorem d_M_writeFault_40 : decode b_M_writeFault 40 = .ok (.iadd, 1) := by decide +kernel
theorem d_M_writeFault_41 : decode b_M_writeFault 41 = .ok (.iaload, 1) := by decide +kernel
theorem d_M_writeFault_42 : decode b_M_writeFault 42 = .ok (.bipush 20, 2) := by decide +kernel
theorem d_M_writeFault_44 : decode b_M_writeFault 44 = .ok (.if_icmp .ne 6, 3) := by decide +kernel
theorem d_M_writeFault_47 : decode b_M_writeFault 47 = .ok (.bipush (-4), 2) := by decide +kernel
theorem d_M_writeFault_49 : decode b_M_writeFault 49 = .ok (.ireturn, 1) := by decide +kernel
theorem d_M_writeFault_50 : decode b_M_writeFault 50 = .ok (.aload_n 0, 1) := by decide +kernel
theorem d_M_writeFault_51 : decode b_M_writeFault 51 = .ok (.invokevirtual 70, 3) := by decide +kernel
theorem d_M_writeFault_54 : decode b_M_writeFault 54 = .ok (.iload_n 2, 1) := by decide +kernel
theorem d_M_writeFault_55 : decode b_M_writeFault 55 = .ok (.isub, 1) := by decide +kernel
theorem d_M_writeFault_56 : decode b_M_writeFault 56 = .ok (.iconst 2, 1) := by decide +kernel
theorem d_M_writeFault_57 : decode b_M_writeFault 57 = .ok (.aload_n 0, 1) := by decide +kernel
theorem d_M_writeFault_58 : decode b_M_writeFault 58 = .ok (.getfield 7, 3) := by decide +kernel
theorem d_M_writeFault_61 : decode b_M_writeFault 61 = .ok (.iconst 2, 1) := by decide +kernel
theorem d_M_writeFault_62 : decode b_M_writeFault 62 = .ok (.iaload, 1) := by decide +kernel
theorem d_M_writeFault_63 : decode b_M_writeFault 63 = .ok (.imul, 1) := by decide +kernel
theorem d_M_writeFault_64 : decode b_M_writeFault 64 = .ok (.isub, 1) := by decide +kernel
theorem d_M_writeFault_65 : decode b_M_writeFault 65 = .ok (.aload_n 0, 1) := by decide +kernel
theorem d_M_writeFault_66 : decode b_M_writeFault 66 = .ok (.getfield 7, 3) := by decide +kernel
theorem d_M_writeFault_69 : decode b_M_writeFault 69 = .ok (.iconst 1, 1) := by decide +kernel
theorem d_M_writeFault_70 : decode b_M_writeFault 70 = .ok (.iaload, 1) := by decide +kernel
theorem d_M_writeFault_71 : decode b_M_writeFault 71 = .ok (.if_icmp .ge 8, 3) := by decide +kernel
theorem d_M_writeFault_74 : decode b_M_writeFault 74 = .ok (.bipush (-5), 2) := by decide +kernel
theorem d_M_writeFault_76 : decode b_M_writeFault 76 = .ok (.goto 4, 3) := by decide +kernel
theorem d_M_writeFault_79 : decode b_M_writeFault 79 = .ok (.iconst 0, 1) := by decide +kernel
theorem d_M_writeFault_80 : decode b_M_writeFault 80 = .ok (.ireturn, 1) := by decide +kernel
theorem d_M_writes_0 : decode b_M_writes 0 = .ok (.aload_n 0, 1) := by decide +kernel
theorem d_M_writes_1 : decode b_M_writes 1 = .ok (.aload_n 0, 1) := by decide +kernel
theorem d_M_writes_2 : decode b_M_writes 2 = .ok (.iload_n 1, 1) := by decide +kernel
theorem d_M_writes_3 : decode b_M_writes 3 = .ok (.invokevirtual 53, 3) := by decide +kernel
theorem d_M_writes_6 : decode b_M_writes 6 = .ok (.invokevirtual 74, 3) := by decide +kernel
theorem d_M_writes_9 : decode b_M_writes 9 = .ok (.aload_n 0, 1) := by decide +kernel
theorem d_M_writes_10 : decode b_M_writes 10 = .ok (.getfield 7, 3) := by decide +kernel
theorem d_M_writes_13 : decode b_M_writes 13 = .ok (.bipush 8, 2) := by decide +kernel
theorem d_M_writes_15 : decode b_M_writes 15 = .ok (.iload_n 1, 1) := by decide +kernel
theorem d_M_writes_16 : decode b_M_writes 16 = .ok (.iadd, 1) := by decide +kernel
theorem d_M_writes_17 : decode b_M_writes 17 = .ok (.iaload, 1) := by decide +kernel
theorem d_M_writes_18 : decode b_M_writes 18 = .ok (.istore 4, 2) := by decide +kernel
theorem d_M_writes_20 : decode b_M_writes 20 = .ok (.aload_n 0, 1) := by decide +kernel
theorem d_M_writes_21 : decode b_M_writes 21 = .ok (.getfield 7, 3) := by decide +kernel
theorem d_M_writes_24 : decode b_M_writes 24 = .ok (.iload_n 1, 1) := by decide +kernel
theorem d_M_writes_25 : decode b_M_writes 25 = .ok (.iload 4, 2) := by decide +kernel
theorem d_M_writes_27 : decode b_M_writes 27 = .ok (.iconst 0, 1) := by decide +kernel
theorem d_M_writes_28 : decode b_M_writes 28 = .ok (.invokestatic 38, 3) := by decide +kernel
theorem d_M_writes_31 : decode b_M_writes 31 = .ok (.iload_n 2, 1) := by decide +kernel
theorem d_M_writes_32 : decode b_M_writes 32 = .ok (.iastore, 1) := by decide +kernel
theorem d_M_writes_33 : decode b_M_writes 33 = .ok (.aload_n 0, 1) := by decide +kernel
theorem d_M_writes_34 : decode b_M_writes 34 = .ok (.getfield 7, 3) := by decide +kernel
theorem d_M_writes_37 : decode b_M_writes 37 = .ok (.iload_n 1, 1) := by decide +kernel
theorem d_M_writes_38 : decode b_M_writes 38 = .ok (.iload 4, 2) := by decide +kernel
theorem d_M_writes_40 : decode b_M_writes 40 = .ok (.iconst 1, 1) := by decide +kernel
theorem d_M_writes_41 : decode b_M_writes 41 = .ok (.invokestatic 38, 3) := by decide +kernel
theorem d_M_writes_44 : decode b_M_writes 44 = .ok (.iload_n 3, 1) := by decide +kernel
theorem d_M_writes_45 : decode b_M_writes 45 = .ok (.iastore, 1) := by decide +kernel
theorem d_M_writes_46 : decode b_M_writes 46 = .ok (.aload_n 0, 1) := by decide +kernel
theorem d_M_writes_47 : decode b_M_writes 47 = .ok (.getfield 7, 3) := by decide +kernel
theorem d_M_writes_50 : decode b_M_writes 50 = .ok (.iload_n 1, 1) := by decide +kernel
theorem d_M_writes_51 : decode b_M_writes 51 = .ok (.iload 4, 2) := by decide +kernel
theorem d_M_writes_53 : decode b_M_writes 53 = .ok (.iconst 2, 1) := by decide +kernel
theorem d_M_writes_54 : decode b_M_writes 54 = .ok (.invokestatic 38, 3) := by decide +kernel
theorem d_M_writes_57 : decode b_M_writes 57 = .ok (.aload_n 0, 1) := by decide +kernel
theorem d_M_writes_58 : decode b_M_writes 58 = .ok (.getfield 7, 3) := by decide +kernel
theorem d_M_writes_61 : decode b_M_writes 61 = .ok (.iconst 2, 1) := by decide +kernel
theorem d_M_writes_62 : decode b_M_writes 62 = .ok (.iaload, 1) := by decide +kernel
theorem d_M_writes_63 : decode b_M_writes 63 = .ok (.iastore, 1) := by decide +kernel
theorem d_M_writes_64 : decode b_M_writes 64 = .ok (.aload_n 0, 1) := by decide +kernel
theorem d_M_writes_65 : decode b_M_writes 65 = .ok (.getfield 7, 3) := by decide +kernel
theorem d_M_writes_68 : decode b_M_writes 68 = .ok (.iload_n 1, 1) := by decide +kernel
theorem d_M_writes_69 : decode b_M_writes 69 = .ok (.iload 4, 2) := by decide +kernel
theorem d_M_writes_71 : decode b_M_writes 71 = .ok (.iconst 3, 1) := by decide +kernel
theorem d_M_writes_72 : decode b_M_writes 72 = .ok (.invokestatic 38, 3) := by decide +kernel
theorem d_M_writes_75 : decode b_M_writes 75 = .ok (.iconst 0, 1) := by decide +kernel
theorem d_M_writes_76 : decode b_M_writes 76 = .ok (.iastore, 1) := by decide +kernel
theorem d_M_writes_77 : decode b_M_writes 77 = .ok (.aload_n 0, 1) := by decide +kernel
theorem d_M_writes_78 : decode b_M_writes 78 = .ok (.getfield 7, 3) := by decide +kernel
theorem d_M_writes_81 : decode b_M_writes 81 = .ok (.bipush 8, 2) := by decide +kernel
theorem d_M_writes_83 : decode b_M_writes 83 = .ok (.iload_n 1, 1) := by decide +kernel
theorem d_M_writes_84 : decode b_M_writes 84 = .ok (.iadd, 1) := by decide +kernel
theorem d_M_writes_85 : decode b_M_writes 85 = .ok (.dup2, 1) := by decide +kernel
theorem d_M_writes_86 : decode b_M_writes 86 = .ok (.iaload, 1) := by decide +kernel
theorem d_M_writes_87 : decode b_M_writes 87 = .ok (.iconst 1, 1) := by decide +kernel
theorem d_M_writes_88 : decode b_M_writes 88 = .ok (.iadd, 1) := by decide +kernel
theorem d_M_writes_89 : decode b_M_writes 89 = .ok (.iastore, 1) := by decide +kernel
theorem d_M_writes_90 : decode b_M_writes 90 = .ok (.aload_n 0, 1) := by decide +kernel
theorem d_M_writes_91 : decode b_M_writes 91 = .ok (.aload_n 0, 1) := by decide +kernel
theorem d_M_writes_92 : decode b_M_writes 92 = .ok (.iload_n 1, 1) := by decide +kernel
theorem d_M_writes_93 : decode b_M_writes 93 = .ok (.invokevirtual 53, 3) := by decide +kernel
theorem d_M_writes_96 : decode b_M_writes 96 = .ok (.invokevirtual 74, 3) := by decide +kernel
theorem d_M_writes_99 : decode b_M_writes 99 = .ok (.iload 4, 2) := by decide +kernel
theorem d_M_writes_101 : decode b_M_writes 101 = .ok (.ireturn, 1) := by decide +kernel
theorem d_M_cutFault_0 : decode b_M_cutFault 0 = .ok (.iload_n 1, 1) := by decide +kernel
theorem d_M_cutFault_1 : decode b_M_cutFault 1 = .ok (.invokestatic 30, 3) := by decide +kernel
theorem d_M_cutFault_4 : decode b_M_cutFault 4 = .ok (.ifCond .ne 7, 3) := by decide +kernel
theorem d_M_cutFault_7 : decode b_M_cutFault 7 = .ok (.iconst (-1), 1) := by decide +kernel
theorem d_M_cutFault_8 : decode b_M_cutFault 8 = .ok (.goto 31, 3) := by decide +kernel
theorem d_M_cutFault_11 : decode b_M_cutFault 11 = .ok (.iload_n 2, 1) := by decide +kernel
theorem d_M_cutFault_12 : decode b_M_cutFault 12 = .ok (.ifCond .ge 8, 3) := by decide +kernel
theorem d_M_cutFault_15 : decode b_M_cutFault 15 = .ok (.bipush (-2), 2) := by decide +kernel
theorem d_M_cutFault_17 : decode b_M_cutFault 17 = .ok (.goto 22, 3) := by decide +kernel
theorem d_M_cutFault_20 : decode b_M_cutFault 20 = .ok (.iload_n 2, 1) := by decide +kernel
theorem d_M_cutFault_21 : decode b_M_cutFault 21 = .ok (.aload_n 0, 1) := by decide +kernel
theorem d_M_cutFault_22 : decode b_M_cutFault 22 = .ok (.getfield 7, 3) := by decide +kernel
theorem d_M_cutFault_25 : decode b_M_cutFault 25 = .ok (.bipush 8, 2) := by decide +kernel
theorem d_M_cutFault_27 : decode b_M_cutFault 27 = .ok (.iload_n 1, 1) := by decide +kernel
theorem d_M_cutFault_28 : decode b_M_cutFault 28 = .ok (.iadd, 1) := by decide +kernel
theorem d_M_cutFault_29 : decode b_M_cutFault 29 = .ok (.iaload, 1) := by decide +kernel
theorem d_M_cutFault_30 : decode b_M_cutFault 30 = .ok (.if_icmp .le 8, 3) := by decide +kernel
theorem d_M_cutFault_33 : decode b_M_cutFault 33 = .ok (.bipush (-5), 2) := by decide +kernel
theorem d_M_cutFault_35 : decode b_M_cutFault 35 = .ok (.goto 4, 3) := by decide +kernel
theorem d_M_cutFault_38 : decode b_M_cutFault 38 = .ok (.iconst 0, 1) := by decide +kernel
theorem d_M_cutFault_39 : decode b_M_cutFault 39 = .ok (.ireturn, 1) := by decide +kernel
theorem d_M_cuts_0 : decode b_M_cuts 0 = .ok (.aload_n 0, 1) := by decide +kernel
theorem d_M_cuts_1 : decode b_M_cuts 1 = .ok (.getfield 7, 3) := by decide +kernel
theorem d_M_cuts_4 : decode b_M_cuts 4 = .ok (.bipush 8, 2) := by decide +kernel
theorem d_M_cuts_6 : decode b_M_cuts 6 = .ok (.iload_n 1, 1) := by decide +kernel
theorem d_M_cuts_7 : decode b_M_cuts 7 = .ok (.iadd, 1) := by decide +kernel
theorem d_M_cuts_8 : decode b_M_cuts 8 = .ok (.iaload, 1) := by decide +kernel
theorem d_M_cuts_9 : decode b_M_cuts 9 = .ok (.iload_n 2, 1) := by decide +kernel
theorem d_M_cuts_10 : decode b_M_cuts 10 = .ok (.isub, 1) := by decide +kernel
theorem d_M_cuts_11 : decode b_M_cuts 11 = .ok (.istore_n 3, 1) := by decide +kernel
theorem d_M_cuts_12 : decode b_M_cuts 12 = .ok (.aload_n 0, 1) := by decide +kernel
theorem d_M_cuts_13 : decode b_M_cuts 13 = .ok (.getfield 7, 3) := by decide +kernel
theorem d_M_cuts_16 : decode b_M_cuts 16 = .ok (.bipush 8, 2) := by decide +kernel
theorem d_M_cuts_18 : decode b_M_cuts 18 = .ok (.iload_n 1, 1) := by decide +kernel
theorem d_M_cuts_19 : decode b_M_cuts 19 = .ok (.iadd, 1) := by decide +kernel
theorem d_M_cuts_20 : decode b_M_cuts 20 = .ok (.iload_n 2, 1) := by decide +kernel
theorem d_M_cuts_21 : decode b_M_cuts 21 = .ok (.iastore, 1) := by decide +kernel
theorem d_M_cuts_22 : decode b_M_cuts 22 = .ok (.iload_n 3, 1) := by decide +kernel
theorem d_M_cuts_23 : decode b_M_cuts 23 = .ok (.ireturn, 1) := by decide +kernel
theorem d_M_moves_0 : decode b_M_moves 0 = .ok (.aload_n 0, 1) := by decide +kernel
theorem d_M_moves_1 : decode b_M_moves 1 = .ok (.getfield 7, 3) := by decide +kernel
theorem d_M_moves_4 : decode b_M_moves 4 = .ok (.iconst 3, 1) := by decide +kernel
theorem d_M_moves_5 : decode b_M_moves 5 = .ok (.iaload, 1) := by decide +kernel
theorem d_M_moves_6 : decode b_M_moves 6 = .ok (.iload_n 1, 1) := by decide +kernel
theorem d_M_moves_7 : decode b_M_moves 7 = .ok (.invokestatic 59, 3) := by decide +kernel
theorem d_M_moves_10 : decode b_M_moves 10 = .ok (.istore_n 2, 1) := by decide +kernel
theorem d_M_moves_11 : decode b_M_moves 11 = .ok (.aload_n 0, 1) := by decide +kernel
theorem d_M_moves_12 : decode b_M_moves 12 = .ok (.iload_n 1, 1) := by decide +kernel
theorem d_M_moves_13 : decode b_M_moves 13 = .ok (.invokevirtual 74, 3) := by decide +kernel
theorem d_M_moves_16 : decode b_M_moves 16 = .ok (.iload_n 2, 1) := by decide +kernel
theorem d_M_moves_17 : decode b_M_moves 17 = .ok (.ireturn, 1) := by decide +kernel
theorem d_M_rewinds_0 : decode b_M_rewinds 0 = .ok (.aload_n 0, 1) := by decide +kernel
theorem d_M_rewinds_1 : decode b_M_rewinds 1 = .ok (.aload_n 0, 1) := by decide +kernel
theorem d_M_rewinds_2 : decode b_M_rewinds 2 = .ok (.getfield 7, 3) := by decide +kernel
theorem d_M_rewinds_5 : decode b_M_rewinds 5 = .ok (.iconst 3, 1) := by decide +kernel
theorem d_M_rewinds_6 : decode b_M_rewinds 6 = .ok (.iaload, 1) := by decide +kernel
theorem d_M_rewinds_7 : decode b_M_rewinds 7 = .ok (.aload_n 0, 1) := by decide +kernel
theorem d_M_rewinds_8 : decode b_M_rewinds 8 = .ok (.getfield 7, 3) := by decide +kernel
theorem d_M_rewinds_11 : decode b_M_rewinds 11 = .ok (.iconst 0, 1) := by decide +kernel
theorem d_M_rewinds_12 : decode b_M_rewinds 12 = .ok (.iaload, 1) := by decide +kernel
theorem d_M_rewinds_13 : decode b_M_rewinds 13 = .ok (.aload_n 0, 1) := by decide +kernel
theorem d_M_rewinds_14 : decode b_M_rewinds 14 = .ok (.getfield 7, 3) := by decide +kernel
theorem d_M_rewinds_17 : decode b_M_rewinds 17 = .ok (.iconst 3, 1) := by decide +kernel
theorem d_M_rewinds_18 : decode b_M_rewinds 18 = .ok (.iaload, 1) := by decide +kernel
theorem d_M_rewinds_19 : decode b_M_rewinds 19 = .ok (.isub, 1) := by decide +kernel
theorem d_M_rewinds_20 : decode b_M_rewinds 20 = .ok (.if_icmp .gt 7, 3) := by decide +kernel
theorem d_M_rewinds_23 : decode b_M_rewinds 23 = .ok (.iconst 0, 1) := by decide +kernel
theorem d_M_rewinds_24 : decode b_M_rewinds 24 = .ok (.goto 9, 3) := by decide +kernel
theorem d_M_rewinds_27 : decode b_M_rewinds 27 = .ok (.aload_n 0, 1) := by decide +kernel
theorem d_M_rewinds_28 : decode b_M_rewinds 28 = .ok (.getfield 7, 3) := by decide +kernel
theorem d_M_rewinds_31 : decode b_M_rewinds 31 = .ok (.iconst 0, 1) := by decide +kernel
theorem d_M_rewinds_32 : decode b_M_rewinds 32 = .ok (.iaload, 1) := by decide +kernel
theorem d_M_rewinds_33 : decode b_M_rewinds 33 = .ok (.invokevirtual 74, 3) := by decide +kernel
theorem d_M_rewinds_36 : decode b_M_rewinds 36 = .ok (.aload_n 0, 1) := by decide +kernel
theorem d_M_rewinds_37 : decode b_M_rewinds 37 = .ok (.getfield 7, 3) := by decide +kernel
theorem d_M_rewinds_40 : decode b_M_rewinds 40 = .ok (.iconst 3, 1) := by decide +kernel
theorem d_M_rewinds_41 : decode b_M_rewinds 41 = .ok (.iaload, 1) := by decide +kernel
theorem d_M_rewinds_42 : decode b_M_rewinds 42 = .ok (.ireturn, 1) := by decide +kernel
theorem d_M_readFault_0 : decode b_M_readFault 0 = .ok (.aload_n 0, 1) := by decide +kernel
theorem d_M_readFault_1 : decode b_M_readFault 1 = .ok (.iload_n 1, 1) := by decide +kernel
theorem d_M_readFault_2 : decode b_M_readFault 2 = .ok (.iload_n 2, 1) := by decide +kernel
theorem d_M_readFault_3 : decode b_M_readFault 3 = .ok (.invokevirtual 78, 3) := by decide +kernel
theorem d_M_readFault_6 : decode b_M_readFault 6 = .ok (.ifCond .ne 7, 3) := by decide +kernel
theorem d_M_readFault_9 : decode b_M_readFault 9 = .ok (.iconst (-1), 1) := by decide +kernel
theorem d_M_readFault_10 : decode b_M_readFault 10 = .ok (.goto 18, 3) := by decide +kernel
theorem d_M_readFault_13 : decode b_M_readFault 13 = .ok (.iload_n 3, 1) := by decide +kernel
theorem d_M_readFault_14 : decode b_M_readFault 14 = .ok (.iconst 0, 1) := by decide +kernel
theorem d_M_readFault_15 : decode b_M_readFault 15 = .ok (.iconst 1, 1) := by decide +kernel
theorem d_M_readFault_16 : decode b_M_readFault 16 = .ok (.invokestatic 26, 3) := by decide +kernel
theorem d_M_readFault_19 : decode b_M_readFault 19 = .ok (.ifCond .eq 7, 3) := by decide +kernel
theorem d_M_readFault_22 : decode b_M_readFault 22 = .ok (.iconst 0, 1) := by decide +kernel
theorem d_M_readFault_23 : decode b_M_readFault 23 = .ok (.goto 5, 3) := by decide +kernel
theorem d_M_readFault_26 : decode b_M_readFault 26 = .ok (.bipush (-2), 2) := by decide +kernel
theorem d_M_readFault_28 : decode b_M_readFault 28 = .ok (.ireturn, 1) := by decide +kernel
theorem d_M_reads_0 : decode b_M_reads 0 = .ok (.aload_n 0, 1) := by decide +kernel
theorem d_M_reads_1 : decode b_M_reads 1 = .ok (.aload_n 0, 1) := by decide +kernel
theorem d_M_reads_2 : decode b_M_reads 2 = .ok (.iload_n 1, 1) := by decide +kernel
theorem d_M_reads_3 : decode b_M_reads 3 = .ok (.iload_n 2, 1) := by decide +kernel
theorem d_M_reads_4 : decode b_M_reads 4 = .ok (.iload_n 3, 1) := by decide +kernel
theorem d_M_reads_5 : decode b_M_reads 5 = .ok (.iconst 1, 1) := by decide +kernel
theorem d_M_reads_6 : decode b_M_reads 6 = .ok (.invokevirtual 66, 3) := by decide +kernel
theorem d_M_reads_9 : decode b_M_reads 9 = .ok (.invokevirtual 74, 3) := by decide +kernel
theorem d_M_reads_12 : decode b_M_reads 12 = .ok (.aload_n 0, 1) := by decide +kernel
theorem d_M_reads_13 : decode b_M_reads 13 = .ok (.aload_n 0, 1) := by decide +kernel
theorem d_M_reads_14 : decode b_M_reads 14 = .ok (.iload_n 1, 1) := by decide +kernel
theorem d_M_reads_15 : decode b_M_reads 15 = .ok (.iload_n 2, 1) := by decide +kernel
theorem d_M_reads_16 : decode b_M_reads 16 = .ok (.iload_n 3, 1) := by decide +kernel
theorem d_M_reads_17 : decode b_M_reads 17 = .ok (.iconst 0, 1) := by decide +kernel
theorem d_M_reads_18 : decode b_M_reads 18 = .ok (.invokevirtual 66, 3) := by decide +kernel
theorem d_M_reads_21 : decode b_M_reads 21 = .ok (.invokevirtual 74, 3) := by decide +kernel
theorem d_M_reads_24 : decode b_M_reads 24 = .ok (.aload_n 0, 1) := by decide +kernel
theorem d_M_reads_25 : decode b_M_reads 25 = .ok (.getfield 7, 3) := by decide +kernel
theorem d_M_reads_28 : decode b_M_reads 28 = .ok (.iload_n 1, 1) := by decide +kernel
theorem d_M_reads_29 : decode b_M_reads 29 = .ok (.iload_n 2, 1) := by decide +kernel
theorem d_M_reads_30 : decode b_M_reads 30 = .ok (.iconst 3, 1) := by decide +kernel
theorem d_M_reads_31 : decode b_M_reads 31 = .ok (.invokestatic 38, 3) := by decide +kernel
theorem d_M_reads_34 : decode b_M_reads 34 = .ok (.dup2, 1) := by decide +kernel
theorem d_M_reads_35 : decode b_M_reads 35 = .ok (.iaload, 1) := by decide +kernel
theorem d_M_reads_36 : decode b_M_reads 36 = .ok (.iconst 1, 1) := by decide +kernel
theorem d_M_reads_37 : decode b_M_reads 37 = .ok (.iadd, 1) := by decide +kernel
theorem d_M_reads_38 : decode b_M_reads 38 = .ok (.iastore, 1) := by decide +kernel
theorem d_M_reads_39 : decode b_M_reads 39 = .ok (.aload_n 0, 1) := by decide +kernel
theorem d_M_reads_40 : decode b_M_reads 40 = .ok (.getfield 7, 3) := by decide +kernel
theorem d_M_reads_43 : decode b_M_reads 43 = .ok (.bipush 7, 2) := by decide +kernel
theorem d_M_reads_45 : decode b_M_reads 45 = .ok (.dup2, 1) := by decide +kernel
theorem d_M_reads_46 : decode b_M_reads 46 = .ok (.iaload, 1) := by decide +kernel
theorem d_M_reads_47 : decode b_M_reads 47 = .ok (.iconst 1, 1) := by decide +kernel
theorem d_M_reads_48 : decode b_M_reads 48 = .ok (.iadd, 1) := by decide +kernel
theorem d_M_reads_49 : decode b_M_reads 49 = .ok (.iastore, 1) := by decide +kernel
theorem d_M_reads_50 : decode b_M_reads 50 = .ok (.aload_n 0, 1) := by decide +kernel
theorem d_M_reads_51 : decode b_M_reads 51 = .ok (.getfield 7, 3) := by decide +kernel
theorem d_M_reads_54 : decode b_M_reads 54 = .ok (.iload_n 1, 1) := by decide +kernel
theorem d_M_reads_55 : decode b_M_reads 55 = .ok (.iload_n 2, 1) := by decide +kernel
theorem d_M_reads_56 : decode b_M_reads 56 = .ok (.iconst 1, 1) := by decide +kernel
theorem d_M_reads_57 : decode b_M_reads 57 = .ok (.invokestatic 38, 3) := by decide +kernel
theorem d_M_reads_60 : decode b_M_reads 60 = .ok (.iaload, 1) := by decide +kernel
theorem d_M_reads_61 : decode b_M_reads 61 = .ok (.iload_n 2, 1) := by decide +kernel
theorem d_M_reads_62 : decode b_M_reads 62 = .ok (.iadd, 1) := by decide +kernel
theorem d_M_reads_63 : decode b_M_reads 63 = .ok (.iload_n 3, 1) := by decide +kernel
theorem d_M_reads_64 : decode b_M_reads 64 = .ok (.iadd, 1) := by decide +kernel
theorem d_M_reads_65 : decode b_M_reads 65 = .ok (.bipush 10, 2) := by decide +kernel
theorem d_M_reads_67 : decode b_M_reads 67 = .ok (.irem, 1) := by decide +kernel
theorem d_M_reads_68 : decode b_M_reads 68 = .ok (.ireturn, 1) := by decide +kernel
theorem d_M_length_0 : decode b_M_length 0 = .ok (.iload_n 1, 1) := by decide +kernel
theorem d_M_length_1 : decode b_M_length 1 = .ok (.bipush 100, 2) := by decide +kernel
theorem d_M_length_3 : decode b_M_length 3 = .ok (.sipush 2000, 3) := by decide +kernel
theorem d_M_length_6 : decode b_M_length 6 = .ok (.invokestatic 26, 3) := by decide +kernel
theorem d_M_length_9 : decode b_M_length 9 = .ok (.ifCond .ne 6, 3) := by decide +kernel
theorem d_M_length_12 : decode b_M_length 12 = .ok (.bipush (-2), 2) := by decide +kernel
theorem d_M_length_14 : decode b_M_length 14 = .ok (.ireturn, 1) := by decide +kernel
theorem d_M_length_15 : decode b_M_length 15 = .ok (.aload_n 0, 1) := by decide +kernel
theorem d_M_length_16 : decode b_M_length 16 = .ok (.getfield 7, 3) := by decide +kernel
theorem d_M_length_19 : decode b_M_length 19 = .ok (.bipush 8, 2) := by decide +kernel
theorem d_M_length_21 : decode b_M_length 21 = .ok (.iaload, 1) := by decide +kernel
theorem d_M_length_22 : decode b_M_length 22 = .ok (.aload_n 0, 1) := by decide +kernel
theorem d_M_length_23 : decode b_M_length 23 = .ok (.getfield 7, 3) := by decide +kernel
theorem d_M_length_26 : decode b_M_length 26 = .ok (.bipush 9, 2) := by decide +kernel
theorem d_M_length_28 : decode b_M_length 28 = .ok (.iaload, 1) := by decide +kernel
theorem d_M_length_29 : decode b_M_length 29 = .ok (.iadd, 1) := by decide +kernel
theorem d_M_length_30 : decode b_M_length 30 = .ok (.ifCond .gt 12, 3) := by decide +kernel
theorem d_M_length_33 : decode b_M_length 33 = .ok (.aload_n 0, 1) := by decide +kernel
theorem d_M_length_34 : decode b_M_length 34 = .ok (.getfield 7, 3) := by decide +kernel
theorem d_M_length_37 : decode b_M_length 37 = .ok (.iconst 4, 1) := by decide +kernel
theorem d_M_length_38 : decode b_M_length 38 = .ok (.iaload, 1) := by decide +kernel
theorem d_M_length_39 : decode b_M_length 39 = .ok (.ifCond .le 6, 3) := by decide +kernel
theorem d_M_length_42 : decode b_M_length 42 = .ok (.bipush (-5), 2) := by decide +kernel
theorem d_M_length_44 : decode b_M_length 44 = .ok (.ireturn, 1) := by decide +kernel
theorem d_M_length_45 : decode b_M_length 45 = .ok (.aload_n 0, 1) := by decide +kernel
theorem d_M_length_46 : decode b_M_length 46 = .ok (.invokevirtual 82, 3) := by decide +kernel
theorem d_M_length_49 : decode b_M_length 49 = .ok (.aload_n 0, 1) := by decide +kernel
theorem d_M_length_50 : decode b_M_length 50 = .ok (.getfield 7, 3) := by decide +kernel
theorem d_M_length_53 : decode b_M_length 53 = .ok (.iconst 0, 1) := by decide +kernel
theorem d_M_length_54 : decode b_M_length 54 = .ok (.iaload, 1) := by decide +kernel
theorem d_M_length_55 : decode b_M_length 55 = .ok (.istore_n 2, 1) := by decide +kernel
theorem d_M_length_56 : decode b_M_length 56 = .ok (.aload_n 0, 1) := by decide +kernel
theorem d_M_length_57 : decode b_M_length 57 = .ok (.getfield 7, 3) := by decide +kernel
theorem d_M_length_60 : decode b_M_length 60 = .ok (.iconst 0, 1) := by decide +kernel
theorem d_M_length_61 : decode b_M_length 61 = .ok (.iload_n 1, 1) := by decide +kernel
theorem d_M_length_62 : decode b_M_length 62 = .ok (.iastore, 1) := by decide +kernel
theorem d_M_length_63 : decode b_M_length 63 = .ok (.aload_n 0, 1) := by decide +kernel
theorem d_M_length_64 : decode b_M_length 64 = .ok (.getfield 7, 3) := by decide +kernel
theorem d_M_length_67 : decode b_M_length 67 = .ok (.iconst 3, 1) := by decide +kernel
theorem d_M_length_68 : decode b_M_length 68 = .ok (.aload_n 0, 1) := by decide +kernel
theorem d_M_length_69 : decode b_M_length 69 = .ok (.getfield 7, 3) := by decide +kernel
theorem d_M_length_72 : decode b_M_length 72 = .ok (.iconst 3, 1) := by decide +kernel
theorem d_M_length_73 : decode b_M_length 73 = .ok (.iaload, 1) := by decide +kernel
theorem d_M_length_74 : decode b_M_length 74 = .ok (.iload_n 1, 1) := by decide +kernel
theorem d_M_length_75 : decode b_M_length 75 = .ok (.if_icmp .le 7, 3) := by decide +kernel
theorem d_M_length_78 : decode b_M_length 78 = .ok (.iload_n 1, 1) := by decide +kernel
theorem d_M_length_79 : decode b_M_length 79 = .ok (.goto 9, 3) := by decide +kernel
theorem d_M_length_82 : decode b_M_length 82 = .ok (.aload_n 0, 1) := by decide +kernel
theorem d_M_length_83 : decode b_M_length 83 = .ok (.getfield 7, 3) := by decide +kernel
theorem d_M_length_86 : decode b_M_length 86 = .ok (.iconst 3, 1) := by decide +kernel
theorem d_M_length_87 : decode b_M_length 87 = .ok (.iaload, 1) := by decide +kernel
theorem d_M_length_88 : decode b_M_length 88 = .ok (.iastore, 1) := by decide +kernel
theorem d_M_length_89 : decode b_M_length 89 = .ok (.iload_n 2, 1) := by decide +kernel
theorem d_M_length_90 : decode b_M_length 90 = .ok (.ireturn, 1) := by decide +kernel
theorem d_M_tune_0 : decode b_M_tune 0 = .ok (.iload_n 1, 1) := by decide +kernel
theorem d_M_tune_1 : decode b_M_tune 1 = .ok (.iconst 1, 1) := by decide +kernel
theorem d_M_tune_2 : decode b_M_tune 2 = .ok (.bipush 99, 2) := by decide +kernel
theorem d_M_tune_4 : decode b_M_tune 4 = .ok (.invokestatic 26, 3) := by decide +kernel
theorem d_M_tune_7 : decode b_M_tune 7 = .ok (.ifCond .eq 13, 3) := by decide +kernel
theorem d_M_tune_10 : decode b_M_tune 10 = .ok (.iload_n 2, 1) := by decide +kernel
theorem d_M_tune_11 : decode b_M_tune 11 = .ok (.iconst 1, 1) := by decide +kernel
theorem d_M_tune_12 : decode b_M_tune 12 = .ok (.bipush 9, 2) := by decide +kernel
theorem d_M_tune_14 : decode b_M_tune 14 = .ok (.invokestatic 26, 3) := by decide +kernel
theorem d_M_tune_17 : decode b_M_tune 17 = .ok (.ifCond .ne 6, 3) := by decide +kernel
theorem d_M_tune_20 : decode b_M_tune 20 = .ok (.bipush (-2), 2) := by decide +kernel
theorem d_M_tune_22 : decode b_M_tune 22 = .ok (.ireturn, 1) := by decide +kernel
theorem d_M_tune_23 : decode b_M_tune 23 = .ok (.aload_n 0, 1) := by decide +kernel
theorem d_M_tune_24 : decode b_M_tune 24 = .ok (.invokevirtual 70, 3) := by decide +kernel
theorem d_M_tune_27 : decode b_M_tune 27 = .ok (.iload_n 1, 1) := by decide +kernel
theorem d_M_tune_28 : decode b_M_tune 28 = .ok (.if_icmp .ge 6, 3) := by decide +kernel
theorem d_M_tune_31 : decode b_M_tune 31 = .ok (.bipush (-5), 2) := by decide +kernel
theorem d_M_tune_33 : decode b_M_tune 33 = .ok (.ireturn, 1) := by decide +kernel
theorem d_M_tune_34 : decode b_M_tune 34 = .ok (.aload_n 0, 1) := by decide +kernel
theorem d_M_tune_35 : decode b_M_tune 35 = .ok (.invokevirtual 82, 3) := by decide +kernel
theorem d_M_tune_38 : decode b_M_tune 38 = .ok (.aload_n 0, 1) := by decide +kernel
theorem d_M_tune_39 : decode b_M_tune 39 = .ok (.getfield 7, 3) := by decide +kernel
theorem d_M_tune_42 : decode b_M_tune 42 = .ok (.iconst 1, 1) := by decide +kernel
theorem d_M_tune_43 : decode b_M_tune 43 = .ok (.iaload, 1) := by decide +kernel
theorem d_M_tune_44 : decode b_M_tune 44 = .ok (.bipush 100, 2) := by decide +kernel
theorem d_M_tune_46 : decode b_M_tune 46 = .ok (.aload_n 0, 1) := by decide +kernel
theorem d_M_tune_47 : decode b_M_tune 47 = .ok (.getfield 7, 3) := by decide +kernel
theorem d_M_tune_50 : decode b_M_tune 50 = .ok (.iconst 2, 1) := by decide +kernel
theorem d_M_tune_51 : decode b_M_tune 51 = .ok (.iaload, 1) := by decide +kernel
theorem d_M_tune_52 : decode b_M_tune 52 = .ok (.imul, 1) := by decide +kernel
theorem d_M_tune_53 : decode b_M_tune 53 = .ok (.iadd, 1) := by decide +kernel
theorem d_M_tune_54 : decode b_M_tune 54 = .ok (.istore_n 3, 1) := by decide +kernel
theorem d_M_tune_55 : decode b_M_tune 55 = .ok (.aload_n 0, 1) := by decide +kernel
theorem d_M_tune_56 : decode b_M_tune 56 = .ok (.getfield 7, 3) := by decide +kernel
theorem d_M_tune_59 : decode b_M_tune 59 = .ok (.iconst 1, 1) := by decide +kernel
theorem d_M_tune_60 : decode b_M_tune 60 = .ok (.iload_n 1, 1) := by decide +kernel
theorem d_M_tune_61 : decode b_M_tune 61 = .ok (.iastore, 1) := by decide +kernel
theorem d_M_tune_62 : decode b_M_tune 62 = .ok (.aload_n 0, 1) := by decide +kernel
theorem d_M_tune_63 : decode b_M_tune 63 = .ok (.getfield 7, 3) := by decide +kernel
theorem d_M_tune_66 : decode b_M_tune 66 = .ok (.iconst 2, 1) := by decide +kernel
theorem d_M_tune_67 : decode b_M_tune 67 = .ok (.iload_n 2, 1) := by decide +kernel
theorem d_M_tune_68 : decode b_M_tune 68 = .ok (.iastore, 1) := by decide +kernel
theorem d_M_tune_69 : decode b_M_tune 69 = .ok (.iload_n 3, 1) := by decide +kernel
theorem d_M_tune_70 : decode b_M_tune 70 = .ok (.ireturn, 1) := by decide +kernel
theorem d_M_write_0 : decode b_M_write 0 = .ok (.aload_n 0, 1) := by decide +kernel
theorem d_M_write_1 : decode b_M_write 1 = .ok (.iload_n 1, 1) := by decide +kernel
theorem d_M_write_2 : decode b_M_write 2 = .ok (.iload_n 2, 1) := by decide +kernel
theorem d_M_write_3 : decode b_M_write 3 = .ok (.iload_n 3, 1) := by decide +kernel
theorem d_M_write_4 : decode b_M_write 4 = .ok (.invokevirtual 85, 3) := by decide +kernel
theorem d_M_write_7 : decode b_M_write 7 = .ok (.istore 4, 2) := by decide +kernel
theorem d_M_write_9 : decode b_M_write 9 = .ok (.iload 4, 2) := by decide +kernel
theorem d_M_write_11 : decode b_M_write 11 = .ok (.ifCond .ge 6, 3) := by decide +kernel
theorem d_M_write_14 : decode b_M_write 14 = .ok (.iload 4, 2) := by decide +kernel
theorem d_M_write_16 : decode b_M_write 16 = .ok (.ireturn, 1) := by decide +kernel
theorem d_M_write_17 : decode b_M_write 17 = .ok (.aload_n 0, 1) := by decide +kernel
theorem d_M_write_18 : decode b_M_write 18 = .ok (.invokevirtual 82, 3) := by decide +kernel
theorem d_M_write_21 : decode b_M_write 21 = .ok (.aload_n 0, 1) := by decide +kernel
theorem d_M_write_22 : decode b_M_write 22 = .ok (.iload_n 1, 1) := by decide +kernel
theorem d_M_write_23 : decode b_M_write 23 = .ok (.iload_n 2, 1) := by decide +kernel
theorem d_M_write_24 : decode b_M_write 24 = .ok (.iload_n 3, 1) := by decide +kernel
theorem d_M_write_25 : decode b_M_write 25 = .ok (.invokevirtual 88, 3) := by decide +kernel
theorem d_M_write_28 : decode b_M_write 28 = .ok (.ireturn, 1) := by decide +kernel
theorem d_M_cut_0 : decode b_M_cut 0 = .ok (.aload_n 0, 1) := by decide +kernel
theorem d_M_cut_1 : decode b_M_cut 1 = .ok (.iload_n 1, 1) := by decide +kernel
theorem d_M_cut_2 : decode b_M_cut 2 = .ok (.iload_n 2, 1) := by decide +kernel
theorem d_M_cut_3 : decode b_M_cut 3 = .ok (.invokevirtual 91, 3) := by decide +kernel
theorem d_M_cut_6 : decode b_M_cut 6 = .ok (.istore_n 3, 1) := by decide +kernel
theorem d_M_cut_7 : decode b_M_cut 7 = .ok (.iload_n 3, 1) := by decide +kernel
theorem d_M_cut_8 : decode b_M_cut 8 = .ok (.ifCond .ge 5, 3) := by decide +kernel
theorem d_M_cut_11 : decode b_M_cut 11 = .ok (.iload_n 3, 1) := by decide +kernel
theorem d_M_cut_12 : decode b_M_cut 12 = .ok (.ireturn, 1) := by decide +kernel
theorem d_M_cut_13 : decode b_M_cut 13 = .ok (.aload_n 0, 1) := by decide +kernel
theorem d_M_cut_14 : decode b_M_cut 14 = .ok (.invokevirtual 82, 3) := by decide +kernel
theorem d_M_cut_17 : decode b_M_cut 17 = .ok (.aload_n 0, 1) := by decide +kernel
theorem d_M_cut_18 : decode b_M_cut 18 = .ok (.iload_n 1, 1) := by decide +kernel
theorem d_M_cut_19 : decode b_M_cut 19 = .ok (.iload_n 2, 1) := by decide +kernel
theorem d_M_cut_20 : decode b_M_cut 20 = .ok (.invokevirtual 94, 3) := by decide +kernel
theorem d_M_cut_23 : decode b_M_cut 23 = .ok (.ireturn, 1) := by decide +kernel
theorem d_M_move_0 : decode b_M_move 0 = .ok (.iload_n 1, 1) := by decide +kernel
theorem d_M_move_1 : decode b_M_move 1 = .ok (.iconst 0, 1) := by decide +kernel
theorem d_M_move_2 : decode b_M_move 2 = .ok (.aload_n 0, 1) := by decide +kernel
theorem d_M_move_3 : decode b_M_move 3 = .ok (.getfield 7, 3) := by decide +kernel
theorem d_M_move_6 : decode b_M_move 6 = .ok (.iconst 0, 1) := by decide +kernel
theorem d_M_move_7 : decode b_M_move 7 = .ok (.iaload, 1) := by decide +kernel
theorem d_M_move_8 : decode b_M_move 8 = .ok (.invokestatic 26, 3) := by decide +kernel
theorem d_M_move_11 : decode b_M_move 11 = .ok (.ifCond .ne 6, 3) := by decide +kernel
theorem d_M_move_14 : decode b_M_move 14 = .ok (.bipush (-2), 2) := by decide +kernel
theorem d_M_move_16 : decode b_M_move 16 = .ok (.ireturn, 1) := by decide +kernel
theorem d_M_move_17 : decode b_M_move 17 = .ok (.aload_n 0, 1) := by decide +kernel
theorem d_M_move_18 : decode b_M_move 18 = .ok (.invokevirtual 82, 3) := by decide +kernel
theorem d_M_move_21 : decode b_M_move 21 = .ok (.aload_n 0, 1) := by decide +kernel
theorem d_M_move_22 : decode b_M_move 22 = .ok (.iload_n 1, 1) := by decide +kernel
theorem d_M_move_23 : decode b_M_move 23 = .ok (.invokevirtual 97, 3) := by decide +kernel
theorem d_M_move_26 : decode b_M_move 26 = .ok (.ireturn, 1) := by decide +kernel
theorem d_M_rewind_0 : decode b_M_rewind 0 = .ok (.aload_n 0, 1) := by decide +kernel
theorem d_M_rewind_1 : decode b_M_rewind 1 = .ok (.invokevirtual 82, 3) := by decide +kernel
theorem d_M_rewind_4 : decode b_M_rewind 4 = .ok (.aload_n 0, 1) := by decide +kernel
theorem d_M_rewind_5 : decode b_M_rewind 5 = .ok (.invokevirtual 100, 3) := by decide +kernel
theorem d_M_rewind_8 : decode b_M_rewind 8 = .ok (.ireturn, 1) := by decide +kernel
theorem d_M_read_0 : decode b_M_read 0 = .ok (.aload_n 0, 1) := by decide +kernel
theorem d_M_read_1 : decode b_M_read 1 = .ok (.iload_n 1, 1) := by decide +kernel
theorem d_M_read_2 : decode b_M_read 2 = .ok (.iload_n 2, 1) := by decide +kernel
theorem d_M_read_3 : decode b_M_read 3 = .ok (.iload_n 3, 1) := by decide +kernel
theorem d_M_read_4 : decode b_M_read 4 = .ok (.invokevirtual 103, 3) := by decide +kernel
theorem d_M_read_7 : decode b_M_read 7 = .ok (.istore 4, 2) := by decide +kernel
theorem d_M_read_9 : decode b_M_read 9 = .ok (.iload 4, 2) := by decide +kernel
theorem d_M_read_11 : decode b_M_read 11 = .ok (.ifCond .ge 6, 3) := by decide +kernel
theorem d_M_read_14 : decode b_M_read 14 = .ok (.iload 4, 2) := by decide +kernel
theorem d_M_read_16 : decode b_M_read 16 = .ok (.ireturn, 1) := by decide +kernel
theorem d_M_read_17 : decode b_M_read 17 = .ok (.aload_n 0, 1) := by decide +kernel
theorem d_M_read_18 : decode b_M_read 18 = .ok (.invokevirtual 82, 3) := by decide +kernel
theorem d_M_read_21 : decode b_M_read 21 = .ok (.aload_n 0, 1) := by decide +kernel
theorem d_M_read_22 : decode b_M_read 22 = .ok (.iload_n 1, 1) := by decide +kernel
theorem d_M_read_23 : decode b_M_read 23 = .ok (.iload_n 2, 1) := by decide +kernel
theorem d_M_read_24 : decode b_M_read 24 = .ok (.iload_n 3, 1) := by decide +kernel
theorem d_M_read_25 : decode b_M_read 25 = .ok (.invokevirtual 106, 3) := by decide +kernel
theorem d_M_read_28 : decode b_M_read 28 = .ok (.ireturn, 1) := by decide +kernel
theorem d_M_within_0 : decode b_M_within 0 = .ok (.iload_n 1, 1) := by decide +kernel
theorem d_M_within_1 : decode b_M_within 1 = .ok (.aload_n 0, 1) := by decide +kernel
theorem d_M_within_2 : decode b_M_within 2 = .ok (.iconst 0, 1) := by decide +kernel
theorem d_M_within_3 : decode b_M_within 3 = .ok (.invokevirtual 53, 3) := by decide +kernel
theorem d_M_within_6 : decode b_M_within 6 = .ok (.if_icmp .lt 14, 3) := by decide +kernel
theorem d_M_within_9 : decode b_M_within 9 = .ok (.iload_n 2, 1) := by decide +kernel
theorem d_M_within_10 : decode b_M_within 10 = .ok (.aload_n 0, 1) := by decide +kernel
theorem d_M_within_11 : decode b_M_within 11 = .ok (.iconst 1, 1) := by decide +kernel
theorem d_M_within_12 : decode b_M_within 12 = .ok (.invokevirtual 53, 3) := by decide +kernel
theorem d_M_within_15 : decode b_M_within 15 = .ok (.if_icmp .ge 5, 3) := by decide +kernel
theorem d_M_within_18 : decode b_M_within 18 = .ok (.iconst (-1), 1) := by decide +kernel
theorem d_M_within_19 : decode b_M_within 19 = .ok (.ireturn, 1) := by decide +kernel
theorem d_M_within_20 : decode b_M_within 20 = .ok (.iconst 0, 1) := by decide +kernel
theorem d_M_within_21 : decode b_M_within 21 = .ok (.istore_n 3, 1) := by decide +kernel
theorem d_M_within_22 : decode b_M_within 22 = .ok (.iload_n 3, 1) := by decide +kernel
theorem d_M_within_23 : decode b_M_within 23 = .ok (.bipush 40, 2) := by decide +kernel
theorem d_M_within_25 : decode b_M_within 25 = .ok (.if_icmp .ge 83, 3) := by decide +kernel
theorem d_M_within_28 : decode b_M_within 28 = .ok (.iload_n 3, 1) := by decide +kernel
theorem d_M_within_29 : decode b_M_within 29 = .ok (.bipush 20, 2) := by decide +kernel
theorem d_M_within_31 : decode b_M_within 31 = .ok (.idiv, 1) := by decide +kernel
theorem d_M_within_32 : decode b_M_within 32 = .ok (.istore 4, 2) := by decide +kernel
theorem d_M_within_34 : decode b_M_within 34 = .ok (.iload_n 3, 1) := by decide +kernel
theorem d_M_within_35 : decode b_M_within 35 = .ok (.bipush 20, 2) := by decide +kernel
theorem d_M_within_37 : decode b_M_within 37 = .ok (.irem, 1) := by decide +kernel
theorem d_M_within_38 : decode b_M_within 38 = .ok (.istore 5, 2) := by decide +kernel
theorem d_M_within_40 : decode b_M_within 40 = .ok (.iload 5, 2) := by decide +kernel
theorem d_M_within_42 : decode b_M_within 42 = .ok (.aload_n 0, 1) := by decide +kernel
theorem d_M_within_43 : decode b_M_within 43 = .ok (.getfield 7, 3) := by decide +kernel
theorem d_M_within_46 : decode b_M_within 46 = .ok (.bipush 8, 2) := by decide +kernel
theorem d_M_within_48 : decode b_M_within 48 = .ok (.iload 4, 2) := by decide +kernel
theorem d_M_within_50 : decode b_M_within 50 = .ok (.iadd, 1) := by decide +kernel
theorem d_M_within_51 : decode b_M_within 51 = .ok (.iaload, 1) := by decide +kernel
theorem d_M_within_52 : decode b_M_within 52 = .ok (.if_icmp .ge 50, 3) := by decide +kernel
theorem d_M_within_55 : decode b_M_within 55 = .ok (.aload_n 0, 1) := by decide +kernel
theorem d_M_within_56 : decode b_M_within 56 = .ok (.getfield 7, 3) := by decide +kernel
theorem d_M_within_59 : decode b_M_within 59 = .ok (.iload 4, 2) := by decide +kernel
theorem d_M_within_61 : decode b_M_within 61 = .ok (.iload 5, 2) := by decide +kernel
theorem d_M_within_63 : decode b_M_within 63 = .ok (.iconst 2, 1) := by decide +kernel
theorem d_M_within_64 : decode b_M_within 64 = .ok (.invokestatic 38, 3) := by decide +kernel
theorem d_M_within_67 : decode b_M_within 67 = .ok (.iaload, 1) := by decide +kernel
theorem d_M_within_68 : decode b_M_within 68 = .ok (.istore 6, 2) := by decide +kernel
theorem d_M_within_70 : decode b_M_within 70 = .ok (.iload_n 1, 1) := by decide +kernel
theorem d_M_within_71 : decode b_M_within 71 = .ok (.aload_n 0, 1) := by decide +kernel
theorem d_M_within_72 : decode b_M_within 72 = .ok (.iload 4, 2) := by decide +kernel
theorem d_M_within_74 : decode b_M_within 74 = .ok (.iload 5, 2) := by decide +kernel
theorem d_M_within_76 : decode b_M_within 76 = .ok (.invokevirtual 56, 3) := by decide +kernel
theorem d_M_within_79 : decode b_M_within 79 = .ok (.iload 6, 2) := by decide +kernel
theorem d_M_within_81 : decode b_M_within 81 = .ok (.iadd, 1) := by decide +kernel
theorem d_M_within_82 : decode b_M_within 82 = .ok (.if_icmp .lt 20, 3) := by decide +kernel
theorem d_M_within_85 : decode b_M_within 85 = .ok (.iload_n 2, 1) := by decide +kernel
theorem d_M_within_86 : decode b_M_within 86 = .ok (.aload_n 0, 1) := by decide +kernel
theorem d_M_within_87 : decode b_M_within 87 = .ok (.iload 4, 2) := by decide +kernel
theorem d_M_within_89 : decode b_M_within 89 = .ok (.iload 5, 2) := by decide +kernel
theorem d_M_within_91 : decode b_M_within 91 = .ok (.invokevirtual 63, 3) := by decide +kernel
theorem d_M_within_94 : decode b_M_within 94 = .ok (.iload 6, 2) := by decide +kernel
theorem d_M_within_96 : decode b_M_within 96 = .ok (.isub, 1) := by decide +kernel
theorem d_M_within_97 : decode b_M_within 97 = .ok (.if_icmp .ge 5, 3) := by decide +kernel
theorem d_M_within_100 : decode b_M_within 100 = .ok (.iload_n 3, 1) := by decide +kernel
theorem d_M_within_101 : decode b_M_within 101 = .ok (.ireturn, 1) := by decide +kernel
theorem d_M_within_102 : decode b_M_within 102 = .ok (.iinc 3 1, 3) := by decide +kernel
theorem d_M_within_105 : decode b_M_within 105 = .ok (.goto (-83), 3) := by decide +kernel
theorem d_M_within_108 : decode b_M_within 108 = .ok (.bipush (-6), 2) := by decide +kernel
theorem d_M_within_110 : decode b_M_within 110 = .ok (.ireturn, 1) := by decide +kernel
theorem d_M_splice_0 : decode b_M_splice 0 = .ok (.iload_n 1, 1) := by decide +kernel
theorem d_M_splice_1 : decode b_M_splice 1 = .ok (.iconst 0, 1) := by decide +kernel
theorem d_M_splice_2 : decode b_M_splice 2 = .ok (.aload_n 0, 1) := by decide +kernel
theorem d_M_splice_3 : decode b_M_splice 3 = .ok (.getfield 7, 3) := by decide +kernel
theorem d_M_splice_6 : decode b_M_splice 6 = .ok (.iconst 0, 1) := by decide +kernel
theorem d_M_splice_7 : decode b_M_splice 7 = .ok (.iaload, 1) := by decide +kernel
theorem d_M_splice_8 : decode b_M_splice 8 = .ok (.iconst 1, 1) := by decide +kernel
theorem d_M_splice_9 : decode b_M_splice 9 = .ok (.isub, 1) := by decide +kernel
theorem d_M_splice_10 : decode b_M_splice 10 = .ok (.invokestatic 26, 3) := by decide +kernel
theorem d_M_splice_13 : decode b_M_splice 13 = .ok (.ifCond .eq 13, 3) := by decide +kernel
theorem d_M_splice_16 : decode b_M_splice 16 = .ok (.iload_n 2, 1) := by decide +kernel
theorem d_M_splice_17 : decode b_M_splice 17 = .ok (.iconst 1, 1) := by decide +kernel
theorem d_M_splice_18 : decode b_M_splice 18 = .ok (.bipush 50, 2) := by decide +kernel
theorem d_M_splice_20 : decode b_M_splice 20 = .ok (.invokestatic 26, 3) := by decide +kernel
theorem d_M_splice_23 : decode b_M_splice 23 = .ok (.ifCond .ne 6, 3) := by decide +kernel
theorem d_M_splice_26 : decode b_M_splice 26 = .ok (.bipush (-2), 2) := by decide +kernel
theorem d_M_splice_28 : decode b_M_splice 28 = .ok (.ireturn, 1) := by decide +kernel
theorem d_M_splice_29 : decode b_M_splice 29 = .ok (.iload_n 2, 1) := by decide +kernel
theorem d_M_splice_30 : decode b_M_splice 30 = .ok (.iconst 1, 1) := by decide +kernel
theorem d_M_splice_31 : decode b_M_splice 31 = .ok (.iadd, 1) := by decide +kernel
theorem d_M_splice_32 : decode b_M_splice 32 = .ok (.istore_n 3, 1) := by decide +kernel
theorem d_M_splice_33 : decode b_M_splice 33 = .ok (.aload_n 0, 1) := by decide +kernel
theorem d_M_splice_34 : decode b_M_splice 34 = .ok (.iload_n 1, 1) := by decide +kernel
theorem d_M_splice_35 : decode b_M_splice 35 = .ok (.iload_n 1, 1) := by decide +kernel
theorem d_M_splice_36 : decode b_M_splice 36 = .ok (.iload_n 2, 1) := by decide +kernel
theorem d_M_splice_37 : decode b_M_splice 37 = .ok (.iadd, 1) := by decide +kernel
theorem d_M_splice_38 : decode b_M_splice 38 = .ok (.invokevirtual 109, 3) := by decide +kernel
theorem d_M_splice_41 : decode b_M_splice 41 = .ok (.istore 4, 2) := by decide +kernel
theorem d_M_splice_43 : decode b_M_splice 43 = .ok (.iload 4, 2) := by decide +kernel
theorem d_M_splice_45 : decode b_M_splice 45 = .ok (.bipush (-6), 2) := by decide +kernel
theorem d_M_splice_47 : decode b_M_splice 47 = .ok (.if_icmp .ne 6, 3) := by decide +kernel
theorem d_M_splice_50 : decode b_M_splice 50 = .ok (.bipush (-5), 2) := by decide +kernel
theorem d_M_splice_52 : decode b_M_splice 52 = .ok (.ireturn, 1) := by decide +kernel
theorem d_M_splice_53 : decode b_M_splice 53 = .ok (.iload 4, 2) := by decide +kernel
theorem d_M_splice_55 : decode b_M_splice 55 = .ok (.ifCond .ge 7, 3) := by decide +kernel
theorem d_M_splice_58 : decode b_M_splice 58 = .ok (.iconst 0, 1) := by decide +kernel
theorem d_M_splice_59 : decode b_M_splice 59 = .ok (.goto 17, 3) := by decide +kernel
theorem d_M_splice_62 : decode b_M_splice 62 = .ok (.iload 4, 2) := by decide +kernel
theorem d_M_splice_64 : decode b_M_splice 64 = .ok (.bipush 20, 2) := by decide +kernel
theorem d_M_splice_66 : decode b_M_splice 66 = .ok (.idiv, 1) := by decide +kernel
theorem d_M_splice_67 : decode b_M_splice 67 = .ok (.iload 4, 2) := by decide +kernel
theorem d_M_splice_69 : decode b_M_splice 69 = .ok (.bipush 20, 2) := by decide +kernel
theorem d_M_splice_71 : decode b_M_splice 71 = .ok (.irem, 1) := by decide +kernel
theorem d_M_splice_72 : decode b_M_splice 72 = .ok (.iconst 0, 1) := by decide +kernel
theorem d_M_splice_73 : decode b_M_splice 73 = .ok (.invokestatic 38, 3) := by decide +kernel
theorem d_M_splice_76 : decode b_M_splice 76 = .ok (.istore 5, 2) := by decide +kernel
theorem d_M_splice_78 : decode b_M_splice 78 = .ok (.iload 4, 2) := by decide +kernel
theorem d_M_splice_80 : decode b_M_splice 80 = .ok (.ifCond .ge 21, 3) := by decide +kernel
theorem d_M_splice_83 : decode b_M_splice 83 = .ok (.aload_n 0, 1) := by decide +kernel
theorem d_M_splice_84 : decode b_M_splice 84 = .ok (.invokevirtual 70, 3) := by decide +kernel
theorem d_M_splice_87 : decode b_M_splice 87 = .ok (.iload_n 3, 1) := by decide +kernel
theorem d_M_splice_88 : decode b_M_splice 88 = .ok (.isub, 1) := by decide +kernel
theorem d_M_splice_89 : decode b_M_splice 89 = .ok (.aload_n 0, 1) := by decide +kernel
theorem d_M_splice_90 : decode b_M_splice 90 = .ok (.getfield 7, 3) := by decide +kernel
theorem d_M_splice_93 : decode b_M_splice 93 = .ok (.iconst 1, 1) := by decide +kernel
theorem d_M_splice_94 : decode b_M_splice 94 = .ok (.iaload, 1) := by decide +kernel
theorem d_M_splice_95 : decode b_M_splice 95 = .ok (.if_icmp .ge 22, 3) := by decide +kernel
theorem d_M_splice_98 : decode b_M_splice 98 = .ok (.goto 16, 3) := by decide +kernel
theorem d_M_splice_101 : decode b_M_splice 101 = .ok (.aload_n 0, 1) := by decide +kernel
theorem d_M_splice_102 : decode b_M_splice 102 = .ok (.getfield 7, 3) := by decide +kernel
theorem d_M_splice_105 : decode b_M_splice 105 = .ok (.iload 5, 2) := by decide +kernel
theorem d_M_splice_107 : decode b_M_splice 107 = .ok (.iaload, 1) := by decide +kernel
theorem d_M_splice_108 : decode b_M_splice 108 = .ok (.iload_n 3, 1) := by decide +kernel
theorem d_M_splice_109 : decode b_M_splice 109 = .ok (.isub, 1) := by decide +kernel
theorem d_M_splice_110 : decode b_M_splice 110 = .ok (.iconst 1, 1) := by decide +kernel
theorem d_M_splice_111 : decode b_M_splice 111 = .ok (.if_icmp .ge 6, 3) := by decide +kernel
theorem d_M_splice_114 : decode b_M_splice 114 = .ok (.bipush (-5), 2) := by decide +kernel
theorem d_M_splice_116 : decode b_M_splice 116 = .ok (.ireturn, 1) := by decide +kernel
theorem d_M_splice_117 : decode b_M_splice 117 = .ok (.aload_n 0, 1) := by decide +kernel
theorem d_M_splice_118 : decode b_M_splice 118 = .ok (.getfield 7, 3) := by decide +kernel
theorem d_M_splice_121 : decode b_M_splice 121 = .ok (.iconst 4, 1) := by decide +kernel
theorem d_M_splice_122 : decode b_M_splice 122 = .ok (.iaload, 1) := by decide +kernel
theorem d_M_splice_123 : decode b_M_splice 123 = .ok (.bipush 9, 2) := by decide +kernel
theorem d_M_splice_125 : decode b_M_splice 125 = .ok (.if_icmp .ne 6, 3) := by decide +kernel
theorem d_M_splice_128 : decode b_M_splice 128 = .ok (.bipush (-4), 2) := by decide +kernel
theorem d_M_splice_130 : decode b_M_splice 130 = .ok (.ireturn, 1) := by decide +kernel
theorem d_M_splice_131 : decode b_M_splice 131 = .ok (.aload_n 0, 1) := by decide +kernel
theorem d_M_splice_132 : decode b_M_splice 132 = .ok (.invokevirtual 82, 3) := by decide +kernel
theorem d_M_splice_135 : decode b_M_splice 135 = .ok (.iload 4, 2) := by decide +kernel
theorem d_M_splice_137 : decode b_M_splice 137 = .ok (.ifCond .lt 24, 3) := by decide +kernel
theorem d_M_splice_140 : decode b_M_splice 140 = .ok (.aload_n 0, 1) := by decide +kernel
theorem d_M_splice_141 : decode b_M_splice 141 = .ok (.getfield 7, 3) := by decide +kernel
theorem d_M_splice_144 : decode b_M_splice 144 = .ok (.iload 5, 2) := by decide +kernel
theorem d_M_splice_146 : decode b_M_splice 146 = .ok (.dup2, 1) := by decide +kernel
theorem d_M_splice_147 : decode b_M_splice 147 = .ok (.iaload, 1) := by decide +kernel
theorem d_M_splice_148 : decode b_M_splice 148 = .ok (.iload_n 3, 1) := by decide +kernel
theorem d_M_splice_149 : decode b_M_splice 149 = .ok (.isub, 1) := by decide +kernel
theorem d_M_splice_150 : decode b_M_splice 150 = .ok (.iastore, 1) := by decide +kernel
theorem d_M_splice_151 : decode b_M_splice 151 = .ok (.aload_n 0, 1) := by decide +kernel
theorem d_M_splice_152 : decode b_M_splice 152 = .ok (.getfield 7, 3) := by decide +kernel
theorem d_M_splice_155 : decode b_M_splice 155 = .ok (.iload 5, 2) := by decide +kernel
theorem d_M_splice_157 : decode b_M_splice 157 = .ok (.iconst 1, 1) := by decide +kernel
theorem d_M_splice_158 : decode b_M_splice 158 = .ok (.iadd, 1) := by decide +kernel
theorem d_M_splice_159 : decode b_M_splice 159 = .ok (.iconst 0, 1) := by decide +kernel
theorem d_M_splice_160 : decode b_M_splice 160 = .ok (.iastore, 1) := by decide +kernel
theorem d_M_splice_161 : decode b_M_splice 161 = .ok (.aload_n 0, 1) := by decide +kernel
theorem d_M_splice_162 : decode b_M_splice 162 = .ok (.getfield 7, 3) := by decide +kernel
theorem d_M_splice_165 : decode b_M_splice 165 = .ok (.iconst 0, 1) := by decide +kernel
theorem d_M_splice_166 : decode b_M_splice 166 = .ok (.dup2, 1) := by decide +kernel
theorem d_M_splice_167 : decode b_M_splice 167 = .ok (.iaload, 1) := by decide +kernel
theorem d_M_splice_168 : decode b_M_splice 168 = .ok (.iload_n 3, 1) := by decide +kernel
theorem d_M_splice_169 : decode b_M_splice 169 = .ok (.isub, 1) := by decide +kernel
theorem d_M_splice_170 : decode b_M_splice 170 = .ok (.iastore, 1) := by decide +kernel
theorem d_M_splice_171 : decode b_M_splice 171 = .ok (.aload_n 0, 1) := by decide +kernel
theorem d_M_splice_172 : decode b_M_splice 172 = .ok (.getfield 7, 3) := by decide +kernel
theorem d_M_splice_175 : decode b_M_splice 175 = .ok (.iconst 4, 1) := by decide +kernel
theorem d_M_splice_176 : decode b_M_splice 176 = .ok (.dup2, 1) := by decide +kernel
theorem d_M_splice_177 : decode b_M_splice 177 = .ok (.iaload, 1) := by decide +kernel
theorem d_M_splice_178 : decode b_M_splice 178 = .ok (.iconst 1, 1) := by decide +kernel
theorem d_M_splice_179 : decode b_M_splice 179 = .ok (.iadd, 1) := by decide +kernel
theorem d_M_splice_180 : decode b_M_splice 180 = .ok (.iastore, 1) := by decide +kernel
theorem d_M_splice_181 : decode b_M_splice 181 = .ok (.aload_n 0, 1) := by decide +kernel
theorem d_M_splice_182 : decode b_M_splice 182 = .ok (.getfield 7, 3) := by decide +kernel
theorem d_M_splice_185 : decode b_M_splice 185 = .ok (.iconst 5, 1) := by decide +kernel
theorem d_M_splice_186 : decode b_M_splice 186 = .ok (.dup2, 1) := by decide +kernel
theorem d_M_splice_187 : decode b_M_splice 187 = .ok (.iaload, 1) := by decide +kernel
theorem d_M_splice_188 : decode b_M_splice 188 = .ok (.iload_n 3, 1) := by decide +kernel
theorem d_M_splice_189 : decode b_M_splice 189 = .ok (.iadd, 1) := by decide +kernel
theorem d_M_splice_190 : decode b_M_splice 190 = .ok (.iastore, 1) := by decide +kernel
theorem d_M_splice_191 : decode b_M_splice 191 = .ok (.aload_n 0, 1) := by decide +kernel
theorem d_M_splice_192 : decode b_M_splice 192 = .ok (.getfield 7, 3) := by decide +kernel
theorem d_M_splice_195 : decode b_M_splice 195 = .ok (.iconst 3, 1) := by decide +kernel
theorem d_M_splice_196 : decode b_M_splice 196 = .ok (.iaload, 1) := by decide +kernel
theorem d_M_splice_197 : decode b_M_splice 197 = .ok (.iload_n 1, 1) := by decide +kernel
theorem d_M_splice_198 : decode b_M_splice 198 = .ok (.isub, 1) := by decide +kernel
theorem d_M_splice_199 : decode b_M_splice 199 = .ok (.istore 6, 2) := by decide +kernel
theorem d_M_splice_201 : decode b_M_splice 201 = .ok (.aload_n 0, 1) := by decide +kernel
theorem d_M_splice_202 : decode b_M_splice 202 = .ok (.getfield 7, 3) := by decide +kernel
theorem d_M_splice_205 : decode b_M_splice 205 = .ok (.iconst 3, 1) := by decide +kernel
theorem d_M_splice_206 : decode b_M_splice 206 = .ok (.dup2, 1) := by decide +kernel
theorem d_M_splice_207 : decode b_M_splice 207 = .ok (.iaload, 1) := by decide +kernel
theorem d_M_splice_208 : decode b_M_splice 208 = .ok (.iload 6, 2) := by decide +kernel
theorem d_M_splice_210 : decode b_M_splice 210 = .ok (.ifCond .gt 7, 3) := by decide +kernel
theorem d_M_splice_213 : decode b_M_splice 213 = .ok (.iconst 0, 1) := by decide +kernel
theorem d_M_splice_214 : decode b_M_splice 214 = .ok (.goto 15, 3) := by decide +kernel
theorem d_M_splice_217 : decode b_M_splice 217 = .ok (.iload 6, 2) := by decide +kernel
theorem d_M_splice_219 : decode b_M_splice 219 = .ok (.iload_n 3, 1) := by decide +kernel
theorem d_M_splice_220 : decode b_M_splice 220 = .ok (.if_icmp .ge 8, 3) := by decide +kernel
theorem d_M_splice_223 : decode b_M_splice 223 = .ok (.iload 6, 2) := by decide +kernel
theorem d_M_splice_225 : decode b_M_splice 225 = .ok (.goto 4, 3) := by decide +kernel
theorem d_M_splice_228 : decode b_M_splice 228 = .ok (.iload_n 3, 1) := by decide +kernel
theorem d_M_splice_229 : decode b_M_splice 229 = .ok (.isub, 1) := by decide +kernel
theorem d_M_splice_230 : decode b_M_splice 230 = .ok (.iastore, 1) := by decide +kernel
theorem d_M_splice_231 : decode b_M_splice 231 = .ok (.aload_n 0, 1) := by decide +kernel
theorem d_M_splice_232 : decode b_M_splice 232 = .ok (.getfield 7, 3) := by decide +kernel
theorem d_M_splice_235 : decode b_M_splice 235 = .ok (.iconst 0, 1) := by decide +kernel
theorem d_M_splice_236 : decode b_M_splice 236 = .ok (.iaload, 1) := by decide +kernel
theorem d_M_splice_237 : decode b_M_splice 237 = .ok (.ireturn, 1) := by decide +kernel
theorem d_M_sum_0 : decode b_M_sum 0 = .ok (.iconst 0, 1) := by decide +kernel
theorem d_M_sum_1 : decode b_M_sum 1 = .ok (.istore_n 3, 1) := by decide +kernel
theorem d_M_sum_2 : decode b_M_sum 2 = .ok (.iconst 0, 1) := by decide +kernel
theorem d_M_sum_3 : decode b_M_sum 3 = .ok (.istore 4, 2) := by decide +kernel
theorem d_M_sum_5 : decode b_M_sum 5 = .ok (.iload 4, 2) := by decide +kernel
theorem d_M_sum_7 : decode b_M_sum 7 = .ok (.aload_n 0, 1) := by decide +kernel
theorem d_M_sum_8 : decode b_M_sum 8 = .ok (.getfield 7, 3) := by decide +kernel
theorem d_M_sum_11 : decode b_M_sum 11 = .ok (.bipush 8, 2) := by decide +kernel
theorem d_M_sum_13 : decode b_M_sum 13 = .ok (.iload_n 1, 1) := by decide +kernel
theorem d_M_sum_14 : decode b_M_sum 14 = .ok (.iadd, 1) := by decide +kernel
theorem d_M_sum_15 : decode b_M_sum 15 = .ok (.iaload, 1) := by decide +kernel
theorem d_M_sum_16 : decode b_M_sum 16 = .ok (.if_icmp .ge 24, 3) := by decide +kernel
theorem d_M_sum_19 : decode b_M_sum 19 = .ok (.iload_n 3, 1) := by decide +kernel
theorem d_M_sum_20 : decode b_M_sum 20 = .ok (.aload_n 0, 1) := by decide +kernel
theorem d_M_sum_21 : decode b_M_sum 21 = .ok (.getfield 7, 3) := by decide +kernel
theorem d_M_sum_24 : decode b_M_sum 24 = .ok (.iload_n 1, 1) := by decide +kernel
theorem d_M_sum_25 : decode b_M_sum 25 = .ok (.iload 4, 2) := by decide +kernel
theorem d_M_sum_27 : decode b_M_sum 27 = .ok (.iload_n 2, 1) := by decide +kernel
theorem d_M_sum_28 : decode b_M_sum 28 = .ok (.invokestatic 38, 3) := by decide +kernel
theorem d_M_sum_31 : decode b_M_sum 31 = .ok (.iaload, 1) := by decide +kernel
theorem d_M_sum_32 : decode b_M_sum 32 = .ok (.iadd, 1) := by decide +kernel
theorem d_M_sum_33 : decode b_M_sum 33 = .ok (.istore_n 3, 1) := by decide +kernel
theorem d_M_sum_34 : decode b_M_sum 34 = .ok (.iinc 4 1, 3) := by decide +kernel
theorem d_M_sum_37 : decode b_M_sum 37 = .ok (.goto (-32), 3) := by decide +kernel
theorem d_M_sum_40 : decode b_M_sum 40 = .ok (.iload_n 3, 1) := by decide +kernel
theorem d_M_sum_41 : decode b_M_sum 41 = .ok (.ireturn, 1) := by decide +kernel
theorem d_M_ofFile_0 : decode b_M_ofFile 0 = .ok (.iload_n 1, 1) := by decide +kernel
theorem d_M_ofFile_1 : decode b_M_ofFile 1 = .ok (.invokestatic 30, 3) := by decide +kernel
theorem d_M_ofFile_4 : decode b_M_ofFile 4 = .ok (.ifCond .ne 5, 3) := by decide +kernel
theorem d_M_ofFile_7 : decode b_M_ofFile 7 = .ok (.iconst (-1), 1) := by decide +kernel
theorem d_M_ofFile_8 : decode b_M_ofFile 8 = .ok (.ireturn, 1) := by decide +kernel
theorem d_M_ofFile_9 : decode b_M_ofFile 9 = .ok (.iload_n 2, 1) := by decide +kernel
theorem d_M_ofFile_10 : decode b_M_ofFile 10 = .ok (.tableswitch 70 0 4 #[34, 44, 50, 57, 63], 34) := by decide +kernel
theorem d_M_ofFile_44 : decode b_M_ofFile 44 = .ok (.aload_n 0, 1) := by decide +kernel
theorem d_M_ofFile_45 : decode b_M_ofFile 45 = .ok (.getfield 7, 3) := by decide +kernel
theorem d_M_ofFile_48 : decode b_M_ofFile 48 = .ok (.bipush 8, 2) := by decide +kernel
theorem d_M_ofFile_50 : decode b_M_ofFile 50 = .ok (.iload_n 1, 1) := by decide +kernel
theorem d_M_ofFile_51 : decode b_M_ofFile 51 = .ok (.iadd, 1) := by decide +kernel
theorem d_M_ofFile_52 : decode b_M_ofFile 52 = .ok (.iaload, 1) := by decide +kernel
theorem d_M_ofFile_53 : decode b_M_ofFile 53 = .ok (.ireturn, 1) := by decide +kernel
theorem d_M_ofFile_54 : decode b_M_ofFile 54 = .ok (.aload_n 0, 1) := by decide +kernel
theorem d_M_ofFile_55 : decode b_M_ofFile 55 = .ok (.iload_n 1, 1) := by decide +kernel
theorem d_M_ofFile_56 : decode b_M_ofFile 56 = .ok (.invokevirtual 49, 3) := by decide +kernel
theorem d_M_ofFile_59 : decode b_M_ofFile 59 = .ok (.ireturn, 1) := by decide +kernel
theorem d_M_ofFile_60 : decode b_M_ofFile 60 = .ok (.aload_n 0, 1) := by decide +kernel
theorem d_M_ofFile_61 : decode b_M_ofFile 61 = .ok (.iload_n 1, 1) := by decide +kernel
theorem d_M_ofFile_62 : decode b_M_ofFile 62 = .ok (.iconst 0, 1) := by decide +kernel
theorem d_M_ofFile_63 : decode b_M_ofFile 63 = .ok (.invokevirtual 112, 3) := by decide +kernel
theorem d_M_ofFile_66 : decode b_M_ofFile 66 = .ok (.ireturn, 1) := by decide +kernel
theorem d_M_ofFile_67 : decode b_M_ofFile 67 = .ok (.aload_n 0, 1) := by decide +kernel
theorem d_M_ofFile_68 : decode b_M_ofFile 68 = .ok (.iload_n 1, 1) := by decide +kernel
theorem d_M_ofFile_69 : decode b_M_ofFile 69 = .ok (.invokevirtual 53, 3) := by decide +kernel
theorem d_M_ofFile_72 : decode b_M_ofFile 72 = .ok (.ireturn, 1) := by decide +kernel
theorem d_M_ofFile_73 : decode b_M_ofFile 73 = .ok (.aload_n 0, 1) := by decide +kernel
theorem d_M_ofFile_74 : decode b_M_ofFile 74 = .ok (.iload_n 1, 1) := by decide +kernel
theorem d_M_ofFile_75 : decode b_M_ofFile 75 = .ok (.iconst 1, 1) := by decide +kernel
theorem d_M_ofFile_76 : decode b_M_ofFile 76 = .ok (.invokevirtual 112, 3) := by decide +kernel
theorem d_M_ofFile_79 : decode b_M_ofFile 79 = .ok (.ireturn, 1) := by decide +kernel
theorem d_M_ofFile_80 : decode b_M_ofFile 80 = .ok (.bipush (-2), 2) := by decide +kernel
theorem d_M_ofFile_82 : decode b_M_ofFile 82 = .ok (.ireturn, 1) := by decide +kernel
theorem d_M_ofBlock_0 : decode b_M_ofBlock 0 = .ok (.aload_n 0, 1) := by decide +kernel
theorem d_M_ofBlock_1 : decode b_M_ofBlock 1 = .ok (.iload_n 1, 1) := by decide +kernel
theorem d_M_ofBlock_2 : decode b_M_ofBlock 2 = .ok (.iload_n 2, 1) := by decide +kernel
theorem d_M_ofBlock_3 : decode b_M_ofBlock 3 = .ok (.invokevirtual 78, 3) := by decide +kernel
theorem d_M_ofBlock_6 : decode b_M_ofBlock 6 = .ok (.ifCond .ne 5, 3) := by decide +kernel
theorem d_M_ofBlock_9 : decode b_M_ofBlock 9 = .ok (.iconst (-1), 1) := by decide +kernel
theorem d_M_ofBlock_10 : decode b_M_ofBlock 10 = .ok (.ireturn, 1) := by decide +kernel
theorem d_M_ofBlock_11 : decode b_M_ofBlock 11 = .ok (.iload_n 3, 1) := by decide +kernel
theorem d_M_ofBlock_12 : decode b_M_ofBlock 12 = .ok (.tableswitch 104 0 7 #[48, 48, 60, 67, 74, 81, 93, 93], 48) := by decide +kernel
theorem d_M_ofBlock_60 : decode b_M_ofBlock 60 = .ok (.aload_n 0, 1) := by decide +kernel
theorem d_M_ofBlock_61 : decode b_M_ofBlock 61 = .ok (.getfield 7, 3) := by decide +kernel
theorem d_M_ofBlock_64 : decode b_M_ofBlock 64 = .ok (.iload_n 1, 1) := by decide +kernel
theorem d_M_ofBlock_65 : decode b_M_ofBlock 65 = .ok (.iload_n 2, 1) := by decide +kernel
theorem d_M_ofBlock_66 : decode b_M_ofBlock 66 = .ok (.iload_n 3, 1) := by decide +kernel
theorem d_M_ofBlock_67 : decode b_M_ofBlock 67 = .ok (.invokestatic 38, 3) := by decide +kernel
theorem d_M_ofBlock_70 : decode b_M_ofBlock 70 = .ok (.iaload, 1) := by decide +kernel
theorem d_M_ofBlock_71 : decode b_M_ofBlock 71 = .ok (.ireturn, 1) := by decide +kernel
theorem d_M_ofBlock_72 : decode b_M_ofBlock 72 = .ok (.aload_n 0, 1) := by decide +kernel
theorem d_M_ofBlock_73 : decode b_M_ofBlock 73 = .ok (.iload_n 1, 1) := by decide +kernel
theorem d_M_ofBlock_74 : decode b_M_ofBlock 74 = .ok (.iload_n 2, 1) := by decide +kernel
theorem d_M_ofBlock_75 : decode b_M_ofBlock 75 = .ok (.invokevirtual 42, 3) := by decide +kernel
theorem d_M_ofBlock_78 : decode b_M_ofBlock 78 = .ok (.ireturn, 1) := by decide +kernel
theorem d_M_ofBlock_79 : decode b_M_ofBlock 79 = .ok (.aload_n 0, 1) := by decide +kernel
theorem d_M_ofBlock_80 : decode b_M_ofBlock 80 = .ok (.iload_n 1, 1) := by decide +kernel
theorem d_M_ofBlock_81 : decode b_M_ofBlock 81 = .ok (.iload_n 2, 1) := by decide +kernel
theorem d_M_ofBlock_82 : decode b_M_ofBlock 82 = .ok (.invokevirtual 56, 3) := by decide +kernel
theorem d_M_ofBlock_85 : decode b_M_ofBlock 85 = .ok (.ireturn, 1) := by decide +kernel
theorem d_M_ofBlock_86 : decode b_M_ofBlock 86 = .ok (.aload_n 0, 1) := by decide +kernel
theorem d_M_ofBlock_87 : decode b_M_ofBlock 87 = .ok (.iload_n 1, 1) := by decide +kernel
theorem d_M_ofBlock_88 : decode b_M_ofBlock 88 = .ok (.iload_n 2, 1) := by decide +kernel
theorem d_M_ofBlock_89 : decode b_M_ofBlock 89 = .ok (.invokevirtual 63, 3) := by decide +kernel
theorem d_M_ofBlock_92 : decode b_M_ofBlock 92 = .ok (.ireturn, 1) := by decide +kernel
theorem d_M_ofBlock_93 : decode b_M_ofBlock 93 = .ok (.aload_n 0, 1) := by decide +kernel
theorem d_M_ofBlock_94 : decode b_M_ofBlock 94 = .ok (.getfield 7, 3) := by decide +kernel
theorem d_M_ofBlock_97 : decode b_M_ofBlock 97 = .ok (.iload_n 1, 1) := by decide +kernel
theorem d_M_ofBlock_98 : decode b_M_ofBlock 98 = .ok (.iload_n 2, 1) := by decide +kernel
theorem d_M_ofBlock_99 : decode b_M_ofBlock 99 = .ok (.iconst 3, 1) := by decide +kernel
theorem d_M_ofBlock_100 : decode b_M_ofBlock 100 = .ok (.invokestatic 38, 3) := by decide +kernel
theorem d_M_ofBlock_103 : decode b_M_ofBlock 103 = .ok (.iaload, 1) := by decide +kernel
theorem d_M_ofBlock_104 : decode b_M_ofBlock 104 = .ok (.ireturn, 1) := by decide +kernel
theorem d_M_ofBlock_105 : decode b_M_ofBlock 105 = .ok (.aload_n 0, 1) := by decide +kernel
theorem d_M_ofBlock_106 : decode b_M_ofBlock 106 = .ok (.iload_n 1, 1) := by decide +kernel
theorem d_M_ofBlock_107 : decode b_M_ofBlock 107 = .ok (.iload_n 2, 1) := by decide +kernel
theorem d_M_ofBlock_108 : decode b_M_ofBlock 108 = .ok (.iload_n 3, 1) := by decide +kernel
theorem d_M_ofBlock_109 : decode b_M_ofBlock 109 = .ok (.bipush 6, 2) := by decide +kernel
theorem d_M_ofBlock_111 : decode b_M_ofBlock 111 = .ok (.isub, 1) := by decide +kernel
theorem d_M_ofBlock_112 : decode b_M_ofBlock 112 = .ok (.invokevirtual 115, 3) := by decide +kernel
theorem d_M_ofBlock_115 : decode b_M_ofBlock 115 = .ok (.ireturn, 1) := by decide +kernel
theorem d_M_ofBlock_116 : decode b_M_ofBlock 116 = .ok (.bipush (-2), 2) := by decide +kernel
theorem d_M_ofBlock_118 : decode b_M_ofBlock 118 = .ok (.ireturn, 1) := by decide +kernel
theorem d_M_at_0 : decode b_M_at 0 = .ok (.iload_n 1, 1) := by decide +kernel
theorem d_M_at_1 : decode b_M_at 1 = .ok (.iconst 0, 1) := by decide +kernel
theorem d_M_at_2 : decode b_M_at 2 = .ok (.aload_n 0, 1) := by decide +kernel
theorem d_M_at_3 : decode b_M_at 3 = .ok (.getfield 7, 3) := by decide +kernel
theorem d_M_at_6 : decode b_M_at 6 = .ok (.iconst 0, 1) := by decide +kernel
theorem d_M_at_7 : decode b_M_at 7 = .ok (.iaload, 1) := by decide +kernel
theorem d_M_at_8 : decode b_M_at 8 = .ok (.iconst 1, 1) := by decide +kernel
theorem d_M_at_9 : decode b_M_at 9 = .ok (.isub, 1) := by decide +kernel
theorem d_M_at_10 : decode b_M_at 10 = .ok (.invokestatic 26, 3) := by decide +kernel
theorem d_M_at_13 : decode b_M_at 13 = .ok (.ifCond .ne 6, 3) := by decide +kernel
theorem d_M_at_16 : decode b_M_at 16 = .ok (.bipush (-2), 2) := by decide +kernel
theorem d_M_at_18 : decode b_M_at 18 = .ok (.ireturn, 1) := by decide +kernel
theorem d_M_at_19 : decode b_M_at 19 = .ok (.aload_n 0, 1) := by decide +kernel
theorem d_M_at_20 : decode b_M_at 20 = .ok (.iload_n 1, 1) := by decide +kernel
theorem d_M_at_21 : decode b_M_at 21 = .ok (.iload_n 1, 1) := by decide +kernel
theorem d_M_at_22 : decode b_M_at 22 = .ok (.invokevirtual 109, 3) := by decide +kernel
theorem d_M_at_25 : decode b_M_at 25 = .ok (.istore_n 2, 1) := by decide +kernel
theorem d_M_at_26 : decode b_M_at 26 = .ok (.iload_n 2, 1) := by decide +kernel
theorem d_M_at_27 : decode b_M_at 27 = .ok (.iconst (-1), 1) := by decide +kernel
theorem d_M_at_28 : decode b_M_at 28 = .ok (.if_icmp .ne 7, 3) := by decide +kernel
theorem d_M_at_31 : decode b_M_at 31 = .ok (.iconst 0, 1) := by decide +kernel
theorem d_M_at_32 : decode b_M_at 32 = .ok (.goto 34, 3) := by decide +kernel
theorem d_M_at_35 : decode b_M_at 35 = .ok (.iload_n 2, 1) := by decide +kernel
theorem d_M_at_36 : decode b_M_at 36 = .ok (.ifCond .lt 15, 3) := by decide +kernel
theorem d_M_at_39 : decode b_M_at 39 = .ok (.iconst 2, 1) := by decide +kernel
theorem d_M_at_40 : decode b_M_at 40 = .ok (.bipush 10, 2) := by decide +kernel
theorem d_M_at_42 : decode b_M_at 42 = .ok (.iload_n 2, 1) := by decide +kernel
theorem d_M_at_43 : decode b_M_at 43 = .ok (.bipush 20, 2) := by decide +kernel
theorem d_M_at_45 : decode b_M_at 45 = .ok (.idiv, 1) := by decide +kernel
theorem d_M_at_46 : decode b_M_at 46 = .ok (.imul, 1) := by decide +kernel
theorem d_M_at_47 : decode b_M_at 47 = .ok (.iadd, 1) := by decide +kernel
theorem d_M_at_48 : decode b_M_at 48 = .ok (.goto 18, 3) := by decide +kernel
theorem d_M_at_51 : decode b_M_at 51 = .ok (.iload_n 1, 1) := by decide +kernel
theorem d_M_at_52 : decode b_M_at 52 = .ok (.aload_n 0, 1) := by decide +kernel
theorem d_M_at_53 : decode b_M_at 53 = .ok (.iconst 0, 1) := by decide +kernel
theorem d_M_at_54 : decode b_M_at 54 = .ok (.invokevirtual 53, 3) := by decide +kernel
theorem d_M_at_57 : decode b_M_at 57 = .ok (.if_icmp .ge 7, 3) := by decide +kernel
theorem d_M_at_60 : decode b_M_at 60 = .ok (.iconst 1, 1) := by decide +kernel
theorem d_M_at_61 : decode b_M_at 61 = .ok (.goto 5, 3) := by decide +kernel
theorem d_M_at_64 : decode b_M_at 64 = .ok (.bipush 11, 2) := by decide +kernel
theorem d_M_at_66 : decode b_M_at 66 = .ok (.ireturn, 1) := by decide +kernel
theorem d_M_count_0 : decode b_M_count 0 = .ok (.iload_n 1, 1) := by decide +kernel
theorem d_M_count_1 : decode b_M_count 1 = .ok (.tableswitch 110 0 11 #[63, 63, 63, 63, 70, 75, 91, 91, 91, 91, 100, 105], 63) := by decide +kernel
theorem d_M_count_64 : decode b_M_count 64 = .ok (.aload_n 0, 1) := by decide +kernel
theorem d_M_count_65 : decode b_M_count 65 = .ok (.getfield 7, 3) := by decide +kernel
theorem d_M_count_68 : decode b_M_count 68 = .ok (.iload_n 1, 1) := by decide +kernel
theorem d_M_count_69 : decode b_M_count 69 = .ok (.iaload, 1) := by decide +kernel
theorem d_M_count_70 : decode b_M_count 70 = .ok (.ireturn, 1) := by decide +kernel
theorem d_M_count_71 : decode b_M_count 71 = .ok (.aload_n 0, 1) := by decide +kernel
theorem d_M_count_72 : decode b_M_count 72 = .ok (.invokevirtual 70, 3) := by decide +kernel
theorem d_M_count_75 : decode b_M_count 75 = .ok (.ireturn, 1) := by decide +kernel
theorem d_M_count_76 : decode b_M_count 76 = .ok (.aload_n 0, 1) := by decide +kernel
theorem d_M_count_77 : decode b_M_count 77 = .ok (.getfield 7, 3) := by decide +kernel
theorem d_M_count_80 : decode b_M_count 80 = .ok (.bipush 8, 2) := by decide +kernel
theorem d_M_count_82 : decode b_M_count 82 = .ok (.iaload, 1) := by decide +kernel
theorem d_M_count_83 : decode b_M_count 83 = .ok (.aload_n 0, 1) := by decide +kernel
theorem d_M_count_84 : decode b_M_count 84 = .ok (.getfield 7, 3) := by decide +kernel
theorem d_M_count_87 : decode b_M_count 87 = .ok (.bipush 9, 2) := by decide +kernel
theorem d_M_count_89 : decode b_M_count 89 = .ok (.iaload, 1) := by decide +kernel
theorem d_M_count_90 : decode b_M_count 90 = .ok (.iadd, 1) := by decide +kernel
theorem d_M_count_91 : decode b_M_count 91 = .ok (.ireturn, 1) := by decide +kernel
theorem d_M_count_92 : decode b_M_count 92 = .ok (.aload_n 0, 1) := by decide +kernel
theorem d_M_count_93 : decode b_M_count 93 = .ok (.getfield 7, 3) := by decide +kernel
theorem d_M_count_96 : decode b_M_count 96 = .ok (.iload_n 1, 1) := by decide +kernel
theorem d_M_count_97 : decode b_M_count 97 = .ok (.iconst 2, 1) := by decide +kernel
theorem d_M_count_98 : decode b_M_count 98 = .ok (.isub, 1) := by decide +kernel
theorem d_M_count_99 : decode b_M_count 99 = .ok (.iaload, 1) := by decide +kernel
theorem d_M_count_100 : decode b_M_count 100 = .ok (.ireturn, 1) := by decide +kernel
theorem d_M_count_101 : decode b_M_count 101 = .ok (.aload_n 0, 1) := by decide +kernel
theorem d_M_count_102 : decode b_M_count 102 = .ok (.getfield 118, 3) := by decide +kernel
theorem d_M_count_105 : decode b_M_count 105 = .ok (.ireturn, 1) := by decide +kernel
theorem d_M_count_106 : decode b_M_count 106 = .ok (.aload_n 0, 1) := by decide +kernel
theorem d_M_count_107 : decode b_M_count 107 = .ok (.getfield 34, 3) := by decide +kernel
theorem d_M_count_110 : decode b_M_count 110 = .ok (.ireturn, 1) := by decide +kernel
theorem d_M_count_111 : decode b_M_count 111 = .ok (.bipush (-2), 2) := by decide +kernel
theorem d_M_count_113 : decode b_M_count 113 = .ok (.ireturn, 1) := by decide +kernel
theorem d_M_fits_0 : decode b_M_fits 0 = .ok (.iload_n 1, 1) := by decide +kernel
theorem d_M_fits_1 : decode b_M_fits 1 = .ok (.invokestatic 30, 3) := by decide +kernel
theorem d_M_fits_4 : decode b_M_fits 4 = .ok (.ifCond .ne 5, 3) := by decide +kernel
theorem d_M_fits_7 : decode b_M_fits 7 = .ok (.iconst (-1), 1) := by decide +kernel
theorem d_M_fits_8 : decode b_M_fits 8 = .ok (.ireturn, 1) := by decide +kernel
theorem d_M_fits_9 : decode b_M_fits 9 = .ok (.aload_n 0, 1) := by decide +kernel
theorem d_M_fits_10 : decode b_M_fits 10 = .ok (.invokevirtual 70, 3) := by decide +kernel
theorem d_M_fits_13 : decode b_M_fits 13 = .ok (.aload_n 0, 1) := by decide +kernel
theorem d_M_fits_14 : decode b_M_fits 14 = .ok (.getfield 7, 3) := by decide +kernel
theorem d_M_fits_17 : decode b_M_fits 17 = .ok (.iconst 1, 1) := by decide +kernel
theorem d_M_fits_18 : decode b_M_fits 18 = .ok (.iaload, 1) := by decide +kernel
theorem d_M_fits_19 : decode b_M_fits 19 = .ok (.isub, 1) := by decide +kernel
theorem d_M_fits_20 : decode b_M_fits 20 = .ok (.iconst 2, 1) := by decide +kernel
theorem d_M_fits_21 : decode b_M_fits 21 = .ok (.aload_n 0, 1) := by decide +kernel
theorem d_M_fits_22 : decode b_M_fits 22 = .ok (.getfield 7, 3) := by decide +kernel
theorem d_M_fits_25 : decode b_M_fits 25 = .ok (.iconst 2, 1) := by decide +kernel
theorem d_M_fits_26 : decode b_M_fits 26 = .ok (.iaload, 1) := by decide +kernel
theorem d_M_fits_27 : decode b_M_fits 27 = .ok (.imul, 1) := by decide +kernel
theorem d_M_fits_28 : decode b_M_fits 28 = .ok (.isub, 1) := by decide +kernel
theorem d_M_fits_29 : decode b_M_fits 29 = .ok (.istore_n 2, 1) := by decide +kernel
theorem d_M_fits_30 : decode b_M_fits 30 = .ok (.iload_n 2, 1) := by decide +kernel
theorem d_M_fits_31 : decode b_M_fits 31 = .ok (.ifCond .lt 17, 3) := by decide +kernel
theorem d_M_fits_34 : decode b_M_fits 34 = .ok (.aload_n 0, 1) := by decide +kernel
theorem d_M_fits_35 : decode b_M_fits 35 = .ok (.getfield 7, 3) := by decide +kernel
theorem d_M_fits_38 : decode b_M_fits 38 = .ok (.bipush 8, 2) := by decide +kernel
theorem d_M_fits_40 : decode b_M_fits 40 = .ok (.iload_n 1, 1) := by decide +kernel
theorem d_M_fits_41 : decode b_M_fits 41 = .ok (.iadd, 1) := by decide +kernel
theorem d_M_fits_42 : decode b_M_fits 42 = .ok (.iaload, 1) := by decide +kernel
theorem d_M_fits_43 : decode b_M_fits 43 = .ok (.bipush 20, 2) := by decide +kernel
theorem d_M_fits_45 : decode b_M_fits 45 = .ok (.if_icmp .ne 7, 3) := by decide +kernel
theorem d_M_fits_48 : decode b_M_fits 48 = .ok (.iconst 0, 1) := by decide +kernel
theorem d_M_fits_49 : decode b_M_fits 49 = .ok (.goto 15, 3) := by decide +kernel
theorem d_M_fits_52 : decode b_M_fits 52 = .ok (.iload_n 2, 1) := by decide +kernel
theorem d_M_fits_53 : decode b_M_fits 53 = .ok (.bipush 99, 2) := by decide +kernel
theorem d_M_fits_55 : decode b_M_fits 55 = .ok (.if_icmp .le 8, 3) := by decide +kernel
theorem d_M_fits_58 : decode b_M_fits 58 = .ok (.bipush 99, 2) := by decide +kernel
theorem d_M_fits_60 : decode b_M_fits 60 = .ok (.goto 4, 3) := by decide +kernel
theorem d_M_fits_63 : decode b_M_fits 63 = .ok (.iload_n 2, 1) := by decide +kernel
theorem d_M_fits_64 : decode b_M_fits 64 = .ok (.ireturn, 1) := by decide +kernel
theorem d_M_rooms_0 : decode b_M_rooms 0 = .ok (.iload_n 1, 1) := by decide +kernel
theorem d_M_rooms_1 : decode b_M_rooms 1 = .ok (.iconst 1, 1) := by decide +kernel
theorem d_M_rooms_2 : decode b_M_rooms 2 = .ok (.bipush 99, 2) := by decide +kernel
theorem d_M_rooms_4 : decode b_M_rooms 4 = .ok (.invokestatic 26, 3) := by decide +kernel
theorem d_M_rooms_7 : decode b_M_rooms 7 = .ok (.ifCond .ne 6, 3) := by decide +kernel
theorem d_M_rooms_10 : decode b_M_rooms 10 = .ok (.bipush (-2), 2) := by decide +kernel
theorem d_M_rooms_12 : decode b_M_rooms 12 = .ok (.ireturn, 1) := by decide +kernel
theorem d_M_rooms_13 : decode b_M_rooms 13 = .ok (.aload_n 0, 1) := by decide +kernel
theorem d_M_rooms_14 : decode b_M_rooms 14 = .ok (.invokevirtual 70, 3) := by decide +kernel
theorem d_M_rooms_17 : decode b_M_rooms 17 = .ok (.aload_n 0, 1) := by decide +kernel
theorem d_M_rooms_18 : decode b_M_rooms 18 = .ok (.getfield 7, 3) := by decide +kernel
theorem d_M_rooms_21 : decode b_M_rooms 21 = .ok (.iconst 1, 1) := by decide +kernel
theorem d_M_rooms_22 : decode b_M_rooms 22 = .ok (.iaload, 1) := by decide +kernel
theorem d_M_rooms_23 : decode b_M_rooms 23 = .ok (.isub, 1) := by decide +kernel
theorem d_M_rooms_24 : decode b_M_rooms 24 = .ok (.iload_n 1, 1) := by decide +kernel
theorem d_M_rooms_25 : decode b_M_rooms 25 = .ok (.iconst 2, 1) := by decide +kernel
theorem d_M_rooms_26 : decode b_M_rooms 26 = .ok (.aload_n 0, 1) := by decide +kernel
theorem d_M_rooms_27 : decode b_M_rooms 27 = .ok (.getfield 7, 3) := by decide +kernel
theorem d_M_rooms_30 : decode b_M_rooms 30 = .ok (.iconst 2, 1) := by decide +kernel
theorem d_M_rooms_31 : decode b_M_rooms 31 = .ok (.iaload, 1) := by decide +kernel
theorem d_M_rooms_32 : decode b_M_rooms 32 = .ok (.imul, 1) := by decide +kernel
theorem d_M_rooms_33 : decode b_M_rooms 33 = .ok (.iadd, 1) := by decide +kernel
theorem d_M_rooms_34 : decode b_M_rooms 34 = .ok (.idiv, 1) := by decide +kernel
theorem d_M_rooms_35 : decode b_M_rooms 35 = .ok (.istore_n 2, 1) := by decide +kernel
theorem d_M_rooms_36 : decode b_M_rooms 36 = .ok (.bipush 40, 2) := by decide +kernel
theorem d_M_rooms_38 : decode b_M_rooms 38 = .ok (.aload_n 0, 1) := by decide +kernel
theorem d_M_rooms_39 : decode b_M_rooms 39 = .ok (.getfield 7, 3) := by decide +kernel
theorem d_M_rooms_42 : decode b_M_rooms 42 = .ok (.bipush 8, 2) := by decide +kernel
theorem d_M_rooms_44 : decode b_M_rooms 44 = .ok (.iaload, 1) := by decide +kernel
theorem d_M_rooms_45 : decode b_M_rooms 45 = .ok (.isub, 1) := by decide +kernel
theorem d_M_rooms_46 : decode b_M_rooms 46 = .ok (.aload_n 0, 1) := by decide +kernel
theorem d_M_rooms_47 : decode b_M_rooms 47 = .ok (.getfield 7, 3) := by decide +kernel
theorem d_M_rooms_50 : decode b_M_rooms 50 = .ok (.bipush 9, 2) := by decide +kernel
theorem d_M_rooms_52 : decode b_M_rooms 52 = .ok (.iaload, 1) := by decide +kernel
theorem d_M_rooms_53 : decode b_M_rooms 53 = .ok (.isub, 1) := by decide +kernel
theorem d_M_rooms_54 : decode b_M_rooms 54 = .ok (.istore_n 3, 1) := by decide +kernel
theorem d_M_rooms_55 : decode b_M_rooms 55 = .ok (.iload_n 2, 1) := by decide +kernel
theorem d_M_rooms_56 : decode b_M_rooms 56 = .ok (.iload_n 3, 1) := by decide +kernel
theorem d_M_rooms_57 : decode b_M_rooms 57 = .ok (.if_icmp .ge 7, 3) := by decide +kernel
theorem d_M_rooms_60 : decode b_M_rooms 60 = .ok (.iload_n 2, 1) := by decide +kernel
theorem d_M_rooms_61 : decode b_M_rooms 61 = .ok (.goto 4, 3) := by decide +kernel
theorem d_M_rooms_64 : decode b_M_rooms 64 = .ok (.iload_n 3, 1) := by decide +kernel
theorem d_M_rooms_65 : decode b_M_rooms 65 = .ok (.ireturn, 1) := by decide +kernel
theorem d_M_nearest_0 : decode b_M_nearest 0 = .ok (.iload_n 1, 1) := by decide +kernel
theorem d_M_nearest_1 : decode b_M_nearest 1 = .ok (.iconst 0, 1) := by decide +kernel
theorem d_M_nearest_2 : decode b_M_nearest 2 = .ok (.iconst 3, 1) := by decide +kernel
theorem d_M_nearest_3 : decode b_M_nearest 3 = .ok (.invokestatic 26, 3) := by decide +kernel
theorem d_M_nearest_6 : decode b_M_nearest 6 = .ok (.ifCond .ne 6, 3) := by decide +kernel
theorem d_M_nearest_9 : decode b_M_nearest 9 = .ok (.bipush (-2), 2) := by decide +kernel
theorem d_M_nearest_11 : decode b_M_nearest 11 = .ok (.ireturn, 1) := by decide +kernel
theorem d_M_nearest_12 : decode b_M_nearest 12 = .ok (.bipush (-6), 2) := by decide +kernel
theorem d_M_nearest_14 : decode b_M_nearest 14 = .ok (.istore_n 2, 1) := by decide +kernel
theorem d_M_nearest_15 : decode b_M_nearest 15 = .ok (.iconst 0, 1) := by decide +kernel
theorem d_M_nearest_16 : decode b_M_nearest 16 = .ok (.istore_n 3, 1) := by decide +kernel
theorem d_M_nearest_17 : decode b_M_nearest 17 = .ok (.iconst 0, 1) := by decide +kernel
theorem d_M_nearest_18 : decode b_M_nearest 18 = .ok (.istore 4, 2) := by decide +kernel
theorem d_M_nearest_20 : decode b_M_nearest 20 = .ok (.iload 4, 2) := by decide +kernel
theorem d_M_nearest_22 : decode b_M_nearest 22 = .ok (.bipush 80, 2) := by decide +kernel
theorem d_M_nearest_24 : decode b_M_nearest 24 = .ok (.if_icmp .ge 97, 3) := by decide +kernel
theorem d_M_nearest_27 : decode b_M_nearest 27 = .ok (.iload 4, 2) := by decide +kernel
theorem d_M_nearest_29 : decode b_M_nearest 29 = .ok (.bipush 40, 2) := by decide +kernel
theorem d_M_nearest_31 : decode b_M_nearest 31 = .ok (.idiv, 1) := by decide +kernel
theorem d_M_nearest_32 : decode b_M_nearest 32 = .ok (.istore 5, 2) := by decide +kernel
theorem d_M_nearest_34 : decode b_M_nearest 34 = .ok (.iload 4, 2) := by decide +kernel
theorem d_M_nearest_36 : decode b_M_nearest 36 = .ok (.iconst 2, 1) := by decide +kernel
theorem d_M_nearest_37 : decode b_M_nearest 37 = .ok (.idiv, 1) := by decide +kernel
theorem d_M_nearest_38 : decode b_M_nearest 38 = .ok (.bipush 20, 2) := by decide +kernel
theorem d_M_nearest_40 : decode b_M_nearest 40 = .ok (.irem, 1) := by decide +kernel
theorem d_M_nearest_41 : decode b_M_nearest 41 = .ok (.istore 6, 2) := by decide +kernel
theorem d_M_nearest_43 : decode b_M_nearest 43 = .ok (.iload 6, 2) := by decide +kernel
theorem d_M_nearest_45 : decode b_M_nearest 45 = .ok (.aload_n 0, 1) := by decide +kernel
theorem d_M_nearest_46 : decode b_M_nearest 46 = .ok (.getfield 7, 3) := by decide +kernel
theorem d_M_nearest_49 : decode b_M_nearest 49 = .ok (.bipush 8, 2) := by decide +kernel
theorem d_M_nearest_51 : decode b_M_nearest 51 = .ok (.iload 5, 2) := by decide +kernel
theorem d_M_nearest_53 : decode b_M_nearest 53 = .ok (.iadd, 1) := by decide +kernel
theorem d_M_nearest_54 : decode b_M_nearest 54 = .ok (.iaload, 1) := by decide +kernel
theorem d_M_nearest_55 : decode b_M_nearest 55 = .ok (.if_icmp .ge 60, 3) := by decide +kernel
theorem d_M_nearest_58 : decode b_M_nearest 58 = .ok (.aload_n 0, 1) := by decide +kernel
theorem d_M_nearest_59 : decode b_M_nearest 59 = .ok (.iload 5, 2) := by decide +kernel
theorem d_M_nearest_61 : decode b_M_nearest 61 = .ok (.iload 6, 2) := by decide +kernel
theorem d_M_nearest_63 : decode b_M_nearest 63 = .ok (.iload 4, 2) := by decide +kernel
theorem d_M_nearest_65 : decode b_M_nearest 65 = .ok (.iconst 2, 1) := by decide +kernel
theorem d_M_nearest_66 : decode b_M_nearest 66 = .ok (.irem, 1) := by decide +kernel
theorem d_M_nearest_67 : decode b_M_nearest 67 = .ok (.invokevirtual 115, 3) := by decide +kernel
theorem d_M_nearest_70 : decode b_M_nearest 70 = .ok (.istore 7, 2) := by decide +kernel
theorem d_M_nearest_72 : decode b_M_nearest 72 = .ok (.iload_n 2, 1) := by decide +kernel
theorem d_M_nearest_73 : decode b_M_nearest 73 = .ok (.bipush (-6), 2) := by decide +kernel
theorem d_M_nearest_75 : decode b_M_nearest 75 = .ok (.if_icmp .eq 9, 3) := by decide +kernel
theorem d_M_nearest_78 : decode b_M_nearest 78 = .ok (.iload 7, 2) := by decide +kernel
theorem d_M_nearest_80 : decode b_M_nearest 80 = .ok (.iload_n 3, 1) := by decide +kernel
theorem d_M_nearest_81 : decode b_M_nearest 81 = .ok (.if_icmp .ge 7, 3) := by decide +kernel
theorem d_M_nearest_84 : decode b_M_nearest 84 = .ok (.iconst 1, 1) := by decide +kernel
theorem d_M_nearest_85 : decode b_M_nearest 85 = .ok (.goto 4, 3) := by decide +kernel
theorem d_M_nearest_88 : decode b_M_nearest 88 = .ok (.iconst 0, 1) := by decide +kernel
theorem d_M_nearest_89 : decode b_M_nearest 89 = .ok (.istore 8, 2) := by decide +kernel
theorem d_M_nearest_91 : decode b_M_nearest 91 = .ok (.iload 8, 2) := by decide +kernel
theorem d_M_nearest_93 : decode b_M_nearest 93 = .ok (.ifCond .eq 8, 3) := by decide +kernel
theorem d_M_nearest_96 : decode b_M_nearest 96 = .ok (.iload 4, 2) := by decide +kernel
theorem d_M_nearest_98 : decode b_M_nearest 98 = .ok (.goto 4, 3) := by decide +kernel
theorem d_M_nearest_101 : decode b_M_nearest 101 = .ok (.iload_n 2, 1) := by decide +kernel
theorem d_M_nearest_102 : decode b_M_nearest 102 = .ok (.istore_n 2, 1) := by decide +kernel
theorem d_M_nearest_103 : decode b_M_nearest 103 = .ok (.iload 8, 2) := by decide +kernel
theorem d_M_nearest_105 : decode b_M_nearest 105 = .ok (.ifCond .eq 8, 3) := by decide +kernel
theorem d_M_nearest_108 : decode b_M_nearest 108 = .ok (.iload 7, 2) := by decide +kernel
theorem d_M_nearest_110 : decode b_M_nearest 110 = .ok (.goto 4, 3) := by decide +kernel
theorem d_M_nearest_113 : decode b_M_nearest 113 = .ok (.iload_n 3, 1) := by decide +kernel
theorem d_M_nearest_114 : decode b_M_nearest 114 = .ok (.istore_n 3, 1) := by decide +kernel
theorem d_M_nearest_115 : decode b_M_nearest 115 = .ok (.iinc 4 1, 3) := by decide +kernel
theorem d_M_nearest_118 : decode b_M_nearest 118 = .ok (.goto (-98), 3) := by decide +kernel
theorem d_M_nearest_121 : decode b_M_nearest 121 = .ok (.iload_n 2, 1) := by decide +kernel
theorem d_M_nearest_122 : decode b_M_nearest 122 = .ok (.bipush (-6), 2) := by decide +kernel
theorem d_M_nearest_124 : decode b_M_nearest 124 = .ok (.if_icmp .ne 8, 3) := by decide +kernel
theorem d_M_nearest_127 : decode b_M_nearest 127 = .ok (.bipush (-6), 2) := by decide +kernel
theorem d_M_nearest_129 : decode b_M_nearest 129 = .ok (.goto 40, 3) := by decide +kernel
theorem d_M_nearest_132 : decode b_M_nearest 132 = .ok (.iload_n 1, 1) := by decide +kernel
theorem d_M_nearest_133 : decode b_M_nearest 133 = .ok (.ifCond .ne 10, 3) := by decide +kernel
theorem d_M_nearest_136 : decode b_M_nearest 136 = .ok (.iload_n 2, 1) := by decide +kernel
theorem d_M_nearest_137 : decode b_M_nearest 137 = .ok (.bipush 40, 2) := by decide +kernel
theorem d_M_nearest_139 : decode b_M_nearest 139 = .ok (.idiv, 1) := by decide +kernel
theorem d_M_nearest_140 : decode b_M_nearest 140 = .ok (.goto 29, 3) := by decide +kernel
theorem d_M_nearest_143 : decode b_M_nearest 143 = .ok (.iload_n 1, 1) := by decide +kernel
theorem d_M_nearest_144 : decode b_M_nearest 144 = .ok (.iconst 1, 1) := by decide +kernel
theorem d_M_nearest_145 : decode b_M_nearest 145 = .ok (.if_icmp .ne 12, 3) := by decide +kernel
theorem d_M_nearest_148 : decode b_M_nearest 148 = .ok (.iload_n 2, 1) := by decide +kernel
theorem d_M_nearest_149 : decode b_M_nearest 149 = .ok (.iconst 2, 1) := by decide +kernel
theorem d_M_nearest_150 : decode b_M_nearest 150 = .ok (.idiv, 1) := by decide +kernel
theorem d_M_nearest_151 : decode b_M_nearest 151 = .ok (.bipush 20, 2) := by decide +kernel
theorem d_M_nearest_153 : decode b_M_nearest 153 = .ok (.irem, 1) := by decide +kernel
theorem d_M_nearest_154 : decode b_M_nearest 154 = .ok (.goto 15, 3) := by decide +kernel
theorem d_M_nearest_157 : decode b_M_nearest 157 = .ok (.iload_n 1, 1) := by decide +kernel
theorem d_M_nearest_158 : decode b_M_nearest 158 = .ok (.iconst 2, 1) := by decide +kernel
theorem d_M_nearest_159 : decode b_M_nearest 159 = .ok (.if_icmp .ne 9, 3) := by decide +kernel
theorem d_M_nearest_162 : decode b_M_nearest 162 = .ok (.iload_n 2, 1) := by decide +kernel
theorem d_M_nearest_163 : decode b_M_nearest 163 = .ok (.iconst 2, 1) := by decide +kernel
theorem d_M_nearest_164 : decode b_M_nearest 164 = .ok (.irem, 1) := by decide +kernel
theorem d_M_nearest_165 : decode b_M_nearest 165 = .ok (.goto 4, 3) := by decide +kernel
theorem d_M_nearest_168 : decode b_M_nearest 168 = .ok (.iload_n 3, 1) := by decide +kernel
theorem d_M_nearest_169 : decode b_M_nearest 169 = .ok (.ireturn, 1) := by decide +kernel
theorem d_M_put_0 : decode b_M_put 0 = .ok (.iconst 0, 1) := by decide +kernel
theorem d_M_put_1 : decode b_M_put 1 = .ok (.istore_n 3, 1) := by decide +kernel
theorem d_M_put_2 : decode b_M_put 2 = .ok (.iconst 0, 1) := by decide +kernel
theorem d_M_put_3 : decode b_M_put 3 = .ok (.istore 4, 2) := by decide +kernel
theorem d_M_put_5 : decode b_M_put 5 = .ok (.iconst 0, 1) := by decide +kernel
theorem d_M_put_6 : decode b_M_put 6 = .ok (.istore 5, 2) := by decide +kernel
theorem d_M_put_8 : decode b_M_put 8 = .ok (.iload 5, 2) := by decide +kernel
theorem d_M_put_10 : decode b_M_put 10 = .ok (.bipush 8, 2) := by decide +kernel
theorem d_M_put_12 : decode b_M_put 12 = .ok (.if_icmp .ge 89, 3) := by decide +kernel
theorem d_M_put_15 : decode b_M_put 15 = .ok (.lload_n 1, 1) := by decide +kernel
theorem d_M_put_16 : decode b_M_put 16 = .ok (.bipush 8, 2) := by decide +kernel
theorem d_M_put_18 : decode b_M_put 18 = .ok (.iload 5, 2) := by decide +kernel
theorem d_M_put_20 : decode b_M_put 20 = .ok (.imul, 1) := by decide +kernel
theorem d_M_put_21 : decode b_M_put 21 = .ok (.lushr, 1) := by decide +kernel
theorem d_M_put_22 : decode b_M_put 22 = .ok (.ldc2_w 121, 3) := by decide +kernel
theorem d_M_put_25 : decode b_M_put 25 = .ok (.land, 1) := by decide +kernel
theorem d_M_put_26 : decode b_M_put 26 = .ok (.l2i, 1) := by decide +kernel
theorem d_M_put_27 : decode b_M_put 27 = .ok (.istore 6, 2) := by decide +kernel
theorem d_M_put_29 : decode b_M_put 29 = .ok (.iload 5, 2) := by decide +kernel
theorem d_M_put_31 : decode b_M_put 31 = .ok (.ifCond .le 19, 3) := by decide +kernel
theorem d_M_put_34 : decode b_M_put 34 = .ok (.lload_n 1, 1) := by decide +kernel
theorem d_M_put_35 : decode b_M_put 35 = .ok (.bipush 8, 2) := by decide +kernel
theorem d_M_put_37 : decode b_M_put 37 = .ok (.iload 5, 2) := by decide +kernel
theorem d_M_put_39 : decode b_M_put 39 = .ok (.imul, 1) := by decide +kernel
theorem d_M_put_40 : decode b_M_put 40 = .ok (.lushr, 1) := by decide +kernel
theorem d_M_put_41 : decode b_M_put 41 = .ok (.lconst 0, 1) := by decide +kernel
theorem d_M_put_42 : decode b_M_put 42 = .ok (.lcmp, 1) := by decide +kernel
theorem d_M_put_43 : decode b_M_put 43 = .ok (.ifCond .ne 7, 3) := by decide +kernel
theorem d_M_put_46 : decode b_M_put 46 = .ok (.iconst 1, 1) := by decide +kernel
theorem d_M_put_47 : decode b_M_put 47 = .ok (.goto 4, 3) := by decide +kernel
theorem d_M_put_50 : decode b_M_put 50 = .ok (.iconst 0, 1) := by decide +kernel
theorem d_M_put_51 : decode b_M_put 51 = .ok (.istore 7, 2) := by decide +kernel
theorem d_M_put_53 : decode b_M_put 53 = .ok (.iload 4, 2) := by decide +kernel
theorem d_M_put_55 : decode b_M_put 55 = .ok (.ifCond .ne 20, 3) := by decide +kernel
theorem d_M_put_58 : decode b_M_put 58 = .ok (.iload 7, 2) := by decide +kernel
theorem d_M_put_60 : decode b_M_put 60 = .ok (.ifCond .ne 19, 3) := by decide +kernel
theorem d_M_put_63 : decode b_M_put 63 = .ok (.iload 6, 2) := by decide +kernel
theorem d_M_put_65 : decode b_M_put 65 = .ok (.bipush 33, 2) := by decide +kernel
theorem d_M_put_67 : decode b_M_put 67 = .ok (.bipush 126, 2) := by decide +kernel
theorem d_M_put_69 : decode b_M_put 69 = .ok (.invokestatic 26, 3) := by decide +kernel
theorem d_M_put_72 : decode b_M_put 72 = .ok (.ifCond .ne 7, 3) := by decide +kernel
theorem d_M_put_75 : decode b_M_put 75 = .ok (.iconst 1, 1) := by decide +kernel
theorem d_M_put_76 : decode b_M_put 76 = .ok (.goto 4, 3) := by decide +kernel
theorem d_M_put_79 : decode b_M_put 79 = .ok (.iconst 0, 1) := by decide +kernel
theorem d_M_put_80 : decode b_M_put 80 = .ok (.istore 4, 2) := by decide +kernel
theorem d_M_put_82 : decode b_M_put 82 = .ok (.iload_n 3, 1) := by decide +kernel
theorem d_M_put_83 : decode b_M_put 83 = .ok (.iload 7, 2) := by decide +kernel
theorem d_M_put_85 : decode b_M_put 85 = .ok (.ifCond .eq 7, 3) := by decide +kernel
theorem d_M_put_88 : decode b_M_put 88 = .ok (.iconst 0, 1) := by decide +kernel
theorem d_M_put_89 : decode b_M_put 89 = .ok (.goto 4, 3) := by decide +kernel
theorem d_M_put_92 : decode b_M_put 92 = .ok (.iconst 1, 1) := by decide +kernel
theorem d_M_put_93 : decode b_M_put 93 = .ok (.iadd, 1) := by decide +kernel
theorem d_M_put_94 : decode b_M_put 94 = .ok (.istore_n 3, 1) := by decide +kernel
theorem d_M_put_95 : decode b_M_put 95 = .ok (.iinc 5 1, 3) := by decide +kernel
theorem d_M_put_98 : decode b_M_put 98 = .ok (.goto (-90), 3) := by decide +kernel
theorem d_M_put_101 : decode b_M_put 101 = .ok (.iload 4, 2) := by decide +kernel
theorem d_M_put_103 : decode b_M_put 103 = .ok (.ifCond .eq 6, 3) := by decide +kernel
theorem d_M_put_106 : decode b_M_put 106 = .ok (.bipush (-2), 2) := by decide +kernel
theorem d_M_put_108 : decode b_M_put 108 = .ok (.ireturn, 1) := by decide +kernel
theorem d_M_put_109 : decode b_M_put 109 = .ok (.aload_n 0, 1) := by decide +kernel
theorem d_M_put_110 : decode b_M_put 110 = .ok (.getfield 118, 3) := by decide +kernel
theorem d_M_put_113 : decode b_M_put 113 = .ok (.iload_n 3, 1) := by decide +kernel
theorem d_M_put_114 : decode b_M_put 114 = .ok (.iadd, 1) := by decide +kernel
theorem d_M_put_115 : decode b_M_put 115 = .ok (.bipush 80, 2) := by decide +kernel
theorem d_M_put_117 : decode b_M_put 117 = .ok (.if_icmp .le 6, 3) := by decide +kernel
theorem d_M_put_120 : decode b_M_put 120 = .ok (.bipush (-4), 2) := by decide +kernel
theorem d_M_put_122 : decode b_M_put 122 = .ok (.ireturn, 1) := by decide +kernel
theorem d_M_put_123 : decode b_M_put 123 = .ok (.iconst 0, 1) := by decide +kernel
theorem d_M_put_124 : decode b_M_put 124 = .ok (.istore 5, 2) := by decide +kernel
theorem d_M_put_126 : decode b_M_put 126 = .ok (.iload 5, 2) := by decide +kernel
theorem d_M_put_128 : decode b_M_put 128 = .ok (.iload_n 3, 1) := by decide +kernel
theorem d_M_put_129 : decode b_M_put 129 = .ok (.if_icmp .ge 37, 3) := by decide +kernel
theorem d_M_put_132 : decode b_M_put 132 = .ok (.aload_n 0, 1) := by decide +kernel
theorem d_M_put_133 : decode b_M_put 133 = .ok (.getfield 23, 3) := by decide +kernel
theorem d_M_put_136 : decode b_M_put 136 = .ok (.aload_n 0, 1) := by decide +kernel
theorem d_M_put_137 : decode b_M_put 137 = .ok (.getfield 118, 3) := by decide +kernel
theorem d_M_put_140 : decode b_M_put 140 = .ok (.iload_n 3, 1) := by decide +kernel
theorem d_M_put_141 : decode b_M_put 141 = .ok (.iadd, 1) := by decide +kernel
theorem d_M_put_142 : decode b_M_put 142 = .ok (.iconst 1, 1) := by decide +kernel
theorem d_M_put_143 : decode b_M_put 143 = .ok (.isub, 1) := by decide +kernel
theorem d_M_put_144 : decode b_M_put 144 = .ok (.iload 5, 2) := by decide +kernel
theorem d_M_put_146 : decode b_M_put 146 = .ok (.isub, 1) := by decide +kernel
theorem d_M_put_147 : decode b_M_put 147 = .ok (.lload_n 1, 1) := by decide +kernel
theorem d_M_put_148 : decode b_M_put 148 = .ok (.bipush 8, 2) := by decide +kernel
theorem d_M_put_150 : decode b_M_put 150 = .ok (.iload 5, 2) := by decide +kernel
theorem d_M_put_152 : decode b_M_put 152 = .ok (.imul, 1) := by decide +kernel
theorem d_M_put_153 : decode b_M_put 153 = .ok (.lushr, 1) := by decide +kernel
theorem d_M_put_154 : decode b_M_put 154 = .ok (.ldc2_w 121, 3) := by decide +kernel
theorem d_M_put_157 : decode b_M_put 157 = .ok (.land, 1) := by decide +kernel
theorem d_M_put_158 : decode b_M_put 158 = .ok (.l2i, 1) := by decide +kernel
theorem d_M_put_159 : decode b_M_put 159 = .ok (.iastore, 1) := by decide +kernel
theorem d_M_put_160 : decode b_M_put 160 = .ok (.iinc 5 1, 3) := by decide +kernel
theorem d_M_put_163 : decode b_M_put 163 = .ok (.goto (-37), 3) := by decide +kernel
theorem d_M_put_166 : decode b_M_put 166 = .ok (.aload_n 0, 1) := by decide +kernel
theorem d_M_put_167 : decode b_M_put 167 = .ok (.dup, 1) := by decide +kernel
theorem d_M_put_168 : decode b_M_put 168 = .ok (.getfield 118, 3) := by decide +kernel
theorem d_M_put_171 : decode b_M_put 171 = .ok (.iload_n 3, 1) := by decide +kernel
theorem d_M_put_172 : decode b_M_put 172 = .ok (.iadd, 1) := by decide +kernel
theorem d_M_put_173 : decode b_M_put 173 = .ok (.putfield 118, 3) := by decide +kernel
theorem d_M_put_176 : decode b_M_put 176 = .ok (.aload_n 0, 1) := by decide +kernel
theorem d_M_put_177 : decode b_M_put 177 = .ok (.getfield 118, 3) := by decide +kernel
theorem d_M_put_180 : decode b_M_put 180 = .ok (.ireturn, 1) := by decide +kernel
theorem d_M_wipe_0 : decode b_M_wipe 0 = .ok (.aload_n 0, 1) := by decide +kernel
theorem d_M_wipe_1 : decode b_M_wipe 1 = .ok (.getfield 118, 3) := by decide +kernel
theorem d_M_wipe_4 : decode b_M_wipe 4 = .ok (.istore_n 1, 1) := by decide +kernel
theorem d_M_wipe_5 : decode b_M_wipe 5 = .ok (.aload_n 0, 1) := by decide +kernel
theorem d_M_wipe_6 : decode b_M_wipe 6 = .ok (.iconst 0, 1) := by decide +kernel
theorem d_M_wipe_7 : decode b_M_wipe 7 = .ok (.putfield 118, 3) := by decide +kernel
theorem d_M_wipe_10 : decode b_M_wipe 10 = .ok (.iload_n 1, 1) := by decide +kernel
theorem d_M_wipe_11 : decode b_M_wipe 11 = .ok (.ireturn, 1) := by decide +kernel
theorem d_M_sign_0 : decode b_M_sign 0 = .ok (.aload_n 0, 1) := by decide +kernel
theorem d_M_sign_1 : decode b_M_sign 1 = .ok (.getfield 123, 3) := by decide +kernel
theorem d_M_sign_4 : decode b_M_sign 4 = .ok (.aload_n 0, 1) := by decide +kernel
theorem d_M_sign_5 : decode b_M_sign 5 = .ok (.getfield 118, 3) := by decide +kernel
theorem d_M_sign_8 : decode b_M_sign 8 = .ok (.if_icmp .ge 15, 3) := by decide +kernel
theorem d_M_sign_11 : decode b_M_sign 11 = .ok (.aload_n 0, 1) := by decide +kernel
theorem d_M_sign_12 : decode b_M_sign 12 = .ok (.getfield 23, 3) := by decide +kernel
theorem d_M_sign_15 : decode b_M_sign 15 = .ok (.aload_n 0, 1) := by decide +kernel
theorem d_M_sign_16 : decode b_M_sign 16 = .ok (.getfield 123, 3) := by decide +kernel
theorem d_M_sign_19 : decode b_M_sign 19 = .ok (.iaload, 1) := by decide +kernel
theorem d_M_sign_20 : decode b_M_sign 20 = .ok (.goto 4, 3) := by decide +kernel
theorem d_M_sign_23 : decode b_M_sign 23 = .ok (.iconst 0, 1) := by decide +kernel
theorem d_M_sign_24 : decode b_M_sign 24 = .ok (.istore_n 3, 1) := by decide +kernel
theorem d_M_sign_25 : decode b_M_sign 25 = .ok (.aload_n 0, 1) := by decide +kernel
theorem d_M_sign_26 : decode b_M_sign 26 = .ok (.aload_n 0, 1) := by decide +kernel
theorem d_M_sign_27 : decode b_M_sign 27 = .ok (.getfield 126, 3) := by decide +kernel
theorem d_M_sign_30 : decode b_M_sign 30 = .ok (.ifCond .ne 12, 3) := by decide +kernel
theorem d_M_sign_33 : decode b_M_sign 33 = .ok (.iload_n 3, 1) := by decide +kernel
theorem d_M_sign_34 : decode b_M_sign 34 = .ok (.iload_n 1, 1) := by decide +kernel
theorem d_M_sign_35 : decode b_M_sign 35 = .ok (.iload_n 2, 1) := by decide +kernel
theorem d_M_sign_36 : decode b_M_sign 36 = .ok (.invokestatic 26, 3) := by decide +kernel
theorem d_M_sign_39 : decode b_M_sign 39 = .ok (.ifCond .ne 7, 3) := by decide +kernel
theorem d_M_sign_42 : decode b_M_sign 42 = .ok (.iconst 1, 1) := by decide +kernel
theorem d_M_sign_43 : decode b_M_sign 43 = .ok (.goto 4, 3) := by decide +kernel
theorem d_M_sign_46 : decode b_M_sign 46 = .ok (.iconst 0, 1) := by decide +kernel
theorem d_M_sign_47 : decode b_M_sign 47 = .ok (.putfield 126, 3) := by decide +kernel
theorem d_M_sign_50 : decode b_M_sign 50 = .ok (.aload_n 0, 1) := by decide +kernel
theorem d_M_sign_51 : decode b_M_sign 51 = .ok (.dup, 1) := by decide +kernel
theorem d_M_sign_52 : decode b_M_sign 52 = .ok (.getfield 123, 3) := by decide +kernel
theorem d_M_sign_55 : decode b_M_sign 55 = .ok (.aload_n 0, 1) := by decide +kernel
theorem d_M_sign_56 : decode b_M_sign 56 = .ok (.getfield 126, 3) := by decide +kernel
theorem d_M_sign_59 : decode b_M_sign 59 = .ok (.ifCond .eq 7, 3) := by decide +kernel
theorem d_M_sign_62 : decode b_M_sign 62 = .ok (.iconst 0, 1) := by decide +kernel
theorem d_M_sign_63 : decode b_M_sign 63 = .ok (.goto 4, 3) := by decide +kernel
theorem d_M_sign_66 : decode b_M_sign 66 = .ok (.iconst 1, 1) := by decide +kernel
theorem d_M_sign_67 : decode b_M_sign 67 = .ok (.iadd, 1) := by decide +kernel
theorem d_M_sign_68 : decode b_M_sign 68 = .ok (.putfield 123, 3) := by decide +kernel
theorem d_M_sign_71 : decode b_M_sign 71 = .ok (.iload_n 3, 1) := by decide +kernel
theorem d_M_sign_72 : decode b_M_sign 72 = .ok (.ireturn, 1) := by decide +kernel
theorem d_M_isNext_0 : decode b_M_isNext 0 = .ok (.aload_n 0, 1) := by decide +kernel
theorem d_M_isNext_1 : decode b_M_isNext 1 = .ok (.getfield 126, 3) := by decide +kernel
theorem d_M_isNext_4 : decode b_M_isNext 4 = .ok (.ifCond .ne 35, 3) := by decide +kernel
theorem d_M_isNext_7 : decode b_M_isNext 7 = .ok (.aload_n 0, 1) := by decide +kernel
theorem d_M_isNext_8 : decode b_M_isNext 8 = .ok (.getfield 123, 3) := by decide +kernel
theorem d_M_isNext_11 : decode b_M_isNext 11 = .ok (.aload_n 0, 1) := by decide +kernel
theorem d_M_isNext_12 : decode b_M_isNext 12 = .ok (.getfield 118, 3) := by decide +kernel
theorem d_M_isNext_15 : decode b_M_isNext 15 = .ok (.if_icmp .ge 24, 3) := by decide +kernel
theorem d_M_isNext_18 : decode b_M_isNext 18 = .ok (.aload_n 0, 1) := by decide +kernel
theorem d_M_isNext_19 : decode b_M_isNext 19 = .ok (.getfield 23, 3) := by decide +kernel
theorem d_M_isNext_22 : decode b_M_isNext 22 = .ok (.aload_n 0, 1) := by decide +kernel
theorem d_M_isNext_23 : decode b_M_isNext 23 = .ok (.getfield 123, 3) := by decide +kernel
theorem d_M_isNext_26 : decode b_M_isNext 26 = .ok (.iaload, 1) := by decide +kernel
theorem d_M_isNext_27 : decode b_M_isNext 27 = .ok (.iload_n 1, 1) := by decide +kernel
theorem d_M_isNext_28 : decode b_M_isNext 28 = .ok (.iload_n 2, 1) := by decide +kernel
theorem d_M_isNext_29 : decode b_M_isNext 29 = .ok (.invokestatic 26, 3) := by decide +kernel
theorem d_M_isNext_32 : decode b_M_isNext 32 = .ok (.ifCond .eq 7, 3) := by decide +kernel
theorem d_M_isNext_35 : decode b_M_isNext 35 = .ok (.iconst 1, 1) := by decide +kernel
theorem d_M_isNext_36 : decode b_M_isNext 36 = .ok (.goto 4, 3) := by decide +kernel
theorem d_M_isNext_39 : decode b_M_isNext 39 = .ok (.iconst 0, 1) := by decide +kernel
theorem d_M_isNext_40 : decode b_M_isNext 40 = .ok (.ireturn, 1) := by decide +kernel
theorem d_M_number_0 : decode b_M_number 0 = .ok (.aload_n 0, 1) := by decide +kernel
theorem d_M_number_1 : decode b_M_number 1 = .ok (.bipush 48, 2) := by decide +kernel
theorem d_M_number_3 : decode b_M_number 3 = .ok (.bipush 57, 2) := by decide +kernel
theorem d_M_number_5 : decode b_M_number 5 = .ok (.invokevirtual 130, 3) := by decide +kernel
theorem d_M_number_8 : decode b_M_number 8 = .ok (.bipush 48, 2) := by decide +kernel
theorem d_M_number_10 : decode b_M_number 10 = .ok (.isub, 1) := by decide +kernel
theorem d_M_number_11 : decode b_M_number 11 = .ok (.istore_n 1, 1) := by decide +kernel
theorem d_M_number_12 : decode b_M_number 12 = .ok (.iconst 1, 1) := by decide +kernel
theorem d_M_number_13 : decode b_M_number 13 = .ok (.istore_n 2, 1) := by decide +kernel
theorem d_M_number_14 : decode b_M_number 14 = .ok (.iload_n 2, 1) := by decide +kernel
theorem d_M_number_15 : decode b_M_number 15 = .ok (.iconst 4, 1) := by decide +kernel
theorem d_M_number_16 : decode b_M_number 16 = .ok (.if_icmp .ge 41, 3) := by decide +kernel
theorem d_M_number_19 : decode b_M_number 19 = .ok (.iload_n 1, 1) := by decide +kernel
theorem d_M_number_20 : decode b_M_number 20 = .ok (.ifCond .le 37, 3) := by decide +kernel
theorem d_M_number_23 : decode b_M_number 23 = .ok (.aload_n 0, 1) := by decide +kernel
theorem d_M_number_24 : decode b_M_number 24 = .ok (.bipush 48, 2) := by decide +kernel
theorem d_M_number_26 : decode b_M_number 26 = .ok (.bipush 57, 2) := by decide +kernel
theorem d_M_number_28 : decode b_M_number 28 = .ok (.invokevirtual 133, 3) := by decide +kernel
theorem d_M_number_31 : decode b_M_number 31 = .ok (.ifCond .eq 26, 3) := by decide +kernel
theorem d_M_number_34 : decode b_M_number 34 = .ok (.bipush 10, 2) := by decide +kernel
theorem d_M_number_36 : decode b_M_number 36 = .ok (.iload_n 1, 1) := by decide +kernel
theorem d_M_number_37 : decode b_M_number 37 = .ok (.imul, 1) := by decide +kernel
theorem d_M_number_38 : decode b_M_number 38 = .ok (.aload_n 0, 1) := by decide +kernel
theorem d_M_number_39 : decode b_M_number 39 = .ok (.bipush 48, 2) := by decide +kernel
theorem d_M_number_41 : decode b_M_number 41 = .ok (.bipush 57, 2) := by decide +kernel
theorem d_M_number_43 : decode b_M_number 43 = .ok (.invokevirtual 130, 3) := by decide +kernel
theorem d_M_number_46 : decode b_M_number 46 = .ok (.iadd, 1) := by decide +kernel
theorem d_M_number_47 : decode b_M_number 47 = .ok (.bipush 48, 2) := by decide +kernel
theorem d_M_number_49 : decode b_M_number 49 = .ok (.isub, 1) := by decide +kernel
theorem d_M_number_50 : decode b_M_number 50 = .ok (.istore_n 1, 1) := by decide +kernel
theorem d_M_number_51 : decode b_M_number 51 = .ok (.iinc 2 1, 3) := by decide +kernel
theorem d_M_number_54 : decode b_M_number 54 = .ok (.goto (-40), 3) := by decide +kernel
theorem d_M_number_57 : decode b_M_number 57 = .ok (.iload_n 1, 1) := by decide +kernel
theorem d_M_number_58 : decode b_M_number 58 = .ok (.ireturn, 1) := by decide +kernel
theorem d_M_order_0 : decode b_M_order 0 = .ok (.aload_n 0, 1) := by decide +kernel
theorem d_M_order_1 : decode b_M_order 1 = .ok (.getfield 123, 3) := by decide +kernel
theorem d_M_order_4 : decode b_M_order 4 = .ok (.aload_n 0, 1) := by decide +kernel
theorem d_M_order_5 : decode b_M_order 5 = .ok (.getfield 118, 3) := by decide +kernel
theorem d_M_order_8 : decode b_M_order 8 = .ok (.if_icmp .ge 15, 3) := by decide +kernel
theorem d_M_order_11 : decode b_M_order 11 = .ok (.aload_n 0, 1) := by decide +kernel
theorem d_M_order_12 : decode b_M_order 12 = .ok (.getfield 23, 3) := by decide +kernel
theorem d_M_order_15 : decode b_M_order 15 = .ok (.aload_n 0, 1) := by decide +kernel
theorem d_M_order_16 : decode b_M_order 16 = .ok (.getfield 123, 3) := by decide +kernel
theorem d_M_order_19 : decode b_M_order 19 = .ok (.iaload, 1) := by decide +kernel
theorem d_M_order_20 : decode b_M_order 20 = .ok (.goto 4, 3) := by decide +kernel
theorem d_M_order_23 : decode b_M_order 23 = .ok (.iconst 0, 1) := by decide +kernel
theorem d_M_order_24 : decode b_M_order 24 = .ok (.istore_n 1, 1) := by decide +kernel
theorem d_M_order_25 : decode b_M_order 25 = .ok (.iload_n 1, 1) := by decide +kernel
theorem d_M_order_26 : decode b_M_order 26 = .ok (.bipush 119, 2) := by decide +kernel
theorem d_M_order_28 : decode b_M_order 28 = .ok (.if_icmp .eq 15, 3) := by decide +kernel
theorem d_M_order_31 : decode b_M_order 31 = .ok (.iload_n 1, 1) := by decide +kernel
theorem d_M_order_32 : decode b_M_order 32 = .ok (.bipush 114, 2) := by decide +kernel
theorem d_M_order_34 : decode b_M_order 34 = .ok (.if_icmp .eq 9, 3) := by decide +kernel
theorem d_M_order_37 : decode b_M_order 37 = .ok (.iload_n 1, 1) := by decide +kernel
theorem d_M_order_38 : decode b_M_order 38 = .ok (.bipush 99, 2) := by decide +kernel
theorem d_M_order_40 : decode b_M_order 40 = .ok (.if_icmp .ne 7, 3) := by decide +kernel
theorem d_M_order_43 : decode b_M_order 43 = .ok (.iconst 1, 1) := by decide +kernel
theorem d_M_order_44 : decode b_M_order 44 = .ok (.goto 4, 3) := by decide +kernel
theorem d_M_order_47 : decode b_M_order 47 = .ok (.iconst 0, 1) := by decide +kernel
theorem d_M_order_48 : decode b_M_order 48 = .ok (.istore_n 2, 1) := by decide +kernel
theorem d_M_order_49 : decode b_M_order 49 = .ok (.aload_n 0, 1) := by decide +kernel
theorem d_M_order_50 : decode b_M_order 50 = .ok (.aload_n 0, 1) := by decide +kernel
theorem d_M_order_51 : decode b_M_order 51 = .ok (.getfield 126, 3) := by decide +kernel
theorem d_M_order_54 : decode b_M_order 54 = .ok (.ifCond .ne 19, 3) := by decide +kernel
theorem d_M_order_57 : decode b_M_order 57 = .ok (.iload_n 2, 1) := by decide +kernel
theorem d_M_order_58 : decode b_M_order 58 = .ok (.ifCond .ne 19, 3) := by decide +kernel
theorem d_M_order_61 : decode b_M_order 61 = .ok (.iload_n 1, 1) := by decide +kernel
theorem d_M_order_62 : decode b_M_order 62 = .ok (.bipush 109, 2) := by decide +kernel
theorem d_M_order_64 : decode b_M_order 64 = .ok (.if_icmp .eq 13, 3) := by decide +kernel
theorem d_M_order_67 : decode b_M_order 67 = .ok (.iload_n 1, 1) := by decide +kernel
theorem d_M_order_68 : decode b_M_order 68 = .ok (.bipush 120, 2) := by decide +kernel
theorem d_M_order_70 : decode b_M_order 70 = .ok (.if_icmp .eq 7, 3) := by decide +kernel
theorem d_M_order_73 : decode b_M_order 73 = .ok (.iconst 1, 1) := by decide +kernel
theorem d_M_order_74 : decode b_M_order 74 = .ok (.goto 4, 3) := by decide +kernel
theorem d_M_order_77 : decode b_M_order 77 = .ok (.iconst 0, 1) := by decide +kernel
theorem d_M_order_78 : decode b_M_order 78 = .ok (.putfield 126, 3) := by decide +kernel
theorem d_M_order_81 : decode b_M_order 81 = .ok (.aload_n 0, 1) := by decide +kernel
theorem d_M_order_82 : decode b_M_order 82 = .ok (.dup, 1) := by decide +kernel
theorem d_M_order_83 : decode b_M_order 83 = .ok (.getfield 123, 3) := by decide +kernel
theorem d_M_order_86 : decode b_M_order 86 = .ok (.aload_n 0, 1) := by decide +kernel
theorem d_M_order_87 : decode b_M_order 87 = .ok (.getfield 126, 3) := by decide +kernel
theorem d_M_order_90 : decode b_M_order 90 = .ok (.ifCond .eq 7, 3) := by decide +kernel
theorem d_M_order_93 : decode b_M_order 93 = .ok (.iconst 0, 1) := by decide +kernel
theorem d_M_order_94 : decode b_M_order 94 = .ok (.goto 4, 3) := by decide +kernel
theorem d_M_order_97 : decode b_M_order 97 = .ok (.iconst 1, 1) := by decide +kernel
theorem d_M_order_98 : decode b_M_order 98 = .ok (.iadd, 1) := by decide +kernel
theorem d_M_order_99 : decode b_M_order 99 = .ok (.putfield 123, 3) := by decide +kernel
theorem d_M_order_102 : decode b_M_order 102 = .ok (.aload_n 0, 1) := by decide +kernel
theorem d_M_order_103 : decode b_M_order 103 = .ok (.iload_n 1, 1) := by decide +kernel
theorem d_M_order_104 : decode b_M_order 104 = .ok (.putfield 136, 3) := by decide +kernel
theorem d_M_order_107 : decode b_M_order 107 = .ok (.aload_n 0, 1) := by decide +kernel
theorem d_M_order_108 : decode b_M_order 108 = .ok (.iload_n 2, 1) := by decide +kernel
theorem d_M_order_109 : decode b_M_order 109 = .ok (.ifCond .eq 17, 3) := by decide +kernel
theorem d_M_order_112 : decode b_M_order 112 = .ok (.aload_n 0, 1) := by decide +kernel
theorem d_M_order_113 : decode b_M_order 113 = .ok (.bipush 48, 2) := by decide +kernel
theorem d_M_order_115 : decode b_M_order 115 = .ok (.bipush 49, 2) := by decide +kernel
theorem d_M_order_117 : decode b_M_order 117 = .ok (.invokevirtual 130, 3) := by decide +kernel
theorem d_M_order_120 : decode b_M_order 120 = .ok (.bipush 48, 2) := by decide +kernel
theorem d_M_order_122 : decode b_M_order 122 = .ok (.isub, 1) := by decide +kernel
theorem d_M_order_123 : decode b_M_order 123 = .ok (.goto 4, 3) := by decide +kernel
theorem d_M_order_126 : decode b_M_order 126 = .ok (.iconst 0, 1) := by decide +kernel
theorem d_M_order_127 : decode b_M_order 127 = .ok (.putfield 139, 3) := by decide +kernel
theorem d_M_order_130 : decode b_M_order 130 = .ok (.iload_n 2, 1) := by decide +kernel
theorem d_M_order_131 : decode b_M_order 131 = .ok (.ifCond .eq 36, 3) := by decide +kernel
theorem d_M_order_134 : decode b_M_order 134 = .ok (.aload_n 0, 1) := by decide +kernel
theorem d_M_order_135 : decode b_M_order 135 = .ok (.iload_n 1, 1) := by decide +kernel
theorem d_M_order_136 : decode b_M_order 136 = .ok (.bipush 119, 2) := by decide +kernel
theorem d_M_order_138 : decode b_M_order 138 = .ok (.if_icmp .ne 8, 3) := by decide +kernel
theorem d_M_order_141 : decode b_M_order 141 = .ok (.bipush 58, 2) := by decide +kernel
theorem d_M_order_143 : decode b_M_order 143 = .ok (.goto 5, 3) := by decide +kernel
theorem d_M_order_146 : decode b_M_order 146 = .ok (.bipush 46, 2) := by decide +kernel
theorem d_M_order_148 : decode b_M_order 148 = .ok (.iload_n 1, 1) := by decide +kernel
theorem d_M_order_149 : decode b_M_order 149 = .ok (.bipush 119, 2) := by decide +kernel
theorem d_M_order_151 : decode b_M_order 151 = .ok (.if_icmp .ne 8, 3) := by decide +kernel
theorem d_M_order_154 : decode b_M_order 154 = .ok (.bipush 58, 2) := by decide +kernel
theorem d_M_order_156 : decode b_M_order 156 = .ok (.goto 5, 3) := by decide +kernel
theorem d_M_order_159 : decode b_M_order 159 = .ok (.bipush 46, 2) := by decide +kernel
theorem d_M_order_161 : decode b_M_order 161 = .ok (.invokevirtual 130, 3) := by decide +kernel
theorem d_M_order_164 : decode b_M_order 164 = .ok (.goto 4, 3) := by decide +kernel
theorem d_M_order_167 : decode b_M_order 167 = .ok (.iconst 0, 1) := by decide +kernel
theorem d_M_order_168 : decode b_M_order 168 = .ok (.istore_n 3, 1) := by decide +kernel
theorem d_M_order_169 : decode b_M_order 169 = .ok (.aload_n 0, 1) := by decide +kernel
theorem d_M_order_170 : decode b_M_order 170 = .ok (.iload_n 1, 1) := by decide +kernel
theorem d_M_order_171 : decode b_M_order 171 = .ok (.bipush 120, 2) := by decide +kernel
theorem d_M_order_173 : decode b_M_order 173 = .ok (.if_icmp .ne 7, 3) := by decide +kernel
theorem d_M_order_176 : decode b_M_order 176 = .ok (.iconst 0, 1) := by decide +kernel
theorem d_M_order_177 : decode b_M_order 177 = .ok (.goto 7, 3) := by decide +kernel
theorem d_M_order_180 : decode b_M_order 180 = .ok (.aload_n 0, 1) := by decide +kernel
theorem d_M_order_181 : decode b_M_order 181 = .ok (.invokevirtual 142, 3) := by decide +kernel
theorem d_M_order_184 : decode b_M_order 184 = .ok (.putfield 145, 3) := by decide +kernel
theorem d_M_order_187 : decode b_M_order 187 = .ok (.iload_n 1, 1) := by decide +kernel
theorem d_M_order_188 : decode b_M_order 188 = .ok (.bipush 119, 2) := by decide +kernel
theorem d_M_order_190 : decode b_M_order 190 = .ok (.if_icmp .ne 14, 3) := by decide +kernel
theorem d_M_order_193 : decode b_M_order 193 = .ok (.aload_n 0, 1) := by decide +kernel
theorem d_M_order_194 : decode b_M_order 194 = .ok (.bipush 35, 2) := by decide +kernel
theorem d_M_order_196 : decode b_M_order 196 = .ok (.bipush 35, 2) := by decide +kernel
theorem d_M_order_198 : decode b_M_order 198 = .ok (.invokevirtual 130, 3) := by decide +kernel
theorem d_M_order_201 : decode b_M_order 201 = .ok (.goto 4, 3) := by decide +kernel
theorem d_M_order_204 : decode b_M_order 204 = .ok (.iconst 0, 1) := by decide +kernel
theorem d_M_order_205 : decode b_M_order 205 = .ok (.istore_n 3, 1) := by decide +kernel
theorem d_M_order_206 : decode b_M_order 206 = .ok (.aload_n 0, 1) := by decide +kernel
theorem d_M_order_207 : decode b_M_order 207 = .ok (.iload_n 1, 1) := by decide +kernel
theorem d_M_order_208 : decode b_M_order 208 = .ok (.bipush 119, 2) := by decide +kernel
theorem d_M_order_210 : decode b_M_order 210 = .ok (.if_icmp .ne 10, 3) := by decide +kernel
theorem d_M_order_213 : decode b_M_order 213 = .ok (.aload_n 0, 1) := by decide +kernel
theorem d_M_order_214 : decode b_M_order 214 = .ok (.invokevirtual 142, 3) := by decide +kernel
theorem d_M_order_217 : decode b_M_order 217 = .ok (.goto 4, 3) := by decide +kernel
theorem d_M_order_220 : decode b_M_order 220 = .ok (.iconst 0, 1) := by decide +kernel
theorem d_M_order_221 : decode b_M_order 221 = .ok (.putfield 148, 3) := by decide +kernel
theorem d_M_order_224 : decode b_M_order 224 = .ok (.iload_n 1, 1) := by decide +kernel
theorem d_M_order_225 : decode b_M_order 225 = .ok (.bipush 114, 2) := by decide +kernel
theorem d_M_order_227 : decode b_M_order 227 = .ok (.if_icmp .ne 28, 3) := by decide +kernel
theorem d_M_order_230 : decode b_M_order 230 = .ok (.aload_n 0, 1) := by decide +kernel
theorem d_M_order_231 : decode b_M_order 231 = .ok (.bipush 45, 2) := by decide +kernel
theorem d_M_order_233 : decode b_M_order 233 = .ok (.bipush 45, 2) := by decide +kernel
theorem d_M_order_235 : decode b_M_order 235 = .ok (.invokevirtual 133, 3) := by decide +kernel
theorem d_M_order_238 : decode b_M_order 238 = .ok (.ifCond .eq 17, 3) := by decide +kernel
theorem d_M_order_241 : decode b_M_order 241 = .ok (.aload_n 0, 1) := by decide +kernel
theorem d_M_order_242 : decode b_M_order 242 = .ok (.iconst 1, 1) := by decide +kernel
theorem d_M_order_243 : decode b_M_order 243 = .ok (.putfield 148, 3) := by decide +kernel
theorem d_M_order_246 : decode b_M_order 246 = .ok (.aload_n 0, 1) := by decide +kernel
theorem d_M_order_247 : decode b_M_order 247 = .ok (.bipush 45, 2) := by decide +kernel
theorem d_M_order_249 : decode b_M_order 249 = .ok (.bipush 45, 2) := by decide +kernel
theorem d_M_order_251 : decode b_M_order 251 = .ok (.invokevirtual 130, 3) := by decide +kernel
theorem d_M_order_254 : decode b_M_order 254 = .ok (.istore_n 3, 1) := by decide +kernel
theorem d_M_order_255 : decode b_M_order 255 = .ok (.return_, 1) := by decide +kernel
theorem d_M_does_0 : decode b_M_does 0 = .ok (.aload_n 0, 1) := by decide +kernel
theorem d_M_does_1 : decode b_M_does 1 = .ok (.getfield 136, 3) := by decide +kernel
theorem d_M_does_4 : decode b_M_does 4 = .ok (.istore_n 1, 1) := by decide +kernel
theorem d_M_does_5 : decode b_M_does 5 = .ok (.iload_n 1, 1) := by decide +kernel
theorem d_M_does_6 : decode b_M_does 6 = .ok (.bipush 119, 2) := by decide +kernel
theorem d_M_does_8 : decode b_M_does 8 = .ok (.if_icmp .ne 22, 3) := by decide +kernel
theorem d_M_does_11 : decode b_M_does 11 = .ok (.aload_n 0, 1) := by decide +kernel
theorem d_M_does_12 : decode b_M_does 12 = .ok (.aload_n 0, 1) := by decide +kernel
theorem d_M_does_13 : decode b_M_does 13 = .ok (.getfield 139, 3) := by decide +kernel
theorem d_M_does_16 : decode b_M_does 16 = .ok (.aload_n 0, 1) := by decide +kernel
theorem d_M_does_17 : decode b_M_does 17 = .ok (.getfield 145, 3) := by decide +kernel
theorem d_M_does_20 : decode b_M_does 20 = .ok (.aload_n 0, 1) := by decide +kernel
theorem d_M_does_21 : decode b_M_does 21 = .ok (.getfield 148, 3) := by decide +kernel
theorem d_M_does_24 : decode b_M_does 24 = .ok (.invokevirtual 85, 3) := by decide +kernel
theorem d_M_does_27 : decode b_M_does 27 = .ok (.goto 74, 3) := by decide +kernel
theorem d_M_does_30 : decode b_M_does 30 = .ok (.iload_n 1, 1) := by decide +kernel
theorem d_M_does_31 : decode b_M_does 31 = .ok (.bipush 114, 2) := by decide +kernel
theorem d_M_does_33 : decode b_M_does 33 = .ok (.if_icmp .ne 22, 3) := by decide +kernel
theorem d_M_does_36 : decode b_M_does 36 = .ok (.aload_n 0, 1) := by decide +kernel
theorem d_M_does_37 : decode b_M_does 37 = .ok (.aload_n 0, 1) := by decide +kernel
theorem d_M_does_38 : decode b_M_does 38 = .ok (.getfield 139, 3) := by decide +kernel
theorem d_M_does_41 : decode b_M_does 41 = .ok (.aload_n 0, 1) := by decide +kernel
theorem d_M_does_42 : decode b_M_does 42 = .ok (.getfield 145, 3) := by decide +kernel
theorem d_M_does_45 : decode b_M_does 45 = .ok (.aload_n 0, 1) := by decide +kernel
theorem d_M_does_46 : decode b_M_does 46 = .ok (.getfield 148, 3) := by decide +kernel
theorem d_M_does_49 : decode b_M_does 49 = .ok (.invokevirtual 103, 3) := by decide +kernel
theorem d_M_does_52 : decode b_M_does 52 = .ok (.goto 49, 3) := by decide +kernel
theorem d_M_does_55 : decode b_M_does 55 = .ok (.iload_n 1, 1) := by decide +kernel
theorem d_M_does_56 : decode b_M_does 56 = .ok (.bipush 99, 2) := by decide +kernel
theorem d_M_does_58 : decode b_M_does 58 = .ok (.if_icmp .ne 18, 3) := by decide +kernel
theorem d_M_does_61 : decode b_M_does 61 = .ok (.aload_n 0, 1) := by decide +kernel
theorem d_M_does_62 : decode b_M_does 62 = .ok (.aload_n 0, 1) := by decide +kernel
theorem d_M_does_63 : decode b_M_does 63 = .ok (.getfield 139, 3) := by decide +kernel
theorem d_M_does_66 : decode b_M_does 66 = .ok (.aload_n 0, 1) := by decide +kernel
theorem d_M_does_67 : decode b_M_does 67 = .ok (.getfield 145, 3) := by decide +kernel
theorem d_M_does_70 : decode b_M_does 70 = .ok (.invokevirtual 91, 3) := by decide +kernel
theorem d_M_does_73 : decode b_M_does 73 = .ok (.goto 28, 3) := by decide +kernel
theorem d_M_does_76 : decode b_M_does 76 = .ok (.iload_n 1, 1) := by decide +kernel
theorem d_M_does_77 : decode b_M_does 77 = .ok (.bipush 109, 2) := by decide +kernel
theorem d_M_does_79 : decode b_M_does 79 = .ok (.if_icmp .ne 21, 3) := by decide +kernel
theorem d_M_does_82 : decode b_M_does 82 = .ok (.aload_n 0, 1) := by decide +kernel
theorem d_M_does_83 : decode b_M_does 83 = .ok (.getfield 145, 3) := by decide +kernel
theorem d_M_does_86 : decode b_M_does 86 = .ok (.aload_n 0, 1) := by decide +kernel
theorem d_M_does_87 : decode b_M_does 87 = .ok (.getfield 7, 3) := by decide +kernel
theorem d_M_does_90 : decode b_M_does 90 = .ok (.iconst 0, 1) := by decide +kernel
theorem d_M_does_91 : decode b_M_does 91 = .ok (.iaload, 1) := by decide +kernel
theorem d_M_does_92 : decode b_M_does 92 = .ok (.if_icmp .le 8, 3) := by decide +kernel
theorem d_M_does_95 : decode b_M_does 95 = .ok (.bipush (-2), 2) := by decide +kernel
theorem d_M_does_97 : decode b_M_does 97 = .ok (.goto 4, 3) := by decide +kernel
theorem d_M_does_100 : decode b_M_does 100 = .ok (.iconst 0, 1) := by decide +kernel
theorem d_M_does_101 : decode b_M_does 101 = .ok (.istore_n 2, 1) := by decide +kernel
theorem d_M_does_102 : decode b_M_does 102 = .ok (.iload_n 2, 1) := by decide +kernel
theorem d_M_does_103 : decode b_M_does 103 = .ok (.ifCond .ne 96, 3) := by decide +kernel
theorem d_M_does_106 : decode b_M_does 106 = .ok (.iload_n 1, 1) := by decide +kernel
theorem d_M_does_107 : decode b_M_does 107 = .ok (.bipush 119, 2) := by decide +kernel
theorem d_M_does_109 : decode b_M_does 109 = .ok (.if_icmp .ne 22, 3) := by decide +kernel
theorem d_M_does_112 : decode b_M_does 112 = .ok (.aload_n 0, 1) := by decide +kernel
theorem d_M_does_113 : decode b_M_does 113 = .ok (.aload_n 0, 1) := by decide +kernel
theorem d_M_does_114 : decode b_M_does 114 = .ok (.getfield 139, 3) := by decide +kernel
theorem d_M_does_117 : decode b_M_does 117 = .ok (.aload_n 0, 1) := by decide +kernel
theorem d_M_does_118 : decode b_M_does 118 = .ok (.getfield 145, 3) := by decide +kernel
theorem d_M_does_121 : decode b_M_does 121 = .ok (.aload_n 0, 1) := by decide +kernel
theorem d_M_does_122 : decode b_M_does 122 = .ok (.getfield 148, 3) := by decide +kernel
theorem d_M_does_125 : decode b_M_does 125 = .ok (.invokevirtual 88, 3) := by decide +kernel
theorem d_M_does_128 : decode b_M_does 128 = .ok (.goto 70, 3) := by decide +kernel
theorem d_M_does_131 : decode b_M_does 131 = .ok (.iload_n 1, 1) := by decide +kernel
theorem d_M_does_132 : decode b_M_does 132 = .ok (.bipush 114, 2) := by decide +kernel
theorem d_M_does_134 : decode b_M_does 134 = .ok (.if_icmp .ne 22, 3) := by decide +kernel
theorem d_M_does_137 : decode b_M_does 137 = .ok (.aload_n 0, 1) := by decide +kernel
theorem d_M_does_138 : decode b_M_does 138 = .ok (.aload_n 0, 1) := by decide +kernel
theorem d_M_does_139 : decode b_M_does 139 = .ok (.getfield 139, 3) := by decide +kernel
theorem d_M_does_142 : decode b_M_does 142 = .ok (.aload_n 0, 1) := by decide +kernel
theorem d_M_does_143 : decode b_M_does 143 = .ok (.getfield 145, 3) := by decide +kernel
theorem d_M_does_146 : decode b_M_does 146 = .ok (.aload_n 0, 1) := by decide +kernel
theorem d_M_does_147 : decode b_M_does 147 = .ok (.getfield 148, 3) := by decide +kernel
theorem d_M_does_150 : decode b_M_does 150 = .ok (.invokevirtual 106, 3) := by decide +kernel
theorem d_M_does_153 : decode b_M_does 153 = .ok (.goto 45, 3) := by decide +kernel
theorem d_M_does_156 : decode b_M_does 156 = .ok (.iload_n 1, 1) := by decide +kernel
theorem d_M_does_157 : decode b_M_does 157 = .ok (.bipush 99, 2) := by decide +kernel
theorem d_M_does_159 : decode b_M_does 159 = .ok (.if_icmp .ne 18, 3) := by decide +kernel
theorem d_M_does_162 : decode b_M_does 162 = .ok (.aload_n 0, 1) := by decide +kernel
theorem d_M_does_163 : decode b_M_does 163 = .ok (.aload_n 0, 1) := by decide +kernel
theorem d_M_does_164 : decode b_M_does 164 = .ok (.getfield 139, 3) := by decide +kernel
theorem d_M_does_167 : decode b_M_does 167 = .ok (.aload_n 0, 1) := by decide +kernel
theorem d_M_does_168 : decode b_M_does 168 = .ok (.getfield 145, 3) := by decide +kernel
theorem d_M_does_171 : decode b_M_does 171 = .ok (.invokevirtual 94, 3) := by decide +kernel
theorem d_M_does_174 : decode b_M_does 174 = .ok (.goto 24, 3) := by decide +kernel
theorem d_M_does_177 : decode b_M_does 177 = .ok (.iload_n 1, 1) := by decide +kernel
theorem d_M_does_178 : decode b_M_does 178 = .ok (.bipush 109, 2) := by decide +kernel
theorem d_M_does_180 : decode b_M_does 180 = .ok (.if_icmp .ne 14, 3) := by decide +kernel
theorem d_M_does_183 : decode b_M_does 183 = .ok (.aload_n 0, 1) := by decide +kernel
theorem d_M_does_184 : decode b_M_does 184 = .ok (.aload_n 0, 1) := by decide +kernel
theorem d_M_does_185 : decode b_M_does 185 = .ok (.getfield 145, 3) := by decide +kernel
theorem d_M_does_188 : decode b_M_does 188 = .ok (.invokevirtual 97, 3) := by decide +kernel
theorem d_M_does_191 : decode b_M_does 191 = .ok (.goto 7, 3) := by decide +kernel
theorem d_M_does_194 : decode b_M_does 194 = .ok (.aload_n 0, 1) := by decide +kernel
theorem d_M_does_195 : decode b_M_does 195 = .ok (.invokevirtual 100, 3) := by decide +kernel
theorem d_M_does_198 : decode b_M_does 198 = .ok (.istore_n 3, 1) := by decide +kernel
theorem d_M_does_199 : decode b_M_does 199 = .ok (.iload_n 2, 1) := by decide +kernel
theorem d_M_does_200 : decode b_M_does 200 = .ok (.ifCond .ne 7, 3) := by decide +kernel
theorem d_M_does_203 : decode b_M_does 203 = .ok (.iconst 1, 1) := by decide +kernel
theorem d_M_does_204 : decode b_M_does 204 = .ok (.goto 4, 3) := by decide +kernel
theorem d_M_does_207 : decode b_M_does 207 = .ok (.iconst 0, 1) := by decide +kernel
theorem d_M_does_208 : decode b_M_does 208 = .ok (.ireturn, 1) := by decide +kernel
theorem d_M_go_0 : decode b_M_go 0 = .ok (.aload_n 0, 1) := by decide +kernel
theorem d_M_go_1 : decode b_M_go 1 = .ok (.iconst 0, 1) := by decide +kernel
theorem d_M_go_2 : decode b_M_go 2 = .ok (.putfield 123, 3) := by decide +kernel
theorem d_M_go_5 : decode b_M_go 5 = .ok (.aload_n 0, 1) := by decide +kernel
theorem d_M_go_6 : decode b_M_go 6 = .ok (.iconst 0, 1) := by decide +kernel
theorem d_M_go_7 : decode b_M_go 7 = .ok (.putfield 126, 3) := by decide +kernel
theorem d_M_go_10 : decode b_M_go 10 = .ok (.iconst 0, 1) := by decide +kernel
theorem d_M_go_11 : decode b_M_go 11 = .ok (.istore_n 2, 1) := by decide +kernel
theorem d_M_go_12 : decode b_M_go 12 = .ok (.iconst 1, 1) := by decide +kernel
theorem d_M_go_13 : decode b_M_go 13 = .ok (.istore_n 3, 1) := by decide +kernel
theorem d_M_go_14 : decode b_M_go 14 = .ok (.iload_n 3, 1) := by decide +kernel
theorem d_M_go_15 : decode b_M_go 15 = .ok (.ifCond .eq 101, 3) := by decide +kernel
theorem d_M_go_18 : decode b_M_go 18 = .ok (.aload_n 0, 1) := by decide +kernel
theorem d_M_go_19 : decode b_M_go 19 = .ok (.invokevirtual 151, 3) := by decide +kernel
theorem d_M_go_22 : decode b_M_go 22 = .ok (.iload_n 1, 1) := by decide +kernel
theorem d_M_go_23 : decode b_M_go 23 = .ok (.ifCond .eq 14, 3) := by decide +kernel
theorem d_M_go_26 : decode b_M_go 26 = .ok (.aload_n 0, 1) := by decide +kernel
theorem d_M_go_27 : decode b_M_go 27 = .ok (.invokevirtual 154, 3) := by decide +kernel
theorem d_M_go_30 : decode b_M_go 30 = .ok (.ifCond .eq 7, 3) := by decide +kernel
theorem d_M_go_33 : decode b_M_go 33 = .ok (.iconst 1, 1) := by decide +kernel
theorem d_M_go_34 : decode b_M_go 34 = .ok (.goto 4, 3) := by decide +kernel
theorem d_M_go_37 : decode b_M_go 37 = .ok (.iconst 0, 1) := by decide +kernel
theorem d_M_go_38 : decode b_M_go 38 = .ok (.istore 4, 2) := by decide +kernel
theorem d_M_go_40 : decode b_M_go 40 = .ok (.iload_n 2, 1) := by decide +kernel
theorem d_M_go_41 : decode b_M_go 41 = .ok (.iload 4, 2) := by decide +kernel
theorem d_M_go_43 : decode b_M_go 43 = .ok (.ifCond .eq 7, 3) := by decide +kernel
theorem d_M_go_46 : decode b_M_go 46 = .ok (.iconst 1, 1) := by decide +kernel
theorem d_M_go_47 : decode b_M_go 47 = .ok (.goto 4, 3) := by decide +kernel
theorem d_M_go_50 : decode b_M_go 50 = .ok (.iconst 0, 1) := by decide +kernel
theorem d_M_go_51 : decode b_M_go 51 = .ok (.iadd, 1) := by decide +kernel
theorem d_M_go_52 : decode b_M_go 52 = .ok (.istore_n 2, 1) := by decide +kernel
theorem d_M_go_53 : decode b_M_go 53 = .ok (.aload_n 0, 1) := by decide +kernel
theorem d_M_go_54 : decode b_M_go 54 = .ok (.getfield 126, 3) := by decide +kernel
theorem d_M_go_57 : decode b_M_go 57 = .ok (.ifCond .ne 27, 3) := by decide +kernel
theorem d_M_go_60 : decode b_M_go 60 = .ok (.iload 4, 2) := by decide +kernel
theorem d_M_go_62 : decode b_M_go 62 = .ok (.ifCond .ne 7, 3) := by decide +kernel
theorem d_M_go_65 : decode b_M_go 65 = .ok (.iload_n 1, 1) := by decide +kernel
theorem d_M_go_66 : decode b_M_go 66 = .ok (.ifCond .ne 18, 3) := by decide +kernel
theorem d_M_go_69 : decode b_M_go 69 = .ok (.aload_n 0, 1) := by decide +kernel
theorem d_M_go_70 : decode b_M_go 70 = .ok (.getfield 123, 3) := by decide +kernel
theorem d_M_go_73 : decode b_M_go 73 = .ok (.aload_n 0, 1) := by decide +kernel
theorem d_M_go_74 : decode b_M_go 74 = .ok (.getfield 118, 3) := by decide +kernel
theorem d_M_go_77 : decode b_M_go 77 = .ok (.if_icmp .ge 7, 3) := by decide +kernel
theorem d_M_go_80 : decode b_M_go 80 = .ok (.iconst 1, 1) := by decide +kernel
theorem d_M_go_81 : decode b_M_go 81 = .ok (.goto 4, 3) := by decide +kernel
theorem d_M_go_84 : decode b_M_go 84 = .ok (.iconst 0, 1) := by decide +kernel
theorem d_M_go_85 : decode b_M_go 85 = .ok (.istore_n 3, 1) := by decide +kernel
theorem d_M_go_86 : decode b_M_go 86 = .ok (.iload_n 3, 1) := by decide +kernel
theorem d_M_go_87 : decode b_M_go 87 = .ok (.ifCond .eq 26, 3) := by decide +kernel
theorem d_M_go_90 : decode b_M_go 90 = .ok (.aload_n 0, 1) := by decide +kernel
theorem d_M_go_91 : decode b_M_go 91 = .ok (.bipush 59, 2) := by decide +kernel
theorem d_M_go_93 : decode b_M_go 93 = .ok (.bipush 59, 2) := by decide +kernel
theorem d_M_go_95 : decode b_M_go 95 = .ok (.invokevirtual 130, 3) := by decide +kernel
theorem d_M_go_98 : decode b_M_go 98 = .ok (.istore 5, 2) := by decide +kernel
theorem d_M_go_100 : decode b_M_go 100 = .ok (.aload_n 0, 1) := by decide +kernel
theorem d_M_go_101 : decode b_M_go 101 = .ok (.getfield 126, 3) := by decide +kernel
theorem d_M_go_104 : decode b_M_go 104 = .ok (.ifCond .ne 7, 3) := by decide +kernel
theorem d_M_go_107 : decode b_M_go 107 = .ok (.iconst 1, 1) := by decide +kernel
theorem d_M_go_108 : decode b_M_go 108 = .ok (.goto 4, 3) := by decide +kernel
theorem d_M_go_111 : decode b_M_go 111 = .ok (.iconst 0, 1) := by decide +kernel
theorem d_M_go_112 : decode b_M_go 112 = .ok (.istore_n 3, 1) := by decide +kernel
theorem d_M_go_113 : decode b_M_go 113 = .ok (.goto (-99), 3) := by decide +kernel
theorem d_M_go_116 : decode b_M_go 116 = .ok (.iload_n 2, 1) := by decide +kernel
theorem d_M_go_117 : decode b_M_go 117 = .ok (.ireturn, 1) := by decide +kernel
theorem d_M_fault_0 : decode b_M_fault 0 = .ok (.aload_n 0, 1) := by decide +kernel
theorem d_M_fault_1 : decode b_M_fault 1 = .ok (.iconst 0, 1) := by decide +kernel
theorem d_M_fault_2 : decode b_M_fault 2 = .ok (.invokevirtual 158, 3) := by decide +kernel
theorem d_M_fault_5 : decode b_M_fault 5 = .ok (.istore_n 1, 1) := by decide +kernel
theorem d_M_fault_6 : decode b_M_fault 6 = .ok (.aload_n 0, 1) := by decide +kernel
theorem d_M_fault_7 : decode b_M_fault 7 = .ok (.getfield 126, 3) := by decide +kernel
theorem d_M_fault_10 : decode b_M_fault 10 = .ok (.ifCond .eq 10, 3) := by decide +kernel
theorem d_M_fault_13 : decode b_M_fault 13 = .ok (.aload_n 0, 1) := by decide +kernel
theorem d_M_fault_14 : decode b_M_fault 14 = .ok (.getfield 123, 3) := by decide +kernel
theorem d_M_fault_17 : decode b_M_fault 17 = .ok (.goto 5, 3) := by decide +kernel
theorem d_M_fault_20 : decode b_M_fault 20 = .ok (.bipush (-6), 2) := by decide +kernel
theorem d_M_fault_22 : decode b_M_fault 22 = .ok (.ireturn, 1) := by decide +kernel
theorem d_M_carryOut_0 : decode b_M_carryOut 0 = .ok (.aload_n 0, 1) := by decide +kernel
theorem d_M_carryOut_1 : decode b_M_carryOut 1 = .ok (.iconst 0, 1) := by decide +kernel
theorem d_M_carryOut_2 : decode b_M_carryOut 2 = .ok (.invokevirtual 158, 3) := by decide +kernel
theorem d_M_carryOut_5 : decode b_M_carryOut 5 = .ok (.istore_n 1, 1) := by decide +kernel
theorem d_M_carryOut_6 : decode b_M_carryOut 6 = .ok (.aload_n 0, 1) := by decide +kernel
theorem d_M_carryOut_7 : decode b_M_carryOut 7 = .ok (.getfield 126, 3) := by decide +kernel
theorem d_M_carryOut_10 : decode b_M_carryOut 10 = .ok (.ifCond .eq 6, 3) := by decide +kernel
theorem d_M_carryOut_13 : decode b_M_carryOut 13 = .ok (.bipush (-3), 2) := by decide +kernel
theorem d_M_carryOut_15 : decode b_M_carryOut 15 = .ok (.ireturn, 1) := by decide +kernel
theorem d_M_carryOut_16 : decode b_M_carryOut 16 = .ok (.aload_n 0, 1) := by decide +kernel
theorem d_M_carryOut_17 : decode b_M_carryOut 17 = .ok (.invokevirtual 82, 3) := by decide +kernel
theorem d_M_carryOut_20 : decode b_M_carryOut 20 = .ok (.aload_n 0, 1) := by decide +kernel
theorem d_M_carryOut_21 : decode b_M_carryOut 21 = .ok (.iconst 1, 1) := by decide +kernel
theorem d_M_carryOut_22 : decode b_M_carryOut 22 = .ok (.invokevirtual 158, 3) := by decide +kernel
theorem d_M_carryOut_25 : decode b_M_carryOut 25 = .ok (.istore_n 2, 1) := by decide +kernel
theorem d_M_carryOut_26 : decode b_M_carryOut 26 = .ok (.aload_n 0, 1) := by decide +kernel
theorem d_M_carryOut_27 : decode b_M_carryOut 27 = .ok (.iconst 0, 1) := by decide +kernel
theorem d_M_carryOut_28 : decode b_M_carryOut 28 = .ok (.putfield 118, 3) := by decide +kernel
theorem d_M_carryOut_31 : decode b_M_carryOut 31 = .ok (.iload_n 2, 1) := by decide +kernel
theorem d_M_carryOut_32 : decode b_M_carryOut 32 = .ok (.ireturn, 1) := by decide +kernel
theorem d_M_undo_0 : decode b_M_undo 0 = .ok (.aload_n 0, 1) := by decide +kernel
theorem d_M_undo_1 : decode b_M_undo 1 = .ok (.getfield 34, 3) := by decide +kernel
theorem d_M_undo_4 : decode b_M_undo 4 = .ok (.ifCond .ne 6, 3) := by decide +kernel
theorem d_M_undo_7 : decode b_M_undo 7 = .ok (.bipush (-5), 2) := by decide +kernel
theorem d_M_undo_9 : decode b_M_undo 9 = .ok (.ireturn, 1) := by decide +kernel
theorem d_M_undo_10 : decode b_M_undo 10 = .ok (.aload_n 0, 1) := by decide +kernel
theorem d_M_undo_11 : decode b_M_undo 11 = .ok (.dup, 1) := by decide +kernel
theorem d_M_undo_12 : decode b_M_undo 12 = .ok (.getfield 34, 3) := by decide +kernel
theorem d_M_undo_15 : decode b_M_undo 15 = .ok (.iconst 1, 1) := by decide +kernel
theorem d_M_undo_16 : decode b_M_undo 16 = .ok (.isub, 1) := by decide +kernel
theorem d_M_undo_17 : decode b_M_undo 17 = .ok (.putfield 34, 3) := by decide +kernel
theorem d_M_undo_20 : decode b_M_undo 20 = .ok (.iconst 0, 1) := by decide +kernel
theorem d_M_undo_21 : decode b_M_undo 21 = .ok (.istore_n 1, 1) := by decide +kernel
theorem d_M_undo_22 : decode b_M_undo 22 = .ok (.iload_n 1, 1) := by decide +kernel
theorem d_M_undo_23 : decode b_M_undo 23 = .ok (.sipush 170, 3) := by decide +kernel
theorem d_M_undo_26 : decode b_M_undo 26 = .ok (.if_icmp .ge 30, 3) := by decide +kernel
theorem d_M_undo_29 : decode b_M_undo 29 = .ok (.aload_n 0, 1) := by decide +kernel
theorem d_M_undo_30 : decode b_M_undo 30 = .ok (.getfield 7, 3) := by decide +kernel
theorem d_M_undo_33 : decode b_M_undo 33 = .ok (.iload_n 1, 1) := by decide +kernel
theorem d_M_undo_34 : decode b_M_undo 34 = .ok (.aload_n 0, 1) := by decide +kernel
theorem d_M_undo_35 : decode b_M_undo 35 = .ok (.getfield 13, 3) := by decide +kernel
theorem d_M_undo_38 : decode b_M_undo 38 = .ok (.sipush 170, 3) := by decide +kernel
theorem d_M_undo_41 : decode b_M_undo 41 = .ok (.aload_n 0, 1) := by decide +kernel
theorem d_M_undo_42 : decode b_M_undo 42 = .ok (.getfield 34, 3) := by decide +kernel
theorem d_M_undo_45 : decode b_M_undo 45 = .ok (.imul, 1) := by decide +kernel
theorem d_M_undo_46 : decode b_M_undo 46 = .ok (.iload_n 1, 1) := by decide +kernel
theorem d_M_undo_47 : decode b_M_undo 47 = .ok (.iadd, 1) := by decide +kernel
theorem d_M_undo_48 : decode b_M_undo 48 = .ok (.iaload, 1) := by decide +kernel
theorem d_M_undo_49 : decode b_M_undo 49 = .ok (.iastore, 1) := by decide +kernel
theorem d_M_undo_50 : decode b_M_undo 50 = .ok (.iinc 1 1, 3) := by decide +kernel
theorem d_M_undo_53 : decode b_M_undo 53 = .ok (.goto (-31), 3) := by decide +kernel
theorem d_M_undo_56 : decode b_M_undo 56 = .ok (.aload_n 0, 1) := by decide +kernel
theorem d_M_undo_57 : decode b_M_undo 57 = .ok (.getfield 34, 3) := by decide +kernel
theorem d_M_undo_60 : decode b_M_undo 60 = .ok (.ireturn, 1) := by decide +kernel
theorem d_M_save_0 : decode b_M_save 0 = .ok (.iload_n 1, 1) := by decide +kernel
theorem d_M_save_1 : decode b_M_save 1 = .ok (.iconst 0, 1) := by decide +kernel
theorem d_M_save_2 : decode b_M_save 2 = .ok (.iconst 1, 1) := by decide +kernel
theorem d_M_save_3 : decode b_M_save 3 = .ok (.invokestatic 26, 3) := by decide +kernel
theorem d_M_save_6 : decode b_M_save 6 = .ok (.ifCond .ne 6, 3) := by decide +kernel
theorem d_M_save_9 : decode b_M_save 9 = .ok (.bipush (-2), 2) := by decide +kernel
theorem d_M_save_11 : decode b_M_save 11 = .ok (.ireturn, 1) := by decide +kernel
theorem d_M_save_12 : decode b_M_save 12 = .ok (.iconst 0, 1) := by decide +kernel
theorem d_M_save_13 : decode b_M_save 13 = .ok (.istore_n 2, 1) := by decide +kernel
theorem d_M_save_14 : decode b_M_save 14 = .ok (.iload_n 2, 1) := by decide +kernel
theorem d_M_save_15 : decode b_M_save 15 = .ok (.sipush 170, 3) := by decide +kernel
theorem d_M_save_18 : decode b_M_save 18 = .ok (.if_icmp .ge 27, 3) := by decide +kernel
theorem d_M_save_21 : decode b_M_save 21 = .ok (.aload_n 0, 1) := by decide +kernel
theorem d_M_save_22 : decode b_M_save 22 = .ok (.getfield 16, 3) := by decide +kernel
theorem d_M_save_25 : decode b_M_save 25 = .ok (.sipush 170, 3) := by decide +kernel
theorem d_M_save_28 : decode b_M_save 28 = .ok (.iload_n 1, 1) := by decide +kernel
theorem d_M_save_29 : decode b_M_save 29 = .ok (.imul, 1) := by decide +kernel
theorem d_M_save_30 : decode b_M_save 30 = .ok (.iload_n 2, 1) := by decide +kernel
theorem d_M_save_31 : decode b_M_save 31 = .ok (.iadd, 1) := by decide +kernel
theorem d_M_save_32 : decode b_M_save 32 = .ok (.aload_n 0, 1) := by decide +kernel
theorem d_M_save_33 : decode b_M_save 33 = .ok (.getfield 7, 3) := by decide +kernel
theorem d_M_save_36 : decode b_M_save 36 = .ok (.iload_n 2, 1) := by decide +kernel
theorem d_M_save_37 : decode b_M_save 37 = .ok (.iaload, 1) := by decide +kernel
theorem d_M_save_38 : decode b_M_save 38 = .ok (.iastore, 1) := by decide +kernel
theorem d_M_save_39 : decode b_M_save 39 = .ok (.iinc 2 1, 3) := by decide +kernel
theorem d_M_save_42 : decode b_M_save 42 = .ok (.goto (-28), 3) := by decide +kernel
theorem d_M_save_45 : decode b_M_save 45 = .ok (.aload_n 0, 1) := by decide +kernel
theorem d_M_save_46 : decode b_M_save 46 = .ok (.getfield 19, 3) := by decide +kernel
theorem d_M_save_49 : decode b_M_save 49 = .ok (.iload_n 1, 1) := by decide +kernel
theorem d_M_save_50 : decode b_M_save 50 = .ok (.iconst 1, 1) := by decide +kernel
theorem d_M_save_51 : decode b_M_save 51 = .ok (.bastore, 1) := by decide +kernel
theorem d_M_save_52 : decode b_M_save 52 = .ok (.aload_n 0, 1) := by decide +kernel
theorem d_M_save_53 : decode b_M_save 53 = .ok (.getfield 7, 3) := by decide +kernel
theorem d_M_save_56 : decode b_M_save 56 = .ok (.bipush 8, 2) := by decide +kernel
theorem d_M_save_58 : decode b_M_save 58 = .ok (.iaload, 1) := by decide +kernel
theorem d_M_save_59 : decode b_M_save 59 = .ok (.aload_n 0, 1) := by decide +kernel
theorem d_M_save_60 : decode b_M_save 60 = .ok (.getfield 7, 3) := by decide +kernel
theorem d_M_save_63 : decode b_M_save 63 = .ok (.bipush 9, 2) := by decide +kernel
theorem d_M_save_65 : decode b_M_save 65 = .ok (.iaload, 1) := by decide +kernel
theorem d_M_save_66 : decode b_M_save 66 = .ok (.iadd, 1) := by decide +kernel
theorem d_M_save_67 : decode b_M_save 67 = .ok (.ireturn, 1) := by decide +kernel
theorem d_M_restore_0 : decode b_M_restore 0 = .ok (.iload_n 1, 1) := by decide +kernel
theorem d_M_restore_1 : decode b_M_restore 1 = .ok (.iconst 0, 1) := by decide +kernel
theorem d_M_restore_2 : decode b_M_restore 2 = .ok (.iconst 1, 1) := by decide +kernel
theorem d_M_restore_3 : decode b_M_restore 3 = .ok (.invokestatic 26, 3) := by decide +kernel
theorem d_M_restore_6 : decode b_M_restore 6 = .ok (.ifCond .ne 6, 3) := by decide +kernel
theorem d_M_restore_9 : decode b_M_restore 9 = .ok (.bipush (-2), 2) := by decide +kernel
theorem d_M_restore_11 : decode b_M_restore 11 = .ok (.ireturn, 1) := by decide +kernel
theorem d_M_restore_12 : decode b_M_restore 12 = .ok (.aload_n 0, 1) := by decide +kernel
theorem d_M_restore_13 : decode b_M_restore 13 = .ok (.getfield 19, 3) := by decide +kernel
theorem d_M_restore_16 : decode b_M_restore 16 = .ok (.iload_n 1, 1) := by decide +kernel
theorem d_M_restore_17 : decode b_M_restore 17 = .ok (.baload, 1) := by decide +kernel
theorem d_M_restore_18 : decode b_M_restore 18 = .ok (.ifCond .ne 6, 3) := by decide +kernel
theorem d_M_restore_21 : decode b_M_restore 21 = .ok (.bipush (-5), 2) := by decide +kernel
theorem d_M_restore_23 : decode b_M_restore 23 = .ok (.ireturn, 1) := by decide +kernel
theorem d_M_restore_24 : decode b_M_restore 24 = .ok (.aload_n 0, 1) := by decide +kernel
theorem d_M_restore_25 : decode b_M_restore 25 = .ok (.invokevirtual 82, 3) := by decide +kernel
theorem d_M_restore_28 : decode b_M_restore 28 = .ok (.iconst 0, 1) := by decide +kernel
theorem d_M_restore_29 : decode b_M_restore 29 = .ok (.istore_n 2, 1) := by decide +kernel
theorem d_M_restore_30 : decode b_M_restore 30 = .ok (.iload_n 2, 1) := by decide +kernel
theorem d_M_restore_31 : decode b_M_restore 31 = .ok (.sipush 170, 3) := by decide +kernel
theorem d_M_restore_34 : decode b_M_restore 34 = .ok (.if_icmp .ge 27, 3) := by decide +kernel
theorem d_M_restore_37 : decode b_M_restore 37 = .ok (.aload_n 0, 1) := by decide +kernel
theorem d_M_restore_38 : decode b_M_restore 38 = .ok (.getfield 7, 3) := by decide +kernel
theorem d_M_restore_41 : decode b_M_restore 41 = .ok (.iload_n 2, 1) := by decide +kernel
theorem d_M_restore_42 : decode b_M_restore 42 = .ok (.aload_n 0, 1) := by decide +kernel
theorem d_M_restore_43 : decode b_M_restore 43 = .ok (.getfield 16, 3) := by decide +kernel
theorem d_M_restore_46 : decode b_M_restore 46 = .ok (.sipush 170, 3) := by decide +kernel
theorem d_M_restore_49 : decode b_M_restore 49 = .ok (.iload_n 1, 1) := by decide +kernel
theorem d_M_restore_50 : decode b_M_restore 50 = .ok (.imul, 1) := by decide +kernel
theorem d_M_restore_51 : decode b_M_restore 51 = .ok (.iload_n 2, 1) := by decide +kernel
theorem d_M_restore_52 : decode b_M_restore 52 = .ok (.iadd, 1) := by decide +kernel
theorem d_M_restore_53 : decode b_M_restore 53 = .ok (.iaload, 1) := by decide +kernel
theorem d_M_restore_54 : decode b_M_restore 54 = .ok (.iastore, 1) := by decide +kernel
theorem d_M_restore_55 : decode b_M_restore 55 = .ok (.iinc 2 1, 3) := by decide +kernel
theorem d_M_restore_58 : decode b_M_restore 58 = .ok (.goto (-28), 3) := by decide +kernel
theorem d_M_restore_61 : decode b_M_restore 61 = .ok (.aload_n 0, 1) := by decide +kernel
theorem d_M_restore_62 : decode b_M_restore 62 = .ok (.getfield 7, 3) := by decide +kernel
theorem d_M_restore_65 : decode b_M_restore 65 = .ok (.bipush 8, 2) := by decide +kernel
theorem d_M_restore_67 : decode b_M_restore 67 = .ok (.iaload, 1) := by decide +kernel
theorem d_M_restore_68 : decode b_M_restore 68 = .ok (.aload_n 0, 1) := by decide +kernel
theorem d_M_restore_69 : decode b_M_restore 69 = .ok (.getfield 7, 3) := by decide +kernel
theorem d_M_restore_72 : decode b_M_restore 72 = .ok (.bipush 9, 2) := by decide +kernel
theorem d_M_restore_74 : decode b_M_restore 74 = .ok (.iaload, 1) := by decide +kernel
theorem d_M_restore_75 : decode b_M_restore 75 = .ok (.iadd, 1) := by decide +kernel
theorem d_M_restore_76 : decode b_M_restore 76 = .ok (.ireturn, 1) := by decide +kernel
