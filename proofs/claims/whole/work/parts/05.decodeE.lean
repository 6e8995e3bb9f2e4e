theorem d_E_init_0 : decode b_E_init 0 = .ok (.aload_n 0, 1) := by decide +kernel
theorem d_E_init_1 : decode b_E_init 1 = .ok (.invokespecial 1, 3) := by decide +kernel
theorem d_E_init_4 : decode b_E_init 4 = .ok (.aload_n 0, 1) := by decide +kernel
theorem d_E_init_5 : decode b_E_init 5 = .ok (.new 7, 3) := by decide +kernel
theorem d_E_init_8 : decode b_E_init 8 = .ok (.dup, 1) := by decide +kernel
theorem d_E_init_9 : decode b_E_init 9 = .ok (.invokespecial 9, 3) := by decide +kernel
theorem d_E_init_12 : decode b_E_init 12 = .ok (.putfield 10, 3) := by decide +kernel
theorem d_E_init_15 : decode b_E_init 15 = .ok (.aload_n 0, 1) := by decide +kernel
theorem d_E_init_16 : decode b_E_init 16 = .ok (.new 7, 3) := by decide +kernel
theorem d_E_init_19 : decode b_E_init 19 = .ok (.dup, 1) := by decide +kernel
theorem d_E_init_20 : decode b_E_init 20 = .ok (.invokespecial 9, 3) := by decide +kernel
theorem d_E_init_23 : decode b_E_init 23 = .ok (.putfield 16, 3) := by decide +kernel
theorem d_E_init_26 : decode b_E_init 26 = .ok (.aload_n 0, 1) := by decide +kernel
theorem d_E_init_27 : decode b_E_init 27 = .ok (.bipush 6, 2) := by decide +kernel
theorem d_E_init_29 : decode b_E_init 29 = .ok (.anewarray 7, 3) := by decide +kernel
theorem d_E_init_32 : decode b_E_init 32 = .ok (.putfield 19, 3) := by decide +kernel
theorem d_E_init_35 : decode b_E_init 35 = .ok (.iconst 0, 1) := by decide +kernel
theorem d_E_init_36 : decode b_E_init 36 = .ok (.istore_n 1, 1) := by decide +kernel
theorem d_E_init_37 : decode b_E_init 37 = .ok (.iload_n 1, 1) := by decide +kernel
theorem d_E_init_38 : decode b_E_init 38 = .ok (.bipush 6, 2) := by decide +kernel
theorem d_E_init_40 : decode b_E_init 40 = .ok (.if_icmp .ge 22, 3) := by decide +kernel
theorem d_E_init_43 : decode b_E_init 43 = .ok (.aload_n 0, 1) := by decide +kernel
theorem d_E_init_44 : decode b_E_init 44 = .ok (.getfield 19, 3) := by decide +kernel
theorem d_E_init_47 : decode b_E_init 47 = .ok (.iload_n 1, 1) := by decide +kernel
theorem d_E_init_48 : decode b_E_init 48 = .ok (.new 7, 3) := by decide +kernel
theorem d_E_init_51 : decode b_E_init 51 = .ok (.dup, 1) := by decide +kernel
theorem d_E_init_52 : decode b_E_init 52 = .ok (.invokespecial 9, 3) := by decide +kernel
theorem d_E_init_55 : decode b_E_init 55 = .ok (.aastore, 1) := by decide +kernel
theorem d_E_init_56 : decode b_E_init 56 = .ok (.iinc 1 1, 3) := by decide +kernel
theorem d_E_init_59 : decode b_E_init 59 = .ok (.goto (-22), 3) := by decide +kernel
theorem d_E_init_62 : decode b_E_init 62 = .ok (.aload_n 0, 1) := by decide +kernel
theorem d_E_init_63 : decode b_E_init 63 = .ok (.iconst 2, 1) := by decide +kernel
theorem d_E_init_64 : decode b_E_init 64 = .ok (.anewarray 7, 3) := by decide +kernel
theorem d_E_init_67 : decode b_E_init 67 = .ok (.putfield 23, 3) := by decide +kernel
theorem d_E_init_70 : decode b_E_init 70 = .ok (.iconst 0, 1) := by decide +kernel
theorem d_E_init_71 : decode b_E_init 71 = .ok (.istore_n 1, 1) := by decide +kernel
theorem d_E_init_72 : decode b_E_init 72 = .ok (.iload_n 1, 1) := by decide +kernel
theorem d_E_init_73 : decode b_E_init 73 = .ok (.iconst 2, 1) := by decide +kernel
theorem d_E_init_74 : decode b_E_init 74 = .ok (.if_icmp .ge 22, 3) := by decide +kernel
theorem d_E_init_77 : decode b_E_init 77 = .ok (.aload_n 0, 1) := by decide +kernel
theorem d_E_init_78 : decode b_E_init 78 = .ok (.getfield 23, 3) := by decide +kernel
theorem d_E_init_81 : decode b_E_init 81 = .ok (.iload_n 1, 1) := by decide +kernel
theorem d_E_init_82 : decode b_E_init 82 = .ok (.new 7, 3) := by decide +kernel
theorem d_E_init_85 : decode b_E_init 85 = .ok (.dup, 1) := by decide +kernel
theorem d_E_init_86 : decode b_E_init 86 = .ok (.invokespecial 9, 3) := by decide +kernel
theorem d_E_init_89 : decode b_E_init 89 = .ok (.aastore, 1) := by decide +kernel
theorem d_E_init_90 : decode b_E_init 90 = .ok (.iinc 1 1, 3) := by decide +kernel
theorem d_E_init_93 : decode b_E_init 93 = .ok (.goto (-21), 3) := by decide +kernel
theorem d_E_init_96 : decode b_E_init 96 = .ok (.aload_n 0, 1) := by decide +kernel
theorem d_E_init_97 : decode b_E_init 97 = .ok (.iconst 2, 1) := by decide +kernel
theorem d_E_init_98 : decode b_E_init 98 = .ok (.newarray .boolean, 2) := by decide +kernel
theorem d_E_init_100 : decode b_E_init 100 = .ok (.putfield 26, 3) := by decide +kernel
theorem d_E_init_103 : decode b_E_init 103 = .ok (.aload_n 0, 1) := by decide +kernel
theorem d_E_init_104 : decode b_E_init 104 = .ok (.new 30, 3) := by decide +kernel
theorem d_E_init_107 : decode b_E_init 107 = .ok (.dup, 1) := by decide +kernel
theorem d_E_init_108 : decode b_E_init 108 = .ok (.invokespecial 32, 3) := by decide +kernel
theorem d_E_init_111 : decode b_E_init 111 = .ok (.putfield 33, 3) := by decide +kernel
theorem d_E_init_114 : decode b_E_init 114 = .ok (.aload_n 0, 1) := by decide +kernel
theorem d_E_init_115 : decode b_E_init 115 = .ok (.new 37, 3) := by decide +kernel
theorem d_E_init_118 : decode b_E_init 118 = .ok (.dup, 1) := by decide +kernel
theorem d_E_init_119 : decode b_E_init 119 = .ok (.aload_n 0, 1) := by decide +kernel
theorem d_E_init_120 : decode b_E_init 120 = .ok (.getfield 33, 3) := by decide +kernel
theorem d_E_init_123 : decode b_E_init 123 = .ok (.invokespecial 39, 3) := by decide +kernel
theorem d_E_init_126 : decode b_E_init 126 = .ok (.putfield 42, 3) := by decide +kernel
theorem d_E_init_129 : decode b_E_init 129 = .ok (.aload_n 0, 1) := by decide +kernel
theorem d_E_init_130 : decode b_E_init 130 = .ok (.iconst 0, 1) := by decide +kernel
theorem d_E_init_131 : decode b_E_init 131 = .ok (.putfield 46, 3) := by decide +kernel
theorem d_E_init_134 : decode b_E_init 134 = .ok (.return_, 1) := by decide +kernel
theorem d_E_length_0 : decode b_E_length 0 = .ok (.aload_n 0, 1) := by decide +kernel
theorem d_E_length_1 : decode b_E_length 1 = .ok (.getfield 16, 3) := by decide +kernel
theorem d_E_length_4 : decode b_E_length 4 = .ok (.aload_n 0, 1) := by decide +kernel
theorem d_E_length_5 : decode b_E_length 5 = .ok (.getfield 10, 3) := by decide +kernel
theorem d_E_length_8 : decode b_E_length 8 = .ok (.invokevirtual 50, 3) := by decide +kernel
theorem d_E_length_11 : decode b_E_length 11 = .ok (.aload_n 0, 1) := by decide +kernel
theorem d_E_length_12 : decode b_E_length 12 = .ok (.aload_n 0, 1) := by decide +kernel
theorem d_E_length_13 : decode b_E_length 13 = .ok (.getfield 10, 3) := by decide +kernel
theorem d_E_length_16 : decode b_E_length 16 = .ok (.iload_n 1, 1) := by decide +kernel
theorem d_E_length_17 : decode b_E_length 17 = .ok (.invokevirtual 54, 3) := by decide +kernel
theorem d_E_length_20 : decode b_E_length 20 = .ok (.invokevirtual 58, 3) := by decide +kernel
theorem d_E_length_23 : decode b_E_length 23 = .ok (.ireturn, 1) := by decide +kernel
theorem d_E_tune_0 : decode b_E_tune 0 = .ok (.aload_n 0, 1) := by decide +kernel
theorem d_E_tune_1 : decode b_E_tune 1 = .ok (.getfield 16, 3) := by decide +kernel
theorem d_E_tune_4 : decode b_E_tune 4 = .ok (.aload_n 0, 1) := by decide +kernel
theorem d_E_tune_5 : decode b_E_tune 5 = .ok (.getfield 10, 3) := by decide +kernel
theorem d_E_tune_8 : decode b_E_tune 8 = .ok (.invokevirtual 50, 3) := by decide +kernel
theorem d_E_tune_11 : decode b_E_tune 11 = .ok (.aload_n 0, 1) := by decide +kernel
theorem d_E_tune_12 : decode b_E_tune 12 = .ok (.aload_n 0, 1) := by decide +kernel
theorem d_E_tune_13 : decode b_E_tune 13 = .ok (.getfield 10, 3) := by decide +kernel
theorem d_E_tune_16 : decode b_E_tune 16 = .ok (.iload_n 1, 1) := by decide +kernel
theorem d_E_tune_17 : decode b_E_tune 17 = .ok (.iload_n 2, 1) := by decide +kernel
theorem d_E_tune_18 : decode b_E_tune 18 = .ok (.invokevirtual 61, 3) := by decide +kernel
theorem d_E_tune_21 : decode b_E_tune 21 = .ok (.invokevirtual 58, 3) := by decide +kernel
theorem d_E_tune_24 : decode b_E_tune 24 = .ok (.ireturn, 1) := by decide +kernel
theorem d_E_write_0 : decode b_E_write 0 = .ok (.aload_n 0, 1) := by decide +kernel
theorem d_E_write_1 : decode b_E_write 1 = .ok (.getfield 16, 3) := by decide +kernel
theorem d_E_write_4 : decode b_E_write 4 = .ok (.aload_n 0, 1) := by decide +kernel
theorem d_E_write_5 : decode b_E_write 5 = .ok (.getfield 10, 3) := by decide +kernel
theorem d_E_write_8 : decode b_E_write 8 = .ok (.invokevirtual 50, 3) := by decide +kernel
theorem d_E_write_11 : decode b_E_write 11 = .ok (.aload_n 0, 1) := by decide +kernel
theorem d_E_write_12 : decode b_E_write 12 = .ok (.aload_n 0, 1) := by decide +kernel
theorem d_E_write_13 : decode b_E_write 13 = .ok (.getfield 10, 3) := by decide +kernel
theorem d_E_write_16 : decode b_E_write 16 = .ok (.iload_n 1, 1) := by decide +kernel
theorem d_E_write_17 : decode b_E_write 17 = .ok (.iload_n 2, 1) := by decide +kernel
theorem d_E_write_18 : decode b_E_write 18 = .ok (.iload_n 3, 1) := by decide +kernel
theorem d_E_write_19 : decode b_E_write 19 = .ok (.invokevirtual 65, 3) := by decide +kernel
theorem d_E_write_22 : decode b_E_write 22 = .ok (.invokevirtual 58, 3) := by decide +kernel
theorem d_E_write_25 : decode b_E_write 25 = .ok (.ireturn, 1) := by decide +kernel
theorem d_E_cut_0 : decode b_E_cut 0 = .ok (.aload_n 0, 1) := by decide +kernel
theorem d_E_cut_1 : decode b_E_cut 1 = .ok (.getfield 16, 3) := by decide +kernel
theorem d_E_cut_4 : decode b_E_cut 4 = .ok (.aload_n 0, 1) := by decide +kernel
theorem d_E_cut_5 : decode b_E_cut 5 = .ok (.getfield 10, 3) := by decide +kernel
theorem d_E_cut_8 : decode b_E_cut 8 = .ok (.invokevirtual 50, 3) := by decide +kernel
theorem d_E_cut_11 : decode b_E_cut 11 = .ok (.aload_n 0, 1) := by decide +kernel
theorem d_E_cut_12 : decode b_E_cut 12 = .ok (.aload_n 0, 1) := by decide +kernel
theorem d_E_cut_13 : decode b_E_cut 13 = .ok (.getfield 10, 3) := by decide +kernel
theorem d_E_cut_16 : decode b_E_cut 16 = .ok (.iload_n 1, 1) := by decide +kernel
theorem d_E_cut_17 : decode b_E_cut 17 = .ok (.iload_n 2, 1) := by decide +kernel
theorem d_E_cut_18 : decode b_E_cut 18 = .ok (.invokevirtual 69, 3) := by decide +kernel
theorem d_E_cut_21 : decode b_E_cut 21 = .ok (.invokevirtual 58, 3) := by decide +kernel
theorem d_E_cut_24 : decode b_E_cut 24 = .ok (.ireturn, 1) := by decide +kernel
theorem d_E_move_0 : decode b_E_move 0 = .ok (.aload_n 0, 1) := by decide +kernel
theorem d_E_move_1 : decode b_E_move 1 = .ok (.getfield 16, 3) := by decide +kernel
theorem d_E_move_4 : decode b_E_move 4 = .ok (.aload_n 0, 1) := by decide +kernel
theorem d_E_move_5 : decode b_E_move 5 = .ok (.getfield 10, 3) := by decide +kernel
theorem d_E_move_8 : decode b_E_move 8 = .ok (.invokevirtual 50, 3) := by decide +kernel
theorem d_E_move_11 : decode b_E_move 11 = .ok (.aload_n 0, 1) := by decide +kernel
theorem d_E_move_12 : decode b_E_move 12 = .ok (.aload_n 0, 1) := by decide +kernel
theorem d_E_move_13 : decode b_E_move 13 = .ok (.getfield 10, 3) := by decide +kernel
theorem d_E_move_16 : decode b_E_move 16 = .ok (.iload_n 1, 1) := by decide +kernel
theorem d_E_move_17 : decode b_E_move 17 = .ok (.invokevirtual 72, 3) := by decide +kernel
theorem d_E_move_20 : decode b_E_move 20 = .ok (.invokevirtual 58, 3) := by decide +kernel
theorem d_E_move_23 : decode b_E_move 23 = .ok (.ireturn, 1) := by decide +kernel
theorem d_E_rewind_0 : decode b_E_rewind 0 = .ok (.aload_n 0, 1) := by decide +kernel
theorem d_E_rewind_1 : decode b_E_rewind 1 = .ok (.getfield 16, 3) := by decide +kernel
theorem d_E_rewind_4 : decode b_E_rewind 4 = .ok (.aload_n 0, 1) := by decide +kernel
theorem d_E_rewind_5 : decode b_E_rewind 5 = .ok (.getfield 10, 3) := by decide +kernel
theorem d_E_rewind_8 : decode b_E_rewind 8 = .ok (.invokevirtual 50, 3) := by decide +kernel
theorem d_E_rewind_11 : decode b_E_rewind 11 = .ok (.aload_n 0, 1) := by decide +kernel
theorem d_E_rewind_12 : decode b_E_rewind 12 = .ok (.aload_n 0, 1) := by decide +kernel
theorem d_E_rewind_13 : decode b_E_rewind 13 = .ok (.getfield 10, 3) := by decide +kernel
theorem d_E_rewind_16 : decode b_E_rewind 16 = .ok (.invokevirtual 75, 3) := by decide +kernel
theorem d_E_rewind_19 : decode b_E_rewind 19 = .ok (.invokevirtual 58, 3) := by decide +kernel
theorem d_E_rewind_22 : decode b_E_rewind 22 = .ok (.ireturn, 1) := by decide +kernel
theorem d_E_read_0 : decode b_E_read 0 = .ok (.aload_n 0, 1) := by decide +kernel
theorem d_E_read_1 : decode b_E_read 1 = .ok (.getfield 16, 3) := by decide +kernel
theorem d_E_read_4 : decode b_E_read 4 = .ok (.aload_n 0, 1) := by decide +kernel
theorem d_E_read_5 : decode b_E_read 5 = .ok (.getfield 10, 3) := by decide +kernel
theorem d_E_read_8 : decode b_E_read 8 = .ok (.invokevirtual 50, 3) := by decide +kernel
theorem d_E_read_11 : decode b_E_read 11 = .ok (.aload_n 0, 1) := by decide +kernel
theorem d_E_read_12 : decode b_E_read 12 = .ok (.aload_n 0, 1) := by decide +kernel
theorem d_E_read_13 : decode b_E_read 13 = .ok (.getfield 10, 3) := by decide +kernel
theorem d_E_read_16 : decode b_E_read 16 = .ok (.iload_n 1, 1) := by decide +kernel
theorem d_E_read_17 : decode b_E_read 17 = .ok (.iload_n 2, 1) := by decide +kernel
theorem d_E_read_18 : decode b_E_read 18 = .ok (.iload_n 3, 1) := by decide +kernel
theorem d_E_read_19 : decode b_E_read 19 = .ok (.invokevirtual 79, 3) := by decide +kernel
theorem d_E_read_22 : decode b_E_read 22 = .ok (.invokevirtual 58, 3) := by decide +kernel
theorem d_E_read_25 : decode b_E_read 25 = .ok (.ireturn, 1) := by decide +kernel
theorem d_E_splice_0 : decode b_E_splice 0 = .ok (.aload_n 0, 1) := by decide +kernel
theorem d_E_splice_1 : decode b_E_splice 1 = .ok (.getfield 16, 3) := by decide +kernel
theorem d_E_splice_4 : decode b_E_splice 4 = .ok (.aload_n 0, 1) := by decide +kernel
theorem d_E_splice_5 : decode b_E_splice 5 = .ok (.getfield 10, 3) := by decide +kernel
theorem d_E_splice_8 : decode b_E_splice 8 = .ok (.invokevirtual 50, 3) := by decide +kernel
theorem d_E_splice_11 : decode b_E_splice 11 = .ok (.aload_n 0, 1) := by decide +kernel
theorem d_E_splice_12 : decode b_E_splice 12 = .ok (.aload_n 0, 1) := by decide +kernel
theorem d_E_splice_13 : decode b_E_splice 13 = .ok (.getfield 10, 3) := by decide +kernel
theorem d_E_splice_16 : decode b_E_splice 16 = .ok (.iload_n 1, 1) := by decide +kernel
theorem d_E_splice_17 : decode b_E_splice 17 = .ok (.iload_n 2, 1) := by decide +kernel
theorem d_E_splice_18 : decode b_E_splice 18 = .ok (.invokevirtual 82, 3) := by decide +kernel
theorem d_E_splice_21 : decode b_E_splice 21 = .ok (.invokevirtual 58, 3) := by decide +kernel
theorem d_E_splice_24 : decode b_E_splice 24 = .ok (.ireturn, 1) := by decide +kernel
theorem d_E_ofFile_0 : decode b_E_ofFile 0 = .ok (.aload_n 0, 1) := by decide +kernel
theorem d_E_ofFile_1 : decode b_E_ofFile 1 = .ok (.getfield 10, 3) := by decide +kernel
theorem d_E_ofFile_4 : decode b_E_ofFile 4 = .ok (.iload_n 1, 1) := by decide +kernel
theorem d_E_ofFile_5 : decode b_E_ofFile 5 = .ok (.iload_n 2, 1) := by decide +kernel
theorem d_E_ofFile_6 : decode b_E_ofFile 6 = .ok (.invokevirtual 85, 3) := by decide +kernel
theorem d_E_ofFile_9 : decode b_E_ofFile 9 = .ok (.ireturn, 1) := by decide +kernel
theorem d_E_ofBlock_0 : decode b_E_ofBlock 0 = .ok (.aload_n 0, 1) := by decide +kernel
theorem d_E_ofBlock_1 : decode b_E_ofBlock 1 = .ok (.getfield 10, 3) := by decide +kernel
theorem d_E_ofBlock_4 : decode b_E_ofBlock 4 = .ok (.iload_n 1, 1) := by decide +kernel
theorem d_E_ofBlock_5 : decode b_E_ofBlock 5 = .ok (.iload_n 2, 1) := by decide +kernel
theorem d_E_ofBlock_6 : decode b_E_ofBlock 6 = .ok (.iload_n 3, 1) := by decide +kernel
theorem d_E_ofBlock_7 : decode b_E_ofBlock 7 = .ok (.invokevirtual 88, 3) := by decide +kernel
theorem d_E_ofBlock_10 : decode b_E_ofBlock 10 = .ok (.ireturn, 1) := by decide +kernel
theorem d_E_at_0 : decode b_E_at 0 = .ok (.aload_n 0, 1) := by decide +kernel
theorem d_E_at_1 : decode b_E_at 1 = .ok (.getfield 10, 3) := by decide +kernel
theorem d_E_at_4 : decode b_E_at 4 = .ok (.iload_n 1, 1) := by decide +kernel
theorem d_E_at_5 : decode b_E_at 5 = .ok (.invokevirtual 91, 3) := by decide +kernel
theorem d_E_at_8 : decode b_E_at 8 = .ok (.ireturn, 1) := by decide +kernel
theorem d_E_count_0 : decode b_E_count 0 = .ok (.iload_n 1, 1) := by decide +kernel
theorem d_E_count_1 : decode b_E_count 1 = .ok (.bipush 10, 2) := by decide +kernel
theorem d_E_count_3 : decode b_E_count 3 = .ok (.if_icmp .ne 11, 3) := by decide +kernel
theorem d_E_count_6 : decode b_E_count 6 = .ok (.aload_n 0, 1) := by decide +kernel
theorem d_E_count_7 : decode b_E_count 7 = .ok (.getfield 33, 3) := by decide +kernel
theorem d_E_count_10 : decode b_E_count 10 = .ok (.invokevirtual 94, 3) := by decide +kernel
theorem d_E_count_13 : decode b_E_count 13 = .ok (.ireturn, 1) := by decide +kernel
theorem d_E_count_14 : decode b_E_count 14 = .ok (.iload_n 1, 1) := by decide +kernel
theorem d_E_count_15 : decode b_E_count 15 = .ok (.bipush 11, 2) := by decide +kernel
theorem d_E_count_17 : decode b_E_count 17 = .ok (.if_icmp .ne 8, 3) := by decide +kernel
theorem d_E_count_20 : decode b_E_count 20 = .ok (.aload_n 0, 1) := by decide +kernel
theorem d_E_count_21 : decode b_E_count 21 = .ok (.getfield 46, 3) := by decide +kernel
theorem d_E_count_24 : decode b_E_count 24 = .ok (.ireturn, 1) := by decide +kernel
theorem d_E_count_25 : decode b_E_count 25 = .ok (.aload_n 0, 1) := by decide +kernel
theorem d_E_count_26 : decode b_E_count 26 = .ok (.getfield 10, 3) := by decide +kernel
theorem d_E_count_29 : decode b_E_count 29 = .ok (.iload_n 1, 1) := by decide +kernel
theorem d_E_count_30 : decode b_E_count 30 = .ok (.invokevirtual 97, 3) := by decide +kernel
theorem d_E_count_33 : decode b_E_count 33 = .ok (.ireturn, 1) := by decide +kernel
theorem d_E_fits_0 : decode b_E_fits 0 = .ok (.aload_n 0, 1) := by decide +kernel
theorem d_E_fits_1 : decode b_E_fits 1 = .ok (.getfield 10, 3) := by decide +kernel
theorem d_E_fits_4 : decode b_E_fits 4 = .ok (.iload_n 1, 1) := by decide +kernel
theorem d_E_fits_5 : decode b_E_fits 5 = .ok (.invokevirtual 100, 3) := by decide +kernel
theorem d_E_fits_8 : decode b_E_fits 8 = .ok (.ireturn, 1) := by decide +kernel
theorem d_E_rooms_0 : decode b_E_rooms 0 = .ok (.aload_n 0, 1) := by decide +kernel
theorem d_E_rooms_1 : decode b_E_rooms 1 = .ok (.getfield 10, 3) := by decide +kernel
theorem d_E_rooms_4 : decode b_E_rooms 4 = .ok (.iload_n 1, 1) := by decide +kernel
theorem d_E_rooms_5 : decode b_E_rooms 5 = .ok (.invokevirtual 103, 3) := by decide +kernel
theorem d_E_rooms_8 : decode b_E_rooms 8 = .ok (.ireturn, 1) := by decide +kernel
theorem d_E_nearest_0 : decode b_E_nearest 0 = .ok (.aload_n 0, 1) := by decide +kernel
theorem d_E_nearest_1 : decode b_E_nearest 1 = .ok (.getfield 10, 3) := by decide +kernel
theorem d_E_nearest_4 : decode b_E_nearest 4 = .ok (.iload_n 1, 1) := by decide +kernel
theorem d_E_nearest_5 : decode b_E_nearest 5 = .ok (.invokevirtual 106, 3) := by decide +kernel
theorem d_E_nearest_8 : decode b_E_nearest 8 = .ok (.ireturn, 1) := by decide +kernel
theorem d_E_put_0 : decode b_E_put 0 = .ok (.aload_n 0, 1) := by decide +kernel
theorem d_E_put_1 : decode b_E_put 1 = .ok (.getfield 33, 3) := by decide +kernel
theorem d_E_put_4 : decode b_E_put 4 = .ok (.lload_n 1, 1) := by decide +kernel
theorem d_E_put_5 : decode b_E_put 5 = .ok (.invokevirtual 109, 3) := by decide +kernel
theorem d_E_put_8 : decode b_E_put 8 = .ok (.ireturn, 1) := by decide +kernel
theorem d_E_wipe_0 : decode b_E_wipe 0 = .ok (.aload_n 0, 1) := by decide +kernel
theorem d_E_wipe_1 : decode b_E_wipe 1 = .ok (.getfield 33, 3) := by decide +kernel
theorem d_E_wipe_4 : decode b_E_wipe 4 = .ok (.invokevirtual 113, 3) := by decide +kernel
theorem d_E_wipe_7 : decode b_E_wipe 7 = .ok (.ireturn, 1) := by decide +kernel
theorem d_E_fault_0 : decode b_E_fault 0 = .ok (.aload_n 0, 1) := by decide +kernel
theorem d_E_fault_1 : decode b_E_fault 1 = .ok (.getfield 42, 3) := by decide +kernel
theorem d_E_fault_4 : decode b_E_fault 4 = .ok (.invokevirtual 116, 3) := by decide +kernel
theorem d_E_fault_7 : decode b_E_fault 7 = .ok (.ireturn, 1) := by decide +kernel
theorem d_E_carryOut_0 : decode b_E_carryOut 0 = .ok (.aload_n 0, 1) := by decide +kernel
theorem d_E_carryOut_1 : decode b_E_carryOut 1 = .ok (.getfield 42, 3) := by decide +kernel
theorem d_E_carryOut_4 : decode b_E_carryOut 4 = .ok (.invokevirtual 116, 3) := by decide +kernel
theorem d_E_carryOut_7 : decode b_E_carryOut 7 = .ok (.bipush (-6), 2) := by decide +kernel
theorem d_E_carryOut_9 : decode b_E_carryOut 9 = .ok (.if_icmp .eq 6, 3) := by decide +kernel
theorem d_E_carryOut_12 : decode b_E_carryOut 12 = .ok (.bipush (-3), 2) := by decide +kernel
theorem d_E_carryOut_14 : decode b_E_carryOut 14 = .ok (.ireturn, 1) := by decide +kernel
theorem d_E_carryOut_15 : decode b_E_carryOut 15 = .ok (.aload_n 0, 1) := by decide +kernel
theorem d_E_carryOut_16 : decode b_E_carryOut 16 = .ok (.getfield 16, 3) := by decide +kernel
theorem d_E_carryOut_19 : decode b_E_carryOut 19 = .ok (.aload_n 0, 1) := by decide +kernel
theorem d_E_carryOut_20 : decode b_E_carryOut 20 = .ok (.getfield 10, 3) := by decide +kernel
theorem d_E_carryOut_23 : decode b_E_carryOut 23 = .ok (.invokevirtual 50, 3) := by decide +kernel
theorem d_E_carryOut_26 : decode b_E_carryOut 26 = .ok (.aload_n 0, 1) := by decide +kernel
theorem d_E_carryOut_27 : decode b_E_carryOut 27 = .ok (.invokevirtual 119, 3) := by decide +kernel
theorem d_E_carryOut_30 : decode b_E_carryOut 30 = .ok (.istore_n 1, 1) := by decide +kernel
theorem d_E_carryOut_31 : decode b_E_carryOut 31 = .ok (.aload_n 0, 1) := by decide +kernel
theorem d_E_carryOut_32 : decode b_E_carryOut 32 = .ok (.getfield 33, 3) := by decide +kernel
theorem d_E_carryOut_35 : decode b_E_carryOut 35 = .ok (.invokevirtual 113, 3) := by decide +kernel
theorem d_E_carryOut_38 : decode b_E_carryOut 38 = .ok (.pop, 1) := by decide +kernel
theorem d_E_carryOut_39 : decode b_E_carryOut 39 = .ok (.aload_n 0, 1) := by decide +kernel
theorem d_E_carryOut_40 : decode b_E_carryOut 40 = .ok (.iload_n 1, 1) := by decide +kernel
theorem d_E_carryOut_41 : decode b_E_carryOut 41 = .ok (.invokevirtual 58, 3) := by decide +kernel
theorem d_E_carryOut_44 : decode b_E_carryOut 44 = .ok (.ireturn, 1) := by decide +kernel
theorem d_E_carryOutOrders_0 : decode b_E_carryOutOrders 0 = .ok (.aload_n 0, 1) := by decide +kernel
theorem d_E_carryOutOrders_1 : decode b_E_carryOutOrders 1 = .ok (.getfield 42, 3) := by decide +kernel
theorem d_E_carryOutOrders_4 : decode b_E_carryOutOrders 4 = .ok (.invokevirtual 122, 3) := by decide +kernel
theorem d_E_carryOutOrders_7 : decode b_E_carryOutOrders 7 = .ok (.iconst 0, 1) := by decide +kernel
theorem d_E_carryOutOrders_8 : decode b_E_carryOutOrders 8 = .ok (.istore_n 1, 1) := by decide +kernel
theorem d_E_carryOutOrders_9 : decode b_E_carryOutOrders 9 = .ok (.iload_n 1, 1) := by decide +kernel
theorem d_E_carryOutOrders_10 : decode b_E_carryOutOrders 10 = .ok (.bipush 80, 2) := by decide +kernel
theorem d_E_carryOutOrders_12 : decode b_E_carryOutOrders 12 = .ok (.if_icmp .ge 44, 3) := by decide +kernel
theorem d_E_carryOutOrders_15 : decode b_E_carryOutOrders 15 = .ok (.aload_n 0, 1) := by decide +kernel
theorem d_E_carryOutOrders_16 : decode b_E_carryOutOrders 16 = .ok (.getfield 42, 3) := by decide +kernel
theorem d_E_carryOutOrders_19 : decode b_E_carryOutOrders 19 = .ok (.invokevirtual 125, 3) := by decide +kernel
theorem d_E_carryOutOrders_22 : decode b_E_carryOutOrders 22 = .ok (.ifCond .ne 5, 3) := by decide +kernel
theorem d_E_carryOutOrders_25 : decode b_E_carryOutOrders 25 = .ok (.iload_n 1, 1) := by decide +kernel
theorem d_E_carryOutOrders_26 : decode b_E_carryOutOrders 26 = .ok (.ireturn, 1) := by decide +kernel
theorem d_E_carryOutOrders_27 : decode b_E_carryOutOrders 27 = .ok (.aload_n 0, 1) := by decide +kernel
theorem d_E_carryOutOrders_28 : decode b_E_carryOutOrders 28 = .ok (.getfield 42, 3) := by decide +kernel
theorem d_E_carryOutOrders_31 : decode b_E_carryOutOrders 31 = .ok (.invokevirtual 129, 3) := by decide +kernel
theorem d_E_carryOutOrders_34 : decode b_E_carryOutOrders 34 = .ok (.aload_n 0, 1) := by decide +kernel
theorem d_E_carryOutOrders_35 : decode b_E_carryOutOrders 35 = .ok (.getfield 42, 3) := by decide +kernel
theorem d_E_carryOutOrders_38 : decode b_E_carryOutOrders 38 = .ok (.aload_n 0, 1) := by decide +kernel
theorem d_E_carryOutOrders_39 : decode b_E_carryOutOrders 39 = .ok (.getfield 10, 3) := by decide +kernel
theorem d_E_carryOutOrders_42 : decode b_E_carryOutOrders 42 = .ok (.invokevirtual 132, 3) := by decide +kernel
theorem d_E_carryOutOrders_45 : decode b_E_carryOutOrders 45 = .ok (.ifCond .ge 5, 3) := by decide +kernel
theorem d_E_carryOutOrders_48 : decode b_E_carryOutOrders 48 = .ok (.iload_n 1, 1) := by decide +kernel
theorem d_E_carryOutOrders_49 : decode b_E_carryOutOrders 49 = .ok (.ireturn, 1) := by decide +kernel
theorem d_E_carryOutOrders_50 : decode b_E_carryOutOrders 50 = .ok (.iinc 1 1, 3) := by decide +kernel
theorem d_E_carryOutOrders_53 : decode b_E_carryOutOrders 53 = .ok (.goto (-44), 3) := by decide +kernel
theorem d_E_carryOutOrders_56 : decode b_E_carryOutOrders 56 = .ok (.bipush 80, 2) := by decide +kernel
theorem d_E_carryOutOrders_58 : decode b_E_carryOutOrders 58 = .ok (.ireturn, 1) := by decide +kernel
theorem d_E_undo_0 : decode b_E_undo 0 = .ok (.aload_n 0, 1) := by decide +kernel
theorem d_E_undo_1 : decode b_E_undo 1 = .ok (.getfield 46, 3) := by decide +kernel
theorem d_E_undo_4 : decode b_E_undo 4 = .ok (.iconst 1, 1) := by decide +kernel
theorem d_E_undo_5 : decode b_E_undo 5 = .ok (.if_icmp .lt 12, 3) := by decide +kernel
theorem d_E_undo_8 : decode b_E_undo 8 = .ok (.aload_n 0, 1) := by decide +kernel
theorem d_E_undo_9 : decode b_E_undo 9 = .ok (.getfield 46, 3) := by decide +kernel
theorem d_E_undo_12 : decode b_E_undo 12 = .ok (.bipush 6, 2) := by decide +kernel
theorem d_E_undo_14 : decode b_E_undo 14 = .ok (.if_icmp .le 6, 3) := by decide +kernel
theorem d_E_undo_17 : decode b_E_undo 17 = .ok (.bipush (-5), 2) := by decide +kernel
theorem d_E_undo_19 : decode b_E_undo 19 = .ok (.ireturn, 1) := by decide +kernel
theorem d_E_undo_20 : decode b_E_undo 20 = .ok (.aload_n 0, 1) := by decide +kernel
theorem d_E_undo_21 : decode b_E_undo 21 = .ok (.dup, 1) := by decide +kernel
theorem d_E_undo_22 : decode b_E_undo 22 = .ok (.getfield 46, 3) := by decide +kernel
theorem d_E_undo_25 : decode b_E_undo 25 = .ok (.iconst 1, 1) := by decide +kernel
theorem d_E_undo_26 : decode b_E_undo 26 = .ok (.isub, 1) := by decide +kernel
theorem d_E_undo_27 : decode b_E_undo 27 = .ok (.putfield 46, 3) := by decide +kernel
theorem d_E_undo_30 : decode b_E_undo 30 = .ok (.aload_n 0, 1) := by decide +kernel
theorem d_E_undo_31 : decode b_E_undo 31 = .ok (.getfield 10, 3) := by decide +kernel
theorem d_E_undo_34 : decode b_E_undo 34 = .ok (.aload_n 0, 1) := by decide +kernel
theorem d_E_undo_35 : decode b_E_undo 35 = .ok (.getfield 19, 3) := by decide +kernel
theorem d_E_undo_38 : decode b_E_undo 38 = .ok (.aload_n 0, 1) := by decide +kernel
theorem d_E_undo_39 : decode b_E_undo 39 = .ok (.getfield 46, 3) := by decide +kernel
theorem d_E_undo_42 : decode b_E_undo 42 = .ok (.aaload, 1) := by decide +kernel
theorem d_E_undo_43 : decode b_E_undo 43 = .ok (.invokevirtual 50, 3) := by decide +kernel
theorem d_E_undo_46 : decode b_E_undo 46 = .ok (.aload_n 0, 1) := by decide +kernel
theorem d_E_undo_47 : decode b_E_undo 47 = .ok (.getfield 46, 3) := by decide +kernel
theorem d_E_undo_50 : decode b_E_undo 50 = .ok (.ireturn, 1) := by decide +kernel
theorem d_E_save_0 : decode b_E_save 0 = .ok (.iload_n 1, 1) := by decide +kernel
theorem d_E_save_1 : decode b_E_save 1 = .ok (.ifCond .lt 8, 3) := by decide +kernel
theorem d_E_save_4 : decode b_E_save 4 = .ok (.iload_n 1, 1) := by decide +kernel
theorem d_E_save_5 : decode b_E_save 5 = .ok (.iconst 2, 1) := by decide +kernel
theorem d_E_save_6 : decode b_E_save 6 = .ok (.if_icmp .lt 6, 3) := by decide +kernel
theorem d_E_save_9 : decode b_E_save 9 = .ok (.bipush (-2), 2) := by decide +kernel
theorem d_E_save_11 : decode b_E_save 11 = .ok (.ireturn, 1) := by decide +kernel
theorem d_E_save_12 : decode b_E_save 12 = .ok (.aload_n 0, 1) := by decide +kernel
theorem d_E_save_13 : decode b_E_save 13 = .ok (.getfield 23, 3) := by decide +kernel
theorem d_E_save_16 : decode b_E_save 16 = .ok (.iload_n 1, 1) := by decide +kernel
theorem d_E_save_17 : decode b_E_save 17 = .ok (.aaload, 1) := by decide +kernel
theorem d_E_save_18 : decode b_E_save 18 = .ok (.aload_n 0, 1) := by decide +kernel
theorem d_E_save_19 : decode b_E_save 19 = .ok (.getfield 10, 3) := by decide +kernel
theorem d_E_save_22 : decode b_E_save 22 = .ok (.invokevirtual 50, 3) := by decide +kernel
theorem d_E_save_25 : decode b_E_save 25 = .ok (.aload_n 0, 1) := by decide +kernel
theorem d_E_save_26 : decode b_E_save 26 = .ok (.getfield 26, 3) := by decide +kernel
theorem d_E_save_29 : decode b_E_save 29 = .ok (.iload_n 1, 1) := by decide +kernel
theorem d_E_save_30 : decode b_E_save 30 = .ok (.iconst 1, 1) := by decide +kernel
theorem d_E_save_31 : decode b_E_save 31 = .ok (.bastore, 1) := by decide +kernel
theorem d_E_save_32 : decode b_E_save 32 = .ok (.aload_n 0, 1) := by decide +kernel
theorem d_E_save_33 : decode b_E_save 33 = .ok (.getfield 10, 3) := by decide +kernel
theorem d_E_save_36 : decode b_E_save 36 = .ok (.invokevirtual 136, 3) := by decide +kernel
theorem d_E_save_39 : decode b_E_save 39 = .ok (.ireturn, 1) := by decide +kernel
theorem d_E_restore_0 : decode b_E_restore 0 = .ok (.iload_n 1, 1) := by decide +kernel
theorem d_E_restore_1 : decode b_E_restore 1 = .ok (.ifCond .lt 8, 3) := by decide +kernel
theorem d_E_restore_4 : decode b_E_restore 4 = .ok (.iload_n 1, 1) := by decide +kernel
theorem d_E_restore_5 : decode b_E_restore 5 = .ok (.iconst 2, 1) := by decide +kernel
theorem d_E_restore_6 : decode b_E_restore 6 = .ok (.if_icmp .lt 6, 3) := by decide +kernel
theorem d_E_restore_9 : decode b_E_restore 9 = .ok (.bipush (-2), 2) := by decide +kernel
theorem d_E_restore_11 : decode b_E_restore 11 = .ok (.ireturn, 1) := by decide +kernel
theorem d_E_restore_12 : decode b_E_restore 12 = .ok (.aload_n 0, 1) := by decide +kernel
theorem d_E_restore_13 : decode b_E_restore 13 = .ok (.getfield 26, 3) := by decide +kernel
theorem d_E_restore_16 : decode b_E_restore 16 = .ok (.iload_n 1, 1) := by decide +kernel
theorem d_E_restore_17 : decode b_E_restore 17 = .ok (.baload, 1) := by decide +kernel
theorem d_E_restore_18 : decode b_E_restore 18 = .ok (.ifCond .ne 6, 3) := by decide +kernel
theorem d_E_restore_21 : decode b_E_restore 21 = .ok (.bipush (-5), 2) := by decide +kernel
theorem d_E_restore_23 : decode b_E_restore 23 = .ok (.ireturn, 1) := by decide +kernel
theorem d_E_restore_24 : decode b_E_restore 24 = .ok (.aload_n 0, 1) := by decide +kernel
theorem d_E_restore_25 : decode b_E_restore 25 = .ok (.getfield 16, 3) := by decide +kernel
theorem d_E_restore_28 : decode b_E_restore 28 = .ok (.aload_n 0, 1) := by decide +kernel
theorem d_E_restore_29 : decode b_E_restore 29 = .ok (.getfield 10, 3) := by decide +kernel
theorem d_E_restore_32 : decode b_E_restore 32 = .ok (.invokevirtual 50, 3) := by decide +kernel
theorem d_E_restore_35 : decode b_E_restore 35 = .ok (.aload_n 0, 1) := by decide +kernel
theorem d_E_restore_36 : decode b_E_restore 36 = .ok (.getfield 10, 3) := by decide +kernel
theorem d_E_restore_39 : decode b_E_restore 39 = .ok (.aload_n 0, 1) := by decide +kernel
theorem d_E_restore_40 : decode b_E_restore 40 = .ok (.getfield 23, 3) := by decide +kernel
theorem d_E_restore_43 : decode b_E_restore 43 = .ok (.iload_n 1, 1) := by decide +kernel
theorem d_E_restore_44 : decode b_E_restore 44 = .ok (.aaload, 1) := by decide +kernel
theorem d_E_restore_45 : decode b_E_restore 45 = .ok (.invokevirtual 50, 3) := by decide +kernel
theorem d_E_restore_48 : decode b_E_restore 48 = .ok (.aload_n 0, 1) := by decide +kernel
theorem d_E_restore_49 : decode b_E_restore 49 = .ok (.aload_n 0, 1) := by decide +kernel
theorem d_E_restore_50 : decode b_E_restore 50 = .ok (.getfield 10, 3) := by decide +kernel
theorem d_E_restore_53 : decode b_E_restore 53 = .ok (.invokevirtual 136, 3) := by decide +kernel
theorem d_E_restore_56 : decode b_E_restore 56 = .ok (.invokevirtual 58, 3) := by decide +kernel
theorem d_E_restore_59 : decode b_E_restore 59 = .ok (.ireturn, 1) := by decide +kernel
theorem d_E_recorded_0 : decode b_E_recorded 0 = .ok (.iload_n 1, 1) := by decide +kernel
theorem d_E_recorded_1 : decode b_E_recorded 1 = .ok (.ifCond .ge 5, 3) := by decide +kernel
theorem d_E_recorded_4 : decode b_E_recorded 4 = .ok (.iload_n 1, 1) := by decide +kernel
theorem d_E_recorded_5 : decode b_E_recorded 5 = .ok (.ireturn, 1) := by decide +kernel
theorem d_E_recorded_6 : decode b_E_recorded 6 = .ok (.aload_n 0, 1) := by decide +kernel
theorem d_E_recorded_7 : decode b_E_recorded 7 = .ok (.getfield 46, 3) := by decide +kernel
theorem d_E_recorded_10 : decode b_E_recorded 10 = .ok (.bipush 6, 2) := by decide +kernel
theorem d_E_recorded_12 : decode b_E_recorded 12 = .ok (.if_icmp .lt 7, 3) := by decide +kernel
theorem d_E_recorded_15 : decode b_E_recorded 15 = .ok (.aload_n 0, 1) := by decide +kernel
theorem d_E_recorded_16 : decode b_E_recorded 16 = .ok (.invokevirtual 139, 3) := by decide +kernel
theorem d_E_recorded_19 : decode b_E_recorded 19 = .ok (.aload_n 0, 1) := by decide +kernel
theorem d_E_recorded_20 : decode b_E_recorded 20 = .ok (.getfield 19, 3) := by decide +kernel
theorem d_E_recorded_23 : decode b_E_recorded 23 = .ok (.aload_n 0, 1) := by decide +kernel
theorem d_E_recorded_24 : decode b_E_recorded 24 = .ok (.getfield 46, 3) := by decide +kernel
theorem d_E_recorded_27 : decode b_E_recorded 27 = .ok (.aaload, 1) := by decide +kernel
theorem d_E_recorded_28 : decode b_E_recorded 28 = .ok (.astore_n 2, 1) := by decide +kernel
theorem d_E_recorded_29 : decode b_E_recorded 29 = .ok (.aload_n 0, 1) := by decide +kernel
theorem d_E_recorded_30 : decode b_E_recorded 30 = .ok (.getfield 19, 3) := by decide +kernel
theorem d_E_recorded_33 : decode b_E_recorded 33 = .ok (.aload_n 0, 1) := by decide +kernel
theorem d_E_recorded_34 : decode b_E_recorded 34 = .ok (.getfield 46, 3) := by decide +kernel
theorem d_E_recorded_37 : decode b_E_recorded 37 = .ok (.aload_n 0, 1) := by decide +kernel
theorem d_E_recorded_38 : decode b_E_recorded 38 = .ok (.getfield 16, 3) := by decide +kernel
theorem d_E_recorded_41 : decode b_E_recorded 41 = .ok (.aastore, 1) := by decide +kernel
theorem d_E_recorded_42 : decode b_E_recorded 42 = .ok (.aload_n 0, 1) := by decide +kernel
theorem d_E_recorded_43 : decode b_E_recorded 43 = .ok (.aload_n 2, 1) := by decide +kernel
theorem d_E_recorded_44 : decode b_E_recorded 44 = .ok (.putfield 16, 3) := by decide +kernel
theorem d_E_recorded_47 : decode b_E_recorded 47 = .ok (.aload_n 0, 1) := by decide +kernel
theorem d_E_recorded_48 : decode b_E_recorded 48 = .ok (.dup, 1) := by decide +kernel
theorem d_E_recorded_49 : decode b_E_recorded 49 = .ok (.getfield 46, 3) := by decide +kernel
theorem d_E_recorded_52 : decode b_E_recorded 52 = .ok (.iconst 1, 1) := by decide +kernel
theorem d_E_recorded_53 : decode b_E_recorded 53 = .ok (.iadd, 1) := by decide +kernel
theorem d_E_recorded_54 : decode b_E_recorded 54 = .ok (.putfield 46, 3) := by decide +kernel
theorem d_E_recorded_57 : decode b_E_recorded 57 = .ok (.iload_n 1, 1) := by decide +kernel
theorem d_E_recorded_58 : decode b_E_recorded 58 = .ok (.ireturn, 1) := by decide +kernel
theorem d_E_dropOldest_0 : decode b_E_dropOldest 0 = .ok (.aload_n 0, 1) := by decide +kernel
theorem d_E_dropOldest_1 : decode b_E_dropOldest 1 = .ok (.getfield 19, 3) := by decide +kernel
theorem d_E_dropOldest_4 : decode b_E_dropOldest 4 = .ok (.iconst 0, 1) := by decide +kernel
theorem d_E_dropOldest_5 : decode b_E_dropOldest 5 = .ok (.aaload, 1) := by decide +kernel
theorem d_E_dropOldest_6 : decode b_E_dropOldest 6 = .ok (.astore_n 1, 1) := by decide +kernel
theorem d_E_dropOldest_7 : decode b_E_dropOldest 7 = .ok (.iconst 1, 1) := by decide +kernel
theorem d_E_dropOldest_8 : decode b_E_dropOldest 8 = .ok (.istore_n 2, 1) := by decide +kernel
theorem d_E_dropOldest_9 : decode b_E_dropOldest 9 = .ok (.iload_n 2, 1) := by decide +kernel
theorem d_E_dropOldest_10 : decode b_E_dropOldest 10 = .ok (.bipush 6, 2) := by decide +kernel
theorem d_E_dropOldest_12 : decode b_E_dropOldest 12 = .ok (.if_icmp .ge 23, 3) := by decide +kernel
theorem d_E_dropOldest_15 : decode b_E_dropOldest 15 = .ok (.aload_n 0, 1) := by decide +kernel
theorem d_E_dropOldest_16 : decode b_E_dropOldest 16 = .ok (.getfield 19, 3) := by decide +kernel
theorem d_E_dropOldest_19 : decode b_E_dropOldest 19 = .ok (.iload_n 2, 1) := by decide +kernel
theorem d_E_dropOldest_20 : decode b_E_dropOldest 20 = .ok (.iconst 1, 1) := by decide +kernel
theorem d_E_dropOldest_21 : decode b_E_dropOldest 21 = .ok (.isub, 1) := by decide +kernel
theorem d_E_dropOldest_22 : decode b_E_dropOldest 22 = .ok (.aload_n 0, 1) := by decide +kernel
theorem d_E_dropOldest_23 : decode b_E_dropOldest 23 = .ok (.getfield 19, 3) := by decide +kernel
theorem d_E_dropOldest_26 : decode b_E_dropOldest 26 = .ok (.iload_n 2, 1) := by decide +kernel
theorem d_E_dropOldest_27 : decode b_E_dropOldest 27 = .ok (.aaload, 1) := by decide +kernel
theorem d_E_dropOldest_28 : decode b_E_dropOldest 28 = .ok (.aastore, 1) := by decide +kernel
theorem d_E_dropOldest_29 : decode b_E_dropOldest 29 = .ok (.iinc 2 1, 3) := by decide +kernel
theorem d_E_dropOldest_32 : decode b_E_dropOldest 32 = .ok (.goto (-23), 3) := by decide +kernel
theorem d_E_dropOldest_35 : decode b_E_dropOldest 35 = .ok (.aload_n 0, 1) := by decide +kernel
theorem d_E_dropOldest_36 : decode b_E_dropOldest 36 = .ok (.getfield 19, 3) := by decide +kernel
theorem d_E_dropOldest_39 : decode b_E_dropOldest 39 = .ok (.iconst 5, 1) := by decide +kernel
theorem d_E_dropOldest_40 : decode b_E_dropOldest 40 = .ok (.aload_n 1, 1) := by decide +kernel
theorem d_E_dropOldest_41 : decode b_E_dropOldest 41 = .ok (.aastore, 1) := by decide +kernel
theorem d_E_dropOldest_42 : decode b_E_dropOldest 42 = .ok (.aload_n 0, 1) := by decide +kernel
theorem d_E_dropOldest_43 : decode b_E_dropOldest 43 = .ok (.iconst 5, 1) := by decide +kernel
theorem d_E_dropOldest_44 : decode b_E_dropOldest 44 = .ok (.putfield 46, 3) := by decide +kernel
theorem d_E_dropOldest_47 : decode b_E_dropOldest 47 = .ok (.return_, 1) := by decide +kernel
