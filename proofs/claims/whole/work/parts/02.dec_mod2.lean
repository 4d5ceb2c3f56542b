/-! Decode rows, printed by wip/whole/names.py. -/
theorem d_MD_append_0 : decode prog_6_method_20_code 0 = .ok (.aload_n 0, 1) := by decide +kernel
theorem d_MD_append_1 : decode prog_6_method_20_code 1 = .ok (.getfield 23, 3) := by decide +kernel
theorem d_MD_append_4 : decode prog_6_method_20_code 4 = .ok (.bipush 6, 2) := by decide +kernel
theorem d_MD_append_6 : decode prog_6_method_20_code 6 = .ok (.aload_n 0, 1) := by decide +kernel
theorem d_MD_append_7 : decode prog_6_method_20_code 7 = .ok (.getfield 123, 3) := by decide +kernel
theorem d_MD_append_10 : decode prog_6_method_20_code 10 = .ok (.imul, 1) := by decide +kernel
theorem d_MD_append_11 : decode prog_6_method_20_code 11 = .ok (.aload_n 0, 1) := by decide +kernel
theorem d_MD_append_12 : decode prog_6_method_20_code 12 = .ok (.getfield 20, 3) := by decide +kernel
theorem d_MD_append_15 : decode prog_6_method_20_code 15 = .ok (.aload_n 0, 1) := by decide +kernel
theorem d_MD_append_16 : decode prog_6_method_20_code 16 = .ok (.getfield 123, 3) := by decide +kernel
theorem d_MD_append_19 : decode prog_6_method_20_code 19 = .ok (.iaload, 1) := by decide +kernel
theorem d_MD_append_20 : decode prog_6_method_20_code 20 = .ok (.iadd, 1) := by decide +kernel
theorem d_MD_append_21 : decode prog_6_method_20_code 21 = .ok (.iload_n 1, 1) := by decide +kernel
theorem d_MD_append_22 : decode prog_6_method_20_code 22 = .ok (.iastore, 1) := by decide +kernel
theorem d_MD_append_23 : decode prog_6_method_20_code 23 = .ok (.aload_n 0, 1) := by decide +kernel
theorem d_MD_append_24 : decode prog_6_method_20_code 24 = .ok (.getfield 20, 3) := by decide +kernel
theorem d_MD_append_27 : decode prog_6_method_20_code 27 = .ok (.aload_n 0, 1) := by decide +kernel
theorem d_MD_append_28 : decode prog_6_method_20_code 28 = .ok (.getfield 123, 3) := by decide +kernel
theorem d_MD_append_31 : decode prog_6_method_20_code 31 = .ok (.dup2, 1) := by decide +kernel
theorem d_MD_append_32 : decode prog_6_method_20_code 32 = .ok (.iaload, 1) := by decide +kernel
theorem d_MD_append_33 : decode prog_6_method_20_code 33 = .ok (.iconst 1, 1) := by decide +kernel
theorem d_MD_append_34 : decode prog_6_method_20_code 34 = .ok (.iadd, 1) := by decide +kernel
theorem d_MD_append_35 : decode prog_6_method_20_code 35 = .ok (.iastore, 1) := by decide +kernel
theorem d_MD_append_36 : decode prog_6_method_20_code 36 = .ok (.return_, 1) := by decide +kernel
theorem d_MD_appendLong_0 : decode prog_6_method_21_code 0 = .ok (.aload_n 0, 1) := by decide +kernel
theorem d_MD_appendLong_1 : decode prog_6_method_21_code 1 = .ok (.lload_n 1, 1) := by decide +kernel
theorem d_MD_appendLong_2 : decode prog_6_method_21_code 2 = .ok (.bipush 32, 2) := by decide +kernel
theorem d_MD_appendLong_4 : decode prog_6_method_21_code 4 = .ok (.lshr, 1) := by decide +kernel
theorem d_MD_appendLong_5 : decode prog_6_method_21_code 5 = .ok (.l2i, 1) := by decide +kernel
theorem d_MD_appendLong_6 : decode prog_6_method_21_code 6 = .ok (.invokevirtual 126, 3) := by decide +kernel
theorem d_MD_appendLong_9 : decode prog_6_method_21_code 9 = .ok (.aload_n 0, 1) := by decide +kernel
theorem d_MD_appendLong_10 : decode prog_6_method_21_code 10 = .ok (.lload_n 1, 1) := by decide +kernel
theorem d_MD_appendLong_11 : decode prog_6_method_21_code 11 = .ok (.l2i, 1) := by decide +kernel
theorem d_MD_appendLong_12 : decode prog_6_method_21_code 12 = .ok (.invokevirtual 126, 3) := by decide +kernel
theorem d_MD_appendLong_15 : decode prog_6_method_21_code 15 = .ok (.return_, 1) := by decide +kernel
theorem d_MD_check_0 : decode prog_6_method_22_code 0 = .ok (.iconst 1, 1) := by decide +kernel
theorem d_MD_check_1 : decode prog_6_method_22_code 1 = .ok (.istore_n 3, 1) := by decide +kernel
theorem d_MD_check_2 : decode prog_6_method_22_code 2 = .ok (.iconst 0, 1) := by decide +kernel
theorem d_MD_check_3 : decode prog_6_method_22_code 3 = .ok (.istore 4, 2) := by decide +kernel
theorem d_MD_check_5 : decode prog_6_method_22_code 5 = .ok (.iload 4, 2) := by decide +kernel
theorem d_MD_check_7 : decode prog_6_method_22_code 7 = .ok (.iload_n 2, 1) := by decide +kernel
theorem d_MD_check_8 : decode prog_6_method_22_code 8 = .ok (.if_icmp .ge 27, 3) := by decide +kernel
theorem d_MD_check_11 : decode prog_6_method_22_code 11 = .ok (.bipush 31, 2) := by decide +kernel
theorem d_MD_check_13 : decode prog_6_method_22_code 13 = .ok (.iload_n 3, 1) := by decide +kernel
theorem d_MD_check_14 : decode prog_6_method_22_code 14 = .ok (.imul, 1) := by decide +kernel
theorem d_MD_check_15 : decode prog_6_method_22_code 15 = .ok (.aload_n 0, 1) := by decide +kernel
theorem d_MD_check_16 : decode prog_6_method_22_code 16 = .ok (.getfield 23, 3) := by decide +kernel
theorem d_MD_check_19 : decode prog_6_method_22_code 19 = .ok (.bipush 6, 2) := by decide +kernel
theorem d_MD_check_21 : decode prog_6_method_22_code 21 = .ok (.iload_n 1, 1) := by decide +kernel
theorem d_MD_check_22 : decode prog_6_method_22_code 22 = .ok (.imul, 1) := by decide +kernel
theorem d_MD_check_23 : decode prog_6_method_22_code 23 = .ok (.iload 4, 2) := by decide +kernel
theorem d_MD_check_25 : decode prog_6_method_22_code 25 = .ok (.iadd, 1) := by decide +kernel
theorem d_MD_check_26 : decode prog_6_method_22_code 26 = .ok (.iaload, 1) := by decide +kernel
theorem d_MD_check_27 : decode prog_6_method_22_code 27 = .ok (.iadd, 1) := by decide +kernel
theorem d_MD_check_28 : decode prog_6_method_22_code 28 = .ok (.istore_n 3, 1) := by decide +kernel
theorem d_MD_check_29 : decode prog_6_method_22_code 29 = .ok (.iinc 4 1, 3) := by decide +kernel
theorem d_MD_check_32 : decode prog_6_method_22_code 32 = .ok (.goto (-27), 3) := by decide +kernel
theorem d_MD_check_35 : decode prog_6_method_22_code 35 = .ok (.iload_n 3, 1) := by decide +kernel
theorem d_MD_check_36 : decode prog_6_method_22_code 36 = .ok (.iload_n 3, 1) := by decide +kernel
theorem d_MD_check_37 : decode prog_6_method_22_code 37 = .ok (.bipush 15, 2) := by decide +kernel
theorem d_MD_check_39 : decode prog_6_method_22_code 39 = .ok (.iushr, 1) := by decide +kernel
theorem d_MD_check_40 : decode prog_6_method_22_code 40 = .ok (.ixor, 1) := by decide +kernel
theorem d_MD_check_41 : decode prog_6_method_22_code 41 = .ok (.ireturn, 1) := by decide +kernel
theorem d_MD_length_0 : decode prog_6_method_25_code 0 = .ok (.iload_n 1, 1) := by decide +kernel
theorem d_MD_length_1 : decode prog_6_method_25_code 1 = .ok (.ifCond .lt 11, 3) := by decide +kernel
theorem d_MD_length_4 : decode prog_6_method_25_code 4 = .ok (.iload_n 1, 1) := by decide +kernel
theorem d_MD_length_5 : decode prog_6_method_25_code 5 = .ok (.aload_n 0, 1) := by decide +kernel
theorem d_MD_length_6 : decode prog_6_method_25_code 6 = .ok (.getfield 123, 3) := by decide +kernel
theorem d_MD_length_9 : decode prog_6_method_25_code 9 = .ok (.if_icmp .lt 7, 3) := by decide +kernel
theorem d_MD_length_12 : decode prog_6_method_25_code 12 = .ok (.iconst (-1), 1) := by decide +kernel
theorem d_MD_length_13 : decode prog_6_method_25_code 13 = .ok (.goto 9, 3) := by decide +kernel
theorem d_MD_length_16 : decode prog_6_method_25_code 16 = .ok (.aload_n 0, 1) := by decide +kernel
theorem d_MD_length_17 : decode prog_6_method_25_code 17 = .ok (.getfield 20, 3) := by decide +kernel
theorem d_MD_length_20 : decode prog_6_method_25_code 20 = .ok (.iload_n 1, 1) := by decide +kernel
theorem d_MD_length_21 : decode prog_6_method_25_code 21 = .ok (.iaload, 1) := by decide +kernel
theorem d_MD_length_22 : decode prog_6_method_25_code 22 = .ok (.ireturn, 1) := by decide +kernel
theorem d_MD_word_0 : decode prog_6_method_26_code 0 = .ok (.aload_n 0, 1) := by decide +kernel
theorem d_MD_word_1 : decode prog_6_method_26_code 1 = .ok (.iload_n 1, 1) := by decide +kernel
theorem d_MD_word_2 : decode prog_6_method_26_code 2 = .ok (.iload_n 2, 1) := by decide +kernel
theorem d_MD_word_3 : decode prog_6_method_26_code 3 = .ok (.invokevirtual 137, 3) := by decide +kernel
theorem d_MD_word_6 : decode prog_6_method_26_code 6 = .ok (.ifCond .eq 17, 3) := by decide +kernel
theorem d_MD_word_9 : decode prog_6_method_26_code 9 = .ok (.aload_n 0, 1) := by decide +kernel
theorem d_MD_word_10 : decode prog_6_method_26_code 10 = .ok (.getfield 23, 3) := by decide +kernel
theorem d_MD_word_13 : decode prog_6_method_26_code 13 = .ok (.bipush 6, 2) := by decide +kernel
theorem d_MD_word_15 : decode prog_6_method_26_code 15 = .ok (.iload_n 1, 1) := by decide +kernel
theorem d_MD_word_16 : decode prog_6_method_26_code 16 = .ok (.imul, 1) := by decide +kernel
theorem d_MD_word_17 : decode prog_6_method_26_code 17 = .ok (.iload_n 2, 1) := by decide +kernel
theorem d_MD_word_18 : decode prog_6_method_26_code 18 = .ok (.iadd, 1) := by decide +kernel
theorem d_MD_word_19 : decode prog_6_method_26_code 19 = .ok (.iaload, 1) := by decide +kernel
theorem d_MD_word_20 : decode prog_6_method_26_code 20 = .ok (.goto 4, 3) := by decide +kernel
theorem d_MD_word_23 : decode prog_6_method_26_code 23 = .ok (.iconst 0, 1) := by decide +kernel
theorem d_MD_word_24 : decode prog_6_method_26_code 24 = .ok (.ireturn, 1) := by decide +kernel
theorem d_MD_isWord_0 : decode prog_6_method_24_code 0 = .ok (.iload_n 1, 1) := by decide +kernel
theorem d_MD_isWord_1 : decode prog_6_method_24_code 1 = .ok (.ifCond .lt 29, 3) := by decide +kernel
theorem d_MD_isWord_4 : decode prog_6_method_24_code 4 = .ok (.iload_n 1, 1) := by decide +kernel
theorem d_MD_isWord_5 : decode prog_6_method_24_code 5 = .ok (.aload_n 0, 1) := by decide +kernel
theorem d_MD_isWord_6 : decode prog_6_method_24_code 6 = .ok (.getfield 123, 3) := by decide +kernel
theorem d_MD_isWord_9 : decode prog_6_method_24_code 9 = .ok (.if_icmp .ge 21, 3) := by decide +kernel
theorem d_MD_isWord_12 : decode prog_6_method_24_code 12 = .ok (.iload_n 2, 1) := by decide +kernel
theorem d_MD_isWord_13 : decode prog_6_method_24_code 13 = .ok (.ifCond .lt 17, 3) := by decide +kernel
theorem d_MD_isWord_16 : decode prog_6_method_24_code 16 = .ok (.iload_n 2, 1) := by decide +kernel
theorem d_MD_isWord_17 : decode prog_6_method_24_code 17 = .ok (.aload_n 0, 1) := by decide +kernel
theorem d_MD_isWord_18 : decode prog_6_method_24_code 18 = .ok (.getfield 20, 3) := by decide +kernel
theorem d_MD_isWord_21 : decode prog_6_method_24_code 21 = .ok (.iload_n 1, 1) := by decide +kernel
theorem d_MD_isWord_22 : decode prog_6_method_24_code 22 = .ok (.iaload, 1) := by decide +kernel
theorem d_MD_isWord_23 : decode prog_6_method_24_code 23 = .ok (.if_icmp .ge 7, 3) := by decide +kernel
theorem d_MD_isWord_26 : decode prog_6_method_24_code 26 = .ok (.iconst 1, 1) := by decide +kernel
theorem d_MD_isWord_27 : decode prog_6_method_24_code 27 = .ok (.goto 4, 3) := by decide +kernel
theorem d_MD_isWord_30 : decode prog_6_method_24_code 30 = .ok (.iconst 0, 1) := by decide +kernel
theorem d_MD_isWord_31 : decode prog_6_method_24_code 31 = .ok (.ireturn, 1) := by decide +kernel
theorem d_MD_spoil_0 : decode prog_6_method_27_code 0 = .ok (.aload_n 0, 1) := by decide +kernel
theorem d_MD_spoil_1 : decode prog_6_method_27_code 1 = .ok (.iload_n 1, 1) := by decide +kernel
theorem d_MD_spoil_2 : decode prog_6_method_27_code 2 = .ok (.iload_n 2, 1) := by decide +kernel
theorem d_MD_spoil_3 : decode prog_6_method_27_code 3 = .ok (.invokevirtual 137, 3) := by decide +kernel
theorem d_MD_spoil_6 : decode prog_6_method_27_code 6 = .ok (.ifCond .ne 5, 3) := by decide +kernel
theorem d_MD_spoil_9 : decode prog_6_method_27_code 9 = .ok (.iconst 0, 1) := by decide +kernel
theorem d_MD_spoil_10 : decode prog_6_method_27_code 10 = .ok (.ireturn, 1) := by decide +kernel
theorem d_MD_spoil_11 : decode prog_6_method_27_code 11 = .ok (.aload_n 0, 1) := by decide +kernel
theorem d_MD_spoil_12 : decode prog_6_method_27_code 12 = .ok (.getfield 23, 3) := by decide +kernel
theorem d_MD_spoil_15 : decode prog_6_method_27_code 15 = .ok (.bipush 6, 2) := by decide +kernel
theorem d_MD_spoil_17 : decode prog_6_method_27_code 17 = .ok (.iload_n 1, 1) := by decide +kernel
theorem d_MD_spoil_18 : decode prog_6_method_27_code 18 = .ok (.imul, 1) := by decide +kernel
theorem d_MD_spoil_19 : decode prog_6_method_27_code 19 = .ok (.iload_n 2, 1) := by decide +kernel
theorem d_MD_spoil_20 : decode prog_6_method_27_code 20 = .ok (.iadd, 1) := by decide +kernel
theorem d_MD_spoil_21 : decode prog_6_method_27_code 21 = .ok (.aload_n 0, 1) := by decide +kernel
theorem d_MD_spoil_22 : decode prog_6_method_27_code 22 = .ok (.getfield 23, 3) := by decide +kernel
theorem d_MD_spoil_25 : decode prog_6_method_27_code 25 = .ok (.bipush 6, 2) := by decide +kernel
theorem d_MD_spoil_27 : decode prog_6_method_27_code 27 = .ok (.iload_n 1, 1) := by decide +kernel
theorem d_MD_spoil_28 : decode prog_6_method_27_code 28 = .ok (.imul, 1) := by decide +kernel
theorem d_MD_spoil_29 : decode prog_6_method_27_code 29 = .ok (.iload_n 2, 1) := by decide +kernel
theorem d_MD_spoil_30 : decode prog_6_method_27_code 30 = .ok (.iadd, 1) := by decide +kernel
theorem d_MD_spoil_31 : decode prog_6_method_27_code 31 = .ok (.iaload, 1) := by decide +kernel
theorem d_MD_spoil_32 : decode prog_6_method_27_code 32 = .ok (.iload_n 3, 1) := by decide +kernel
theorem d_MD_spoil_33 : decode prog_6_method_27_code 33 = .ok (.ixor, 1) := by decide +kernel
theorem d_MD_spoil_34 : decode prog_6_method_27_code 34 = .ok (.iastore, 1) := by decide +kernel
theorem d_MD_spoil_35 : decode prog_6_method_27_code 35 = .ok (.iconst 1, 1) := by decide +kernel
theorem d_MD_spoil_36 : decode prog_6_method_27_code 36 = .ok (.ireturn, 1) := by decide +kernel
theorem d_MD_cut_0 : decode prog_6_method_28_code 0 = .ok (.aload_n 0, 1) := by decide +kernel
theorem d_MD_cut_1 : decode prog_6_method_28_code 1 = .ok (.iload_n 1, 1) := by decide +kernel
theorem d_MD_cut_2 : decode prog_6_method_28_code 2 = .ok (.iconst 0, 1) := by decide +kernel
theorem d_MD_cut_3 : decode prog_6_method_28_code 3 = .ok (.invokevirtual 137, 3) := by decide +kernel
theorem d_MD_cut_6 : decode prog_6_method_28_code 6 = .ok (.ifCond .ne 5, 3) := by decide +kernel
theorem d_MD_cut_9 : decode prog_6_method_28_code 9 = .ok (.iconst 0, 1) := by decide +kernel
theorem d_MD_cut_10 : decode prog_6_method_28_code 10 = .ok (.ireturn, 1) := by decide +kernel
theorem d_MD_cut_11 : decode prog_6_method_28_code 11 = .ok (.aload_n 0, 1) := by decide +kernel
theorem d_MD_cut_12 : decode prog_6_method_28_code 12 = .ok (.getfield 20, 3) := by decide +kernel
theorem d_MD_cut_15 : decode prog_6_method_28_code 15 = .ok (.iload_n 1, 1) := by decide +kernel
theorem d_MD_cut_16 : decode prog_6_method_28_code 16 = .ok (.dup2, 1) := by decide +kernel
theorem d_MD_cut_17 : decode prog_6_method_28_code 17 = .ok (.iaload, 1) := by decide +kernel
theorem d_MD_cut_18 : decode prog_6_method_28_code 18 = .ok (.iconst 1, 1) := by decide +kernel
theorem d_MD_cut_19 : decode prog_6_method_28_code 19 = .ok (.isub, 1) := by decide +kernel
theorem d_MD_cut_20 : decode prog_6_method_28_code 20 = .ok (.iastore, 1) := by decide +kernel
theorem d_MD_cut_21 : decode prog_6_method_28_code 21 = .ok (.iconst 1, 1) := by decide +kernel
theorem d_MD_cut_22 : decode prog_6_method_28_code 22 = .ok (.ireturn, 1) := by decide +kernel
theorem d_MD_restore_0 : decode prog_6_method_30_code 0 = .ok (.iload_n 1, 1) := by decide +kernel
theorem d_MD_restore_1 : decode prog_6_method_30_code 1 = .ok (.ifCond .lt 11, 3) := by decide +kernel
theorem d_MD_restore_4 : decode prog_6_method_30_code 4 = .ok (.iload_n 1, 1) := by decide +kernel
theorem d_MD_restore_5 : decode prog_6_method_30_code 5 = .ok (.aload_n 0, 1) := by decide +kernel
theorem d_MD_restore_6 : decode prog_6_method_30_code 6 = .ok (.getfield 123, 3) := by decide +kernel
theorem d_MD_restore_9 : decode prog_6_method_30_code 9 = .ok (.if_icmp .lt 5, 3) := by decide +kernel
theorem d_MD_restore_12 : decode prog_6_method_30_code 12 = .ok (.iconst (-1), 1) := by decide +kernel
theorem d_MD_restore_13 : decode prog_6_method_30_code 13 = .ok (.ireturn, 1) := by decide +kernel
theorem d_MD_restore_14 : decode prog_6_method_30_code 14 = .ok (.bipush 6, 2) := by decide +kernel
theorem d_MD_restore_16 : decode prog_6_method_30_code 16 = .ok (.iload_n 1, 1) := by decide +kernel
theorem d_MD_restore_17 : decode prog_6_method_30_code 17 = .ok (.imul, 1) := by decide +kernel
theorem d_MD_restore_18 : decode prog_6_method_30_code 18 = .ok (.istore_n 2, 1) := by decide +kernel
theorem d_MD_restore_19 : decode prog_6_method_30_code 19 = .ok (.aload_n 0, 1) := by decide +kernel
theorem d_MD_restore_20 : decode prog_6_method_30_code 20 = .ok (.getfield 20, 3) := by decide +kernel
theorem d_MD_restore_23 : decode prog_6_method_30_code 23 = .ok (.iload_n 1, 1) := by decide +kernel
theorem d_MD_restore_24 : decode prog_6_method_30_code 24 = .ok (.iaload, 1) := by decide +kernel
theorem d_MD_restore_25 : decode prog_6_method_30_code 25 = .ok (.ifCond .ne 7, 3) := by decide +kernel
theorem d_MD_restore_28 : decode prog_6_method_30_code 28 = .ok (.iconst (-1), 1) := by decide +kernel
theorem d_MD_restore_29 : decode prog_6_method_30_code 29 = .ok (.goto 12, 3) := by decide +kernel
theorem d_MD_restore_32 : decode prog_6_method_30_code 32 = .ok (.aload_n 0, 1) := by decide +kernel
theorem d_MD_restore_33 : decode prog_6_method_30_code 33 = .ok (.getfield 23, 3) := by decide +kernel
theorem d_MD_restore_36 : decode prog_6_method_30_code 36 = .ok (.iload_n 2, 1) := by decide +kernel
theorem d_MD_restore_37 : decode prog_6_method_30_code 37 = .ok (.iaload, 1) := by decide +kernel
theorem d_MD_restore_38 : decode prog_6_method_30_code 38 = .ok (.ldc 129, 2) := by decide +kernel
theorem d_MD_restore_40 : decode prog_6_method_30_code 40 = .ok (.isub, 1) := by decide +kernel
theorem d_MD_restore_41 : decode prog_6_method_30_code 41 = .ok (.istore_n 3, 1) := by decide +kernel
theorem d_MD_restore_42 : decode prog_6_method_30_code 42 = .ok (.iload_n 3, 1) := by decide +kernel
theorem d_MD_restore_43 : decode prog_6_method_30_code 43 = .ok (.ifCond .lt 8, 3) := by decide +kernel
theorem d_MD_restore_46 : decode prog_6_method_30_code 46 = .ok (.iload_n 3, 1) := by decide +kernel
theorem d_MD_restore_47 : decode prog_6_method_30_code 47 = .ok (.iconst 3, 1) := by decide +kernel
theorem d_MD_restore_48 : decode prog_6_method_30_code 48 = .ok (.if_icmp .le 6, 3) := by decide +kernel
theorem d_MD_restore_51 : decode prog_6_method_30_code 51 = .ok (.bipush (-2), 2) := by decide +kernel
theorem d_MD_restore_53 : decode prog_6_method_30_code 53 = .ok (.ireturn, 1) := by decide +kernel
theorem d_MD_restore_54 : decode prog_6_method_30_code 54 = .ok (.aload_n 0, 1) := by decide +kernel
theorem d_MD_restore_55 : decode prog_6_method_30_code 55 = .ok (.getfield 20, 3) := by decide +kernel
theorem d_MD_restore_58 : decode prog_6_method_30_code 58 = .ok (.iload_n 1, 1) := by decide +kernel
theorem d_MD_restore_59 : decode prog_6_method_30_code 59 = .ok (.iaload, 1) := by decide +kernel
theorem d_MD_restore_60 : decode prog_6_method_30_code 60 = .ok (.iload_n 3, 1) := by decide +kernel
theorem d_MD_restore_61 : decode prog_6_method_30_code 61 = .ok (.ifCond .ne 8, 3) := by decide +kernel
theorem d_MD_restore_64 : decode prog_6_method_30_code 64 = .ok (.bipush 6, 2) := by decide +kernel
theorem d_MD_restore_66 : decode prog_6_method_30_code 66 = .ok (.goto 13, 3) := by decide +kernel
theorem d_MD_restore_69 : decode prog_6_method_30_code 69 = .ok (.iload_n 3, 1) := by decide +kernel
theorem d_MD_restore_70 : decode prog_6_method_30_code 70 = .ok (.iconst 2, 1) := by decide +kernel
theorem d_MD_restore_71 : decode prog_6_method_30_code 71 = .ok (.if_icmp .ne 7, 3) := by decide +kernel
theorem d_MD_restore_74 : decode prog_6_method_30_code 74 = .ok (.iconst 5, 1) := by decide +kernel
theorem d_MD_restore_75 : decode prog_6_method_30_code 75 = .ok (.goto 4, 3) := by decide +kernel
theorem d_MD_restore_78 : decode prog_6_method_30_code 78 = .ok (.iconst 4, 1) := by decide +kernel
theorem d_MD_restore_79 : decode prog_6_method_30_code 79 = .ok (.if_icmp .eq 6, 3) := by decide +kernel
theorem d_MD_restore_82 : decode prog_6_method_30_code 82 = .ok (.bipush (-3), 2) := by decide +kernel
theorem d_MD_restore_84 : decode prog_6_method_30_code 84 = .ok (.ireturn, 1) := by decide +kernel
theorem d_MD_restore_85 : decode prog_6_method_30_code 85 = .ok (.aload_n 0, 1) := by decide +kernel
theorem d_MD_restore_86 : decode prog_6_method_30_code 86 = .ok (.getfield 20, 3) := by decide +kernel
theorem d_MD_restore_89 : decode prog_6_method_30_code 89 = .ok (.iload_n 1, 1) := by decide +kernel
theorem d_MD_restore_90 : decode prog_6_method_30_code 90 = .ok (.iaload, 1) := by decide +kernel
theorem d_MD_restore_91 : decode prog_6_method_30_code 91 = .ok (.iconst 1, 1) := by decide +kernel
theorem d_MD_restore_92 : decode prog_6_method_30_code 92 = .ok (.isub, 1) := by decide +kernel
theorem d_MD_restore_93 : decode prog_6_method_30_code 93 = .ok (.istore 4, 2) := by decide +kernel
theorem d_MD_restore_95 : decode prog_6_method_30_code 95 = .ok (.aload_n 0, 1) := by decide +kernel
theorem d_MD_restore_96 : decode prog_6_method_30_code 96 = .ok (.getfield 23, 3) := by decide +kernel
theorem d_MD_restore_99 : decode prog_6_method_30_code 99 = .ok (.iload_n 2, 1) := by decide +kernel
theorem d_MD_restore_100 : decode prog_6_method_30_code 100 = .ok (.iload 4, 2) := by decide +kernel
theorem d_MD_restore_102 : decode prog_6_method_30_code 102 = .ok (.iadd, 1) := by decide +kernel
theorem d_MD_restore_103 : decode prog_6_method_30_code 103 = .ok (.iaload, 1) := by decide +kernel
theorem d_MD_restore_104 : decode prog_6_method_30_code 104 = .ok (.aload_n 0, 1) := by decide +kernel
theorem d_MD_restore_105 : decode prog_6_method_30_code 105 = .ok (.iload_n 1, 1) := by decide +kernel
theorem d_MD_restore_106 : decode prog_6_method_30_code 106 = .ok (.iload 4, 2) := by decide +kernel
theorem d_MD_restore_108 : decode prog_6_method_30_code 108 = .ok (.invokevirtual 134, 3) := by decide +kernel
theorem d_MD_restore_111 : decode prog_6_method_30_code 111 = .ok (.if_icmp .eq 6, 3) := by decide +kernel
theorem d_MD_restore_114 : decode prog_6_method_30_code 114 = .ok (.bipush (-4), 2) := by decide +kernel
theorem d_MD_restore_116 : decode prog_6_method_30_code 116 = .ok (.ireturn, 1) := by decide +kernel
theorem d_MD_restore_117 : decode prog_6_method_30_code 117 = .ok (.aload_n 0, 1) := by decide +kernel
theorem d_MD_restore_118 : decode prog_6_method_30_code 118 = .ok (.iload_n 3, 1) := by decide +kernel
theorem d_MD_restore_119 : decode prog_6_method_30_code 119 = .ok (.putfield 90, 3) := by decide +kernel
theorem d_MD_restore_122 : decode prog_6_method_30_code 122 = .ok (.aload_n 0, 1) := by decide +kernel
theorem d_MD_restore_123 : decode prog_6_method_30_code 123 = .ok (.iload_n 3, 1) := by decide +kernel
theorem d_MD_restore_124 : decode prog_6_method_30_code 124 = .ok (.ifCond .ne 13, 3) := by decide +kernel
theorem d_MD_restore_127 : decode prog_6_method_30_code 127 = .ok (.aload_n 0, 1) := by decide +kernel
theorem d_MD_restore_128 : decode prog_6_method_30_code 128 = .ok (.iload_n 2, 1) := by decide +kernel
theorem d_MD_restore_129 : decode prog_6_method_30_code 129 = .ok (.iconst 1, 1) := by decide +kernel
theorem d_MD_restore_130 : decode prog_6_method_30_code 130 = .ok (.iadd, 1) := by decide +kernel
theorem d_MD_restore_131 : decode prog_6_method_30_code 131 = .ok (.invokevirtual 141, 3) := by decide +kernel
theorem d_MD_restore_134 : decode prog_6_method_30_code 134 = .ok (.goto 12, 3) := by decide +kernel
theorem d_MD_restore_137 : decode prog_6_method_30_code 137 = .ok (.aload_n 0, 1) := by decide +kernel
theorem d_MD_restore_138 : decode prog_6_method_30_code 138 = .ok (.getfield 23, 3) := by decide +kernel
theorem d_MD_restore_141 : decode prog_6_method_30_code 141 = .ok (.iload_n 2, 1) := by decide +kernel
theorem d_MD_restore_142 : decode prog_6_method_30_code 142 = .ok (.iconst 1, 1) := by decide +kernel
theorem d_MD_restore_143 : decode prog_6_method_30_code 143 = .ok (.iadd, 1) := by decide +kernel
theorem d_MD_restore_144 : decode prog_6_method_30_code 144 = .ok (.iaload, 1) := by decide +kernel
theorem d_MD_restore_145 : decode prog_6_method_30_code 145 = .ok (.i2l, 1) := by decide +kernel
theorem d_MD_restore_146 : decode prog_6_method_30_code 146 = .ok (.putfield 84, 3) := by decide +kernel
theorem d_MD_restore_149 : decode prog_6_method_30_code 149 = .ok (.aload_n 0, 1) := by decide +kernel
theorem d_MD_restore_150 : decode prog_6_method_30_code 150 = .ok (.iload_n 3, 1) := by decide +kernel
theorem d_MD_restore_151 : decode prog_6_method_30_code 151 = .ok (.ifCond .ne 13, 3) := by decide +kernel
theorem d_MD_restore_154 : decode prog_6_method_30_code 154 = .ok (.aload_n 0, 1) := by decide +kernel
theorem d_MD_restore_155 : decode prog_6_method_30_code 155 = .ok (.iload_n 2, 1) := by decide +kernel
theorem d_MD_restore_156 : decode prog_6_method_30_code 156 = .ok (.iconst 3, 1) := by decide +kernel
theorem d_MD_restore_157 : decode prog_6_method_30_code 157 = .ok (.iadd, 1) := by decide +kernel
theorem d_MD_restore_158 : decode prog_6_method_30_code 158 = .ok (.invokevirtual 141, 3) := by decide +kernel
theorem d_MD_restore_161 : decode prog_6_method_30_code 161 = .ok (.goto 27, 3) := by decide +kernel
theorem d_MD_restore_164 : decode prog_6_method_30_code 164 = .ok (.iload_n 3, 1) := by decide +kernel
theorem d_MD_restore_165 : decode prog_6_method_30_code 165 = .ok (.iconst 2, 1) := by decide +kernel
theorem d_MD_restore_166 : decode prog_6_method_30_code 166 = .ok (.if_icmp .ne 13, 3) := by decide +kernel
theorem d_MD_restore_169 : decode prog_6_method_30_code 169 = .ok (.aload_n 0, 1) := by decide +kernel
theorem d_MD_restore_170 : decode prog_6_method_30_code 170 = .ok (.iload_n 2, 1) := by decide +kernel
theorem d_MD_restore_171 : decode prog_6_method_30_code 171 = .ok (.iconst 2, 1) := by decide +kernel
theorem d_MD_restore_172 : decode prog_6_method_30_code 172 = .ok (.iadd, 1) := by decide +kernel
theorem d_MD_restore_173 : decode prog_6_method_30_code 173 = .ok (.invokevirtual 141, 3) := by decide +kernel
theorem d_MD_restore_176 : decode prog_6_method_30_code 176 = .ok (.goto 12, 3) := by decide +kernel
theorem d_MD_restore_179 : decode prog_6_method_30_code 179 = .ok (.aload_n 0, 1) := by decide +kernel
theorem d_MD_restore_180 : decode prog_6_method_30_code 180 = .ok (.getfield 23, 3) := by decide +kernel
theorem d_MD_restore_183 : decode prog_6_method_30_code 183 = .ok (.iload_n 2, 1) := by decide +kernel
theorem d_MD_restore_184 : decode prog_6_method_30_code 184 = .ok (.iconst 2, 1) := by decide +kernel
theorem d_MD_restore_185 : decode prog_6_method_30_code 185 = .ok (.iadd, 1) := by decide +kernel
theorem d_MD_restore_186 : decode prog_6_method_30_code 186 = .ok (.iaload, 1) := by decide +kernel
theorem d_MD_restore_187 : decode prog_6_method_30_code 187 = .ok (.i2l, 1) := by decide +kernel
theorem d_MD_restore_188 : decode prog_6_method_30_code 188 = .ok (.putfield 87, 3) := by decide +kernel
theorem d_MD_restore_191 : decode prog_6_method_30_code 191 = .ok (.aload_n 0, 1) := by decide +kernel
theorem d_MD_restore_192 : decode prog_6_method_30_code 192 = .ok (.invokevirtual 101, 3) := by decide +kernel
theorem d_MD_restore_195 : decode prog_6_method_30_code 195 = .ok (.ifCond .ne 6, 3) := by decide +kernel
theorem d_MD_restore_198 : decode prog_6_method_30_code 198 = .ok (.bipush (-5), 2) := by decide +kernel
theorem d_MD_restore_200 : decode prog_6_method_30_code 200 = .ok (.ireturn, 1) := by decide +kernel
theorem d_MD_restore_201 : decode prog_6_method_30_code 201 = .ok (.aload_n 0, 1) := by decide +kernel
theorem d_MD_restore_202 : decode prog_6_method_30_code 202 = .ok (.invokevirtual 97, 3) := by decide +kernel
theorem d_MD_restore_205 : decode prog_6_method_30_code 205 = .ok (.istore 5, 2) := by decide +kernel
theorem d_MD_restore_207 : decode prog_6_method_30_code 207 = .ok (.iload 5, 2) := by decide +kernel
theorem d_MD_restore_209 : decode prog_6_method_30_code 209 = .ok (.ifCond .ge 8, 3) := by decide +kernel
theorem d_MD_restore_212 : decode prog_6_method_30_code 212 = .ok (.bipush (-6), 2) := by decide +kernel
theorem d_MD_restore_214 : decode prog_6_method_30_code 214 = .ok (.goto 9, 3) := by decide +kernel
theorem d_MD_restore_217 : decode prog_6_method_30_code 217 = .ok (.aload_n 0, 1) := by decide +kernel
theorem d_MD_restore_218 : decode prog_6_method_30_code 218 = .ok (.iload 5, 2) := by decide +kernel
theorem d_MD_restore_220 : decode prog_6_method_30_code 220 = .ok (.invokevirtual 105, 3) := by decide +kernel
theorem d_MD_restore_223 : decode prog_6_method_30_code 223 = .ok (.ireturn, 1) := by decide +kernel
theorem d_MD_twoWords_0 : decode prog_6_method_29_code 0 = .ok (.aload_n 0, 1) := by decide +kernel
theorem d_MD_twoWords_1 : decode prog_6_method_29_code 1 = .ok (.getfield 23, 3) := by decide +kernel
theorem d_MD_twoWords_4 : decode prog_6_method_29_code 4 = .ok (.iload_n 1, 1) := by decide +kernel
theorem d_MD_twoWords_5 : decode prog_6_method_29_code 5 = .ok (.iaload, 1) := by decide +kernel
theorem d_MD_twoWords_6 : decode prog_6_method_29_code 6 = .ok (.i2l, 1) := by decide +kernel
theorem d_MD_twoWords_7 : decode prog_6_method_29_code 7 = .ok (.ldc2_w 35, 3) := by decide +kernel
theorem d_MD_twoWords_10 : decode prog_6_method_29_code 10 = .ok (.lmul, 1) := by decide +kernel
theorem d_MD_twoWords_11 : decode prog_6_method_29_code 11 = .ok (.aload_n 0, 1) := by decide +kernel
theorem d_MD_twoWords_12 : decode prog_6_method_29_code 12 = .ok (.getfield 23, 3) := by decide +kernel
theorem d_MD_twoWords_15 : decode prog_6_method_29_code 15 = .ok (.iload_n 1, 1) := by decide +kernel
theorem d_MD_twoWords_16 : decode prog_6_method_29_code 16 = .ok (.iconst 1, 1) := by decide +kernel
theorem d_MD_twoWords_17 : decode prog_6_method_29_code 17 = .ok (.iadd, 1) := by decide +kernel
theorem d_MD_twoWords_18 : decode prog_6_method_29_code 18 = .ok (.iaload, 1) := by decide +kernel
theorem d_MD_twoWords_19 : decode prog_6_method_29_code 19 = .ok (.invokestatic 71, 3) := by decide +kernel
theorem d_MD_twoWords_22 : decode prog_6_method_29_code 22 = .ok (.ladd, 1) := by decide +kernel
theorem d_MD_twoWords_23 : decode prog_6_method_29_code 23 = .ok (.lreturn, 1) := by decide +kernel
theorem d_MD_seek_0 : decode prog_6_method_31_code 0 = .ok (.iload_n 1, 1) := by decide +kernel
theorem d_MD_seek_1 : decode prog_6_method_31_code 1 = .ok (.ifCond .lt 9, 3) := by decide +kernel
theorem d_MD_seek_4 : decode prog_6_method_31_code 4 = .ok (.iload_n 1, 1) := by decide +kernel
theorem d_MD_seek_5 : decode prog_6_method_31_code 5 = .ok (.ldc 144, 2) := by decide +kernel
theorem d_MD_seek_7 : decode prog_6_method_31_code 7 = .ok (.if_icmp .le 5, 3) := by decide +kernel
theorem d_MD_seek_10 : decode prog_6_method_31_code 10 = .ok (.iconst 0, 1) := by decide +kernel
theorem d_MD_seek_11 : decode prog_6_method_31_code 11 = .ok (.ireturn, 1) := by decide +kernel
theorem d_MD_seek_12 : decode prog_6_method_31_code 12 = .ok (.aload_n 0, 1) := by decide +kernel
theorem d_MD_seek_13 : decode prog_6_method_31_code 13 = .ok (.iload_n 1, 1) := by decide +kernel
theorem d_MD_seek_14 : decode prog_6_method_31_code 14 = .ok (.putfield 145, 3) := by decide +kernel
theorem d_MD_seek_17 : decode prog_6_method_31_code 17 = .ok (.iconst 1, 1) := by decide +kernel
theorem d_MD_seek_18 : decode prog_6_method_31_code 18 = .ok (.ireturn, 1) := by decide +kernel
theorem d_MD_advance_0 : decode prog_6_method_32_code 0 = .ok (.aload_n 0, 1) := by decide +kernel
theorem d_MD_advance_1 : decode prog_6_method_32_code 1 = .ok (.aload_n 0, 1) := by decide +kernel
theorem d_MD_advance_2 : decode prog_6_method_32_code 2 = .ok (.getfield 145, 3) := by decide +kernel
theorem d_MD_advance_5 : decode prog_6_method_32_code 5 = .ok (.ldc 144, 2) := by decide +kernel
theorem d_MD_advance_7 : decode prog_6_method_32_code 7 = .ok (.if_icmp .ne 7, 3) := by decide +kernel
theorem d_MD_advance_10 : decode prog_6_method_32_code 10 = .ok (.iconst 0, 1) := by decide +kernel
theorem d_MD_advance_11 : decode prog_6_method_32_code 11 = .ok (.goto 9, 3) := by decide +kernel
theorem d_MD_advance_14 : decode prog_6_method_32_code 14 = .ok (.aload_n 0, 1) := by decide +kernel
theorem d_MD_advance_15 : decode prog_6_method_32_code 15 = .ok (.getfield 145, 3) := by decide +kernel
theorem d_MD_advance_18 : decode prog_6_method_32_code 18 = .ok (.iconst 1, 1) := by decide +kernel
theorem d_MD_advance_19 : decode prog_6_method_32_code 19 = .ok (.iadd, 1) := by decide +kernel
theorem d_MD_advance_20 : decode prog_6_method_32_code 20 = .ok (.putfield 145, 3) := by decide +kernel
theorem d_MD_advance_23 : decode prog_6_method_32_code 23 = .ok (.aload_n 0, 1) := by decide +kernel
theorem d_MD_advance_24 : decode prog_6_method_32_code 24 = .ok (.getfield 145, 3) := by decide +kernel
theorem d_MD_advance_27 : decode prog_6_method_32_code 27 = .ok (.ireturn, 1) := by decide +kernel
theorem d_MD_coordinate_0 : decode prog_6_method_35_code 0 = .ok (.iload_n 1, 1) := by decide +kernel
theorem d_MD_coordinate_1 : decode prog_6_method_35_code 1 = .ok (.ifCond .lt 8, 3) := by decide +kernel
theorem d_MD_coordinate_4 : decode prog_6_method_35_code 4 = .ok (.iload_n 1, 1) := by decide +kernel
theorem d_MD_coordinate_5 : decode prog_6_method_35_code 5 = .ok (.iconst 5, 1) := by decide +kernel
theorem d_MD_coordinate_6 : decode prog_6_method_35_code 6 = .ok (.if_icmp .le 7, 3) := by decide +kernel
theorem d_MD_coordinate_9 : decode prog_6_method_35_code 9 = .ok (.ldc2_w 113, 3) := by decide +kernel
theorem d_MD_coordinate_12 : decode prog_6_method_35_code 12 = .ok (.lreturn, 1) := by decide +kernel
theorem d_MD_coordinate_13 : decode prog_6_method_35_code 13 = .ok (.iload_n 1, 1) := by decide +kernel
theorem d_MD_coordinate_14 : decode prog_6_method_35_code 14 = .ok (.iconst 3, 1) := by decide +kernel
theorem d_MD_coordinate_15 : decode prog_6_method_35_code 15 = .ok (.if_icmp .le 26, 3) := by decide +kernel
theorem d_MD_coordinate_18 : decode prog_6_method_35_code 18 = .ok (.iload_n 1, 1) := by decide +kernel
theorem d_MD_coordinate_19 : decode prog_6_method_35_code 19 = .ok (.iconst 4, 1) := by decide +kernel
theorem d_MD_coordinate_20 : decode prog_6_method_35_code 20 = .ok (.if_icmp .ne 13, 3) := by decide +kernel
theorem d_MD_coordinate_23 : decode prog_6_method_35_code 23 = .ok (.aload_n 0, 1) := by decide +kernel
theorem d_MD_coordinate_24 : decode prog_6_method_35_code 24 = .ok (.iconst 3, 1) := by decide +kernel
theorem d_MD_coordinate_25 : decode prog_6_method_35_code 25 = .ok (.bipush 13, 2) := by decide +kernel
theorem d_MD_coordinate_27 : decode prog_6_method_35_code 27 = .ok (.invokevirtual 148, 3) := by decide +kernel
theorem d_MD_coordinate_30 : decode prog_6_method_35_code 30 = .ok (.goto 10, 3) := by decide +kernel
theorem d_MD_coordinate_33 : decode prog_6_method_35_code 33 = .ok (.aload_n 0, 1) := by decide +kernel
theorem d_MD_coordinate_34 : decode prog_6_method_35_code 34 = .ok (.iconst 5, 1) := by decide +kernel
theorem d_MD_coordinate_35 : decode prog_6_method_35_code 35 = .ok (.bipush 9, 2) := by decide +kernel
theorem d_MD_coordinate_37 : decode prog_6_method_35_code 37 = .ok (.invokevirtual 148, 3) := by decide +kernel
theorem d_MD_coordinate_40 : decode prog_6_method_35_code 40 = .ok (.lreturn, 1) := by decide +kernel
theorem d_MD_coordinate_41 : decode prog_6_method_35_code 41 = .ok (.iload_n 1, 1) := by decide +kernel
theorem d_MD_coordinate_42 : decode prog_6_method_35_code 42 = .ok (.ifCond .ne 27, 3) := by decide +kernel
theorem d_MD_coordinate_45 : decode prog_6_method_35_code 45 = .ok (.iconst 1, 1) := by decide +kernel
theorem d_MD_coordinate_46 : decode prog_6_method_35_code 46 = .ok (.istore_n 2, 1) := by decide +kernel
theorem d_MD_coordinate_47 : decode prog_6_method_35_code 47 = .ok (.iload_n 2, 1) := by decide +kernel
theorem d_MD_coordinate_48 : decode prog_6_method_35_code 48 = .ok (.bipush 20, 2) := by decide +kernel
theorem d_MD_coordinate_50 : decode prog_6_method_35_code 50 = .ok (.if_icmp .gt 16, 3) := by decide +kernel
theorem d_MD_coordinate_53 : decode prog_6_method_35_code 53 = .ok (.aload_n 0, 1) := by decide +kernel
theorem d_MD_coordinate_54 : decode prog_6_method_35_code 54 = .ok (.getfield 26, 3) := by decide +kernel
theorem d_MD_coordinate_57 : decode prog_6_method_35_code 57 = .ok (.iload_n 2, 1) := by decide +kernel
theorem d_MD_coordinate_58 : decode prog_6_method_35_code 58 = .ok (.iconst 1, 1) := by decide +kernel
theorem d_MD_coordinate_59 : decode prog_6_method_35_code 59 = .ok (.iastore, 1) := by decide +kernel
theorem d_MD_coordinate_60 : decode prog_6_method_35_code 60 = .ok (.iinc 2 1, 3) := by decide +kernel
theorem d_MD_coordinate_63 : decode prog_6_method_35_code 63 = .ok (.goto (-16), 3) := by decide +kernel
theorem d_MD_coordinate_66 : decode prog_6_method_35_code 66 = .ok (.goto 8, 3) := by decide +kernel
theorem d_MD_coordinate_69 : decode prog_6_method_35_code 69 = .ok (.aload_n 0, 1) := by decide +kernel
theorem d_MD_coordinate_70 : decode prog_6_method_35_code 70 = .ok (.iload_n 1, 1) := by decide +kernel
theorem d_MD_coordinate_71 : decode prog_6_method_35_code 71 = .ok (.invokevirtual 152, 3) := by decide +kernel
theorem d_MD_coordinate_74 : decode prog_6_method_35_code 74 = .ok (.aload_n 0, 1) := by decide +kernel
theorem d_MD_coordinate_75 : decode prog_6_method_35_code 75 = .ok (.getfield 145, 3) := by decide +kernel
theorem d_MD_coordinate_78 : decode prog_6_method_35_code 78 = .ok (.aload_n 0, 1) := by decide +kernel
theorem d_MD_coordinate_79 : decode prog_6_method_35_code 79 = .ok (.getfield 145, 3) := by decide +kernel
theorem d_MD_coordinate_82 : decode prog_6_method_35_code 82 = .ok (.iconst 1, 1) := by decide +kernel
theorem d_MD_coordinate_83 : decode prog_6_method_35_code 83 = .ok (.ishr, 1) := by decide +kernel
theorem d_MD_coordinate_84 : decode prog_6_method_35_code 84 = .ok (.ixor, 1) := by decide +kernel
theorem d_MD_coordinate_85 : decode prog_6_method_35_code 85 = .ok (.istore_n 2, 1) := by decide +kernel
theorem d_MD_coordinate_86 : decode prog_6_method_35_code 86 = .ok (.iconst 0, 1) := by decide +kernel
theorem d_MD_coordinate_87 : decode prog_6_method_35_code 87 = .ok (.istore_n 3, 1) := by decide +kernel
theorem d_MD_coordinate_88 : decode prog_6_method_35_code 88 = .ok (.iconst 1, 1) := by decide +kernel
theorem d_MD_coordinate_89 : decode prog_6_method_35_code 89 = .ok (.istore 4, 2) := by decide +kernel
theorem d_MD_coordinate_91 : decode prog_6_method_35_code 91 = .ok (.iload 4, 2) := by decide +kernel
theorem d_MD_coordinate_93 : decode prog_6_method_35_code 93 = .ok (.bipush 20, 2) := by decide +kernel
theorem d_MD_coordinate_95 : decode prog_6_method_35_code 95 = .ok (.if_icmp .gt 41, 3) := by decide +kernel
theorem d_MD_coordinate_98 : decode prog_6_method_35_code 98 = .ok (.iload_n 2, 1) := by decide +kernel
theorem d_MD_coordinate_99 : decode prog_6_method_35_code 99 = .ok (.iload 4, 2) := by decide +kernel
theorem d_MD_coordinate_101 : decode prog_6_method_35_code 101 = .ok (.iconst 1, 1) := by decide +kernel
theorem d_MD_coordinate_102 : decode prog_6_method_35_code 102 = .ok (.isub, 1) := by decide +kernel
theorem d_MD_coordinate_103 : decode prog_6_method_35_code 103 = .ok (.ishr, 1) := by decide +kernel
theorem d_MD_coordinate_104 : decode prog_6_method_35_code 104 = .ok (.iconst 1, 1) := by decide +kernel
theorem d_MD_coordinate_105 : decode prog_6_method_35_code 105 = .ok (.iand, 1) := by decide +kernel
theorem d_MD_coordinate_106 : decode prog_6_method_35_code 106 = .ok (.iconst 1, 1) := by decide +kernel
theorem d_MD_coordinate_107 : decode prog_6_method_35_code 107 = .ok (.if_icmp .ne 21, 3) := by decide +kernel
theorem d_MD_coordinate_110 : decode prog_6_method_35_code 110 = .ok (.iload_n 3, 1) := by decide +kernel
theorem d_MD_coordinate_111 : decode prog_6_method_35_code 111 = .ok (.aload_n 0, 1) := by decide +kernel
theorem d_MD_coordinate_112 : decode prog_6_method_35_code 112 = .ok (.getfield 26, 3) := by decide +kernel
theorem d_MD_coordinate_115 : decode prog_6_method_35_code 115 = .ok (.iload 4, 2) := by decide +kernel
theorem d_MD_coordinate_117 : decode prog_6_method_35_code 117 = .ok (.iaload, 1) := by decide +kernel
theorem d_MD_coordinate_118 : decode prog_6_method_35_code 118 = .ok (.bipush 32, 2) := by decide +kernel
theorem d_MD_coordinate_120 : decode prog_6_method_35_code 120 = .ok (.iload 4, 2) := by decide +kernel
theorem d_MD_coordinate_122 : decode prog_6_method_35_code 122 = .ok (.isub, 1) := by decide +kernel
theorem d_MD_coordinate_123 : decode prog_6_method_35_code 123 = .ok (.ishl, 1) := by decide +kernel
theorem d_MD_coordinate_124 : decode prog_6_method_35_code 124 = .ok (.ixor, 1) := by decide +kernel
theorem d_MD_coordinate_125 : decode prog_6_method_35_code 125 = .ok (.goto 4, 3) := by decide +kernel
theorem d_MD_coordinate_128 : decode prog_6_method_35_code 128 = .ok (.iload_n 3, 1) := by decide +kernel
theorem d_MD_coordinate_129 : decode prog_6_method_35_code 129 = .ok (.istore_n 3, 1) := by decide +kernel
theorem d_MD_coordinate_130 : decode prog_6_method_35_code 130 = .ok (.iinc 4 1, 3) := by decide +kernel
theorem d_MD_coordinate_133 : decode prog_6_method_35_code 133 = .ok (.goto (-42), 3) := by decide +kernel
theorem d_MD_coordinate_136 : decode prog_6_method_35_code 136 = .ok (.iload_n 3, 1) := by decide +kernel
theorem d_MD_coordinate_137 : decode prog_6_method_35_code 137 = .ok (.invokestatic 71, 3) := by decide +kernel
theorem d_MD_coordinate_140 : decode prog_6_method_35_code 140 = .ok (.lreturn, 1) := by decide +kernel
theorem d_MD_turned_0 : decode prog_6_method_34_code 0 = .ok (.lconst 0, 1) := by decide +kernel
theorem d_MD_turned_1 : decode prog_6_method_34_code 1 = .ok (.lstore_n 3, 1) := by decide +kernel
theorem d_MD_turned_2 : decode prog_6_method_34_code 2 = .ok (.aload_n 0, 1) := by decide +kernel
theorem d_MD_turned_3 : decode prog_6_method_34_code 3 = .ok (.getfield 145, 3) := by decide +kernel
theorem d_MD_turned_6 : decode prog_6_method_34_code 6 = .ok (.istore 5, 2) := by decide +kernel
theorem d_MD_turned_8 : decode prog_6_method_34_code 8 = .ok (.iconst 0, 1) := by decide +kernel
theorem d_MD_turned_9 : decode prog_6_method_34_code 9 = .ok (.istore 6, 2) := by decide +kernel
theorem d_MD_turned_11 : decode prog_6_method_34_code 11 = .ok (.iload 6, 2) := by decide +kernel
theorem d_MD_turned_13 : decode prog_6_method_34_code 13 = .ok (.iload_n 2, 1) := by decide +kernel
theorem d_MD_turned_14 : decode prog_6_method_34_code 14 = .ok (.if_icmp .ge 26, 3) := by decide +kernel
theorem d_MD_turned_17 : decode prog_6_method_34_code 17 = .ok (.lload_n 3, 1) := by decide +kernel
theorem d_MD_turned_18 : decode prog_6_method_34_code 18 = .ok (.iload_n 1, 1) := by decide +kernel
theorem d_MD_turned_19 : decode prog_6_method_34_code 19 = .ok (.i2l, 1) := by decide +kernel
theorem d_MD_turned_20 : decode prog_6_method_34_code 20 = .ok (.lmul, 1) := by decide +kernel
theorem d_MD_turned_21 : decode prog_6_method_34_code 21 = .ok (.iload 5, 2) := by decide +kernel
theorem d_MD_turned_23 : decode prog_6_method_34_code 23 = .ok (.iload_n 1, 1) := by decide +kernel
theorem d_MD_turned_24 : decode prog_6_method_34_code 24 = .ok (.irem, 1) := by decide +kernel
theorem d_MD_turned_25 : decode prog_6_method_34_code 25 = .ok (.i2l, 1) := by decide +kernel
theorem d_MD_turned_26 : decode prog_6_method_34_code 26 = .ok (.ladd, 1) := by decide +kernel
theorem d_MD_turned_27 : decode prog_6_method_34_code 27 = .ok (.lstore_n 3, 1) := by decide +kernel
theorem d_MD_turned_28 : decode prog_6_method_34_code 28 = .ok (.iload 5, 2) := by decide +kernel
theorem d_MD_turned_30 : decode prog_6_method_34_code 30 = .ok (.iload_n 1, 1) := by decide +kernel
theorem d_MD_turned_31 : decode prog_6_method_34_code 31 = .ok (.idiv, 1) := by decide +kernel
theorem d_MD_turned_32 : decode prog_6_method_34_code 32 = .ok (.istore 5, 2) := by decide +kernel
theorem d_MD_turned_34 : decode prog_6_method_34_code 34 = .ok (.iinc 6 1, 3) := by decide +kernel
theorem d_MD_turned_37 : decode prog_6_method_34_code 37 = .ok (.goto (-26), 3) := by decide +kernel
theorem d_MD_turned_40 : decode prog_6_method_34_code 40 = .ok (.lload_n 3, 1) := by decide +kernel
theorem d_MD_turned_41 : decode prog_6_method_34_code 41 = .ok (.lreturn, 1) := by decide +kernel
theorem d_MD_inner_0 : decode prog_6_method_33_code 0 = .ok (.iload_n 1, 1) := by decide +kernel
theorem d_MD_inner_1 : decode prog_6_method_33_code 1 = .ok (.iconst 1, 1) := by decide +kernel
theorem d_MD_inner_2 : decode prog_6_method_33_code 2 = .ok (.if_icmp .ne 7, 3) := by decide +kernel
theorem d_MD_inner_5 : decode prog_6_method_33_code 5 = .ok (.iconst 0, 1) := by decide +kernel
theorem d_MD_inner_6 : decode prog_6_method_33_code 6 = .ok (.goto 4, 3) := by decide +kernel
theorem d_MD_inner_9 : decode prog_6_method_33_code 9 = .ok (.iconst 1, 1) := by decide +kernel
theorem d_MD_inner_10 : decode prog_6_method_33_code 10 = .ok (.istore_n 2, 1) := by decide +kernel
theorem d_MD_inner_11 : decode prog_6_method_33_code 11 = .ok (.iconst 1, 1) := by decide +kernel
theorem d_MD_inner_12 : decode prog_6_method_33_code 12 = .ok (.istore_n 3, 1) := by decide +kernel
theorem d_MD_inner_13 : decode prog_6_method_33_code 13 = .ok (.iload_n 3, 1) := by decide +kernel
theorem d_MD_inner_14 : decode prog_6_method_33_code 14 = .ok (.bipush 20, 2) := by decide +kernel
theorem d_MD_inner_16 : decode prog_6_method_33_code 16 = .ok (.if_icmp .gt 125, 3) := by decide +kernel
theorem d_MD_inner_19 : decode prog_6_method_33_code 19 = .ok (.iload_n 3, 1) := by decide +kernel
theorem d_MD_inner_20 : decode prog_6_method_33_code 20 = .ok (.iload_n 1, 1) := by decide +kernel
theorem d_MD_inner_21 : decode prog_6_method_33_code 21 = .ok (.if_icmp .gt 22, 3) := by decide +kernel
theorem d_MD_inner_24 : decode prog_6_method_33_code 24 = .ok (.aload_n 0, 1) := by decide +kernel
theorem d_MD_inner_25 : decode prog_6_method_33_code 25 = .ok (.getfield 26, 3) := by decide +kernel
theorem d_MD_inner_28 : decode prog_6_method_33_code 28 = .ok (.iload_n 3, 1) := by decide +kernel
theorem d_MD_inner_29 : decode prog_6_method_33_code 29 = .ok (.iload_n 3, 1) := by decide +kernel
theorem d_MD_inner_30 : decode prog_6_method_33_code 30 = .ok (.iconst 2, 1) := by decide +kernel
theorem d_MD_inner_31 : decode prog_6_method_33_code 31 = .ok (.if_icmp .ne 7, 3) := by decide +kernel
theorem d_MD_inner_34 : decode prog_6_method_33_code 34 = .ok (.iconst 3, 1) := by decide +kernel
theorem d_MD_inner_35 : decode prog_6_method_33_code 35 = .ok (.goto 4, 3) := by decide +kernel
theorem d_MD_inner_38 : decode prog_6_method_33_code 38 = .ok (.iconst 1, 1) := by decide +kernel
theorem d_MD_inner_39 : decode prog_6_method_33_code 39 = .ok (.iastore, 1) := by decide +kernel
theorem d_MD_inner_40 : decode prog_6_method_33_code 40 = .ok (.goto 95, 3) := by decide +kernel
theorem d_MD_inner_43 : decode prog_6_method_33_code 43 = .ok (.aload_n 0, 1) := by decide +kernel
theorem d_MD_inner_44 : decode prog_6_method_33_code 44 = .ok (.getfield 26, 3) := by decide +kernel
theorem d_MD_inner_47 : decode prog_6_method_33_code 47 = .ok (.iload_n 3, 1) := by decide +kernel
theorem d_MD_inner_48 : decode prog_6_method_33_code 48 = .ok (.aload_n 0, 1) := by decide +kernel
theorem d_MD_inner_49 : decode prog_6_method_33_code 49 = .ok (.getfield 26, 3) := by decide +kernel
theorem d_MD_inner_52 : decode prog_6_method_33_code 52 = .ok (.iload_n 3, 1) := by decide +kernel
theorem d_MD_inner_53 : decode prog_6_method_33_code 53 = .ok (.iload_n 1, 1) := by decide +kernel
theorem d_MD_inner_54 : decode prog_6_method_33_code 54 = .ok (.isub, 1) := by decide +kernel
theorem d_MD_inner_55 : decode prog_6_method_33_code 55 = .ok (.iaload, 1) := by decide +kernel
theorem d_MD_inner_56 : decode prog_6_method_33_code 56 = .ok (.aload_n 0, 1) := by decide +kernel
theorem d_MD_inner_57 : decode prog_6_method_33_code 57 = .ok (.getfield 26, 3) := by decide +kernel
theorem d_MD_inner_60 : decode prog_6_method_33_code 60 = .ok (.iload_n 3, 1) := by decide +kernel
theorem d_MD_inner_61 : decode prog_6_method_33_code 61 = .ok (.iload_n 1, 1) := by decide +kernel
theorem d_MD_inner_62 : decode prog_6_method_33_code 62 = .ok (.isub, 1) := by decide +kernel
theorem d_MD_inner_63 : decode prog_6_method_33_code 63 = .ok (.iaload, 1) := by decide +kernel
theorem d_MD_inner_64 : decode prog_6_method_33_code 64 = .ok (.iload_n 1, 1) := by decide +kernel
theorem d_MD_inner_65 : decode prog_6_method_33_code 65 = .ok (.ishl, 1) := by decide +kernel
theorem d_MD_inner_66 : decode prog_6_method_33_code 66 = .ok (.ixor, 1) := by decide +kernel
theorem d_MD_inner_67 : decode prog_6_method_33_code 67 = .ok (.iastore, 1) := by decide +kernel
theorem d_MD_inner_68 : decode prog_6_method_33_code 68 = .ok (.iconst 1, 1) := by decide +kernel
theorem d_MD_inner_69 : decode prog_6_method_33_code 69 = .ok (.istore 4, 2) := by decide +kernel
theorem d_MD_inner_71 : decode prog_6_method_33_code 71 = .ok (.iload 4, 2) := by decide +kernel
theorem d_MD_inner_73 : decode prog_6_method_33_code 73 = .ok (.iload_n 1, 1) := by decide +kernel
theorem d_MD_inner_74 : decode prog_6_method_33_code 74 = .ok (.if_icmp .ge 61, 3) := by decide +kernel
theorem d_MD_inner_77 : decode prog_6_method_33_code 77 = .ok (.iload_n 2, 1) := by decide +kernel
theorem d_MD_inner_78 : decode prog_6_method_33_code 78 = .ok (.iload_n 1, 1) := by decide +kernel
theorem d_MD_inner_79 : decode prog_6_method_33_code 79 = .ok (.iconst 1, 1) := by decide +kernel
theorem d_MD_inner_80 : decode prog_6_method_33_code 80 = .ok (.isub, 1) := by decide +kernel
theorem d_MD_inner_81 : decode prog_6_method_33_code 81 = .ok (.iload 4, 2) := by decide +kernel
theorem d_MD_inner_83 : decode prog_6_method_33_code 83 = .ok (.isub, 1) := by decide +kernel
theorem d_MD_inner_84 : decode prog_6_method_33_code 84 = .ok (.ishr, 1) := by decide +kernel
theorem d_MD_inner_85 : decode prog_6_method_33_code 85 = .ok (.iconst 1, 1) := by decide +kernel
theorem d_MD_inner_86 : decode prog_6_method_33_code 86 = .ok (.iand, 1) := by decide +kernel
theorem d_MD_inner_87 : decode prog_6_method_33_code 87 = .ok (.istore 5, 2) := by decide +kernel
theorem d_MD_inner_89 : decode prog_6_method_33_code 89 = .ok (.aload_n 0, 1) := by decide +kernel
theorem d_MD_inner_90 : decode prog_6_method_33_code 90 = .ok (.getfield 26, 3) := by decide +kernel
theorem d_MD_inner_93 : decode prog_6_method_33_code 93 = .ok (.iload_n 3, 1) := by decide +kernel
theorem d_MD_inner_94 : decode prog_6_method_33_code 94 = .ok (.iload 5, 2) := by decide +kernel
theorem d_MD_inner_96 : decode prog_6_method_33_code 96 = .ok (.iconst 1, 1) := by decide +kernel
theorem d_MD_inner_97 : decode prog_6_method_33_code 97 = .ok (.if_icmp .ne 25, 3) := by decide +kernel
theorem d_MD_inner_100 : decode prog_6_method_33_code 100 = .ok (.aload_n 0, 1) := by decide +kernel
theorem d_MD_inner_101 : decode prog_6_method_33_code 101 = .ok (.getfield 26, 3) := by decide +kernel
theorem d_MD_inner_104 : decode prog_6_method_33_code 104 = .ok (.iload_n 3, 1) := by decide +kernel
theorem d_MD_inner_105 : decode prog_6_method_33_code 105 = .ok (.iaload, 1) := by decide +kernel
theorem d_MD_inner_106 : decode prog_6_method_33_code 106 = .ok (.aload_n 0, 1) := by decide +kernel
theorem d_MD_inner_107 : decode prog_6_method_33_code 107 = .ok (.getfield 26, 3) := by decide +kernel
theorem d_MD_inner_110 : decode prog_6_method_33_code 110 = .ok (.iload_n 3, 1) := by decide +kernel
theorem d_MD_inner_111 : decode prog_6_method_33_code 111 = .ok (.iload 4, 2) := by decide +kernel
theorem d_MD_inner_113 : decode prog_6_method_33_code 113 = .ok (.isub, 1) := by decide +kernel
theorem d_MD_inner_114 : decode prog_6_method_33_code 114 = .ok (.iaload, 1) := by decide +kernel
theorem d_MD_inner_115 : decode prog_6_method_33_code 115 = .ok (.iload 4, 2) := by decide +kernel
theorem d_MD_inner_117 : decode prog_6_method_33_code 117 = .ok (.ishl, 1) := by decide +kernel
theorem d_MD_inner_118 : decode prog_6_method_33_code 118 = .ok (.ixor, 1) := by decide +kernel
theorem d_MD_inner_119 : decode prog_6_method_33_code 119 = .ok (.goto 9, 3) := by decide +kernel
theorem d_MD_inner_122 : decode prog_6_method_33_code 122 = .ok (.aload_n 0, 1) := by decide +kernel
theorem d_MD_inner_123 : decode prog_6_method_33_code 123 = .ok (.getfield 26, 3) := by decide +kernel
theorem d_MD_inner_126 : decode prog_6_method_33_code 126 = .ok (.iload_n 3, 1) := by decide +kernel
theorem d_MD_inner_127 : decode prog_6_method_33_code 127 = .ok (.iaload, 1) := by decide +kernel
theorem d_MD_inner_128 : decode prog_6_method_33_code 128 = .ok (.iastore, 1) := by decide +kernel
theorem d_MD_inner_129 : decode prog_6_method_33_code 129 = .ok (.iinc 4 1, 3) := by decide +kernel
theorem d_MD_inner_132 : decode prog_6_method_33_code 132 = .ok (.goto (-61), 3) := by decide +kernel
theorem d_MD_inner_135 : decode prog_6_method_33_code 135 = .ok (.iinc 3 1, 3) := by decide +kernel
theorem d_MD_inner_138 : decode prog_6_method_33_code 138 = .ok (.goto (-125), 3) := by decide +kernel
theorem d_MD_inner_141 : decode prog_6_method_33_code 141 = .ok (.return_, 1) := by decide +kernel
theorem d_MD_weigh_0 : decode prog_6_method_36_code 0 = .ok (.iload_n 1, 1) := by decide +kernel
theorem d_MD_weigh_1 : decode prog_6_method_36_code 1 = .ok (.ifCond .lt 19, 3) := by decide +kernel
theorem d_MD_weigh_4 : decode prog_6_method_36_code 4 = .ok (.iload_n 1, 1) := by decide +kernel
theorem d_MD_weigh_5 : decode prog_6_method_36_code 5 = .ok (.bipush 15, 2) := by decide +kernel
theorem d_MD_weigh_7 : decode prog_6_method_36_code 7 = .ok (.if_icmp .gt 13, 3) := by decide +kernel
theorem d_MD_weigh_10 : decode prog_6_method_36_code 10 = .ok (.iload_n 2, 1) := by decide +kernel
theorem d_MD_weigh_11 : decode prog_6_method_36_code 11 = .ok (.ifCond .lt 9, 3) := by decide +kernel
theorem d_MD_weigh_14 : decode prog_6_method_36_code 14 = .ok (.iload_n 2, 1) := by decide +kernel
theorem d_MD_weigh_15 : decode prog_6_method_36_code 15 = .ok (.ldc 155, 2) := by decide +kernel
theorem d_MD_weigh_17 : decode prog_6_method_36_code 17 = .ok (.if_icmp .le 5, 3) := by decide +kernel
theorem d_MD_weigh_20 : decode prog_6_method_36_code 20 = .ok (.iconst 0, 1) := by decide +kernel
theorem d_MD_weigh_21 : decode prog_6_method_36_code 21 = .ok (.ireturn, 1) := by decide +kernel
theorem d_MD_weigh_22 : decode prog_6_method_36_code 22 = .ok (.aload_n 0, 1) := by decide +kernel
theorem d_MD_weigh_23 : decode prog_6_method_36_code 23 = .ok (.getfield 29, 3) := by decide +kernel
theorem d_MD_weigh_26 : decode prog_6_method_36_code 26 = .ok (.iload_n 1, 1) := by decide +kernel
theorem d_MD_weigh_27 : decode prog_6_method_36_code 27 = .ok (.iload_n 2, 1) := by decide +kernel
theorem d_MD_weigh_28 : decode prog_6_method_36_code 28 = .ok (.iastore, 1) := by decide +kernel
theorem d_MD_weigh_29 : decode prog_6_method_36_code 29 = .ok (.iconst 1, 1) := by decide +kernel
theorem d_MD_weigh_30 : decode prog_6_method_36_code 30 = .ok (.ireturn, 1) := by decide +kernel
theorem d_MD_pick_0 : decode prog_6_method_37_code 0 = .ok (.iconst 0, 1) := by decide +kernel
theorem d_MD_pick_1 : decode prog_6_method_37_code 1 = .ok (.istore_n 2, 1) := by decide +kernel
theorem d_MD_pick_2 : decode prog_6_method_37_code 2 = .ok (.iconst 0, 1) := by decide +kernel
theorem d_MD_pick_3 : decode prog_6_method_37_code 3 = .ok (.istore_n 3, 1) := by decide +kernel
theorem d_MD_pick_4 : decode prog_6_method_37_code 4 = .ok (.iload_n 3, 1) := by decide +kernel
theorem d_MD_pick_5 : decode prog_6_method_37_code 5 = .ok (.bipush 16, 2) := by decide +kernel
theorem d_MD_pick_7 : decode prog_6_method_37_code 7 = .ok (.if_icmp .ge 18, 3) := by decide +kernel
theorem d_MD_pick_10 : decode prog_6_method_37_code 10 = .ok (.iload_n 2, 1) := by decide +kernel
theorem d_MD_pick_11 : decode prog_6_method_37_code 11 = .ok (.aload_n 0, 1) := by decide +kernel
theorem d_MD_pick_12 : decode prog_6_method_37_code 12 = .ok (.getfield 29, 3) := by decide +kernel
theorem d_MD_pick_15 : decode prog_6_method_37_code 15 = .ok (.iload_n 3, 1) := by decide +kernel
theorem d_MD_pick_16 : decode prog_6_method_37_code 16 = .ok (.iaload, 1) := by decide +kernel
theorem d_MD_pick_17 : decode prog_6_method_37_code 17 = .ok (.iadd, 1) := by decide +kernel
theorem d_MD_pick_18 : decode prog_6_method_37_code 18 = .ok (.istore_n 2, 1) := by decide +kernel
theorem d_MD_pick_19 : decode prog_6_method_37_code 19 = .ok (.iinc 3 1, 3) := by decide +kernel
theorem d_MD_pick_22 : decode prog_6_method_37_code 22 = .ok (.goto (-18), 3) := by decide +kernel
theorem d_MD_pick_25 : decode prog_6_method_37_code 25 = .ok (.aload_n 0, 1) := by decide +kernel
theorem d_MD_pick_26 : decode prog_6_method_37_code 26 = .ok (.iload_n 1, 1) := by decide +kernel
theorem d_MD_pick_27 : decode prog_6_method_37_code 27 = .ok (.invokevirtual 109, 3) := by decide +kernel
theorem d_MD_pick_30 : decode prog_6_method_37_code 30 = .ok (.ifCond .eq 7, 3) := by decide +kernel
theorem d_MD_pick_33 : decode prog_6_method_37_code 33 = .ok (.iload_n 2, 1) := by decide +kernel
theorem d_MD_pick_34 : decode prog_6_method_37_code 34 = .ok (.ifCond .ne 5, 3) := by decide +kernel
theorem d_MD_pick_37 : decode prog_6_method_37_code 37 = .ok (.iconst (-1), 1) := by decide +kernel
theorem d_MD_pick_38 : decode prog_6_method_37_code 38 = .ok (.ireturn, 1) := by decide +kernel
theorem d_MD_pick_39 : decode prog_6_method_37_code 39 = .ok (.aload_n 0, 1) := by decide +kernel
theorem d_MD_pick_40 : decode prog_6_method_37_code 40 = .ok (.iload_n 1, 1) := by decide +kernel
theorem d_MD_pick_41 : decode prog_6_method_37_code 41 = .ok (.iload_n 2, 1) := by decide +kernel
theorem d_MD_pick_42 : decode prog_6_method_37_code 42 = .ok (.invokevirtual 120, 3) := by decide +kernel
theorem d_MD_pick_45 : decode prog_6_method_37_code 45 = .ok (.istore_n 3, 1) := by decide +kernel
theorem d_MD_pick_46 : decode prog_6_method_37_code 46 = .ok (.iconst 0, 1) := by decide +kernel
theorem d_MD_pick_47 : decode prog_6_method_37_code 47 = .ok (.istore 4, 2) := by decide +kernel
theorem d_MD_pick_49 : decode prog_6_method_37_code 49 = .ok (.iload 4, 2) := by decide +kernel
theorem d_MD_pick_51 : decode prog_6_method_37_code 51 = .ok (.bipush 16, 2) := by decide +kernel
theorem d_MD_pick_53 : decode prog_6_method_37_code 53 = .ok (.if_icmp .ge 33, 3) := by decide +kernel
theorem d_MD_pick_56 : decode prog_6_method_37_code 56 = .ok (.iload_n 3, 1) := by decide +kernel
theorem d_MD_pick_57 : decode prog_6_method_37_code 57 = .ok (.aload_n 0, 1) := by decide +kernel
theorem d_MD_pick_58 : decode prog_6_method_37_code 58 = .ok (.getfield 29, 3) := by decide +kernel
theorem d_MD_pick_61 : decode prog_6_method_37_code 61 = .ok (.iload 4, 2) := by decide +kernel
theorem d_MD_pick_63 : decode prog_6_method_37_code 63 = .ok (.iaload, 1) := by decide +kernel
theorem d_MD_pick_64 : decode prog_6_method_37_code 64 = .ok (.if_icmp .ge 6, 3) := by decide +kernel
theorem d_MD_pick_67 : decode prog_6_method_37_code 67 = .ok (.iload 4, 2) := by decide +kernel
theorem d_MD_pick_69 : decode prog_6_method_37_code 69 = .ok (.ireturn, 1) := by decide +kernel
theorem d_MD_pick_70 : decode prog_6_method_37_code 70 = .ok (.iload_n 3, 1) := by decide +kernel
theorem d_MD_pick_71 : decode prog_6_method_37_code 71 = .ok (.aload_n 0, 1) := by decide +kernel
theorem d_MD_pick_72 : decode prog_6_method_37_code 72 = .ok (.getfield 29, 3) := by decide +kernel
theorem d_MD_pick_75 : decode prog_6_method_37_code 75 = .ok (.iload 4, 2) := by decide +kernel
theorem d_MD_pick_77 : decode prog_6_method_37_code 77 = .ok (.iaload, 1) := by decide +kernel
theorem d_MD_pick_78 : decode prog_6_method_37_code 78 = .ok (.isub, 1) := by decide +kernel
theorem d_MD_pick_79 : decode prog_6_method_37_code 79 = .ok (.istore_n 3, 1) := by decide +kernel
theorem d_MD_pick_80 : decode prog_6_method_37_code 80 = .ok (.iinc 4 1, 3) := by decide +kernel
theorem d_MD_pick_83 : decode prog_6_method_37_code 83 = .ok (.goto (-34), 3) := by decide +kernel
theorem d_MD_pick_86 : decode prog_6_method_37_code 86 = .ok (.iconst (-1), 1) := by decide +kernel
theorem d_MD_pick_87 : decode prog_6_method_37_code 87 = .ok (.ireturn, 1) := by decide +kernel
theorem d_MD_shuffle_0 : decode prog_6_method_38_code 0 = .ok (.aload_n 0, 1) := by decide +kernel
theorem d_MD_shuffle_1 : decode prog_6_method_38_code 1 = .ok (.iload_n 1, 1) := by decide +kernel
theorem d_MD_shuffle_2 : decode prog_6_method_38_code 2 = .ok (.invokevirtual 109, 3) := by decide +kernel
theorem d_MD_shuffle_5 : decode prog_6_method_38_code 5 = .ok (.ifCond .ne 5, 3) := by decide +kernel
theorem d_MD_shuffle_8 : decode prog_6_method_38_code 8 = .ok (.iconst 0, 1) := by decide +kernel
theorem d_MD_shuffle_9 : decode prog_6_method_38_code 9 = .ok (.ireturn, 1) := by decide +kernel
theorem d_MD_shuffle_10 : decode prog_6_method_38_code 10 = .ok (.bipush 15, 2) := by decide +kernel
theorem d_MD_shuffle_12 : decode prog_6_method_38_code 12 = .ok (.istore_n 2, 1) := by decide +kernel
theorem d_MD_shuffle_13 : decode prog_6_method_38_code 13 = .ok (.iload_n 2, 1) := by decide +kernel
theorem d_MD_shuffle_14 : decode prog_6_method_38_code 14 = .ok (.iconst 1, 1) := by decide +kernel
theorem d_MD_shuffle_15 : decode prog_6_method_38_code 15 = .ok (.if_icmp .lt 46, 3) := by decide +kernel
theorem d_MD_shuffle_18 : decode prog_6_method_38_code 18 = .ok (.aload_n 0, 1) := by decide +kernel
theorem d_MD_shuffle_19 : decode prog_6_method_38_code 19 = .ok (.iload_n 1, 1) := by decide +kernel
theorem d_MD_shuffle_20 : decode prog_6_method_38_code 20 = .ok (.iload_n 2, 1) := by decide +kernel
theorem d_MD_shuffle_21 : decode prog_6_method_38_code 21 = .ok (.iconst 1, 1) := by decide +kernel
theorem d_MD_shuffle_22 : decode prog_6_method_38_code 22 = .ok (.iadd, 1) := by decide +kernel
theorem d_MD_shuffle_23 : decode prog_6_method_38_code 23 = .ok (.invokevirtual 120, 3) := by decide +kernel
theorem d_MD_shuffle_26 : decode prog_6_method_38_code 26 = .ok (.istore_n 3, 1) := by decide +kernel
theorem d_MD_shuffle_27 : decode prog_6_method_38_code 27 = .ok (.aload_n 0, 1) := by decide +kernel
theorem d_MD_shuffle_28 : decode prog_6_method_38_code 28 = .ok (.getfield 32, 3) := by decide +kernel
theorem d_MD_shuffle_31 : decode prog_6_method_38_code 31 = .ok (.iload_n 2, 1) := by decide +kernel
theorem d_MD_shuffle_32 : decode prog_6_method_38_code 32 = .ok (.iaload, 1) := by decide +kernel
theorem d_MD_shuffle_33 : decode prog_6_method_38_code 33 = .ok (.istore 4, 2) := by decide +kernel
theorem d_MD_shuffle_35 : decode prog_6_method_38_code 35 = .ok (.aload_n 0, 1) := by decide +kernel
theorem d_MD_shuffle_36 : decode prog_6_method_38_code 36 = .ok (.getfield 32, 3) := by decide +kernel
theorem d_MD_shuffle_39 : decode prog_6_method_38_code 39 = .ok (.iload_n 2, 1) := by decide +kernel
theorem d_MD_shuffle_40 : decode prog_6_method_38_code 40 = .ok (.aload_n 0, 1) := by decide +kernel
theorem d_MD_shuffle_41 : decode prog_6_method_38_code 41 = .ok (.getfield 32, 3) := by decide +kernel
theorem d_MD_shuffle_44 : decode prog_6_method_38_code 44 = .ok (.iload_n 3, 1) := by decide +kernel
theorem d_MD_shuffle_45 : decode prog_6_method_38_code 45 = .ok (.iaload, 1) := by decide +kernel
theorem d_MD_shuffle_46 : decode prog_6_method_38_code 46 = .ok (.iastore, 1) := by decide +kernel
theorem d_MD_shuffle_47 : decode prog_6_method_38_code 47 = .ok (.aload_n 0, 1) := by decide +kernel
theorem d_MD_shuffle_48 : decode prog_6_method_38_code 48 = .ok (.getfield 32, 3) := by decide +kernel
theorem d_MD_shuffle_51 : decode prog_6_method_38_code 51 = .ok (.iload_n 3, 1) := by decide +kernel
theorem d_MD_shuffle_52 : decode prog_6_method_38_code 52 = .ok (.iload 4, 2) := by decide +kernel
theorem d_MD_shuffle_54 : decode prog_6_method_38_code 54 = .ok (.iastore, 1) := by decide +kernel
theorem d_MD_shuffle_55 : decode prog_6_method_38_code 55 = .ok (.iinc 2 (-1), 3) := by decide +kernel
theorem d_MD_shuffle_58 : decode prog_6_method_38_code 58 = .ok (.goto (-45), 3) := by decide +kernel
theorem d_MD_shuffle_61 : decode prog_6_method_38_code 61 = .ok (.iconst 1, 1) := by decide +kernel
theorem d_MD_shuffle_62 : decode prog_6_method_38_code 62 = .ok (.ireturn, 1) := by decide +kernel
theorem d_MD_card_0 : decode prog_6_method_39_code 0 = .ok (.iload_n 1, 1) := by decide +kernel
theorem d_MD_card_1 : decode prog_6_method_39_code 1 = .ok (.ifCond .lt 9, 3) := by decide +kernel
theorem d_MD_card_4 : decode prog_6_method_39_code 4 = .ok (.iload_n 1, 1) := by decide +kernel
theorem d_MD_card_5 : decode prog_6_method_39_code 5 = .ok (.bipush 15, 2) := by decide +kernel
theorem d_MD_card_7 : decode prog_6_method_39_code 7 = .ok (.if_icmp .le 7, 3) := by decide +kernel
theorem d_MD_card_10 : decode prog_6_method_39_code 10 = .ok (.iconst (-1), 1) := by decide +kernel
theorem d_MD_card_11 : decode prog_6_method_39_code 11 = .ok (.goto 9, 3) := by decide +kernel
theorem d_MD_card_14 : decode prog_6_method_39_code 14 = .ok (.aload_n 0, 1) := by decide +kernel
theorem d_MD_card_15 : decode prog_6_method_39_code 15 = .ok (.getfield 32, 3) := by decide +kernel
theorem d_MD_card_18 : decode prog_6_method_39_code 18 = .ok (.iload_n 1, 1) := by decide +kernel
theorem d_MD_card_19 : decode prog_6_method_39_code 19 = .ok (.iaload, 1) := by decide +kernel
theorem d_MD_card_20 : decode prog_6_method_39_code 20 = .ok (.ireturn, 1) := by decide +kernel
