/-! Decode rows, printed by wip/whole/names.py. -/
theorem d_MD_init_0 : decode prog_6_method_1_code 0 = .ok (.aload_n 0, 1) := by decide +kernel
theorem d_MD_init_1 : decode prog_6_method_1_code 1 = .ok (.invokespecial 1, 3) := by decide +kernel
theorem d_MD_init_4 : decode prog_6_method_1_code 4 = .ok (.aload_n 0, 1) := by decide +kernel
theorem d_MD_init_5 : decode prog_6_method_1_code 5 = .ok (.bipush 8, 2) := by decide +kernel
theorem d_MD_init_7 : decode prog_6_method_1_code 7 = .ok (.newarray .int, 2) := by decide +kernel
theorem d_MD_init_9 : decode prog_6_method_1_code 9 = .ok (.putfield 7, 3) := by decide +kernel
theorem d_MD_init_12 : decode prog_6_method_1_code 12 = .ok (.aload_n 0, 1) := by decide +kernel
theorem d_MD_init_13 : decode prog_6_method_1_code 13 = .ok (.bipush 8, 2) := by decide +kernel
theorem d_MD_init_15 : decode prog_6_method_1_code 15 = .ok (.newarray .long, 2) := by decide +kernel
theorem d_MD_init_17 : decode prog_6_method_1_code 17 = .ok (.putfield 13, 3) := by decide +kernel
theorem d_MD_init_20 : decode prog_6_method_1_code 20 = .ok (.aload_n 0, 1) := by decide +kernel
theorem d_MD_init_21 : decode prog_6_method_1_code 21 = .ok (.bipush 8, 2) := by decide +kernel
theorem d_MD_init_23 : decode prog_6_method_1_code 23 = .ok (.newarray .long, 2) := by decide +kernel
theorem d_MD_init_25 : decode prog_6_method_1_code 25 = .ok (.putfield 17, 3) := by decide +kernel
theorem d_MD_init_28 : decode prog_6_method_1_code 28 = .ok (.aload_n 0, 1) := by decide +kernel
theorem d_MD_init_29 : decode prog_6_method_1_code 29 = .ok (.bipush 6, 2) := by decide +kernel
theorem d_MD_init_31 : decode prog_6_method_1_code 31 = .ok (.newarray .int, 2) := by decide +kernel
theorem d_MD_init_33 : decode prog_6_method_1_code 33 = .ok (.putfield 20, 3) := by decide +kernel
theorem d_MD_init_36 : decode prog_6_method_1_code 36 = .ok (.aload_n 0, 1) := by decide +kernel
theorem d_MD_init_37 : decode prog_6_method_1_code 37 = .ok (.bipush 36, 2) := by decide +kernel
theorem d_MD_init_39 : decode prog_6_method_1_code 39 = .ok (.newarray .int, 2) := by decide +kernel
theorem d_MD_init_41 : decode prog_6_method_1_code 41 = .ok (.putfield 23, 3) := by decide +kernel
theorem d_MD_init_44 : decode prog_6_method_1_code 44 = .ok (.aload_n 0, 1) := by decide +kernel
theorem d_MD_init_45 : decode prog_6_method_1_code 45 = .ok (.bipush 24, 2) := by decide +kernel
theorem d_MD_init_47 : decode prog_6_method_1_code 47 = .ok (.newarray .int, 2) := by decide +kernel
theorem d_MD_init_49 : decode prog_6_method_1_code 49 = .ok (.putfield 26, 3) := by decide +kernel
theorem d_MD_init_52 : decode prog_6_method_1_code 52 = .ok (.aload_n 0, 1) := by decide +kernel
theorem d_MD_init_53 : decode prog_6_method_1_code 53 = .ok (.bipush 16, 2) := by decide +kernel
theorem d_MD_init_55 : decode prog_6_method_1_code 55 = .ok (.newarray .int, 2) := by decide +kernel
theorem d_MD_init_57 : decode prog_6_method_1_code 57 = .ok (.putfield 29, 3) := by decide +kernel
theorem d_MD_init_60 : decode prog_6_method_1_code 60 = .ok (.aload_n 0, 1) := by decide +kernel
theorem d_MD_init_61 : decode prog_6_method_1_code 61 = .ok (.bipush 16, 2) := by decide +kernel
theorem d_MD_init_63 : decode prog_6_method_1_code 63 = .ok (.newarray .int, 2) := by decide +kernel
theorem d_MD_init_65 : decode prog_6_method_1_code 65 = .ok (.putfield 32, 3) := by decide +kernel
theorem d_MD_init_68 : decode prog_6_method_1_code 68 = .ok (.iconst 0, 1) := by decide +kernel
theorem d_MD_init_69 : decode prog_6_method_1_code 69 = .ok (.istore_n 1, 1) := by decide +kernel
theorem d_MD_init_70 : decode prog_6_method_1_code 70 = .ok (.iload_n 1, 1) := by decide +kernel
theorem d_MD_init_71 : decode prog_6_method_1_code 71 = .ok (.bipush 8, 2) := by decide +kernel
theorem d_MD_init_73 : decode prog_6_method_1_code 73 = .ok (.if_icmp .ge 16, 3) := by decide +kernel
theorem d_MD_init_76 : decode prog_6_method_1_code 76 = .ok (.aload_n 0, 1) := by decide +kernel
theorem d_MD_init_77 : decode prog_6_method_1_code 77 = .ok (.getfield 7, 3) := by decide +kernel
theorem d_MD_init_80 : decode prog_6_method_1_code 80 = .ok (.iload_n 1, 1) := by decide +kernel
theorem d_MD_init_81 : decode prog_6_method_1_code 81 = .ok (.iconst (-1), 1) := by decide +kernel
theorem d_MD_init_82 : decode prog_6_method_1_code 82 = .ok (.iastore, 1) := by decide +kernel
theorem d_MD_init_83 : decode prog_6_method_1_code 83 = .ok (.iinc 1 1, 3) := by decide +kernel
theorem d_MD_init_86 : decode prog_6_method_1_code 86 = .ok (.goto (-16), 3) := by decide +kernel
theorem d_MD_init_89 : decode prog_6_method_1_code 89 = .ok (.iconst 0, 1) := by decide +kernel
theorem d_MD_init_90 : decode prog_6_method_1_code 90 = .ok (.istore_n 1, 1) := by decide +kernel
theorem d_MD_init_91 : decode prog_6_method_1_code 91 = .ok (.iload_n 1, 1) := by decide +kernel
theorem d_MD_init_92 : decode prog_6_method_1_code 92 = .ok (.bipush 16, 2) := by decide +kernel
theorem d_MD_init_94 : decode prog_6_method_1_code 94 = .ok (.if_icmp .ge 16, 3) := by decide +kernel
theorem d_MD_init_97 : decode prog_6_method_1_code 97 = .ok (.aload_n 0, 1) := by decide +kernel
theorem d_MD_init_98 : decode prog_6_method_1_code 98 = .ok (.getfield 32, 3) := by decide +kernel
theorem d_MD_init_101 : decode prog_6_method_1_code 101 = .ok (.iload_n 1, 1) := by decide +kernel
theorem d_MD_init_102 : decode prog_6_method_1_code 102 = .ok (.iload_n 1, 1) := by decide +kernel
theorem d_MD_init_103 : decode prog_6_method_1_code 103 = .ok (.iastore, 1) := by decide +kernel
theorem d_MD_init_104 : decode prog_6_method_1_code 104 = .ok (.iinc 1 1, 3) := by decide +kernel
theorem d_MD_init_107 : decode prog_6_method_1_code 107 = .ok (.goto (-16), 3) := by decide +kernel
theorem d_MD_init_110 : decode prog_6_method_1_code 110 = .ok (.return_, 1) := by decide +kernel
theorem d_MD_make_0 : decode prog_6_method_12_code 0 = .ok (.aload_n 0, 1) := by decide +kernel
theorem d_MD_make_1 : decode prog_6_method_12_code 1 = .ok (.invokevirtual 97, 3) := by decide +kernel
theorem d_MD_make_4 : decode prog_6_method_12_code 4 = .ok (.istore 4, 2) := by decide +kernel
theorem d_MD_make_6 : decode prog_6_method_12_code 6 = .ok (.iload_n 1, 1) := by decide +kernel
theorem d_MD_make_7 : decode prog_6_method_12_code 7 = .ok (.ifCond .lt 13, 3) := by decide +kernel
theorem d_MD_make_10 : decode prog_6_method_12_code 10 = .ok (.iload_n 1, 1) := by decide +kernel
theorem d_MD_make_11 : decode prog_6_method_12_code 11 = .ok (.iconst 3, 1) := by decide +kernel
theorem d_MD_make_12 : decode prog_6_method_12_code 12 = .ok (.if_icmp .gt 8, 3) := by decide +kernel
theorem d_MD_make_15 : decode prog_6_method_12_code 15 = .ok (.iload 4, 2) := by decide +kernel
theorem d_MD_make_17 : decode prog_6_method_12_code 17 = .ok (.ifCond .ge 5, 3) := by decide +kernel
theorem d_MD_make_20 : decode prog_6_method_12_code 20 = .ok (.iconst (-1), 1) := by decide +kernel
theorem d_MD_make_21 : decode prog_6_method_12_code 21 = .ok (.ireturn, 1) := by decide +kernel
theorem d_MD_make_22 : decode prog_6_method_12_code 22 = .ok (.aload_n 0, 1) := by decide +kernel
theorem d_MD_make_23 : decode prog_6_method_12_code 23 = .ok (.iload_n 1, 1) := by decide +kernel
theorem d_MD_make_24 : decode prog_6_method_12_code 24 = .ok (.putfield 90, 3) := by decide +kernel
theorem d_MD_make_27 : decode prog_6_method_12_code 27 = .ok (.aload_n 0, 1) := by decide +kernel
theorem d_MD_make_28 : decode prog_6_method_12_code 28 = .ok (.iload_n 2, 1) := by decide +kernel
theorem d_MD_make_29 : decode prog_6_method_12_code 29 = .ok (.i2l, 1) := by decide +kernel
theorem d_MD_make_30 : decode prog_6_method_12_code 30 = .ok (.putfield 84, 3) := by decide +kernel
theorem d_MD_make_33 : decode prog_6_method_12_code 33 = .ok (.aload_n 0, 1) := by decide +kernel
theorem d_MD_make_34 : decode prog_6_method_12_code 34 = .ok (.iload_n 1, 1) := by decide +kernel
theorem d_MD_make_35 : decode prog_6_method_12_code 35 = .ok (.iconst 2, 1) := by decide +kernel
theorem d_MD_make_36 : decode prog_6_method_12_code 36 = .ok (.if_icmp .ne 10, 3) := by decide +kernel
theorem d_MD_make_39 : decode prog_6_method_12_code 39 = .ok (.iload_n 3, 1) := by decide +kernel
theorem d_MD_make_40 : decode prog_6_method_12_code 40 = .ok (.invokestatic 71, 3) := by decide +kernel
theorem d_MD_make_43 : decode prog_6_method_12_code 43 = .ok (.goto 5, 3) := by decide +kernel
theorem d_MD_make_46 : decode prog_6_method_12_code 46 = .ok (.iload_n 3, 1) := by decide +kernel
theorem d_MD_make_47 : decode prog_6_method_12_code 47 = .ok (.i2l, 1) := by decide +kernel
theorem d_MD_make_48 : decode prog_6_method_12_code 48 = .ok (.putfield 87, 3) := by decide +kernel
theorem d_MD_make_51 : decode prog_6_method_12_code 51 = .ok (.iload_n 1, 1) := by decide +kernel
theorem d_MD_make_52 : decode prog_6_method_12_code 52 = .ok (.ifCond .ne 32, 3) := by decide +kernel
theorem d_MD_make_55 : decode prog_6_method_12_code 55 = .ok (.aload_n 0, 1) := by decide +kernel
theorem d_MD_make_56 : decode prog_6_method_12_code 56 = .ok (.iload_n 2, 1) := by decide +kernel
theorem d_MD_make_57 : decode prog_6_method_12_code 57 = .ok (.i2l, 1) := by decide +kernel
theorem d_MD_make_58 : decode prog_6_method_12_code 58 = .ok (.ldc2_w 35, 3) := by decide +kernel
theorem d_MD_make_61 : decode prog_6_method_12_code 61 = .ok (.lmul, 1) := by decide +kernel
theorem d_MD_make_62 : decode prog_6_method_12_code 62 = .ok (.iload_n 3, 1) := by decide +kernel
theorem d_MD_make_63 : decode prog_6_method_12_code 63 = .ok (.invokestatic 71, 3) := by decide +kernel
theorem d_MD_make_66 : decode prog_6_method_12_code 66 = .ok (.ladd, 1) := by decide +kernel
theorem d_MD_make_67 : decode prog_6_method_12_code 67 = .ok (.putfield 84, 3) := by decide +kernel
theorem d_MD_make_70 : decode prog_6_method_12_code 70 = .ok (.aload_n 0, 1) := by decide +kernel
theorem d_MD_make_71 : decode prog_6_method_12_code 71 = .ok (.ldc2_w 69, 3) := by decide +kernel
theorem d_MD_make_74 : decode prog_6_method_12_code 74 = .ok (.aload_n 0, 1) := by decide +kernel
theorem d_MD_make_75 : decode prog_6_method_12_code 75 = .ok (.getfield 84, 3) := by decide +kernel
theorem d_MD_make_78 : decode prog_6_method_12_code 78 = .ok (.lmul, 1) := by decide +kernel
theorem d_MD_make_79 : decode prog_6_method_12_code 79 = .ok (.lconst 1, 1) := by decide +kernel
theorem d_MD_make_80 : decode prog_6_method_12_code 80 = .ok (.ladd, 1) := by decide +kernel
theorem d_MD_make_81 : decode prog_6_method_12_code 81 = .ok (.putfield 87, 3) := by decide +kernel
theorem d_MD_make_84 : decode prog_6_method_12_code 84 = .ok (.aload_n 0, 1) := by decide +kernel
theorem d_MD_make_85 : decode prog_6_method_12_code 85 = .ok (.invokevirtual 101, 3) := by decide +kernel
theorem d_MD_make_88 : decode prog_6_method_12_code 88 = .ok (.ifCond .eq 12, 3) := by decide +kernel
theorem d_MD_make_91 : decode prog_6_method_12_code 91 = .ok (.aload_n 0, 1) := by decide +kernel
theorem d_MD_make_92 : decode prog_6_method_12_code 92 = .ok (.iload 4, 2) := by decide +kernel
theorem d_MD_make_94 : decode prog_6_method_12_code 94 = .ok (.invokevirtual 105, 3) := by decide +kernel
theorem d_MD_make_97 : decode prog_6_method_12_code 97 = .ok (.goto 5, 3) := by decide +kernel
theorem d_MD_make_100 : decode prog_6_method_12_code 100 = .ok (.bipush (-2), 2) := by decide +kernel
theorem d_MD_make_102 : decode prog_6_method_12_code 102 = .ok (.ireturn, 1) := by decide +kernel
theorem d_MD_freeSlot_0 : decode prog_6_method_8_code 0 = .ok (.iconst 0, 1) := by decide +kernel
theorem d_MD_freeSlot_1 : decode prog_6_method_8_code 1 = .ok (.istore_n 1, 1) := by decide +kernel
theorem d_MD_freeSlot_2 : decode prog_6_method_8_code 2 = .ok (.iload_n 1, 1) := by decide +kernel
theorem d_MD_freeSlot_3 : decode prog_6_method_8_code 3 = .ok (.bipush 8, 2) := by decide +kernel
theorem d_MD_freeSlot_5 : decode prog_6_method_8_code 5 = .ok (.if_icmp .ge 20, 3) := by decide +kernel
theorem d_MD_freeSlot_8 : decode prog_6_method_8_code 8 = .ok (.aload_n 0, 1) := by decide +kernel
theorem d_MD_freeSlot_9 : decode prog_6_method_8_code 9 = .ok (.getfield 7, 3) := by decide +kernel
theorem d_MD_freeSlot_12 : decode prog_6_method_8_code 12 = .ok (.iload_n 1, 1) := by decide +kernel
theorem d_MD_freeSlot_13 : decode prog_6_method_8_code 13 = .ok (.iaload, 1) := by decide +kernel
theorem d_MD_freeSlot_14 : decode prog_6_method_8_code 14 = .ok (.ifCond .ge 5, 3) := by decide +kernel
theorem d_MD_freeSlot_17 : decode prog_6_method_8_code 17 = .ok (.iload_n 1, 1) := by decide +kernel
theorem d_MD_freeSlot_18 : decode prog_6_method_8_code 18 = .ok (.ireturn, 1) := by decide +kernel
theorem d_MD_freeSlot_19 : decode prog_6_method_8_code 19 = .ok (.iinc 1 1, 3) := by decide +kernel
theorem d_MD_freeSlot_22 : decode prog_6_method_8_code 22 = .ok (.goto (-20), 3) := by decide +kernel
theorem d_MD_freeSlot_25 : decode prog_6_method_8_code 25 = .ok (.iconst (-1), 1) := by decide +kernel
theorem d_MD_freeSlot_26 : decode prog_6_method_8_code 26 = .ok (.ireturn, 1) := by decide +kernel
theorem d_MD_number_0 : decode prog_6_method_2_code 0 = .ok (.iload_n 0, 1) := by decide +kernel
theorem d_MD_number_1 : decode prog_6_method_2_code 1 = .ok (.i2l, 1) := by decide +kernel
theorem d_MD_number_2 : decode prog_6_method_2_code 2 = .ok (.lstore_n 1, 1) := by decide +kernel
theorem d_MD_number_3 : decode prog_6_method_2_code 3 = .ok (.lload_n 1, 1) := by decide +kernel
theorem d_MD_number_4 : decode prog_6_method_2_code 4 = .ok (.lconst 0, 1) := by decide +kernel
theorem d_MD_number_5 : decode prog_6_method_2_code 5 = .ok (.lcmp, 1) := by decide +kernel
theorem d_MD_number_6 : decode prog_6_method_2_code 6 = .ok (.ifCond .ge 11, 3) := by decide +kernel
theorem d_MD_number_9 : decode prog_6_method_2_code 9 = .ok (.lload_n 1, 1) := by decide +kernel
theorem d_MD_number_10 : decode prog_6_method_2_code 10 = .ok (.ldc2_w 35, 3) := by decide +kernel
theorem d_MD_number_13 : decode prog_6_method_2_code 13 = .ok (.ladd, 1) := by decide +kernel
theorem d_MD_number_14 : decode prog_6_method_2_code 14 = .ok (.goto 4, 3) := by decide +kernel
theorem d_MD_number_17 : decode prog_6_method_2_code 17 = .ok (.lload_n 1, 1) := by decide +kernel
theorem d_MD_number_18 : decode prog_6_method_2_code 18 = .ok (.lreturn, 1) := by decide +kernel
theorem d_MD_sound_0 : decode prog_6_method_10_code 0 = .ok (.aload_n 0, 1) := by decide +kernel
theorem d_MD_sound_1 : decode prog_6_method_10_code 1 = .ok (.getfield 84, 3) := by decide +kernel
theorem d_MD_sound_4 : decode prog_6_method_10_code 4 = .ok (.lconst 0, 1) := by decide +kernel
theorem d_MD_sound_5 : decode prog_6_method_10_code 5 = .ok (.lcmp, 1) := by decide +kernel
theorem d_MD_sound_6 : decode prog_6_method_10_code 6 = .ok (.ifCond .ne 16, 3) := by decide +kernel
theorem d_MD_sound_9 : decode prog_6_method_10_code 9 = .ok (.aload_n 0, 1) := by decide +kernel
theorem d_MD_sound_10 : decode prog_6_method_10_code 10 = .ok (.getfield 87, 3) := by decide +kernel
theorem d_MD_sound_13 : decode prog_6_method_10_code 13 = .ok (.lconst 0, 1) := by decide +kernel
theorem d_MD_sound_14 : decode prog_6_method_10_code 14 = .ok (.lcmp, 1) := by decide +kernel
theorem d_MD_sound_15 : decode prog_6_method_10_code 15 = .ok (.ifCond .ne 7, 3) := by decide +kernel
theorem d_MD_sound_18 : decode prog_6_method_10_code 18 = .ok (.iconst 1, 1) := by decide +kernel
theorem d_MD_sound_19 : decode prog_6_method_10_code 19 = .ok (.goto 4, 3) := by decide +kernel
theorem d_MD_sound_22 : decode prog_6_method_10_code 22 = .ok (.iconst 0, 1) := by decide +kernel
theorem d_MD_sound_23 : decode prog_6_method_10_code 23 = .ok (.istore_n 1, 1) := by decide +kernel
theorem d_MD_sound_24 : decode prog_6_method_10_code 24 = .ok (.aload_n 0, 1) := by decide +kernel
theorem d_MD_sound_25 : decode prog_6_method_10_code 25 = .ok (.getfield 90, 3) := by decide +kernel
theorem d_MD_sound_28 : decode prog_6_method_10_code 28 = .ok (.ifCond .ne 22, 3) := by decide +kernel
theorem d_MD_sound_31 : decode prog_6_method_10_code 31 = .ok (.aload_n 0, 1) := by decide +kernel
theorem d_MD_sound_32 : decode prog_6_method_10_code 32 = .ok (.getfield 87, 3) := by decide +kernel
theorem d_MD_sound_35 : decode prog_6_method_10_code 35 = .ok (.ldc2_w 69, 3) := by decide +kernel
theorem d_MD_sound_38 : decode prog_6_method_10_code 38 = .ok (.lrem, 1) := by decide +kernel
theorem d_MD_sound_39 : decode prog_6_method_10_code 39 = .ok (.lconst 0, 1) := by decide +kernel
theorem d_MD_sound_40 : decode prog_6_method_10_code 40 = .ok (.lcmp, 1) := by decide +kernel
theorem d_MD_sound_41 : decode prog_6_method_10_code 41 = .ok (.ifCond .eq 7, 3) := by decide +kernel
theorem d_MD_sound_44 : decode prog_6_method_10_code 44 = .ok (.iconst 1, 1) := by decide +kernel
theorem d_MD_sound_45 : decode prog_6_method_10_code 45 = .ok (.goto 4, 3) := by decide +kernel
theorem d_MD_sound_48 : decode prog_6_method_10_code 48 = .ok (.iconst 0, 1) := by decide +kernel
theorem d_MD_sound_49 : decode prog_6_method_10_code 49 = .ok (.ireturn, 1) := by decide +kernel
theorem d_MD_sound_50 : decode prog_6_method_10_code 50 = .ok (.aload_n 0, 1) := by decide +kernel
theorem d_MD_sound_51 : decode prog_6_method_10_code 51 = .ok (.getfield 90, 3) := by decide +kernel
theorem d_MD_sound_54 : decode prog_6_method_10_code 54 = .ok (.iconst 1, 1) := by decide +kernel
theorem d_MD_sound_55 : decode prog_6_method_10_code 55 = .ok (.if_icmp .ne 13, 3) := by decide +kernel
theorem d_MD_sound_58 : decode prog_6_method_10_code 58 = .ok (.iload_n 1, 1) := by decide +kernel
theorem d_MD_sound_59 : decode prog_6_method_10_code 59 = .ok (.ifCond .ne 7, 3) := by decide +kernel
theorem d_MD_sound_62 : decode prog_6_method_10_code 62 = .ok (.iconst 1, 1) := by decide +kernel
theorem d_MD_sound_63 : decode prog_6_method_10_code 63 = .ok (.goto 4, 3) := by decide +kernel
theorem d_MD_sound_66 : decode prog_6_method_10_code 66 = .ok (.iconst 0, 1) := by decide +kernel
theorem d_MD_sound_67 : decode prog_6_method_10_code 67 = .ok (.ireturn, 1) := by decide +kernel
theorem d_MD_sound_68 : decode prog_6_method_10_code 68 = .ok (.aload_n 0, 1) := by decide +kernel
theorem d_MD_sound_69 : decode prog_6_method_10_code 69 = .ok (.getfield 90, 3) := by decide +kernel
theorem d_MD_sound_72 : decode prog_6_method_10_code 72 = .ok (.iconst 2, 1) := by decide +kernel
theorem d_MD_sound_73 : decode prog_6_method_10_code 73 = .ok (.if_icmp .ne 18, 3) := by decide +kernel
theorem d_MD_sound_76 : decode prog_6_method_10_code 76 = .ok (.aload_n 0, 1) := by decide +kernel
theorem d_MD_sound_77 : decode prog_6_method_10_code 77 = .ok (.getfield 87, 3) := by decide +kernel
theorem d_MD_sound_80 : decode prog_6_method_10_code 80 = .ok (.lconst 0, 1) := by decide +kernel
theorem d_MD_sound_81 : decode prog_6_method_10_code 81 = .ok (.lcmp, 1) := by decide +kernel
theorem d_MD_sound_82 : decode prog_6_method_10_code 82 = .ok (.ifCond .lt 7, 3) := by decide +kernel
theorem d_MD_sound_85 : decode prog_6_method_10_code 85 = .ok (.iconst 1, 1) := by decide +kernel
theorem d_MD_sound_86 : decode prog_6_method_10_code 86 = .ok (.goto 4, 3) := by decide +kernel
theorem d_MD_sound_89 : decode prog_6_method_10_code 89 = .ok (.iconst 0, 1) := by decide +kernel
theorem d_MD_sound_90 : decode prog_6_method_10_code 90 = .ok (.ireturn, 1) := by decide +kernel
theorem d_MD_sound_91 : decode prog_6_method_10_code 91 = .ok (.iload_n 1, 1) := by decide +kernel
theorem d_MD_sound_92 : decode prog_6_method_10_code 92 = .ok (.ifCond .ne 27, 3) := by decide +kernel
theorem d_MD_sound_95 : decode prog_6_method_10_code 95 = .ok (.aload_n 0, 1) := by decide +kernel
theorem d_MD_sound_96 : decode prog_6_method_10_code 96 = .ok (.getfield 84, 3) := by decide +kernel
theorem d_MD_sound_99 : decode prog_6_method_10_code 99 = .ok (.invokestatic 93, 3) := by decide +kernel
theorem d_MD_sound_102 : decode prog_6_method_10_code 102 = .ok (.ifCond .eq 17, 3) := by decide +kernel
theorem d_MD_sound_105 : decode prog_6_method_10_code 105 = .ok (.aload_n 0, 1) := by decide +kernel
theorem d_MD_sound_106 : decode prog_6_method_10_code 106 = .ok (.getfield 87, 3) := by decide +kernel
theorem d_MD_sound_109 : decode prog_6_method_10_code 109 = .ok (.invokestatic 93, 3) := by decide +kernel
theorem d_MD_sound_112 : decode prog_6_method_10_code 112 = .ok (.ifCond .eq 7, 3) := by decide +kernel
theorem d_MD_sound_115 : decode prog_6_method_10_code 115 = .ok (.iconst 1, 1) := by decide +kernel
theorem d_MD_sound_116 : decode prog_6_method_10_code 116 = .ok (.goto 4, 3) := by decide +kernel
theorem d_MD_sound_119 : decode prog_6_method_10_code 119 = .ok (.iconst 0, 1) := by decide +kernel
theorem d_MD_sound_120 : decode prog_6_method_10_code 120 = .ok (.ireturn, 1) := by decide +kernel
theorem d_MD_residue_0 : decode prog_6_method_9_code 0 = .ok (.lload_n 0, 1) := by decide +kernel
theorem d_MD_residue_1 : decode prog_6_method_9_code 1 = .ok (.lconst 0, 1) := by decide +kernel
theorem d_MD_residue_2 : decode prog_6_method_9_code 2 = .ok (.lcmp, 1) := by decide +kernel
theorem d_MD_residue_3 : decode prog_6_method_9_code 3 = .ok (.ifCond .lt 15, 3) := by decide +kernel
theorem d_MD_residue_6 : decode prog_6_method_9_code 6 = .ok (.lload_n 0, 1) := by decide +kernel
theorem d_MD_residue_7 : decode prog_6_method_9_code 7 = .ok (.ldc2_w 82, 3) := by decide +kernel
theorem d_MD_residue_10 : decode prog_6_method_9_code 10 = .ok (.lcmp, 1) := by decide +kernel
theorem d_MD_residue_11 : decode prog_6_method_9_code 11 = .ok (.ifCond .gt 7, 3) := by decide +kernel
theorem d_MD_residue_14 : decode prog_6_method_9_code 14 = .ok (.iconst 1, 1) := by decide +kernel
theorem d_MD_residue_15 : decode prog_6_method_9_code 15 = .ok (.goto 4, 3) := by decide +kernel
theorem d_MD_residue_18 : decode prog_6_method_9_code 18 = .ok (.iconst 0, 1) := by decide +kernel
theorem d_MD_residue_19 : decode prog_6_method_9_code 19 = .ok (.ireturn, 1) := by decide +kernel
theorem d_MD_settle_0 : decode prog_6_method_11_code 0 = .ok (.aload_n 0, 1) := by decide +kernel
theorem d_MD_settle_1 : decode prog_6_method_11_code 1 = .ok (.getfield 7, 3) := by decide +kernel
theorem d_MD_settle_4 : decode prog_6_method_11_code 4 = .ok (.iload_n 1, 1) := by decide +kernel
theorem d_MD_settle_5 : decode prog_6_method_11_code 5 = .ok (.aload_n 0, 1) := by decide +kernel
theorem d_MD_settle_6 : decode prog_6_method_11_code 6 = .ok (.getfield 90, 3) := by decide +kernel
theorem d_MD_settle_9 : decode prog_6_method_11_code 9 = .ok (.iastore, 1) := by decide +kernel
theorem d_MD_settle_10 : decode prog_6_method_11_code 10 = .ok (.aload_n 0, 1) := by decide +kernel
theorem d_MD_settle_11 : decode prog_6_method_11_code 11 = .ok (.getfield 13, 3) := by decide +kernel
theorem d_MD_settle_14 : decode prog_6_method_11_code 14 = .ok (.iload_n 1, 1) := by decide +kernel
theorem d_MD_settle_15 : decode prog_6_method_11_code 15 = .ok (.aload_n 0, 1) := by decide +kernel
theorem d_MD_settle_16 : decode prog_6_method_11_code 16 = .ok (.getfield 84, 3) := by decide +kernel
theorem d_MD_settle_19 : decode prog_6_method_11_code 19 = .ok (.lastore, 1) := by decide +kernel
theorem d_MD_settle_20 : decode prog_6_method_11_code 20 = .ok (.aload_n 0, 1) := by decide +kernel
theorem d_MD_settle_21 : decode prog_6_method_11_code 21 = .ok (.getfield 17, 3) := by decide +kernel
theorem d_MD_settle_24 : decode prog_6_method_11_code 24 = .ok (.iload_n 1, 1) := by decide +kernel
theorem d_MD_settle_25 : decode prog_6_method_11_code 25 = .ok (.aload_n 0, 1) := by decide +kernel
theorem d_MD_settle_26 : decode prog_6_method_11_code 26 = .ok (.getfield 87, 3) := by decide +kernel
theorem d_MD_settle_29 : decode prog_6_method_11_code 29 = .ok (.lastore, 1) := by decide +kernel
theorem d_MD_settle_30 : decode prog_6_method_11_code 30 = .ok (.iload_n 1, 1) := by decide +kernel
theorem d_MD_settle_31 : decode prog_6_method_11_code 31 = .ok (.ireturn, 1) := by decide +kernel
theorem d_MD_twin_0 : decode prog_6_method_13_code 0 = .ok (.aload_n 0, 1) := by decide +kernel
theorem d_MD_twin_1 : decode prog_6_method_13_code 1 = .ok (.invokevirtual 97, 3) := by decide +kernel
theorem d_MD_twin_4 : decode prog_6_method_13_code 4 = .ok (.istore_n 2, 1) := by decide +kernel
theorem d_MD_twin_5 : decode prog_6_method_13_code 5 = .ok (.aload_n 0, 1) := by decide +kernel
theorem d_MD_twin_6 : decode prog_6_method_13_code 6 = .ok (.iload_n 1, 1) := by decide +kernel
theorem d_MD_twin_7 : decode prog_6_method_13_code 7 = .ok (.invokevirtual 109, 3) := by decide +kernel
theorem d_MD_twin_10 : decode prog_6_method_13_code 10 = .ok (.ifCond .eq 7, 3) := by decide +kernel
theorem d_MD_twin_13 : decode prog_6_method_13_code 13 = .ok (.iload_n 2, 1) := by decide +kernel
theorem d_MD_twin_14 : decode prog_6_method_13_code 14 = .ok (.ifCond .ge 5, 3) := by decide +kernel
theorem d_MD_twin_17 : decode prog_6_method_13_code 17 = .ok (.iconst (-1), 1) := by decide +kernel
theorem d_MD_twin_18 : decode prog_6_method_13_code 18 = .ok (.ireturn, 1) := by decide +kernel
theorem d_MD_twin_19 : decode prog_6_method_13_code 19 = .ok (.aload_n 0, 1) := by decide +kernel
theorem d_MD_twin_20 : decode prog_6_method_13_code 20 = .ok (.getfield 7, 3) := by decide +kernel
theorem d_MD_twin_23 : decode prog_6_method_13_code 23 = .ok (.iload_n 2, 1) := by decide +kernel
theorem d_MD_twin_24 : decode prog_6_method_13_code 24 = .ok (.aload_n 0, 1) := by decide +kernel
theorem d_MD_twin_25 : decode prog_6_method_13_code 25 = .ok (.getfield 7, 3) := by decide +kernel
theorem d_MD_twin_28 : decode prog_6_method_13_code 28 = .ok (.iload_n 1, 1) := by decide +kernel
theorem d_MD_twin_29 : decode prog_6_method_13_code 29 = .ok (.iaload, 1) := by decide +kernel
theorem d_MD_twin_30 : decode prog_6_method_13_code 30 = .ok (.iastore, 1) := by decide +kernel
theorem d_MD_twin_31 : decode prog_6_method_13_code 31 = .ok (.aload_n 0, 1) := by decide +kernel
theorem d_MD_twin_32 : decode prog_6_method_13_code 32 = .ok (.getfield 13, 3) := by decide +kernel
theorem d_MD_twin_35 : decode prog_6_method_13_code 35 = .ok (.iload_n 2, 1) := by decide +kernel
theorem d_MD_twin_36 : decode prog_6_method_13_code 36 = .ok (.aload_n 0, 1) := by decide +kernel
theorem d_MD_twin_37 : decode prog_6_method_13_code 37 = .ok (.getfield 13, 3) := by decide +kernel
theorem d_MD_twin_40 : decode prog_6_method_13_code 40 = .ok (.iload_n 1, 1) := by decide +kernel
theorem d_MD_twin_41 : decode prog_6_method_13_code 41 = .ok (.laload, 1) := by decide +kernel
theorem d_MD_twin_42 : decode prog_6_method_13_code 42 = .ok (.lastore, 1) := by decide +kernel
theorem d_MD_twin_43 : decode prog_6_method_13_code 43 = .ok (.aload_n 0, 1) := by decide +kernel
theorem d_MD_twin_44 : decode prog_6_method_13_code 44 = .ok (.getfield 17, 3) := by decide +kernel
theorem d_MD_twin_47 : decode prog_6_method_13_code 47 = .ok (.iload_n 2, 1) := by decide +kernel
theorem d_MD_twin_48 : decode prog_6_method_13_code 48 = .ok (.aload_n 0, 1) := by decide +kernel
theorem d_MD_twin_49 : decode prog_6_method_13_code 49 = .ok (.getfield 17, 3) := by decide +kernel
theorem d_MD_twin_52 : decode prog_6_method_13_code 52 = .ok (.iload_n 1, 1) := by decide +kernel
theorem d_MD_twin_53 : decode prog_6_method_13_code 53 = .ok (.laload, 1) := by decide +kernel
theorem d_MD_twin_54 : decode prog_6_method_13_code 54 = .ok (.lastore, 1) := by decide +kernel
theorem d_MD_twin_55 : decode prog_6_method_13_code 55 = .ok (.iload_n 2, 1) := by decide +kernel
theorem d_MD_twin_56 : decode prog_6_method_13_code 56 = .ok (.ireturn, 1) := by decide +kernel
theorem d_MD_holds_0 : decode prog_6_method_7_code 0 = .ok (.iload_n 1, 1) := by decide +kernel
theorem d_MD_holds_1 : decode prog_6_method_7_code 1 = .ok (.ifCond .lt 22, 3) := by decide +kernel
theorem d_MD_holds_4 : decode prog_6_method_7_code 4 = .ok (.iload_n 1, 1) := by decide +kernel
theorem d_MD_holds_5 : decode prog_6_method_7_code 5 = .ok (.bipush 7, 2) := by decide +kernel
theorem d_MD_holds_7 : decode prog_6_method_7_code 7 = .ok (.if_icmp .gt 16, 3) := by decide +kernel
theorem d_MD_holds_10 : decode prog_6_method_7_code 10 = .ok (.aload_n 0, 1) := by decide +kernel
theorem d_MD_holds_11 : decode prog_6_method_7_code 11 = .ok (.getfield 7, 3) := by decide +kernel
theorem d_MD_holds_14 : decode prog_6_method_7_code 14 = .ok (.iload_n 1, 1) := by decide +kernel
theorem d_MD_holds_15 : decode prog_6_method_7_code 15 = .ok (.iaload, 1) := by decide +kernel
theorem d_MD_holds_16 : decode prog_6_method_7_code 16 = .ok (.ifCond .lt 7, 3) := by decide +kernel
theorem d_MD_holds_19 : decode prog_6_method_7_code 19 = .ok (.iconst 1, 1) := by decide +kernel
theorem d_MD_holds_20 : decode prog_6_method_7_code 20 = .ok (.goto 4, 3) := by decide +kernel
theorem d_MD_holds_23 : decode prog_6_method_7_code 23 = .ok (.iconst 0, 1) := by decide +kernel
theorem d_MD_holds_24 : decode prog_6_method_7_code 24 = .ok (.ireturn, 1) := by decide +kernel
theorem d_MD_release_0 : decode prog_6_method_14_code 0 = .ok (.aload_n 0, 1) := by decide +kernel
theorem d_MD_release_1 : decode prog_6_method_14_code 1 = .ok (.iload_n 1, 1) := by decide +kernel
theorem d_MD_release_2 : decode prog_6_method_14_code 2 = .ok (.invokevirtual 109, 3) := by decide +kernel
theorem d_MD_release_5 : decode prog_6_method_14_code 5 = .ok (.ifCond .ne 5, 3) := by decide +kernel
theorem d_MD_release_8 : decode prog_6_method_14_code 8 = .ok (.iconst 0, 1) := by decide +kernel
theorem d_MD_release_9 : decode prog_6_method_14_code 9 = .ok (.ireturn, 1) := by decide +kernel
theorem d_MD_release_10 : decode prog_6_method_14_code 10 = .ok (.aload_n 0, 1) := by decide +kernel
theorem d_MD_release_11 : decode prog_6_method_14_code 11 = .ok (.getfield 7, 3) := by decide +kernel
theorem d_MD_release_14 : decode prog_6_method_14_code 14 = .ok (.iload_n 1, 1) := by decide +kernel
theorem d_MD_release_15 : decode prog_6_method_14_code 15 = .ok (.iconst (-1), 1) := by decide +kernel
theorem d_MD_release_16 : decode prog_6_method_14_code 16 = .ok (.iastore, 1) := by decide +kernel
theorem d_MD_release_17 : decode prog_6_method_14_code 17 = .ok (.iconst 1, 1) := by decide +kernel
theorem d_MD_release_18 : decode prog_6_method_14_code 18 = .ok (.ireturn, 1) := by decide +kernel
theorem d_MD_next_0 : decode prog_6_method_15_code 0 = .ok (.aload_n 0, 1) := by decide +kernel
theorem d_MD_next_1 : decode prog_6_method_15_code 1 = .ok (.iload_n 1, 1) := by decide +kernel
theorem d_MD_next_2 : decode prog_6_method_15_code 2 = .ok (.invokevirtual 109, 3) := by decide +kernel
theorem d_MD_next_5 : decode prog_6_method_15_code 5 = .ok (.ifCond .ne 7, 3) := by decide +kernel
theorem d_MD_next_8 : decode prog_6_method_15_code 8 = .ok (.ldc2_w 113, 3) := by decide +kernel
theorem d_MD_next_11 : decode prog_6_method_15_code 11 = .ok (.lreturn, 1) := by decide +kernel
theorem d_MD_next_12 : decode prog_6_method_15_code 12 = .ok (.aload_n 0, 1) := by decide +kernel
theorem d_MD_next_13 : decode prog_6_method_15_code 13 = .ok (.iload_n 1, 1) := by decide +kernel
theorem d_MD_next_14 : decode prog_6_method_15_code 14 = .ok (.invokevirtual 115, 3) := by decide +kernel
theorem d_MD_next_17 : decode prog_6_method_15_code 17 = .ok (.aload_n 0, 1) := by decide +kernel
theorem d_MD_next_18 : decode prog_6_method_15_code 18 = .ok (.getfield 50, 3) := by decide +kernel
theorem d_MD_next_21 : decode prog_6_method_15_code 21 = .ok (.invokestatic 71, 3) := by decide +kernel
theorem d_MD_next_24 : decode prog_6_method_15_code 24 = .ok (.lreturn, 1) := by decide +kernel
theorem d_MD_step_0 : decode prog_6_method_5_code 0 = .ok (.aload_n 0, 1) := by decide +kernel
theorem d_MD_step_1 : decode prog_6_method_5_code 1 = .ok (.getfield 13, 3) := by decide +kernel
theorem d_MD_step_4 : decode prog_6_method_5_code 4 = .ok (.iload_n 1, 1) := by decide +kernel
theorem d_MD_step_5 : decode prog_6_method_5_code 5 = .ok (.laload, 1) := by decide +kernel
theorem d_MD_step_6 : decode prog_6_method_5_code 6 = .ok (.lstore_n 2, 1) := by decide +kernel
theorem d_MD_step_7 : decode prog_6_method_5_code 7 = .ok (.aload_n 0, 1) := by decide +kernel
theorem d_MD_step_8 : decode prog_6_method_5_code 8 = .ok (.getfield 17, 3) := by decide +kernel
theorem d_MD_step_11 : decode prog_6_method_5_code 11 = .ok (.iload_n 1, 1) := by decide +kernel
theorem d_MD_step_12 : decode prog_6_method_5_code 12 = .ok (.laload, 1) := by decide +kernel
theorem d_MD_step_13 : decode prog_6_method_5_code 13 = .ok (.lstore 4, 2) := by decide +kernel
theorem d_MD_step_15 : decode prog_6_method_5_code 15 = .ok (.aload_n 0, 1) := by decide +kernel
theorem d_MD_step_16 : decode prog_6_method_5_code 16 = .ok (.getfield 7, 3) := by decide +kernel
theorem d_MD_step_19 : decode prog_6_method_5_code 19 = .ok (.iload_n 1, 1) := by decide +kernel
theorem d_MD_step_20 : decode prog_6_method_5_code 20 = .ok (.iaload, 1) := by decide +kernel
theorem d_MD_step_21 : decode prog_6_method_5_code 21 = .ok (.ifCond .ne 53, 3) := by decide +kernel
theorem d_MD_step_24 : decode prog_6_method_5_code 24 = .ok (.lload_n 2, 1) := by decide +kernel
theorem d_MD_step_25 : decode prog_6_method_5_code 25 = .ok (.bipush 18, 2) := by decide +kernel
theorem d_MD_step_27 : decode prog_6_method_5_code 27 = .ok (.lushr, 1) := by decide +kernel
theorem d_MD_step_28 : decode prog_6_method_5_code 28 = .ok (.lload_n 2, 1) := by decide +kernel
theorem d_MD_step_29 : decode prog_6_method_5_code 29 = .ok (.lxor, 1) := by decide +kernel
theorem d_MD_step_30 : decode prog_6_method_5_code 30 = .ok (.bipush 27, 2) := by decide +kernel
theorem d_MD_step_32 : decode prog_6_method_5_code 32 = .ok (.lushr, 1) := by decide +kernel
theorem d_MD_step_33 : decode prog_6_method_5_code 33 = .ok (.l2i, 1) := by decide +kernel
theorem d_MD_step_34 : decode prog_6_method_5_code 34 = .ok (.istore 6, 2) := by decide +kernel
theorem d_MD_step_36 : decode prog_6_method_5_code 36 = .ok (.lload_n 2, 1) := by decide +kernel
theorem d_MD_step_37 : decode prog_6_method_5_code 37 = .ok (.bipush 59, 2) := by decide +kernel
theorem d_MD_step_39 : decode prog_6_method_5_code 39 = .ok (.lushr, 1) := by decide +kernel
theorem d_MD_step_40 : decode prog_6_method_5_code 40 = .ok (.l2i, 1) := by decide +kernel
theorem d_MD_step_41 : decode prog_6_method_5_code 41 = .ok (.istore 7, 2) := by decide +kernel
theorem d_MD_step_43 : decode prog_6_method_5_code 43 = .ok (.aload_n 0, 1) := by decide +kernel
theorem d_MD_step_44 : decode prog_6_method_5_code 44 = .ok (.iload 6, 2) := by decide +kernel
theorem d_MD_step_46 : decode prog_6_method_5_code 46 = .ok (.bipush 32, 2) := by decide +kernel
theorem d_MD_step_48 : decode prog_6_method_5_code 48 = .ok (.iload 7, 2) := by decide +kernel
theorem d_MD_step_50 : decode prog_6_method_5_code 50 = .ok (.isub, 1) := by decide +kernel
theorem d_MD_step_51 : decode prog_6_method_5_code 51 = .ok (.invokestatic 46, 3) := by decide +kernel
theorem d_MD_step_54 : decode prog_6_method_5_code 54 = .ok (.putfield 50, 3) := by decide +kernel
theorem d_MD_step_57 : decode prog_6_method_5_code 57 = .ok (.aload_n 0, 1) := by decide +kernel
theorem d_MD_step_58 : decode prog_6_method_5_code 58 = .ok (.getfield 13, 3) := by decide +kernel
theorem d_MD_step_61 : decode prog_6_method_5_code 61 = .ok (.iload_n 1, 1) := by decide +kernel
theorem d_MD_step_62 : decode prog_6_method_5_code 62 = .ok (.lload_n 2, 1) := by decide +kernel
theorem d_MD_step_63 : decode prog_6_method_5_code 63 = .ok (.ldc2_w 54, 3) := by decide +kernel
theorem d_MD_step_66 : decode prog_6_method_5_code 66 = .ok (.lmul, 1) := by decide +kernel
theorem d_MD_step_67 : decode prog_6_method_5_code 67 = .ok (.lload 4, 2) := by decide +kernel
theorem d_MD_step_69 : decode prog_6_method_5_code 69 = .ok (.ladd, 1) := by decide +kernel
theorem d_MD_step_70 : decode prog_6_method_5_code 70 = .ok (.lastore, 1) := by decide +kernel
theorem d_MD_step_71 : decode prog_6_method_5_code 71 = .ok (.goto 182, 3) := by decide +kernel
theorem d_MD_step_74 : decode prog_6_method_5_code 74 = .ok (.aload_n 0, 1) := by decide +kernel
theorem d_MD_step_75 : decode prog_6_method_5_code 75 = .ok (.getfield 7, 3) := by decide +kernel
theorem d_MD_step_78 : decode prog_6_method_5_code 78 = .ok (.iload_n 1, 1) := by decide +kernel
theorem d_MD_step_79 : decode prog_6_method_5_code 79 = .ok (.iaload, 1) := by decide +kernel
theorem d_MD_step_80 : decode prog_6_method_5_code 80 = .ok (.iconst 1, 1) := by decide +kernel
theorem d_MD_step_81 : decode prog_6_method_5_code 81 = .ok (.if_icmp .ne 78, 3) := by decide +kernel
theorem d_MD_step_84 : decode prog_6_method_5_code 84 = .ok (.lload_n 2, 1) := by decide +kernel
theorem d_MD_step_85 : decode prog_6_method_5_code 85 = .ok (.l2i, 1) := by decide +kernel
theorem d_MD_step_86 : decode prog_6_method_5_code 86 = .ok (.istore 6, 2) := by decide +kernel
theorem d_MD_step_88 : decode prog_6_method_5_code 88 = .ok (.lload 4, 2) := by decide +kernel
theorem d_MD_step_90 : decode prog_6_method_5_code 90 = .ok (.l2i, 1) := by decide +kernel
theorem d_MD_step_91 : decode prog_6_method_5_code 91 = .ok (.istore 7, 2) := by decide +kernel
theorem d_MD_step_93 : decode prog_6_method_5_code 93 = .ok (.aload_n 0, 1) := by decide +kernel
theorem d_MD_step_94 : decode prog_6_method_5_code 94 = .ok (.iload 6, 2) := by decide +kernel
theorem d_MD_step_96 : decode prog_6_method_5_code 96 = .ok (.ldc 56, 2) := by decide +kernel
theorem d_MD_step_98 : decode prog_6_method_5_code 98 = .ok (.imul, 1) := by decide +kernel
theorem d_MD_step_99 : decode prog_6_method_5_code 99 = .ok (.iconst 5, 1) := by decide +kernel
theorem d_MD_step_100 : decode prog_6_method_5_code 100 = .ok (.invokestatic 46, 3) := by decide +kernel
theorem d_MD_step_103 : decode prog_6_method_5_code 103 = .ok (.iconst 5, 1) := by decide +kernel
theorem d_MD_step_104 : decode prog_6_method_5_code 104 = .ok (.imul, 1) := by decide +kernel
theorem d_MD_step_105 : decode prog_6_method_5_code 105 = .ok (.putfield 50, 3) := by decide +kernel
theorem d_MD_step_108 : decode prog_6_method_5_code 108 = .ok (.iload 6, 2) := by decide +kernel
theorem d_MD_step_110 : decode prog_6_method_5_code 110 = .ok (.iload 7, 2) := by decide +kernel
theorem d_MD_step_112 : decode prog_6_method_5_code 112 = .ok (.ixor, 1) := by decide +kernel
theorem d_MD_step_113 : decode prog_6_method_5_code 113 = .ok (.istore 7, 2) := by decide +kernel
theorem d_MD_step_115 : decode prog_6_method_5_code 115 = .ok (.iload 6, 2) := by decide +kernel
theorem d_MD_step_117 : decode prog_6_method_5_code 117 = .ok (.bipush 26, 2) := by decide +kernel
theorem d_MD_step_119 : decode prog_6_method_5_code 119 = .ok (.invokestatic 46, 3) := by decide +kernel
theorem d_MD_step_122 : decode prog_6_method_5_code 122 = .ok (.iload 7, 2) := by decide +kernel
theorem d_MD_step_124 : decode prog_6_method_5_code 124 = .ok (.ixor, 1) := by decide +kernel
theorem d_MD_step_125 : decode prog_6_method_5_code 125 = .ok (.iload 7, 2) := by decide +kernel
theorem d_MD_step_127 : decode prog_6_method_5_code 127 = .ok (.bipush 9, 2) := by decide +kernel
theorem d_MD_step_129 : decode prog_6_method_5_code 129 = .ok (.ishl, 1) := by decide +kernel
theorem d_MD_step_130 : decode prog_6_method_5_code 130 = .ok (.ixor, 1) := by decide +kernel
theorem d_MD_step_131 : decode prog_6_method_5_code 131 = .ok (.istore 6, 2) := by decide +kernel
theorem d_MD_step_133 : decode prog_6_method_5_code 133 = .ok (.aload_n 0, 1) := by decide +kernel
theorem d_MD_step_134 : decode prog_6_method_5_code 134 = .ok (.getfield 13, 3) := by decide +kernel
theorem d_MD_step_137 : decode prog_6_method_5_code 137 = .ok (.iload_n 1, 1) := by decide +kernel
theorem d_MD_step_138 : decode prog_6_method_5_code 138 = .ok (.iload 6, 2) := by decide +kernel
theorem d_MD_step_140 : decode prog_6_method_5_code 140 = .ok (.i2l, 1) := by decide +kernel
theorem d_MD_step_141 : decode prog_6_method_5_code 141 = .ok (.lastore, 1) := by decide +kernel
theorem d_MD_step_142 : decode prog_6_method_5_code 142 = .ok (.aload_n 0, 1) := by decide +kernel
theorem d_MD_step_143 : decode prog_6_method_5_code 143 = .ok (.getfield 17, 3) := by decide +kernel
theorem d_MD_step_146 : decode prog_6_method_5_code 146 = .ok (.iload_n 1, 1) := by decide +kernel
theorem d_MD_step_147 : decode prog_6_method_5_code 147 = .ok (.iload 7, 2) := by decide +kernel
theorem d_MD_step_149 : decode prog_6_method_5_code 149 = .ok (.bipush 13, 2) := by decide +kernel
theorem d_MD_step_151 : decode prog_6_method_5_code 151 = .ok (.invokestatic 46, 3) := by decide +kernel
theorem d_MD_step_154 : decode prog_6_method_5_code 154 = .ok (.i2l, 1) := by decide +kernel
theorem d_MD_step_155 : decode prog_6_method_5_code 155 = .ok (.lastore, 1) := by decide +kernel
theorem d_MD_step_156 : decode prog_6_method_5_code 156 = .ok (.goto 97, 3) := by decide +kernel
theorem d_MD_step_159 : decode prog_6_method_5_code 159 = .ok (.aload_n 0, 1) := by decide +kernel
theorem d_MD_step_160 : decode prog_6_method_5_code 160 = .ok (.getfield 7, 3) := by decide +kernel
theorem d_MD_step_163 : decode prog_6_method_5_code 163 = .ok (.iload_n 1, 1) := by decide +kernel
theorem d_MD_step_164 : decode prog_6_method_5_code 164 = .ok (.iaload, 1) := by decide +kernel
theorem d_MD_step_165 : decode prog_6_method_5_code 165 = .ok (.iconst 2, 1) := by decide +kernel
theorem d_MD_step_166 : decode prog_6_method_5_code 166 = .ok (.if_icmp .ne 37, 3) := by decide +kernel
theorem d_MD_step_169 : decode prog_6_method_5_code 169 = .ok (.aload_n 0, 1) := by decide +kernel
theorem d_MD_step_170 : decode prog_6_method_5_code 170 = .ok (.lload_n 2, 1) := by decide +kernel
theorem d_MD_step_171 : decode prog_6_method_5_code 171 = .ok (.l2i, 1) := by decide +kernel
theorem d_MD_step_172 : decode prog_6_method_5_code 172 = .ok (.lload 4, 2) := by decide +kernel
theorem d_MD_step_174 : decode prog_6_method_5_code 174 = .ok (.invokevirtual 57, 3) := by decide +kernel
theorem d_MD_step_177 : decode prog_6_method_5_code 177 = .ok (.aload_n 0, 1) := by decide +kernel
theorem d_MD_step_178 : decode prog_6_method_5_code 178 = .ok (.getfield 17, 3) := by decide +kernel
theorem d_MD_step_181 : decode prog_6_method_5_code 181 = .ok (.iload_n 1, 1) := by decide +kernel
theorem d_MD_step_182 : decode prog_6_method_5_code 182 = .ok (.lload 4, 2) := by decide +kernel
theorem d_MD_step_184 : decode prog_6_method_5_code 184 = .ok (.ldc2_w 61, 3) := by decide +kernel
theorem d_MD_step_187 : decode prog_6_method_5_code 187 = .ok (.lcmp, 1) := by decide +kernel
theorem d_MD_step_188 : decode prog_6_method_5_code 188 = .ok (.ifCond .ne 7, 3) := by decide +kernel
theorem d_MD_step_191 : decode prog_6_method_5_code 191 = .ok (.lconst 0, 1) := by decide +kernel
theorem d_MD_step_192 : decode prog_6_method_5_code 192 = .ok (.goto 7, 3) := by decide +kernel
theorem d_MD_step_195 : decode prog_6_method_5_code 195 = .ok (.lload 4, 2) := by decide +kernel
theorem d_MD_step_197 : decode prog_6_method_5_code 197 = .ok (.lconst 1, 1) := by decide +kernel
theorem d_MD_step_198 : decode prog_6_method_5_code 198 = .ok (.ladd, 1) := by decide +kernel
theorem d_MD_step_199 : decode prog_6_method_5_code 199 = .ok (.lastore, 1) := by decide +kernel
theorem d_MD_step_200 : decode prog_6_method_5_code 200 = .ok (.goto 53, 3) := by decide +kernel
theorem d_MD_step_203 : decode prog_6_method_5_code 203 = .ok (.ldc2_w 63, 3) := by decide +kernel
theorem d_MD_step_206 : decode prog_6_method_5_code 206 = .ok (.lload_n 2, 1) := by decide +kernel
theorem d_MD_step_207 : decode prog_6_method_5_code 207 = .ok (.lmul, 1) := by decide +kernel
theorem d_MD_step_208 : decode prog_6_method_5_code 208 = .ok (.ldc2_w 65, 3) := by decide +kernel
theorem d_MD_step_211 : decode prog_6_method_5_code 211 = .ok (.lload 4, 2) := by decide +kernel
theorem d_MD_step_213 : decode prog_6_method_5_code 213 = .ok (.lmul, 1) := by decide +kernel
theorem d_MD_step_214 : decode prog_6_method_5_code 214 = .ok (.ladd, 1) := by decide +kernel
theorem d_MD_step_215 : decode prog_6_method_5_code 215 = .ok (.ldc2_w 67, 3) := by decide +kernel
theorem d_MD_step_218 : decode prog_6_method_5_code 218 = .ok (.lrem, 1) := by decide +kernel
theorem d_MD_step_219 : decode prog_6_method_5_code 219 = .ok (.lstore 6, 2) := by decide +kernel
theorem d_MD_step_221 : decode prog_6_method_5_code 221 = .ok (.aload_n 0, 1) := by decide +kernel
theorem d_MD_step_222 : decode prog_6_method_5_code 222 = .ok (.ldc2_w 69, 3) := by decide +kernel
theorem d_MD_step_225 : decode prog_6_method_5_code 225 = .ok (.lload 6, 2) := by decide +kernel
theorem d_MD_step_227 : decode prog_6_method_5_code 227 = .ok (.lmul, 1) := by decide +kernel
theorem d_MD_step_228 : decode prog_6_method_5_code 228 = .ok (.lload_n 2, 1) := by decide +kernel
theorem d_MD_step_229 : decode prog_6_method_5_code 229 = .ok (.ldc2_w 69, 3) := by decide +kernel
theorem d_MD_step_232 : decode prog_6_method_5_code 232 = .ok (.lrem, 1) := by decide +kernel
theorem d_MD_step_233 : decode prog_6_method_5_code 233 = .ok (.ladd, 1) := by decide +kernel
theorem d_MD_step_234 : decode prog_6_method_5_code 234 = .ok (.l2i, 1) := by decide +kernel
theorem d_MD_step_235 : decode prog_6_method_5_code 235 = .ok (.putfield 50, 3) := by decide +kernel
theorem d_MD_step_238 : decode prog_6_method_5_code 238 = .ok (.aload_n 0, 1) := by decide +kernel
theorem d_MD_step_239 : decode prog_6_method_5_code 239 = .ok (.getfield 17, 3) := by decide +kernel
theorem d_MD_step_242 : decode prog_6_method_5_code 242 = .ok (.iload_n 1, 1) := by decide +kernel
theorem d_MD_step_243 : decode prog_6_method_5_code 243 = .ok (.lload_n 2, 1) := by decide +kernel
theorem d_MD_step_244 : decode prog_6_method_5_code 244 = .ok (.lastore, 1) := by decide +kernel
theorem d_MD_step_245 : decode prog_6_method_5_code 245 = .ok (.aload_n 0, 1) := by decide +kernel
theorem d_MD_step_246 : decode prog_6_method_5_code 246 = .ok (.getfield 13, 3) := by decide +kernel
theorem d_MD_step_249 : decode prog_6_method_5_code 249 = .ok (.iload_n 1, 1) := by decide +kernel
theorem d_MD_step_250 : decode prog_6_method_5_code 250 = .ok (.lload 6, 2) := by decide +kernel
theorem d_MD_step_252 : decode prog_6_method_5_code 252 = .ok (.lastore, 1) := by decide +kernel
theorem d_MD_step_253 : decode prog_6_method_5_code 253 = .ok (.return_, 1) := by decide +kernel
theorem d_MD_rotl_0 : decode prog_6_method_3_code 0 = .ok (.iload_n 0, 1) := by decide +kernel
theorem d_MD_rotl_1 : decode prog_6_method_3_code 1 = .ok (.istore_n 2, 1) := by decide +kernel
theorem d_MD_rotl_2 : decode prog_6_method_3_code 2 = .ok (.iconst 0, 1) := by decide +kernel
theorem d_MD_rotl_3 : decode prog_6_method_3_code 3 = .ok (.istore_n 3, 1) := by decide +kernel
theorem d_MD_rotl_4 : decode prog_6_method_3_code 4 = .ok (.iload_n 3, 1) := by decide +kernel
theorem d_MD_rotl_5 : decode prog_6_method_3_code 5 = .ok (.iload_n 1, 1) := by decide +kernel
theorem d_MD_rotl_6 : decode prog_6_method_3_code 6 = .ok (.if_icmp .ge 23, 3) := by decide +kernel
theorem d_MD_rotl_9 : decode prog_6_method_3_code 9 = .ok (.iload_n 2, 1) := by decide +kernel
theorem d_MD_rotl_10 : decode prog_6_method_3_code 10 = .ok (.iconst 1, 1) := by decide +kernel
theorem d_MD_rotl_11 : decode prog_6_method_3_code 11 = .ok (.ishl, 1) := by decide +kernel
theorem d_MD_rotl_12 : decode prog_6_method_3_code 12 = .ok (.iload_n 2, 1) := by decide +kernel
theorem d_MD_rotl_13 : decode prog_6_method_3_code 13 = .ok (.ifCond .ge 7, 3) := by decide +kernel
theorem d_MD_rotl_16 : decode prog_6_method_3_code 16 = .ok (.iconst 1, 1) := by decide +kernel
theorem d_MD_rotl_17 : decode prog_6_method_3_code 17 = .ok (.goto 4, 3) := by decide +kernel
theorem d_MD_rotl_20 : decode prog_6_method_3_code 20 = .ok (.iconst 0, 1) := by decide +kernel
theorem d_MD_rotl_21 : decode prog_6_method_3_code 21 = .ok (.iadd, 1) := by decide +kernel
theorem d_MD_rotl_22 : decode prog_6_method_3_code 22 = .ok (.istore_n 2, 1) := by decide +kernel
theorem d_MD_rotl_23 : decode prog_6_method_3_code 23 = .ok (.iinc 3 1, 3) := by decide +kernel
theorem d_MD_rotl_26 : decode prog_6_method_3_code 26 = .ok (.goto (-22), 3) := by decide +kernel
theorem d_MD_rotl_29 : decode prog_6_method_3_code 29 = .ok (.iload_n 2, 1) := by decide +kernel
theorem d_MD_rotl_30 : decode prog_6_method_3_code 30 = .ok (.ireturn, 1) := by decide +kernel
theorem d_MD_rounds_0 : decode prog_6_method_6_code 0 = .ok (.lload_n 2, 1) := by decide +kernel
theorem d_MD_rounds_1 : decode prog_6_method_6_code 1 = .ok (.ldc2_w 69, 3) := by decide +kernel
theorem d_MD_rounds_4 : decode prog_6_method_6_code 4 = .ok (.ldiv, 1) := by decide +kernel
theorem d_MD_rounds_5 : decode prog_6_method_6_code 5 = .ok (.l2i, 1) := by decide +kernel
theorem d_MD_rounds_6 : decode prog_6_method_6_code 6 = .ok (.istore 4, 2) := by decide +kernel
theorem d_MD_rounds_8 : decode prog_6_method_6_code 8 = .ok (.lload_n 2, 1) := by decide +kernel
theorem d_MD_rounds_9 : decode prog_6_method_6_code 9 = .ok (.bipush 33, 2) := by decide +kernel
theorem d_MD_rounds_11 : decode prog_6_method_6_code 11 = .ok (.lushr, 1) := by decide +kernel
theorem d_MD_rounds_12 : decode prog_6_method_6_code 12 = .ok (.l2i, 1) := by decide +kernel
theorem d_MD_rounds_13 : decode prog_6_method_6_code 13 = .ok (.istore 5, 2) := by decide +kernel
theorem d_MD_rounds_15 : decode prog_6_method_6_code 15 = .ok (.iload_n 1, 1) := by decide +kernel
theorem d_MD_rounds_16 : decode prog_6_method_6_code 16 = .ok (.istore 6, 2) := by decide +kernel
theorem d_MD_rounds_18 : decode prog_6_method_6_code 18 = .ok (.iconst 0, 1) := by decide +kernel
theorem d_MD_rounds_19 : decode prog_6_method_6_code 19 = .ok (.istore 7, 2) := by decide +kernel
theorem d_MD_rounds_21 : decode prog_6_method_6_code 21 = .ok (.iload 7, 2) := by decide +kernel
theorem d_MD_rounds_23 : decode prog_6_method_6_code 23 = .ok (.bipush 10, 2) := by decide +kernel
theorem d_MD_rounds_25 : decode prog_6_method_6_code 25 = .ok (.if_icmp .ge 48, 3) := by decide +kernel
theorem d_MD_rounds_28 : decode prog_6_method_6_code 28 = .ok (.aload_n 0, 1) := by decide +kernel
theorem d_MD_rounds_29 : decode prog_6_method_6_code 29 = .ok (.iload 4, 2) := by decide +kernel
theorem d_MD_rounds_31 : decode prog_6_method_6_code 31 = .ok (.invokestatic 71, 3) := by decide +kernel
theorem d_MD_rounds_34 : decode prog_6_method_6_code 34 = .ok (.ldc2_w 75, 3) := by decide +kernel
theorem d_MD_rounds_37 : decode prog_6_method_6_code 37 = .ok (.invokevirtual 77, 3) := by decide +kernel
theorem d_MD_rounds_40 : decode prog_6_method_6_code 40 = .ok (.aload_n 0, 1) := by decide +kernel
theorem d_MD_rounds_41 : decode prog_6_method_6_code 41 = .ok (.getfield 43, 3) := by decide +kernel
theorem d_MD_rounds_44 : decode prog_6_method_6_code 44 = .ok (.l2i, 1) := by decide +kernel
theorem d_MD_rounds_45 : decode prog_6_method_6_code 45 = .ok (.iload 6, 2) := by decide +kernel
theorem d_MD_rounds_47 : decode prog_6_method_6_code 47 = .ok (.ixor, 1) := by decide +kernel
theorem d_MD_rounds_48 : decode prog_6_method_6_code 48 = .ok (.iload 5, 2) := by decide +kernel
theorem d_MD_rounds_50 : decode prog_6_method_6_code 50 = .ok (.ixor, 1) := by decide +kernel
theorem d_MD_rounds_51 : decode prog_6_method_6_code 51 = .ok (.istore 4, 2) := by decide +kernel
theorem d_MD_rounds_53 : decode prog_6_method_6_code 53 = .ok (.aload_n 0, 1) := by decide +kernel
theorem d_MD_rounds_54 : decode prog_6_method_6_code 54 = .ok (.getfield 39, 3) := by decide +kernel
theorem d_MD_rounds_57 : decode prog_6_method_6_code 57 = .ok (.l2i, 1) := by decide +kernel
theorem d_MD_rounds_58 : decode prog_6_method_6_code 58 = .ok (.istore 5, 2) := by decide +kernel
theorem d_MD_rounds_60 : decode prog_6_method_6_code 60 = .ok (.iload 6, 2) := by decide +kernel
theorem d_MD_rounds_62 : decode prog_6_method_6_code 62 = .ok (.ldc 81, 2) := by decide +kernel
theorem d_MD_rounds_64 : decode prog_6_method_6_code 64 = .ok (.iadd, 1) := by decide +kernel
theorem d_MD_rounds_65 : decode prog_6_method_6_code 65 = .ok (.istore 6, 2) := by decide +kernel
theorem d_MD_rounds_67 : decode prog_6_method_6_code 67 = .ok (.iinc 7 1, 3) := by decide +kernel
theorem d_MD_rounds_70 : decode prog_6_method_6_code 70 = .ok (.goto (-49), 3) := by decide +kernel
theorem d_MD_rounds_73 : decode prog_6_method_6_code 73 = .ok (.aload_n 0, 1) := by decide +kernel
theorem d_MD_rounds_74 : decode prog_6_method_6_code 74 = .ok (.lload_n 2, 1) := by decide +kernel
theorem d_MD_rounds_75 : decode prog_6_method_6_code 75 = .ok (.ldc2_w 69, 3) := by decide +kernel
theorem d_MD_rounds_78 : decode prog_6_method_6_code 78 = .ok (.lrem, 1) := by decide +kernel
theorem d_MD_rounds_79 : decode prog_6_method_6_code 79 = .ok (.lconst 0, 1) := by decide +kernel
theorem d_MD_rounds_80 : decode prog_6_method_6_code 80 = .ok (.lcmp, 1) := by decide +kernel
theorem d_MD_rounds_81 : decode prog_6_method_6_code 81 = .ok (.ifCond .ne 8, 3) := by decide +kernel
theorem d_MD_rounds_84 : decode prog_6_method_6_code 84 = .ok (.iload 4, 2) := by decide +kernel
theorem d_MD_rounds_86 : decode prog_6_method_6_code 86 = .ok (.goto 5, 3) := by decide +kernel
theorem d_MD_rounds_89 : decode prog_6_method_6_code 89 = .ok (.iload 5, 2) := by decide +kernel
theorem d_MD_rounds_91 : decode prog_6_method_6_code 91 = .ok (.putfield 50, 3) := by decide +kernel
theorem d_MD_rounds_94 : decode prog_6_method_6_code 94 = .ok (.return_, 1) := by decide +kernel
theorem d_MD_multiply_0 : decode prog_6_method_4_code 0 = .ok (.lload_n 1, 1) := by decide +kernel
theorem d_MD_multiply_1 : decode prog_6_method_4_code 1 = .ok (.ldc2_w 37, 3) := by decide +kernel
theorem d_MD_multiply_4 : decode prog_6_method_4_code 4 = .ok (.ldiv, 1) := by decide +kernel
theorem d_MD_multiply_5 : decode prog_6_method_4_code 5 = .ok (.lstore 5, 2) := by decide +kernel
theorem d_MD_multiply_7 : decode prog_6_method_4_code 7 = .ok (.lload_n 1, 1) := by decide +kernel
theorem d_MD_multiply_8 : decode prog_6_method_4_code 8 = .ok (.ldc2_w 37, 3) := by decide +kernel
theorem d_MD_multiply_11 : decode prog_6_method_4_code 11 = .ok (.lrem, 1) := by decide +kernel
theorem d_MD_multiply_12 : decode prog_6_method_4_code 12 = .ok (.lstore 7, 2) := by decide +kernel
theorem d_MD_multiply_14 : decode prog_6_method_4_code 14 = .ok (.lload_n 3, 1) := by decide +kernel
theorem d_MD_multiply_15 : decode prog_6_method_4_code 15 = .ok (.ldc2_w 37, 3) := by decide +kernel
theorem d_MD_multiply_18 : decode prog_6_method_4_code 18 = .ok (.ldiv, 1) := by decide +kernel
theorem d_MD_multiply_19 : decode prog_6_method_4_code 19 = .ok (.lstore 9, 2) := by decide +kernel
theorem d_MD_multiply_21 : decode prog_6_method_4_code 21 = .ok (.lload_n 3, 1) := by decide +kernel
theorem d_MD_multiply_22 : decode prog_6_method_4_code 22 = .ok (.ldc2_w 37, 3) := by decide +kernel
theorem d_MD_multiply_25 : decode prog_6_method_4_code 25 = .ok (.lrem, 1) := by decide +kernel
theorem d_MD_multiply_26 : decode prog_6_method_4_code 26 = .ok (.lstore 11, 2) := by decide +kernel
theorem d_MD_multiply_28 : decode prog_6_method_4_code 28 = .ok (.lload 7, 2) := by decide +kernel
theorem d_MD_multiply_30 : decode prog_6_method_4_code 30 = .ok (.lload 11, 2) := by decide +kernel
theorem d_MD_multiply_32 : decode prog_6_method_4_code 32 = .ok (.lmul, 1) := by decide +kernel
theorem d_MD_multiply_33 : decode prog_6_method_4_code 33 = .ok (.lstore 13, 2) := by decide +kernel
theorem d_MD_multiply_35 : decode prog_6_method_4_code 35 = .ok (.lload 5, 2) := by decide +kernel
theorem d_MD_multiply_37 : decode prog_6_method_4_code 37 = .ok (.lload 11, 2) := by decide +kernel
theorem d_MD_multiply_39 : decode prog_6_method_4_code 39 = .ok (.lmul, 1) := by decide +kernel
theorem d_MD_multiply_40 : decode prog_6_method_4_code 40 = .ok (.lload 13, 2) := by decide +kernel
theorem d_MD_multiply_42 : decode prog_6_method_4_code 42 = .ok (.ldc2_w 37, 3) := by decide +kernel
theorem d_MD_multiply_45 : decode prog_6_method_4_code 45 = .ok (.ldiv, 1) := by decide +kernel
theorem d_MD_multiply_46 : decode prog_6_method_4_code 46 = .ok (.ladd, 1) := by decide +kernel
theorem d_MD_multiply_47 : decode prog_6_method_4_code 47 = .ok (.lstore 15, 2) := by decide +kernel
theorem d_MD_multiply_49 : decode prog_6_method_4_code 49 = .ok (.lload 7, 2) := by decide +kernel
theorem d_MD_multiply_51 : decode prog_6_method_4_code 51 = .ok (.lload 9, 2) := by decide +kernel
theorem d_MD_multiply_53 : decode prog_6_method_4_code 53 = .ok (.lmul, 1) := by decide +kernel
theorem d_MD_multiply_54 : decode prog_6_method_4_code 54 = .ok (.lload 15, 2) := by decide +kernel
theorem d_MD_multiply_56 : decode prog_6_method_4_code 56 = .ok (.ldc2_w 37, 3) := by decide +kernel
theorem d_MD_multiply_59 : decode prog_6_method_4_code 59 = .ok (.lrem, 1) := by decide +kernel
theorem d_MD_multiply_60 : decode prog_6_method_4_code 60 = .ok (.ladd, 1) := by decide +kernel
theorem d_MD_multiply_61 : decode prog_6_method_4_code 61 = .ok (.lstore 17, 2) := by decide +kernel
theorem d_MD_multiply_63 : decode prog_6_method_4_code 63 = .ok (.aload_n 0, 1) := by decide +kernel
theorem d_MD_multiply_64 : decode prog_6_method_4_code 64 = .ok (.lload 17, 2) := by decide +kernel
theorem d_MD_multiply_66 : decode prog_6_method_4_code 66 = .ok (.ldc2_w 37, 3) := by decide +kernel
theorem d_MD_multiply_69 : decode prog_6_method_4_code 69 = .ok (.lrem, 1) := by decide +kernel
theorem d_MD_multiply_70 : decode prog_6_method_4_code 70 = .ok (.ldc2_w 37, 3) := by decide +kernel
theorem d_MD_multiply_73 : decode prog_6_method_4_code 73 = .ok (.lmul, 1) := by decide +kernel
theorem d_MD_multiply_74 : decode prog_6_method_4_code 74 = .ok (.lload 13, 2) := by decide +kernel
theorem d_MD_multiply_76 : decode prog_6_method_4_code 76 = .ok (.ldc2_w 37, 3) := by decide +kernel
theorem d_MD_multiply_79 : decode prog_6_method_4_code 79 = .ok (.lrem, 1) := by decide +kernel
theorem d_MD_multiply_80 : decode prog_6_method_4_code 80 = .ok (.ladd, 1) := by decide +kernel
theorem d_MD_multiply_81 : decode prog_6_method_4_code 81 = .ok (.putfield 39, 3) := by decide +kernel
theorem d_MD_multiply_84 : decode prog_6_method_4_code 84 = .ok (.aload_n 0, 1) := by decide +kernel
theorem d_MD_multiply_85 : decode prog_6_method_4_code 85 = .ok (.lload 5, 2) := by decide +kernel
theorem d_MD_multiply_87 : decode prog_6_method_4_code 87 = .ok (.lload 9, 2) := by decide +kernel
theorem d_MD_multiply_89 : decode prog_6_method_4_code 89 = .ok (.lmul, 1) := by decide +kernel
theorem d_MD_multiply_90 : decode prog_6_method_4_code 90 = .ok (.lload 15, 2) := by decide +kernel
theorem d_MD_multiply_92 : decode prog_6_method_4_code 92 = .ok (.ldc2_w 37, 3) := by decide +kernel
theorem d_MD_multiply_95 : decode prog_6_method_4_code 95 = .ok (.ldiv, 1) := by decide +kernel
theorem d_MD_multiply_96 : decode prog_6_method_4_code 96 = .ok (.ladd, 1) := by decide +kernel
theorem d_MD_multiply_97 : decode prog_6_method_4_code 97 = .ok (.lload 17, 2) := by decide +kernel
theorem d_MD_multiply_99 : decode prog_6_method_4_code 99 = .ok (.ldc2_w 37, 3) := by decide +kernel
theorem d_MD_multiply_102 : decode prog_6_method_4_code 102 = .ok (.ldiv, 1) := by decide +kernel
theorem d_MD_multiply_103 : decode prog_6_method_4_code 103 = .ok (.ladd, 1) := by decide +kernel
theorem d_MD_multiply_104 : decode prog_6_method_4_code 104 = .ok (.putfield 43, 3) := by decide +kernel
theorem d_MD_multiply_107 : decode prog_6_method_4_code 107 = .ok (.return_, 1) := by decide +kernel
theorem d_MD_jump_0 : decode prog_6_method_16_code 0 = .ok (.aload_n 0, 1) := by decide +kernel
theorem d_MD_jump_1 : decode prog_6_method_16_code 1 = .ok (.iload_n 1, 1) := by decide +kernel
theorem d_MD_jump_2 : decode prog_6_method_16_code 2 = .ok (.invokevirtual 109, 3) := by decide +kernel
theorem d_MD_jump_5 : decode prog_6_method_16_code 5 = .ok (.ifCond .eq 13, 3) := by decide +kernel
theorem d_MD_jump_8 : decode prog_6_method_16_code 8 = .ok (.iload_n 2, 1) := by decide +kernel
theorem d_MD_jump_9 : decode prog_6_method_16_code 9 = .ok (.ifCond .lt 9, 3) := by decide +kernel
theorem d_MD_jump_12 : decode prog_6_method_16_code 12 = .ok (.iload_n 2, 1) := by decide +kernel
theorem d_MD_jump_13 : decode prog_6_method_16_code 13 = .ok (.ldc 119, 2) := by decide +kernel
theorem d_MD_jump_15 : decode prog_6_method_16_code 15 = .ok (.if_icmp .le 5, 3) := by decide +kernel
theorem d_MD_jump_18 : decode prog_6_method_16_code 18 = .ok (.iconst 0, 1) := by decide +kernel
theorem d_MD_jump_19 : decode prog_6_method_16_code 19 = .ok (.ireturn, 1) := by decide +kernel
theorem d_MD_jump_20 : decode prog_6_method_16_code 20 = .ok (.iconst 0, 1) := by decide +kernel
theorem d_MD_jump_21 : decode prog_6_method_16_code 21 = .ok (.istore_n 3, 1) := by decide +kernel
theorem d_MD_jump_22 : decode prog_6_method_16_code 22 = .ok (.iload_n 3, 1) := by decide +kernel
theorem d_MD_jump_23 : decode prog_6_method_16_code 23 = .ok (.iload_n 2, 1) := by decide +kernel
theorem d_MD_jump_24 : decode prog_6_method_16_code 24 = .ok (.if_icmp .ge 14, 3) := by decide +kernel
theorem d_MD_jump_27 : decode prog_6_method_16_code 27 = .ok (.aload_n 0, 1) := by decide +kernel
theorem d_MD_jump_28 : decode prog_6_method_16_code 28 = .ok (.iload_n 1, 1) := by decide +kernel
theorem d_MD_jump_29 : decode prog_6_method_16_code 29 = .ok (.invokevirtual 115, 3) := by decide +kernel
theorem d_MD_jump_32 : decode prog_6_method_16_code 32 = .ok (.iinc 3 1, 3) := by decide +kernel
theorem d_MD_jump_35 : decode prog_6_method_16_code 35 = .ok (.goto (-13), 3) := by decide +kernel
theorem d_MD_jump_38 : decode prog_6_method_16_code 38 = .ok (.iconst 1, 1) := by decide +kernel
theorem d_MD_jump_39 : decode prog_6_method_16_code 39 = .ok (.ireturn, 1) := by decide +kernel
theorem d_MD_draw_0 : decode prog_6_method_18_code 0 = .ok (.aload_n 0, 1) := by decide +kernel
theorem d_MD_draw_1 : decode prog_6_method_18_code 1 = .ok (.iload_n 1, 1) := by decide +kernel
theorem d_MD_draw_2 : decode prog_6_method_18_code 2 = .ok (.invokevirtual 109, 3) := by decide +kernel
theorem d_MD_draw_5 : decode prog_6_method_18_code 5 = .ok (.ifCond .eq 8, 3) := by decide +kernel
theorem d_MD_draw_8 : decode prog_6_method_18_code 8 = .ok (.iload_n 2, 1) := by decide +kernel
theorem d_MD_draw_9 : decode prog_6_method_18_code 9 = .ok (.iconst 1, 1) := by decide +kernel
theorem d_MD_draw_10 : decode prog_6_method_18_code 10 = .ok (.if_icmp .ge 7, 3) := by decide +kernel
theorem d_MD_draw_13 : decode prog_6_method_18_code 13 = .ok (.iconst (-1), 1) := by decide +kernel
theorem d_MD_draw_14 : decode prog_6_method_18_code 14 = .ok (.goto 9, 3) := by decide +kernel
theorem d_MD_draw_17 : decode prog_6_method_18_code 17 = .ok (.aload_n 0, 1) := by decide +kernel
theorem d_MD_draw_18 : decode prog_6_method_18_code 18 = .ok (.iload_n 1, 1) := by decide +kernel
theorem d_MD_draw_19 : decode prog_6_method_18_code 19 = .ok (.iload_n 2, 1) := by decide +kernel
theorem d_MD_draw_20 : decode prog_6_method_18_code 20 = .ok (.invokevirtual 120, 3) := by decide +kernel
theorem d_MD_draw_23 : decode prog_6_method_18_code 23 = .ok (.ireturn, 1) := by decide +kernel
theorem d_MD_below_0 : decode prog_6_method_17_code 0 = .ok (.ldc2_w 35, 3) := by decide +kernel
theorem d_MD_below_3 : decode prog_6_method_17_code 3 = .ok (.iload_n 2, 1) := by decide +kernel
theorem d_MD_below_4 : decode prog_6_method_17_code 4 = .ok (.i2l, 1) := by decide +kernel
theorem d_MD_below_5 : decode prog_6_method_17_code 5 = .ok (.lrem, 1) := by decide +kernel
theorem d_MD_below_6 : decode prog_6_method_17_code 6 = .ok (.lstore_n 3, 1) := by decide +kernel
theorem d_MD_below_7 : decode prog_6_method_17_code 7 = .ok (.iconst 1, 1) := by decide +kernel
theorem d_MD_below_8 : decode prog_6_method_17_code 8 = .ok (.istore 5, 2) := by decide +kernel
theorem d_MD_below_10 : decode prog_6_method_17_code 10 = .ok (.iload 5, 2) := by decide +kernel
theorem d_MD_below_12 : decode prog_6_method_17_code 12 = .ok (.bipush 8, 2) := by decide +kernel
theorem d_MD_below_14 : decode prog_6_method_17_code 14 = .ok (.if_icmp .gt 49, 3) := by decide +kernel
theorem d_MD_below_17 : decode prog_6_method_17_code 17 = .ok (.aload_n 0, 1) := by decide +kernel
theorem d_MD_below_18 : decode prog_6_method_17_code 18 = .ok (.iload_n 1, 1) := by decide +kernel
theorem d_MD_below_19 : decode prog_6_method_17_code 19 = .ok (.invokevirtual 115, 3) := by decide +kernel
theorem d_MD_below_22 : decode prog_6_method_17_code 22 = .ok (.aload_n 0, 1) := by decide +kernel
theorem d_MD_below_23 : decode prog_6_method_17_code 23 = .ok (.aload_n 0, 1) := by decide +kernel
theorem d_MD_below_24 : decode prog_6_method_17_code 24 = .ok (.getfield 50, 3) := by decide +kernel
theorem d_MD_below_27 : decode prog_6_method_17_code 27 = .ok (.invokestatic 71, 3) := by decide +kernel
theorem d_MD_below_30 : decode prog_6_method_17_code 30 = .ok (.iload_n 2, 1) := by decide +kernel
theorem d_MD_below_31 : decode prog_6_method_17_code 31 = .ok (.i2l, 1) := by decide +kernel
theorem d_MD_below_32 : decode prog_6_method_17_code 32 = .ok (.invokevirtual 77, 3) := by decide +kernel
theorem d_MD_below_35 : decode prog_6_method_17_code 35 = .ok (.aload_n 0, 1) := by decide +kernel
theorem d_MD_below_36 : decode prog_6_method_17_code 36 = .ok (.getfield 39, 3) := by decide +kernel
theorem d_MD_below_39 : decode prog_6_method_17_code 39 = .ok (.lload_n 3, 1) := by decide +kernel
theorem d_MD_below_40 : decode prog_6_method_17_code 40 = .ok (.lcmp, 1) := by decide +kernel
theorem d_MD_below_41 : decode prog_6_method_17_code 41 = .ok (.ifCond .ge 10, 3) := by decide +kernel
theorem d_MD_below_44 : decode prog_6_method_17_code 44 = .ok (.iload 5, 2) := by decide +kernel
theorem d_MD_below_46 : decode prog_6_method_17_code 46 = .ok (.bipush 8, 2) := by decide +kernel
theorem d_MD_below_48 : decode prog_6_method_17_code 48 = .ok (.if_icmp .ne 9, 3) := by decide +kernel
theorem d_MD_below_51 : decode prog_6_method_17_code 51 = .ok (.aload_n 0, 1) := by decide +kernel
theorem d_MD_below_52 : decode prog_6_method_17_code 52 = .ok (.getfield 43, 3) := by decide +kernel
theorem d_MD_below_55 : decode prog_6_method_17_code 55 = .ok (.l2i, 1) := by decide +kernel
theorem d_MD_below_56 : decode prog_6_method_17_code 56 = .ok (.ireturn, 1) := by decide +kernel
theorem d_MD_below_57 : decode prog_6_method_17_code 57 = .ok (.iinc 5 1, 3) := by decide +kernel
theorem d_MD_below_60 : decode prog_6_method_17_code 60 = .ok (.goto (-50), 3) := by decide +kernel
theorem d_MD_below_63 : decode prog_6_method_17_code 63 = .ok (.iconst 0, 1) := by decide +kernel
theorem d_MD_below_64 : decode prog_6_method_17_code 64 = .ok (.ireturn, 1) := by decide +kernel
theorem d_MD_same_0 : decode prog_6_method_19_code 0 = .ok (.aload_n 0, 1) := by decide +kernel
theorem d_MD_same_1 : decode prog_6_method_19_code 1 = .ok (.iload_n 1, 1) := by decide +kernel
theorem d_MD_same_2 : decode prog_6_method_19_code 2 = .ok (.invokevirtual 109, 3) := by decide +kernel
theorem d_MD_same_5 : decode prog_6_method_19_code 5 = .ok (.ifCond .eq 62, 3) := by decide +kernel
theorem d_MD_same_8 : decode prog_6_method_19_code 8 = .ok (.aload_n 0, 1) := by decide +kernel
theorem d_MD_same_9 : decode prog_6_method_19_code 9 = .ok (.iload_n 2, 1) := by decide +kernel
theorem d_MD_same_10 : decode prog_6_method_19_code 10 = .ok (.invokevirtual 109, 3) := by decide +kernel
theorem d_MD_same_13 : decode prog_6_method_19_code 13 = .ok (.ifCond .eq 54, 3) := by decide +kernel
theorem d_MD_same_16 : decode prog_6_method_19_code 16 = .ok (.aload_n 0, 1) := by decide +kernel
theorem d_MD_same_17 : decode prog_6_method_19_code 17 = .ok (.getfield 7, 3) := by decide +kernel
theorem d_MD_same_20 : decode prog_6_method_19_code 20 = .ok (.iload_n 1, 1) := by decide +kernel
theorem d_MD_same_21 : decode prog_6_method_19_code 21 = .ok (.iaload, 1) := by decide +kernel
theorem d_MD_same_22 : decode prog_6_method_19_code 22 = .ok (.aload_n 0, 1) := by decide +kernel
theorem d_MD_same_23 : decode prog_6_method_19_code 23 = .ok (.getfield 7, 3) := by decide +kernel
theorem d_MD_same_26 : decode prog_6_method_19_code 26 = .ok (.iload_n 2, 1) := by decide +kernel
theorem d_MD_same_27 : decode prog_6_method_19_code 27 = .ok (.iaload, 1) := by decide +kernel
theorem d_MD_same_28 : decode prog_6_method_19_code 28 = .ok (.if_icmp .ne 39, 3) := by decide +kernel
theorem d_MD_same_31 : decode prog_6_method_19_code 31 = .ok (.aload_n 0, 1) := by decide +kernel
theorem d_MD_same_32 : decode prog_6_method_19_code 32 = .ok (.getfield 13, 3) := by decide +kernel
theorem d_MD_same_35 : decode prog_6_method_19_code 35 = .ok (.iload_n 1, 1) := by decide +kernel
theorem d_MD_same_36 : decode prog_6_method_19_code 36 = .ok (.laload, 1) := by decide +kernel
theorem d_MD_same_37 : decode prog_6_method_19_code 37 = .ok (.aload_n 0, 1) := by decide +kernel
theorem d_MD_same_38 : decode prog_6_method_19_code 38 = .ok (.getfield 13, 3) := by decide +kernel
theorem d_MD_same_41 : decode prog_6_method_19_code 41 = .ok (.iload_n 2, 1) := by decide +kernel
theorem d_MD_same_42 : decode prog_6_method_19_code 42 = .ok (.laload, 1) := by decide +kernel
theorem d_MD_same_43 : decode prog_6_method_19_code 43 = .ok (.lcmp, 1) := by decide +kernel
theorem d_MD_same_44 : decode prog_6_method_19_code 44 = .ok (.ifCond .ne 23, 3) := by decide +kernel
theorem d_MD_same_47 : decode prog_6_method_19_code 47 = .ok (.aload_n 0, 1) := by decide +kernel
theorem d_MD_same_48 : decode prog_6_method_19_code 48 = .ok (.getfield 17, 3) := by decide +kernel
theorem d_MD_same_51 : decode prog_6_method_19_code 51 = .ok (.iload_n 1, 1) := by decide +kernel
theorem d_MD_same_52 : decode prog_6_method_19_code 52 = .ok (.laload, 1) := by decide +kernel
theorem d_MD_same_53 : decode prog_6_method_19_code 53 = .ok (.aload_n 0, 1) := by decide +kernel
theorem d_MD_same_54 : decode prog_6_method_19_code 54 = .ok (.getfield 17, 3) := by decide +kernel
theorem d_MD_same_57 : decode prog_6_method_19_code 57 = .ok (.iload_n 2, 1) := by decide +kernel
theorem d_MD_same_58 : decode prog_6_method_19_code 58 = .ok (.laload, 1) := by decide +kernel
theorem d_MD_same_59 : decode prog_6_method_19_code 59 = .ok (.lcmp, 1) := by decide +kernel
theorem d_MD_same_60 : decode prog_6_method_19_code 60 = .ok (.ifCond .ne 7, 3) := by decide +kernel
theorem d_MD_same_63 : decode prog_6_method_19_code 63 = .ok (.iconst 1, 1) := by decide +kernel
theorem d_MD_same_64 : decode prog_6_method_19_code 64 = .ok (.goto 4, 3) := by decide +kernel
theorem d_MD_same_67 : decode prog_6_method_19_code 67 = .ok (.iconst 0, 1) := by decide +kernel
theorem d_MD_same_68 : decode prog_6_method_19_code 68 = .ok (.ireturn, 1) := by decide +kernel
theorem d_MD_save_0 : decode prog_6_method_23_code 0 = .ok (.aload_n 0, 1) := by decide +kernel
theorem d_MD_save_1 : decode prog_6_method_23_code 1 = .ok (.iload_n 1, 1) := by decide +kernel
theorem d_MD_save_2 : decode prog_6_method_23_code 2 = .ok (.invokevirtual 109, 3) := by decide +kernel
theorem d_MD_save_5 : decode prog_6_method_23_code 5 = .ok (.ifCond .eq 12, 3) := by decide +kernel
theorem d_MD_save_8 : decode prog_6_method_23_code 8 = .ok (.aload_n 0, 1) := by decide +kernel
theorem d_MD_save_9 : decode prog_6_method_23_code 9 = .ok (.getfield 123, 3) := by decide +kernel
theorem d_MD_save_12 : decode prog_6_method_23_code 12 = .ok (.bipush 6, 2) := by decide +kernel
theorem d_MD_save_14 : decode prog_6_method_23_code 14 = .ok (.if_icmp .ne 5, 3) := by decide +kernel
theorem d_MD_save_17 : decode prog_6_method_23_code 17 = .ok (.iconst (-1), 1) := by decide +kernel
theorem d_MD_save_18 : decode prog_6_method_23_code 18 = .ok (.ireturn, 1) := by decide +kernel
theorem d_MD_save_19 : decode prog_6_method_23_code 19 = .ok (.aload_n 0, 1) := by decide +kernel
theorem d_MD_save_20 : decode prog_6_method_23_code 20 = .ok (.getfield 20, 3) := by decide +kernel
theorem d_MD_save_23 : decode prog_6_method_23_code 23 = .ok (.aload_n 0, 1) := by decide +kernel
theorem d_MD_save_24 : decode prog_6_method_23_code 24 = .ok (.getfield 123, 3) := by decide +kernel
theorem d_MD_save_27 : decode prog_6_method_23_code 27 = .ok (.iconst 0, 1) := by decide +kernel
theorem d_MD_save_28 : decode prog_6_method_23_code 28 = .ok (.iastore, 1) := by decide +kernel
theorem d_MD_save_29 : decode prog_6_method_23_code 29 = .ok (.aload_n 0, 1) := by decide +kernel
theorem d_MD_save_30 : decode prog_6_method_23_code 30 = .ok (.ldc 129, 2) := by decide +kernel
theorem d_MD_save_32 : decode prog_6_method_23_code 32 = .ok (.aload_n 0, 1) := by decide +kernel
theorem d_MD_save_33 : decode prog_6_method_23_code 33 = .ok (.getfield 7, 3) := by decide +kernel
theorem d_MD_save_36 : decode prog_6_method_23_code 36 = .ok (.iload_n 1, 1) := by decide +kernel
theorem d_MD_save_37 : decode prog_6_method_23_code 37 = .ok (.iaload, 1) := by decide +kernel
theorem d_MD_save_38 : decode prog_6_method_23_code 38 = .ok (.iadd, 1) := by decide +kernel
theorem d_MD_save_39 : decode prog_6_method_23_code 39 = .ok (.invokevirtual 126, 3) := by decide +kernel
theorem d_MD_save_42 : decode prog_6_method_23_code 42 = .ok (.aload_n 0, 1) := by decide +kernel
theorem d_MD_save_43 : decode prog_6_method_23_code 43 = .ok (.getfield 7, 3) := by decide +kernel
theorem d_MD_save_46 : decode prog_6_method_23_code 46 = .ok (.iload_n 1, 1) := by decide +kernel
theorem d_MD_save_47 : decode prog_6_method_23_code 47 = .ok (.iaload, 1) := by decide +kernel
theorem d_MD_save_48 : decode prog_6_method_23_code 48 = .ok (.ifCond .ne 16, 3) := by decide +kernel
theorem d_MD_save_51 : decode prog_6_method_23_code 51 = .ok (.aload_n 0, 1) := by decide +kernel
theorem d_MD_save_52 : decode prog_6_method_23_code 52 = .ok (.aload_n 0, 1) := by decide +kernel
theorem d_MD_save_53 : decode prog_6_method_23_code 53 = .ok (.getfield 13, 3) := by decide +kernel
theorem d_MD_save_56 : decode prog_6_method_23_code 56 = .ok (.iload_n 1, 1) := by decide +kernel
theorem d_MD_save_57 : decode prog_6_method_23_code 57 = .ok (.laload, 1) := by decide +kernel
theorem d_MD_save_58 : decode prog_6_method_23_code 58 = .ok (.invokevirtual 130, 3) := by decide +kernel
theorem d_MD_save_61 : decode prog_6_method_23_code 61 = .ok (.goto 14, 3) := by decide +kernel
theorem d_MD_save_64 : decode prog_6_method_23_code 64 = .ok (.aload_n 0, 1) := by decide +kernel
theorem d_MD_save_65 : decode prog_6_method_23_code 65 = .ok (.aload_n 0, 1) := by decide +kernel
theorem d_MD_save_66 : decode prog_6_method_23_code 66 = .ok (.getfield 13, 3) := by decide +kernel
theorem d_MD_save_69 : decode prog_6_method_23_code 69 = .ok (.iload_n 1, 1) := by decide +kernel
theorem d_MD_save_70 : decode prog_6_method_23_code 70 = .ok (.laload, 1) := by decide +kernel
theorem d_MD_save_71 : decode prog_6_method_23_code 71 = .ok (.l2i, 1) := by decide +kernel
theorem d_MD_save_72 : decode prog_6_method_23_code 72 = .ok (.invokevirtual 126, 3) := by decide +kernel
theorem d_MD_save_75 : decode prog_6_method_23_code 75 = .ok (.aload_n 0, 1) := by decide +kernel
theorem d_MD_save_76 : decode prog_6_method_23_code 76 = .ok (.getfield 7, 3) := by decide +kernel
theorem d_MD_save_79 : decode prog_6_method_23_code 79 = .ok (.iload_n 1, 1) := by decide +kernel
theorem d_MD_save_80 : decode prog_6_method_23_code 80 = .ok (.iaload, 1) := by decide +kernel
theorem d_MD_save_81 : decode prog_6_method_23_code 81 = .ok (.ifCond .eq 13, 3) := by decide +kernel
theorem d_MD_save_84 : decode prog_6_method_23_code 84 = .ok (.aload_n 0, 1) := by decide +kernel
theorem d_MD_save_85 : decode prog_6_method_23_code 85 = .ok (.getfield 7, 3) := by decide +kernel
theorem d_MD_save_88 : decode prog_6_method_23_code 88 = .ok (.iload_n 1, 1) := by decide +kernel
theorem d_MD_save_89 : decode prog_6_method_23_code 89 = .ok (.iaload, 1) := by decide +kernel
theorem d_MD_save_90 : decode prog_6_method_23_code 90 = .ok (.iconst 2, 1) := by decide +kernel
theorem d_MD_save_91 : decode prog_6_method_23_code 91 = .ok (.if_icmp .ne 16, 3) := by decide +kernel
theorem d_MD_save_94 : decode prog_6_method_23_code 94 = .ok (.aload_n 0, 1) := by decide +kernel
theorem d_MD_save_95 : decode prog_6_method_23_code 95 = .ok (.aload_n 0, 1) := by decide +kernel
theorem d_MD_save_96 : decode prog_6_method_23_code 96 = .ok (.getfield 17, 3) := by decide +kernel
theorem d_MD_save_99 : decode prog_6_method_23_code 99 = .ok (.iload_n 1, 1) := by decide +kernel
theorem d_MD_save_100 : decode prog_6_method_23_code 100 = .ok (.laload, 1) := by decide +kernel
theorem d_MD_save_101 : decode prog_6_method_23_code 101 = .ok (.invokevirtual 130, 3) := by decide +kernel
theorem d_MD_save_104 : decode prog_6_method_23_code 104 = .ok (.goto 14, 3) := by decide +kernel
theorem d_MD_save_107 : decode prog_6_method_23_code 107 = .ok (.aload_n 0, 1) := by decide +kernel
theorem d_MD_save_108 : decode prog_6_method_23_code 108 = .ok (.aload_n 0, 1) := by decide +kernel
theorem d_MD_save_109 : decode prog_6_method_23_code 109 = .ok (.getfield 17, 3) := by decide +kernel
theorem d_MD_save_112 : decode prog_6_method_23_code 112 = .ok (.iload_n 1, 1) := by decide +kernel
theorem d_MD_save_113 : decode prog_6_method_23_code 113 = .ok (.laload, 1) := by decide +kernel
theorem d_MD_save_114 : decode prog_6_method_23_code 114 = .ok (.l2i, 1) := by decide +kernel
theorem d_MD_save_115 : decode prog_6_method_23_code 115 = .ok (.invokevirtual 126, 3) := by decide +kernel
theorem d_MD_save_118 : decode prog_6_method_23_code 118 = .ok (.aload_n 0, 1) := by decide +kernel
theorem d_MD_save_119 : decode prog_6_method_23_code 119 = .ok (.aload_n 0, 1) := by decide +kernel
theorem d_MD_save_120 : decode prog_6_method_23_code 120 = .ok (.getfield 123, 3) := by decide +kernel
theorem d_MD_save_123 : decode prog_6_method_23_code 123 = .ok (.aload_n 0, 1) := by decide +kernel
theorem d_MD_save_124 : decode prog_6_method_23_code 124 = .ok (.getfield 20, 3) := by decide +kernel
theorem d_MD_save_127 : decode prog_6_method_23_code 127 = .ok (.aload_n 0, 1) := by decide +kernel
theorem d_MD_save_128 : decode prog_6_method_23_code 128 = .ok (.getfield 123, 3) := by decide +kernel
theorem d_MD_save_131 : decode prog_6_method_23_code 131 = .ok (.iaload, 1) := by decide +kernel
theorem d_MD_save_132 : decode prog_6_method_23_code 132 = .ok (.invokevirtual 134, 3) := by decide +kernel
theorem d_MD_save_135 : decode prog_6_method_23_code 135 = .ok (.istore_n 2, 1) := by decide +kernel
theorem d_MD_save_136 : decode prog_6_method_23_code 136 = .ok (.aload_n 0, 1) := by decide +kernel
theorem d_MD_save_137 : decode prog_6_method_23_code 137 = .ok (.iload_n 2, 1) := by decide +kernel
theorem d_MD_save_138 : decode prog_6_method_23_code 138 = .ok (.invokevirtual 126, 3) := by decide +kernel
theorem d_MD_save_141 : decode prog_6_method_23_code 141 = .ok (.aload_n 0, 1) := by decide +kernel
theorem d_MD_save_142 : decode prog_6_method_23_code 142 = .ok (.dup, 1) := by decide +kernel
theorem d_MD_save_143 : decode prog_6_method_23_code 143 = .ok (.getfield 123, 3) := by decide +kernel
theorem d_MD_save_146 : decode prog_6_method_23_code 146 = .ok (.iconst 1, 1) := by decide +kernel
theorem d_MD_save_147 : decode prog_6_method_23_code 147 = .ok (.iadd, 1) := by decide +kernel
theorem d_MD_save_148 : decode prog_6_method_23_code 148 = .ok (.putfield 123, 3) := by decide +kernel
theorem d_MD_save_151 : decode prog_6_method_23_code 151 = .ok (.aload_n 0, 1) := by decide +kernel
theorem d_MD_save_152 : decode prog_6_method_23_code 152 = .ok (.getfield 123, 3) := by decide +kernel
theorem d_MD_save_155 : decode prog_6_method_23_code 155 = .ok (.iconst 1, 1) := by decide +kernel
theorem d_MD_save_156 : decode prog_6_method_23_code 156 = .ok (.isub, 1) := by decide +kernel
theorem d_MD_save_157 : decode prog_6_method_23_code 157 = .ok (.ireturn, 1) := by decide +kernel
