/-! Decode rows, printed by wip/whole/names.py. -/
theorem d_NS_init_0 : decode prog_1_method_1_code 0 = .ok (.aload_n 0, 1) := by decide +kernel
theorem d_NS_init_1 : decode prog_1_method_1_code 1 = .ok (.invokespecial 1, 3) := by decide +kernel
theorem d_NS_init_4 : decode prog_1_method_1_code 4 = .ok (.aload_n 0, 1) := by decide +kernel
theorem d_NS_init_5 : decode prog_1_method_1_code 5 = .ok (.bipush 8, 2) := by decide +kernel
theorem d_NS_init_7 : decode prog_1_method_1_code 7 = .ok (.anewarray 9, 3) := by decide +kernel
theorem d_NS_init_10 : decode prog_1_method_1_code 10 = .ok (.putfield 11, 3) := by decide +kernel
theorem d_NS_init_13 : decode prog_1_method_1_code 13 = .ok (.aload_n 0, 1) := by decide +kernel
theorem d_NS_init_14 : decode prog_1_method_1_code 14 = .ok (.bipush 6, 2) := by decide +kernel
theorem d_NS_init_16 : decode prog_1_method_1_code 16 = .ok (.anewarray 15, 3) := by decide +kernel
theorem d_NS_init_19 : decode prog_1_method_1_code 19 = .ok (.putfield 17, 3) := by decide +kernel
theorem d_NS_init_22 : decode prog_1_method_1_code 22 = .ok (.aload_n 0, 1) := by decide +kernel
theorem d_NS_init_23 : decode prog_1_method_1_code 23 = .ok (.iconst 0, 1) := by decide +kernel
theorem d_NS_init_24 : decode prog_1_method_1_code 24 = .ok (.putfield 21, 3) := by decide +kernel
theorem d_NS_init_27 : decode prog_1_method_1_code 27 = .ok (.aload_n 0, 1) := by decide +kernel
theorem d_NS_init_28 : decode prog_1_method_1_code 28 = .ok (.new 25, 3) := by decide +kernel
theorem d_NS_init_31 : decode prog_1_method_1_code 31 = .ok (.dup, 1) := by decide +kernel
theorem d_NS_init_32 : decode prog_1_method_1_code 32 = .ok (.invokespecial 27, 3) := by decide +kernel
theorem d_NS_init_35 : decode prog_1_method_1_code 35 = .ok (.putfield 28, 3) := by decide +kernel
theorem d_NS_init_38 : decode prog_1_method_1_code 38 = .ok (.aload_n 0, 1) := by decide +kernel
theorem d_NS_init_39 : decode prog_1_method_1_code 39 = .ok (.bipush 16, 2) := by decide +kernel
theorem d_NS_init_41 : decode prog_1_method_1_code 41 = .ok (.newarray .int, 2) := by decide +kernel
theorem d_NS_init_43 : decode prog_1_method_1_code 43 = .ok (.putfield 32, 3) := by decide +kernel
theorem d_NS_init_46 : decode prog_1_method_1_code 46 = .ok (.aload_n 0, 1) := by decide +kernel
theorem d_NS_init_47 : decode prog_1_method_1_code 47 = .ok (.bipush 16, 2) := by decide +kernel
theorem d_NS_init_49 : decode prog_1_method_1_code 49 = .ok (.newarray .int, 2) := by decide +kernel
theorem d_NS_init_51 : decode prog_1_method_1_code 51 = .ok (.putfield 36, 3) := by decide +kernel
theorem d_NS_init_54 : decode prog_1_method_1_code 54 = .ok (.iconst 0, 1) := by decide +kernel
theorem d_NS_init_55 : decode prog_1_method_1_code 55 = .ok (.istore_n 1, 1) := by decide +kernel
theorem d_NS_init_56 : decode prog_1_method_1_code 56 = .ok (.iload_n 1, 1) := by decide +kernel
theorem d_NS_init_57 : decode prog_1_method_1_code 57 = .ok (.bipush 16, 2) := by decide +kernel
theorem d_NS_init_59 : decode prog_1_method_1_code 59 = .ok (.if_icmp .ge 16, 3) := by decide +kernel
theorem d_NS_init_62 : decode prog_1_method_1_code 62 = .ok (.aload_n 0, 1) := by decide +kernel
theorem d_NS_init_63 : decode prog_1_method_1_code 63 = .ok (.getfield 36, 3) := by decide +kernel
theorem d_NS_init_66 : decode prog_1_method_1_code 66 = .ok (.iload_n 1, 1) := by decide +kernel
theorem d_NS_init_67 : decode prog_1_method_1_code 67 = .ok (.iload_n 1, 1) := by decide +kernel
theorem d_NS_init_68 : decode prog_1_method_1_code 68 = .ok (.iastore, 1) := by decide +kernel
theorem d_NS_init_69 : decode prog_1_method_1_code 69 = .ok (.iinc 1 1, 3) := by decide +kernel
theorem d_NS_init_72 : decode prog_1_method_1_code 72 = .ok (.goto (-16), 3) := by decide +kernel
theorem d_NS_init_75 : decode prog_1_method_1_code 75 = .ok (.return_, 1) := by decide +kernel
theorem d_PT_init_0 : decode prog_2_method_1_code 0 = .ok (.aload_n 0, 1) := by decide +kernel
theorem d_PT_init_1 : decode prog_2_method_1_code 1 = .ok (.invokespecial 1, 3) := by decide +kernel
theorem d_PT_init_4 : decode prog_2_method_1_code 4 = .ok (.aload_n 0, 1) := by decide +kernel
theorem d_PT_init_5 : decode prog_2_method_1_code 5 = .ok (.iconst 4, 1) := by decide +kernel
theorem d_PT_init_6 : decode prog_2_method_1_code 6 = .ok (.bipush 20, 2) := by decide +kernel
theorem d_PT_init_8 : decode prog_2_method_1_code 8 = .ok (.multianewarray 9 2, 4) := by decide +kernel
theorem d_PT_init_12 : decode prog_2_method_1_code 12 = .ok (.putfield 11, 3) := by decide +kernel
theorem d_PT_init_15 : decode prog_2_method_1_code 15 = .ok (.aload_n 0, 1) := by decide +kernel
theorem d_PT_init_16 : decode prog_2_method_1_code 16 = .ok (.iconst 0, 1) := by decide +kernel
theorem d_PT_init_17 : decode prog_2_method_1_code 17 = .ok (.putfield 14, 3) := by decide +kernel
theorem d_PT_init_20 : decode prog_2_method_1_code 20 = .ok (.iconst 0, 1) := by decide +kernel
theorem d_PT_init_21 : decode prog_2_method_1_code 21 = .ok (.istore_n 1, 1) := by decide +kernel
theorem d_PT_init_22 : decode prog_2_method_1_code 22 = .ok (.iload_n 1, 1) := by decide +kernel
theorem d_PT_init_23 : decode prog_2_method_1_code 23 = .ok (.bipush 20, 2) := by decide +kernel
theorem d_PT_init_25 : decode prog_2_method_1_code 25 = .ok (.if_icmp .ge 18, 3) := by decide +kernel
theorem d_PT_init_28 : decode prog_2_method_1_code 28 = .ok (.aload_n 0, 1) := by decide +kernel
theorem d_PT_init_29 : decode prog_2_method_1_code 29 = .ok (.getfield 11, 3) := by decide +kernel
theorem d_PT_init_32 : decode prog_2_method_1_code 32 = .ok (.iconst 0, 1) := by decide +kernel
theorem d_PT_init_33 : decode prog_2_method_1_code 33 = .ok (.aaload, 1) := by decide +kernel
theorem d_PT_init_34 : decode prog_2_method_1_code 34 = .ok (.iload_n 1, 1) := by decide +kernel
theorem d_PT_init_35 : decode prog_2_method_1_code 35 = .ok (.iconst 1, 1) := by decide +kernel
theorem d_PT_init_36 : decode prog_2_method_1_code 36 = .ok (.iastore, 1) := by decide +kernel
theorem d_PT_init_37 : decode prog_2_method_1_code 37 = .ok (.iinc 1 1, 3) := by decide +kernel
theorem d_PT_init_40 : decode prog_2_method_1_code 40 = .ok (.goto (-18), 3) := by decide +kernel
theorem d_PT_init_43 : decode prog_2_method_1_code 43 = .ok (.aload_n 0, 1) := by decide +kernel
theorem d_PT_init_44 : decode prog_2_method_1_code 44 = .ok (.iconst 1, 1) := by decide +kernel
theorem d_PT_init_45 : decode prog_2_method_1_code 45 = .ok (.iconst 1, 1) := by decide +kernel
theorem d_PT_init_46 : decode prog_2_method_1_code 46 = .ok (.iconst 0, 1) := by decide +kernel
theorem d_PT_init_47 : decode prog_2_method_1_code 47 = .ok (.iconst 0, 1) := by decide +kernel
theorem d_PT_init_48 : decode prog_2_method_1_code 48 = .ok (.invokevirtual 18, 3) := by decide +kernel
theorem d_PT_init_51 : decode prog_2_method_1_code 51 = .ok (.aload_n 0, 1) := by decide +kernel
theorem d_PT_init_52 : decode prog_2_method_1_code 52 = .ok (.iconst 1, 1) := by decide +kernel
theorem d_PT_init_53 : decode prog_2_method_1_code 53 = .ok (.iconst 1, 1) := by decide +kernel
theorem d_PT_init_54 : decode prog_2_method_1_code 54 = .ok (.iconst 0, 1) := by decide +kernel
theorem d_PT_init_55 : decode prog_2_method_1_code 55 = .ok (.invokevirtual 22, 3) := by decide +kernel
theorem d_PT_init_58 : decode prog_2_method_1_code 58 = .ok (.aload_n 0, 1) := by decide +kernel
theorem d_PT_init_59 : decode prog_2_method_1_code 59 = .ok (.iconst 2, 1) := by decide +kernel
theorem d_PT_init_60 : decode prog_2_method_1_code 60 = .ok (.iconst 1, 1) := by decide +kernel
theorem d_PT_init_61 : decode prog_2_method_1_code 61 = .ok (.iconst 3, 1) := by decide +kernel
theorem d_PT_init_62 : decode prog_2_method_1_code 62 = .ok (.iconst 0, 1) := by decide +kernel
theorem d_PT_init_63 : decode prog_2_method_1_code 63 = .ok (.invokevirtual 18, 3) := by decide +kernel
theorem d_PT_init_66 : decode prog_2_method_1_code 66 = .ok (.aload_n 0, 1) := by decide +kernel
theorem d_PT_init_67 : decode prog_2_method_1_code 67 = .ok (.iconst 2, 1) := by decide +kernel
theorem d_PT_init_68 : decode prog_2_method_1_code 68 = .ok (.iconst 2, 1) := by decide +kernel
theorem d_PT_init_69 : decode prog_2_method_1_code 69 = .ok (.iconst 1, 1) := by decide +kernel
theorem d_PT_init_70 : decode prog_2_method_1_code 70 = .ok (.invokevirtual 22, 3) := by decide +kernel
theorem d_PT_init_73 : decode prog_2_method_1_code 73 = .ok (.aload_n 0, 1) := by decide +kernel
theorem d_PT_init_74 : decode prog_2_method_1_code 74 = .ok (.iconst 3, 1) := by decide +kernel
theorem d_PT_init_75 : decode prog_2_method_1_code 75 = .ok (.iconst 1, 1) := by decide +kernel
theorem d_PT_init_76 : decode prog_2_method_1_code 76 = .ok (.iconst 3, 1) := by decide +kernel
theorem d_PT_init_77 : decode prog_2_method_1_code 77 = .ok (.iconst 1, 1) := by decide +kernel
theorem d_PT_init_78 : decode prog_2_method_1_code 78 = .ok (.invokevirtual 18, 3) := by decide +kernel
theorem d_PT_init_81 : decode prog_2_method_1_code 81 = .ok (.aload_n 0, 1) := by decide +kernel
theorem d_PT_init_82 : decode prog_2_method_1_code 82 = .ok (.iconst 3, 1) := by decide +kernel
theorem d_PT_init_83 : decode prog_2_method_1_code 83 = .ok (.iconst 3, 1) := by decide +kernel
theorem d_PT_init_84 : decode prog_2_method_1_code 84 = .ok (.iconst 1, 1) := by decide +kernel
theorem d_PT_init_85 : decode prog_2_method_1_code 85 = .ok (.invokevirtual 22, 3) := by decide +kernel
theorem d_PT_init_88 : decode prog_2_method_1_code 88 = .ok (.iconst 0, 1) := by decide +kernel
theorem d_PT_init_89 : decode prog_2_method_1_code 89 = .ok (.istore_n 1, 1) := by decide +kernel
theorem d_PT_init_90 : decode prog_2_method_1_code 90 = .ok (.iload_n 1, 1) := by decide +kernel
theorem d_PT_init_91 : decode prog_2_method_1_code 91 = .ok (.iconst 4, 1) := by decide +kernel
theorem d_PT_init_92 : decode prog_2_method_1_code 92 = .ok (.if_icmp .ge 14, 3) := by decide +kernel
theorem d_PT_init_95 : decode prog_2_method_1_code 95 = .ok (.aload_n 0, 1) := by decide +kernel
theorem d_PT_init_96 : decode prog_2_method_1_code 96 = .ok (.iload_n 1, 1) := by decide +kernel
theorem d_PT_init_97 : decode prog_2_method_1_code 97 = .ok (.invokevirtual 26, 3) := by decide +kernel
theorem d_PT_init_100 : decode prog_2_method_1_code 100 = .ok (.iinc 1 1, 3) := by decide +kernel
theorem d_PT_init_103 : decode prog_2_method_1_code 103 = .ok (.goto (-13), 3) := by decide +kernel
theorem d_PT_init_106 : decode prog_2_method_1_code 106 = .ok (.return_, 1) := by decide +kernel
theorem d_PT_startRow_0 : decode prog_2_method_2_code 0 = .ok (.aload_n 0, 1) := by decide +kernel
theorem d_PT_startRow_1 : decode prog_2_method_2_code 1 = .ok (.getfield 11, 3) := by decide +kernel
theorem d_PT_startRow_4 : decode prog_2_method_2_code 4 = .ok (.iload_n 1, 1) := by decide +kernel
theorem d_PT_startRow_5 : decode prog_2_method_2_code 5 = .ok (.aaload, 1) := by decide +kernel
theorem d_PT_startRow_6 : decode prog_2_method_2_code 6 = .ok (.iconst 0, 1) := by decide +kernel
theorem d_PT_startRow_7 : decode prog_2_method_2_code 7 = .ok (.iload_n 2, 1) := by decide +kernel
theorem d_PT_startRow_8 : decode prog_2_method_2_code 8 = .ok (.iastore, 1) := by decide +kernel
theorem d_PT_startRow_9 : decode prog_2_method_2_code 9 = .ok (.aload_n 0, 1) := by decide +kernel
theorem d_PT_startRow_10 : decode prog_2_method_2_code 10 = .ok (.getfield 11, 3) := by decide +kernel
theorem d_PT_startRow_13 : decode prog_2_method_2_code 13 = .ok (.iload_n 1, 1) := by decide +kernel
theorem d_PT_startRow_14 : decode prog_2_method_2_code 14 = .ok (.aaload, 1) := by decide +kernel
theorem d_PT_startRow_15 : decode prog_2_method_2_code 15 = .ok (.iconst 1, 1) := by decide +kernel
theorem d_PT_startRow_16 : decode prog_2_method_2_code 16 = .ok (.iload_n 3, 1) := by decide +kernel
theorem d_PT_startRow_17 : decode prog_2_method_2_code 17 = .ok (.iastore, 1) := by decide +kernel
theorem d_PT_startRow_18 : decode prog_2_method_2_code 18 = .ok (.aload_n 0, 1) := by decide +kernel
theorem d_PT_startRow_19 : decode prog_2_method_2_code 19 = .ok (.getfield 11, 3) := by decide +kernel
theorem d_PT_startRow_22 : decode prog_2_method_2_code 22 = .ok (.iload_n 1, 1) := by decide +kernel
theorem d_PT_startRow_23 : decode prog_2_method_2_code 23 = .ok (.aaload, 1) := by decide +kernel
theorem d_PT_startRow_24 : decode prog_2_method_2_code 24 = .ok (.iconst 2, 1) := by decide +kernel
theorem d_PT_startRow_25 : decode prog_2_method_2_code 25 = .ok (.iload 4, 2) := by decide +kernel
theorem d_PT_startRow_27 : decode prog_2_method_2_code 27 = .ok (.iastore, 1) := by decide +kernel
theorem d_PT_startRow_28 : decode prog_2_method_2_code 28 = .ok (.return_, 1) := by decide +kernel
theorem d_PT_growRow_0 : decode prog_2_method_3_code 0 = .ok (.aload_n 0, 1) := by decide +kernel
theorem d_PT_growRow_1 : decode prog_2_method_3_code 1 = .ok (.getfield 11, 3) := by decide +kernel
theorem d_PT_growRow_4 : decode prog_2_method_3_code 4 = .ok (.iload_n 1, 1) := by decide +kernel
theorem d_PT_growRow_5 : decode prog_2_method_3_code 5 = .ok (.aaload, 1) := by decide +kernel
theorem d_PT_growRow_6 : decode prog_2_method_3_code 6 = .ok (.astore 4, 2) := by decide +kernel
theorem d_PT_growRow_8 : decode prog_2_method_3_code 8 = .ok (.iload_n 2, 1) := by decide +kernel
theorem d_PT_growRow_9 : decode prog_2_method_3_code 9 = .ok (.istore 5, 2) := by decide +kernel
theorem d_PT_growRow_11 : decode prog_2_method_3_code 11 = .ok (.iload 5, 2) := by decide +kernel
theorem d_PT_growRow_13 : decode prog_2_method_3_code 13 = .ok (.bipush 20, 2) := by decide +kernel
theorem d_PT_growRow_15 : decode prog_2_method_3_code 15 = .ok (.if_icmp .ge 80, 3) := by decide +kernel
theorem d_PT_growRow_18 : decode prog_2_method_3_code 18 = .ok (.aload 4, 2) := by decide +kernel
theorem d_PT_growRow_20 : decode prog_2_method_3_code 20 = .ok (.iload 5, 2) := by decide +kernel
theorem d_PT_growRow_22 : decode prog_2_method_3_code 22 = .ok (.iload_n 2, 1) := by decide +kernel
theorem d_PT_growRow_23 : decode prog_2_method_3_code 23 = .ok (.isub, 1) := by decide +kernel
theorem d_PT_growRow_24 : decode prog_2_method_3_code 24 = .ok (.iaload, 1) := by decide +kernel
theorem d_PT_growRow_25 : decode prog_2_method_3_code 25 = .ok (.aload 4, 2) := by decide +kernel
theorem d_PT_growRow_27 : decode prog_2_method_3_code 27 = .ok (.iload 5, 2) := by decide +kernel
theorem d_PT_growRow_29 : decode prog_2_method_3_code 29 = .ok (.iload_n 2, 1) := by decide +kernel
theorem d_PT_growRow_30 : decode prog_2_method_3_code 30 = .ok (.isub, 1) := by decide +kernel
theorem d_PT_growRow_31 : decode prog_2_method_3_code 31 = .ok (.iaload, 1) := by decide +kernel
theorem d_PT_growRow_32 : decode prog_2_method_3_code 32 = .ok (.iload_n 2, 1) := by decide +kernel
theorem d_PT_growRow_33 : decode prog_2_method_3_code 33 = .ok (.ishl, 1) := by decide +kernel
theorem d_PT_growRow_34 : decode prog_2_method_3_code 34 = .ok (.ixor, 1) := by decide +kernel
theorem d_PT_growRow_35 : decode prog_2_method_3_code 35 = .ok (.istore 6, 2) := by decide +kernel
theorem d_PT_growRow_37 : decode prog_2_method_3_code 37 = .ok (.iconst 1, 1) := by decide +kernel
theorem d_PT_growRow_38 : decode prog_2_method_3_code 38 = .ok (.istore 7, 2) := by decide +kernel
theorem d_PT_growRow_40 : decode prog_2_method_3_code 40 = .ok (.iload 7, 2) := by decide +kernel
theorem d_PT_growRow_42 : decode prog_2_method_3_code 42 = .ok (.iload_n 2, 1) := by decide +kernel
theorem d_PT_growRow_43 : decode prog_2_method_3_code 43 = .ok (.if_icmp .ge 39, 3) := by decide +kernel
theorem d_PT_growRow_46 : decode prog_2_method_3_code 46 = .ok (.iload_n 3, 1) := by decide +kernel
theorem d_PT_growRow_47 : decode prog_2_method_3_code 47 = .ok (.iload_n 2, 1) := by decide +kernel
theorem d_PT_growRow_48 : decode prog_2_method_3_code 48 = .ok (.iconst 1, 1) := by decide +kernel
theorem d_PT_growRow_49 : decode prog_2_method_3_code 49 = .ok (.isub, 1) := by decide +kernel
theorem d_PT_growRow_50 : decode prog_2_method_3_code 50 = .ok (.iload 7, 2) := by decide +kernel
theorem d_PT_growRow_52 : decode prog_2_method_3_code 52 = .ok (.isub, 1) := by decide +kernel
theorem d_PT_growRow_53 : decode prog_2_method_3_code 53 = .ok (.iushr, 1) := by decide +kernel
theorem d_PT_growRow_54 : decode prog_2_method_3_code 54 = .ok (.iconst 1, 1) := by decide +kernel
theorem d_PT_growRow_55 : decode prog_2_method_3_code 55 = .ok (.iand, 1) := by decide +kernel
theorem d_PT_growRow_56 : decode prog_2_method_3_code 56 = .ok (.iconst 1, 1) := by decide +kernel
theorem d_PT_growRow_57 : decode prog_2_method_3_code 57 = .ok (.if_icmp .ne 19, 3) := by decide +kernel
theorem d_PT_growRow_60 : decode prog_2_method_3_code 60 = .ok (.iload 6, 2) := by decide +kernel
theorem d_PT_growRow_62 : decode prog_2_method_3_code 62 = .ok (.aload 4, 2) := by decide +kernel
theorem d_PT_growRow_64 : decode prog_2_method_3_code 64 = .ok (.iload 5, 2) := by decide +kernel
theorem d_PT_growRow_66 : decode prog_2_method_3_code 66 = .ok (.iload 7, 2) := by decide +kernel
theorem d_PT_growRow_68 : decode prog_2_method_3_code 68 = .ok (.isub, 1) := by decide +kernel
theorem d_PT_growRow_69 : decode prog_2_method_3_code 69 = .ok (.iaload, 1) := by decide +kernel
theorem d_PT_growRow_70 : decode prog_2_method_3_code 70 = .ok (.iload 7, 2) := by decide +kernel
theorem d_PT_growRow_72 : decode prog_2_method_3_code 72 = .ok (.ishl, 1) := by decide +kernel
theorem d_PT_growRow_73 : decode prog_2_method_3_code 73 = .ok (.ixor, 1) := by decide +kernel
theorem d_PT_growRow_74 : decode prog_2_method_3_code 74 = .ok (.istore 6, 2) := by decide +kernel
theorem d_PT_growRow_76 : decode prog_2_method_3_code 76 = .ok (.iinc 7 1, 3) := by decide +kernel
theorem d_PT_growRow_79 : decode prog_2_method_3_code 79 = .ok (.goto (-39), 3) := by decide +kernel
theorem d_PT_growRow_82 : decode prog_2_method_3_code 82 = .ok (.aload 4, 2) := by decide +kernel
theorem d_PT_growRow_84 : decode prog_2_method_3_code 84 = .ok (.iload 5, 2) := by decide +kernel
theorem d_PT_growRow_86 : decode prog_2_method_3_code 86 = .ok (.iload 6, 2) := by decide +kernel
theorem d_PT_growRow_88 : decode prog_2_method_3_code 88 = .ok (.iastore, 1) := by decide +kernel
theorem d_PT_growRow_89 : decode prog_2_method_3_code 89 = .ok (.iinc 5 1, 3) := by decide +kernel
theorem d_PT_growRow_92 : decode prog_2_method_3_code 92 = .ok (.goto (-81), 3) := by decide +kernel
theorem d_PT_growRow_95 : decode prog_2_method_3_code 95 = .ok (.return_, 1) := by decide +kernel
theorem d_PT_alignRow_0 : decode prog_2_method_4_code 0 = .ok (.iconst 0, 1) := by decide +kernel
theorem d_PT_alignRow_1 : decode prog_2_method_4_code 1 = .ok (.istore_n 2, 1) := by decide +kernel
theorem d_PT_alignRow_2 : decode prog_2_method_4_code 2 = .ok (.iload_n 2, 1) := by decide +kernel
theorem d_PT_alignRow_3 : decode prog_2_method_4_code 3 = .ok (.bipush 20, 2) := by decide +kernel
theorem d_PT_alignRow_5 : decode prog_2_method_4_code 5 = .ok (.if_icmp .ge 24, 3) := by decide +kernel
theorem d_PT_alignRow_8 : decode prog_2_method_4_code 8 = .ok (.aload_n 0, 1) := by decide +kernel
theorem d_PT_alignRow_9 : decode prog_2_method_4_code 9 = .ok (.getfield 11, 3) := by decide +kernel
theorem d_PT_alignRow_12 : decode prog_2_method_4_code 12 = .ok (.iload_n 1, 1) := by decide +kernel
theorem d_PT_alignRow_13 : decode prog_2_method_4_code 13 = .ok (.aaload, 1) := by decide +kernel
theorem d_PT_alignRow_14 : decode prog_2_method_4_code 14 = .ok (.iload_n 2, 1) := by decide +kernel
theorem d_PT_alignRow_15 : decode prog_2_method_4_code 15 = .ok (.dup2, 1) := by decide +kernel
theorem d_PT_alignRow_16 : decode prog_2_method_4_code 16 = .ok (.iaload, 1) := by decide +kernel
theorem d_PT_alignRow_17 : decode prog_2_method_4_code 17 = .ok (.bipush 31, 2) := by decide +kernel
theorem d_PT_alignRow_19 : decode prog_2_method_4_code 19 = .ok (.iload_n 2, 1) := by decide +kernel
theorem d_PT_alignRow_20 : decode prog_2_method_4_code 20 = .ok (.isub, 1) := by decide +kernel
theorem d_PT_alignRow_21 : decode prog_2_method_4_code 21 = .ok (.ishl, 1) := by decide +kernel
theorem d_PT_alignRow_22 : decode prog_2_method_4_code 22 = .ok (.iastore, 1) := by decide +kernel
theorem d_PT_alignRow_23 : decode prog_2_method_4_code 23 = .ok (.iinc 2 1, 3) := by decide +kernel
theorem d_PT_alignRow_26 : decode prog_2_method_4_code 26 = .ok (.goto (-24), 3) := by decide +kernel
theorem d_PT_alignRow_29 : decode prog_2_method_4_code 29 = .ok (.return_, 1) := by decide +kernel
theorem d_NS_make_0 : decode prog_1_method_2_code 0 = .ok (.aload_n 0, 1) := by decide +kernel
theorem d_NS_make_1 : decode prog_1_method_2_code 1 = .ok (.invokevirtual 39, 3) := by decide +kernel
theorem d_NS_make_4 : decode prog_1_method_2_code 4 = .ok (.istore 4, 2) := by decide +kernel
theorem d_NS_make_6 : decode prog_1_method_2_code 6 = .ok (.iload_n 1, 1) := by decide +kernel
theorem d_NS_make_7 : decode prog_1_method_2_code 7 = .ok (.invokestatic 43, 3) := by decide +kernel
theorem d_NS_make_10 : decode prog_1_method_2_code 10 = .ok (.ifCond .eq 8, 3) := by decide +kernel
theorem d_NS_make_13 : decode prog_1_method_2_code 13 = .ok (.iload 4, 2) := by decide +kernel
theorem d_NS_make_15 : decode prog_1_method_2_code 15 = .ok (.ifCond .ge 5, 3) := by decide +kernel
theorem d_NS_make_18 : decode prog_1_method_2_code 18 = .ok (.iconst (-1), 1) := by decide +kernel
theorem d_NS_make_19 : decode prog_1_method_2_code 19 = .ok (.ireturn, 1) := by decide +kernel
theorem d_NS_make_20 : decode prog_1_method_2_code 20 = .ok (.iload_n 1, 1) := by decide +kernel
theorem d_NS_make_21 : decode prog_1_method_2_code 21 = .ok (.iload_n 2, 1) := by decide +kernel
theorem d_NS_make_22 : decode prog_1_method_2_code 22 = .ok (.iload_n 3, 1) := by decide +kernel
theorem d_NS_make_23 : decode prog_1_method_2_code 23 = .ok (.invokestatic 47, 3) := by decide +kernel
theorem d_NS_make_26 : decode prog_1_method_2_code 26 = .ok (.lstore 5, 2) := by decide +kernel
theorem d_NS_make_28 : decode prog_1_method_2_code 28 = .ok (.iload_n 1, 1) := by decide +kernel
theorem d_NS_make_29 : decode prog_1_method_2_code 29 = .ok (.iload_n 2, 1) := by decide +kernel
theorem d_NS_make_30 : decode prog_1_method_2_code 30 = .ok (.iload_n 3, 1) := by decide +kernel
theorem d_NS_make_31 : decode prog_1_method_2_code 31 = .ok (.invokestatic 51, 3) := by decide +kernel
theorem d_NS_make_34 : decode prog_1_method_2_code 34 = .ok (.lstore 7, 2) := by decide +kernel
theorem d_NS_make_36 : decode prog_1_method_2_code 36 = .ok (.iload_n 1, 1) := by decide +kernel
theorem d_NS_make_37 : decode prog_1_method_2_code 37 = .ok (.lload 5, 2) := by decide +kernel
theorem d_NS_make_39 : decode prog_1_method_2_code 39 = .ok (.lload 7, 2) := by decide +kernel
theorem d_NS_make_41 : decode prog_1_method_2_code 41 = .ok (.invokestatic 54, 3) := by decide +kernel
theorem d_NS_make_44 : decode prog_1_method_2_code 44 = .ok (.ifCond .ne 6, 3) := by decide +kernel
theorem d_NS_make_47 : decode prog_1_method_2_code 47 = .ok (.bipush (-2), 2) := by decide +kernel
theorem d_NS_make_49 : decode prog_1_method_2_code 49 = .ok (.ireturn, 1) := by decide +kernel
theorem d_NS_make_50 : decode prog_1_method_2_code 50 = .ok (.aload_n 0, 1) := by decide +kernel
theorem d_NS_make_51 : decode prog_1_method_2_code 51 = .ok (.getfield 11, 3) := by decide +kernel
theorem d_NS_make_54 : decode prog_1_method_2_code 54 = .ok (.iload 4, 2) := by decide +kernel
theorem d_NS_make_56 : decode prog_1_method_2_code 56 = .ok (.new 9, 3) := by decide +kernel
theorem d_NS_make_59 : decode prog_1_method_2_code 59 = .ok (.dup, 1) := by decide +kernel
theorem d_NS_make_60 : decode prog_1_method_2_code 60 = .ok (.iload_n 1, 1) := by decide +kernel
theorem d_NS_make_61 : decode prog_1_method_2_code 61 = .ok (.lload 5, 2) := by decide +kernel
theorem d_NS_make_63 : decode prog_1_method_2_code 63 = .ok (.lload 7, 2) := by decide +kernel
theorem d_NS_make_65 : decode prog_1_method_2_code 65 = .ok (.invokespecial 58, 3) := by decide +kernel
theorem d_NS_make_68 : decode prog_1_method_2_code 68 = .ok (.aastore, 1) := by decide +kernel
theorem d_NS_make_69 : decode prog_1_method_2_code 69 = .ok (.iload 4, 2) := by decide +kernel
theorem d_NS_make_71 : decode prog_1_method_2_code 71 = .ok (.ireturn, 1) := by decide +kernel
theorem d_NS_leastFreeSlot_0 : decode prog_1_method_23_code 0 = .ok (.iconst 0, 1) := by decide +kernel
theorem d_NS_leastFreeSlot_1 : decode prog_1_method_23_code 1 = .ok (.istore_n 1, 1) := by decide +kernel
theorem d_NS_leastFreeSlot_2 : decode prog_1_method_23_code 2 = .ok (.iload_n 1, 1) := by decide +kernel
theorem d_NS_leastFreeSlot_3 : decode prog_1_method_23_code 3 = .ok (.bipush 8, 2) := by decide +kernel
theorem d_NS_leastFreeSlot_5 : decode prog_1_method_23_code 5 = .ok (.if_icmp .ge 20, 3) := by decide +kernel
theorem d_NS_leastFreeSlot_8 : decode prog_1_method_23_code 8 = .ok (.aload_n 0, 1) := by decide +kernel
theorem d_NS_leastFreeSlot_9 : decode prog_1_method_23_code 9 = .ok (.getfield 11, 3) := by decide +kernel
theorem d_NS_leastFreeSlot_12 : decode prog_1_method_23_code 12 = .ok (.iload_n 1, 1) := by decide +kernel
theorem d_NS_leastFreeSlot_13 : decode prog_1_method_23_code 13 = .ok (.aaload, 1) := by decide +kernel
theorem d_NS_leastFreeSlot_14 : decode prog_1_method_23_code 14 = .ok (.ifnonnull 5, 3) := by decide +kernel
theorem d_NS_leastFreeSlot_17 : decode prog_1_method_23_code 17 = .ok (.iload_n 1, 1) := by decide +kernel
theorem d_NS_leastFreeSlot_18 : decode prog_1_method_23_code 18 = .ok (.ireturn, 1) := by decide +kernel
theorem d_NS_leastFreeSlot_19 : decode prog_1_method_23_code 19 = .ok (.iinc 1 1, 3) := by decide +kernel
theorem d_NS_leastFreeSlot_22 : decode prog_1_method_23_code 22 = .ok (.goto (-20), 3) := by decide +kernel
theorem d_NS_leastFreeSlot_25 : decode prog_1_method_23_code 25 = .ok (.iconst (-1), 1) := by decide +kernel
theorem d_NS_leastFreeSlot_26 : decode prog_1_method_23_code 26 = .ok (.ireturn, 1) := by decide +kernel
theorem d_ST_isKind_0 : decode prog_4_method_2_code 0 = .ok (.iload_n 0, 1) := by decide +kernel
theorem d_ST_isKind_1 : decode prog_4_method_2_code 1 = .ok (.ifCond .lt 12, 3) := by decide +kernel
theorem d_ST_isKind_4 : decode prog_4_method_2_code 4 = .ok (.iload_n 0, 1) := by decide +kernel
theorem d_ST_isKind_5 : decode prog_4_method_2_code 5 = .ok (.iconst 3, 1) := by decide +kernel
theorem d_ST_isKind_6 : decode prog_4_method_2_code 6 = .ok (.if_icmp .gt 7, 3) := by decide +kernel
theorem d_ST_isKind_9 : decode prog_4_method_2_code 9 = .ok (.iconst 1, 1) := by decide +kernel
theorem d_ST_isKind_10 : decode prog_4_method_2_code 10 = .ok (.goto 4, 3) := by decide +kernel
theorem d_ST_isKind_13 : decode prog_4_method_2_code 13 = .ok (.iconst 0, 1) := by decide +kernel
theorem d_ST_isKind_14 : decode prog_4_method_2_code 14 = .ok (.ireturn, 1) := by decide +kernel
theorem d_ST_firstOfSeed_0 : decode prog_4_method_5_code 0 = .ok (.iload_n 0, 1) := by decide +kernel
theorem d_ST_firstOfSeed_1 : decode prog_4_method_5_code 1 = .ok (.ifCond .ne 11, 3) := by decide +kernel
theorem d_ST_firstOfSeed_4 : decode prog_4_method_5_code 4 = .ok (.iload_n 1, 1) := by decide +kernel
theorem d_ST_firstOfSeed_5 : decode prog_4_method_5_code 5 = .ok (.iload_n 2, 1) := by decide +kernel
theorem d_ST_firstOfSeed_6 : decode prog_4_method_5_code 6 = .ok (.invokestatic 20, 3) := by decide +kernel
theorem d_ST_firstOfSeed_9 : decode prog_4_method_5_code 9 = .ok (.goto 5, 3) := by decide +kernel
theorem d_ST_firstOfSeed_12 : decode prog_4_method_5_code 12 = .ok (.iload_n 1, 1) := by decide +kernel
theorem d_ST_firstOfSeed_13 : decode prog_4_method_5_code 13 = .ok (.i2l, 1) := by decide +kernel
theorem d_ST_firstOfSeed_14 : decode prog_4_method_5_code 14 = .ok (.lreturn, 1) := by decide +kernel
theorem d_NS_joined_0 : decode prog_1_method_28_code 0 = .ok (.iload_n 0, 1) := by decide +kernel
theorem d_NS_joined_1 : decode prog_1_method_28_code 1 = .ok (.i2l, 1) := by decide +kernel
theorem d_NS_joined_2 : decode prog_1_method_28_code 2 = .ok (.bipush 32, 2) := by decide +kernel
theorem d_NS_joined_4 : decode prog_1_method_28_code 4 = .ok (.lshl, 1) := by decide +kernel
theorem d_NS_joined_5 : decode prog_1_method_28_code 5 = .ok (.iload_n 1, 1) := by decide +kernel
theorem d_NS_joined_6 : decode prog_1_method_28_code 6 = .ok (.invokestatic 80, 3) := by decide +kernel
theorem d_NS_joined_9 : decode prog_1_method_28_code 9 = .ok (.lor, 1) := by decide +kernel
theorem d_NS_joined_10 : decode prog_1_method_28_code 10 = .ok (.lreturn, 1) := by decide +kernel
theorem d_NS_asNumber_0 : decode prog_1_method_27_code 0 = .ok (.iload_n 0, 1) := by decide +kernel
theorem d_NS_asNumber_1 : decode prog_1_method_27_code 1 = .ok (.i2l, 1) := by decide +kernel
theorem d_NS_asNumber_2 : decode prog_1_method_27_code 2 = .ok (.ldc2_w 136, 3) := by decide +kernel
theorem d_NS_asNumber_5 : decode prog_1_method_27_code 5 = .ok (.land, 1) := by decide +kernel
theorem d_NS_asNumber_6 : decode prog_1_method_27_code 6 = .ok (.lreturn, 1) := by decide +kernel
theorem d_ST_secondOfSeed_0 : decode prog_4_method_6_code 0 = .ok (.iload_n 0, 1) := by decide +kernel
theorem d_ST_secondOfSeed_1 : decode prog_4_method_6_code 1 = .ok (.lookupswitch 44 #[(0, 27), (2, 39)], 27) := by decide +kernel
theorem d_ST_secondOfSeed_28 : decode prog_4_method_6_code 28 = .ok (.ldc2_w 26, 3) := by decide +kernel
theorem d_ST_secondOfSeed_31 : decode prog_4_method_6_code 31 = .ok (.iload_n 1, 1) := by decide +kernel
theorem d_ST_secondOfSeed_32 : decode prog_4_method_6_code 32 = .ok (.iload_n 2, 1) := by decide +kernel
theorem d_ST_secondOfSeed_33 : decode prog_4_method_6_code 33 = .ok (.invokestatic 20, 3) := by decide +kernel
theorem d_ST_secondOfSeed_36 : decode prog_4_method_6_code 36 = .ok (.lmul, 1) := by decide +kernel
theorem d_ST_secondOfSeed_37 : decode prog_4_method_6_code 37 = .ok (.lconst 1, 1) := by decide +kernel
theorem d_ST_secondOfSeed_38 : decode prog_4_method_6_code 38 = .ok (.ladd, 1) := by decide +kernel
theorem d_ST_secondOfSeed_39 : decode prog_4_method_6_code 39 = .ok (.lreturn, 1) := by decide +kernel
theorem d_ST_secondOfSeed_40 : decode prog_4_method_6_code 40 = .ok (.iload_n 2, 1) := by decide +kernel
theorem d_ST_secondOfSeed_41 : decode prog_4_method_6_code 41 = .ok (.invokestatic 28, 3) := by decide +kernel
theorem d_ST_secondOfSeed_44 : decode prog_4_method_6_code 44 = .ok (.lreturn, 1) := by decide +kernel
theorem d_ST_secondOfSeed_45 : decode prog_4_method_6_code 45 = .ok (.iload_n 2, 1) := by decide +kernel
theorem d_ST_secondOfSeed_46 : decode prog_4_method_6_code 46 = .ok (.i2l, 1) := by decide +kernel
theorem d_ST_secondOfSeed_47 : decode prog_4_method_6_code 47 = .ok (.lreturn, 1) := by decide +kernel
theorem d_ST_isState_0 : decode prog_4_method_7_code 0 = .ok (.iload_n 0, 1) := by decide +kernel
theorem d_ST_isState_1 : decode prog_4_method_7_code 1 = .ok (.tableswitch 107 0 3 #[31, 45, 63, 75], 31) := by decide +kernel
theorem d_ST_isState_32 : decode prog_4_method_7_code 32 = .ok (.lload_n 3, 1) := by decide +kernel
theorem d_ST_isState_33 : decode prog_4_method_7_code 33 = .ok (.lconst 1, 1) := by decide +kernel
theorem d_ST_isState_34 : decode prog_4_method_7_code 34 = .ok (.land, 1) := by decide +kernel
theorem d_ST_isState_35 : decode prog_4_method_7_code 35 = .ok (.lconst 1, 1) := by decide +kernel
theorem d_ST_isState_36 : decode prog_4_method_7_code 36 = .ok (.lcmp, 1) := by decide +kernel
theorem d_ST_isState_37 : decode prog_4_method_7_code 37 = .ok (.ifCond .ne 7, 3) := by decide +kernel
theorem d_ST_isState_40 : decode prog_4_method_7_code 40 = .ok (.iconst 1, 1) := by decide +kernel
theorem d_ST_isState_41 : decode prog_4_method_7_code 41 = .ok (.goto 4, 3) := by decide +kernel
theorem d_ST_isState_44 : decode prog_4_method_7_code 44 = .ok (.iconst 0, 1) := by decide +kernel
theorem d_ST_isState_45 : decode prog_4_method_7_code 45 = .ok (.ireturn, 1) := by decide +kernel
theorem d_ST_isState_46 : decode prog_4_method_7_code 46 = .ok (.lload_n 1, 1) := by decide +kernel
theorem d_ST_isState_47 : decode prog_4_method_7_code 47 = .ok (.lconst 0, 1) := by decide +kernel
theorem d_ST_isState_48 : decode prog_4_method_7_code 48 = .ok (.lcmp, 1) := by decide +kernel
theorem d_ST_isState_49 : decode prog_4_method_7_code 49 = .ok (.ifCond .ne 9, 3) := by decide +kernel
theorem d_ST_isState_52 : decode prog_4_method_7_code 52 = .ok (.lload_n 3, 1) := by decide +kernel
theorem d_ST_isState_53 : decode prog_4_method_7_code 53 = .ok (.lconst 0, 1) := by decide +kernel
theorem d_ST_isState_54 : decode prog_4_method_7_code 54 = .ok (.lcmp, 1) := by decide +kernel
theorem d_ST_isState_55 : decode prog_4_method_7_code 55 = .ok (.ifCond .eq 7, 3) := by decide +kernel
theorem d_ST_isState_58 : decode prog_4_method_7_code 58 = .ok (.iconst 1, 1) := by decide +kernel
theorem d_ST_isState_59 : decode prog_4_method_7_code 59 = .ok (.goto 4, 3) := by decide +kernel
theorem d_ST_isState_62 : decode prog_4_method_7_code 62 = .ok (.iconst 0, 1) := by decide +kernel
theorem d_ST_isState_63 : decode prog_4_method_7_code 63 = .ok (.ireturn, 1) := by decide +kernel
theorem d_ST_isState_64 : decode prog_4_method_7_code 64 = .ok (.lload_n 3, 1) := by decide +kernel
theorem d_ST_isState_65 : decode prog_4_method_7_code 65 = .ok (.lconst 0, 1) := by decide +kernel
theorem d_ST_isState_66 : decode prog_4_method_7_code 66 = .ok (.lcmp, 1) := by decide +kernel
theorem d_ST_isState_67 : decode prog_4_method_7_code 67 = .ok (.ifCond .lt 7, 3) := by decide +kernel
theorem d_ST_isState_70 : decode prog_4_method_7_code 70 = .ok (.iconst 1, 1) := by decide +kernel
theorem d_ST_isState_71 : decode prog_4_method_7_code 71 = .ok (.goto 4, 3) := by decide +kernel
theorem d_ST_isState_74 : decode prog_4_method_7_code 74 = .ok (.iconst 0, 1) := by decide +kernel
theorem d_ST_isState_75 : decode prog_4_method_7_code 75 = .ok (.ireturn, 1) := by decide +kernel
theorem d_ST_isState_76 : decode prog_4_method_7_code 76 = .ok (.lload_n 1, 1) := by decide +kernel
theorem d_ST_isState_77 : decode prog_4_method_7_code 77 = .ok (.invokestatic 32, 3) := by decide +kernel
theorem d_ST_isState_80 : decode prog_4_method_7_code 80 = .ok (.ifCond .eq 26, 3) := by decide +kernel
theorem d_ST_isState_83 : decode prog_4_method_7_code 83 = .ok (.lload_n 3, 1) := by decide +kernel
theorem d_ST_isState_84 : decode prog_4_method_7_code 84 = .ok (.invokestatic 32, 3) := by decide +kernel
theorem d_ST_isState_87 : decode prog_4_method_7_code 87 = .ok (.ifCond .eq 19, 3) := by decide +kernel
theorem d_ST_isState_90 : decode prog_4_method_7_code 90 = .ok (.lload_n 1, 1) := by decide +kernel
theorem d_ST_isState_91 : decode prog_4_method_7_code 91 = .ok (.lconst 0, 1) := by decide +kernel
theorem d_ST_isState_92 : decode prog_4_method_7_code 92 = .ok (.lcmp, 1) := by decide +kernel
theorem d_ST_isState_93 : decode prog_4_method_7_code 93 = .ok (.ifCond .ne 9, 3) := by decide +kernel
theorem d_ST_isState_96 : decode prog_4_method_7_code 96 = .ok (.lload_n 3, 1) := by decide +kernel
theorem d_ST_isState_97 : decode prog_4_method_7_code 97 = .ok (.lconst 0, 1) := by decide +kernel
theorem d_ST_isState_98 : decode prog_4_method_7_code 98 = .ok (.lcmp, 1) := by decide +kernel
theorem d_ST_isState_99 : decode prog_4_method_7_code 99 = .ok (.ifCond .eq 7, 3) := by decide +kernel
theorem d_ST_isState_102 : decode prog_4_method_7_code 102 = .ok (.iconst 1, 1) := by decide +kernel
theorem d_ST_isState_103 : decode prog_4_method_7_code 103 = .ok (.goto 4, 3) := by decide +kernel
theorem d_ST_isState_106 : decode prog_4_method_7_code 106 = .ok (.iconst 0, 1) := by decide +kernel
theorem d_ST_isState_107 : decode prog_4_method_7_code 107 = .ok (.ireturn, 1) := by decide +kernel
theorem d_ST_isState_108 : decode prog_4_method_7_code 108 = .ok (.iconst 0, 1) := by decide +kernel
theorem d_ST_isState_109 : decode prog_4_method_7_code 109 = .ok (.ireturn, 1) := by decide +kernel
theorem d_ST_isRemainder_0 : decode prog_4_method_8_code 0 = .ok (.lload_n 0, 1) := by decide +kernel
theorem d_ST_isRemainder_1 : decode prog_4_method_8_code 1 = .ok (.lconst 0, 1) := by decide +kernel
theorem d_ST_isRemainder_2 : decode prog_4_method_8_code 2 = .ok (.lcmp, 1) := by decide +kernel
theorem d_ST_isRemainder_3 : decode prog_4_method_8_code 3 = .ok (.ifCond .lt 15, 3) := by decide +kernel
theorem d_ST_isRemainder_6 : decode prog_4_method_8_code 6 = .ok (.lload_n 0, 1) := by decide +kernel
theorem d_ST_isRemainder_7 : decode prog_4_method_8_code 7 = .ok (.ldc2_w 36, 3) := by decide +kernel
theorem d_ST_isRemainder_10 : decode prog_4_method_8_code 10 = .ok (.lcmp, 1) := by decide +kernel
theorem d_ST_isRemainder_11 : decode prog_4_method_8_code 11 = .ok (.ifCond .ge 7, 3) := by decide +kernel
theorem d_ST_isRemainder_14 : decode prog_4_method_8_code 14 = .ok (.iconst 1, 1) := by decide +kernel
theorem d_ST_isRemainder_15 : decode prog_4_method_8_code 15 = .ok (.goto 4, 3) := by decide +kernel
theorem d_ST_isRemainder_18 : decode prog_4_method_8_code 18 = .ok (.iconst 0, 1) := by decide +kernel
theorem d_ST_isRemainder_19 : decode prog_4_method_8_code 19 = .ok (.ireturn, 1) := by decide +kernel
theorem d_ST_init_0 : decode prog_4_method_1_code 0 = .ok (.aload_n 0, 1) := by decide +kernel
theorem d_ST_init_1 : decode prog_4_method_1_code 1 = .ok (.invokespecial 1, 3) := by decide +kernel
theorem d_ST_init_4 : decode prog_4_method_1_code 4 = .ok (.aload_n 0, 1) := by decide +kernel
theorem d_ST_init_5 : decode prog_4_method_1_code 5 = .ok (.iload_n 1, 1) := by decide +kernel
theorem d_ST_init_6 : decode prog_4_method_1_code 6 = .ok (.putfield 7, 3) := by decide +kernel
theorem d_ST_init_9 : decode prog_4_method_1_code 9 = .ok (.aload_n 0, 1) := by decide +kernel
theorem d_ST_init_10 : decode prog_4_method_1_code 10 = .ok (.lload_n 2, 1) := by decide +kernel
theorem d_ST_init_11 : decode prog_4_method_1_code 11 = .ok (.putfield 13, 3) := by decide +kernel
theorem d_ST_init_14 : decode prog_4_method_1_code 14 = .ok (.aload_n 0, 1) := by decide +kernel
theorem d_ST_init_15 : decode prog_4_method_1_code 15 = .ok (.lload 4, 2) := by decide +kernel
theorem d_ST_init_17 : decode prog_4_method_1_code 17 = .ok (.putfield 17, 3) := by decide +kernel
theorem d_ST_init_20 : decode prog_4_method_1_code 20 = .ok (.return_, 1) := by decide +kernel
theorem d_NS_twin_0 : decode prog_1_method_3_code 0 = .ok (.aload_n 0, 1) := by decide +kernel
theorem d_NS_twin_1 : decode prog_1_method_3_code 1 = .ok (.iload_n 1, 1) := by decide +kernel
theorem d_NS_twin_2 : decode prog_1_method_3_code 2 = .ok (.invokevirtual 61, 3) := by decide +kernel
theorem d_NS_twin_5 : decode prog_1_method_3_code 5 = .ok (.astore_n 2, 1) := by decide +kernel
theorem d_NS_twin_6 : decode prog_1_method_3_code 6 = .ok (.aload_n 0, 1) := by decide +kernel
theorem d_NS_twin_7 : decode prog_1_method_3_code 7 = .ok (.invokevirtual 39, 3) := by decide +kernel
theorem d_NS_twin_10 : decode prog_1_method_3_code 10 = .ok (.istore_n 3, 1) := by decide +kernel
theorem d_NS_twin_11 : decode prog_1_method_3_code 11 = .ok (.aload_n 2, 1) := by decide +kernel
theorem d_NS_twin_12 : decode prog_1_method_3_code 12 = .ok (.ifnull 7, 3) := by decide +kernel
theorem d_NS_twin_15 : decode prog_1_method_3_code 15 = .ok (.iload_n 3, 1) := by decide +kernel
theorem d_NS_twin_16 : decode prog_1_method_3_code 16 = .ok (.ifCond .ge 5, 3) := by decide +kernel
theorem d_NS_twin_19 : decode prog_1_method_3_code 19 = .ok (.iconst (-1), 1) := by decide +kernel
theorem d_NS_twin_20 : decode prog_1_method_3_code 20 = .ok (.ireturn, 1) := by decide +kernel
theorem d_NS_twin_21 : decode prog_1_method_3_code 21 = .ok (.aload_n 0, 1) := by decide +kernel
theorem d_NS_twin_22 : decode prog_1_method_3_code 22 = .ok (.getfield 11, 3) := by decide +kernel
theorem d_NS_twin_25 : decode prog_1_method_3_code 25 = .ok (.iload_n 3, 1) := by decide +kernel
theorem d_NS_twin_26 : decode prog_1_method_3_code 26 = .ok (.new 9, 3) := by decide +kernel
theorem d_NS_twin_29 : decode prog_1_method_3_code 29 = .ok (.dup, 1) := by decide +kernel
theorem d_NS_twin_30 : decode prog_1_method_3_code 30 = .ok (.aload_n 2, 1) := by decide +kernel
theorem d_NS_twin_31 : decode prog_1_method_3_code 31 = .ok (.getfield 65, 3) := by decide +kernel
theorem d_NS_twin_34 : decode prog_1_method_3_code 34 = .ok (.aload_n 2, 1) := by decide +kernel
theorem d_NS_twin_35 : decode prog_1_method_3_code 35 = .ok (.getfield 68, 3) := by decide +kernel
theorem d_NS_twin_38 : decode prog_1_method_3_code 38 = .ok (.aload_n 2, 1) := by decide +kernel
theorem d_NS_twin_39 : decode prog_1_method_3_code 39 = .ok (.getfield 72, 3) := by decide +kernel
theorem d_NS_twin_42 : decode prog_1_method_3_code 42 = .ok (.invokespecial 58, 3) := by decide +kernel
theorem d_NS_twin_45 : decode prog_1_method_3_code 45 = .ok (.aastore, 1) := by decide +kernel
theorem d_NS_twin_46 : decode prog_1_method_3_code 46 = .ok (.iload_n 3, 1) := by decide +kernel
theorem d_NS_twin_47 : decode prog_1_method_3_code 47 = .ok (.ireturn, 1) := by decide +kernel
theorem d_NS_streamAt_0 : decode prog_1_method_22_code 0 = .ok (.iload_n 1, 1) := by decide +kernel
theorem d_NS_streamAt_1 : decode prog_1_method_22_code 1 = .ok (.ifCond .lt 9, 3) := by decide +kernel
theorem d_NS_streamAt_4 : decode prog_1_method_22_code 4 = .ok (.iload_n 1, 1) := by decide +kernel
theorem d_NS_streamAt_5 : decode prog_1_method_22_code 5 = .ok (.bipush 8, 2) := by decide +kernel
theorem d_NS_streamAt_7 : decode prog_1_method_22_code 7 = .ok (.if_icmp .lt 7, 3) := by decide +kernel
theorem d_NS_streamAt_10 : decode prog_1_method_22_code 10 = .ok (.aconst_null, 1) := by decide +kernel
theorem d_NS_streamAt_11 : decode prog_1_method_22_code 11 = .ok (.goto 9, 3) := by decide +kernel
theorem d_NS_streamAt_14 : decode prog_1_method_22_code 14 = .ok (.aload_n 0, 1) := by decide +kernel
theorem d_NS_streamAt_15 : decode prog_1_method_22_code 15 = .ok (.getfield 11, 3) := by decide +kernel
theorem d_NS_streamAt_18 : decode prog_1_method_22_code 18 = .ok (.iload_n 1, 1) := by decide +kernel
theorem d_NS_streamAt_19 : decode prog_1_method_22_code 19 = .ok (.aaload, 1) := by decide +kernel
theorem d_NS_streamAt_20 : decode prog_1_method_22_code 20 = .ok (.areturn, 1) := by decide +kernel
theorem d_NS_release_0 : decode prog_1_method_4_code 0 = .ok (.aload_n 0, 1) := by decide +kernel
theorem d_NS_release_1 : decode prog_1_method_4_code 1 = .ok (.iload_n 1, 1) := by decide +kernel
theorem d_NS_release_2 : decode prog_1_method_4_code 2 = .ok (.invokevirtual 61, 3) := by decide +kernel
theorem d_NS_release_5 : decode prog_1_method_4_code 5 = .ok (.ifnonnull 5, 3) := by decide +kernel
theorem d_NS_release_8 : decode prog_1_method_4_code 8 = .ok (.iconst 0, 1) := by decide +kernel
theorem d_NS_release_9 : decode prog_1_method_4_code 9 = .ok (.ireturn, 1) := by decide +kernel
theorem d_NS_release_10 : decode prog_1_method_4_code 10 = .ok (.aload_n 0, 1) := by decide +kernel
theorem d_NS_release_11 : decode prog_1_method_4_code 11 = .ok (.getfield 11, 3) := by decide +kernel
theorem d_NS_release_14 : decode prog_1_method_4_code 14 = .ok (.iload_n 1, 1) := by decide +kernel
theorem d_NS_release_15 : decode prog_1_method_4_code 15 = .ok (.aconst_null, 1) := by decide +kernel
theorem d_NS_release_16 : decode prog_1_method_4_code 16 = .ok (.aastore, 1) := by decide +kernel
theorem d_NS_release_17 : decode prog_1_method_4_code 17 = .ok (.iconst 1, 1) := by decide +kernel
theorem d_NS_release_18 : decode prog_1_method_4_code 18 = .ok (.ireturn, 1) := by decide +kernel
theorem d_NS_next_0 : decode prog_1_method_5_code 0 = .ok (.aload_n 0, 1) := by decide +kernel
theorem d_NS_next_1 : decode prog_1_method_5_code 1 = .ok (.iload_n 1, 1) := by decide +kernel
theorem d_NS_next_2 : decode prog_1_method_5_code 2 = .ok (.invokevirtual 61, 3) := by decide +kernel
theorem d_NS_next_5 : decode prog_1_method_5_code 5 = .ok (.astore_n 2, 1) := by decide +kernel
theorem d_NS_next_6 : decode prog_1_method_5_code 6 = .ok (.aload_n 2, 1) := by decide +kernel
theorem d_NS_next_7 : decode prog_1_method_5_code 7 = .ok (.ifnonnull 7, 3) := by decide +kernel
theorem d_NS_next_10 : decode prog_1_method_5_code 10 = .ok (.ldc2_w 75, 3) := by decide +kernel
theorem d_NS_next_13 : decode prog_1_method_5_code 13 = .ok (.lreturn, 1) := by decide +kernel
theorem d_NS_next_14 : decode prog_1_method_5_code 14 = .ok (.aload_n 2, 1) := by decide +kernel
theorem d_NS_next_15 : decode prog_1_method_5_code 15 = .ok (.invokevirtual 77, 3) := by decide +kernel
theorem d_NS_next_18 : decode prog_1_method_5_code 18 = .ok (.invokestatic 80, 3) := by decide +kernel
theorem d_NS_next_21 : decode prog_1_method_5_code 21 = .ok (.lreturn, 1) := by decide +kernel
theorem d_ST_step_0 : decode prog_4_method_9_code 0 = .ok (.aload_n 0, 1) := by decide +kernel
theorem d_ST_step_1 : decode prog_4_method_9_code 1 = .ok (.invokevirtual 38, 3) := by decide +kernel
theorem d_ST_step_4 : decode prog_4_method_9_code 4 = .ok (.istore_n 1, 1) := by decide +kernel
theorem d_ST_step_5 : decode prog_4_method_9_code 5 = .ok (.aload_n 0, 1) := by decide +kernel
theorem d_ST_step_6 : decode prog_4_method_9_code 6 = .ok (.invokevirtual 42, 3) := by decide +kernel
theorem d_ST_step_9 : decode prog_4_method_9_code 9 = .ok (.iload_n 1, 1) := by decide +kernel
theorem d_ST_step_10 : decode prog_4_method_9_code 10 = .ok (.ireturn, 1) := by decide +kernel
theorem d_ST_output_0 : decode prog_4_method_12_code 0 = .ok (.aload_n 0, 1) := by decide +kernel
theorem d_ST_output_1 : decode prog_4_method_12_code 1 = .ok (.getfield 7, 3) := by decide +kernel
theorem d_ST_output_4 : decode prog_4_method_12_code 4 = .ok (.tableswitch 76 0 2 #[28, 56, 71], 28) := by decide +kernel
theorem d_ST_output_32 : decode prog_4_method_12_code 32 = .ok (.aload_n 0, 1) := by decide +kernel
theorem d_ST_output_33 : decode prog_4_method_12_code 33 = .ok (.getfield 13, 3) := by decide +kernel
theorem d_ST_output_36 : decode prog_4_method_12_code 36 = .ok (.bipush 18, 2) := by decide +kernel
theorem d_ST_output_38 : decode prog_4_method_12_code 38 = .ok (.lushr, 1) := by decide +kernel
theorem d_ST_output_39 : decode prog_4_method_12_code 39 = .ok (.aload_n 0, 1) := by decide +kernel
theorem d_ST_output_40 : decode prog_4_method_12_code 40 = .ok (.getfield 13, 3) := by decide +kernel
theorem d_ST_output_43 : decode prog_4_method_12_code 43 = .ok (.lxor, 1) := by decide +kernel
theorem d_ST_output_44 : decode prog_4_method_12_code 44 = .ok (.bipush 27, 2) := by decide +kernel
theorem d_ST_output_46 : decode prog_4_method_12_code 46 = .ok (.lushr, 1) := by decide +kernel
theorem d_ST_output_47 : decode prog_4_method_12_code 47 = .ok (.l2i, 1) := by decide +kernel
theorem d_ST_output_48 : decode prog_4_method_12_code 48 = .ok (.aload_n 0, 1) := by decide +kernel
theorem d_ST_output_49 : decode prog_4_method_12_code 49 = .ok (.getfield 13, 3) := by decide +kernel
theorem d_ST_output_52 : decode prog_4_method_12_code 52 = .ok (.bipush 59, 2) := by decide +kernel
theorem d_ST_output_54 : decode prog_4_method_12_code 54 = .ok (.lushr, 1) := by decide +kernel
theorem d_ST_output_55 : decode prog_4_method_12_code 55 = .ok (.l2i, 1) := by decide +kernel
theorem d_ST_output_56 : decode prog_4_method_12_code 56 = .ok (.invokestatic 61, 3) := by decide +kernel
theorem d_ST_output_59 : decode prog_4_method_12_code 59 = .ok (.ireturn, 1) := by decide +kernel
theorem d_ST_output_60 : decode prog_4_method_12_code 60 = .ok (.aload_n 0, 1) := by decide +kernel
theorem d_ST_output_61 : decode prog_4_method_12_code 61 = .ok (.getfield 13, 3) := by decide +kernel
theorem d_ST_output_64 : decode prog_4_method_12_code 64 = .ok (.l2i, 1) := by decide +kernel
theorem d_ST_output_65 : decode prog_4_method_12_code 65 = .ok (.ldc 67, 2) := by decide +kernel
theorem d_ST_output_67 : decode prog_4_method_12_code 67 = .ok (.imul, 1) := by decide +kernel
theorem d_ST_output_68 : decode prog_4_method_12_code 68 = .ok (.iconst 5, 1) := by decide +kernel
theorem d_ST_output_69 : decode prog_4_method_12_code 69 = .ok (.invokestatic 68, 3) := by decide +kernel
theorem d_ST_output_72 : decode prog_4_method_12_code 72 = .ok (.iconst 5, 1) := by decide +kernel
theorem d_ST_output_73 : decode prog_4_method_12_code 73 = .ok (.imul, 1) := by decide +kernel
theorem d_ST_output_74 : decode prog_4_method_12_code 74 = .ok (.ireturn, 1) := by decide +kernel
theorem d_ST_output_75 : decode prog_4_method_12_code 75 = .ok (.aload_n 0, 1) := by decide +kernel
theorem d_ST_output_76 : decode prog_4_method_12_code 76 = .ok (.invokevirtual 71, 3) := by decide +kernel
theorem d_ST_output_79 : decode prog_4_method_12_code 79 = .ok (.ireturn, 1) := by decide +kernel
theorem d_ST_output_80 : decode prog_4_method_12_code 80 = .ok (.ldc2_w 26, 3) := by decide +kernel
theorem d_ST_output_83 : decode prog_4_method_12_code 83 = .ok (.aload_n 0, 1) := by decide +kernel
theorem d_ST_output_84 : decode prog_4_method_12_code 84 = .ok (.invokevirtual 57, 3) := by decide +kernel
theorem d_ST_output_87 : decode prog_4_method_12_code 87 = .ok (.lmul, 1) := by decide +kernel
theorem d_ST_output_88 : decode prog_4_method_12_code 88 = .ok (.aload_n 0, 1) := by decide +kernel
theorem d_ST_output_89 : decode prog_4_method_12_code 89 = .ok (.getfield 13, 3) := by decide +kernel
theorem d_ST_output_92 : decode prog_4_method_12_code 92 = .ok (.lconst 1, 1) := by decide +kernel
theorem d_ST_output_93 : decode prog_4_method_12_code 93 = .ok (.land, 1) := by decide +kernel
theorem d_ST_output_94 : decode prog_4_method_12_code 94 = .ok (.ladd, 1) := by decide +kernel
theorem d_ST_output_95 : decode prog_4_method_12_code 95 = .ok (.l2i, 1) := by decide +kernel
theorem d_ST_output_96 : decode prog_4_method_12_code 96 = .ok (.ireturn, 1) := by decide +kernel
theorem d_JI_rotateRight_0 : decode prog_7_method_51_code 0 = .ok (.iload_n 0, 1) := by decide +kernel
theorem d_JI_rotateRight_1 : decode prog_7_method_51_code 1 = .ok (.iload_n 1, 1) := by decide +kernel
theorem d_JI_rotateRight_2 : decode prog_7_method_51_code 2 = .ok (.iushr, 1) := by decide +kernel
theorem d_JI_rotateRight_3 : decode prog_7_method_51_code 3 = .ok (.iload_n 0, 1) := by decide +kernel
theorem d_JI_rotateRight_4 : decode prog_7_method_51_code 4 = .ok (.iload_n 1, 1) := by decide +kernel
theorem d_JI_rotateRight_5 : decode prog_7_method_51_code 5 = .ok (.ineg, 1) := by decide +kernel
theorem d_JI_rotateRight_6 : decode prog_7_method_51_code 6 = .ok (.ishl, 1) := by decide +kernel
theorem d_JI_rotateRight_7 : decode prog_7_method_51_code 7 = .ok (.ior, 1) := by decide +kernel
theorem d_JI_rotateRight_8 : decode prog_7_method_51_code 8 = .ok (.ireturn, 1) := by decide +kernel
theorem d_JI_rotateLeft_0 : decode prog_7_method_50_code 0 = .ok (.iload_n 0, 1) := by decide +kernel
theorem d_JI_rotateLeft_1 : decode prog_7_method_50_code 1 = .ok (.iload_n 1, 1) := by decide +kernel
theorem d_JI_rotateLeft_2 : decode prog_7_method_50_code 2 = .ok (.ishl, 1) := by decide +kernel
theorem d_JI_rotateLeft_3 : decode prog_7_method_50_code 3 = .ok (.iload_n 0, 1) := by decide +kernel
theorem d_JI_rotateLeft_4 : decode prog_7_method_50_code 4 = .ok (.iload_n 1, 1) := by decide +kernel
theorem d_JI_rotateLeft_5 : decode prog_7_method_50_code 5 = .ok (.ineg, 1) := by decide +kernel
theorem d_JI_rotateLeft_6 : decode prog_7_method_50_code 6 = .ok (.iushr, 1) := by decide +kernel
theorem d_JI_rotateLeft_7 : decode prog_7_method_50_code 7 = .ok (.ior, 1) := by decide +kernel
theorem d_JI_rotateLeft_8 : decode prog_7_method_50_code 8 = .ok (.ireturn, 1) := by decide +kernel
theorem d_ST_mixedCounter_0 : decode prog_4_method_14_code 0 = .ok (.aload_n 0, 1) := by decide +kernel
theorem d_ST_mixedCounter_1 : decode prog_4_method_14_code 1 = .ok (.getfield 17, 3) := by decide +kernel
theorem d_ST_mixedCounter_4 : decode prog_4_method_14_code 4 = .ok (.iconst 1, 1) := by decide +kernel
theorem d_ST_mixedCounter_5 : decode prog_4_method_14_code 5 = .ok (.lushr, 1) := by decide +kernel
theorem d_ST_mixedCounter_6 : decode prog_4_method_14_code 6 = .ok (.l2i, 1) := by decide +kernel
theorem d_ST_mixedCounter_7 : decode prog_4_method_14_code 7 = .ok (.istore_n 1, 1) := by decide +kernel
theorem d_ST_mixedCounter_8 : decode prog_4_method_14_code 8 = .ok (.aload_n 0, 1) := by decide +kernel
theorem d_ST_mixedCounter_9 : decode prog_4_method_14_code 9 = .ok (.getfield 17, 3) := by decide +kernel
theorem d_ST_mixedCounter_12 : decode prog_4_method_14_code 12 = .ok (.bipush 33, 2) := by decide +kernel
theorem d_ST_mixedCounter_14 : decode prog_4_method_14_code 14 = .ok (.lushr, 1) := by decide +kernel
theorem d_ST_mixedCounter_15 : decode prog_4_method_14_code 15 = .ok (.l2i, 1) := by decide +kernel
theorem d_ST_mixedCounter_16 : decode prog_4_method_14_code 16 = .ok (.istore_n 2, 1) := by decide +kernel
theorem d_ST_mixedCounter_17 : decode prog_4_method_14_code 17 = .ok (.aload_n 0, 1) := by decide +kernel
theorem d_ST_mixedCounter_18 : decode prog_4_method_14_code 18 = .ok (.getfield 13, 3) := by decide +kernel
theorem d_ST_mixedCounter_21 : decode prog_4_method_14_code 21 = .ok (.l2i, 1) := by decide +kernel
theorem d_ST_mixedCounter_22 : decode prog_4_method_14_code 22 = .ok (.istore_n 3, 1) := by decide +kernel
theorem d_ST_mixedCounter_23 : decode prog_4_method_14_code 23 = .ok (.iconst 0, 1) := by decide +kernel
theorem d_ST_mixedCounter_24 : decode prog_4_method_14_code 24 = .ok (.istore 4, 2) := by decide +kernel
theorem d_ST_mixedCounter_26 : decode prog_4_method_14_code 26 = .ok (.iload 4, 2) := by decide +kernel
theorem d_ST_mixedCounter_28 : decode prog_4_method_14_code 28 = .ok (.bipush 10, 2) := by decide +kernel
theorem d_ST_mixedCounter_30 : decode prog_4_method_14_code 30 = .ok (.if_icmp .ge 39, 3) := by decide +kernel
theorem d_ST_mixedCounter_33 : decode prog_4_method_14_code 33 = .ok (.iload_n 1, 1) := by decide +kernel
theorem d_ST_mixedCounter_34 : decode prog_4_method_14_code 34 = .ok (.invokestatic 28, 3) := by decide +kernel
theorem d_ST_mixedCounter_37 : decode prog_4_method_14_code 37 = .ok (.ldc2_w 74, 3) := by decide +kernel
theorem d_ST_mixedCounter_40 : decode prog_4_method_14_code 40 = .ok (.lmul, 1) := by decide +kernel
theorem d_ST_mixedCounter_41 : decode prog_4_method_14_code 41 = .ok (.lstore 5, 2) := by decide +kernel
theorem d_ST_mixedCounter_43 : decode prog_4_method_14_code 43 = .ok (.lload 5, 2) := by decide +kernel
theorem d_ST_mixedCounter_45 : decode prog_4_method_14_code 45 = .ok (.bipush 32, 2) := by decide +kernel
theorem d_ST_mixedCounter_47 : decode prog_4_method_14_code 47 = .ok (.lushr, 1) := by decide +kernel
theorem d_ST_mixedCounter_48 : decode prog_4_method_14_code 48 = .ok (.l2i, 1) := by decide +kernel
theorem d_ST_mixedCounter_49 : decode prog_4_method_14_code 49 = .ok (.iload_n 3, 1) := by decide +kernel
theorem d_ST_mixedCounter_50 : decode prog_4_method_14_code 50 = .ok (.ixor, 1) := by decide +kernel
theorem d_ST_mixedCounter_51 : decode prog_4_method_14_code 51 = .ok (.iload_n 2, 1) := by decide +kernel
theorem d_ST_mixedCounter_52 : decode prog_4_method_14_code 52 = .ok (.ixor, 1) := by decide +kernel
theorem d_ST_mixedCounter_53 : decode prog_4_method_14_code 53 = .ok (.istore_n 1, 1) := by decide +kernel
theorem d_ST_mixedCounter_54 : decode prog_4_method_14_code 54 = .ok (.lload 5, 2) := by decide +kernel
theorem d_ST_mixedCounter_56 : decode prog_4_method_14_code 56 = .ok (.l2i, 1) := by decide +kernel
theorem d_ST_mixedCounter_57 : decode prog_4_method_14_code 57 = .ok (.istore_n 2, 1) := by decide +kernel
theorem d_ST_mixedCounter_58 : decode prog_4_method_14_code 58 = .ok (.iload_n 3, 1) := by decide +kernel
theorem d_ST_mixedCounter_59 : decode prog_4_method_14_code 59 = .ok (.ldc 76, 2) := by decide +kernel
theorem d_ST_mixedCounter_61 : decode prog_4_method_14_code 61 = .ok (.isub, 1) := by decide +kernel
theorem d_ST_mixedCounter_62 : decode prog_4_method_14_code 62 = .ok (.istore_n 3, 1) := by decide +kernel
theorem d_ST_mixedCounter_63 : decode prog_4_method_14_code 63 = .ok (.iinc 4 1, 3) := by decide +kernel
theorem d_ST_mixedCounter_66 : decode prog_4_method_14_code 66 = .ok (.goto (-40), 3) := by decide +kernel
theorem d_ST_mixedCounter_69 : decode prog_4_method_14_code 69 = .ok (.aload_n 0, 1) := by decide +kernel
theorem d_ST_mixedCounter_70 : decode prog_4_method_14_code 70 = .ok (.getfield 17, 3) := by decide +kernel
theorem d_ST_mixedCounter_73 : decode prog_4_method_14_code 73 = .ok (.lconst 1, 1) := by decide +kernel
theorem d_ST_mixedCounter_74 : decode prog_4_method_14_code 74 = .ok (.land, 1) := by decide +kernel
theorem d_ST_mixedCounter_75 : decode prog_4_method_14_code 75 = .ok (.lconst 0, 1) := by decide +kernel
theorem d_ST_mixedCounter_76 : decode prog_4_method_14_code 76 = .ok (.lcmp, 1) := by decide +kernel
theorem d_ST_mixedCounter_77 : decode prog_4_method_14_code 77 = .ok (.ifCond .ne 7, 3) := by decide +kernel
theorem d_ST_mixedCounter_80 : decode prog_4_method_14_code 80 = .ok (.iload_n 1, 1) := by decide +kernel
theorem d_ST_mixedCounter_81 : decode prog_4_method_14_code 81 = .ok (.goto 4, 3) := by decide +kernel
theorem d_ST_mixedCounter_84 : decode prog_4_method_14_code 84 = .ok (.iload_n 2, 1) := by decide +kernel
theorem d_ST_mixedCounter_85 : decode prog_4_method_14_code 85 = .ok (.ireturn, 1) := by decide +kernel
theorem d_ST_nextRemainder_0 : decode prog_4_method_15_code 0 = .ok (.ldc2_w 77, 3) := by decide +kernel
theorem d_ST_nextRemainder_3 : decode prog_4_method_15_code 3 = .ok (.aload_n 0, 1) := by decide +kernel
theorem d_ST_nextRemainder_4 : decode prog_4_method_15_code 4 = .ok (.getfield 13, 3) := by decide +kernel
theorem d_ST_nextRemainder_7 : decode prog_4_method_15_code 7 = .ok (.lmul, 1) := by decide +kernel
theorem d_ST_nextRemainder_8 : decode prog_4_method_15_code 8 = .ok (.ldc2_w 79, 3) := by decide +kernel
theorem d_ST_nextRemainder_11 : decode prog_4_method_15_code 11 = .ok (.aload_n 0, 1) := by decide +kernel
theorem d_ST_nextRemainder_12 : decode prog_4_method_15_code 12 = .ok (.getfield 17, 3) := by decide +kernel
theorem d_ST_nextRemainder_15 : decode prog_4_method_15_code 15 = .ok (.lmul, 1) := by decide +kernel
theorem d_ST_nextRemainder_16 : decode prog_4_method_15_code 16 = .ok (.ladd, 1) := by decide +kernel
theorem d_ST_nextRemainder_17 : decode prog_4_method_15_code 17 = .ok (.ldc2_w 36, 3) := by decide +kernel
theorem d_ST_nextRemainder_20 : decode prog_4_method_15_code 20 = .ok (.lrem, 1) := by decide +kernel
theorem d_ST_nextRemainder_21 : decode prog_4_method_15_code 21 = .ok (.lreturn, 1) := by decide +kernel
theorem d_ST_move_0 : decode prog_4_method_11_code 0 = .ok (.aload_n 0, 1) := by decide +kernel
theorem d_ST_move_1 : decode prog_4_method_11_code 1 = .ok (.getfield 7, 3) := by decide +kernel
theorem d_ST_move_4 : decode prog_4_method_11_code 4 = .ok (.tableswitch 83 0 2 #[28, 48, 55], 28) := by decide +kernel
theorem d_ST_move_32 : decode prog_4_method_11_code 32 = .ok (.aload_n 0, 1) := by decide +kernel
theorem d_ST_move_33 : decode prog_4_method_11_code 33 = .ok (.aload_n 0, 1) := by decide +kernel
theorem d_ST_move_34 : decode prog_4_method_11_code 34 = .ok (.getfield 13, 3) := by decide +kernel
theorem d_ST_move_37 : decode prog_4_method_11_code 37 = .ok (.ldc2_w 50, 3) := by decide +kernel
theorem d_ST_move_40 : decode prog_4_method_11_code 40 = .ok (.lmul, 1) := by decide +kernel
theorem d_ST_move_41 : decode prog_4_method_11_code 41 = .ok (.aload_n 0, 1) := by decide +kernel
theorem d_ST_move_42 : decode prog_4_method_11_code 42 = .ok (.getfield 17, 3) := by decide +kernel
theorem d_ST_move_45 : decode prog_4_method_11_code 45 = .ok (.ladd, 1) := by decide +kernel
theorem d_ST_move_46 : decode prog_4_method_11_code 46 = .ok (.putfield 13, 3) := by decide +kernel
theorem d_ST_move_49 : decode prog_4_method_11_code 49 = .ok (.goto 56, 3) := by decide +kernel
theorem d_ST_move_52 : decode prog_4_method_11_code 52 = .ok (.aload_n 0, 1) := by decide +kernel
theorem d_ST_move_53 : decode prog_4_method_11_code 53 = .ok (.invokevirtual 52, 3) := by decide +kernel
theorem d_ST_move_56 : decode prog_4_method_11_code 56 = .ok (.goto 49, 3) := by decide +kernel
theorem d_ST_move_59 : decode prog_4_method_11_code 59 = .ok (.aload_n 0, 1) := by decide +kernel
theorem d_ST_move_60 : decode prog_4_method_11_code 60 = .ok (.aload_n 0, 1) := by decide +kernel
theorem d_ST_move_61 : decode prog_4_method_11_code 61 = .ok (.getfield 17, 3) := by decide +kernel
theorem d_ST_move_64 : decode prog_4_method_11_code 64 = .ok (.ldc2_w 55, 3) := by decide +kernel
theorem d_ST_move_67 : decode prog_4_method_11_code 67 = .ok (.lcmp, 1) := by decide +kernel
theorem d_ST_move_68 : decode prog_4_method_11_code 68 = .ok (.ifCond .ne 7, 3) := by decide +kernel
theorem d_ST_move_71 : decode prog_4_method_11_code 71 = .ok (.lconst 0, 1) := by decide +kernel
theorem d_ST_move_72 : decode prog_4_method_11_code 72 = .ok (.goto 9, 3) := by decide +kernel
theorem d_ST_move_75 : decode prog_4_method_11_code 75 = .ok (.aload_n 0, 1) := by decide +kernel
theorem d_ST_move_76 : decode prog_4_method_11_code 76 = .ok (.getfield 17, 3) := by decide +kernel
theorem d_ST_move_79 : decode prog_4_method_11_code 79 = .ok (.lconst 1, 1) := by decide +kernel
theorem d_ST_move_80 : decode prog_4_method_11_code 80 = .ok (.ladd, 1) := by decide +kernel
theorem d_ST_move_81 : decode prog_4_method_11_code 81 = .ok (.putfield 17, 3) := by decide +kernel
theorem d_ST_move_84 : decode prog_4_method_11_code 84 = .ok (.goto 21, 3) := by decide +kernel
theorem d_ST_move_87 : decode prog_4_method_11_code 87 = .ok (.aload_n 0, 1) := by decide +kernel
theorem d_ST_move_88 : decode prog_4_method_11_code 88 = .ok (.invokevirtual 57, 3) := by decide +kernel
theorem d_ST_move_91 : decode prog_4_method_11_code 91 = .ok (.lstore_n 1, 1) := by decide +kernel
theorem d_ST_move_92 : decode prog_4_method_11_code 92 = .ok (.aload_n 0, 1) := by decide +kernel
theorem d_ST_move_93 : decode prog_4_method_11_code 93 = .ok (.aload_n 0, 1) := by decide +kernel
theorem d_ST_move_94 : decode prog_4_method_11_code 94 = .ok (.getfield 13, 3) := by decide +kernel
theorem d_ST_move_97 : decode prog_4_method_11_code 97 = .ok (.putfield 17, 3) := by decide +kernel
theorem d_ST_move_100 : decode prog_4_method_11_code 100 = .ok (.aload_n 0, 1) := by decide +kernel
theorem d_ST_move_101 : decode prog_4_method_11_code 101 = .ok (.lload_n 1, 1) := by decide +kernel
theorem d_ST_move_102 : decode prog_4_method_11_code 102 = .ok (.putfield 13, 3) := by decide +kernel
theorem d_ST_move_105 : decode prog_4_method_11_code 105 = .ok (.return_, 1) := by decide +kernel
theorem d_ST_moveRotations_0 : decode prog_4_method_13_code 0 = .ok (.aload_n 0, 1) := by decide +kernel
theorem d_ST_moveRotations_1 : decode prog_4_method_13_code 1 = .ok (.getfield 13, 3) := by decide +kernel
theorem d_ST_moveRotations_4 : decode prog_4_method_13_code 4 = .ok (.l2i, 1) := by decide +kernel
theorem d_ST_moveRotations_5 : decode prog_4_method_13_code 5 = .ok (.istore_n 1, 1) := by decide +kernel
theorem d_ST_moveRotations_6 : decode prog_4_method_13_code 6 = .ok (.aload_n 0, 1) := by decide +kernel
theorem d_ST_moveRotations_7 : decode prog_4_method_13_code 7 = .ok (.getfield 17, 3) := by decide +kernel
theorem d_ST_moveRotations_10 : decode prog_4_method_13_code 10 = .ok (.l2i, 1) := by decide +kernel
theorem d_ST_moveRotations_11 : decode prog_4_method_13_code 11 = .ok (.iload_n 1, 1) := by decide +kernel
theorem d_ST_moveRotations_12 : decode prog_4_method_13_code 12 = .ok (.ixor, 1) := by decide +kernel
theorem d_ST_moveRotations_13 : decode prog_4_method_13_code 13 = .ok (.istore_n 2, 1) := by decide +kernel
theorem d_ST_moveRotations_14 : decode prog_4_method_13_code 14 = .ok (.aload_n 0, 1) := by decide +kernel
theorem d_ST_moveRotations_15 : decode prog_4_method_13_code 15 = .ok (.iload_n 1, 1) := by decide +kernel
theorem d_ST_moveRotations_16 : decode prog_4_method_13_code 16 = .ok (.bipush 26, 2) := by decide +kernel
theorem d_ST_moveRotations_18 : decode prog_4_method_13_code 18 = .ok (.invokestatic 68, 3) := by decide +kernel
theorem d_ST_moveRotations_21 : decode prog_4_method_13_code 21 = .ok (.iload_n 2, 1) := by decide +kernel
theorem d_ST_moveRotations_22 : decode prog_4_method_13_code 22 = .ok (.ixor, 1) := by decide +kernel
theorem d_ST_moveRotations_23 : decode prog_4_method_13_code 23 = .ok (.iload_n 2, 1) := by decide +kernel
theorem d_ST_moveRotations_24 : decode prog_4_method_13_code 24 = .ok (.bipush 9, 2) := by decide +kernel
theorem d_ST_moveRotations_26 : decode prog_4_method_13_code 26 = .ok (.ishl, 1) := by decide +kernel
theorem d_ST_moveRotations_27 : decode prog_4_method_13_code 27 = .ok (.ixor, 1) := by decide +kernel
theorem d_ST_moveRotations_28 : decode prog_4_method_13_code 28 = .ok (.i2l, 1) := by decide +kernel
theorem d_ST_moveRotations_29 : decode prog_4_method_13_code 29 = .ok (.putfield 13, 3) := by decide +kernel
theorem d_ST_moveRotations_32 : decode prog_4_method_13_code 32 = .ok (.aload_n 0, 1) := by decide +kernel
theorem d_ST_moveRotations_33 : decode prog_4_method_13_code 33 = .ok (.iload_n 2, 1) := by decide +kernel
theorem d_ST_moveRotations_34 : decode prog_4_method_13_code 34 = .ok (.bipush 13, 2) := by decide +kernel
theorem d_ST_moveRotations_36 : decode prog_4_method_13_code 36 = .ok (.invokestatic 68, 3) := by decide +kernel
theorem d_ST_moveRotations_39 : decode prog_4_method_13_code 39 = .ok (.i2l, 1) := by decide +kernel
theorem d_ST_moveRotations_40 : decode prog_4_method_13_code 40 = .ok (.putfield 17, 3) := by decide +kernel
theorem d_ST_moveRotations_43 : decode prog_4_method_13_code 43 = .ok (.return_, 1) := by decide +kernel
theorem d_NS_jump_0 : decode prog_1_method_6_code 0 = .ok (.aload_n 0, 1) := by decide +kernel
theorem d_NS_jump_1 : decode prog_1_method_6_code 1 = .ok (.iload_n 1, 1) := by decide +kernel
theorem d_NS_jump_2 : decode prog_1_method_6_code 2 = .ok (.invokevirtual 61, 3) := by decide +kernel
theorem d_NS_jump_5 : decode prog_1_method_6_code 5 = .ok (.astore_n 3, 1) := by decide +kernel
theorem d_NS_jump_6 : decode prog_1_method_6_code 6 = .ok (.aload_n 3, 1) := by decide +kernel
theorem d_NS_jump_7 : decode prog_1_method_6_code 7 = .ok (.ifnull 13, 3) := by decide +kernel
theorem d_NS_jump_10 : decode prog_1_method_6_code 10 = .ok (.iload_n 2, 1) := by decide +kernel
theorem d_NS_jump_11 : decode prog_1_method_6_code 11 = .ok (.ifCond .lt 9, 3) := by decide +kernel
theorem d_NS_jump_14 : decode prog_1_method_6_code 14 = .ok (.iload_n 2, 1) := by decide +kernel
theorem d_NS_jump_15 : decode prog_1_method_6_code 15 = .ok (.ldc 84, 2) := by decide +kernel
theorem d_NS_jump_17 : decode prog_1_method_6_code 17 = .ok (.if_icmp .le 5, 3) := by decide +kernel
theorem d_NS_jump_20 : decode prog_1_method_6_code 20 = .ok (.iconst 0, 1) := by decide +kernel
theorem d_NS_jump_21 : decode prog_1_method_6_code 21 = .ok (.ireturn, 1) := by decide +kernel
theorem d_NS_jump_22 : decode prog_1_method_6_code 22 = .ok (.iconst 0, 1) := by decide +kernel
theorem d_NS_jump_23 : decode prog_1_method_6_code 23 = .ok (.istore 4, 2) := by decide +kernel
theorem d_NS_jump_25 : decode prog_1_method_6_code 25 = .ok (.iload 4, 2) := by decide +kernel
theorem d_NS_jump_27 : decode prog_1_method_6_code 27 = .ok (.iload_n 2, 1) := by decide +kernel
theorem d_NS_jump_28 : decode prog_1_method_6_code 28 = .ok (.if_icmp .ge 13, 3) := by decide +kernel
theorem d_NS_jump_31 : decode prog_1_method_6_code 31 = .ok (.aload_n 3, 1) := by decide +kernel
theorem d_NS_jump_32 : decode prog_1_method_6_code 32 = .ok (.invokevirtual 85, 3) := by decide +kernel
theorem d_NS_jump_35 : decode prog_1_method_6_code 35 = .ok (.iinc 4 1, 3) := by decide +kernel
theorem d_NS_jump_38 : decode prog_1_method_6_code 38 = .ok (.goto (-13), 3) := by decide +kernel
theorem d_NS_jump_41 : decode prog_1_method_6_code 41 = .ok (.iconst 1, 1) := by decide +kernel
theorem d_NS_jump_42 : decode prog_1_method_6_code 42 = .ok (.ireturn, 1) := by decide +kernel
theorem d_NS_draw_0 : decode prog_1_method_7_code 0 = .ok (.aload_n 0, 1) := by decide +kernel
theorem d_NS_draw_1 : decode prog_1_method_7_code 1 = .ok (.iload_n 1, 1) := by decide +kernel
theorem d_NS_draw_2 : decode prog_1_method_7_code 2 = .ok (.invokevirtual 61, 3) := by decide +kernel
theorem d_NS_draw_5 : decode prog_1_method_7_code 5 = .ok (.astore_n 3, 1) := by decide +kernel
theorem d_NS_draw_6 : decode prog_1_method_7_code 6 = .ok (.aload_n 3, 1) := by decide +kernel
theorem d_NS_draw_7 : decode prog_1_method_7_code 7 = .ok (.ifnull 8, 3) := by decide +kernel
theorem d_NS_draw_10 : decode prog_1_method_7_code 10 = .ok (.iload_n 2, 1) := by decide +kernel
theorem d_NS_draw_11 : decode prog_1_method_7_code 11 = .ok (.iconst 1, 1) := by decide +kernel
theorem d_NS_draw_12 : decode prog_1_method_7_code 12 = .ok (.if_icmp .ge 5, 3) := by decide +kernel
theorem d_NS_draw_15 : decode prog_1_method_7_code 15 = .ok (.iconst (-1), 1) := by decide +kernel
theorem d_NS_draw_16 : decode prog_1_method_7_code 16 = .ok (.ireturn, 1) := by decide +kernel
theorem d_NS_draw_17 : decode prog_1_method_7_code 17 = .ok (.aload_n 3, 1) := by decide +kernel
theorem d_NS_draw_18 : decode prog_1_method_7_code 18 = .ok (.iload_n 2, 1) := by decide +kernel
theorem d_NS_draw_19 : decode prog_1_method_7_code 19 = .ok (.invokevirtual 88, 3) := by decide +kernel
theorem d_NS_draw_22 : decode prog_1_method_7_code 22 = .ok (.ireturn, 1) := by decide +kernel
theorem d_ST_drawnBelow_0 : decode prog_4_method_10_code 0 = .ok (.iload_n 1, 1) := by decide +kernel
theorem d_ST_drawnBelow_1 : decode prog_4_method_10_code 1 = .ok (.iconst 1, 1) := by decide +kernel
theorem d_ST_drawnBelow_2 : decode prog_4_method_10_code 2 = .ok (.if_icmp .ge 7, 3) := by decide +kernel
theorem d_ST_drawnBelow_5 : decode prog_4_method_10_code 5 = .ok (.lconst 0, 1) := by decide +kernel
theorem d_ST_drawnBelow_6 : decode prog_4_method_10_code 6 = .ok (.goto 9, 3) := by decide +kernel
theorem d_ST_drawnBelow_9 : decode prog_4_method_10_code 9 = .ok (.ldc2_w 45, 3) := by decide +kernel
theorem d_ST_drawnBelow_12 : decode prog_4_method_10_code 12 = .ok (.iload_n 1, 1) := by decide +kernel
theorem d_ST_drawnBelow_13 : decode prog_4_method_10_code 13 = .ok (.i2l, 1) := by decide +kernel
theorem d_ST_drawnBelow_14 : decode prog_4_method_10_code 14 = .ok (.lrem, 1) := by decide +kernel
theorem d_ST_drawnBelow_15 : decode prog_4_method_10_code 15 = .ok (.lstore_n 2, 1) := by decide +kernel
theorem d_ST_drawnBelow_16 : decode prog_4_method_10_code 16 = .ok (.aload_n 0, 1) := by decide +kernel
theorem d_ST_drawnBelow_17 : decode prog_4_method_10_code 17 = .ok (.invokevirtual 47, 3) := by decide +kernel
theorem d_ST_drawnBelow_20 : decode prog_4_method_10_code 20 = .ok (.invokestatic 28, 3) := by decide +kernel
theorem d_ST_drawnBelow_23 : decode prog_4_method_10_code 23 = .ok (.iload_n 1, 1) := by decide +kernel
theorem d_ST_drawnBelow_24 : decode prog_4_method_10_code 24 = .ok (.i2l, 1) := by decide +kernel
theorem d_ST_drawnBelow_25 : decode prog_4_method_10_code 25 = .ok (.lmul, 1) := by decide +kernel
theorem d_ST_drawnBelow_26 : decode prog_4_method_10_code 26 = .ok (.lstore 4, 2) := by decide +kernel
theorem d_ST_drawnBelow_28 : decode prog_4_method_10_code 28 = .ok (.iconst 1, 1) := by decide +kernel
theorem d_ST_drawnBelow_29 : decode prog_4_method_10_code 29 = .ok (.istore 6, 2) := by decide +kernel
theorem d_ST_drawnBelow_31 : decode prog_4_method_10_code 31 = .ok (.iload 6, 2) := by decide +kernel
theorem d_ST_drawnBelow_33 : decode prog_4_method_10_code 33 = .ok (.bipush 8, 2) := by decide +kernel
theorem d_ST_drawnBelow_35 : decode prog_4_method_10_code 35 = .ok (.if_icmp .ge 32, 3) := by decide +kernel
theorem d_ST_drawnBelow_38 : decode prog_4_method_10_code 38 = .ok (.lload 4, 2) := by decide +kernel
theorem d_ST_drawnBelow_40 : decode prog_4_method_10_code 40 = .ok (.l2i, 1) := by decide +kernel
theorem d_ST_drawnBelow_41 : decode prog_4_method_10_code 41 = .ok (.invokestatic 28, 3) := by decide +kernel
theorem d_ST_drawnBelow_44 : decode prog_4_method_10_code 44 = .ok (.lload_n 2, 1) := by decide +kernel
theorem d_ST_drawnBelow_45 : decode prog_4_method_10_code 45 = .ok (.lcmp, 1) := by decide +kernel
theorem d_ST_drawnBelow_46 : decode prog_4_method_10_code 46 = .ok (.ifCond .ge 21, 3) := by decide +kernel
theorem d_ST_drawnBelow_49 : decode prog_4_method_10_code 49 = .ok (.aload_n 0, 1) := by decide +kernel
theorem d_ST_drawnBelow_50 : decode prog_4_method_10_code 50 = .ok (.invokevirtual 47, 3) := by decide +kernel
theorem d_ST_drawnBelow_53 : decode prog_4_method_10_code 53 = .ok (.invokestatic 28, 3) := by decide +kernel
theorem d_ST_drawnBelow_56 : decode prog_4_method_10_code 56 = .ok (.iload_n 1, 1) := by decide +kernel
theorem d_ST_drawnBelow_57 : decode prog_4_method_10_code 57 = .ok (.i2l, 1) := by decide +kernel
theorem d_ST_drawnBelow_58 : decode prog_4_method_10_code 58 = .ok (.lmul, 1) := by decide +kernel
theorem d_ST_drawnBelow_59 : decode prog_4_method_10_code 59 = .ok (.lstore 4, 2) := by decide +kernel
theorem d_ST_drawnBelow_61 : decode prog_4_method_10_code 61 = .ok (.iinc 6 1, 3) := by decide +kernel
theorem d_ST_drawnBelow_64 : decode prog_4_method_10_code 64 = .ok (.goto (-33), 3) := by decide +kernel
theorem d_ST_drawnBelow_67 : decode prog_4_method_10_code 67 = .ok (.lload 4, 2) := by decide +kernel
theorem d_ST_drawnBelow_69 : decode prog_4_method_10_code 69 = .ok (.bipush 32, 2) := by decide +kernel
theorem d_ST_drawnBelow_71 : decode prog_4_method_10_code 71 = .ok (.lushr, 1) := by decide +kernel
theorem d_ST_drawnBelow_72 : decode prog_4_method_10_code 72 = .ok (.l2i, 1) := by decide +kernel
theorem d_ST_drawnBelow_73 : decode prog_4_method_10_code 73 = .ok (.ireturn, 1) := by decide +kernel
theorem d_NS_same_0 : decode prog_1_method_8_code 0 = .ok (.aload_n 0, 1) := by decide +kernel
theorem d_NS_same_1 : decode prog_1_method_8_code 1 = .ok (.iload_n 1, 1) := by decide +kernel
theorem d_NS_same_2 : decode prog_1_method_8_code 2 = .ok (.invokevirtual 61, 3) := by decide +kernel
theorem d_NS_same_5 : decode prog_1_method_8_code 5 = .ok (.astore_n 3, 1) := by decide +kernel
theorem d_NS_same_6 : decode prog_1_method_8_code 6 = .ok (.aload_n 0, 1) := by decide +kernel
theorem d_NS_same_7 : decode prog_1_method_8_code 7 = .ok (.iload_n 2, 1) := by decide +kernel
theorem d_NS_same_8 : decode prog_1_method_8_code 8 = .ok (.invokevirtual 61, 3) := by decide +kernel
theorem d_NS_same_11 : decode prog_1_method_8_code 11 = .ok (.astore 4, 2) := by decide +kernel
theorem d_NS_same_13 : decode prog_1_method_8_code 13 = .ok (.aload_n 3, 1) := by decide +kernel
theorem d_NS_same_14 : decode prog_1_method_8_code 14 = .ok (.ifnull 50, 3) := by decide +kernel
theorem d_NS_same_17 : decode prog_1_method_8_code 17 = .ok (.aload 4, 2) := by decide +kernel
theorem d_NS_same_19 : decode prog_1_method_8_code 19 = .ok (.ifnull 45, 3) := by decide +kernel
theorem d_NS_same_22 : decode prog_1_method_8_code 22 = .ok (.aload_n 3, 1) := by decide +kernel
theorem d_NS_same_23 : decode prog_1_method_8_code 23 = .ok (.getfield 65, 3) := by decide +kernel
theorem d_NS_same_26 : decode prog_1_method_8_code 26 = .ok (.aload 4, 2) := by decide +kernel
theorem d_NS_same_28 : decode prog_1_method_8_code 28 = .ok (.getfield 65, 3) := by decide +kernel
theorem d_NS_same_31 : decode prog_1_method_8_code 31 = .ok (.if_icmp .ne 33, 3) := by decide +kernel
theorem d_NS_same_34 : decode prog_1_method_8_code 34 = .ok (.aload_n 3, 1) := by decide +kernel
theorem d_NS_same_35 : decode prog_1_method_8_code 35 = .ok (.getfield 68, 3) := by decide +kernel
theorem d_NS_same_38 : decode prog_1_method_8_code 38 = .ok (.aload 4, 2) := by decide +kernel
theorem d_NS_same_40 : decode prog_1_method_8_code 40 = .ok (.getfield 68, 3) := by decide +kernel
theorem d_NS_same_43 : decode prog_1_method_8_code 43 = .ok (.lcmp, 1) := by decide +kernel
theorem d_NS_same_44 : decode prog_1_method_8_code 44 = .ok (.ifCond .ne 20, 3) := by decide +kernel
theorem d_NS_same_47 : decode prog_1_method_8_code 47 = .ok (.aload_n 3, 1) := by decide +kernel
theorem d_NS_same_48 : decode prog_1_method_8_code 48 = .ok (.getfield 72, 3) := by decide +kernel
theorem d_NS_same_51 : decode prog_1_method_8_code 51 = .ok (.aload 4, 2) := by decide +kernel
theorem d_NS_same_53 : decode prog_1_method_8_code 53 = .ok (.getfield 72, 3) := by decide +kernel
theorem d_NS_same_56 : decode prog_1_method_8_code 56 = .ok (.lcmp, 1) := by decide +kernel
theorem d_NS_same_57 : decode prog_1_method_8_code 57 = .ok (.ifCond .ne 7, 3) := by decide +kernel
theorem d_NS_same_60 : decode prog_1_method_8_code 60 = .ok (.iconst 1, 1) := by decide +kernel
theorem d_NS_same_61 : decode prog_1_method_8_code 61 = .ok (.goto 4, 3) := by decide +kernel
theorem d_NS_same_64 : decode prog_1_method_8_code 64 = .ok (.iconst 0, 1) := by decide +kernel
theorem d_NS_same_65 : decode prog_1_method_8_code 65 = .ok (.ireturn, 1) := by decide +kernel
theorem d_NS_save_0 : decode prog_1_method_9_code 0 = .ok (.aload_n 0, 1) := by decide +kernel
theorem d_NS_save_1 : decode prog_1_method_9_code 1 = .ok (.iload_n 1, 1) := by decide +kernel
theorem d_NS_save_2 : decode prog_1_method_9_code 2 = .ok (.invokevirtual 61, 3) := by decide +kernel
theorem d_NS_save_5 : decode prog_1_method_9_code 5 = .ok (.astore_n 2, 1) := by decide +kernel
theorem d_NS_save_6 : decode prog_1_method_9_code 6 = .ok (.aload_n 2, 1) := by decide +kernel
theorem d_NS_save_7 : decode prog_1_method_9_code 7 = .ok (.ifnull 12, 3) := by decide +kernel
theorem d_NS_save_10 : decode prog_1_method_9_code 10 = .ok (.aload_n 0, 1) := by decide +kernel
theorem d_NS_save_11 : decode prog_1_method_9_code 11 = .ok (.getfield 21, 3) := by decide +kernel
theorem d_NS_save_14 : decode prog_1_method_9_code 14 = .ok (.bipush 6, 2) := by decide +kernel
theorem d_NS_save_16 : decode prog_1_method_9_code 16 = .ok (.if_icmp .lt 5, 3) := by decide +kernel
theorem d_NS_save_19 : decode prog_1_method_9_code 19 = .ok (.iconst (-1), 1) := by decide +kernel
theorem d_NS_save_20 : decode prog_1_method_9_code 20 = .ok (.ireturn, 1) := by decide +kernel
theorem d_NS_save_21 : decode prog_1_method_9_code 21 = .ok (.aload_n 0, 1) := by decide +kernel
theorem d_NS_save_22 : decode prog_1_method_9_code 22 = .ok (.getfield 21, 3) := by decide +kernel
theorem d_NS_save_25 : decode prog_1_method_9_code 25 = .ok (.istore_n 3, 1) := by decide +kernel
theorem d_NS_save_26 : decode prog_1_method_9_code 26 = .ok (.aload_n 0, 1) := by decide +kernel
theorem d_NS_save_27 : decode prog_1_method_9_code 27 = .ok (.getfield 17, 3) := by decide +kernel
theorem d_NS_save_30 : decode prog_1_method_9_code 30 = .ok (.iload_n 3, 1) := by decide +kernel
theorem d_NS_save_31 : decode prog_1_method_9_code 31 = .ok (.new 15, 3) := by decide +kernel
theorem d_NS_save_34 : decode prog_1_method_9_code 34 = .ok (.dup, 1) := by decide +kernel
theorem d_NS_save_35 : decode prog_1_method_9_code 35 = .ok (.aload_n 2, 1) := by decide +kernel
theorem d_NS_save_36 : decode prog_1_method_9_code 36 = .ok (.invokespecial 92, 3) := by decide +kernel
theorem d_NS_save_39 : decode prog_1_method_9_code 39 = .ok (.aastore, 1) := by decide +kernel
theorem d_NS_save_40 : decode prog_1_method_9_code 40 = .ok (.aload_n 0, 1) := by decide +kernel
theorem d_NS_save_41 : decode prog_1_method_9_code 41 = .ok (.dup, 1) := by decide +kernel
theorem d_NS_save_42 : decode prog_1_method_9_code 42 = .ok (.getfield 21, 3) := by decide +kernel
theorem d_NS_save_45 : decode prog_1_method_9_code 45 = .ok (.iconst 1, 1) := by decide +kernel
theorem d_NS_save_46 : decode prog_1_method_9_code 46 = .ok (.iadd, 1) := by decide +kernel
theorem d_NS_save_47 : decode prog_1_method_9_code 47 = .ok (.putfield 21, 3) := by decide +kernel
theorem d_NS_save_50 : decode prog_1_method_9_code 50 = .ok (.iload_n 3, 1) := by decide +kernel
theorem d_NS_save_51 : decode prog_1_method_9_code 51 = .ok (.ireturn, 1) := by decide +kernel
theorem d_SV_init_0 : decode prog_3_method_1_code 0 = .ok (.aload_n 0, 1) := by decide +kernel
theorem d_SV_init_1 : decode prog_3_method_1_code 1 = .ok (.invokespecial 1, 3) := by decide +kernel
theorem d_SV_init_4 : decode prog_3_method_1_code 4 = .ok (.aload_n 0, 1) := by decide +kernel
theorem d_SV_init_5 : decode prog_3_method_1_code 5 = .ok (.bipush 6, 2) := by decide +kernel
theorem d_SV_init_7 : decode prog_3_method_1_code 7 = .ok (.newarray .int, 2) := by decide +kernel
theorem d_SV_init_9 : decode prog_3_method_1_code 9 = .ok (.putfield 9, 3) := by decide +kernel
theorem d_SV_init_12 : decode prog_3_method_1_code 12 = .ok (.aload_n 0, 1) := by decide +kernel
theorem d_SV_init_13 : decode prog_3_method_1_code 13 = .ok (.iconst 0, 1) := by decide +kernel
theorem d_SV_init_14 : decode prog_3_method_1_code 14 = .ok (.putfield 13, 3) := by decide +kernel
theorem d_SV_init_17 : decode prog_3_method_1_code 17 = .ok (.aload_n 0, 1) := by decide +kernel
theorem d_SV_init_18 : decode prog_3_method_1_code 18 = .ok (.ldc 17, 2) := by decide +kernel
theorem d_SV_init_20 : decode prog_3_method_1_code 20 = .ok (.aload_n 1, 1) := by decide +kernel
theorem d_SV_init_21 : decode prog_3_method_1_code 21 = .ok (.getfield 18, 3) := by decide +kernel
theorem d_SV_init_24 : decode prog_3_method_1_code 24 = .ok (.iadd, 1) := by decide +kernel
theorem d_SV_init_25 : decode prog_3_method_1_code 25 = .ok (.invokevirtual 23, 3) := by decide +kernel
theorem d_SV_init_28 : decode prog_3_method_1_code 28 = .ok (.aload_n 0, 1) := by decide +kernel
theorem d_SV_init_29 : decode prog_3_method_1_code 29 = .ok (.aload_n 1, 1) := by decide +kernel
theorem d_SV_init_30 : decode prog_3_method_1_code 30 = .ok (.getfield 27, 3) := by decide +kernel
theorem d_SV_init_33 : decode prog_3_method_1_code 33 = .ok (.aload_n 1, 1) := by decide +kernel
theorem d_SV_init_34 : decode prog_3_method_1_code 34 = .ok (.getfield 18, 3) := by decide +kernel
theorem d_SV_init_37 : decode prog_3_method_1_code 37 = .ok (.invokestatic 31, 3) := by decide +kernel
theorem d_SV_init_40 : decode prog_3_method_1_code 40 = .ok (.invokevirtual 35, 3) := by decide +kernel
theorem d_SV_init_43 : decode prog_3_method_1_code 43 = .ok (.aload_n 0, 1) := by decide +kernel
theorem d_SV_init_44 : decode prog_3_method_1_code 44 = .ok (.aload_n 1, 1) := by decide +kernel
theorem d_SV_init_45 : decode prog_3_method_1_code 45 = .ok (.getfield 39, 3) := by decide +kernel
theorem d_SV_init_48 : decode prog_3_method_1_code 48 = .ok (.aload_n 1, 1) := by decide +kernel
theorem d_SV_init_49 : decode prog_3_method_1_code 49 = .ok (.getfield 18, 3) := by decide +kernel
theorem d_SV_init_52 : decode prog_3_method_1_code 52 = .ok (.invokestatic 42, 3) := by decide +kernel
theorem d_SV_init_55 : decode prog_3_method_1_code 55 = .ok (.invokevirtual 35, 3) := by decide +kernel
theorem d_SV_init_58 : decode prog_3_method_1_code 58 = .ok (.aload_n 0, 1) := by decide +kernel
theorem d_SV_init_59 : decode prog_3_method_1_code 59 = .ok (.aload_n 0, 1) := by decide +kernel
theorem d_SV_init_60 : decode prog_3_method_1_code 60 = .ok (.aload_n 0, 1) := by decide +kernel
theorem d_SV_init_61 : decode prog_3_method_1_code 61 = .ok (.getfield 13, 3) := by decide +kernel
theorem d_SV_init_64 : decode prog_3_method_1_code 64 = .ok (.invokevirtual 45, 3) := by decide +kernel
theorem d_SV_init_67 : decode prog_3_method_1_code 67 = .ok (.invokevirtual 23, 3) := by decide +kernel
theorem d_SV_init_70 : decode prog_3_method_1_code 70 = .ok (.return_, 1) := by decide +kernel
theorem d_SV_append_0 : decode prog_3_method_2_code 0 = .ok (.aload_n 0, 1) := by decide +kernel
theorem d_SV_append_1 : decode prog_3_method_2_code 1 = .ok (.getfield 9, 3) := by decide +kernel
theorem d_SV_append_4 : decode prog_3_method_2_code 4 = .ok (.aload_n 0, 1) := by decide +kernel
theorem d_SV_append_5 : decode prog_3_method_2_code 5 = .ok (.getfield 13, 3) := by decide +kernel
theorem d_SV_append_8 : decode prog_3_method_2_code 8 = .ok (.iload_n 1, 1) := by decide +kernel
theorem d_SV_append_9 : decode prog_3_method_2_code 9 = .ok (.iastore, 1) := by decide +kernel
theorem d_SV_append_10 : decode prog_3_method_2_code 10 = .ok (.aload_n 0, 1) := by decide +kernel
theorem d_SV_append_11 : decode prog_3_method_2_code 11 = .ok (.dup, 1) := by decide +kernel
theorem d_SV_append_12 : decode prog_3_method_2_code 12 = .ok (.getfield 13, 3) := by decide +kernel
theorem d_SV_append_15 : decode prog_3_method_2_code 15 = .ok (.iconst 1, 1) := by decide +kernel
theorem d_SV_append_16 : decode prog_3_method_2_code 16 = .ok (.iadd, 1) := by decide +kernel
theorem d_SV_append_17 : decode prog_3_method_2_code 17 = .ok (.putfield 13, 3) := by decide +kernel
theorem d_SV_append_20 : decode prog_3_method_2_code 20 = .ok (.return_, 1) := by decide +kernel
theorem d_ST_isFirstLong_0 : decode prog_4_method_3_code 0 = .ok (.iload_n 0, 1) := by decide +kernel
theorem d_ST_isFirstLong_1 : decode prog_4_method_3_code 1 = .ok (.ifCond .ne 7, 3) := by decide +kernel
theorem d_ST_isFirstLong_4 : decode prog_4_method_3_code 4 = .ok (.iconst 1, 1) := by decide +kernel
theorem d_ST_isFirstLong_5 : decode prog_4_method_3_code 5 = .ok (.goto 4, 3) := by decide +kernel
theorem d_ST_isFirstLong_8 : decode prog_4_method_3_code 8 = .ok (.iconst 0, 1) := by decide +kernel
theorem d_ST_isFirstLong_9 : decode prog_4_method_3_code 9 = .ok (.ireturn, 1) := by decide +kernel
theorem d_SV_appendPart_0 : decode prog_3_method_3_code 0 = .ok (.iload_n 3, 1) := by decide +kernel
theorem d_SV_appendPart_1 : decode prog_3_method_3_code 1 = .ok (.ifCond .eq 12, 3) := by decide +kernel
theorem d_SV_appendPart_4 : decode prog_3_method_3_code 4 = .ok (.aload_n 0, 1) := by decide +kernel
theorem d_SV_appendPart_5 : decode prog_3_method_3_code 5 = .ok (.lload_n 1, 1) := by decide +kernel
theorem d_SV_appendPart_6 : decode prog_3_method_3_code 6 = .ok (.bipush 32, 2) := by decide +kernel
theorem d_SV_appendPart_8 : decode prog_3_method_3_code 8 = .ok (.lushr, 1) := by decide +kernel
theorem d_SV_appendPart_9 : decode prog_3_method_3_code 9 = .ok (.l2i, 1) := by decide +kernel
theorem d_SV_appendPart_10 : decode prog_3_method_3_code 10 = .ok (.invokevirtual 23, 3) := by decide +kernel
theorem d_SV_appendPart_13 : decode prog_3_method_3_code 13 = .ok (.aload_n 0, 1) := by decide +kernel
theorem d_SV_appendPart_14 : decode prog_3_method_3_code 14 = .ok (.lload_n 1, 1) := by decide +kernel
theorem d_SV_appendPart_15 : decode prog_3_method_3_code 15 = .ok (.l2i, 1) := by decide +kernel
theorem d_SV_appendPart_16 : decode prog_3_method_3_code 16 = .ok (.invokevirtual 23, 3) := by decide +kernel
theorem d_SV_appendPart_19 : decode prog_3_method_3_code 19 = .ok (.return_, 1) := by decide +kernel
theorem d_ST_isSecondLong_0 : decode prog_4_method_4_code 0 = .ok (.iload_n 0, 1) := by decide +kernel
theorem d_ST_isSecondLong_1 : decode prog_4_method_4_code 1 = .ok (.ifCond .eq 8, 3) := by decide +kernel
theorem d_ST_isSecondLong_4 : decode prog_4_method_4_code 4 = .ok (.iload_n 0, 1) := by decide +kernel
theorem d_ST_isSecondLong_5 : decode prog_4_method_4_code 5 = .ok (.iconst 2, 1) := by decide +kernel
theorem d_ST_isSecondLong_6 : decode prog_4_method_4_code 6 = .ok (.if_icmp .ne 7, 3) := by decide +kernel
theorem d_ST_isSecondLong_9 : decode prog_4_method_4_code 9 = .ok (.iconst 1, 1) := by decide +kernel
theorem d_ST_isSecondLong_10 : decode prog_4_method_4_code 10 = .ok (.goto 4, 3) := by decide +kernel
theorem d_ST_isSecondLong_13 : decode prog_4_method_4_code 13 = .ok (.iconst 0, 1) := by decide +kernel
theorem d_ST_isSecondLong_14 : decode prog_4_method_4_code 14 = .ok (.ireturn, 1) := by decide +kernel
theorem d_SV_checkOfFirst_0 : decode prog_3_method_4_code 0 = .ok (.iconst 1, 1) := by decide +kernel
theorem d_SV_checkOfFirst_1 : decode prog_3_method_4_code 1 = .ok (.istore_n 2, 1) := by decide +kernel
theorem d_SV_checkOfFirst_2 : decode prog_3_method_4_code 2 = .ok (.iconst 0, 1) := by decide +kernel
theorem d_SV_checkOfFirst_3 : decode prog_3_method_4_code 3 = .ok (.istore_n 3, 1) := by decide +kernel
theorem d_SV_checkOfFirst_4 : decode prog_3_method_4_code 4 = .ok (.iload_n 3, 1) := by decide +kernel
theorem d_SV_checkOfFirst_5 : decode prog_3_method_4_code 5 = .ok (.iload_n 1, 1) := by decide +kernel
theorem d_SV_checkOfFirst_6 : decode prog_3_method_4_code 6 = .ok (.if_icmp .ge 21, 3) := by decide +kernel
theorem d_SV_checkOfFirst_9 : decode prog_3_method_4_code 9 = .ok (.bipush 31, 2) := by decide +kernel
theorem d_SV_checkOfFirst_11 : decode prog_3_method_4_code 11 = .ok (.iload_n 2, 1) := by decide +kernel
theorem d_SV_checkOfFirst_12 : decode prog_3_method_4_code 12 = .ok (.imul, 1) := by decide +kernel
theorem d_SV_checkOfFirst_13 : decode prog_3_method_4_code 13 = .ok (.aload_n 0, 1) := by decide +kernel
theorem d_SV_checkOfFirst_14 : decode prog_3_method_4_code 14 = .ok (.getfield 9, 3) := by decide +kernel
theorem d_SV_checkOfFirst_17 : decode prog_3_method_4_code 17 = .ok (.iload_n 3, 1) := by decide +kernel
theorem d_SV_checkOfFirst_18 : decode prog_3_method_4_code 18 = .ok (.iaload, 1) := by decide +kernel
theorem d_SV_checkOfFirst_19 : decode prog_3_method_4_code 19 = .ok (.iadd, 1) := by decide +kernel
theorem d_SV_checkOfFirst_20 : decode prog_3_method_4_code 20 = .ok (.istore_n 2, 1) := by decide +kernel
theorem d_SV_checkOfFirst_21 : decode prog_3_method_4_code 21 = .ok (.iinc 3 1, 3) := by decide +kernel
theorem d_SV_checkOfFirst_24 : decode prog_3_method_4_code 24 = .ok (.goto (-20), 3) := by decide +kernel
theorem d_SV_checkOfFirst_27 : decode prog_3_method_4_code 27 = .ok (.iload_n 2, 1) := by decide +kernel
theorem d_SV_checkOfFirst_28 : decode prog_3_method_4_code 28 = .ok (.iload_n 2, 1) := by decide +kernel
theorem d_SV_checkOfFirst_29 : decode prog_3_method_4_code 29 = .ok (.bipush 15, 2) := by decide +kernel
theorem d_SV_checkOfFirst_31 : decode prog_3_method_4_code 31 = .ok (.iushr, 1) := by decide +kernel
theorem d_SV_checkOfFirst_32 : decode prog_3_method_4_code 32 = .ok (.ixor, 1) := by decide +kernel
theorem d_SV_checkOfFirst_33 : decode prog_3_method_4_code 33 = .ok (.ireturn, 1) := by decide +kernel
theorem d_NS_length_0 : decode prog_1_method_10_code 0 = .ok (.aload_n 0, 1) := by decide +kernel
theorem d_NS_length_1 : decode prog_1_method_10_code 1 = .ok (.iload_n 1, 1) := by decide +kernel
theorem d_NS_length_2 : decode prog_1_method_10_code 2 = .ok (.invokevirtual 95, 3) := by decide +kernel
theorem d_NS_length_5 : decode prog_1_method_10_code 5 = .ok (.astore_n 2, 1) := by decide +kernel
theorem d_NS_length_6 : decode prog_1_method_10_code 6 = .ok (.aload_n 2, 1) := by decide +kernel
theorem d_NS_length_7 : decode prog_1_method_10_code 7 = .ok (.ifnonnull 7, 3) := by decide +kernel
theorem d_NS_length_10 : decode prog_1_method_10_code 10 = .ok (.iconst (-1), 1) := by decide +kernel
theorem d_NS_length_11 : decode prog_1_method_10_code 11 = .ok (.goto 7, 3) := by decide +kernel
theorem d_NS_length_14 : decode prog_1_method_10_code 14 = .ok (.aload_n 2, 1) := by decide +kernel
theorem d_NS_length_15 : decode prog_1_method_10_code 15 = .ok (.getfield 99, 3) := by decide +kernel
theorem d_NS_length_18 : decode prog_1_method_10_code 18 = .ok (.ireturn, 1) := by decide +kernel
theorem d_NS_recordAt_0 : decode prog_1_method_24_code 0 = .ok (.iload_n 1, 1) := by decide +kernel
theorem d_NS_recordAt_1 : decode prog_1_method_24_code 1 = .ok (.ifCond .lt 11, 3) := by decide +kernel
theorem d_NS_recordAt_4 : decode prog_1_method_24_code 4 = .ok (.iload_n 1, 1) := by decide +kernel
theorem d_NS_recordAt_5 : decode prog_1_method_24_code 5 = .ok (.aload_n 0, 1) := by decide +kernel
theorem d_NS_recordAt_6 : decode prog_1_method_24_code 6 = .ok (.getfield 21, 3) := by decide +kernel
theorem d_NS_recordAt_9 : decode prog_1_method_24_code 9 = .ok (.if_icmp .lt 7, 3) := by decide +kernel
theorem d_NS_recordAt_12 : decode prog_1_method_24_code 12 = .ok (.aconst_null, 1) := by decide +kernel
theorem d_NS_recordAt_13 : decode prog_1_method_24_code 13 = .ok (.goto 9, 3) := by decide +kernel
theorem d_NS_recordAt_16 : decode prog_1_method_24_code 16 = .ok (.aload_n 0, 1) := by decide +kernel
theorem d_NS_recordAt_17 : decode prog_1_method_24_code 17 = .ok (.getfield 17, 3) := by decide +kernel
theorem d_NS_recordAt_20 : decode prog_1_method_24_code 20 = .ok (.iload_n 1, 1) := by decide +kernel
theorem d_NS_recordAt_21 : decode prog_1_method_24_code 21 = .ok (.aaload, 1) := by decide +kernel
theorem d_NS_recordAt_22 : decode prog_1_method_24_code 22 = .ok (.areturn, 1) := by decide +kernel
theorem d_NS_word_0 : decode prog_1_method_11_code 0 = .ok (.aload_n 0, 1) := by decide +kernel
theorem d_NS_word_1 : decode prog_1_method_11_code 1 = .ok (.iload_n 1, 1) := by decide +kernel
theorem d_NS_word_2 : decode prog_1_method_11_code 2 = .ok (.invokevirtual 95, 3) := by decide +kernel
theorem d_NS_word_5 : decode prog_1_method_11_code 5 = .ok (.astore_n 3, 1) := by decide +kernel
theorem d_NS_word_6 : decode prog_1_method_11_code 6 = .ok (.aload_n 3, 1) := by decide +kernel
theorem d_NS_word_7 : decode prog_1_method_11_code 7 = .ok (.ifnull 11, 3) := by decide +kernel
theorem d_NS_word_10 : decode prog_1_method_11_code 10 = .ok (.aload_n 3, 1) := by decide +kernel
theorem d_NS_word_11 : decode prog_1_method_11_code 11 = .ok (.iload_n 2, 1) := by decide +kernel
theorem d_NS_word_12 : decode prog_1_method_11_code 12 = .ok (.invokevirtual 102, 3) := by decide +kernel
theorem d_NS_word_15 : decode prog_1_method_11_code 15 = .ok (.ifCond .ne 7, 3) := by decide +kernel
theorem d_NS_word_18 : decode prog_1_method_11_code 18 = .ok (.iconst 0, 1) := by decide +kernel
theorem d_NS_word_19 : decode prog_1_method_11_code 19 = .ok (.goto 9, 3) := by decide +kernel
theorem d_NS_word_22 : decode prog_1_method_11_code 22 = .ok (.aload_n 3, 1) := by decide +kernel
theorem d_NS_word_23 : decode prog_1_method_11_code 23 = .ok (.getfield 105, 3) := by decide +kernel
theorem d_NS_word_26 : decode prog_1_method_11_code 26 = .ok (.iload_n 2, 1) := by decide +kernel
theorem d_NS_word_27 : decode prog_1_method_11_code 27 = .ok (.iaload, 1) := by decide +kernel
theorem d_NS_word_28 : decode prog_1_method_11_code 28 = .ok (.ireturn, 1) := by decide +kernel
theorem d_SV_hasWord_0 : decode prog_3_method_5_code 0 = .ok (.iload_n 1, 1) := by decide +kernel
theorem d_SV_hasWord_1 : decode prog_3_method_5_code 1 = .ok (.ifCond .lt 15, 3) := by decide +kernel
theorem d_SV_hasWord_4 : decode prog_3_method_5_code 4 = .ok (.iload_n 1, 1) := by decide +kernel
theorem d_SV_hasWord_5 : decode prog_3_method_5_code 5 = .ok (.aload_n 0, 1) := by decide +kernel
theorem d_SV_hasWord_6 : decode prog_3_method_5_code 6 = .ok (.getfield 13, 3) := by decide +kernel
theorem d_SV_hasWord_9 : decode prog_3_method_5_code 9 = .ok (.if_icmp .ge 7, 3) := by decide +kernel
theorem d_SV_hasWord_12 : decode prog_3_method_5_code 12 = .ok (.iconst 1, 1) := by decide +kernel
theorem d_SV_hasWord_13 : decode prog_3_method_5_code 13 = .ok (.goto 4, 3) := by decide +kernel
theorem d_SV_hasWord_16 : decode prog_3_method_5_code 16 = .ok (.iconst 0, 1) := by decide +kernel
theorem d_SV_hasWord_17 : decode prog_3_method_5_code 17 = .ok (.ireturn, 1) := by decide +kernel
theorem d_NS_spoil_0 : decode prog_1_method_12_code 0 = .ok (.aload_n 0, 1) := by decide +kernel
theorem d_NS_spoil_1 : decode prog_1_method_12_code 1 = .ok (.iload_n 1, 1) := by decide +kernel
theorem d_NS_spoil_2 : decode prog_1_method_12_code 2 = .ok (.invokevirtual 95, 3) := by decide +kernel
theorem d_NS_spoil_5 : decode prog_1_method_12_code 5 = .ok (.astore 4, 2) := by decide +kernel
theorem d_NS_spoil_7 : decode prog_1_method_12_code 7 = .ok (.aload 4, 2) := by decide +kernel
theorem d_NS_spoil_9 : decode prog_1_method_12_code 9 = .ok (.ifnull 12, 3) := by decide +kernel
theorem d_NS_spoil_12 : decode prog_1_method_12_code 12 = .ok (.aload 4, 2) := by decide +kernel
theorem d_NS_spoil_14 : decode prog_1_method_12_code 14 = .ok (.iload_n 2, 1) := by decide +kernel
theorem d_NS_spoil_15 : decode prog_1_method_12_code 15 = .ok (.invokevirtual 102, 3) := by decide +kernel
theorem d_NS_spoil_18 : decode prog_1_method_12_code 18 = .ok (.ifCond .ne 5, 3) := by decide +kernel
theorem d_NS_spoil_21 : decode prog_1_method_12_code 21 = .ok (.iconst 0, 1) := by decide +kernel
theorem d_NS_spoil_22 : decode prog_1_method_12_code 22 = .ok (.ireturn, 1) := by decide +kernel
theorem d_NS_spoil_23 : decode prog_1_method_12_code 23 = .ok (.aload 4, 2) := by decide +kernel
theorem d_NS_spoil_25 : decode prog_1_method_12_code 25 = .ok (.getfield 105, 3) := by decide +kernel
theorem d_NS_spoil_28 : decode prog_1_method_12_code 28 = .ok (.iload_n 2, 1) := by decide +kernel
theorem d_NS_spoil_29 : decode prog_1_method_12_code 29 = .ok (.dup2, 1) := by decide +kernel
theorem d_NS_spoil_30 : decode prog_1_method_12_code 30 = .ok (.iaload, 1) := by decide +kernel
theorem d_NS_spoil_31 : decode prog_1_method_12_code 31 = .ok (.iload_n 3, 1) := by decide +kernel
theorem d_NS_spoil_32 : decode prog_1_method_12_code 32 = .ok (.ixor, 1) := by decide +kernel
theorem d_NS_spoil_33 : decode prog_1_method_12_code 33 = .ok (.iastore, 1) := by decide +kernel
theorem d_NS_spoil_34 : decode prog_1_method_12_code 34 = .ok (.iconst 1, 1) := by decide +kernel
theorem d_NS_spoil_35 : decode prog_1_method_12_code 35 = .ok (.ireturn, 1) := by decide +kernel
theorem d_NS_cut_0 : decode prog_1_method_13_code 0 = .ok (.aload_n 0, 1) := by decide +kernel
theorem d_NS_cut_1 : decode prog_1_method_13_code 1 = .ok (.iload_n 1, 1) := by decide +kernel
theorem d_NS_cut_2 : decode prog_1_method_13_code 2 = .ok (.invokevirtual 95, 3) := by decide +kernel
theorem d_NS_cut_5 : decode prog_1_method_13_code 5 = .ok (.astore_n 2, 1) := by decide +kernel
theorem d_NS_cut_6 : decode prog_1_method_13_code 6 = .ok (.aload_n 2, 1) := by decide +kernel
theorem d_NS_cut_7 : decode prog_1_method_13_code 7 = .ok (.ifnull 10, 3) := by decide +kernel
theorem d_NS_cut_10 : decode prog_1_method_13_code 10 = .ok (.aload_n 2, 1) := by decide +kernel
theorem d_NS_cut_11 : decode prog_1_method_13_code 11 = .ok (.getfield 99, 3) := by decide +kernel
theorem d_NS_cut_14 : decode prog_1_method_13_code 14 = .ok (.ifCond .ne 5, 3) := by decide +kernel
theorem d_NS_cut_17 : decode prog_1_method_13_code 17 = .ok (.iconst 0, 1) := by decide +kernel
theorem d_NS_cut_18 : decode prog_1_method_13_code 18 = .ok (.ireturn, 1) := by decide +kernel
theorem d_NS_cut_19 : decode prog_1_method_13_code 19 = .ok (.aload_n 2, 1) := by decide +kernel
theorem d_NS_cut_20 : decode prog_1_method_13_code 20 = .ok (.dup, 1) := by decide +kernel
theorem d_NS_cut_21 : decode prog_1_method_13_code 21 = .ok (.getfield 99, 3) := by decide +kernel
theorem d_NS_cut_24 : decode prog_1_method_13_code 24 = .ok (.iconst 1, 1) := by decide +kernel
theorem d_NS_cut_25 : decode prog_1_method_13_code 25 = .ok (.isub, 1) := by decide +kernel
theorem d_NS_cut_26 : decode prog_1_method_13_code 26 = .ok (.putfield 99, 3) := by decide +kernel
theorem d_NS_cut_29 : decode prog_1_method_13_code 29 = .ok (.iconst 1, 1) := by decide +kernel
theorem d_NS_cut_30 : decode prog_1_method_13_code 30 = .ok (.ireturn, 1) := by decide +kernel
theorem d_NS_restore_0 : decode prog_1_method_14_code 0 = .ok (.aload_n 0, 1) := by decide +kernel
theorem d_NS_restore_1 : decode prog_1_method_14_code 1 = .ok (.iload_n 1, 1) := by decide +kernel
theorem d_NS_restore_2 : decode prog_1_method_14_code 2 = .ok (.invokevirtual 95, 3) := by decide +kernel
theorem d_NS_restore_5 : decode prog_1_method_14_code 5 = .ok (.astore_n 2, 1) := by decide +kernel
theorem d_NS_restore_6 : decode prog_1_method_14_code 6 = .ok (.aload_n 2, 1) := by decide +kernel
theorem d_NS_restore_7 : decode prog_1_method_14_code 7 = .ok (.ifnonnull 5, 3) := by decide +kernel
theorem d_NS_restore_10 : decode prog_1_method_14_code 10 = .ok (.iconst (-1), 1) := by decide +kernel
theorem d_NS_restore_11 : decode prog_1_method_14_code 11 = .ok (.ireturn, 1) := by decide +kernel
theorem d_NS_restore_12 : decode prog_1_method_14_code 12 = .ok (.aload_n 2, 1) := by decide +kernel
theorem d_NS_restore_13 : decode prog_1_method_14_code 13 = .ok (.invokevirtual 108, 3) := by decide +kernel
theorem d_NS_restore_16 : decode prog_1_method_14_code 16 = .ok (.istore_n 3, 1) := by decide +kernel
theorem d_NS_restore_17 : decode prog_1_method_14_code 17 = .ok (.iload_n 3, 1) := by decide +kernel
theorem d_NS_restore_18 : decode prog_1_method_14_code 18 = .ok (.ifCond .eq 5, 3) := by decide +kernel
theorem d_NS_restore_21 : decode prog_1_method_14_code 21 = .ok (.iload_n 3, 1) := by decide +kernel
theorem d_NS_restore_22 : decode prog_1_method_14_code 22 = .ok (.ireturn, 1) := by decide +kernel
theorem d_NS_restore_23 : decode prog_1_method_14_code 23 = .ok (.aload_n 0, 1) := by decide +kernel
theorem d_NS_restore_24 : decode prog_1_method_14_code 24 = .ok (.invokevirtual 39, 3) := by decide +kernel
theorem d_NS_restore_27 : decode prog_1_method_14_code 27 = .ok (.istore 4, 2) := by decide +kernel
theorem d_NS_restore_29 : decode prog_1_method_14_code 29 = .ok (.iload 4, 2) := by decide +kernel
theorem d_NS_restore_31 : decode prog_1_method_14_code 31 = .ok (.ifCond .ge 6, 3) := by decide +kernel
theorem d_NS_restore_34 : decode prog_1_method_14_code 34 = .ok (.bipush (-6), 2) := by decide +kernel
theorem d_NS_restore_36 : decode prog_1_method_14_code 36 = .ok (.ireturn, 1) := by decide +kernel
theorem d_NS_restore_37 : decode prog_1_method_14_code 37 = .ok (.aload_n 0, 1) := by decide +kernel
theorem d_NS_restore_38 : decode prog_1_method_14_code 38 = .ok (.getfield 11, 3) := by decide +kernel
theorem d_NS_restore_41 : decode prog_1_method_14_code 41 = .ok (.iload 4, 2) := by decide +kernel
theorem d_NS_restore_43 : decode prog_1_method_14_code 43 = .ok (.new 9, 3) := by decide +kernel
theorem d_NS_restore_46 : decode prog_1_method_14_code 46 = .ok (.dup, 1) := by decide +kernel
theorem d_NS_restore_47 : decode prog_1_method_14_code 47 = .ok (.aload_n 2, 1) := by decide +kernel
theorem d_NS_restore_48 : decode prog_1_method_14_code 48 = .ok (.invokevirtual 111, 3) := by decide +kernel
theorem d_NS_restore_51 : decode prog_1_method_14_code 51 = .ok (.aload_n 2, 1) := by decide +kernel
theorem d_NS_restore_52 : decode prog_1_method_14_code 52 = .ok (.invokevirtual 113, 3) := by decide +kernel
theorem d_NS_restore_55 : decode prog_1_method_14_code 55 = .ok (.aload_n 2, 1) := by decide +kernel
theorem d_NS_restore_56 : decode prog_1_method_14_code 56 = .ok (.invokevirtual 116, 3) := by decide +kernel
theorem d_NS_restore_59 : decode prog_1_method_14_code 59 = .ok (.invokespecial 58, 3) := by decide +kernel
theorem d_NS_restore_62 : decode prog_1_method_14_code 62 = .ok (.aastore, 1) := by decide +kernel
theorem d_NS_restore_63 : decode prog_1_method_14_code 63 = .ok (.iload 4, 2) := by decide +kernel
theorem d_NS_restore_65 : decode prog_1_method_14_code 65 = .ok (.ireturn, 1) := by decide +kernel
theorem d_SV_fault_0 : decode prog_3_method_6_code 0 = .ok (.aload_n 0, 1) := by decide +kernel
theorem d_SV_fault_1 : decode prog_3_method_6_code 1 = .ok (.getfield 13, 3) := by decide +kernel
theorem d_SV_fault_4 : decode prog_3_method_6_code 4 = .ok (.ifCond .eq 13, 3) := by decide +kernel
theorem d_SV_fault_7 : decode prog_3_method_6_code 7 = .ok (.aload_n 0, 1) := by decide +kernel
theorem d_SV_fault_8 : decode prog_3_method_6_code 8 = .ok (.invokevirtual 49, 3) := by decide +kernel
theorem d_SV_fault_11 : decode prog_3_method_6_code 11 = .ok (.invokestatic 52, 3) := by decide +kernel
theorem d_SV_fault_14 : decode prog_3_method_6_code 14 = .ok (.ifCond .ne 6, 3) := by decide +kernel
theorem d_SV_fault_17 : decode prog_3_method_6_code 17 = .ok (.bipush (-2), 2) := by decide +kernel
theorem d_SV_fault_19 : decode prog_3_method_6_code 19 = .ok (.ireturn, 1) := by decide +kernel
theorem d_SV_fault_20 : decode prog_3_method_6_code 20 = .ok (.aload_n 0, 1) := by decide +kernel
theorem d_SV_fault_21 : decode prog_3_method_6_code 21 = .ok (.getfield 13, 3) := by decide +kernel
theorem d_SV_fault_24 : decode prog_3_method_6_code 24 = .ok (.aload_n 0, 1) := by decide +kernel
theorem d_SV_fault_25 : decode prog_3_method_6_code 25 = .ok (.invokevirtual 49, 3) := by decide +kernel
theorem d_SV_fault_28 : decode prog_3_method_6_code 28 = .ok (.invokestatic 55, 3) := by decide +kernel
theorem d_SV_fault_31 : decode prog_3_method_6_code 31 = .ok (.if_icmp .eq 6, 3) := by decide +kernel
theorem d_SV_fault_34 : decode prog_3_method_6_code 34 = .ok (.bipush (-3), 2) := by decide +kernel
theorem d_SV_fault_36 : decode prog_3_method_6_code 36 = .ok (.ireturn, 1) := by decide +kernel
theorem d_SV_fault_37 : decode prog_3_method_6_code 37 = .ok (.aload_n 0, 1) := by decide +kernel
theorem d_SV_fault_38 : decode prog_3_method_6_code 38 = .ok (.getfield 9, 3) := by decide +kernel
theorem d_SV_fault_41 : decode prog_3_method_6_code 41 = .ok (.aload_n 0, 1) := by decide +kernel
theorem d_SV_fault_42 : decode prog_3_method_6_code 42 = .ok (.getfield 13, 3) := by decide +kernel
theorem d_SV_fault_45 : decode prog_3_method_6_code 45 = .ok (.iconst 1, 1) := by decide +kernel
theorem d_SV_fault_46 : decode prog_3_method_6_code 46 = .ok (.isub, 1) := by decide +kernel
theorem d_SV_fault_47 : decode prog_3_method_6_code 47 = .ok (.iaload, 1) := by decide +kernel
theorem d_SV_fault_48 : decode prog_3_method_6_code 48 = .ok (.aload_n 0, 1) := by decide +kernel
theorem d_SV_fault_49 : decode prog_3_method_6_code 49 = .ok (.aload_n 0, 1) := by decide +kernel
theorem d_SV_fault_50 : decode prog_3_method_6_code 50 = .ok (.getfield 13, 3) := by decide +kernel
theorem d_SV_fault_53 : decode prog_3_method_6_code 53 = .ok (.iconst 1, 1) := by decide +kernel
theorem d_SV_fault_54 : decode prog_3_method_6_code 54 = .ok (.isub, 1) := by decide +kernel
theorem d_SV_fault_55 : decode prog_3_method_6_code 55 = .ok (.invokevirtual 45, 3) := by decide +kernel
theorem d_SV_fault_58 : decode prog_3_method_6_code 58 = .ok (.if_icmp .eq 6, 3) := by decide +kernel
theorem d_SV_fault_61 : decode prog_3_method_6_code 61 = .ok (.bipush (-4), 2) := by decide +kernel
theorem d_SV_fault_63 : decode prog_3_method_6_code 63 = .ok (.ireturn, 1) := by decide +kernel
theorem d_SV_fault_64 : decode prog_3_method_6_code 64 = .ok (.aload_n 0, 1) := by decide +kernel
theorem d_SV_fault_65 : decode prog_3_method_6_code 65 = .ok (.invokevirtual 49, 3) := by decide +kernel
theorem d_SV_fault_68 : decode prog_3_method_6_code 68 = .ok (.aload_n 0, 1) := by decide +kernel
theorem d_SV_fault_69 : decode prog_3_method_6_code 69 = .ok (.invokevirtual 58, 3) := by decide +kernel
theorem d_SV_fault_72 : decode prog_3_method_6_code 72 = .ok (.aload_n 0, 1) := by decide +kernel
theorem d_SV_fault_73 : decode prog_3_method_6_code 73 = .ok (.invokevirtual 61, 3) := by decide +kernel
theorem d_SV_fault_76 : decode prog_3_method_6_code 76 = .ok (.invokestatic 63, 3) := by decide +kernel
theorem d_SV_fault_79 : decode prog_3_method_6_code 79 = .ok (.ifCond .eq 7, 3) := by decide +kernel
theorem d_SV_fault_82 : decode prog_3_method_6_code 82 = .ok (.iconst 0, 1) := by decide +kernel
theorem d_SV_fault_83 : decode prog_3_method_6_code 83 = .ok (.goto 5, 3) := by decide +kernel
theorem d_SV_fault_86 : decode prog_3_method_6_code 86 = .ok (.bipush (-5), 2) := by decide +kernel
theorem d_SV_fault_88 : decode prog_3_method_6_code 88 = .ok (.ireturn, 1) := by decide +kernel
theorem d_SV_kind_0 : decode prog_3_method_9_code 0 = .ok (.aload_n 0, 1) := by decide +kernel
theorem d_SV_kind_1 : decode prog_3_method_9_code 1 = .ok (.getfield 9, 3) := by decide +kernel
theorem d_SV_kind_4 : decode prog_3_method_9_code 4 = .ok (.iconst 0, 1) := by decide +kernel
theorem d_SV_kind_5 : decode prog_3_method_9_code 5 = .ok (.iaload, 1) := by decide +kernel
theorem d_SV_kind_6 : decode prog_3_method_9_code 6 = .ok (.ldc 17, 2) := by decide +kernel
theorem d_SV_kind_8 : decode prog_3_method_9_code 8 = .ok (.isub, 1) := by decide +kernel
theorem d_SV_kind_9 : decode prog_3_method_9_code 9 = .ok (.ireturn, 1) := by decide +kernel
theorem d_SV_wordsOfKind_0 : decode prog_3_method_7_code 0 = .ok (.iconst 2, 1) := by decide +kernel
theorem d_SV_wordsOfKind_1 : decode prog_3_method_7_code 1 = .ok (.iload_n 0, 1) := by decide +kernel
theorem d_SV_wordsOfKind_2 : decode prog_3_method_7_code 2 = .ok (.invokestatic 31, 3) := by decide +kernel
theorem d_SV_wordsOfKind_5 : decode prog_3_method_7_code 5 = .ok (.invokestatic 67, 3) := by decide +kernel
theorem d_SV_wordsOfKind_8 : decode prog_3_method_7_code 8 = .ok (.iadd, 1) := by decide +kernel
theorem d_SV_wordsOfKind_9 : decode prog_3_method_7_code 9 = .ok (.iload_n 0, 1) := by decide +kernel
theorem d_SV_wordsOfKind_10 : decode prog_3_method_7_code 10 = .ok (.invokestatic 42, 3) := by decide +kernel
theorem d_SV_wordsOfKind_13 : decode prog_3_method_7_code 13 = .ok (.invokestatic 67, 3) := by decide +kernel
theorem d_SV_wordsOfKind_16 : decode prog_3_method_7_code 16 = .ok (.iadd, 1) := by decide +kernel
theorem d_SV_wordsOfKind_17 : decode prog_3_method_7_code 17 = .ok (.ireturn, 1) := by decide +kernel
theorem d_SV_wordsOfPart_0 : decode prog_3_method_8_code 0 = .ok (.iload_n 0, 1) := by decide +kernel
theorem d_SV_wordsOfPart_1 : decode prog_3_method_8_code 1 = .ok (.ifCond .eq 7, 3) := by decide +kernel
theorem d_SV_wordsOfPart_4 : decode prog_3_method_8_code 4 = .ok (.iconst 2, 1) := by decide +kernel
theorem d_SV_wordsOfPart_5 : decode prog_3_method_8_code 5 = .ok (.goto 4, 3) := by decide +kernel
theorem d_SV_wordsOfPart_8 : decode prog_3_method_8_code 8 = .ok (.iconst 1, 1) := by decide +kernel
theorem d_SV_wordsOfPart_9 : decode prog_3_method_8_code 9 = .ok (.ireturn, 1) := by decide +kernel
theorem d_SV_first_0 : decode prog_3_method_10_code 0 = .ok (.aload_n 0, 1) := by decide +kernel
theorem d_SV_first_1 : decode prog_3_method_10_code 1 = .ok (.iconst 1, 1) := by decide +kernel
theorem d_SV_first_2 : decode prog_3_method_10_code 2 = .ok (.aload_n 0, 1) := by decide +kernel
theorem d_SV_first_3 : decode prog_3_method_10_code 3 = .ok (.invokevirtual 49, 3) := by decide +kernel
theorem d_SV_first_6 : decode prog_3_method_10_code 6 = .ok (.invokestatic 31, 3) := by decide +kernel
theorem d_SV_first_9 : decode prog_3_method_10_code 9 = .ok (.invokevirtual 71, 3) := by decide +kernel
theorem d_SV_first_12 : decode prog_3_method_10_code 12 = .ok (.lreturn, 1) := by decide +kernel
theorem d_SV_partAt_0 : decode prog_3_method_12_code 0 = .ok (.iload_n 2, 1) := by decide +kernel
theorem d_SV_partAt_1 : decode prog_3_method_12_code 1 = .ok (.ifCond .eq 23, 3) := by decide +kernel
theorem d_SV_partAt_4 : decode prog_3_method_12_code 4 = .ok (.aload_n 0, 1) := by decide +kernel
theorem d_SV_partAt_5 : decode prog_3_method_12_code 5 = .ok (.getfield 9, 3) := by decide +kernel
theorem d_SV_partAt_8 : decode prog_3_method_12_code 8 = .ok (.iload_n 1, 1) := by decide +kernel
theorem d_SV_partAt_9 : decode prog_3_method_12_code 9 = .ok (.iaload, 1) := by decide +kernel
theorem d_SV_partAt_10 : decode prog_3_method_12_code 10 = .ok (.aload_n 0, 1) := by decide +kernel
theorem d_SV_partAt_11 : decode prog_3_method_12_code 11 = .ok (.getfield 9, 3) := by decide +kernel
theorem d_SV_partAt_14 : decode prog_3_method_12_code 14 = .ok (.iload_n 1, 1) := by decide +kernel
theorem d_SV_partAt_15 : decode prog_3_method_12_code 15 = .ok (.iconst 1, 1) := by decide +kernel
theorem d_SV_partAt_16 : decode prog_3_method_12_code 16 = .ok (.iadd, 1) := by decide +kernel
theorem d_SV_partAt_17 : decode prog_3_method_12_code 17 = .ok (.iaload, 1) := by decide +kernel
theorem d_SV_partAt_18 : decode prog_3_method_12_code 18 = .ok (.invokestatic 75, 3) := by decide +kernel
theorem d_SV_partAt_21 : decode prog_3_method_12_code 21 = .ok (.goto 10, 3) := by decide +kernel
theorem d_SV_partAt_24 : decode prog_3_method_12_code 24 = .ok (.aload_n 0, 1) := by decide +kernel
theorem d_SV_partAt_25 : decode prog_3_method_12_code 25 = .ok (.getfield 9, 3) := by decide +kernel
theorem d_SV_partAt_28 : decode prog_3_method_12_code 28 = .ok (.iload_n 1, 1) := by decide +kernel
theorem d_SV_partAt_29 : decode prog_3_method_12_code 29 = .ok (.iaload, 1) := by decide +kernel
theorem d_SV_partAt_30 : decode prog_3_method_12_code 30 = .ok (.i2l, 1) := by decide +kernel
theorem d_SV_partAt_31 : decode prog_3_method_12_code 31 = .ok (.lreturn, 1) := by decide +kernel
theorem d_SV_second_0 : decode prog_3_method_11_code 0 = .ok (.iconst 1, 1) := by decide +kernel
theorem d_SV_second_1 : decode prog_3_method_11_code 1 = .ok (.aload_n 0, 1) := by decide +kernel
theorem d_SV_second_2 : decode prog_3_method_11_code 2 = .ok (.invokevirtual 49, 3) := by decide +kernel
theorem d_SV_second_5 : decode prog_3_method_11_code 5 = .ok (.invokestatic 31, 3) := by decide +kernel
theorem d_SV_second_8 : decode prog_3_method_11_code 8 = .ok (.invokestatic 67, 3) := by decide +kernel
theorem d_SV_second_11 : decode prog_3_method_11_code 11 = .ok (.iadd, 1) := by decide +kernel
theorem d_SV_second_12 : decode prog_3_method_11_code 12 = .ok (.istore_n 1, 1) := by decide +kernel
theorem d_SV_second_13 : decode prog_3_method_11_code 13 = .ok (.aload_n 0, 1) := by decide +kernel
theorem d_SV_second_14 : decode prog_3_method_11_code 14 = .ok (.iload_n 1, 1) := by decide +kernel
theorem d_SV_second_15 : decode prog_3_method_11_code 15 = .ok (.aload_n 0, 1) := by decide +kernel
theorem d_SV_second_16 : decode prog_3_method_11_code 16 = .ok (.invokevirtual 49, 3) := by decide +kernel
theorem d_SV_second_19 : decode prog_3_method_11_code 19 = .ok (.invokestatic 42, 3) := by decide +kernel
theorem d_SV_second_22 : decode prog_3_method_11_code 22 = .ok (.invokevirtual 71, 3) := by decide +kernel
theorem d_SV_second_25 : decode prog_3_method_11_code 25 = .ok (.lreturn, 1) := by decide +kernel
theorem d_NS_seek_0 : decode prog_1_method_15_code 0 = .ok (.iload_n 1, 1) := by decide +kernel
theorem d_NS_seek_1 : decode prog_1_method_15_code 1 = .ok (.ifCond .lt 9, 3) := by decide +kernel
theorem d_NS_seek_4 : decode prog_1_method_15_code 4 = .ok (.iload_n 1, 1) := by decide +kernel
theorem d_NS_seek_5 : decode prog_1_method_15_code 5 = .ok (.ldc 118, 2) := by decide +kernel
theorem d_NS_seek_7 : decode prog_1_method_15_code 7 = .ok (.if_icmp .le 5, 3) := by decide +kernel
theorem d_NS_seek_10 : decode prog_1_method_15_code 10 = .ok (.iconst 0, 1) := by decide +kernel
theorem d_NS_seek_11 : decode prog_1_method_15_code 11 = .ok (.ireturn, 1) := by decide +kernel
theorem d_NS_seek_12 : decode prog_1_method_15_code 12 = .ok (.aload_n 0, 1) := by decide +kernel
theorem d_NS_seek_13 : decode prog_1_method_15_code 13 = .ok (.getfield 28, 3) := by decide +kernel
theorem d_NS_seek_16 : decode prog_1_method_15_code 16 = .ok (.iload_n 1, 1) := by decide +kernel
theorem d_NS_seek_17 : decode prog_1_method_15_code 17 = .ok (.putfield 119, 3) := by decide +kernel
theorem d_NS_seek_20 : decode prog_1_method_15_code 20 = .ok (.iconst 1, 1) := by decide +kernel
theorem d_NS_seek_21 : decode prog_1_method_15_code 21 = .ok (.ireturn, 1) := by decide +kernel
theorem d_NS_advance_0 : decode prog_1_method_16_code 0 = .ok (.aload_n 0, 1) := by decide +kernel
theorem d_NS_advance_1 : decode prog_1_method_16_code 1 = .ok (.getfield 28, 3) := by decide +kernel
theorem d_NS_advance_4 : decode prog_1_method_16_code 4 = .ok (.aload_n 0, 1) := by decide +kernel
theorem d_NS_advance_5 : decode prog_1_method_16_code 5 = .ok (.getfield 28, 3) := by decide +kernel
theorem d_NS_advance_8 : decode prog_1_method_16_code 8 = .ok (.getfield 119, 3) := by decide +kernel
theorem d_NS_advance_11 : decode prog_1_method_16_code 11 = .ok (.ldc 118, 2) := by decide +kernel
theorem d_NS_advance_13 : decode prog_1_method_16_code 13 = .ok (.if_icmp .ne 7, 3) := by decide +kernel
theorem d_NS_advance_16 : decode prog_1_method_16_code 16 = .ok (.iconst 0, 1) := by decide +kernel
theorem d_NS_advance_17 : decode prog_1_method_16_code 17 = .ok (.goto 12, 3) := by decide +kernel
theorem d_NS_advance_20 : decode prog_1_method_16_code 20 = .ok (.aload_n 0, 1) := by decide +kernel
theorem d_NS_advance_21 : decode prog_1_method_16_code 21 = .ok (.getfield 28, 3) := by decide +kernel
theorem d_NS_advance_24 : decode prog_1_method_16_code 24 = .ok (.getfield 119, 3) := by decide +kernel
theorem d_NS_advance_27 : decode prog_1_method_16_code 27 = .ok (.iconst 1, 1) := by decide +kernel
theorem d_NS_advance_28 : decode prog_1_method_16_code 28 = .ok (.iadd, 1) := by decide +kernel
theorem d_NS_advance_29 : decode prog_1_method_16_code 29 = .ok (.putfield 119, 3) := by decide +kernel
theorem d_NS_advance_32 : decode prog_1_method_16_code 32 = .ok (.aload_n 0, 1) := by decide +kernel
theorem d_NS_advance_33 : decode prog_1_method_16_code 33 = .ok (.getfield 28, 3) := by decide +kernel
theorem d_NS_advance_36 : decode prog_1_method_16_code 36 = .ok (.getfield 119, 3) := by decide +kernel
theorem d_NS_advance_39 : decode prog_1_method_16_code 39 = .ok (.ireturn, 1) := by decide +kernel
theorem d_NS_coordinate_0 : decode prog_1_method_17_code 0 = .ok (.iload_n 1, 1) := by decide +kernel
theorem d_NS_coordinate_1 : decode prog_1_method_17_code 1 = .ok (.tableswitch 75 0 5 #[39, 39, 39, 39, 51, 63], 39) := by decide +kernel
theorem d_NS_coordinate_40 : decode prog_1_method_17_code 40 = .ok (.aload_n 0, 1) := by decide +kernel
theorem d_NS_coordinate_41 : decode prog_1_method_17_code 41 = .ok (.getfield 28, 3) := by decide +kernel
theorem d_NS_coordinate_44 : decode prog_1_method_17_code 44 = .ok (.iload_n 1, 1) := by decide +kernel
theorem d_NS_coordinate_45 : decode prog_1_method_17_code 45 = .ok (.invokevirtual 122, 3) := by decide +kernel
theorem d_NS_coordinate_48 : decode prog_1_method_17_code 48 = .ok (.invokestatic 80, 3) := by decide +kernel
theorem d_NS_coordinate_51 : decode prog_1_method_17_code 51 = .ok (.lreturn, 1) := by decide +kernel
theorem d_NS_coordinate_52 : decode prog_1_method_17_code 52 = .ok (.aload_n 0, 1) := by decide +kernel
theorem d_NS_coordinate_53 : decode prog_1_method_17_code 53 = .ok (.getfield 28, 3) := by decide +kernel
theorem d_NS_coordinate_56 : decode prog_1_method_17_code 56 = .ok (.iconst 3, 1) := by decide +kernel
theorem d_NS_coordinate_57 : decode prog_1_method_17_code 57 = .ok (.bipush 13, 2) := by decide +kernel
theorem d_NS_coordinate_59 : decode prog_1_method_17_code 59 = .ok (.invokevirtual 125, 3) := by decide +kernel
theorem d_NS_coordinate_62 : decode prog_1_method_17_code 62 = .ok (.i2l, 1) := by decide +kernel
theorem d_NS_coordinate_63 : decode prog_1_method_17_code 63 = .ok (.lreturn, 1) := by decide +kernel
theorem d_NS_coordinate_64 : decode prog_1_method_17_code 64 = .ok (.aload_n 0, 1) := by decide +kernel
theorem d_NS_coordinate_65 : decode prog_1_method_17_code 65 = .ok (.getfield 28, 3) := by decide +kernel
theorem d_NS_coordinate_68 : decode prog_1_method_17_code 68 = .ok (.iconst 5, 1) := by decide +kernel
theorem d_NS_coordinate_69 : decode prog_1_method_17_code 69 = .ok (.bipush 9, 2) := by decide +kernel
theorem d_NS_coordinate_71 : decode prog_1_method_17_code 71 = .ok (.invokevirtual 125, 3) := by decide +kernel
theorem d_NS_coordinate_74 : decode prog_1_method_17_code 74 = .ok (.i2l, 1) := by decide +kernel
theorem d_NS_coordinate_75 : decode prog_1_method_17_code 75 = .ok (.lreturn, 1) := by decide +kernel
theorem d_NS_coordinate_76 : decode prog_1_method_17_code 76 = .ok (.ldc2_w 75, 3) := by decide +kernel
theorem d_NS_coordinate_79 : decode prog_1_method_17_code 79 = .ok (.lreturn, 1) := by decide +kernel
theorem d_PT_joinedDirections_0 : decode prog_2_method_5_code 0 = .ok (.aload_n 0, 1) := by decide +kernel
theorem d_PT_joinedDirections_1 : decode prog_2_method_5_code 1 = .ok (.getfield 14, 3) := by decide +kernel
theorem d_PT_joinedDirections_4 : decode prog_2_method_5_code 4 = .ok (.aload_n 0, 1) := by decide +kernel
theorem d_PT_joinedDirections_5 : decode prog_2_method_5_code 5 = .ok (.getfield 14, 3) := by decide +kernel
theorem d_PT_joinedDirections_8 : decode prog_2_method_5_code 8 = .ok (.iconst 1, 1) := by decide +kernel
theorem d_PT_joinedDirections_9 : decode prog_2_method_5_code 9 = .ok (.iushr, 1) := by decide +kernel
theorem d_PT_joinedDirections_10 : decode prog_2_method_5_code 10 = .ok (.ixor, 1) := by decide +kernel
theorem d_PT_joinedDirections_11 : decode prog_2_method_5_code 11 = .ok (.istore_n 2, 1) := by decide +kernel
theorem d_PT_joinedDirections_12 : decode prog_2_method_5_code 12 = .ok (.iconst 0, 1) := by decide +kernel
theorem d_PT_joinedDirections_13 : decode prog_2_method_5_code 13 = .ok (.istore_n 3, 1) := by decide +kernel
theorem d_PT_joinedDirections_14 : decode prog_2_method_5_code 14 = .ok (.iconst 0, 1) := by decide +kernel
theorem d_PT_joinedDirections_15 : decode prog_2_method_5_code 15 = .ok (.istore 4, 2) := by decide +kernel
theorem d_PT_joinedDirections_17 : decode prog_2_method_5_code 17 = .ok (.iload 4, 2) := by decide +kernel
theorem d_PT_joinedDirections_19 : decode prog_2_method_5_code 19 = .ok (.bipush 20, 2) := by decide +kernel
theorem d_PT_joinedDirections_21 : decode prog_2_method_5_code 21 = .ok (.if_icmp .ge 31, 3) := by decide +kernel
theorem d_PT_joinedDirections_24 : decode prog_2_method_5_code 24 = .ok (.iload_n 2, 1) := by decide +kernel
theorem d_PT_joinedDirections_25 : decode prog_2_method_5_code 25 = .ok (.iload 4, 2) := by decide +kernel
theorem d_PT_joinedDirections_27 : decode prog_2_method_5_code 27 = .ok (.iushr, 1) := by decide +kernel
theorem d_PT_joinedDirections_28 : decode prog_2_method_5_code 28 = .ok (.iconst 1, 1) := by decide +kernel
theorem d_PT_joinedDirections_29 : decode prog_2_method_5_code 29 = .ok (.iand, 1) := by decide +kernel
theorem d_PT_joinedDirections_30 : decode prog_2_method_5_code 30 = .ok (.iconst 1, 1) := by decide +kernel
theorem d_PT_joinedDirections_31 : decode prog_2_method_5_code 31 = .ok (.if_icmp .ne 15, 3) := by decide +kernel
theorem d_PT_joinedDirections_34 : decode prog_2_method_5_code 34 = .ok (.iload_n 3, 1) := by decide +kernel
theorem d_PT_joinedDirections_35 : decode prog_2_method_5_code 35 = .ok (.aload_n 0, 1) := by decide +kernel
theorem d_PT_joinedDirections_36 : decode prog_2_method_5_code 36 = .ok (.getfield 11, 3) := by decide +kernel
theorem d_PT_joinedDirections_39 : decode prog_2_method_5_code 39 = .ok (.iload_n 1, 1) := by decide +kernel
theorem d_PT_joinedDirections_40 : decode prog_2_method_5_code 40 = .ok (.aaload, 1) := by decide +kernel
theorem d_PT_joinedDirections_41 : decode prog_2_method_5_code 41 = .ok (.iload 4, 2) := by decide +kernel
theorem d_PT_joinedDirections_43 : decode prog_2_method_5_code 43 = .ok (.iaload, 1) := by decide +kernel
theorem d_PT_joinedDirections_44 : decode prog_2_method_5_code 44 = .ok (.ixor, 1) := by decide +kernel
theorem d_PT_joinedDirections_45 : decode prog_2_method_5_code 45 = .ok (.istore_n 3, 1) := by decide +kernel
theorem d_PT_joinedDirections_46 : decode prog_2_method_5_code 46 = .ok (.iinc 4 1, 3) := by decide +kernel
theorem d_PT_joinedDirections_49 : decode prog_2_method_5_code 49 = .ok (.goto (-32), 3) := by decide +kernel
theorem d_PT_joinedDirections_52 : decode prog_2_method_5_code 52 = .ok (.iload_n 3, 1) := by decide +kernel
theorem d_PT_joinedDirections_53 : decode prog_2_method_5_code 53 = .ok (.ireturn, 1) := by decide +kernel
theorem d_PT_turnedDigits_0 : decode prog_2_method_6_code 0 = .ok (.aload_n 0, 1) := by decide +kernel
theorem d_PT_turnedDigits_1 : decode prog_2_method_6_code 1 = .ok (.getfield 14, 3) := by decide +kernel
theorem d_PT_turnedDigits_4 : decode prog_2_method_6_code 4 = .ok (.istore_n 3, 1) := by decide +kernel
theorem d_PT_turnedDigits_5 : decode prog_2_method_6_code 5 = .ok (.iconst 0, 1) := by decide +kernel
theorem d_PT_turnedDigits_6 : decode prog_2_method_6_code 6 = .ok (.istore 4, 2) := by decide +kernel
theorem d_PT_turnedDigits_8 : decode prog_2_method_6_code 8 = .ok (.iconst 0, 1) := by decide +kernel
theorem d_PT_turnedDigits_9 : decode prog_2_method_6_code 9 = .ok (.istore 5, 2) := by decide +kernel
theorem d_PT_turnedDigits_11 : decode prog_2_method_6_code 11 = .ok (.iload 5, 2) := by decide +kernel
theorem d_PT_turnedDigits_13 : decode prog_2_method_6_code 13 = .ok (.iload_n 2, 1) := by decide +kernel
theorem d_PT_turnedDigits_14 : decode prog_2_method_6_code 14 = .ok (.if_icmp .ge 23, 3) := by decide +kernel
theorem d_PT_turnedDigits_17 : decode prog_2_method_6_code 17 = .ok (.iload 4, 2) := by decide +kernel
theorem d_PT_turnedDigits_19 : decode prog_2_method_6_code 19 = .ok (.iload_n 1, 1) := by decide +kernel
theorem d_PT_turnedDigits_20 : decode prog_2_method_6_code 20 = .ok (.imul, 1) := by decide +kernel
theorem d_PT_turnedDigits_21 : decode prog_2_method_6_code 21 = .ok (.iload_n 3, 1) := by decide +kernel
theorem d_PT_turnedDigits_22 : decode prog_2_method_6_code 22 = .ok (.iload_n 1, 1) := by decide +kernel
theorem d_PT_turnedDigits_23 : decode prog_2_method_6_code 23 = .ok (.irem, 1) := by decide +kernel
theorem d_PT_turnedDigits_24 : decode prog_2_method_6_code 24 = .ok (.iadd, 1) := by decide +kernel
theorem d_PT_turnedDigits_25 : decode prog_2_method_6_code 25 = .ok (.istore 4, 2) := by decide +kernel
theorem d_PT_turnedDigits_27 : decode prog_2_method_6_code 27 = .ok (.iload_n 3, 1) := by decide +kernel
theorem d_PT_turnedDigits_28 : decode prog_2_method_6_code 28 = .ok (.iload_n 1, 1) := by decide +kernel
theorem d_PT_turnedDigits_29 : decode prog_2_method_6_code 29 = .ok (.idiv, 1) := by decide +kernel
theorem d_PT_turnedDigits_30 : decode prog_2_method_6_code 30 = .ok (.istore_n 3, 1) := by decide +kernel
theorem d_PT_turnedDigits_31 : decode prog_2_method_6_code 31 = .ok (.iinc 5 1, 3) := by decide +kernel
theorem d_PT_turnedDigits_34 : decode prog_2_method_6_code 34 = .ok (.goto (-23), 3) := by decide +kernel
theorem d_PT_turnedDigits_37 : decode prog_2_method_6_code 37 = .ok (.iload 4, 2) := by decide +kernel
theorem d_PT_turnedDigits_39 : decode prog_2_method_6_code 39 = .ok (.ireturn, 1) := by decide +kernel
theorem d_NS_weigh_0 : decode prog_1_method_18_code 0 = .ok (.iload_n 1, 1) := by decide +kernel
theorem d_NS_weigh_1 : decode prog_1_method_18_code 1 = .ok (.ifCond .lt 19, 3) := by decide +kernel
theorem d_NS_weigh_4 : decode prog_1_method_18_code 4 = .ok (.iload_n 1, 1) := by decide +kernel
theorem d_NS_weigh_5 : decode prog_1_method_18_code 5 = .ok (.bipush 16, 2) := by decide +kernel
theorem d_NS_weigh_7 : decode prog_1_method_18_code 7 = .ok (.if_icmp .ge 13, 3) := by decide +kernel
theorem d_NS_weigh_10 : decode prog_1_method_18_code 10 = .ok (.iload_n 2, 1) := by decide +kernel
theorem d_NS_weigh_11 : decode prog_1_method_18_code 11 = .ok (.ifCond .lt 9, 3) := by decide +kernel
theorem d_NS_weigh_14 : decode prog_1_method_18_code 14 = .ok (.iload_n 2, 1) := by decide +kernel
theorem d_NS_weigh_15 : decode prog_1_method_18_code 15 = .ok (.ldc 129, 2) := by decide +kernel
theorem d_NS_weigh_17 : decode prog_1_method_18_code 17 = .ok (.if_icmp .le 5, 3) := by decide +kernel
theorem d_NS_weigh_20 : decode prog_1_method_18_code 20 = .ok (.iconst 0, 1) := by decide +kernel
theorem d_NS_weigh_21 : decode prog_1_method_18_code 21 = .ok (.ireturn, 1) := by decide +kernel
theorem d_NS_weigh_22 : decode prog_1_method_18_code 22 = .ok (.aload_n 0, 1) := by decide +kernel
theorem d_NS_weigh_23 : decode prog_1_method_18_code 23 = .ok (.getfield 32, 3) := by decide +kernel
theorem d_NS_weigh_26 : decode prog_1_method_18_code 26 = .ok (.iload_n 1, 1) := by decide +kernel
theorem d_NS_weigh_27 : decode prog_1_method_18_code 27 = .ok (.iload_n 2, 1) := by decide +kernel
theorem d_NS_weigh_28 : decode prog_1_method_18_code 28 = .ok (.iastore, 1) := by decide +kernel
theorem d_NS_weigh_29 : decode prog_1_method_18_code 29 = .ok (.iconst 1, 1) := by decide +kernel
theorem d_NS_weigh_30 : decode prog_1_method_18_code 30 = .ok (.ireturn, 1) := by decide +kernel
theorem d_NS_pick_0 : decode prog_1_method_19_code 0 = .ok (.aload_n 0, 1) := by decide +kernel
theorem d_NS_pick_1 : decode prog_1_method_19_code 1 = .ok (.iload_n 1, 1) := by decide +kernel
theorem d_NS_pick_2 : decode prog_1_method_19_code 2 = .ok (.invokevirtual 61, 3) := by decide +kernel
theorem d_NS_pick_5 : decode prog_1_method_19_code 5 = .ok (.astore_n 2, 1) := by decide +kernel
theorem d_NS_pick_6 : decode prog_1_method_19_code 6 = .ok (.aload_n 0, 1) := by decide +kernel
theorem d_NS_pick_7 : decode prog_1_method_19_code 7 = .ok (.invokevirtual 130, 3) := by decide +kernel
theorem d_NS_pick_10 : decode prog_1_method_19_code 10 = .ok (.istore_n 3, 1) := by decide +kernel
theorem d_NS_pick_11 : decode prog_1_method_19_code 11 = .ok (.aload_n 2, 1) := by decide +kernel
theorem d_NS_pick_12 : decode prog_1_method_19_code 12 = .ok (.ifnull 8, 3) := by decide +kernel
theorem d_NS_pick_15 : decode prog_1_method_19_code 15 = .ok (.iload_n 3, 1) := by decide +kernel
theorem d_NS_pick_16 : decode prog_1_method_19_code 16 = .ok (.iconst 1, 1) := by decide +kernel
theorem d_NS_pick_17 : decode prog_1_method_19_code 17 = .ok (.if_icmp .ge 5, 3) := by decide +kernel
theorem d_NS_pick_20 : decode prog_1_method_19_code 20 = .ok (.iconst (-1), 1) := by decide +kernel
theorem d_NS_pick_21 : decode prog_1_method_19_code 21 = .ok (.ireturn, 1) := by decide +kernel
theorem d_NS_pick_22 : decode prog_1_method_19_code 22 = .ok (.aload_n 0, 1) := by decide +kernel
theorem d_NS_pick_23 : decode prog_1_method_19_code 23 = .ok (.aload_n 2, 1) := by decide +kernel
theorem d_NS_pick_24 : decode prog_1_method_19_code 24 = .ok (.iload_n 3, 1) := by decide +kernel
theorem d_NS_pick_25 : decode prog_1_method_19_code 25 = .ok (.invokevirtual 88, 3) := by decide +kernel
theorem d_NS_pick_28 : decode prog_1_method_19_code 28 = .ok (.invokevirtual 133, 3) := by decide +kernel
theorem d_NS_pick_31 : decode prog_1_method_19_code 31 = .ok (.ireturn, 1) := by decide +kernel
theorem d_NS_totalWeight_0 : decode prog_1_method_25_code 0 = .ok (.iconst 0, 1) := by decide +kernel
theorem d_NS_totalWeight_1 : decode prog_1_method_25_code 1 = .ok (.istore_n 1, 1) := by decide +kernel
theorem d_NS_totalWeight_2 : decode prog_1_method_25_code 2 = .ok (.iconst 0, 1) := by decide +kernel
theorem d_NS_totalWeight_3 : decode prog_1_method_25_code 3 = .ok (.istore_n 2, 1) := by decide +kernel
theorem d_NS_totalWeight_4 : decode prog_1_method_25_code 4 = .ok (.iload_n 2, 1) := by decide +kernel
theorem d_NS_totalWeight_5 : decode prog_1_method_25_code 5 = .ok (.bipush 16, 2) := by decide +kernel
theorem d_NS_totalWeight_7 : decode prog_1_method_25_code 7 = .ok (.if_icmp .ge 18, 3) := by decide +kernel
theorem d_NS_totalWeight_10 : decode prog_1_method_25_code 10 = .ok (.iload_n 1, 1) := by decide +kernel
theorem d_NS_totalWeight_11 : decode prog_1_method_25_code 11 = .ok (.aload_n 0, 1) := by decide +kernel
theorem d_NS_totalWeight_12 : decode prog_1_method_25_code 12 = .ok (.getfield 32, 3) := by decide +kernel
theorem d_NS_totalWeight_15 : decode prog_1_method_25_code 15 = .ok (.iload_n 2, 1) := by decide +kernel
theorem d_NS_totalWeight_16 : decode prog_1_method_25_code 16 = .ok (.iaload, 1) := by decide +kernel
theorem d_NS_totalWeight_17 : decode prog_1_method_25_code 17 = .ok (.iadd, 1) := by decide +kernel
theorem d_NS_totalWeight_18 : decode prog_1_method_25_code 18 = .ok (.istore_n 1, 1) := by decide +kernel
theorem d_NS_totalWeight_19 : decode prog_1_method_25_code 19 = .ok (.iinc 2 1, 3) := by decide +kernel
theorem d_NS_totalWeight_22 : decode prog_1_method_25_code 22 = .ok (.goto (-18), 3) := by decide +kernel
theorem d_NS_totalWeight_25 : decode prog_1_method_25_code 25 = .ok (.iload_n 1, 1) := by decide +kernel
theorem d_NS_totalWeight_26 : decode prog_1_method_25_code 26 = .ok (.ireturn, 1) := by decide +kernel
theorem d_NS_outcomeAt_0 : decode prog_1_method_26_code 0 = .ok (.iconst 0, 1) := by decide +kernel
theorem d_NS_outcomeAt_1 : decode prog_1_method_26_code 1 = .ok (.istore_n 2, 1) := by decide +kernel
theorem d_NS_outcomeAt_2 : decode prog_1_method_26_code 2 = .ok (.iconst 0, 1) := by decide +kernel
theorem d_NS_outcomeAt_3 : decode prog_1_method_26_code 3 = .ok (.istore_n 3, 1) := by decide +kernel
theorem d_NS_outcomeAt_4 : decode prog_1_method_26_code 4 = .ok (.iload_n 3, 1) := by decide +kernel
theorem d_NS_outcomeAt_5 : decode prog_1_method_26_code 5 = .ok (.bipush 16, 2) := by decide +kernel
theorem d_NS_outcomeAt_7 : decode prog_1_method_26_code 7 = .ok (.if_icmp .ge 25, 3) := by decide +kernel
theorem d_NS_outcomeAt_10 : decode prog_1_method_26_code 10 = .ok (.iload_n 2, 1) := by decide +kernel
theorem d_NS_outcomeAt_11 : decode prog_1_method_26_code 11 = .ok (.aload_n 0, 1) := by decide +kernel
theorem d_NS_outcomeAt_12 : decode prog_1_method_26_code 12 = .ok (.getfield 32, 3) := by decide +kernel
theorem d_NS_outcomeAt_15 : decode prog_1_method_26_code 15 = .ok (.iload_n 3, 1) := by decide +kernel
theorem d_NS_outcomeAt_16 : decode prog_1_method_26_code 16 = .ok (.iaload, 1) := by decide +kernel
theorem d_NS_outcomeAt_17 : decode prog_1_method_26_code 17 = .ok (.iadd, 1) := by decide +kernel
theorem d_NS_outcomeAt_18 : decode prog_1_method_26_code 18 = .ok (.istore_n 2, 1) := by decide +kernel
theorem d_NS_outcomeAt_19 : decode prog_1_method_26_code 19 = .ok (.iload_n 2, 1) := by decide +kernel
theorem d_NS_outcomeAt_20 : decode prog_1_method_26_code 20 = .ok (.iload_n 1, 1) := by decide +kernel
theorem d_NS_outcomeAt_21 : decode prog_1_method_26_code 21 = .ok (.if_icmp .le 5, 3) := by decide +kernel
theorem d_NS_outcomeAt_24 : decode prog_1_method_26_code 24 = .ok (.iload_n 3, 1) := by decide +kernel
theorem d_NS_outcomeAt_25 : decode prog_1_method_26_code 25 = .ok (.ireturn, 1) := by decide +kernel
theorem d_NS_outcomeAt_26 : decode prog_1_method_26_code 26 = .ok (.iinc 3 1, 3) := by decide +kernel
theorem d_NS_outcomeAt_29 : decode prog_1_method_26_code 29 = .ok (.goto (-25), 3) := by decide +kernel
theorem d_NS_outcomeAt_32 : decode prog_1_method_26_code 32 = .ok (.iconst (-1), 1) := by decide +kernel
theorem d_NS_outcomeAt_33 : decode prog_1_method_26_code 33 = .ok (.ireturn, 1) := by decide +kernel
theorem d_NS_shuffle_0 : decode prog_1_method_20_code 0 = .ok (.aload_n 0, 1) := by decide +kernel
theorem d_NS_shuffle_1 : decode prog_1_method_20_code 1 = .ok (.iload_n 1, 1) := by decide +kernel
theorem d_NS_shuffle_2 : decode prog_1_method_20_code 2 = .ok (.invokevirtual 61, 3) := by decide +kernel
theorem d_NS_shuffle_5 : decode prog_1_method_20_code 5 = .ok (.astore_n 2, 1) := by decide +kernel
theorem d_NS_shuffle_6 : decode prog_1_method_20_code 6 = .ok (.aload_n 2, 1) := by decide +kernel
theorem d_NS_shuffle_7 : decode prog_1_method_20_code 7 = .ok (.ifnonnull 5, 3) := by decide +kernel
theorem d_NS_shuffle_10 : decode prog_1_method_20_code 10 = .ok (.iconst 0, 1) := by decide +kernel
theorem d_NS_shuffle_11 : decode prog_1_method_20_code 11 = .ok (.ireturn, 1) := by decide +kernel
theorem d_NS_shuffle_12 : decode prog_1_method_20_code 12 = .ok (.bipush 15, 2) := by decide +kernel
theorem d_NS_shuffle_14 : decode prog_1_method_20_code 14 = .ok (.istore_n 3, 1) := by decide +kernel
theorem d_NS_shuffle_15 : decode prog_1_method_20_code 15 = .ok (.iload_n 3, 1) := by decide +kernel
theorem d_NS_shuffle_16 : decode prog_1_method_20_code 16 = .ok (.iconst 1, 1) := by decide +kernel
theorem d_NS_shuffle_17 : decode prog_1_method_20_code 17 = .ok (.if_icmp .lt 48, 3) := by decide +kernel
theorem d_NS_shuffle_20 : decode prog_1_method_20_code 20 = .ok (.aload_n 2, 1) := by decide +kernel
theorem d_NS_shuffle_21 : decode prog_1_method_20_code 21 = .ok (.iload_n 3, 1) := by decide +kernel
theorem d_NS_shuffle_22 : decode prog_1_method_20_code 22 = .ok (.iconst 1, 1) := by decide +kernel
theorem d_NS_shuffle_23 : decode prog_1_method_20_code 23 = .ok (.iadd, 1) := by decide +kernel
theorem d_NS_shuffle_24 : decode prog_1_method_20_code 24 = .ok (.invokevirtual 88, 3) := by decide +kernel
theorem d_NS_shuffle_27 : decode prog_1_method_20_code 27 = .ok (.istore 4, 2) := by decide +kernel
theorem d_NS_shuffle_29 : decode prog_1_method_20_code 29 = .ok (.aload_n 0, 1) := by decide +kernel
theorem d_NS_shuffle_30 : decode prog_1_method_20_code 30 = .ok (.getfield 36, 3) := by decide +kernel
theorem d_NS_shuffle_33 : decode prog_1_method_20_code 33 = .ok (.iload_n 3, 1) := by decide +kernel
theorem d_NS_shuffle_34 : decode prog_1_method_20_code 34 = .ok (.iaload, 1) := by decide +kernel
theorem d_NS_shuffle_35 : decode prog_1_method_20_code 35 = .ok (.istore 5, 2) := by decide +kernel
theorem d_NS_shuffle_37 : decode prog_1_method_20_code 37 = .ok (.aload_n 0, 1) := by decide +kernel
theorem d_NS_shuffle_38 : decode prog_1_method_20_code 38 = .ok (.getfield 36, 3) := by decide +kernel
theorem d_NS_shuffle_41 : decode prog_1_method_20_code 41 = .ok (.iload_n 3, 1) := by decide +kernel
theorem d_NS_shuffle_42 : decode prog_1_method_20_code 42 = .ok (.aload_n 0, 1) := by decide +kernel
theorem d_NS_shuffle_43 : decode prog_1_method_20_code 43 = .ok (.getfield 36, 3) := by decide +kernel
theorem d_NS_shuffle_46 : decode prog_1_method_20_code 46 = .ok (.iload 4, 2) := by decide +kernel
theorem d_NS_shuffle_48 : decode prog_1_method_20_code 48 = .ok (.iaload, 1) := by decide +kernel
theorem d_NS_shuffle_49 : decode prog_1_method_20_code 49 = .ok (.iastore, 1) := by decide +kernel
theorem d_NS_shuffle_50 : decode prog_1_method_20_code 50 = .ok (.aload_n 0, 1) := by decide +kernel
theorem d_NS_shuffle_51 : decode prog_1_method_20_code 51 = .ok (.getfield 36, 3) := by decide +kernel
theorem d_NS_shuffle_54 : decode prog_1_method_20_code 54 = .ok (.iload 4, 2) := by decide +kernel
theorem d_NS_shuffle_56 : decode prog_1_method_20_code 56 = .ok (.iload 5, 2) := by decide +kernel
theorem d_NS_shuffle_58 : decode prog_1_method_20_code 58 = .ok (.iastore, 1) := by decide +kernel
theorem d_NS_shuffle_59 : decode prog_1_method_20_code 59 = .ok (.iinc 3 (-1), 3) := by decide +kernel
theorem d_NS_shuffle_62 : decode prog_1_method_20_code 62 = .ok (.goto (-47), 3) := by decide +kernel
theorem d_NS_shuffle_65 : decode prog_1_method_20_code 65 = .ok (.iconst 1, 1) := by decide +kernel
theorem d_NS_shuffle_66 : decode prog_1_method_20_code 66 = .ok (.ireturn, 1) := by decide +kernel
theorem d_NS_card_0 : decode prog_1_method_21_code 0 = .ok (.iload_n 1, 1) := by decide +kernel
theorem d_NS_card_1 : decode prog_1_method_21_code 1 = .ok (.ifCond .lt 9, 3) := by decide +kernel
theorem d_NS_card_4 : decode prog_1_method_21_code 4 = .ok (.iload_n 1, 1) := by decide +kernel
theorem d_NS_card_5 : decode prog_1_method_21_code 5 = .ok (.bipush 16, 2) := by decide +kernel
theorem d_NS_card_7 : decode prog_1_method_21_code 7 = .ok (.if_icmp .lt 7, 3) := by decide +kernel
theorem d_NS_card_10 : decode prog_1_method_21_code 10 = .ok (.iconst (-1), 1) := by decide +kernel
theorem d_NS_card_11 : decode prog_1_method_21_code 11 = .ok (.goto 9, 3) := by decide +kernel
theorem d_NS_card_14 : decode prog_1_method_21_code 14 = .ok (.aload_n 0, 1) := by decide +kernel
theorem d_NS_card_15 : decode prog_1_method_21_code 15 = .ok (.getfield 36, 3) := by decide +kernel
theorem d_NS_card_18 : decode prog_1_method_21_code 18 = .ok (.iload_n 1, 1) := by decide +kernel
theorem d_NS_card_19 : decode prog_1_method_21_code 19 = .ok (.iaload, 1) := by decide +kernel
theorem d_NS_card_20 : decode prog_1_method_21_code 20 = .ok (.ireturn, 1) := by decide +kernel
