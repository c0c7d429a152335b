/-! the constructors, decoded -/
theorem diX1_0 : decode cX1_init 0 = .ok (.aload_n 0, 1) := by decide +kernel
theorem diX1_1 : decode cX1_init 1 = .ok (.invokespecial 3, 3) := by decide +kernel
theorem diX1_4 : decode cX1_init 4 = .ok (.aload_n 0, 1) := by decide +kernel
theorem diX1_5 : decode cX1_init 5 = .ok (.bipush 40, 2) := by decide +kernel
theorem diX1_7 : decode cX1_init 7 = .ok (.newarray .int, 2) := by decide +kernel
theorem diX1_9 : decode cX1_init 9 = .ok (.putfield 9, 3) := by decide +kernel
theorem diX1_12 : decode cX1_init 12 = .ok (.aload_n 0, 1) := by decide +kernel
theorem diX1_13 : decode cX1_init 13 = .ok (.iconst 0, 1) := by decide +kernel
theorem diX1_14 : decode cX1_init 14 = .ok (.putfield 15, 3) := by decide +kernel
theorem diX1_17 : decode cX1_init 17 = .ok (.aload_n 0, 1) := by decide +kernel
theorem diX1_18 : decode cX1_init 18 = .ok (.iconst 0, 1) := by decide +kernel
theorem diX1_19 : decode cX1_init 19 = .ok (.putfield 19, 3) := by decide +kernel
theorem diX1_22 : decode cX1_init 22 = .ok (.return_, 1) := by decide +kernel
theorem diX2_0 : decode cX2_init 0 = .ok (.aload_n 0, 1) := by decide +kernel
theorem diX2_1 : decode cX2_init 1 = .ok (.invokespecial 3, 3) := by decide +kernel
theorem diX2_4 : decode cX2_init 4 = .ok (.aload_n 0, 1) := by decide +kernel
theorem diX2_5 : decode cX2_init 5 = .ok (.bipush 10, 2) := by decide +kernel
theorem diX2_7 : decode cX2_init 7 = .ok (.newarray .int, 2) := by decide +kernel
theorem diX2_9 : decode cX2_init 9 = .ok (.putfield 9, 3) := by decide +kernel
theorem diX2_12 : decode cX2_init 12 = .ok (.aload_n 0, 1) := by decide +kernel
theorem diX2_13 : decode cX2_init 13 = .ok (.bipush 40, 2) := by decide +kernel
theorem diX2_15 : decode cX2_init 15 = .ok (.newarray .int, 2) := by decide +kernel
theorem diX2_17 : decode cX2_init 17 = .ok (.putfield 15, 3) := by decide +kernel
theorem diX2_20 : decode cX2_init 20 = .ok (.aload_n 0, 1) := by decide +kernel
theorem diX2_21 : decode cX2_init 21 = .ok (.bipush 8, 2) := by decide +kernel
theorem diX2_23 : decode cX2_init 23 = .ok (.newarray .int, 2) := by decide +kernel
theorem diX2_25 : decode cX2_init 25 = .ok (.putfield 18, 3) := by decide +kernel
theorem diX2_28 : decode cX2_init 28 = .ok (.aload_n 0, 1) := by decide +kernel
theorem diX2_29 : decode cX2_init 29 = .ok (.bipush 8, 2) := by decide +kernel
theorem diX2_31 : decode cX2_init 31 = .ok (.newarray .int, 2) := by decide +kernel
theorem diX2_33 : decode cX2_init 33 = .ok (.putfield 21, 3) := by decide +kernel
theorem diX2_36 : decode cX2_init 36 = .ok (.aload_n 0, 1) := by decide +kernel
theorem diX2_37 : decode cX2_init 37 = .ok (.bipush 8, 2) := by decide +kernel
theorem diX2_39 : decode cX2_init 39 = .ok (.newarray .int, 2) := by decide +kernel
theorem diX2_41 : decode cX2_init 41 = .ok (.putfield 24, 3) := by decide +kernel
theorem diX2_44 : decode cX2_init 44 = .ok (.aload_n 0, 1) := by decide +kernel
theorem diX2_45 : decode cX2_init 45 = .ok (.bipush 8, 2) := by decide +kernel
theorem diX2_47 : decode cX2_init 47 = .ok (.newarray .int, 2) := by decide +kernel
theorem diX2_49 : decode cX2_init 49 = .ok (.putfield 27, 3) := by decide +kernel
theorem diX2_52 : decode cX2_init 52 = .ok (.aload_n 0, 1) := by decide +kernel
theorem diX2_53 : decode cX2_init 53 = .ok (.bipush 10, 2) := by decide +kernel
theorem diX2_55 : decode cX2_init 55 = .ok (.newarray .int, 2) := by decide +kernel
theorem diX2_57 : decode cX2_init 57 = .ok (.putfield 30, 3) := by decide +kernel
theorem diX2_60 : decode cX2_init 60 = .ok (.aload_n 0, 1) := by decide +kernel
theorem diX2_61 : decode cX2_init 61 = .ok (.iconst 0, 1) := by decide +kernel
theorem diX2_62 : decode cX2_init 62 = .ok (.putfield 33, 3) := by decide +kernel
theorem diX2_65 : decode cX2_init 65 = .ok (.aload_n 0, 1) := by decide +kernel
theorem diX2_66 : decode cX2_init 66 = .ok (.bipush 90, 2) := by decide +kernel
theorem diX2_68 : decode cX2_init 68 = .ok (.putfield 37, 3) := by decide +kernel
theorem diX2_71 : decode cX2_init 71 = .ok (.aload_n 0, 1) := by decide +kernel
theorem diX2_72 : decode cX2_init 72 = .ok (.iconst 0, 1) := by decide +kernel
theorem diX2_73 : decode cX2_init 73 = .ok (.putfield 40, 3) := by decide +kernel
theorem diX2_76 : decode cX2_init 76 = .ok (.aload_n 0, 1) := by decide +kernel
theorem diX2_77 : decode cX2_init 77 = .ok (.iconst 1, 1) := by decide +kernel
theorem diX2_78 : decode cX2_init 78 = .ok (.putfield 43, 3) := by decide +kernel
theorem diX2_81 : decode cX2_init 81 = .ok (.aload_n 0, 1) := by decide +kernel
theorem diX2_82 : decode cX2_init 82 = .ok (.iconst 0, 1) := by decide +kernel
theorem diX2_83 : decode cX2_init 83 = .ok (.putfield 46, 3) := by decide +kernel
theorem diX2_86 : decode cX2_init 86 = .ok (.iconst 0, 1) := by decide +kernel
theorem diX2_87 : decode cX2_init 87 = .ok (.istore_n 1, 1) := by decide +kernel
theorem diX2_88 : decode cX2_init 88 = .ok (.iload_n 1, 1) := by decide +kernel
theorem diX2_89 : decode cX2_init 89 = .ok (.bipush 10, 2) := by decide +kernel
theorem diX2_91 : decode cX2_init 91 = .ok (.if_icmp .ge 16, 3) := by decide +kernel
theorem diX2_94 : decode cX2_init 94 = .ok (.aload_n 0, 1) := by decide +kernel
theorem diX2_95 : decode cX2_init 95 = .ok (.getfield 30, 3) := by decide +kernel
theorem diX2_98 : decode cX2_init 98 = .ok (.iload_n 1, 1) := by decide +kernel
theorem diX2_99 : decode cX2_init 99 = .ok (.iconst (-1), 1) := by decide +kernel
theorem diX2_100 : decode cX2_init 100 = .ok (.iastore, 1) := by decide +kernel
theorem diX2_101 : decode cX2_init 101 = .ok (.iinc 1 1, 3) := by decide +kernel
theorem diX2_104 : decode cX2_init 104 = .ok (.goto (-16), 3) := by decide +kernel
theorem diX2_107 : decode cX2_init 107 = .ok (.return_, 1) := by decide +kernel
theorem diX3_0 : decode cX3_init 0 = .ok (.aload_n 0, 1) := by decide +kernel
theorem diX3_1 : decode cX3_init 1 = .ok (.invokespecial 3, 3) := by decide +kernel
theorem diX3_4 : decode cX3_init 4 = .ok (.aload_n 0, 1) := by decide +kernel
theorem diX3_5 : decode cX3_init 5 = .ok (.iconst 0, 1) := by decide +kernel
theorem diX3_6 : decode cX3_init 6 = .ok (.newarray .byte, 2) := by decide +kernel
theorem diX3_8 : decode cX3_init 8 = .ok (.putfield 9, 3) := by decide +kernel
theorem diX3_11 : decode cX3_init 11 = .ok (.aload_n 0, 1) := by decide +kernel
theorem diX3_12 : decode cX3_init 12 = .ok (.iconst 0, 1) := by decide +kernel
theorem diX3_13 : decode cX3_init 13 = .ok (.putfield 15, 3) := by decide +kernel
theorem diX3_16 : decode cX3_init 16 = .ok (.aload_n 0, 1) := by decide +kernel
theorem diX3_17 : decode cX3_init 17 = .ok (.iconst 0, 1) := by decide +kernel
theorem diX3_18 : decode cX3_init 18 = .ok (.putfield 19, 3) := by decide +kernel
theorem diX3_21 : decode cX3_init 21 = .ok (.aload_n 0, 1) := by decide +kernel
theorem diX3_22 : decode cX3_init 22 = .ok (.iconst 0, 1) := by decide +kernel
theorem diX3_23 : decode cX3_init 23 = .ok (.putfield 22, 3) := by decide +kernel
theorem diX3_26 : decode cX3_init 26 = .ok (.aload_n 0, 1) := by decide +kernel
theorem diX3_27 : decode cX3_init 27 = .ok (.iconst 0, 1) := by decide +kernel
theorem diX3_28 : decode cX3_init 28 = .ok (.putfield 25, 3) := by decide +kernel
theorem diX3_31 : decode cX3_init 31 = .ok (.aload_n 0, 1) := by decide +kernel
theorem diX3_32 : decode cX3_init 32 = .ok (.iconst 0, 1) := by decide +kernel
theorem diX3_33 : decode cX3_init 33 = .ok (.putfield 28, 3) := by decide +kernel
theorem diX3_36 : decode cX3_init 36 = .ok (.return_, 1) := by decide +kernel
theorem diX5_0 : decode cX5_init 0 = .ok (.aload_n 0, 1) := by decide +kernel
theorem diX5_1 : decode cX5_init 1 = .ok (.invokespecial 1, 3) := by decide +kernel
theorem diX5_4 : decode cX5_init 4 = .ok (.aload_n 0, 1) := by decide +kernel
theorem diX5_5 : decode cX5_init 5 = .ok (.bipush 96, 2) := by decide +kernel
theorem diX5_7 : decode cX5_init 7 = .ok (.newarray .int, 2) := by decide +kernel
theorem diX5_9 : decode cX5_init 9 = .ok (.putfield 7, 3) := by decide +kernel
theorem diX5_12 : decode cX5_init 12 = .ok (.aload_n 0, 1) := by decide +kernel
theorem diX5_13 : decode cX5_init 13 = .ok (.bipush 96, 2) := by decide +kernel
theorem diX5_15 : decode cX5_init 15 = .ok (.newarray .int, 2) := by decide +kernel
theorem diX5_17 : decode cX5_init 17 = .ok (.putfield 13, 3) := by decide +kernel
theorem diX5_20 : decode cX5_init 20 = .ok (.aload_n 0, 1) := by decide +kernel
theorem diX5_21 : decode cX5_init 21 = .ok (.bipush 96, 2) := by decide +kernel
theorem diX5_23 : decode cX5_init 23 = .ok (.newarray .int, 2) := by decide +kernel
theorem diX5_25 : decode cX5_init 25 = .ok (.putfield 16, 3) := by decide +kernel
theorem diX5_28 : decode cX5_init 28 = .ok (.aload_n 0, 1) := by decide +kernel
theorem diX5_29 : decode cX5_init 29 = .ok (.bipush 96, 2) := by decide +kernel
theorem diX5_31 : decode cX5_init 31 = .ok (.newarray .int, 2) := by decide +kernel
theorem diX5_33 : decode cX5_init 33 = .ok (.putfield 19, 3) := by decide +kernel
theorem diX5_36 : decode cX5_init 36 = .ok (.aload_n 0, 1) := by decide +kernel
theorem diX5_37 : decode cX5_init 37 = .ok (.bipush 8, 2) := by decide +kernel
theorem diX5_39 : decode cX5_init 39 = .ok (.newarray .int, 2) := by decide +kernel
theorem diX5_41 : decode cX5_init 41 = .ok (.putfield 22, 3) := by decide +kernel
theorem diX5_44 : decode cX5_init 44 = .ok (.aload_n 0, 1) := by decide +kernel
theorem diX5_45 : decode cX5_init 45 = .ok (.bipush 120, 2) := by decide +kernel
theorem diX5_47 : decode cX5_init 47 = .ok (.newarray .int, 2) := by decide +kernel
theorem diX5_49 : decode cX5_init 49 = .ok (.putfield 25, 3) := by decide +kernel
theorem diX5_52 : decode cX5_init 52 = .ok (.aload_n 0, 1) := by decide +kernel
theorem diX5_53 : decode cX5_init 53 = .ok (.iconst 4, 1) := by decide +kernel
theorem diX5_54 : decode cX5_init 54 = .ok (.newarray .int, 2) := by decide +kernel
theorem diX5_56 : decode cX5_init 56 = .ok (.dup, 1) := by decide +kernel
theorem diX5_57 : decode cX5_init 57 = .ok (.iconst 0, 1) := by decide +kernel
theorem diX5_58 : decode cX5_init 58 = .ok (.iconst (-1), 1) := by decide +kernel
theorem diX5_59 : decode cX5_init 59 = .ok (.iastore, 1) := by decide +kernel
theorem diX5_60 : decode cX5_init 60 = .ok (.dup, 1) := by decide +kernel
theorem diX5_61 : decode cX5_init 61 = .ok (.iconst 1, 1) := by decide +kernel
theorem diX5_62 : decode cX5_init 62 = .ok (.iconst (-1), 1) := by decide +kernel
theorem diX5_63 : decode cX5_init 63 = .ok (.iastore, 1) := by decide +kernel
theorem diX5_64 : decode cX5_init 64 = .ok (.dup, 1) := by decide +kernel
theorem diX5_65 : decode cX5_init 65 = .ok (.iconst 2, 1) := by decide +kernel
theorem diX5_66 : decode cX5_init 66 = .ok (.iconst (-1), 1) := by decide +kernel
theorem diX5_67 : decode cX5_init 67 = .ok (.iastore, 1) := by decide +kernel
theorem diX5_68 : decode cX5_init 68 = .ok (.dup, 1) := by decide +kernel
theorem diX5_69 : decode cX5_init 69 = .ok (.iconst 3, 1) := by decide +kernel
theorem diX5_70 : decode cX5_init 70 = .ok (.iconst (-1), 1) := by decide +kernel
theorem diX5_71 : decode cX5_init 71 = .ok (.iastore, 1) := by decide +kernel
theorem diX5_72 : decode cX5_init 72 = .ok (.putfield 28, 3) := by decide +kernel
theorem diX5_75 : decode cX5_init 75 = .ok (.aload_n 0, 1) := by decide +kernel
theorem diX5_76 : decode cX5_init 76 = .ok (.iconst 4, 1) := by decide +kernel
theorem diX5_77 : decode cX5_init 77 = .ok (.newarray .int, 2) := by decide +kernel
theorem diX5_79 : decode cX5_init 79 = .ok (.putfield 31, 3) := by decide +kernel
theorem diX5_82 : decode cX5_init 82 = .ok (.aload_n 0, 1) := by decide +kernel
theorem diX5_83 : decode cX5_init 83 = .ok (.sipush 160, 3) := by decide +kernel
theorem diX5_86 : decode cX5_init 86 = .ok (.newarray .int, 2) := by decide +kernel
theorem diX5_88 : decode cX5_init 88 = .ok (.putfield 34, 3) := by decide +kernel
theorem diX5_91 : decode cX5_init 91 = .ok (.aload_n 0, 1) := by decide +kernel
theorem diX5_92 : decode cX5_init 92 = .ok (.getfield 7, 3) := by decide +kernel
theorem diX5_95 : decode cX5_init 95 = .ok (.iconst 2, 1) := by decide +kernel
theorem diX5_96 : decode cX5_init 96 = .ok (.bipush 90, 2) := by decide +kernel
theorem diX5_98 : decode cX5_init 98 = .ok (.iastore, 1) := by decide +kernel
theorem diX5_99 : decode cX5_init 99 = .ok (.aload_n 0, 1) := by decide +kernel
theorem diX5_100 : decode cX5_init 100 = .ok (.getfield 7, 3) := by decide +kernel
theorem diX5_103 : decode cX5_init 103 = .ok (.iconst 3, 1) := by decide +kernel
theorem diX5_104 : decode cX5_init 104 = .ok (.iconst 1, 1) := by decide +kernel
theorem diX5_105 : decode cX5_init 105 = .ok (.iastore, 1) := by decide +kernel
theorem diX5_106 : decode cX5_init 106 = .ok (.iconst 0, 1) := by decide +kernel
theorem diX5_107 : decode cX5_init 107 = .ok (.istore_n 1, 1) := by decide +kernel
theorem diX5_108 : decode cX5_init 108 = .ok (.iload_n 1, 1) := by decide +kernel
theorem diX5_109 : decode cX5_init 109 = .ok (.bipush 10, 2) := by decide +kernel
theorem diX5_111 : decode cX5_init 111 = .ok (.if_icmp .ge 19, 3) := by decide +kernel
theorem diX5_114 : decode cX5_init 114 = .ok (.aload_n 0, 1) := by decide +kernel
theorem diX5_115 : decode cX5_init 115 = .ok (.getfield 7, 3) := by decide +kernel
theorem diX5_118 : decode cX5_init 118 = .ok (.bipush 86, 2) := by decide +kernel
theorem diX5_120 : decode cX5_init 120 = .ok (.iload_n 1, 1) := by decide +kernel
theorem diX5_121 : decode cX5_init 121 = .ok (.iadd, 1) := by decide +kernel
theorem diX5_122 : decode cX5_init 122 = .ok (.iconst (-1), 1) := by decide +kernel
theorem diX5_123 : decode cX5_init 123 = .ok (.iastore, 1) := by decide +kernel
theorem diX5_124 : decode cX5_init 124 = .ok (.iinc 1 1, 3) := by decide +kernel
theorem diX5_127 : decode cX5_init 127 = .ok (.goto (-19), 3) := by decide +kernel
theorem diX5_130 : decode cX5_init 130 = .ok (.return_, 1) := by decide +kernel
theorem diX4_0 : decode cX4_init 0 = .ok (.aload_n 0, 1) := by decide +kernel
theorem diX4_1 : decode cX4_init 1 = .ok (.invokespecial 3, 3) := by decide +kernel
theorem diX4_4 : decode cX4_init 4 = .ok (.aload_n 0, 1) := by decide +kernel
theorem diX4_5 : decode cX4_init 5 = .ok (.new 9, 3) := by decide +kernel
theorem diX4_8 : decode cX4_init 8 = .ok (.dup, 1) := by decide +kernel
theorem diX4_9 : decode cX4_init 9 = .ok (.invokespecial 11, 3) := by decide +kernel
theorem diX4_12 : decode cX4_init 12 = .ok (.putfield 12, 3) := by decide +kernel
theorem diX4_15 : decode cX4_init 15 = .ok (.aload_n 0, 1) := by decide +kernel
theorem diX4_16 : decode cX4_init 16 = .ok (.new 9, 3) := by decide +kernel
theorem diX4_19 : decode cX4_init 19 = .ok (.dup, 1) := by decide +kernel
theorem diX4_20 : decode cX4_init 20 = .ok (.invokespecial 11, 3) := by decide +kernel
theorem diX4_23 : decode cX4_init 23 = .ok (.putfield 16, 3) := by decide +kernel
theorem diX4_26 : decode cX4_init 26 = .ok (.aload_n 0, 1) := by decide +kernel
theorem diX4_27 : decode cX4_init 27 = .ok (.new 9, 3) := by decide +kernel
theorem diX4_30 : decode cX4_init 30 = .ok (.dup, 1) := by decide +kernel
theorem diX4_31 : decode cX4_init 31 = .ok (.invokespecial 11, 3) := by decide +kernel
theorem diX4_34 : decode cX4_init 34 = .ok (.putfield 19, 3) := by decide +kernel
theorem diX4_37 : decode cX4_init 37 = .ok (.aload_n 0, 1) := by decide +kernel
theorem diX4_38 : decode cX4_init 38 = .ok (.iconst 4, 1) := by decide +kernel
theorem diX4_39 : decode cX4_init 39 = .ok (.anewarray 22, 3) := by decide +kernel
theorem diX4_42 : decode cX4_init 42 = .ok (.putfield 24, 3) := by decide +kernel
theorem diX4_45 : decode cX4_init 45 = .ok (.aload_n 0, 1) := by decide +kernel
theorem diX4_46 : decode cX4_init 46 = .ok (.bipush 120, 2) := by decide +kernel
theorem diX4_48 : decode cX4_init 48 = .ok (.newarray .byte, 2) := by decide +kernel
theorem diX4_50 : decode cX4_init 50 = .ok (.putfield 28, 3) := by decide +kernel
theorem diX4_53 : decode cX4_init 53 = .ok (.aload_n 0, 1) := by decide +kernel
theorem diX4_54 : decode cX4_init 54 = .ok (.new 32, 3) := by decide +kernel
theorem diX4_57 : decode cX4_init 57 = .ok (.dup, 1) := by decide +kernel
theorem diX4_58 : decode cX4_init 58 = .ok (.invokespecial 34, 3) := by decide +kernel
theorem diX4_61 : decode cX4_init 61 = .ok (.putfield 35, 3) := by decide +kernel
theorem diX4_64 : decode cX4_init 64 = .ok (.aload_n 0, 1) := by decide +kernel
theorem diX4_65 : decode cX4_init 65 = .ok (.bipush 7, 2) := by decide +kernel
theorem diX4_67 : decode cX4_init 67 = .ok (.newarray .int, 2) := by decide +kernel
theorem diX4_69 : decode cX4_init 69 = .ok (.putfield 39, 3) := by decide +kernel
theorem diX4_72 : decode cX4_init 72 = .ok (.aload_n 0, 1) := by decide +kernel
theorem diX4_73 : decode cX4_init 73 = .ok (.iconst 0, 1) := by decide +kernel
theorem diX4_74 : decode cX4_init 74 = .ok (.putfield 43, 3) := by decide +kernel
theorem diX4_77 : decode cX4_init 77 = .ok (.aload_n 0, 1) := by decide +kernel
theorem diX4_78 : decode cX4_init 78 = .ok (.iconst 0, 1) := by decide +kernel
theorem diX4_79 : decode cX4_init 79 = .ok (.putfield 47, 3) := by decide +kernel
theorem diX4_82 : decode cX4_init 82 = .ok (.iconst 0, 1) := by decide +kernel
theorem diX4_83 : decode cX4_init 83 = .ok (.istore_n 1, 1) := by decide +kernel
theorem diX4_84 : decode cX4_init 84 = .ok (.iload_n 1, 1) := by decide +kernel
theorem diX4_85 : decode cX4_init 85 = .ok (.iconst 4, 1) := by decide +kernel
theorem diX4_86 : decode cX4_init 86 = .ok (.if_icmp .ge 22, 3) := by decide +kernel
theorem diX4_89 : decode cX4_init 89 = .ok (.aload_n 0, 1) := by decide +kernel
theorem diX4_90 : decode cX4_init 90 = .ok (.getfield 24, 3) := by decide +kernel
theorem diX4_93 : decode cX4_init 93 = .ok (.iload_n 1, 1) := by decide +kernel
theorem diX4_94 : decode cX4_init 94 = .ok (.new 22, 3) := by decide +kernel
theorem diX4_97 : decode cX4_init 97 = .ok (.dup, 1) := by decide +kernel
theorem diX4_98 : decode cX4_init 98 = .ok (.invokespecial 51, 3) := by decide +kernel
theorem diX4_101 : decode cX4_init 101 = .ok (.aastore, 1) := by decide +kernel
theorem diX4_102 : decode cX4_init 102 = .ok (.iinc 1 1, 3) := by decide +kernel
theorem diX4_105 : decode cX4_init 105 = .ok (.goto (-21), 3) := by decide +kernel
theorem diX4_108 : decode cX4_init 108 = .ok (.return_, 1) := by decide +kernel
