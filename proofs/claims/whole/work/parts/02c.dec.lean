theorem dX10_init_0 : decode cX10_init 0 = .ok (.aload_n 0, 1) := by decide +kernel
theorem dX10_init_1 : decode cX10_init 1 = .ok (.invokespecial 1, 3) := by decide +kernel
theorem dX10_init_4 : decode cX10_init 4 = .ok (.aload_n 0, 1) := by decide +kernel
theorem dX10_init_5 : decode cX10_init 5 = .ok (.bipush 10, 2) := by decide +kernel
theorem dX10_init_7 : decode cX10_init 7 = .ok (.anewarray 9, 3) := by decide +kernel
theorem dX10_init_10 : decode cX10_init 10 = .ok (.putfield 11, 3) := by decide +kernel
theorem dX10_init_13 : decode cX10_init 13 = .ok (.aload_n 0, 1) := by decide +kernel
theorem dX10_init_14 : decode cX10_init 14 = .ok (.new 15, 3) := by decide +kernel
theorem dX10_init_17 : decode cX10_init 17 = .ok (.dup, 1) := by decide +kernel
theorem dX10_init_18 : decode cX10_init 18 = .ok (.invokespecial 17, 3) := by decide +kernel
theorem dX10_init_21 : decode cX10_init 21 = .ok (.putfield 18, 3) := by decide +kernel
theorem dX10_init_24 : decode cX10_init 24 = .ok (.aload_n 0, 1) := by decide +kernel
theorem dX10_init_25 : decode cX10_init 25 = .ok (.new 22, 3) := by decide +kernel
theorem dX10_init_28 : decode cX10_init 28 = .ok (.dup, 1) := by decide +kernel
theorem dX10_init_29 : decode cX10_init 29 = .ok (.invokespecial 24, 3) := by decide +kernel
theorem dX10_init_32 : decode cX10_init 32 = .ok (.putfield 25, 3) := by decide +kernel
theorem dX10_init_35 : decode cX10_init 35 = .ok (.aload_n 0, 1) := by decide +kernel
theorem dX10_init_36 : decode cX10_init 36 = .ok (.new 29, 3) := by decide +kernel
theorem dX10_init_39 : decode cX10_init 39 = .ok (.dup, 1) := by decide +kernel
theorem dX10_init_40 : decode cX10_init 40 = .ok (.invokespecial 31, 3) := by decide +kernel
theorem dX10_init_43 : decode cX10_init 43 = .ok (.putfield 32, 3) := by decide +kernel
theorem dX10_init_46 : decode cX10_init 46 = .ok (.aload_n 0, 1) := by decide +kernel
theorem dX10_init_47 : decode cX10_init 47 = .ok (.new 36, 3) := by decide +kernel
theorem dX10_init_50 : decode cX10_init 50 = .ok (.dup, 1) := by decide +kernel
theorem dX10_init_51 : decode cX10_init 51 = .ok (.invokespecial 38, 3) := by decide +kernel
theorem dX10_init_54 : decode cX10_init 54 = .ok (.putfield 39, 3) := by decide +kernel
theorem dX10_init_57 : decode cX10_init 57 = .ok (.aload_n 0, 1) := by decide +kernel
theorem dX10_init_58 : decode cX10_init 58 = .ok (.new 43, 3) := by decide +kernel
theorem dX10_init_61 : decode cX10_init 61 = .ok (.dup, 1) := by decide +kernel
theorem dX10_init_62 : decode cX10_init 62 = .ok (.invokespecial 45, 3) := by decide +kernel
theorem dX10_init_65 : decode cX10_init 65 = .ok (.putfield 46, 3) := by decide +kernel
theorem dX10_init_68 : decode cX10_init 68 = .ok (.aload_n 0, 1) := by decide +kernel
theorem dX10_init_69 : decode cX10_init 69 = .ok (.new 50, 3) := by decide +kernel
theorem dX10_init_72 : decode cX10_init 72 = .ok (.dup, 1) := by decide +kernel
theorem dX10_init_73 : decode cX10_init 73 = .ok (.invokespecial 52, 3) := by decide +kernel
theorem dX10_init_76 : decode cX10_init 76 = .ok (.putfield 53, 3) := by decide +kernel
theorem dX10_init_79 : decode cX10_init 79 = .ok (.aload_n 0, 1) := by decide +kernel
theorem dX10_init_80 : decode cX10_init 80 = .ok (.iconst 3, 1) := by decide +kernel
theorem dX10_init_81 : decode cX10_init 81 = .ok (.anewarray 57, 3) := by decide +kernel
theorem dX10_init_84 : decode cX10_init 84 = .ok (.putfield 59, 3) := by decide +kernel
theorem dX10_init_87 : decode cX10_init 87 = .ok (.aload_n 0, 1) := by decide +kernel
theorem dX10_init_88 : decode cX10_init 88 = .ok (.bipush 6, 2) := by decide +kernel
theorem dX10_init_90 : decode cX10_init 90 = .ok (.sipush 200, 3) := by decide +kernel
theorem dX10_init_93 : decode cX10_init 93 = .ok (.multianewarray 63 2, 4) := by decide +kernel
theorem dX10_init_97 : decode cX10_init 97 = .ok (.putfield 65, 3) := by decide +kernel
theorem dX10_init_100 : decode cX10_init 100 = .ok (.aload_n 0, 1) := by decide +kernel
theorem dX10_init_101 : decode cX10_init 101 = .ok (.iconst (-1), 1) := by decide +kernel
theorem dX10_init_102 : decode cX10_init 102 = .ok (.putfield 68, 3) := by decide +kernel
theorem dX10_init_105 : decode cX10_init 105 = .ok (.aload_n 0, 1) := by decide +kernel
theorem dX10_init_106 : decode cX10_init 106 = .ok (.iconst 3, 1) := by decide +kernel
theorem dX10_init_107 : decode cX10_init 107 = .ok (.newarray .int, 2) := by decide +kernel
theorem dX10_init_109 : decode cX10_init 109 = .ok (.dup, 1) := by decide +kernel
theorem dX10_init_110 : decode cX10_init 110 = .ok (.iconst 0, 1) := by decide +kernel
theorem dX10_init_111 : decode cX10_init 111 = .ok (.iconst (-1), 1) := by decide +kernel
theorem dX10_init_112 : decode cX10_init 112 = .ok (.iastore, 1) := by decide +kernel
theorem dX10_init_113 : decode cX10_init 113 = .ok (.dup, 1) := by decide +kernel
theorem dX10_init_114 : decode cX10_init 114 = .ok (.iconst 1, 1) := by decide +kernel
theorem dX10_init_115 : decode cX10_init 115 = .ok (.iconst (-1), 1) := by decide +kernel
theorem dX10_init_116 : decode cX10_init 116 = .ok (.iastore, 1) := by decide +kernel
theorem dX10_init_117 : decode cX10_init 117 = .ok (.dup, 1) := by decide +kernel
theorem dX10_init_118 : decode cX10_init 118 = .ok (.iconst 2, 1) := by decide +kernel
theorem dX10_init_119 : decode cX10_init 119 = .ok (.iconst (-1), 1) := by decide +kernel
theorem dX10_init_120 : decode cX10_init 120 = .ok (.iastore, 1) := by decide +kernel
theorem dX10_init_121 : decode cX10_init 121 = .ok (.putfield 72, 3) := by decide +kernel
theorem dX10_init_124 : decode cX10_init 124 = .ok (.aload_n 0, 1) := by decide +kernel
theorem dX10_init_125 : decode cX10_init 125 = .ok (.bipush 20, 2) := by decide +kernel
theorem dX10_init_127 : decode cX10_init 127 = .ok (.newarray .int, 2) := by decide +kernel
theorem dX10_init_129 : decode cX10_init 129 = .ok (.putfield 76, 3) := by decide +kernel
theorem dX10_init_132 : decode cX10_init 132 = .ok (.iconst 0, 1) := by decide +kernel
theorem dX10_init_133 : decode cX10_init 133 = .ok (.istore_n 1, 1) := by decide +kernel
theorem dX10_init_134 : decode cX10_init 134 = .ok (.iload_n 1, 1) := by decide +kernel
theorem dX10_init_135 : decode cX10_init 135 = .ok (.bipush 10, 2) := by decide +kernel
theorem dX10_init_137 : decode cX10_init 137 = .ok (.if_icmp .ge 22, 3) := by decide +kernel
theorem dX10_init_140 : decode cX10_init 140 = .ok (.aload_n 0, 1) := by decide +kernel
theorem dX10_init_141 : decode cX10_init 141 = .ok (.getfield 11, 3) := by decide +kernel
theorem dX10_init_144 : decode cX10_init 144 = .ok (.iload_n 1, 1) := by decide +kernel
theorem dX10_init_145 : decode cX10_init 145 = .ok (.new 9, 3) := by decide +kernel
theorem dX10_init_148 : decode cX10_init 148 = .ok (.dup, 1) := by decide +kernel
theorem dX10_init_149 : decode cX10_init 149 = .ok (.invokespecial 79, 3) := by decide +kernel
theorem dX10_init_152 : decode cX10_init 152 = .ok (.aastore, 1) := by decide +kernel
theorem dX10_init_153 : decode cX10_init 153 = .ok (.iinc 1 1, 3) := by decide +kernel
theorem dX10_init_156 : decode cX10_init 156 = .ok (.goto (-22), 3) := by decide +kernel
theorem dX10_init_159 : decode cX10_init 159 = .ok (.iconst 0, 1) := by decide +kernel
theorem dX10_init_160 : decode cX10_init 160 = .ok (.istore_n 1, 1) := by decide +kernel
theorem dX10_init_161 : decode cX10_init 161 = .ok (.iload_n 1, 1) := by decide +kernel
theorem dX10_init_162 : decode cX10_init 162 = .ok (.iconst 3, 1) := by decide +kernel
theorem dX10_init_163 : decode cX10_init 163 = .ok (.if_icmp .ge 22, 3) := by decide +kernel
theorem dX10_init_166 : decode cX10_init 166 = .ok (.aload_n 0, 1) := by decide +kernel
theorem dX10_init_167 : decode cX10_init 167 = .ok (.getfield 59, 3) := by decide +kernel
theorem dX10_init_170 : decode cX10_init 170 = .ok (.iload_n 1, 1) := by decide +kernel
theorem dX10_init_171 : decode cX10_init 171 = .ok (.new 57, 3) := by decide +kernel
theorem dX10_init_174 : decode cX10_init 174 = .ok (.dup, 1) := by decide +kernel
theorem dX10_init_175 : decode cX10_init 175 = .ok (.invokespecial 80, 3) := by decide +kernel
theorem dX10_init_178 : decode cX10_init 178 = .ok (.aastore, 1) := by decide +kernel
theorem dX10_init_179 : decode cX10_init 179 = .ok (.iinc 1 1, 3) := by decide +kernel
theorem dX10_init_182 : decode cX10_init 182 = .ok (.goto (-21), 3) := by decide +kernel
theorem dX10_init_185 : decode cX10_init 185 = .ok (.return_, 1) := by decide +kernel
theorem dX10_house_0 : decode cX10_house 0 = .ok (.iconst 0, 1) := by decide +kernel
theorem dX10_house_1 : decode cX10_house 1 = .ok (.iload_n 1, 1) := by decide +kernel
theorem dX10_house_2 : decode cX10_house 2 = .ok (.invokestatic 81, 3) := by decide +kernel
theorem dX10_house_5 : decode cX10_house 5 = .ok (.ifCond .eq 11, 3) := by decide +kernel
theorem dX10_house_8 : decode cX10_house 8 = .ok (.iconst 1, 1) := by decide +kernel
theorem dX10_house_9 : decode cX10_house 9 = .ok (.iload_n 2, 1) := by decide +kernel
theorem dX10_house_10 : decode cX10_house 10 = .ok (.invokestatic 81, 3) := by decide +kernel
theorem dX10_house_13 : decode cX10_house 13 = .ok (.ifCond .ne 6, 3) := by decide +kernel
theorem dX10_house_16 : decode cX10_house 16 = .ok (.bipush (-2), 2) := by decide +kernel
theorem dX10_house_18 : decode cX10_house 18 = .ok (.ireturn, 1) := by decide +kernel
theorem dX10_house_19 : decode cX10_house 19 = .ok (.iconst 2, 1) := by decide +kernel
theorem dX10_house_20 : decode cX10_house 20 = .ok (.iload_n 3, 1) := by decide +kernel
theorem dX10_house_21 : decode cX10_house 21 = .ok (.invokestatic 81, 3) := by decide +kernel
theorem dX10_house_24 : decode cX10_house 24 = .ok (.ifCond .eq 12, 3) := by decide +kernel
theorem dX10_house_27 : decode cX10_house 27 = .ok (.iconst 3, 1) := by decide +kernel
theorem dX10_house_28 : decode cX10_house 28 = .ok (.iload 4, 2) := by decide +kernel
theorem dX10_house_30 : decode cX10_house 30 = .ok (.invokestatic 81, 3) := by decide +kernel
theorem dX10_house_33 : decode cX10_house 33 = .ok (.ifCond .ne 6, 3) := by decide +kernel
theorem dX10_house_36 : decode cX10_house 36 = .ok (.bipush (-2), 2) := by decide +kernel
theorem dX10_house_38 : decode cX10_house 38 = .ok (.ireturn, 1) := by decide +kernel
theorem dX10_house_39 : decode cX10_house 39 = .ok (.aload_n 0, 1) := by decide +kernel
theorem dX10_house_40 : decode cX10_house 40 = .ok (.getfield 85, 3) := by decide +kernel
theorem dX10_house_43 : decode cX10_house 43 = .ok (.bipush 10, 2) := by decide +kernel
theorem dX10_house_45 : decode cX10_house 45 = .ok (.if_icmp .lt 6, 3) := by decide +kernel
theorem dX10_house_48 : decode cX10_house 48 = .ok (.bipush (-4), 2) := by decide +kernel
theorem dX10_house_50 : decode cX10_house 50 = .ok (.ireturn, 1) := by decide +kernel
theorem dX10_house_51 : decode cX10_house 51 = .ok (.aload_n 0, 1) := by decide +kernel
theorem dX10_house_52 : decode cX10_house 52 = .ok (.getfield 11, 3) := by decide +kernel
theorem dX10_house_55 : decode cX10_house 55 = .ok (.aload_n 0, 1) := by decide +kernel
theorem dX10_house_56 : decode cX10_house 56 = .ok (.getfield 85, 3) := by decide +kernel
theorem dX10_house_59 : decode cX10_house 59 = .ok (.aaload, 1) := by decide +kernel
theorem dX10_house_60 : decode cX10_house 60 = .ok (.astore 5, 2) := by decide +kernel
theorem dX10_house_62 : decode cX10_house 62 = .ok (.aload 5, 2) := by decide +kernel
theorem dX10_house_64 : decode cX10_house 64 = .ok (.getfield 88, 3) := by decide +kernel
theorem dX10_house_67 : decode cX10_house 67 = .ok (.iconst 0, 1) := by decide +kernel
theorem dX10_house_68 : decode cX10_house 68 = .ok (.iload_n 1, 1) := by decide +kernel
theorem dX10_house_69 : decode cX10_house 69 = .ok (.iastore, 1) := by decide +kernel
theorem dX10_house_70 : decode cX10_house 70 = .ok (.aload 5, 2) := by decide +kernel
theorem dX10_house_72 : decode cX10_house 72 = .ok (.getfield 88, 3) := by decide +kernel
theorem dX10_house_75 : decode cX10_house 75 = .ok (.iconst 1, 1) := by decide +kernel
theorem dX10_house_76 : decode cX10_house 76 = .ok (.iload_n 2, 1) := by decide +kernel
theorem dX10_house_77 : decode cX10_house 77 = .ok (.iastore, 1) := by decide +kernel
theorem dX10_house_78 : decode cX10_house 78 = .ok (.aload 5, 2) := by decide +kernel
theorem dX10_house_80 : decode cX10_house 80 = .ok (.getfield 88, 3) := by decide +kernel
theorem dX10_house_83 : decode cX10_house 83 = .ok (.iconst 2, 1) := by decide +kernel
theorem dX10_house_84 : decode cX10_house 84 = .ok (.iload_n 3, 1) := by decide +kernel
theorem dX10_house_85 : decode cX10_house 85 = .ok (.iastore, 1) := by decide +kernel
theorem dX10_house_86 : decode cX10_house 86 = .ok (.aload 5, 2) := by decide +kernel
theorem dX10_house_88 : decode cX10_house 88 = .ok (.getfield 88, 3) := by decide +kernel
theorem dX10_house_91 : decode cX10_house 91 = .ok (.iconst 3, 1) := by decide +kernel
theorem dX10_house_92 : decode cX10_house 92 = .ok (.iload 4, 2) := by decide +kernel
theorem dX10_house_94 : decode cX10_house 94 = .ok (.iastore, 1) := by decide +kernel
theorem dX10_house_95 : decode cX10_house 95 = .ok (.aload_n 0, 1) := by decide +kernel
theorem dX10_house_96 : decode cX10_house 96 = .ok (.dup, 1) := by decide +kernel
theorem dX10_house_97 : decode cX10_house 97 = .ok (.getfield 85, 3) := by decide +kernel
theorem dX10_house_100 : decode cX10_house 100 = .ok (.dup_x1, 1) := by decide +kernel
theorem dX10_house_101 : decode cX10_house 101 = .ok (.iconst 1, 1) := by decide +kernel
theorem dX10_house_102 : decode cX10_house 102 = .ok (.iadd, 1) := by decide +kernel
theorem dX10_house_103 : decode cX10_house 103 = .ok (.putfield 85, 3) := by decide +kernel
theorem dX10_house_106 : decode cX10_house 106 = .ok (.ireturn, 1) := by decide +kernel
theorem dX10_change_0 : decode cX10_change 0 = .ok (.aload_n 0, 1) := by decide +kernel
theorem dX10_change_1 : decode cX10_change 1 = .ok (.iload_n 1, 1) := by decide +kernel
theorem dX10_change_2 : decode cX10_change 2 = .ok (.invokevirtual 91, 3) := by decide +kernel
theorem dX10_change_5 : decode cX10_change 5 = .ok (.ifCond .eq 12, 3) := by decide +kernel
theorem dX10_change_8 : decode cX10_change 8 = .ok (.iload_n 2, 1) := by decide +kernel
theorem dX10_change_9 : decode cX10_change 9 = .ok (.ifCond .lt 8, 3) := by decide +kernel
theorem dX10_change_12 : decode cX10_change 12 = .ok (.iload_n 2, 1) := by decide +kernel
theorem dX10_change_13 : decode cX10_change 13 = .ok (.iconst 4, 1) := by decide +kernel
theorem dX10_change_14 : decode cX10_change 14 = .ok (.if_icmp .lt 5, 3) := by decide +kernel
theorem dX10_change_17 : decode cX10_change 17 = .ok (.iconst (-1), 1) := by decide +kernel
theorem dX10_change_18 : decode cX10_change 18 = .ok (.ireturn, 1) := by decide +kernel
theorem dX10_change_19 : decode cX10_change 19 = .ok (.aload_n 0, 1) := by decide +kernel
theorem dX10_change_20 : decode cX10_change 20 = .ok (.getfield 11, 3) := by decide +kernel
theorem dX10_change_23 : decode cX10_change 23 = .ok (.iload_n 1, 1) := by decide +kernel
theorem dX10_change_24 : decode cX10_change 24 = .ok (.aaload, 1) := by decide +kernel
theorem dX10_change_25 : decode cX10_change 25 = .ok (.astore 4, 2) := by decide +kernel
theorem dX10_change_27 : decode cX10_change 27 = .ok (.iload_n 2, 1) := by decide +kernel
theorem dX10_change_28 : decode cX10_change 28 = .ok (.iload_n 3, 1) := by decide +kernel
theorem dX10_change_29 : decode cX10_change 29 = .ok (.invokestatic 81, 3) := by decide +kernel
theorem dX10_change_32 : decode cX10_change 32 = .ok (.ifCond .eq 17, 3) := by decide +kernel
theorem dX10_change_35 : decode cX10_change 35 = .ok (.iload_n 2, 1) := by decide +kernel
theorem dX10_change_36 : decode cX10_change 36 = .ok (.iconst 2, 1) := by decide +kernel
theorem dX10_change_37 : decode cX10_change 37 = .ok (.if_icmp .ne 15, 3) := by decide +kernel
theorem dX10_change_40 : decode cX10_change 40 = .ok (.iload_n 3, 1) := by decide +kernel
theorem dX10_change_41 : decode cX10_change 41 = .ok (.aload 4, 2) := by decide +kernel
theorem dX10_change_43 : decode cX10_change 43 = .ok (.invokevirtual 95, 3) := by decide +kernel
theorem dX10_change_46 : decode cX10_change 46 = .ok (.if_icmp .ge 6, 3) := by decide +kernel
theorem dX10_change_49 : decode cX10_change 49 = .ok (.bipush (-2), 2) := by decide +kernel
theorem dX10_change_51 : decode cX10_change 51 = .ok (.ireturn, 1) := by decide +kernel
theorem dX10_change_52 : decode cX10_change 52 = .ok (.aload 4, 2) := by decide +kernel
theorem dX10_change_54 : decode cX10_change 54 = .ok (.getfield 88, 3) := by decide +kernel
theorem dX10_change_57 : decode cX10_change 57 = .ok (.iload_n 2, 1) := by decide +kernel
theorem dX10_change_58 : decode cX10_change 58 = .ok (.iaload, 1) := by decide +kernel
theorem dX10_change_59 : decode cX10_change 59 = .ok (.istore 5, 2) := by decide +kernel
theorem dX10_change_61 : decode cX10_change 61 = .ok (.aload 4, 2) := by decide +kernel
theorem dX10_change_63 : decode cX10_change 63 = .ok (.getfield 88, 3) := by decide +kernel
theorem dX10_change_66 : decode cX10_change 66 = .ok (.iload_n 2, 1) := by decide +kernel
theorem dX10_change_67 : decode cX10_change 67 = .ok (.iload_n 3, 1) := by decide +kernel
theorem dX10_change_68 : decode cX10_change 68 = .ok (.iastore, 1) := by decide +kernel
theorem dX10_change_69 : decode cX10_change 69 = .ok (.iload 5, 2) := by decide +kernel
theorem dX10_change_71 : decode cX10_change 71 = .ok (.ireturn, 1) := by decide +kernel
theorem dX10_told_0 : decode cX10_told 0 = .ok (.aload_n 0, 1) := by decide +kernel
theorem dX10_told_1 : decode cX10_told 1 = .ok (.iload_n 1, 1) := by decide +kernel
theorem dX10_told_2 : decode cX10_told 2 = .ok (.invokevirtual 91, 3) := by decide +kernel
theorem dX10_told_5 : decode cX10_told 5 = .ok (.ifCond .ne 6, 3) := by decide +kernel
theorem dX10_told_8 : decode cX10_told 8 = .ok (.bipush (-5), 2) := by decide +kernel
theorem dX10_told_10 : decode cX10_told 10 = .ok (.ireturn, 1) := by decide +kernel
theorem dX10_told_11 : decode cX10_told 11 = .ok (.aload_n 0, 1) := by decide +kernel
theorem dX10_told_12 : decode cX10_told 12 = .ok (.getfield 11, 3) := by decide +kernel
theorem dX10_told_15 : decode cX10_told 15 = .ok (.iload_n 1, 1) := by decide +kernel
theorem dX10_told_16 : decode cX10_told 16 = .ok (.aaload, 1) := by decide +kernel
theorem dX10_told_17 : decode cX10_told 17 = .ok (.astore_n 3, 1) := by decide +kernel
theorem dX10_told_18 : decode cX10_told 18 = .ok (.iload_n 2, 1) := by decide +kernel
theorem dX10_told_19 : decode cX10_told 19 = .ok (.tableswitch 138 0 12 #[65, 72, 79, 86, 93, 98, 103, 108, 113, 118, 123, 128, 133], 65) := by decide +kernel
theorem dX10_told_84 : decode cX10_told 84 = .ok (.aload_n 3, 1) := by decide +kernel
theorem dX10_told_85 : decode cX10_told 85 = .ok (.getfield 88, 3) := by decide +kernel
theorem dX10_told_88 : decode cX10_told 88 = .ok (.iconst 0, 1) := by decide +kernel
theorem dX10_told_89 : decode cX10_told 89 = .ok (.iaload, 1) := by decide +kernel
theorem dX10_told_90 : decode cX10_told 90 = .ok (.ireturn, 1) := by decide +kernel
theorem dX10_told_91 : decode cX10_told 91 = .ok (.aload_n 3, 1) := by decide +kernel
theorem dX10_told_92 : decode cX10_told 92 = .ok (.getfield 88, 3) := by decide +kernel
theorem dX10_told_95 : decode cX10_told 95 = .ok (.iconst 1, 1) := by decide +kernel
theorem dX10_told_96 : decode cX10_told 96 = .ok (.iaload, 1) := by decide +kernel
theorem dX10_told_97 : decode cX10_told 97 = .ok (.ireturn, 1) := by decide +kernel
theorem dX10_told_98 : decode cX10_told 98 = .ok (.aload_n 3, 1) := by decide +kernel
theorem dX10_told_99 : decode cX10_told 99 = .ok (.getfield 88, 3) := by decide +kernel
theorem dX10_told_102 : decode cX10_told 102 = .ok (.iconst 2, 1) := by decide +kernel
theorem dX10_told_103 : decode cX10_told 103 = .ok (.iaload, 1) := by decide +kernel
theorem dX10_told_104 : decode cX10_told 104 = .ok (.ireturn, 1) := by decide +kernel
theorem dX10_told_105 : decode cX10_told 105 = .ok (.aload_n 3, 1) := by decide +kernel
theorem dX10_told_106 : decode cX10_told 106 = .ok (.getfield 88, 3) := by decide +kernel
theorem dX10_told_109 : decode cX10_told 109 = .ok (.iconst 3, 1) := by decide +kernel
theorem dX10_told_110 : decode cX10_told 110 = .ok (.iaload, 1) := by decide +kernel
theorem dX10_told_111 : decode cX10_told 111 = .ok (.ireturn, 1) := by decide +kernel
theorem dX10_told_112 : decode cX10_told 112 = .ok (.aload_n 3, 1) := by decide +kernel
theorem dX10_told_113 : decode cX10_told 113 = .ok (.getfield 99, 3) := by decide +kernel
theorem dX10_told_116 : decode cX10_told 116 = .ok (.ireturn, 1) := by decide +kernel
theorem dX10_told_117 : decode cX10_told 117 = .ok (.aload_n 3, 1) := by decide +kernel
theorem dX10_told_118 : decode cX10_told 118 = .ok (.invokevirtual 102, 3) := by decide +kernel
theorem dX10_told_121 : decode cX10_told 121 = .ok (.ireturn, 1) := by decide +kernel
theorem dX10_told_122 : decode cX10_told 122 = .ok (.aload_n 3, 1) := by decide +kernel
theorem dX10_told_123 : decode cX10_told 123 = .ok (.getfield 105, 3) := by decide +kernel
theorem dX10_told_126 : decode cX10_told 126 = .ok (.ireturn, 1) := by decide +kernel
theorem dX10_told_127 : decode cX10_told 127 = .ok (.aload_n 3, 1) := by decide +kernel
theorem dX10_told_128 : decode cX10_told 128 = .ok (.getfield 108, 3) := by decide +kernel
theorem dX10_told_131 : decode cX10_told 131 = .ok (.ireturn, 1) := by decide +kernel
theorem dX10_told_132 : decode cX10_told 132 = .ok (.aload_n 3, 1) := by decide +kernel
theorem dX10_told_133 : decode cX10_told 133 = .ok (.getfield 111, 3) := by decide +kernel
theorem dX10_told_136 : decode cX10_told 136 = .ok (.ireturn, 1) := by decide +kernel
theorem dX10_told_137 : decode cX10_told 137 = .ok (.aload_n 3, 1) := by decide +kernel
theorem dX10_told_138 : decode cX10_told 138 = .ok (.getfield 114, 3) := by decide +kernel
theorem dX10_told_141 : decode cX10_told 141 = .ok (.ireturn, 1) := by decide +kernel
theorem dX10_told_142 : decode cX10_told 142 = .ok (.aload_n 3, 1) := by decide +kernel
theorem dX10_told_143 : decode cX10_told 143 = .ok (.getfield 117, 3) := by decide +kernel
theorem dX10_told_146 : decode cX10_told 146 = .ok (.ireturn, 1) := by decide +kernel
theorem dX10_told_147 : decode cX10_told 147 = .ok (.aload_n 3, 1) := by decide +kernel
theorem dX10_told_148 : decode cX10_told 148 = .ok (.getfield 120, 3) := by decide +kernel
theorem dX10_told_151 : decode cX10_told 151 = .ok (.ireturn, 1) := by decide +kernel
theorem dX10_told_152 : decode cX10_told 152 = .ok (.aload_n 3, 1) := by decide +kernel
theorem dX10_told_153 : decode cX10_told 153 = .ok (.getfield 123, 3) := by decide +kernel
theorem dX10_told_156 : decode cX10_told 156 = .ok (.ireturn, 1) := by decide +kernel
theorem dX10_told_157 : decode cX10_told 157 = .ok (.bipush (-5), 2) := by decide +kernel
theorem dX10_told_159 : decode cX10_told 159 = .ok (.ireturn, 1) := by decide +kernel
theorem dX10_counts_0 : decode cX10_counts 0 = .ok (.iconst 0, 1) := by decide +kernel
theorem dX10_counts_1 : decode cX10_counts 1 = .ok (.istore_n 1, 1) := by decide +kernel
theorem dX10_counts_2 : decode cX10_counts 2 = .ok (.iconst 0, 1) := by decide +kernel
theorem dX10_counts_3 : decode cX10_counts 3 = .ok (.istore_n 2, 1) := by decide +kernel
theorem dX10_counts_4 : decode cX10_counts 4 = .ok (.iload_n 2, 1) := by decide +kernel
theorem dX10_counts_5 : decode cX10_counts 5 = .ok (.aload_n 0, 1) := by decide +kernel
theorem dX10_counts_6 : decode cX10_counts 6 = .ok (.getfield 85, 3) := by decide +kernel
theorem dX10_counts_9 : decode cX10_counts 9 = .ok (.if_icmp .ge 41, 3) := by decide +kernel
theorem dX10_counts_12 : decode cX10_counts 12 = .ok (.aload_n 0, 1) := by decide +kernel
theorem dX10_counts_13 : decode cX10_counts 13 = .ok (.getfield 11, 3) := by decide +kernel
theorem dX10_counts_16 : decode cX10_counts 16 = .ok (.iload_n 2, 1) := by decide +kernel
theorem dX10_counts_17 : decode cX10_counts 17 = .ok (.aaload, 1) := by decide +kernel
theorem dX10_counts_18 : decode cX10_counts 18 = .ok (.aload_n 0, 1) := by decide +kernel
theorem dX10_counts_19 : decode cX10_counts 19 = .ok (.getfield 11, 3) := by decide +kernel
theorem dX10_counts_22 : decode cX10_counts 22 = .ok (.iload_n 2, 1) := by decide +kernel
theorem dX10_counts_23 : decode cX10_counts 23 = .ok (.aaload, 1) := by decide +kernel
theorem dX10_counts_24 : decode cX10_counts 24 = .ok (.getfield 88, 3) := by decide +kernel
theorem dX10_counts_27 : decode cX10_counts 27 = .ok (.iconst 3, 1) := by decide +kernel
theorem dX10_counts_28 : decode cX10_counts 28 = .ok (.iaload, 1) := by decide +kernel
theorem dX10_counts_29 : decode cX10_counts 29 = .ok (.putfield 114, 3) := by decide +kernel
theorem dX10_counts_32 : decode cX10_counts 32 = .ok (.iload_n 1, 1) := by decide +kernel
theorem dX10_counts_33 : decode cX10_counts 33 = .ok (.aload_n 0, 1) := by decide +kernel
theorem dX10_counts_34 : decode cX10_counts 34 = .ok (.getfield 11, 3) := by decide +kernel
theorem dX10_counts_37 : decode cX10_counts 37 = .ok (.iload_n 2, 1) := by decide +kernel
theorem dX10_counts_38 : decode cX10_counts 38 = .ok (.aaload, 1) := by decide +kernel
theorem dX10_counts_39 : decode cX10_counts 39 = .ok (.getfield 114, 3) := by decide +kernel
theorem dX10_counts_42 : decode cX10_counts 42 = .ok (.iadd, 1) := by decide +kernel
theorem dX10_counts_43 : decode cX10_counts 43 = .ok (.istore_n 1, 1) := by decide +kernel
theorem dX10_counts_44 : decode cX10_counts 44 = .ok (.iinc 2 1, 3) := by decide +kernel
theorem dX10_counts_47 : decode cX10_counts 47 = .ok (.goto (-43), 3) := by decide +kernel
theorem dX10_counts_50 : decode cX10_counts 50 = .ok (.iload_n 1, 1) := by decide +kernel
theorem dX10_counts_51 : decode cX10_counts 51 = .ok (.ireturn, 1) := by decide +kernel
theorem dX10_right_0 : decode cX10_right 0 = .ok (.aload_n 0, 1) := by decide +kernel
theorem dX10_right_1 : decode cX10_right 1 = .ok (.iload_n 1, 1) := by decide +kernel
theorem dX10_right_2 : decode cX10_right 2 = .ok (.invokevirtual 91, 3) := by decide +kernel
theorem dX10_right_5 : decode cX10_right 5 = .ok (.ifCond .ne 5, 3) := by decide +kernel
theorem dX10_right_8 : decode cX10_right 8 = .ok (.iconst (-1), 1) := by decide +kernel
theorem dX10_right_9 : decode cX10_right 9 = .ok (.ireturn, 1) := by decide +kernel
theorem dX10_right_10 : decode cX10_right 10 = .ok (.iload_n 2, 1) := by decide +kernel
theorem dX10_right_11 : decode cX10_right 11 = .ok (.ifCond .lt 26, 3) := by decide +kernel
theorem dX10_right_14 : decode cX10_right 14 = .ok (.iload_n 2, 1) := by decide +kernel
theorem dX10_right_15 : decode cX10_right 15 = .ok (.bipush 6, 2) := by decide +kernel
theorem dX10_right_17 : decode cX10_right 17 = .ok (.if_icmp .ge 20, 3) := by decide +kernel
theorem dX10_right_20 : decode cX10_right 20 = .ok (.iload_n 2, 1) := by decide +kernel
theorem dX10_right_21 : decode cX10_right 21 = .ok (.iconst 4, 1) := by decide +kernel
theorem dX10_right_22 : decode cX10_right 22 = .ok (.if_icmp .eq 15, 3) := by decide +kernel
theorem dX10_right_25 : decode cX10_right 25 = .ok (.iload_n 3, 1) := by decide +kernel
theorem dX10_right_26 : decode cX10_right 26 = .ok (.iconst 1, 1) := by decide +kernel
theorem dX10_right_27 : decode cX10_right 27 = .ok (.if_icmp .lt 10, 3) := by decide +kernel
theorem dX10_right_30 : decode cX10_right 30 = .ok (.iload_n 3, 1) := by decide +kernel
theorem dX10_right_31 : decode cX10_right 31 = .ok (.sipush 999, 3) := by decide +kernel
theorem dX10_right_34 : decode cX10_right 34 = .ok (.if_icmp .le 6, 3) := by decide +kernel
theorem dX10_right_37 : decode cX10_right 37 = .ok (.bipush (-2), 2) := by decide +kernel
theorem dX10_right_39 : decode cX10_right 39 = .ok (.ireturn, 1) := by decide +kernel
theorem dX10_right_40 : decode cX10_right 40 = .ok (.aload_n 0, 1) := by decide +kernel
theorem dX10_right_41 : decode cX10_right 41 = .ok (.getfield 18, 3) := by decide +kernel
theorem dX10_right_44 : decode cX10_right 44 = .ok (.getfield 126, 3) := by decide +kernel
theorem dX10_right_47 : decode cX10_right 47 = .ok (.bipush 50, 2) := by decide +kernel
theorem dX10_right_49 : decode cX10_right 49 = .ok (.if_icmp .lt 6, 3) := by decide +kernel
theorem dX10_right_52 : decode cX10_right 52 = .ok (.bipush (-4), 2) := by decide +kernel
theorem dX10_right_54 : decode cX10_right 54 = .ok (.ireturn, 1) := by decide +kernel
theorem dX10_right_55 : decode cX10_right 55 = .ok (.aload_n 0, 1) := by decide +kernel
theorem dX10_right_56 : decode cX10_right 56 = .ok (.getfield 18, 3) := by decide +kernel
theorem dX10_right_59 : decode cX10_right 59 = .ok (.iload_n 2, 1) := by decide +kernel
theorem dX10_right_60 : decode cX10_right 60 = .ok (.iload_n 1, 1) := by decide +kernel
theorem dX10_right_61 : decode cX10_right 61 = .ok (.iload_n 3, 1) := by decide +kernel
theorem dX10_right_62 : decode cX10_right 62 = .ok (.invokevirtual 129, 3) := by decide +kernel
theorem dX10_right_65 : decode cX10_right 65 = .ok (.ireturn, 1) := by decide +kernel
theorem dX10_split_0 : decode cX10_split 0 = .ok (.aload_n 0, 1) := by decide +kernel
theorem dX10_split_1 : decode cX10_split 1 = .ok (.getfield 18, 3) := by decide +kernel
theorem dX10_split_4 : decode cX10_split 4 = .ok (.iload_n 1, 1) := by decide +kernel
theorem dX10_split_5 : decode cX10_split 5 = .ok (.invokevirtual 133, 3) := by decide +kernel
theorem dX10_split_8 : decode cX10_split 8 = .ok (.ifCond .ne 5, 3) := by decide +kernel
theorem dX10_split_11 : decode cX10_split 11 = .ok (.iconst (-1), 1) := by decide +kernel
theorem dX10_split_12 : decode cX10_split 12 = .ok (.ireturn, 1) := by decide +kernel
theorem dX10_split_13 : decode cX10_split 13 = .ok (.iload_n 2, 1) := by decide +kernel
theorem dX10_split_14 : decode cX10_split 14 = .ok (.iconst 1, 1) := by decide +kernel
theorem dX10_split_15 : decode cX10_split 15 = .ok (.if_icmp .lt 16, 3) := by decide +kernel
theorem dX10_split_18 : decode cX10_split 18 = .ok (.iload_n 2, 1) := by decide +kernel
theorem dX10_split_19 : decode cX10_split 19 = .ok (.aload_n 0, 1) := by decide +kernel
theorem dX10_split_20 : decode cX10_split 20 = .ok (.getfield 18, 3) := by decide +kernel
theorem dX10_split_23 : decode cX10_split 23 = .ok (.getfield 135, 3) := by decide +kernel
theorem dX10_split_26 : decode cX10_split 26 = .ok (.iload_n 1, 1) := by decide +kernel
theorem dX10_split_27 : decode cX10_split 27 = .ok (.iaload, 1) := by decide +kernel
theorem dX10_split_28 : decode cX10_split 28 = .ok (.if_icmp .lt 6, 3) := by decide +kernel
theorem dX10_split_31 : decode cX10_split 31 = .ok (.bipush (-2), 2) := by decide +kernel
theorem dX10_split_33 : decode cX10_split 33 = .ok (.ireturn, 1) := by decide +kernel
theorem dX10_split_34 : decode cX10_split 34 = .ok (.aload_n 0, 1) := by decide +kernel
theorem dX10_split_35 : decode cX10_split 35 = .ok (.getfield 18, 3) := by decide +kernel
theorem dX10_split_38 : decode cX10_split 38 = .ok (.iload_n 1, 1) := by decide +kernel
theorem dX10_split_39 : decode cX10_split 39 = .ok (.invokevirtual 138, 3) := by decide +kernel
theorem dX10_split_42 : decode cX10_split 42 = .ok (.ifCond .lt 18, 3) := by decide +kernel
theorem dX10_split_45 : decode cX10_split 45 = .ok (.aload_n 0, 1) := by decide +kernel
theorem dX10_split_46 : decode cX10_split 46 = .ok (.getfield 18, 3) := by decide +kernel
theorem dX10_split_49 : decode cX10_split 49 = .ok (.iload_n 1, 1) := by decide +kernel
theorem dX10_split_50 : decode cX10_split 50 = .ok (.aload_n 0, 1) := by decide +kernel
theorem dX10_split_51 : decode cX10_split 51 = .ok (.getfield 142, 3) := by decide +kernel
theorem dX10_split_54 : decode cX10_split 54 = .ok (.invokevirtual 145, 3) := by decide +kernel
theorem dX10_split_57 : decode cX10_split 57 = .ok (.ifCond .eq 6, 3) := by decide +kernel
theorem dX10_split_60 : decode cX10_split 60 = .ok (.bipush (-3), 2) := by decide +kernel
theorem dX10_split_62 : decode cX10_split 62 = .ok (.ireturn, 1) := by decide +kernel
theorem dX10_split_63 : decode cX10_split 63 = .ok (.aload_n 0, 1) := by decide +kernel
theorem dX10_split_64 : decode cX10_split 64 = .ok (.getfield 18, 3) := by decide +kernel
theorem dX10_split_67 : decode cX10_split 67 = .ok (.getfield 126, 3) := by decide +kernel
theorem dX10_split_70 : decode cX10_split 70 = .ok (.bipush 50, 2) := by decide +kernel
theorem dX10_split_72 : decode cX10_split 72 = .ok (.if_icmp .lt 6, 3) := by decide +kernel
theorem dX10_split_75 : decode cX10_split 75 = .ok (.bipush (-4), 2) := by decide +kernel
theorem dX10_split_77 : decode cX10_split 77 = .ok (.ireturn, 1) := by decide +kernel
theorem dX10_split_78 : decode cX10_split 78 = .ok (.aload_n 0, 1) := by decide +kernel
theorem dX10_split_79 : decode cX10_split 79 = .ok (.getfield 18, 3) := by decide +kernel
theorem dX10_split_82 : decode cX10_split 82 = .ok (.getfield 135, 3) := by decide +kernel
theorem dX10_split_85 : decode cX10_split 85 = .ok (.iload_n 1, 1) := by decide +kernel
theorem dX10_split_86 : decode cX10_split 86 = .ok (.dup2, 1) := by decide +kernel
theorem dX10_split_87 : decode cX10_split 87 = .ok (.iaload, 1) := by decide +kernel
theorem dX10_split_88 : decode cX10_split 88 = .ok (.iload_n 2, 1) := by decide +kernel
theorem dX10_split_89 : decode cX10_split 89 = .ok (.isub, 1) := by decide +kernel
theorem dX10_split_90 : decode cX10_split 90 = .ok (.iastore, 1) := by decide +kernel
theorem dX10_split_91 : decode cX10_split 91 = .ok (.aload_n 0, 1) := by decide +kernel
theorem dX10_split_92 : decode cX10_split 92 = .ok (.getfield 18, 3) := by decide +kernel
theorem dX10_split_95 : decode cX10_split 95 = .ok (.getfield 148, 3) := by decide +kernel
theorem dX10_split_98 : decode cX10_split 98 = .ok (.iload_n 1, 1) := by decide +kernel
theorem dX10_split_99 : decode cX10_split 99 = .ok (.iaload, 1) := by decide +kernel
theorem dX10_split_100 : decode cX10_split 100 = .ok (.iconst 1, 1) := by decide +kernel
theorem dX10_split_101 : decode cX10_split 101 = .ok (.if_icmp .ne 7, 3) := by decide +kernel
theorem dX10_split_104 : decode cX10_split 104 = .ok (.iconst 4, 1) := by decide +kernel
theorem dX10_split_105 : decode cX10_split 105 = .ok (.goto 12, 3) := by decide +kernel
theorem dX10_split_108 : decode cX10_split 108 = .ok (.aload_n 0, 1) := by decide +kernel
theorem dX10_split_109 : decode cX10_split 109 = .ok (.getfield 18, 3) := by decide +kernel
theorem dX10_split_112 : decode cX10_split 112 = .ok (.getfield 148, 3) := by decide +kernel
theorem dX10_split_115 : decode cX10_split 115 = .ok (.iload_n 1, 1) := by decide +kernel
theorem dX10_split_116 : decode cX10_split 116 = .ok (.iaload, 1) := by decide +kernel
theorem dX10_split_117 : decode cX10_split 117 = .ok (.istore_n 3, 1) := by decide +kernel
theorem dX10_split_118 : decode cX10_split 118 = .ok (.aload_n 0, 1) := by decide +kernel
theorem dX10_split_119 : decode cX10_split 119 = .ok (.getfield 18, 3) := by decide +kernel
theorem dX10_split_122 : decode cX10_split 122 = .ok (.iload_n 3, 1) := by decide +kernel
theorem dX10_split_123 : decode cX10_split 123 = .ok (.aload_n 0, 1) := by decide +kernel
theorem dX10_split_124 : decode cX10_split 124 = .ok (.getfield 18, 3) := by decide +kernel
theorem dX10_split_127 : decode cX10_split 127 = .ok (.getfield 151, 3) := by decide +kernel
theorem dX10_split_130 : decode cX10_split 130 = .ok (.iload_n 1, 1) := by decide +kernel
theorem dX10_split_131 : decode cX10_split 131 = .ok (.iaload, 1) := by decide +kernel
theorem dX10_split_132 : decode cX10_split 132 = .ok (.iload_n 2, 1) := by decide +kernel
theorem dX10_split_133 : decode cX10_split 133 = .ok (.invokevirtual 129, 3) := by decide +kernel
theorem dX10_split_136 : decode cX10_split 136 = .ok (.ireturn, 1) := by decide +kernel
theorem dX10_join_0 : decode cX10_join 0 = .ok (.aload_n 0, 1) := by decide +kernel
theorem dX10_join_1 : decode cX10_join 1 = .ok (.getfield 18, 3) := by decide +kernel
theorem dX10_join_4 : decode cX10_join 4 = .ok (.iload_n 1, 1) := by decide +kernel
theorem dX10_join_5 : decode cX10_join 5 = .ok (.invokevirtual 133, 3) := by decide +kernel
theorem dX10_join_8 : decode cX10_join 8 = .ok (.ifCond .eq 14, 3) := by decide +kernel
theorem dX10_join_11 : decode cX10_join 11 = .ok (.aload_n 0, 1) := by decide +kernel
theorem dX10_join_12 : decode cX10_join 12 = .ok (.getfield 18, 3) := by decide +kernel
theorem dX10_join_15 : decode cX10_join 15 = .ok (.iload_n 2, 1) := by decide +kernel
theorem dX10_join_16 : decode cX10_join 16 = .ok (.invokevirtual 133, 3) := by decide +kernel
theorem dX10_join_19 : decode cX10_join 19 = .ok (.ifCond .ne 5, 3) := by decide +kernel
theorem dX10_join_22 : decode cX10_join 22 = .ok (.iconst (-1), 1) := by decide +kernel
theorem dX10_join_23 : decode cX10_join 23 = .ok (.ireturn, 1) := by decide +kernel
theorem dX10_join_24 : decode cX10_join 24 = .ok (.iload_n 1, 1) := by decide +kernel
theorem dX10_join_25 : decode cX10_join 25 = .ok (.iload_n 2, 1) := by decide +kernel
theorem dX10_join_26 : decode cX10_join 26 = .ok (.if_icmp .ne 6, 3) := by decide +kernel
theorem dX10_join_29 : decode cX10_join 29 = .ok (.bipush (-2), 2) := by decide +kernel
theorem dX10_join_31 : decode cX10_join 31 = .ok (.ireturn, 1) := by decide +kernel
theorem dX10_join_32 : decode cX10_join 32 = .ok (.aload_n 0, 1) := by decide +kernel
theorem dX10_join_33 : decode cX10_join 33 = .ok (.getfield 18, 3) := by decide +kernel
theorem dX10_join_36 : decode cX10_join 36 = .ok (.iload_n 1, 1) := by decide +kernel
theorem dX10_join_37 : decode cX10_join 37 = .ok (.iload_n 2, 1) := by decide +kernel
theorem dX10_join_38 : decode cX10_join 38 = .ok (.aload_n 0, 1) := by decide +kernel
theorem dX10_join_39 : decode cX10_join 39 = .ok (.getfield 142, 3) := by decide +kernel
theorem dX10_join_42 : decode cX10_join 42 = .ok (.invokevirtual 154, 3) := by decide +kernel
theorem dX10_join_45 : decode cX10_join 45 = .ok (.ifCond .ne 6, 3) := by decide +kernel
theorem dX10_join_48 : decode cX10_join 48 = .ok (.bipush (-3), 2) := by decide +kernel
theorem dX10_join_50 : decode cX10_join 50 = .ok (.ireturn, 1) := by decide +kernel
theorem dX10_join_51 : decode cX10_join 51 = .ok (.aload_n 0, 1) := by decide +kernel
theorem dX10_join_52 : decode cX10_join 52 = .ok (.getfield 18, 3) := by decide +kernel
theorem dX10_join_55 : decode cX10_join 55 = .ok (.getfield 135, 3) := by decide +kernel
theorem dX10_join_58 : decode cX10_join 58 = .ok (.iload_n 2, 1) := by decide +kernel
theorem dX10_join_59 : decode cX10_join 59 = .ok (.dup2, 1) := by decide +kernel
theorem dX10_join_60 : decode cX10_join 60 = .ok (.iaload, 1) := by decide +kernel
theorem dX10_join_61 : decode cX10_join 61 = .ok (.aload_n 0, 1) := by decide +kernel
theorem dX10_join_62 : decode cX10_join 62 = .ok (.getfield 18, 3) := by decide +kernel
theorem dX10_join_65 : decode cX10_join 65 = .ok (.getfield 135, 3) := by decide +kernel
theorem dX10_join_68 : decode cX10_join 68 = .ok (.iload_n 1, 1) := by decide +kernel
theorem dX10_join_69 : decode cX10_join 69 = .ok (.iaload, 1) := by decide +kernel
theorem dX10_join_70 : decode cX10_join 70 = .ok (.iadd, 1) := by decide +kernel
theorem dX10_join_71 : decode cX10_join 71 = .ok (.iastore, 1) := by decide +kernel
theorem dX10_join_72 : decode cX10_join 72 = .ok (.aload_n 0, 1) := by decide +kernel
theorem dX10_join_73 : decode cX10_join 73 = .ok (.getfield 18, 3) := by decide +kernel
theorem dX10_join_76 : decode cX10_join 76 = .ok (.getfield 135, 3) := by decide +kernel
theorem dX10_join_79 : decode cX10_join 79 = .ok (.iload_n 1, 1) := by decide +kernel
theorem dX10_join_80 : decode cX10_join 80 = .ok (.iconst 0, 1) := by decide +kernel
theorem dX10_join_81 : decode cX10_join 81 = .ok (.iastore, 1) := by decide +kernel
theorem dX10_join_82 : decode cX10_join 82 = .ok (.aload_n 0, 1) := by decide +kernel
theorem dX10_join_83 : decode cX10_join 83 = .ok (.getfield 18, 3) := by decide +kernel
theorem dX10_join_86 : decode cX10_join 86 = .ok (.getfield 135, 3) := by decide +kernel
theorem dX10_join_89 : decode cX10_join 89 = .ok (.iload_n 2, 1) := by decide +kernel
theorem dX10_join_90 : decode cX10_join 90 = .ok (.iaload, 1) := by decide +kernel
theorem dX10_join_91 : decode cX10_join 91 = .ok (.ireturn, 1) := by decide +kernel
theorem dX10_lend_0 : decode cX10_lend 0 = .ok (.aload_n 0, 1) := by decide +kernel
theorem dX10_lend_1 : decode cX10_lend 1 = .ok (.getfield 18, 3) := by decide +kernel
theorem dX10_lend_4 : decode cX10_lend 4 = .ok (.iload_n 1, 1) := by decide +kernel
theorem dX10_lend_5 : decode cX10_lend 5 = .ok (.invokevirtual 133, 3) := by decide +kernel
theorem dX10_lend_8 : decode cX10_lend 8 = .ok (.ifCond .eq 11, 3) := by decide +kernel
theorem dX10_lend_11 : decode cX10_lend 11 = .ok (.aload_n 0, 1) := by decide +kernel
theorem dX10_lend_12 : decode cX10_lend 12 = .ok (.iload_n 2, 1) := by decide +kernel
theorem dX10_lend_13 : decode cX10_lend 13 = .ok (.invokevirtual 91, 3) := by decide +kernel
theorem dX10_lend_16 : decode cX10_lend 16 = .ok (.ifCond .ne 5, 3) := by decide +kernel
theorem dX10_lend_19 : decode cX10_lend 19 = .ok (.iconst (-1), 1) := by decide +kernel
theorem dX10_lend_20 : decode cX10_lend 20 = .ok (.ireturn, 1) := by decide +kernel
theorem dX10_lend_21 : decode cX10_lend 21 = .ok (.iload_n 3, 1) := by decide +kernel
theorem dX10_lend_22 : decode cX10_lend 22 = .ok (.aload_n 0, 1) := by decide +kernel
theorem dX10_lend_23 : decode cX10_lend 23 = .ok (.getfield 142, 3) := by decide +kernel
theorem dX10_lend_26 : decode cX10_lend 26 = .ok (.if_icmp .le 10, 3) := by decide +kernel
theorem dX10_lend_29 : decode cX10_lend 29 = .ok (.iload_n 3, 1) := by decide +kernel
theorem dX10_lend_30 : decode cX10_lend 30 = .ok (.sipush 7199, 3) := by decide +kernel
theorem dX10_lend_33 : decode cX10_lend 33 = .ok (.if_icmp .le 6, 3) := by decide +kernel
theorem dX10_lend_36 : decode cX10_lend 36 = .ok (.bipush (-2), 2) := by decide +kernel
theorem dX10_lend_38 : decode cX10_lend 38 = .ok (.ireturn, 1) := by decide +kernel
theorem dX10_lend_39 : decode cX10_lend 39 = .ok (.aload_n 0, 1) := by decide +kernel
theorem dX10_lend_40 : decode cX10_lend 40 = .ok (.getfield 18, 3) := by decide +kernel
theorem dX10_lend_43 : decode cX10_lend 43 = .ok (.iload_n 1, 1) := by decide +kernel
theorem dX10_lend_44 : decode cX10_lend 44 = .ok (.aload_n 0, 1) := by decide +kernel
theorem dX10_lend_45 : decode cX10_lend 45 = .ok (.getfield 142, 3) := by decide +kernel
theorem dX10_lend_48 : decode cX10_lend 48 = .ok (.invokevirtual 145, 3) := by decide +kernel
theorem dX10_lend_51 : decode cX10_lend 51 = .ok (.ifCond .ne 29, 3) := by decide +kernel
theorem dX10_lend_54 : decode cX10_lend 54 = .ok (.aload_n 0, 1) := by decide +kernel
theorem dX10_lend_55 : decode cX10_lend 55 = .ok (.getfield 18, 3) := by decide +kernel
theorem dX10_lend_58 : decode cX10_lend 58 = .ok (.getfield 151, 3) := by decide +kernel
theorem dX10_lend_61 : decode cX10_lend 61 = .ok (.iload_n 1, 1) := by decide +kernel
theorem dX10_lend_62 : decode cX10_lend 62 = .ok (.iaload, 1) := by decide +kernel
theorem dX10_lend_63 : decode cX10_lend 63 = .ok (.iload_n 2, 1) := by decide +kernel
theorem dX10_lend_64 : decode cX10_lend 64 = .ok (.if_icmp .eq 16, 3) := by decide +kernel
theorem dX10_lend_67 : decode cX10_lend 67 = .ok (.aload_n 0, 1) := by decide +kernel
theorem dX10_lend_68 : decode cX10_lend 68 = .ok (.getfield 18, 3) := by decide +kernel
theorem dX10_lend_71 : decode cX10_lend 71 = .ok (.getfield 148, 3) := by decide +kernel
theorem dX10_lend_74 : decode cX10_lend 74 = .ok (.iload_n 1, 1) := by decide +kernel
theorem dX10_lend_75 : decode cX10_lend 75 = .ok (.iaload, 1) := by decide +kernel
theorem dX10_lend_76 : decode cX10_lend 76 = .ok (.iconst 5, 1) := by decide +kernel
theorem dX10_lend_77 : decode cX10_lend 77 = .ok (.if_icmp .ne 6, 3) := by decide +kernel
theorem dX10_lend_80 : decode cX10_lend 80 = .ok (.bipush (-3), 2) := by decide +kernel
theorem dX10_lend_82 : decode cX10_lend 82 = .ok (.ireturn, 1) := by decide +kernel
theorem dX10_lend_83 : decode cX10_lend 83 = .ok (.aload_n 0, 1) := by decide +kernel
theorem dX10_lend_84 : decode cX10_lend 84 = .ok (.getfield 18, 3) := by decide +kernel
theorem dX10_lend_87 : decode cX10_lend 87 = .ok (.getfield 158, 3) := by decide +kernel
theorem dX10_lend_90 : decode cX10_lend 90 = .ok (.iload_n 1, 1) := by decide +kernel
theorem dX10_lend_91 : decode cX10_lend 91 = .ok (.iload_n 2, 1) := by decide +kernel
theorem dX10_lend_92 : decode cX10_lend 92 = .ok (.iastore, 1) := by decide +kernel
theorem dX10_lend_93 : decode cX10_lend 93 = .ok (.aload_n 0, 1) := by decide +kernel
theorem dX10_lend_94 : decode cX10_lend 94 = .ok (.getfield 18, 3) := by decide +kernel
theorem dX10_lend_97 : decode cX10_lend 97 = .ok (.getfield 161, 3) := by decide +kernel
theorem dX10_lend_100 : decode cX10_lend 100 = .ok (.iload_n 1, 1) := by decide +kernel
theorem dX10_lend_101 : decode cX10_lend 101 = .ok (.iload_n 3, 1) := by decide +kernel
theorem dX10_lend_102 : decode cX10_lend 102 = .ok (.iastore, 1) := by decide +kernel
theorem dX10_lend_103 : decode cX10_lend 103 = .ok (.iconst 1, 1) := by decide +kernel
theorem dX10_lend_104 : decode cX10_lend 104 = .ok (.ireturn, 1) := by decide +kernel
theorem dX10_leave_0 : decode cX10_leave 0 = .ok (.aload_n 0, 1) := by decide +kernel
theorem dX10_leave_1 : decode cX10_leave 1 = .ok (.getfield 18, 3) := by decide +kernel
theorem dX10_leave_4 : decode cX10_leave 4 = .ok (.iload_n 1, 1) := by decide +kernel
theorem dX10_leave_5 : decode cX10_leave 5 = .ok (.invokevirtual 133, 3) := by decide +kernel
theorem dX10_leave_8 : decode cX10_leave 8 = .ok (.ifCond .eq 11, 3) := by decide +kernel
theorem dX10_leave_11 : decode cX10_leave 11 = .ok (.aload_n 0, 1) := by decide +kernel
theorem dX10_leave_12 : decode cX10_leave 12 = .ok (.iload_n 2, 1) := by decide +kernel
theorem dX10_leave_13 : decode cX10_leave 13 = .ok (.invokevirtual 91, 3) := by decide +kernel
theorem dX10_leave_16 : decode cX10_leave 16 = .ok (.ifCond .ne 5, 3) := by decide +kernel
theorem dX10_leave_19 : decode cX10_leave 19 = .ok (.iconst (-1), 1) := by decide +kernel
theorem dX10_leave_20 : decode cX10_leave 20 = .ok (.ireturn, 1) := by decide +kernel
theorem dX10_leave_21 : decode cX10_leave 21 = .ok (.aload_n 0, 1) := by decide +kernel
theorem dX10_leave_22 : decode cX10_leave 22 = .ok (.getfield 18, 3) := by decide +kernel
theorem dX10_leave_25 : decode cX10_leave 25 = .ok (.getfield 148, 3) := by decide +kernel
theorem dX10_leave_28 : decode cX10_leave 28 = .ok (.iload_n 1, 1) := by decide +kernel
theorem dX10_leave_29 : decode cX10_leave 29 = .ok (.iaload, 1) := by decide +kernel
theorem dX10_leave_30 : decode cX10_leave 30 = .ok (.iconst 5, 1) := by decide +kernel
theorem dX10_leave_31 : decode cX10_leave 31 = .ok (.if_icmp .ne 6, 3) := by decide +kernel
theorem dX10_leave_34 : decode cX10_leave 34 = .ok (.bipush (-3), 2) := by decide +kernel
theorem dX10_leave_36 : decode cX10_leave 36 = .ok (.ireturn, 1) := by decide +kernel
theorem dX10_leave_37 : decode cX10_leave 37 = .ok (.aload_n 0, 1) := by decide +kernel
theorem dX10_leave_38 : decode cX10_leave 38 = .ok (.getfield 18, 3) := by decide +kernel
theorem dX10_leave_41 : decode cX10_leave 41 = .ok (.getfield 151, 3) := by decide +kernel
theorem dX10_leave_44 : decode cX10_leave 44 = .ok (.iload_n 1, 1) := by decide +kernel
theorem dX10_leave_45 : decode cX10_leave 45 = .ok (.iaload, 1) := by decide +kernel
theorem dX10_leave_46 : decode cX10_leave 46 = .ok (.istore_n 3, 1) := by decide +kernel
theorem dX10_leave_47 : decode cX10_leave 47 = .ok (.aload_n 0, 1) := by decide +kernel
theorem dX10_leave_48 : decode cX10_leave 48 = .ok (.getfield 18, 3) := by decide +kernel
theorem dX10_leave_51 : decode cX10_leave 51 = .ok (.getfield 151, 3) := by decide +kernel
theorem dX10_leave_54 : decode cX10_leave 54 = .ok (.iload_n 1, 1) := by decide +kernel
theorem dX10_leave_55 : decode cX10_leave 55 = .ok (.iload_n 2, 1) := by decide +kernel
theorem dX10_leave_56 : decode cX10_leave 56 = .ok (.iastore, 1) := by decide +kernel
theorem dX10_leave_57 : decode cX10_leave 57 = .ok (.iload_n 3, 1) := by decide +kernel
theorem dX10_leave_58 : decode cX10_leave 58 = .ok (.ireturn, 1) := by decide +kernel
theorem dX10_rightOf_0 : decode cX10_rightOf 0 = .ok (.aload_n 0, 1) := by decide +kernel
theorem dX10_rightOf_1 : decode cX10_rightOf 1 = .ok (.getfield 18, 3) := by decide +kernel
theorem dX10_rightOf_4 : decode cX10_rightOf 4 = .ok (.iload_n 1, 1) := by decide +kernel
theorem dX10_rightOf_5 : decode cX10_rightOf 5 = .ok (.invokevirtual 133, 3) := by decide +kernel
theorem dX10_rightOf_8 : decode cX10_rightOf 8 = .ok (.ifCond .ne 6, 3) := by decide +kernel
theorem dX10_rightOf_11 : decode cX10_rightOf 11 = .ok (.bipush (-5), 2) := by decide +kernel
theorem dX10_rightOf_13 : decode cX10_rightOf 13 = .ok (.ireturn, 1) := by decide +kernel
theorem dX10_rightOf_14 : decode cX10_rightOf 14 = .ok (.iload_n 2, 1) := by decide +kernel
theorem dX10_rightOf_15 : decode cX10_rightOf 15 = .ok (.tableswitch 118 0 5 #[37, 47, 57, 67, 80, 89], 37) := by decide +kernel
theorem dX10_rightOf_52 : decode cX10_rightOf 52 = .ok (.aload_n 0, 1) := by decide +kernel
theorem dX10_rightOf_53 : decode cX10_rightOf 53 = .ok (.getfield 18, 3) := by decide +kernel
theorem dX10_rightOf_56 : decode cX10_rightOf 56 = .ok (.getfield 148, 3) := by decide +kernel
theorem dX10_rightOf_59 : decode cX10_rightOf 59 = .ok (.iload_n 1, 1) := by decide +kernel
theorem dX10_rightOf_60 : decode cX10_rightOf 60 = .ok (.iaload, 1) := by decide +kernel
theorem dX10_rightOf_61 : decode cX10_rightOf 61 = .ok (.ireturn, 1) := by decide +kernel
theorem dX10_rightOf_62 : decode cX10_rightOf 62 = .ok (.aload_n 0, 1) := by decide +kernel
theorem dX10_rightOf_63 : decode cX10_rightOf 63 = .ok (.getfield 18, 3) := by decide +kernel
theorem dX10_rightOf_66 : decode cX10_rightOf 66 = .ok (.getfield 151, 3) := by decide +kernel
theorem dX10_rightOf_69 : decode cX10_rightOf 69 = .ok (.iload_n 1, 1) := by decide +kernel
theorem dX10_rightOf_70 : decode cX10_rightOf 70 = .ok (.iaload, 1) := by decide +kernel
theorem dX10_rightOf_71 : decode cX10_rightOf 71 = .ok (.ireturn, 1) := by decide +kernel
theorem dX10_rightOf_72 : decode cX10_rightOf 72 = .ok (.aload_n 0, 1) := by decide +kernel
theorem dX10_rightOf_73 : decode cX10_rightOf 73 = .ok (.getfield 18, 3) := by decide +kernel
theorem dX10_rightOf_76 : decode cX10_rightOf 76 = .ok (.getfield 135, 3) := by decide +kernel
theorem dX10_rightOf_79 : decode cX10_rightOf 79 = .ok (.iload_n 1, 1) := by decide +kernel
theorem dX10_rightOf_80 : decode cX10_rightOf 80 = .ok (.iaload, 1) := by decide +kernel
theorem dX10_rightOf_81 : decode cX10_rightOf 81 = .ok (.ireturn, 1) := by decide +kernel
theorem dX10_rightOf_82 : decode cX10_rightOf 82 = .ok (.aload_n 0, 1) := by decide +kernel
theorem dX10_rightOf_83 : decode cX10_rightOf 83 = .ok (.getfield 18, 3) := by decide +kernel
theorem dX10_rightOf_86 : decode cX10_rightOf 86 = .ok (.iload_n 1, 1) := by decide +kernel
theorem dX10_rightOf_87 : decode cX10_rightOf 87 = .ok (.aload_n 0, 1) := by decide +kernel
theorem dX10_rightOf_88 : decode cX10_rightOf 88 = .ok (.getfield 142, 3) := by decide +kernel
theorem dX10_rightOf_91 : decode cX10_rightOf 91 = .ok (.invokevirtual 164, 3) := by decide +kernel
theorem dX10_rightOf_94 : decode cX10_rightOf 94 = .ok (.ireturn, 1) := by decide +kernel
theorem dX10_rightOf_95 : decode cX10_rightOf 95 = .ok (.aload_n 0, 1) := by decide +kernel
theorem dX10_rightOf_96 : decode cX10_rightOf 96 = .ok (.getfield 18, 3) := by decide +kernel
theorem dX10_rightOf_99 : decode cX10_rightOf 99 = .ok (.iload_n 1, 1) := by decide +kernel
theorem dX10_rightOf_100 : decode cX10_rightOf 100 = .ok (.invokevirtual 138, 3) := by decide +kernel
theorem dX10_rightOf_103 : decode cX10_rightOf 103 = .ok (.ireturn, 1) := by decide +kernel
theorem dX10_rightOf_104 : decode cX10_rightOf 104 = .ok (.aload_n 0, 1) := by decide +kernel
theorem dX10_rightOf_105 : decode cX10_rightOf 105 = .ok (.getfield 18, 3) := by decide +kernel
theorem dX10_rightOf_108 : decode cX10_rightOf 108 = .ok (.iload_n 1, 1) := by decide +kernel
theorem dX10_rightOf_109 : decode cX10_rightOf 109 = .ok (.aload_n 0, 1) := by decide +kernel
theorem dX10_rightOf_110 : decode cX10_rightOf 110 = .ok (.getfield 142, 3) := by decide +kernel
theorem dX10_rightOf_113 : decode cX10_rightOf 113 = .ok (.invokevirtual 145, 3) := by decide +kernel
theorem dX10_rightOf_116 : decode cX10_rightOf 116 = .ok (.ifCond .eq 15, 3) := by decide +kernel
theorem dX10_rightOf_119 : decode cX10_rightOf 119 = .ok (.aload_n 0, 1) := by decide +kernel
theorem dX10_rightOf_120 : decode cX10_rightOf 120 = .ok (.getfield 18, 3) := by decide +kernel
theorem dX10_rightOf_123 : decode cX10_rightOf 123 = .ok (.getfield 161, 3) := by decide +kernel
theorem dX10_rightOf_126 : decode cX10_rightOf 126 = .ok (.iload_n 1, 1) := by decide +kernel
theorem dX10_rightOf_127 : decode cX10_rightOf 127 = .ok (.iaload, 1) := by decide +kernel
theorem dX10_rightOf_128 : decode cX10_rightOf 128 = .ok (.goto 4, 3) := by decide +kernel
theorem dX10_rightOf_131 : decode cX10_rightOf 131 = .ok (.iconst (-1), 1) := by decide +kernel
theorem dX10_rightOf_132 : decode cX10_rightOf 132 = .ok (.ireturn, 1) := by decide +kernel
theorem dX10_rightOf_133 : decode cX10_rightOf 133 = .ok (.bipush (-5), 2) := by decide +kernel
theorem dX10_rightOf_135 : decode cX10_rightOf 135 = .ok (.ireturn, 1) := by decide +kernel
theorem dX10_parts_0 : decode cX10_parts 0 = .ok (.iload_n 2, 1) := by decide +kernel
theorem dX10_parts_1 : decode cX10_parts 1 = .ok (.ifCond .lt 8, 3) := by decide +kernel
theorem dX10_parts_4 : decode cX10_parts 4 = .ok (.iload_n 2, 1) := by decide +kernel
theorem dX10_parts_5 : decode cX10_parts 5 = .ok (.iconst 3, 1) := by decide +kernel
theorem dX10_parts_6 : decode cX10_parts 6 = .ok (.if_icmp .lt 5, 3) := by decide +kernel
theorem dX10_parts_9 : decode cX10_parts 9 = .ok (.iconst (-1), 1) := by decide +kernel
theorem dX10_parts_10 : decode cX10_parts 10 = .ok (.ireturn, 1) := by decide +kernel
theorem dX10_parts_11 : decode cX10_parts 11 = .ok (.iload_n 1, 1) := by decide +kernel
theorem dX10_parts_12 : decode cX10_parts 12 = .ok (.iconst (-1), 1) := by decide +kernel
theorem dX10_parts_13 : decode cX10_parts 13 = .ok (.if_icmp .ne 12, 3) := by decide +kernel
theorem dX10_parts_16 : decode cX10_parts 16 = .ok (.aload_n 0, 1) := by decide +kernel
theorem dX10_parts_17 : decode cX10_parts 17 = .ok (.getfield 18, 3) := by decide +kernel
theorem dX10_parts_20 : decode cX10_parts 20 = .ok (.iload_n 2, 1) := by decide +kernel
theorem dX10_parts_21 : decode cX10_parts 21 = .ok (.invokevirtual 168, 3) := by decide +kernel
theorem dX10_parts_24 : decode cX10_parts 24 = .ok (.ireturn, 1) := by decide +kernel
theorem dX10_parts_25 : decode cX10_parts 25 = .ok (.aload_n 0, 1) := by decide +kernel
theorem dX10_parts_26 : decode cX10_parts 26 = .ok (.iload_n 1, 1) := by decide +kernel
theorem dX10_parts_27 : decode cX10_parts 27 = .ok (.invokevirtual 91, 3) := by decide +kernel
theorem dX10_parts_30 : decode cX10_parts 30 = .ok (.ifCond .ne 5, 3) := by decide +kernel
theorem dX10_parts_33 : decode cX10_parts 33 = .ok (.iconst (-1), 1) := by decide +kernel
theorem dX10_parts_34 : decode cX10_parts 34 = .ok (.ireturn, 1) := by decide +kernel
theorem dX10_parts_35 : decode cX10_parts 35 = .ok (.aload_n 0, 1) := by decide +kernel
theorem dX10_parts_36 : decode cX10_parts 36 = .ok (.getfield 18, 3) := by decide +kernel
theorem dX10_parts_39 : decode cX10_parts 39 = .ok (.iload_n 1, 1) := by decide +kernel
theorem dX10_parts_40 : decode cX10_parts 40 = .ok (.iload_n 2, 1) := by decide +kernel
theorem dX10_parts_41 : decode cX10_parts 41 = .ok (.aload_n 0, 1) := by decide +kernel
theorem dX10_parts_42 : decode cX10_parts 42 = .ok (.getfield 142, 3) := by decide +kernel
theorem dX10_parts_45 : decode cX10_parts 45 = .ok (.invokevirtual 171, 3) := by decide +kernel
theorem dX10_parts_48 : decode cX10_parts 48 = .ok (.ireturn, 1) := by decide +kernel
theorem dX10_isHouse_0 : decode cX10_isHouse 0 = .ok (.iload_n 1, 1) := by decide +kernel
theorem dX10_isHouse_1 : decode cX10_isHouse 1 = .ok (.ifCond .lt 15, 3) := by decide +kernel
theorem dX10_isHouse_4 : decode cX10_isHouse 4 = .ok (.iload_n 1, 1) := by decide +kernel
theorem dX10_isHouse_5 : decode cX10_isHouse 5 = .ok (.aload_n 0, 1) := by decide +kernel
theorem dX10_isHouse_6 : decode cX10_isHouse 6 = .ok (.getfield 85, 3) := by decide +kernel
theorem dX10_isHouse_9 : decode cX10_isHouse 9 = .ok (.if_icmp .ge 7, 3) := by decide +kernel
theorem dX10_isHouse_12 : decode cX10_isHouse 12 = .ok (.iconst 1, 1) := by decide +kernel
theorem dX10_isHouse_13 : decode cX10_isHouse 13 = .ok (.goto 4, 3) := by decide +kernel
theorem dX10_isHouse_16 : decode cX10_isHouse 16 = .ok (.iconst 0, 1) := by decide +kernel
theorem dX10_isHouse_17 : decode cX10_isHouse 17 = .ok (.ireturn, 1) := by decide +kernel
theorem dX10_areHouses_0 : decode cX10_areHouses 0 = .ok (.iload_n 1, 1) := by decide +kernel
theorem dX10_areHouses_1 : decode cX10_areHouses 1 = .ok (.aload_n 0, 1) := by decide +kernel
theorem dX10_areHouses_2 : decode cX10_areHouses 2 = .ok (.getfield 85, 3) := by decide +kernel
theorem dX10_areHouses_5 : decode cX10_areHouses 5 = .ok (.iushr, 1) := by decide +kernel
theorem dX10_areHouses_6 : decode cX10_areHouses 6 = .ok (.ifCond .ne 7, 3) := by decide +kernel
theorem dX10_areHouses_9 : decode cX10_areHouses 9 = .ok (.iconst 1, 1) := by decide +kernel
theorem dX10_areHouses_10 : decode cX10_areHouses 10 = .ok (.goto 4, 3) := by decide +kernel
theorem dX10_areHouses_13 : decode cX10_areHouses 13 = .ok (.iconst 0, 1) := by decide +kernel
theorem dX10_areHouses_14 : decode cX10_areHouses 14 = .ok (.ireturn, 1) := by decide +kernel
theorem dX10_feed_0 : decode cX10_feed 0 = .ok (.iload_n 2, 1) := by decide +kernel
theorem dX10_feed_1 : decode cX10_feed 1 = .ok (.ifCond .lt 8, 3) := by decide +kernel
theorem dX10_feed_4 : decode cX10_feed 4 = .ok (.iload_n 2, 1) := by decide +kernel
theorem dX10_feed_5 : decode cX10_feed 5 = .ok (.iconst 4, 1) := by decide +kernel
theorem dX10_feed_6 : decode cX10_feed 6 = .ok (.if_icmp .le 6, 3) := by decide +kernel
theorem dX10_feed_9 : decode cX10_feed 9 = .ok (.bipush (-2), 2) := by decide +kernel
theorem dX10_feed_11 : decode cX10_feed 11 = .ok (.ireturn, 1) := by decide +kernel
theorem dX10_feed_12 : decode cX10_feed 12 = .ok (.aload_n 0, 1) := by decide +kernel
theorem dX10_feed_13 : decode cX10_feed 13 = .ok (.getfield 25, 3) := by decide +kernel
theorem dX10_feed_16 : decode cX10_feed 16 = .ok (.getfield 174, 3) := by decide +kernel
theorem dX10_feed_19 : decode cX10_feed 19 = .ok (.iload_n 2, 1) := by decide +kernel
theorem dX10_feed_20 : decode cX10_feed 20 = .ok (.iadd, 1) := by decide +kernel
theorem dX10_feed_21 : decode cX10_feed 21 = .ok (.bipush 100, 2) := by decide +kernel
theorem dX10_feed_23 : decode cX10_feed 23 = .ok (.if_icmp .le 6, 3) := by decide +kernel
theorem dX10_feed_26 : decode cX10_feed 26 = .ok (.bipush (-4), 2) := by decide +kernel
theorem dX10_feed_28 : decode cX10_feed 28 = .ok (.ireturn, 1) := by decide +kernel
theorem dX10_feed_29 : decode cX10_feed 29 = .ok (.iload_n 2, 1) := by decide +kernel
theorem dX10_feed_30 : decode cX10_feed 30 = .ok (.iconst 1, 1) := by decide +kernel
theorem dX10_feed_31 : decode cX10_feed 31 = .ok (.isub, 1) := by decide +kernel
theorem dX10_feed_32 : decode cX10_feed 32 = .ok (.istore_n 3, 1) := by decide +kernel
theorem dX10_feed_33 : decode cX10_feed 33 = .ok (.iload_n 3, 1) := by decide +kernel
theorem dX10_feed_34 : decode cX10_feed 34 = .ok (.ifCond .lt 23, 3) := by decide +kernel
theorem dX10_feed_37 : decode cX10_feed 37 = .ok (.aload_n 0, 1) := by decide +kernel
theorem dX10_feed_38 : decode cX10_feed 38 = .ok (.getfield 25, 3) := by decide +kernel
theorem dX10_feed_41 : decode cX10_feed 41 = .ok (.iload_n 1, 1) := by decide +kernel
theorem dX10_feed_42 : decode cX10_feed 42 = .ok (.bipush 8, 2) := by decide +kernel
theorem dX10_feed_44 : decode cX10_feed 44 = .ok (.iload_n 3, 1) := by decide +kernel
theorem dX10_feed_45 : decode cX10_feed 45 = .ok (.imul, 1) := by decide +kernel
theorem dX10_feed_46 : decode cX10_feed 46 = .ok (.ishr, 1) := by decide +kernel
theorem dX10_feed_47 : decode cX10_feed 47 = .ok (.i2b, 1) := by decide +kernel
theorem dX10_feed_48 : decode cX10_feed 48 = .ok (.invokevirtual 177, 3) := by decide +kernel
theorem dX10_feed_51 : decode cX10_feed 51 = .ok (.iinc 3 (-1), 3) := by decide +kernel
theorem dX10_feed_54 : decode cX10_feed 54 = .ok (.goto (-21), 3) := by decide +kernel
theorem dX10_feed_57 : decode cX10_feed 57 = .ok (.aload_n 0, 1) := by decide +kernel
theorem dX10_feed_58 : decode cX10_feed 58 = .ok (.getfield 25, 3) := by decide +kernel
theorem dX10_feed_61 : decode cX10_feed 61 = .ok (.getfield 174, 3) := by decide +kernel
theorem dX10_feed_64 : decode cX10_feed 64 = .ok (.ireturn, 1) := by decide +kernel
theorem dX10_vote_0 : decode cX10_vote 0 = .ok (.aload_n 0, 1) := by decide +kernel
theorem dX10_vote_1 : decode cX10_vote 1 = .ok (.iload_n 1, 1) := by decide +kernel
theorem dX10_vote_2 : decode cX10_vote 2 = .ok (.invokevirtual 181, 3) := by decide +kernel
theorem dX10_vote_5 : decode cX10_vote 5 = .ok (.ifCond .eq 11, 3) := by decide +kernel
theorem dX10_vote_8 : decode cX10_vote 8 = .ok (.aload_n 0, 1) := by decide +kernel
theorem dX10_vote_9 : decode cX10_vote 9 = .ok (.iload_n 2, 1) := by decide +kernel
theorem dX10_vote_10 : decode cX10_vote 10 = .ok (.invokevirtual 181, 3) := by decide +kernel
theorem dX10_vote_13 : decode cX10_vote 13 = .ok (.ifCond .ne 6, 3) := by decide +kernel
theorem dX10_vote_16 : decode cX10_vote 16 = .ok (.bipush (-2), 2) := by decide +kernel
theorem dX10_vote_18 : decode cX10_vote 18 = .ok (.ireturn, 1) := by decide +kernel
theorem dX10_vote_19 : decode cX10_vote 19 = .ok (.aload_n 0, 1) := by decide +kernel
theorem dX10_vote_20 : decode cX10_vote 20 = .ok (.getfield 25, 3) := by decide +kernel
theorem dX10_vote_23 : decode cX10_vote 23 = .ok (.getfield 184, 3) := by decide +kernel
theorem dX10_vote_26 : decode cX10_vote 26 = .ok (.bipush 40, 2) := by decide +kernel
theorem dX10_vote_28 : decode cX10_vote 28 = .ok (.if_icmp .lt 6, 3) := by decide +kernel
theorem dX10_vote_31 : decode cX10_vote 31 = .ok (.bipush (-4), 2) := by decide +kernel
theorem dX10_vote_33 : decode cX10_vote 33 = .ok (.ireturn, 1) := by decide +kernel
theorem dX10_vote_34 : decode cX10_vote 34 = .ok (.aload_n 0, 1) := by decide +kernel
theorem dX10_vote_35 : decode cX10_vote 35 = .ok (.getfield 25, 3) := by decide +kernel
theorem dX10_vote_38 : decode cX10_vote 38 = .ok (.invokevirtual 185, 3) := by decide +kernel
theorem dX10_vote_41 : decode cX10_vote 41 = .ok (.istore_n 3, 1) := by decide +kernel
theorem dX10_vote_42 : decode cX10_vote 42 = .ok (.aload_n 0, 1) := by decide +kernel
theorem dX10_vote_43 : decode cX10_vote 43 = .ok (.getfield 25, 3) := by decide +kernel
theorem dX10_vote_46 : decode cX10_vote 46 = .ok (.iconst 0, 1) := by decide +kernel
theorem dX10_vote_47 : decode cX10_vote 47 = .ok (.putfield 174, 3) := by decide +kernel
theorem dX10_vote_50 : decode cX10_vote 50 = .ok (.iload_n 3, 1) := by decide +kernel
theorem dX10_vote_51 : decode cX10_vote 51 = .ok (.ifCond .lt 8, 3) := by decide +kernel
theorem dX10_vote_54 : decode cX10_vote 54 = .ok (.bipush (-10), 2) := by decide +kernel
theorem dX10_vote_56 : decode cX10_vote 56 = .ok (.iload_n 3, 1) := by decide +kernel
theorem dX10_vote_57 : decode cX10_vote 57 = .ok (.isub, 1) := by decide +kernel
theorem dX10_vote_58 : decode cX10_vote 58 = .ok (.ireturn, 1) := by decide +kernel
theorem dX10_vote_59 : decode cX10_vote 59 = .ok (.aload_n 0, 1) := by decide +kernel
theorem dX10_vote_60 : decode cX10_vote 60 = .ok (.iload_n 1, 1) := by decide +kernel
theorem dX10_vote_61 : decode cX10_vote 61 = .ok (.iload_n 2, 1) := by decide +kernel
theorem dX10_vote_62 : decode cX10_vote 62 = .ok (.invokevirtual 188, 3) := by decide +kernel
theorem dX10_vote_65 : decode cX10_vote 65 = .ok (.ifCond .ne 6, 3) := by decide +kernel
theorem dX10_vote_68 : decode cX10_vote 68 = .ok (.bipush (-3), 2) := by decide +kernel
theorem dX10_vote_70 : decode cX10_vote 70 = .ok (.ireturn, 1) := by decide +kernel
theorem dX10_vote_71 : decode cX10_vote 71 = .ok (.aload_n 0, 1) := by decide +kernel
theorem dX10_vote_72 : decode cX10_vote 72 = .ok (.getfield 25, 3) := by decide +kernel
theorem dX10_vote_75 : decode cX10_vote 75 = .ok (.aload_n 0, 1) := by decide +kernel
theorem dX10_vote_76 : decode cX10_vote 76 = .ok (.getfield 142, 3) := by decide +kernel
theorem dX10_vote_79 : decode cX10_vote 79 = .ok (.invokevirtual 191, 3) := by decide +kernel
theorem dX10_vote_82 : decode cX10_vote 82 = .ok (.ireturn, 1) := by decide +kernel
theorem dX10_passes_0 : decode cX10_passes 0 = .ok (.iload_n 1, 1) := by decide +kernel
theorem dX10_passes_1 : decode cX10_passes 1 = .ok (.invokestatic 193, 3) := by decide +kernel
theorem dX10_passes_4 : decode cX10_passes 4 = .ok (.istore_n 3, 1) := by decide +kernel
theorem dX10_passes_5 : decode cX10_passes 5 = .ok (.iload_n 2, 1) := by decide +kernel
theorem dX10_passes_6 : decode cX10_passes 6 = .ok (.invokestatic 193, 3) := by decide +kernel
theorem dX10_passes_9 : decode cX10_passes 9 = .ok (.istore 4, 2) := by decide +kernel
theorem dX10_passes_11 : decode cX10_passes 11 = .ok (.iload_n 3, 1) := by decide +kernel
theorem dX10_passes_12 : decode cX10_passes 12 = .ok (.iload 4, 2) := by decide +kernel
theorem dX10_passes_14 : decode cX10_passes 14 = .ok (.if_icmp .le 26, 3) := by decide +kernel
theorem dX10_passes_17 : decode cX10_passes 17 = .ok (.iconst 2, 1) := by decide +kernel
theorem dX10_passes_18 : decode cX10_passes 18 = .ok (.iload_n 3, 1) := by decide +kernel
theorem dX10_passes_19 : decode cX10_passes 19 = .ok (.iload 4, 2) := by decide +kernel
theorem dX10_passes_21 : decode cX10_passes 21 = .ok (.iadd, 1) := by decide +kernel
theorem dX10_passes_22 : decode cX10_passes 22 = .ok (.imul, 1) := by decide +kernel
theorem dX10_passes_23 : decode cX10_passes 23 = .ok (.aload_n 0, 1) := by decide +kernel
theorem dX10_passes_24 : decode cX10_passes 24 = .ok (.getfield 85, 3) := by decide +kernel
theorem dX10_passes_27 : decode cX10_passes 27 = .ok (.if_icmp .lt 13, 3) := by decide +kernel
theorem dX10_passes_30 : decode cX10_passes 30 = .ok (.iload_n 1, 1) := by decide +kernel
theorem dX10_passes_31 : decode cX10_passes 31 = .ok (.iload_n 2, 1) := by decide +kernel
theorem dX10_passes_32 : decode cX10_passes 32 = .ok (.iand, 1) := by decide +kernel
theorem dX10_passes_33 : decode cX10_passes 33 = .ok (.ifCond .ne 7, 3) := by decide +kernel
theorem dX10_passes_36 : decode cX10_passes 36 = .ok (.iconst 1, 1) := by decide +kernel
theorem dX10_passes_37 : decode cX10_passes 37 = .ok (.goto 4, 3) := by decide +kernel
theorem dX10_passes_40 : decode cX10_passes 40 = .ok (.iconst 0, 1) := by decide +kernel
theorem dX10_passes_41 : decode cX10_passes 41 = .ok (.ireturn, 1) := by decide +kernel
theorem dX10_voids_0 : decode cX10_voids 0 = .ok (.aload_n 0, 1) := by decide +kernel
theorem dX10_voids_1 : decode cX10_voids 1 = .ok (.getfield 25, 3) := by decide +kernel
theorem dX10_voids_4 : decode cX10_voids 4 = .ok (.iload_n 1, 1) := by decide +kernel
theorem dX10_voids_5 : decode cX10_voids 5 = .ok (.invokevirtual 198, 3) := by decide +kernel
theorem dX10_voids_8 : decode cX10_voids 8 = .ok (.ifCond .ne 5, 3) := by decide +kernel
theorem dX10_voids_11 : decode cX10_voids 11 = .ok (.iconst (-1), 1) := by decide +kernel
theorem dX10_voids_12 : decode cX10_voids 12 = .ok (.ireturn, 1) := by decide +kernel
theorem dX10_voids_13 : decode cX10_voids 13 = .ok (.aload_n 0, 1) := by decide +kernel
theorem dX10_voids_14 : decode cX10_voids 14 = .ok (.getfield 25, 3) := by decide +kernel
theorem dX10_voids_17 : decode cX10_voids 17 = .ok (.getfield 199, 3) := by decide +kernel
theorem dX10_voids_20 : decode cX10_voids 20 = .ok (.iload_n 1, 1) := by decide +kernel
theorem dX10_voids_21 : decode cX10_voids 21 = .ok (.aaload, 1) := by decide +kernel
theorem dX10_voids_22 : decode cX10_voids 22 = .ok (.getfield 203, 3) := by decide +kernel
theorem dX10_voids_25 : decode cX10_voids 25 = .ok (.ifCond .eq 6, 3) := by decide +kernel
theorem dX10_voids_28 : decode cX10_voids 28 = .ok (.bipush (-3), 2) := by decide +kernel
theorem dX10_voids_30 : decode cX10_voids 30 = .ok (.ireturn, 1) := by decide +kernel
theorem dX10_voids_31 : decode cX10_voids 31 = .ok (.aload_n 0, 1) := by decide +kernel
theorem dX10_voids_32 : decode cX10_voids 32 = .ok (.getfield 25, 3) := by decide +kernel
theorem dX10_voids_35 : decode cX10_voids 35 = .ok (.getfield 199, 3) := by decide +kernel
theorem dX10_voids_38 : decode cX10_voids 38 = .ok (.iload_n 1, 1) := by decide +kernel
theorem dX10_voids_39 : decode cX10_voids 39 = .ok (.aaload, 1) := by decide +kernel
theorem dX10_voids_40 : decode cX10_voids 40 = .ok (.iconst 1, 1) := by decide +kernel
theorem dX10_voids_41 : decode cX10_voids 41 = .ok (.putfield 203, 3) := by decide +kernel
theorem dX10_voids_44 : decode cX10_voids 44 = .ok (.aload_n 0, 1) := by decide +kernel
theorem dX10_voids_45 : decode cX10_voids 45 = .ok (.getfield 25, 3) := by decide +kernel
theorem dX10_voids_48 : decode cX10_voids 48 = .ok (.getfield 199, 3) := by decide +kernel
theorem dX10_voids_51 : decode cX10_voids 51 = .ok (.iload_n 1, 1) := by decide +kernel
theorem dX10_voids_52 : decode cX10_voids 52 = .ok (.aaload, 1) := by decide +kernel
theorem dX10_voids_53 : decode cX10_voids 53 = .ok (.aload_n 0, 1) := by decide +kernel
theorem dX10_voids_54 : decode cX10_voids 54 = .ok (.getfield 142, 3) := by decide +kernel
theorem dX10_voids_57 : decode cX10_voids 57 = .ok (.putfield 209, 3) := by decide +kernel
theorem dX10_voids_60 : decode cX10_voids 60 = .ok (.iconst 0, 1) := by decide +kernel
theorem dX10_voids_61 : decode cX10_voids 61 = .ok (.istore_n 2, 1) := by decide +kernel
theorem dX10_voids_62 : decode cX10_voids 62 = .ok (.iconst 0, 1) := by decide +kernel
theorem dX10_voids_63 : decode cX10_voids 63 = .ok (.istore_n 3, 1) := by decide +kernel
theorem dX10_voids_64 : decode cX10_voids 64 = .ok (.iload_n 3, 1) := by decide +kernel
theorem dX10_voids_65 : decode cX10_voids 65 = .ok (.aload_n 0, 1) := by decide +kernel
theorem dX10_voids_66 : decode cX10_voids 66 = .ok (.getfield 212, 3) := by decide +kernel
theorem dX10_voids_69 : decode cX10_voids 69 = .ok (.if_icmp .ge 43, 3) := by decide +kernel
theorem dX10_voids_72 : decode cX10_voids 72 = .ok (.iload_n 3, 1) := by decide +kernel
theorem dX10_voids_73 : decode cX10_voids 73 = .ok (.sipush 200, 3) := by decide +kernel
theorem dX10_voids_76 : decode cX10_voids 76 = .ok (.if_icmp .ge 36, 3) := by decide +kernel
theorem dX10_voids_79 : decode cX10_voids 79 = .ok (.aload_n 0, 1) := by decide +kernel
theorem dX10_voids_80 : decode cX10_voids 80 = .ok (.getfield 65, 3) := by decide +kernel
theorem dX10_voids_83 : decode cX10_voids 83 = .ok (.iconst 4, 1) := by decide +kernel
theorem dX10_voids_84 : decode cX10_voids 84 = .ok (.aaload, 1) := by decide +kernel
theorem dX10_voids_85 : decode cX10_voids 85 = .ok (.iload_n 3, 1) := by decide +kernel
theorem dX10_voids_86 : decode cX10_voids 86 = .ok (.iaload, 1) := by decide +kernel
theorem dX10_voids_87 : decode cX10_voids 87 = .ok (.iload_n 1, 1) := by decide +kernel
theorem dX10_voids_88 : decode cX10_voids 88 = .ok (.if_icmp .eq 15, 3) := by decide +kernel
theorem dX10_voids_91 : decode cX10_voids 91 = .ok (.aload_n 0, 1) := by decide +kernel
theorem dX10_voids_92 : decode cX10_voids 92 = .ok (.getfield 65, 3) := by decide +kernel
theorem dX10_voids_95 : decode cX10_voids 95 = .ok (.iconst 5, 1) := by decide +kernel
theorem dX10_voids_96 : decode cX10_voids 96 = .ok (.aaload, 1) := by decide +kernel
theorem dX10_voids_97 : decode cX10_voids 97 = .ok (.iload_n 3, 1) := by decide +kernel
theorem dX10_voids_98 : decode cX10_voids 98 = .ok (.iaload, 1) := by decide +kernel
theorem dX10_voids_99 : decode cX10_voids 99 = .ok (.iload_n 1, 1) := by decide +kernel
theorem dX10_voids_100 : decode cX10_voids 100 = .ok (.if_icmp .ne 6, 3) := by decide +kernel
theorem dX10_voids_103 : decode cX10_voids 103 = .ok (.iinc 2 1, 3) := by decide +kernel
theorem dX10_voids_106 : decode cX10_voids 106 = .ok (.iinc 3 1, 3) := by decide +kernel
theorem dX10_voids_109 : decode cX10_voids 109 = .ok (.goto (-45), 3) := by decide +kernel
theorem dX10_voids_112 : decode cX10_voids 112 = .ok (.iload_n 2, 1) := by decide +kernel
theorem dX10_voids_113 : decode cX10_voids 113 = .ok (.ireturn, 1) := by decide +kernel
theorem dX10_value_0 : decode cX10_value 0 = .ok (.aload_n 0, 1) := by decide +kernel
theorem dX10_value_1 : decode cX10_value 1 = .ok (.iload_n 1, 1) := by decide +kernel
theorem dX10_value_2 : decode cX10_value 2 = .ok (.iload_n 2, 1) := by decide +kernel
theorem dX10_value_3 : decode cX10_value 3 = .ok (.iload_n 3, 1) := by decide +kernel
theorem dX10_value_4 : decode cX10_value 4 = .ok (.iload 4, 2) := by decide +kernel
theorem dX10_value_6 : decode cX10_value 6 = .ok (.invokevirtual 215, 3) := by decide +kernel
theorem dX10_value_9 : decode cX10_value 9 = .ok (.ifCond .ne 6, 3) := by decide +kernel
theorem dX10_value_12 : decode cX10_value 12 = .ok (.bipush (-5), 2) := by decide +kernel
theorem dX10_value_14 : decode cX10_value 14 = .ok (.ireturn, 1) := by decide +kernel
theorem dX10_value_15 : decode cX10_value 15 = .ok (.aload_n 0, 1) := by decide +kernel
theorem dX10_value_16 : decode cX10_value 16 = .ok (.getfield 25, 3) := by decide +kernel
theorem dX10_value_19 : decode cX10_value 19 = .ok (.aload_n 0, 1) := by decide +kernel
theorem dX10_value_20 : decode cX10_value 20 = .ok (.getfield 25, 3) := by decide +kernel
theorem dX10_value_23 : decode cX10_value 23 = .ok (.aload_n 0, 1) := by decide +kernel
theorem dX10_value_24 : decode cX10_value 24 = .ok (.getfield 11, 3) := by decide +kernel
theorem dX10_value_27 : decode cX10_value 27 = .ok (.iload_n 1, 1) := by decide +kernel
theorem dX10_value_28 : decode cX10_value 28 = .ok (.aaload, 1) := by decide +kernel
theorem dX10_value_29 : decode cX10_value 29 = .ok (.iload_n 2, 1) := by decide +kernel
theorem dX10_value_30 : decode cX10_value 30 = .ok (.iload_n 3, 1) := by decide +kernel
theorem dX10_value_31 : decode cX10_value 31 = .ok (.iload 4, 2) := by decide +kernel
theorem dX10_value_33 : decode cX10_value 33 = .ok (.invokevirtual 219, 3) := by decide +kernel
theorem dX10_value_36 : decode cX10_value 36 = .ok (.iload_n 2, 1) := by decide +kernel
theorem dX10_value_37 : decode cX10_value 37 = .ok (.invokevirtual 223, 3) := by decide +kernel
theorem dX10_value_40 : decode cX10_value 40 = .ok (.ireturn, 1) := by decide +kernel
theorem dX10_why_0 : decode cX10_why 0 = .ok (.aload_n 0, 1) := by decide +kernel
theorem dX10_why_1 : decode cX10_why 1 = .ok (.iload_n 1, 1) := by decide +kernel
theorem dX10_why_2 : decode cX10_why 2 = .ok (.iload_n 2, 1) := by decide +kernel
theorem dX10_why_3 : decode cX10_why 3 = .ok (.iload_n 3, 1) := by decide +kernel
theorem dX10_why_4 : decode cX10_why 4 = .ok (.iload 4, 2) := by decide +kernel
theorem dX10_why_6 : decode cX10_why 6 = .ok (.invokevirtual 215, 3) := by decide +kernel
theorem dX10_why_9 : decode cX10_why 9 = .ok (.ifCond .ne 6, 3) := by decide +kernel
theorem dX10_why_12 : decode cX10_why 12 = .ok (.bipush (-5), 2) := by decide +kernel
theorem dX10_why_14 : decode cX10_why 14 = .ok (.ireturn, 1) := by decide +kernel
theorem dX10_why_15 : decode cX10_why 15 = .ok (.aload_n 0, 1) := by decide +kernel
theorem dX10_why_16 : decode cX10_why 16 = .ok (.getfield 25, 3) := by decide +kernel
theorem dX10_why_19 : decode cX10_why 19 = .ok (.aload_n 0, 1) := by decide +kernel
theorem dX10_why_20 : decode cX10_why 20 = .ok (.getfield 11, 3) := by decide +kernel
theorem dX10_why_23 : decode cX10_why 23 = .ok (.iload_n 1, 1) := by decide +kernel
theorem dX10_why_24 : decode cX10_why 24 = .ok (.aaload, 1) := by decide +kernel
theorem dX10_why_25 : decode cX10_why 25 = .ok (.iload_n 2, 1) := by decide +kernel
theorem dX10_why_26 : decode cX10_why 26 = .ok (.iload_n 3, 1) := by decide +kernel
theorem dX10_why_27 : decode cX10_why 27 = .ok (.iload 4, 2) := by decide +kernel
theorem dX10_why_29 : decode cX10_why 29 = .ok (.invokevirtual 219, 3) := by decide +kernel
theorem dX10_why_32 : decode cX10_why 32 = .ok (.ireturn, 1) := by decide +kernel
theorem dX10_canAsk_0 : decode cX10_canAsk 0 = .ok (.aload_n 0, 1) := by decide +kernel
theorem dX10_canAsk_1 : decode cX10_canAsk 1 = .ok (.iload_n 1, 1) := by decide +kernel
theorem dX10_canAsk_2 : decode cX10_canAsk 2 = .ok (.invokevirtual 91, 3) := by decide +kernel
theorem dX10_canAsk_5 : decode cX10_canAsk 5 = .ok (.ifCond .eq 26, 3) := by decide +kernel
theorem dX10_canAsk_8 : decode cX10_canAsk 8 = .ok (.iload_n 2, 1) := by decide +kernel
theorem dX10_canAsk_9 : decode cX10_canAsk 9 = .ok (.ifCond .lt 22, 3) := by decide +kernel
theorem dX10_canAsk_12 : decode cX10_canAsk 12 = .ok (.iload_n 2, 1) := by decide +kernel
theorem dX10_canAsk_13 : decode cX10_canAsk 13 = .ok (.bipush 8, 2) := by decide +kernel
theorem dX10_canAsk_15 : decode cX10_canAsk 15 = .ok (.if_icmp .ge 16, 3) := by decide +kernel
theorem dX10_canAsk_18 : decode cX10_canAsk 18 = .ok (.iload_n 3, 1) := by decide +kernel
theorem dX10_canAsk_19 : decode cX10_canAsk 19 = .ok (.ifCond .lt 12, 3) := by decide +kernel
theorem dX10_canAsk_22 : decode cX10_canAsk 22 = .ok (.iload 4, 2) := by decide +kernel
theorem dX10_canAsk_24 : decode cX10_canAsk 24 = .ok (.ifCond .lt 7, 3) := by decide +kernel
theorem dX10_canAsk_27 : decode cX10_canAsk 27 = .ok (.iconst 1, 1) := by decide +kernel
theorem dX10_canAsk_28 : decode cX10_canAsk 28 = .ok (.goto 4, 3) := by decide +kernel
theorem dX10_canAsk_31 : decode cX10_canAsk 31 = .ok (.iconst 0, 1) := by decide +kernel
theorem dX10_canAsk_32 : decode cX10_canAsk 32 = .ok (.ireturn, 1) := by decide +kernel
theorem dX10_weather_0 : decode cX10_weather 0 = .ok (.iload_n 1, 1) := by decide +kernel
theorem dX10_weather_1 : decode cX10_weather 1 = .ok (.iload_n 2, 1) := by decide +kernel
theorem dX10_weather_2 : decode cX10_weather 2 = .ok (.invokestatic 226, 3) := by decide +kernel
theorem dX10_weather_5 : decode cX10_weather 5 = .ok (.ifCond .ne 5, 3) := by decide +kernel
theorem dX10_weather_8 : decode cX10_weather 8 = .ok (.iconst (-1), 1) := by decide +kernel
theorem dX10_weather_9 : decode cX10_weather 9 = .ok (.ireturn, 1) := by decide +kernel
theorem dX10_weather_10 : decode cX10_weather 10 = .ok (.iload_n 2, 1) := by decide +kernel
theorem dX10_weather_11 : decode cX10_weather 11 = .ok (.iload_n 3, 1) := by decide +kernel
theorem dX10_weather_12 : decode cX10_weather 12 = .ok (.i2l, 1) := by decide +kernel
theorem dX10_weather_13 : decode cX10_weather 13 = .ok (.invokestatic 228, 3) := by decide +kernel
theorem dX10_weather_16 : decode cX10_weather 16 = .ok (.ifCond .ne 6, 3) := by decide +kernel
theorem dX10_weather_19 : decode cX10_weather 19 = .ok (.bipush (-2), 2) := by decide +kernel
theorem dX10_weather_21 : decode cX10_weather 21 = .ok (.ireturn, 1) := by decide +kernel
theorem dX10_weather_22 : decode cX10_weather 22 = .ok (.aload_n 0, 1) := by decide +kernel
theorem dX10_weather_23 : decode cX10_weather 23 = .ok (.getfield 32, 3) := by decide +kernel
theorem dX10_weather_26 : decode cX10_weather 26 = .ok (.iload_n 1, 1) := by decide +kernel
theorem dX10_weather_27 : decode cX10_weather 27 = .ok (.iload_n 2, 1) := by decide +kernel
theorem dX10_weather_28 : decode cX10_weather 28 = .ok (.iload_n 3, 1) := by decide +kernel
theorem dX10_weather_29 : decode cX10_weather 29 = .ok (.invokevirtual 231, 3) := by decide +kernel
theorem dX10_weather_32 : decode cX10_weather 32 = .ok (.iconst 1, 1) := by decide +kernel
theorem dX10_weather_33 : decode cX10_weather 33 = .ok (.ireturn, 1) := by decide +kernel
theorem dX10_sky_0 : decode cX10_sky 0 = .ok (.iload_n 1, 1) := by decide +kernel
theorem dX10_sky_1 : decode cX10_sky 1 = .ok (.iload_n 2, 1) := by decide +kernel
theorem dX10_sky_2 : decode cX10_sky 2 = .ok (.invokestatic 226, 3) := by decide +kernel
theorem dX10_sky_5 : decode cX10_sky 5 = .ok (.ifCond .eq 10, 3) := by decide +kernel
theorem dX10_sky_8 : decode cX10_sky 8 = .ok (.iload_n 3, 1) := by decide +kernel
theorem dX10_sky_9 : decode cX10_sky 9 = .ok (.invokestatic 235, 3) := by decide +kernel
theorem dX10_sky_12 : decode cX10_sky 12 = .ok (.ifCond .ne 5, 3) := by decide +kernel
theorem dX10_sky_15 : decode cX10_sky 15 = .ok (.iconst (-1), 1) := by decide +kernel
theorem dX10_sky_16 : decode cX10_sky 16 = .ok (.ireturn, 1) := by decide +kernel
theorem dX10_sky_17 : decode cX10_sky 17 = .ok (.iload 5, 2) := by decide +kernel
theorem dX10_sky_19 : decode cX10_sky 19 = .ok (.ifCond .lt 13, 3) := by decide +kernel
theorem dX10_sky_22 : decode cX10_sky 22 = .ok (.iload 5, 2) := by decide +kernel
theorem dX10_sky_24 : decode cX10_sky 24 = .ok (.sipush 7200, 3) := by decide +kernel
theorem dX10_sky_27 : decode cX10_sky 27 = .ok (.iload_n 1, 1) := by decide +kernel
theorem dX10_sky_28 : decode cX10_sky 28 = .ok (.isub, 1) := by decide +kernel
theorem dX10_sky_29 : decode cX10_sky 29 = .ok (.if_icmp .le 6, 3) := by decide +kernel
theorem dX10_sky_32 : decode cX10_sky 32 = .ok (.bipush (-2), 2) := by decide +kernel
theorem dX10_sky_34 : decode cX10_sky 34 = .ok (.ireturn, 1) := by decide +kernel
theorem dX10_sky_35 : decode cX10_sky 35 = .ok (.iload 5, 2) := by decide +kernel
theorem dX10_sky_37 : decode cX10_sky 37 = .ok (.ifCond .ne 5, 3) := by decide +kernel
theorem dX10_sky_40 : decode cX10_sky 40 = .ok (.iconst 0, 1) := by decide +kernel
theorem dX10_sky_41 : decode cX10_sky 41 = .ok (.ireturn, 1) := by decide +kernel
theorem dX10_sky_42 : decode cX10_sky 42 = .ok (.aload_n 0, 1) := by decide +kernel
theorem dX10_sky_43 : decode cX10_sky 43 = .ok (.getfield 59, 3) := by decide +kernel
theorem dX10_sky_46 : decode cX10_sky 46 = .ok (.iload_n 3, 1) := by decide +kernel
theorem dX10_sky_47 : decode cX10_sky 47 = .ok (.aaload, 1) := by decide +kernel
theorem dX10_sky_48 : decode cX10_sky 48 = .ok (.astore 6, 2) := by decide +kernel
theorem dX10_sky_50 : decode cX10_sky 50 = .ok (.aload 6, 2) := by decide +kernel
theorem dX10_sky_52 : decode cX10_sky 52 = .ok (.getfield 238, 3) := by decide +kernel
theorem dX10_sky_55 : decode cX10_sky 55 = .ok (.iconst (-1), 1) := by decide +kernel
theorem dX10_sky_56 : decode cX10_sky 56 = .ok (.if_icmp .eq 15, 3) := by decide +kernel
theorem dX10_sky_59 : decode cX10_sky 59 = .ok (.aload 6, 2) := by decide +kernel
theorem dX10_sky_61 : decode cX10_sky 61 = .ok (.getfield 238, 3) := by decide +kernel
theorem dX10_sky_64 : decode cX10_sky 64 = .ok (.iconst 2, 1) := by decide +kernel
theorem dX10_sky_65 : decode cX10_sky 65 = .ok (.if_icmp .eq 6, 3) := by decide +kernel
theorem dX10_sky_68 : decode cX10_sky 68 = .ok (.bipush (-13), 2) := by decide +kernel
theorem dX10_sky_70 : decode cX10_sky 70 = .ok (.ireturn, 1) := by decide +kernel
theorem dX10_sky_71 : decode cX10_sky 71 = .ok (.aload 6, 2) := by decide +kernel
theorem dX10_sky_73 : decode cX10_sky 73 = .ok (.getfield 238, 3) := by decide +kernel
theorem dX10_sky_76 : decode cX10_sky 76 = .ok (.iconst (-1), 1) := by decide +kernel
theorem dX10_sky_77 : decode cX10_sky 77 = .ok (.if_icmp .ne 6, 3) := by decide +kernel
theorem dX10_sky_80 : decode cX10_sky 80 = .ok (.bipush (-11), 2) := by decide +kernel
theorem dX10_sky_82 : decode cX10_sky 82 = .ok (.ireturn, 1) := by decide +kernel
theorem dX10_sky_83 : decode cX10_sky 83 = .ok (.aload 6, 2) := by decide +kernel
theorem dX10_sky_85 : decode cX10_sky 85 = .ok (.iload 4, 2) := by decide +kernel
theorem dX10_sky_87 : decode cX10_sky 87 = .ok (.iload 5, 2) := by decide +kernel
theorem dX10_sky_89 : decode cX10_sky 89 = .ok (.invokevirtual 241, 3) := by decide +kernel
theorem dX10_sky_92 : decode cX10_sky 92 = .ok (.ifCond .ne 6, 3) := by decide +kernel
theorem dX10_sky_95 : decode cX10_sky 95 = .ok (.bipush (-12), 2) := by decide +kernel
theorem dX10_sky_97 : decode cX10_sky 97 = .ok (.ireturn, 1) := by decide +kernel
theorem dX10_sky_98 : decode cX10_sky 98 = .ok (.iconst 0, 1) := by decide +kernel
theorem dX10_sky_99 : decode cX10_sky 99 = .ok (.istore 7, 2) := by decide +kernel
theorem dX10_sky_101 : decode cX10_sky 101 = .ok (.iconst 0, 1) := by decide +kernel
theorem dX10_sky_102 : decode cX10_sky 102 = .ok (.istore 8, 2) := by decide +kernel
theorem dX10_sky_104 : decode cX10_sky 104 = .ok (.iload 8, 2) := by decide +kernel
theorem dX10_sky_106 : decode cX10_sky 106 = .ok (.iload 5, 2) := by decide +kernel
theorem dX10_sky_108 : decode cX10_sky 108 = .ok (.if_icmp .ge 66, 3) := by decide +kernel
theorem dX10_sky_111 : decode cX10_sky 111 = .ok (.aload 6, 2) := by decide +kernel
theorem dX10_sky_113 : decode cX10_sky 113 = .ok (.getfield 244, 3) := by decide +kernel
theorem dX10_sky_116 : decode cX10_sky 116 = .ok (.iload 4, 2) := by decide +kernel
theorem dX10_sky_118 : decode cX10_sky 118 = .ok (.iload 8, 2) := by decide +kernel
theorem dX10_sky_120 : decode cX10_sky 120 = .ok (.iadd, 1) := by decide +kernel
theorem dX10_sky_121 : decode cX10_sky 121 = .ok (.laload, 1) := by decide +kernel
theorem dX10_sky_122 : decode cX10_sky 122 = .ok (.lstore 9, 2) := by decide +kernel
theorem dX10_sky_124 : decode cX10_sky 124 = .ok (.lload 9, 2) := by decide +kernel
theorem dX10_sky_126 : decode cX10_sky 126 = .ok (.ldc2_w 248, 3) := by decide +kernel
theorem dX10_sky_129 : decode cX10_sky 129 = .ok (.lcmp, 1) := by decide +kernel
theorem dX10_sky_130 : decode cX10_sky 130 = .ok (.ifCond .eq 38, 3) := by decide +kernel
theorem dX10_sky_133 : decode cX10_sky 133 = .ok (.iload_n 2, 1) := by decide +kernel
theorem dX10_sky_134 : decode cX10_sky 134 = .ok (.lload 9, 2) := by decide +kernel
theorem dX10_sky_136 : decode cX10_sky 136 = .ok (.ldc2_w 250, 3) := by decide +kernel
theorem dX10_sky_139 : decode cX10_sky 139 = .ok (.ldiv, 1) := by decide +kernel
theorem dX10_sky_140 : decode cX10_sky 140 = .ok (.invokestatic 228, 3) := by decide +kernel
theorem dX10_sky_143 : decode cX10_sky 143 = .ok (.ifCond .eq 25, 3) := by decide +kernel
theorem dX10_sky_146 : decode cX10_sky 146 = .ok (.aload_n 0, 1) := by decide +kernel
theorem dX10_sky_147 : decode cX10_sky 147 = .ok (.getfield 32, 3) := by decide +kernel
theorem dX10_sky_150 : decode cX10_sky 150 = .ok (.iload_n 1, 1) := by decide +kernel
theorem dX10_sky_151 : decode cX10_sky 151 = .ok (.iload 8, 2) := by decide +kernel
theorem dX10_sky_153 : decode cX10_sky 153 = .ok (.iadd, 1) := by decide +kernel
theorem dX10_sky_154 : decode cX10_sky 154 = .ok (.iload_n 2, 1) := by decide +kernel
theorem dX10_sky_155 : decode cX10_sky 155 = .ok (.lload 9, 2) := by decide +kernel
theorem dX10_sky_157 : decode cX10_sky 157 = .ok (.ldc2_w 250, 3) := by decide +kernel
theorem dX10_sky_160 : decode cX10_sky 160 = .ok (.ldiv, 1) := by decide +kernel
theorem dX10_sky_161 : decode cX10_sky 161 = .ok (.l2i, 1) := by decide +kernel
theorem dX10_sky_162 : decode cX10_sky 162 = .ok (.invokevirtual 231, 3) := by decide +kernel
theorem dX10_sky_165 : decode cX10_sky 165 = .ok (.iinc 7 1, 3) := by decide +kernel
theorem dX10_sky_168 : decode cX10_sky 168 = .ok (.iinc 8 1, 3) := by decide +kernel
theorem dX10_sky_171 : decode cX10_sky 171 = .ok (.goto (-67), 3) := by decide +kernel
theorem dX10_sky_174 : decode cX10_sky 174 = .ok (.iload 7, 2) := by decide +kernel
theorem dX10_sky_176 : decode cX10_sky 176 = .ok (.ireturn, 1) := by decide +kernel
theorem dX10_skyOf_0 : decode cX10_skyOf 0 = .ok (.iload_n 1, 1) := by decide +kernel
theorem dX10_skyOf_1 : decode cX10_skyOf 1 = .ok (.iload_n 2, 1) := by decide +kernel
theorem dX10_skyOf_2 : decode cX10_skyOf 2 = .ok (.invokestatic 226, 3) := by decide +kernel
theorem dX10_skyOf_5 : decode cX10_skyOf 5 = .ok (.ifCond .ne 7, 3) := by decide +kernel
theorem dX10_skyOf_8 : decode cX10_skyOf 8 = .ok (.sipush (-1000), 3) := by decide +kernel
theorem dX10_skyOf_11 : decode cX10_skyOf 11 = .ok (.ireturn, 1) := by decide +kernel
theorem dX10_skyOf_12 : decode cX10_skyOf 12 = .ok (.aload_n 0, 1) := by decide +kernel
theorem dX10_skyOf_13 : decode cX10_skyOf 13 = .ok (.getfield 32, 3) := by decide +kernel
theorem dX10_skyOf_16 : decode cX10_skyOf 16 = .ok (.iload_n 1, 1) := by decide +kernel
theorem dX10_skyOf_17 : decode cX10_skyOf 17 = .ok (.iload_n 2, 1) := by decide +kernel
theorem dX10_skyOf_18 : decode cX10_skyOf 18 = .ok (.invokevirtual 252, 3) := by decide +kernel
theorem dX10_skyOf_21 : decode cX10_skyOf 21 = .ok (.ireturn, 1) := by decide +kernel
theorem dX10_alp_0 : decode cX10_alp 0 = .ok (.iload_n 1, 1) := by decide +kernel
theorem dX10_alp_1 : decode cX10_alp 1 = .ok (.ifCond .lt 19, 3) := by decide +kernel
theorem dX10_alp_4 : decode cX10_alp 4 = .ok (.iload_n 1, 1) := by decide +kernel
theorem dX10_alp_5 : decode cX10_alp 5 = .ok (.iconst 3, 1) := by decide +kernel
theorem dX10_alp_6 : decode cX10_alp 6 = .ok (.if_icmp .gt 14, 3) := by decide +kernel
theorem dX10_alp_9 : decode cX10_alp 9 = .ok (.iload_n 2, 1) := by decide +kernel
theorem dX10_alp_10 : decode cX10_alp 10 = .ok (.iconst 1, 1) := by decide +kernel
theorem dX10_alp_11 : decode cX10_alp 11 = .ok (.if_icmp .lt 9, 3) := by decide +kernel
theorem dX10_alp_14 : decode cX10_alp 14 = .ok (.iload_n 2, 1) := by decide +kernel
theorem dX10_alp_15 : decode cX10_alp 15 = .ok (.bipush 99, 2) := by decide +kernel
theorem dX10_alp_17 : decode cX10_alp 17 = .ok (.if_icmp .le 6, 3) := by decide +kernel
theorem dX10_alp_20 : decode cX10_alp 20 = .ok (.bipush (-2), 2) := by decide +kernel
theorem dX10_alp_22 : decode cX10_alp 22 = .ok (.ireturn, 1) := by decide +kernel
theorem dX10_alp_23 : decode cX10_alp 23 = .ok (.aload_n 0, 1) := by decide +kernel
theorem dX10_alp_24 : decode cX10_alp 24 = .ok (.getfield 39, 3) := by decide +kernel
theorem dX10_alp_27 : decode cX10_alp 27 = .ok (.getfield 255, 3) := by decide +kernel
theorem dX10_alp_30 : decode cX10_alp 30 = .ok (.iconst 4, 1) := by decide +kernel
theorem dX10_alp_31 : decode cX10_alp 31 = .ok (.if_icmp .lt 6, 3) := by decide +kernel
theorem dX10_alp_34 : decode cX10_alp 34 = .ok (.bipush (-4), 2) := by decide +kernel
theorem dX10_alp_36 : decode cX10_alp 36 = .ok (.ireturn, 1) := by decide +kernel
theorem dX10_alp_37 : decode cX10_alp 37 = .ok (.aload_n 0, 1) := by decide +kernel
theorem dX10_alp_38 : decode cX10_alp 38 = .ok (.getfield 39, 3) := by decide +kernel
theorem dX10_alp_41 : decode cX10_alp 41 = .ok (.iload_n 1, 1) := by decide +kernel
theorem dX10_alp_42 : decode cX10_alp 42 = .ok (.iload_n 2, 1) := by decide +kernel
theorem dX10_alp_43 : decode cX10_alp 43 = .ok (.invokevirtual 256, 3) := by decide +kernel
theorem dX10_alp_46 : decode cX10_alp 46 = .ok (.ireturn, 1) := by decide +kernel
theorem dX10_alpOf_0 : decode cX10_alpOf 0 = .ok (.aload_n 0, 1) := by decide +kernel
theorem dX10_alpOf_1 : decode cX10_alpOf 1 = .ok (.getfield 39, 3) := by decide +kernel
theorem dX10_alpOf_4 : decode cX10_alpOf 4 = .ok (.iload_n 1, 1) := by decide +kernel
theorem dX10_alpOf_5 : decode cX10_alpOf 5 = .ok (.invokevirtual 258, 3) := by decide +kernel
theorem dX10_alpOf_8 : decode cX10_alpOf 8 = .ok (.ifCond .ne 6, 3) := by decide +kernel
theorem dX10_alpOf_11 : decode cX10_alpOf 11 = .ok (.bipush (-5), 2) := by decide +kernel
theorem dX10_alpOf_13 : decode cX10_alpOf 13 = .ok (.ireturn, 1) := by decide +kernel
theorem dX10_alpOf_14 : decode cX10_alpOf 14 = .ok (.iload_n 2, 1) := by decide +kernel
theorem dX10_alpOf_15 : decode cX10_alpOf 15 = .ok (.tableswitch 80 0 4 #[33, 43, 53, 63, 73], 33) := by decide +kernel
theorem dX10_alpOf_48 : decode cX10_alpOf 48 = .ok (.aload_n 0, 1) := by decide +kernel
theorem dX10_alpOf_49 : decode cX10_alpOf 49 = .ok (.getfield 39, 3) := by decide +kernel
theorem dX10_alpOf_52 : decode cX10_alpOf 52 = .ok (.getfield 259, 3) := by decide +kernel
theorem dX10_alpOf_55 : decode cX10_alpOf 55 = .ok (.iload_n 1, 1) := by decide +kernel
theorem dX10_alpOf_56 : decode cX10_alpOf 56 = .ok (.iaload, 1) := by decide +kernel
theorem dX10_alpOf_57 : decode cX10_alpOf 57 = .ok (.ireturn, 1) := by decide +kernel
theorem dX10_alpOf_58 : decode cX10_alpOf 58 = .ok (.aload_n 0, 1) := by decide +kernel
theorem dX10_alpOf_59 : decode cX10_alpOf 59 = .ok (.getfield 39, 3) := by decide +kernel
theorem dX10_alpOf_62 : decode cX10_alpOf 62 = .ok (.getfield 262, 3) := by decide +kernel
theorem dX10_alpOf_65 : decode cX10_alpOf 65 = .ok (.iload_n 1, 1) := by decide +kernel
theorem dX10_alpOf_66 : decode cX10_alpOf 66 = .ok (.iaload, 1) := by decide +kernel
theorem dX10_alpOf_67 : decode cX10_alpOf 67 = .ok (.ireturn, 1) := by decide +kernel
theorem dX10_alpOf_68 : decode cX10_alpOf 68 = .ok (.aload_n 0, 1) := by decide +kernel
theorem dX10_alpOf_69 : decode cX10_alpOf 69 = .ok (.getfield 39, 3) := by decide +kernel
theorem dX10_alpOf_72 : decode cX10_alpOf 72 = .ok (.getfield 265, 3) := by decide +kernel
theorem dX10_alpOf_75 : decode cX10_alpOf 75 = .ok (.iload_n 1, 1) := by decide +kernel
theorem dX10_alpOf_76 : decode cX10_alpOf 76 = .ok (.iaload, 1) := by decide +kernel
theorem dX10_alpOf_77 : decode cX10_alpOf 77 = .ok (.ireturn, 1) := by decide +kernel
theorem dX10_alpOf_78 : decode cX10_alpOf 78 = .ok (.aload_n 0, 1) := by decide +kernel
theorem dX10_alpOf_79 : decode cX10_alpOf 79 = .ok (.getfield 39, 3) := by decide +kernel
theorem dX10_alpOf_82 : decode cX10_alpOf 82 = .ok (.getfield 268, 3) := by decide +kernel
theorem dX10_alpOf_85 : decode cX10_alpOf 85 = .ok (.iload_n 1, 1) := by decide +kernel
theorem dX10_alpOf_86 : decode cX10_alpOf 86 = .ok (.iaload, 1) := by decide +kernel
theorem dX10_alpOf_87 : decode cX10_alpOf 87 = .ok (.ireturn, 1) := by decide +kernel
theorem dX10_alpOf_88 : decode cX10_alpOf 88 = .ok (.aload_n 0, 1) := by decide +kernel
theorem dX10_alpOf_89 : decode cX10_alpOf 89 = .ok (.iload_n 1, 1) := by decide +kernel
theorem dX10_alpOf_90 : decode cX10_alpOf 90 = .ok (.iconst 0, 1) := by decide +kernel
theorem dX10_alpOf_91 : decode cX10_alpOf 91 = .ok (.invokevirtual 271, 3) := by decide +kernel
theorem dX10_alpOf_94 : decode cX10_alpOf 94 = .ok (.ireturn, 1) := by decide +kernel
theorem dX10_alpOf_95 : decode cX10_alpOf 95 = .ok (.iload_n 2, 1) := by decide +kernel
theorem dX10_alpOf_96 : decode cX10_alpOf 96 = .ok (.iconst 4, 1) := by decide +kernel
theorem dX10_alpOf_97 : decode cX10_alpOf 97 = .ok (.if_icmp .le 29, 3) := by decide +kernel
theorem dX10_alpOf_100 : decode cX10_alpOf 100 = .ok (.aload_n 0, 1) := by decide +kernel
theorem dX10_alpOf_101 : decode cX10_alpOf 101 = .ok (.iload_n 2, 1) := by decide +kernel
theorem dX10_alpOf_102 : decode cX10_alpOf 102 = .ok (.iconst 5, 1) := by decide +kernel
theorem dX10_alpOf_103 : decode cX10_alpOf 103 = .ok (.isub, 1) := by decide +kernel
theorem dX10_alpOf_104 : decode cX10_alpOf 104 = .ok (.invokevirtual 91, 3) := by decide +kernel
theorem dX10_alpOf_107 : decode cX10_alpOf 107 = .ok (.ifCond .eq 19, 3) := by decide +kernel
theorem dX10_alpOf_110 : decode cX10_alpOf 110 = .ok (.aload_n 0, 1) := by decide +kernel
theorem dX10_alpOf_111 : decode cX10_alpOf 111 = .ok (.getfield 11, 3) := by decide +kernel
theorem dX10_alpOf_114 : decode cX10_alpOf 114 = .ok (.iload_n 2, 1) := by decide +kernel
theorem dX10_alpOf_115 : decode cX10_alpOf 115 = .ok (.iconst 5, 1) := by decide +kernel
theorem dX10_alpOf_116 : decode cX10_alpOf 116 = .ok (.isub, 1) := by decide +kernel
theorem dX10_alpOf_117 : decode cX10_alpOf 117 = .ok (.aaload, 1) := by decide +kernel
theorem dX10_alpOf_118 : decode cX10_alpOf 118 = .ok (.getfield 274, 3) := by decide +kernel
theorem dX10_alpOf_121 : decode cX10_alpOf 121 = .ok (.iload_n 1, 1) := by decide +kernel
theorem dX10_alpOf_122 : decode cX10_alpOf 122 = .ok (.iaload, 1) := by decide +kernel
theorem dX10_alpOf_123 : decode cX10_alpOf 123 = .ok (.goto 5, 3) := by decide +kernel
theorem dX10_alpOf_126 : decode cX10_alpOf 126 = .ok (.bipush (-5), 2) := by decide +kernel
theorem dX10_alpOf_128 : decode cX10_alpOf 128 = .ok (.ireturn, 1) := by decide +kernel
theorem dX10_cowsUpOn_0 : decode cX10_cowsUpOn 0 = .ok (.iconst 0, 1) := by decide +kernel
theorem dX10_cowsUpOn_1 : decode cX10_cowsUpOn 1 = .ok (.istore_n 3, 1) := by decide +kernel
theorem dX10_cowsUpOn_2 : decode cX10_cowsUpOn 2 = .ok (.iconst 0, 1) := by decide +kernel
theorem dX10_cowsUpOn_3 : decode cX10_cowsUpOn 3 = .ok (.istore 4, 2) := by decide +kernel
theorem dX10_cowsUpOn_5 : decode cX10_cowsUpOn 5 = .ok (.iload 4, 2) := by decide +kernel
theorem dX10_cowsUpOn_7 : decode cX10_cowsUpOn 7 = .ok (.aload_n 0, 1) := by decide +kernel
theorem dX10_cowsUpOn_8 : decode cX10_cowsUpOn 8 = .ok (.getfield 85, 3) := by decide +kernel
theorem dX10_cowsUpOn_11 : decode cX10_cowsUpOn 11 = .ok (.if_icmp .ge 33, 3) := by decide +kernel
theorem dX10_cowsUpOn_14 : decode cX10_cowsUpOn 14 = .ok (.iload_n 2, 1) := by decide +kernel
theorem dX10_cowsUpOn_15 : decode cX10_cowsUpOn 15 = .ok (.iload 4, 2) := by decide +kernel
theorem dX10_cowsUpOn_17 : decode cX10_cowsUpOn 17 = .ok (.ishr, 1) := by decide +kernel
theorem dX10_cowsUpOn_18 : decode cX10_cowsUpOn 18 = .ok (.iconst 1, 1) := by decide +kernel
theorem dX10_cowsUpOn_19 : decode cX10_cowsUpOn 19 = .ok (.iand, 1) := by decide +kernel
theorem dX10_cowsUpOn_20 : decode cX10_cowsUpOn 20 = .ok (.ifCond .ne 18, 3) := by decide +kernel
theorem dX10_cowsUpOn_23 : decode cX10_cowsUpOn 23 = .ok (.iload_n 3, 1) := by decide +kernel
theorem dX10_cowsUpOn_24 : decode cX10_cowsUpOn 24 = .ok (.aload_n 0, 1) := by decide +kernel
theorem dX10_cowsUpOn_25 : decode cX10_cowsUpOn 25 = .ok (.getfield 11, 3) := by decide +kernel
theorem dX10_cowsUpOn_28 : decode cX10_cowsUpOn 28 = .ok (.iload 4, 2) := by decide +kernel
theorem dX10_cowsUpOn_30 : decode cX10_cowsUpOn 30 = .ok (.aaload, 1) := by decide +kernel
theorem dX10_cowsUpOn_31 : decode cX10_cowsUpOn 31 = .ok (.getfield 274, 3) := by decide +kernel
theorem dX10_cowsUpOn_34 : decode cX10_cowsUpOn 34 = .ok (.iload_n 1, 1) := by decide +kernel
theorem dX10_cowsUpOn_35 : decode cX10_cowsUpOn 35 = .ok (.iaload, 1) := by decide +kernel
theorem dX10_cowsUpOn_36 : decode cX10_cowsUpOn 36 = .ok (.iadd, 1) := by decide +kernel
theorem dX10_cowsUpOn_37 : decode cX10_cowsUpOn 37 = .ok (.istore_n 3, 1) := by decide +kernel
theorem dX10_cowsUpOn_38 : decode cX10_cowsUpOn 38 = .ok (.iinc 4 1, 3) := by decide +kernel
theorem dX10_cowsUpOn_41 : decode cX10_cowsUpOn 41 = .ok (.goto (-36), 3) := by decide +kernel
theorem dX10_cowsUpOn_44 : decode cX10_cowsUpOn 44 = .ok (.iload_n 3, 1) := by decide +kernel
theorem dX10_cowsUpOn_45 : decode cX10_cowsUpOn 45 = .ok (.ireturn, 1) := by decide +kernel
theorem dX10_drive_0 : decode cX10_drive 0 = .ok (.aload_n 0, 1) := by decide +kernel
theorem dX10_drive_1 : decode cX10_drive 1 = .ok (.iload_n 1, 1) := by decide +kernel
theorem dX10_drive_2 : decode cX10_drive 2 = .ok (.invokevirtual 91, 3) := by decide +kernel
theorem dX10_drive_5 : decode cX10_drive 5 = .ok (.ifCond .eq 14, 3) := by decide +kernel
theorem dX10_drive_8 : decode cX10_drive 8 = .ok (.aload_n 0, 1) := by decide +kernel
theorem dX10_drive_9 : decode cX10_drive 9 = .ok (.getfield 39, 3) := by decide +kernel
theorem dX10_drive_12 : decode cX10_drive 12 = .ok (.iload_n 2, 1) := by decide +kernel
theorem dX10_drive_13 : decode cX10_drive 13 = .ok (.invokevirtual 258, 3) := by decide +kernel
theorem dX10_drive_16 : decode cX10_drive 16 = .ok (.ifCond .ne 5, 3) := by decide +kernel
theorem dX10_drive_19 : decode cX10_drive 19 = .ok (.iconst (-1), 1) := by decide +kernel
theorem dX10_drive_20 : decode cX10_drive 20 = .ok (.ireturn, 1) := by decide +kernel
theorem dX10_drive_21 : decode cX10_drive 21 = .ok (.iload_n 3, 1) := by decide +kernel
theorem dX10_drive_22 : decode cX10_drive 22 = .ok (.iconst 1, 1) := by decide +kernel
theorem dX10_drive_23 : decode cX10_drive 23 = .ok (.if_icmp .lt 9, 3) := by decide +kernel
theorem dX10_drive_26 : decode cX10_drive 26 = .ok (.iload_n 3, 1) := by decide +kernel
theorem dX10_drive_27 : decode cX10_drive 27 = .ok (.bipush 99, 2) := by decide +kernel
theorem dX10_drive_29 : decode cX10_drive 29 = .ok (.if_icmp .le 6, 3) := by decide +kernel
theorem dX10_drive_32 : decode cX10_drive 32 = .ok (.bipush (-2), 2) := by decide +kernel
theorem dX10_drive_34 : decode cX10_drive 34 = .ok (.ireturn, 1) := by decide +kernel
theorem dX10_drive_35 : decode cX10_drive 35 = .ok (.aload_n 0, 1) := by decide +kernel
theorem dX10_drive_36 : decode cX10_drive 36 = .ok (.iload_n 1, 1) := by decide +kernel
theorem dX10_drive_37 : decode cX10_drive 37 = .ok (.iload_n 3, 1) := by decide +kernel
theorem dX10_drive_38 : decode cX10_drive 38 = .ok (.invokevirtual 277, 3) := by decide +kernel
theorem dX10_drive_41 : decode cX10_drive 41 = .ok (.istore 4, 2) := by decide +kernel
theorem dX10_drive_43 : decode cX10_drive 43 = .ok (.iload 4, 2) := by decide +kernel
theorem dX10_drive_45 : decode cX10_drive 45 = .ok (.ifCond .le 9, 3) := by decide +kernel
theorem dX10_drive_48 : decode cX10_drive 48 = .ok (.bipush (-20), 2) := by decide +kernel
theorem dX10_drive_50 : decode cX10_drive 50 = .ok (.iload 4, 2) := by decide +kernel
theorem dX10_drive_52 : decode cX10_drive 52 = .ok (.isub, 1) := by decide +kernel
theorem dX10_drive_53 : decode cX10_drive 53 = .ok (.ireturn, 1) := by decide +kernel
theorem dX10_drive_54 : decode cX10_drive 54 = .ok (.aload_n 0, 1) := by decide +kernel
theorem dX10_drive_55 : decode cX10_drive 55 = .ok (.getfield 212, 3) := by decide +kernel
theorem dX10_drive_58 : decode cX10_drive 58 = .ok (.sipush 200, 3) := by decide +kernel
theorem dX10_drive_61 : decode cX10_drive 61 = .ok (.if_icmp .ge 10, 3) := by decide +kernel
theorem dX10_drive_64 : decode cX10_drive 64 = .ok (.aload_n 0, 1) := by decide +kernel
theorem dX10_drive_65 : decode cX10_drive 65 = .ok (.iload_n 1, 1) := by decide +kernel
theorem dX10_drive_66 : decode cX10_drive 66 = .ok (.iload_n 2, 1) := by decide +kernel
theorem dX10_drive_67 : decode cX10_drive 67 = .ok (.iload_n 3, 1) := by decide +kernel
theorem dX10_drive_68 : decode cX10_drive 68 = .ok (.invokevirtual 280, 3) := by decide +kernel
theorem dX10_drive_71 : decode cX10_drive 71 = .ok (.aload_n 0, 1) := by decide +kernel
theorem dX10_drive_72 : decode cX10_drive 72 = .ok (.dup, 1) := by decide +kernel
theorem dX10_drive_73 : decode cX10_drive 73 = .ok (.getfield 212, 3) := by decide +kernel
theorem dX10_drive_76 : decode cX10_drive 76 = .ok (.iconst 1, 1) := by decide +kernel
theorem dX10_drive_77 : decode cX10_drive 77 = .ok (.iadd, 1) := by decide +kernel
theorem dX10_drive_78 : decode cX10_drive 78 = .ok (.putfield 212, 3) := by decide +kernel
theorem dX10_drive_81 : decode cX10_drive 81 = .ok (.aload_n 0, 1) := by decide +kernel
theorem dX10_drive_82 : decode cX10_drive 82 = .ok (.getfield 11, 3) := by decide +kernel
theorem dX10_drive_85 : decode cX10_drive 85 = .ok (.iload_n 1, 1) := by decide +kernel
theorem dX10_drive_86 : decode cX10_drive 86 = .ok (.aaload, 1) := by decide +kernel
theorem dX10_drive_87 : decode cX10_drive 87 = .ok (.getfield 274, 3) := by decide +kernel
theorem dX10_drive_90 : decode cX10_drive 90 = .ok (.iload_n 2, 1) := by decide +kernel
theorem dX10_drive_91 : decode cX10_drive 91 = .ok (.dup2, 1) := by decide +kernel
theorem dX10_drive_92 : decode cX10_drive 92 = .ok (.iaload, 1) := by decide +kernel
theorem dX10_drive_93 : decode cX10_drive 93 = .ok (.iload_n 3, 1) := by decide +kernel
theorem dX10_drive_94 : decode cX10_drive 94 = .ok (.iadd, 1) := by decide +kernel
theorem dX10_drive_95 : decode cX10_drive 95 = .ok (.iastore, 1) := by decide +kernel
theorem dX10_drive_96 : decode cX10_drive 96 = .ok (.aload_n 0, 1) := by decide +kernel
theorem dX10_drive_97 : decode cX10_drive 97 = .ok (.getfield 11, 3) := by decide +kernel
theorem dX10_drive_100 : decode cX10_drive 100 = .ok (.iload_n 1, 1) := by decide +kernel
theorem dX10_drive_101 : decode cX10_drive 101 = .ok (.aaload, 1) := by decide +kernel
theorem dX10_drive_102 : decode cX10_drive 102 = .ok (.getfield 274, 3) := by decide +kernel
theorem dX10_drive_105 : decode cX10_drive 105 = .ok (.iload_n 2, 1) := by decide +kernel
theorem dX10_drive_106 : decode cX10_drive 106 = .ok (.iaload, 1) := by decide +kernel
theorem dX10_drive_107 : decode cX10_drive 107 = .ok (.ireturn, 1) := by decide +kernel
theorem dX10_whyNot_0 : decode cX10_whyNot 0 = .ok (.aload_n 0, 1) := by decide +kernel
theorem dX10_whyNot_1 : decode cX10_whyNot 1 = .ok (.getfield 11, 3) := by decide +kernel
theorem dX10_whyNot_4 : decode cX10_whyNot 4 = .ok (.iload_n 1, 1) := by decide +kernel
theorem dX10_whyNot_5 : decode cX10_whyNot 5 = .ok (.aaload, 1) := by decide +kernel
theorem dX10_whyNot_6 : decode cX10_whyNot 6 = .ok (.astore_n 3, 1) := by decide +kernel
theorem dX10_whyNot_7 : decode cX10_whyNot 7 = .ok (.iload_n 2, 1) := by decide +kernel
theorem dX10_whyNot_8 : decode cX10_whyNot 8 = .ok (.aload_n 3, 1) := by decide +kernel
theorem dX10_whyNot_9 : decode cX10_whyNot 9 = .ok (.invokevirtual 102, 3) := by decide +kernel
theorem dX10_whyNot_12 : decode cX10_whyNot 12 = .ok (.if_icmp .le 5, 3) := by decide +kernel
theorem dX10_whyNot_15 : decode cX10_whyNot 15 = .ok (.iconst 1, 1) := by decide +kernel
theorem dX10_whyNot_16 : decode cX10_whyNot 16 = .ok (.ireturn, 1) := by decide +kernel
theorem dX10_whyNot_17 : decode cX10_whyNot 17 = .ok (.aload_n 0, 1) := by decide +kernel
theorem dX10_whyNot_18 : decode cX10_whyNot 18 = .ok (.aload_n 3, 1) := by decide +kernel
theorem dX10_whyNot_19 : decode cX10_whyNot 19 = .ok (.invokevirtual 283, 3) := by decide +kernel
theorem dX10_whyNot_22 : decode cX10_whyNot 22 = .ok (.ifCond .ne 5, 3) := by decide +kernel
theorem dX10_whyNot_25 : decode cX10_whyNot 25 = .ok (.iconst 2, 1) := by decide +kernel
theorem dX10_whyNot_26 : decode cX10_whyNot 26 = .ok (.ireturn, 1) := by decide +kernel
theorem dX10_whyNot_27 : decode cX10_whyNot 27 = .ok (.aload_n 3, 1) := by decide +kernel
theorem dX10_whyNot_28 : decode cX10_whyNot 28 = .ok (.invokevirtual 95, 3) := by decide +kernel
theorem dX10_whyNot_31 : decode cX10_whyNot 31 = .ok (.iload_n 2, 1) := by decide +kernel
theorem dX10_whyNot_32 : decode cX10_whyNot 32 = .ok (.iadd, 1) := by decide +kernel
theorem dX10_whyNot_33 : decode cX10_whyNot 33 = .ok (.istore 4, 2) := by decide +kernel
theorem dX10_whyNot_35 : decode cX10_whyNot 35 = .ok (.iload 4, 2) := by decide +kernel
theorem dX10_whyNot_37 : decode cX10_whyNot 37 = .ok (.aload_n 0, 1) := by decide +kernel
theorem dX10_whyNot_38 : decode cX10_whyNot 38 = .ok (.aload_n 3, 1) := by decide +kernel
theorem dX10_whyNot_39 : decode cX10_whyNot 39 = .ok (.iconst 1, 1) := by decide +kernel
theorem dX10_whyNot_40 : decode cX10_whyNot 40 = .ok (.invokevirtual 287, 3) := by decide +kernel
theorem dX10_whyNot_43 : decode cX10_whyNot 43 = .ok (.imul, 1) := by decide +kernel
theorem dX10_whyNot_44 : decode cX10_whyNot 44 = .ok (.aload_n 0, 1) := by decide +kernel
theorem dX10_whyNot_45 : decode cX10_whyNot 45 = .ok (.getfield 18, 3) := by decide +kernel
theorem dX10_whyNot_48 : decode cX10_whyNot 48 = .ok (.iload_n 1, 1) := by decide +kernel
theorem dX10_whyNot_49 : decode cX10_whyNot 49 = .ok (.iconst 0, 1) := by decide +kernel
theorem dX10_whyNot_50 : decode cX10_whyNot 50 = .ok (.aload_n 0, 1) := by decide +kernel
theorem dX10_whyNot_51 : decode cX10_whyNot 51 = .ok (.getfield 142, 3) := by decide +kernel
theorem dX10_whyNot_54 : decode cX10_whyNot 54 = .ok (.invokevirtual 171, 3) := by decide +kernel
theorem dX10_whyNot_57 : decode cX10_whyNot 57 = .ok (.if_icmp .le 5, 3) := by decide +kernel
theorem dX10_whyNot_60 : decode cX10_whyNot 60 = .ok (.iconst 3, 1) := by decide +kernel
theorem dX10_whyNot_61 : decode cX10_whyNot 61 = .ok (.ireturn, 1) := by decide +kernel
theorem dX10_whyNot_62 : decode cX10_whyNot 62 = .ok (.aload_n 0, 1) := by decide +kernel
theorem dX10_whyNot_63 : decode cX10_whyNot 63 = .ok (.aload_n 3, 1) := by decide +kernel
theorem dX10_whyNot_64 : decode cX10_whyNot 64 = .ok (.iconst 0, 1) := by decide +kernel
theorem dX10_whyNot_65 : decode cX10_whyNot 65 = .ok (.invokevirtual 287, 3) := by decide +kernel
theorem dX10_whyNot_68 : decode cX10_whyNot 68 = .ok (.istore 5, 2) := by decide +kernel
theorem dX10_whyNot_70 : decode cX10_whyNot 70 = .ok (.iload 5, 2) := by decide +kernel
theorem dX10_whyNot_72 : decode cX10_whyNot 72 = .ok (.ifCond .le 17, 3) := by decide +kernel
theorem dX10_whyNot_75 : decode cX10_whyNot 75 = .ok (.iload 4, 2) := by decide +kernel
theorem dX10_whyNot_77 : decode cX10_whyNot 77 = .ok (.aload_n 3, 1) := by decide +kernel
theorem dX10_whyNot_78 : decode cX10_whyNot 78 = .ok (.getfield 114, 3) := by decide +kernel
theorem dX10_whyNot_81 : decode cX10_whyNot 81 = .ok (.iload 5, 2) := by decide +kernel
theorem dX10_whyNot_83 : decode cX10_whyNot 83 = .ok (.idiv, 1) := by decide +kernel
theorem dX10_whyNot_84 : decode cX10_whyNot 84 = .ok (.if_icmp .le 5, 3) := by decide +kernel
theorem dX10_whyNot_87 : decode cX10_whyNot 87 = .ok (.iconst 4, 1) := by decide +kernel
theorem dX10_whyNot_88 : decode cX10_whyNot 88 = .ok (.ireturn, 1) := by decide +kernel
theorem dX10_whyNot_89 : decode cX10_whyNot 89 = .ok (.iconst 0, 1) := by decide +kernel
theorem dX10_whyNot_90 : decode cX10_whyNot 90 = .ok (.ireturn, 1) := by decide +kernel
theorem dX10_inSeason_0 : decode cX10_inSeason 0 = .ok (.aload_n 0, 1) := by decide +kernel
theorem dX10_inSeason_1 : decode cX10_inSeason 1 = .ok (.getfield 142, 3) := by decide +kernel
theorem dX10_inSeason_4 : decode cX10_inSeason 4 = .ok (.sipush 360, 3) := by decide +kernel
theorem dX10_inSeason_7 : decode cX10_inSeason 7 = .ok (.irem, 1) := by decide +kernel
theorem dX10_inSeason_8 : decode cX10_inSeason 8 = .ok (.istore_n 2, 1) := by decide +kernel
theorem dX10_inSeason_9 : decode cX10_inSeason 9 = .ok (.iload_n 2, 1) := by decide +kernel
theorem dX10_inSeason_10 : decode cX10_inSeason 10 = .ok (.aload_n 0, 1) := by decide +kernel
theorem dX10_inSeason_11 : decode cX10_inSeason 11 = .ok (.aload_n 1, 1) := by decide +kernel
theorem dX10_inSeason_12 : decode cX10_inSeason 12 = .ok (.iconst 2, 1) := by decide +kernel
theorem dX10_inSeason_13 : decode cX10_inSeason 13 = .ok (.invokevirtual 287, 3) := by decide +kernel
theorem dX10_inSeason_16 : decode cX10_inSeason 16 = .ok (.if_icmp .lt 17, 3) := by decide +kernel
theorem dX10_inSeason_19 : decode cX10_inSeason 19 = .ok (.iload_n 2, 1) := by decide +kernel
theorem dX10_inSeason_20 : decode cX10_inSeason 20 = .ok (.aload_n 0, 1) := by decide +kernel
theorem dX10_inSeason_21 : decode cX10_inSeason 21 = .ok (.aload_n 1, 1) := by decide +kernel
theorem dX10_inSeason_22 : decode cX10_inSeason 22 = .ok (.iconst 3, 1) := by decide +kernel
theorem dX10_inSeason_23 : decode cX10_inSeason 23 = .ok (.invokevirtual 287, 3) := by decide +kernel
theorem dX10_inSeason_26 : decode cX10_inSeason 26 = .ok (.if_icmp .ge 7, 3) := by decide +kernel
theorem dX10_inSeason_29 : decode cX10_inSeason 29 = .ok (.iconst 1, 1) := by decide +kernel
theorem dX10_inSeason_30 : decode cX10_inSeason 30 = .ok (.goto 4, 3) := by decide +kernel
theorem dX10_inSeason_33 : decode cX10_inSeason 33 = .ok (.iconst 0, 1) := by decide +kernel
theorem dX10_inSeason_34 : decode cX10_inSeason 34 = .ok (.ireturn, 1) := by decide +kernel
theorem dX10_worthNow_0 : decode cX10_worthNow 0 = .ok (.aload_n 0, 1) := by decide +kernel
theorem dX10_worthNow_1 : decode cX10_worthNow 1 = .ok (.getfield 25, 3) := by decide +kernel
theorem dX10_worthNow_4 : decode cX10_worthNow 4 = .ok (.aload_n 0, 1) := by decide +kernel
theorem dX10_worthNow_5 : decode cX10_worthNow 5 = .ok (.getfield 25, 3) := by decide +kernel
theorem dX10_worthNow_8 : decode cX10_worthNow 8 = .ok (.aload_n 1, 1) := by decide +kernel
theorem dX10_worthNow_9 : decode cX10_worthNow 9 = .ok (.iload_n 2, 1) := by decide +kernel
theorem dX10_worthNow_10 : decode cX10_worthNow 10 = .ok (.aload_n 0, 1) := by decide +kernel
theorem dX10_worthNow_11 : decode cX10_worthNow 11 = .ok (.getfield 142, 3) := by decide +kernel
theorem dX10_worthNow_14 : decode cX10_worthNow 14 = .ok (.aload_n 0, 1) := by decide +kernel
theorem dX10_worthNow_15 : decode cX10_worthNow 15 = .ok (.getfield 142, 3) := by decide +kernel
theorem dX10_worthNow_18 : decode cX10_worthNow 18 = .ok (.invokevirtual 219, 3) := by decide +kernel
theorem dX10_worthNow_21 : decode cX10_worthNow 21 = .ok (.iload_n 2, 1) := by decide +kernel
theorem dX10_worthNow_22 : decode cX10_worthNow 22 = .ok (.invokevirtual 223, 3) := by decide +kernel
theorem dX10_worthNow_25 : decode cX10_worthNow 25 = .ok (.ireturn, 1) := by decide +kernel
theorem dX10_writeDrive_0 : decode cX10_writeDrive 0 = .ok (.aload_n 0, 1) := by decide +kernel
theorem dX10_writeDrive_1 : decode cX10_writeDrive 1 = .ok (.getfield 65, 3) := by decide +kernel
theorem dX10_writeDrive_4 : decode cX10_writeDrive 4 = .ok (.iconst 0, 1) := by decide +kernel
theorem dX10_writeDrive_5 : decode cX10_writeDrive 5 = .ok (.aaload, 1) := by decide +kernel
theorem dX10_writeDrive_6 : decode cX10_writeDrive 6 = .ok (.aload_n 0, 1) := by decide +kernel
theorem dX10_writeDrive_7 : decode cX10_writeDrive 7 = .ok (.getfield 212, 3) := by decide +kernel
theorem dX10_writeDrive_10 : decode cX10_writeDrive 10 = .ok (.aload_n 0, 1) := by decide +kernel
theorem dX10_writeDrive_11 : decode cX10_writeDrive 11 = .ok (.getfield 142, 3) := by decide +kernel
theorem dX10_writeDrive_14 : decode cX10_writeDrive 14 = .ok (.iastore, 1) := by decide +kernel
theorem dX10_writeDrive_15 : decode cX10_writeDrive 15 = .ok (.aload_n 0, 1) := by decide +kernel
theorem dX10_writeDrive_16 : decode cX10_writeDrive 16 = .ok (.getfield 65, 3) := by decide +kernel
theorem dX10_writeDrive_19 : decode cX10_writeDrive 19 = .ok (.iconst 1, 1) := by decide +kernel
theorem dX10_writeDrive_20 : decode cX10_writeDrive 20 = .ok (.aaload, 1) := by decide +kernel
theorem dX10_writeDrive_21 : decode cX10_writeDrive 21 = .ok (.aload_n 0, 1) := by decide +kernel
theorem dX10_writeDrive_22 : decode cX10_writeDrive 22 = .ok (.getfield 212, 3) := by decide +kernel
theorem dX10_writeDrive_25 : decode cX10_writeDrive 25 = .ok (.iload_n 1, 1) := by decide +kernel
theorem dX10_writeDrive_26 : decode cX10_writeDrive 26 = .ok (.iastore, 1) := by decide +kernel
theorem dX10_writeDrive_27 : decode cX10_writeDrive 27 = .ok (.aload_n 0, 1) := by decide +kernel
theorem dX10_writeDrive_28 : decode cX10_writeDrive 28 = .ok (.getfield 65, 3) := by decide +kernel
theorem dX10_writeDrive_31 : decode cX10_writeDrive 31 = .ok (.iconst 2, 1) := by decide +kernel
theorem dX10_writeDrive_32 : decode cX10_writeDrive 32 = .ok (.aaload, 1) := by decide +kernel
theorem dX10_writeDrive_33 : decode cX10_writeDrive 33 = .ok (.aload_n 0, 1) := by decide +kernel
theorem dX10_writeDrive_34 : decode cX10_writeDrive 34 = .ok (.getfield 212, 3) := by decide +kernel
theorem dX10_writeDrive_37 : decode cX10_writeDrive 37 = .ok (.iload_n 2, 1) := by decide +kernel
theorem dX10_writeDrive_38 : decode cX10_writeDrive 38 = .ok (.iastore, 1) := by decide +kernel
theorem dX10_writeDrive_39 : decode cX10_writeDrive 39 = .ok (.aload_n 0, 1) := by decide +kernel
theorem dX10_writeDrive_40 : decode cX10_writeDrive 40 = .ok (.getfield 65, 3) := by decide +kernel
theorem dX10_writeDrive_43 : decode cX10_writeDrive 43 = .ok (.iconst 3, 1) := by decide +kernel
theorem dX10_writeDrive_44 : decode cX10_writeDrive 44 = .ok (.aaload, 1) := by decide +kernel
theorem dX10_writeDrive_45 : decode cX10_writeDrive 45 = .ok (.aload_n 0, 1) := by decide +kernel
theorem dX10_writeDrive_46 : decode cX10_writeDrive 46 = .ok (.getfield 212, 3) := by decide +kernel
theorem dX10_writeDrive_49 : decode cX10_writeDrive 49 = .ok (.iload_n 3, 1) := by decide +kernel
theorem dX10_writeDrive_50 : decode cX10_writeDrive 50 = .ok (.iastore, 1) := by decide +kernel
theorem dX10_writeDrive_51 : decode cX10_writeDrive 51 = .ok (.aload_n 0, 1) := by decide +kernel
theorem dX10_writeDrive_52 : decode cX10_writeDrive 52 = .ok (.getfield 65, 3) := by decide +kernel
theorem dX10_writeDrive_55 : decode cX10_writeDrive 55 = .ok (.iconst 4, 1) := by decide +kernel
theorem dX10_writeDrive_56 : decode cX10_writeDrive 56 = .ok (.aaload, 1) := by decide +kernel
theorem dX10_writeDrive_57 : decode cX10_writeDrive 57 = .ok (.aload_n 0, 1) := by decide +kernel
theorem dX10_writeDrive_58 : decode cX10_writeDrive 58 = .ok (.getfield 212, 3) := by decide +kernel
theorem dX10_writeDrive_61 : decode cX10_writeDrive 61 = .ok (.aload_n 0, 1) := by decide +kernel
theorem dX10_writeDrive_62 : decode cX10_writeDrive 62 = .ok (.getfield 25, 3) := by decide +kernel
theorem dX10_writeDrive_65 : decode cX10_writeDrive 65 = .ok (.aload_n 0, 1) := by decide +kernel
theorem dX10_writeDrive_66 : decode cX10_writeDrive 66 = .ok (.getfield 11, 3) := by decide +kernel
theorem dX10_writeDrive_69 : decode cX10_writeDrive 69 = .ok (.iload_n 1, 1) := by decide +kernel
theorem dX10_writeDrive_70 : decode cX10_writeDrive 70 = .ok (.aaload, 1) := by decide +kernel
theorem dX10_writeDrive_71 : decode cX10_writeDrive 71 = .ok (.iconst 1, 1) := by decide +kernel
theorem dX10_writeDrive_72 : decode cX10_writeDrive 72 = .ok (.aload_n 0, 1) := by decide +kernel
theorem dX10_writeDrive_73 : decode cX10_writeDrive 73 = .ok (.getfield 142, 3) := by decide +kernel
theorem dX10_writeDrive_76 : decode cX10_writeDrive 76 = .ok (.aload_n 0, 1) := by decide +kernel
theorem dX10_writeDrive_77 : decode cX10_writeDrive 77 = .ok (.getfield 142, 3) := by decide +kernel
theorem dX10_writeDrive_80 : decode cX10_writeDrive 80 = .ok (.invokevirtual 219, 3) := by decide +kernel
theorem dX10_writeDrive_83 : decode cX10_writeDrive 83 = .ok (.iastore, 1) := by decide +kernel
theorem dX10_writeDrive_84 : decode cX10_writeDrive 84 = .ok (.aload_n 0, 1) := by decide +kernel
theorem dX10_writeDrive_85 : decode cX10_writeDrive 85 = .ok (.getfield 65, 3) := by decide +kernel
theorem dX10_writeDrive_88 : decode cX10_writeDrive 88 = .ok (.iconst 5, 1) := by decide +kernel
theorem dX10_writeDrive_89 : decode cX10_writeDrive 89 = .ok (.aaload, 1) := by decide +kernel
theorem dX10_writeDrive_90 : decode cX10_writeDrive 90 = .ok (.aload_n 0, 1) := by decide +kernel
theorem dX10_writeDrive_91 : decode cX10_writeDrive 91 = .ok (.getfield 212, 3) := by decide +kernel
theorem dX10_writeDrive_94 : decode cX10_writeDrive 94 = .ok (.aload_n 0, 1) := by decide +kernel
theorem dX10_writeDrive_95 : decode cX10_writeDrive 95 = .ok (.getfield 25, 3) := by decide +kernel
theorem dX10_writeDrive_98 : decode cX10_writeDrive 98 = .ok (.aload_n 0, 1) := by decide +kernel
theorem dX10_writeDrive_99 : decode cX10_writeDrive 99 = .ok (.getfield 11, 3) := by decide +kernel
theorem dX10_writeDrive_102 : decode cX10_writeDrive 102 = .ok (.iload_n 1, 1) := by decide +kernel
theorem dX10_writeDrive_103 : decode cX10_writeDrive 103 = .ok (.aaload, 1) := by decide +kernel
theorem dX10_writeDrive_104 : decode cX10_writeDrive 104 = .ok (.iconst 0, 1) := by decide +kernel
theorem dX10_writeDrive_105 : decode cX10_writeDrive 105 = .ok (.aload_n 0, 1) := by decide +kernel
theorem dX10_writeDrive_106 : decode cX10_writeDrive 106 = .ok (.getfield 142, 3) := by decide +kernel
theorem dX10_writeDrive_109 : decode cX10_writeDrive 109 = .ok (.aload_n 0, 1) := by decide +kernel
theorem dX10_writeDrive_110 : decode cX10_writeDrive 110 = .ok (.getfield 142, 3) := by decide +kernel
theorem dX10_writeDrive_113 : decode cX10_writeDrive 113 = .ok (.invokevirtual 219, 3) := by decide +kernel
theorem dX10_writeDrive_116 : decode cX10_writeDrive 116 = .ok (.iastore, 1) := by decide +kernel
theorem dX10_writeDrive_117 : decode cX10_writeDrive 117 = .ok (.return_, 1) := by decide +kernel
theorem dX10_home_0 : decode cX10_home 0 = .ok (.aload_n 0, 1) := by decide +kernel
theorem dX10_home_1 : decode cX10_home 1 = .ok (.iload_n 1, 1) := by decide +kernel
theorem dX10_home_2 : decode cX10_home 2 = .ok (.invokevirtual 91, 3) := by decide +kernel
theorem dX10_home_5 : decode cX10_home 5 = .ok (.ifCond .eq 14, 3) := by decide +kernel
theorem dX10_home_8 : decode cX10_home 8 = .ok (.aload_n 0, 1) := by decide +kernel
theorem dX10_home_9 : decode cX10_home 9 = .ok (.getfield 39, 3) := by decide +kernel
theorem dX10_home_12 : decode cX10_home 12 = .ok (.iload_n 2, 1) := by decide +kernel
theorem dX10_home_13 : decode cX10_home 13 = .ok (.invokevirtual 258, 3) := by decide +kernel
theorem dX10_home_16 : decode cX10_home 16 = .ok (.ifCond .ne 5, 3) := by decide +kernel
theorem dX10_home_19 : decode cX10_home 19 = .ok (.iconst (-1), 1) := by decide +kernel
theorem dX10_home_20 : decode cX10_home 20 = .ok (.ireturn, 1) := by decide +kernel
theorem dX10_home_21 : decode cX10_home 21 = .ok (.aload_n 0, 1) := by decide +kernel
theorem dX10_home_22 : decode cX10_home 22 = .ok (.getfield 11, 3) := by decide +kernel
theorem dX10_home_25 : decode cX10_home 25 = .ok (.iload_n 1, 1) := by decide +kernel
theorem dX10_home_26 : decode cX10_home 26 = .ok (.aaload, 1) := by decide +kernel
theorem dX10_home_27 : decode cX10_home 27 = .ok (.astore 4, 2) := by decide +kernel
theorem dX10_home_29 : decode cX10_home 29 = .ok (.iload_n 3, 1) := by decide +kernel
theorem dX10_home_30 : decode cX10_home 30 = .ok (.iconst 1, 1) := by decide +kernel
theorem dX10_home_31 : decode cX10_home 31 = .ok (.if_icmp .lt 20, 3) := by decide +kernel
theorem dX10_home_34 : decode cX10_home 34 = .ok (.iload_n 3, 1) := by decide +kernel
theorem dX10_home_35 : decode cX10_home 35 = .ok (.bipush 99, 2) := by decide +kernel
theorem dX10_home_37 : decode cX10_home 37 = .ok (.if_icmp .gt 14, 3) := by decide +kernel
theorem dX10_home_40 : decode cX10_home 40 = .ok (.iload_n 3, 1) := by decide +kernel
theorem dX10_home_41 : decode cX10_home 41 = .ok (.aload 4, 2) := by decide +kernel
theorem dX10_home_43 : decode cX10_home 43 = .ok (.getfield 274, 3) := by decide +kernel
theorem dX10_home_46 : decode cX10_home 46 = .ok (.iload_n 2, 1) := by decide +kernel
theorem dX10_home_47 : decode cX10_home 47 = .ok (.iaload, 1) := by decide +kernel
theorem dX10_home_48 : decode cX10_home 48 = .ok (.if_icmp .le 6, 3) := by decide +kernel
theorem dX10_home_51 : decode cX10_home 51 = .ok (.bipush (-2), 2) := by decide +kernel
theorem dX10_home_53 : decode cX10_home 53 = .ok (.ireturn, 1) := by decide +kernel
theorem dX10_home_54 : decode cX10_home 54 = .ok (.aload 4, 2) := by decide +kernel
theorem dX10_home_56 : decode cX10_home 56 = .ok (.getfield 274, 3) := by decide +kernel
theorem dX10_home_59 : decode cX10_home 59 = .ok (.iload_n 2, 1) := by decide +kernel
theorem dX10_home_60 : decode cX10_home 60 = .ok (.dup2, 1) := by decide +kernel
theorem dX10_home_61 : decode cX10_home 61 = .ok (.iaload, 1) := by decide +kernel
theorem dX10_home_62 : decode cX10_home 62 = .ok (.iload_n 3, 1) := by decide +kernel
theorem dX10_home_63 : decode cX10_home 63 = .ok (.isub, 1) := by decide +kernel
theorem dX10_home_64 : decode cX10_home 64 = .ok (.iastore, 1) := by decide +kernel
theorem dX10_home_65 : decode cX10_home 65 = .ok (.aload 4, 2) := by decide +kernel
theorem dX10_home_67 : decode cX10_home 67 = .ok (.getfield 274, 3) := by decide +kernel
theorem dX10_home_70 : decode cX10_home 70 = .ok (.iload_n 2, 1) := by decide +kernel
theorem dX10_home_71 : decode cX10_home 71 = .ok (.iaload, 1) := by decide +kernel
theorem dX10_home_72 : decode cX10_home 72 = .ok (.ireturn, 1) := by decide +kernel
theorem dX10_book_0 : decode cX10_book 0 = .ok (.iload_n 1, 1) := by decide +kernel
theorem dX10_book_1 : decode cX10_book 1 = .ok (.ifCond .lt 28, 3) := by decide +kernel
theorem dX10_book_4 : decode cX10_book 4 = .ok (.iload_n 1, 1) := by decide +kernel
theorem dX10_book_5 : decode cX10_book 5 = .ok (.aload_n 0, 1) := by decide +kernel
theorem dX10_book_6 : decode cX10_book 6 = .ok (.getfield 212, 3) := by decide +kernel
theorem dX10_book_9 : decode cX10_book 9 = .ok (.if_icmp .ge 20, 3) := by decide +kernel
theorem dX10_book_12 : decode cX10_book 12 = .ok (.iload_n 1, 1) := by decide +kernel
theorem dX10_book_13 : decode cX10_book 13 = .ok (.sipush 200, 3) := by decide +kernel
theorem dX10_book_16 : decode cX10_book 16 = .ok (.if_icmp .ge 13, 3) := by decide +kernel
theorem dX10_book_19 : decode cX10_book 19 = .ok (.iload_n 2, 1) := by decide +kernel
theorem dX10_book_20 : decode cX10_book 20 = .ok (.ifCond .lt 9, 3) := by decide +kernel
theorem dX10_book_23 : decode cX10_book 23 = .ok (.iload_n 2, 1) := by decide +kernel
theorem dX10_book_24 : decode cX10_book 24 = .ok (.bipush 6, 2) := by decide +kernel
theorem dX10_book_26 : decode cX10_book 26 = .ok (.if_icmp .lt 6, 3) := by decide +kernel
theorem dX10_book_29 : decode cX10_book 29 = .ok (.bipush (-5), 2) := by decide +kernel
theorem dX10_book_31 : decode cX10_book 31 = .ok (.ireturn, 1) := by decide +kernel
theorem dX10_book_32 : decode cX10_book 32 = .ok (.aload_n 0, 1) := by decide +kernel
theorem dX10_book_33 : decode cX10_book 33 = .ok (.getfield 65, 3) := by decide +kernel
theorem dX10_book_36 : decode cX10_book 36 = .ok (.iload_n 2, 1) := by decide +kernel
theorem dX10_book_37 : decode cX10_book 37 = .ok (.aaload, 1) := by decide +kernel
theorem dX10_book_38 : decode cX10_book 38 = .ok (.iload_n 1, 1) := by decide +kernel
theorem dX10_book_39 : decode cX10_book 39 = .ok (.iaload, 1) := by decide +kernel
theorem dX10_book_40 : decode cX10_book 40 = .ok (.ireturn, 1) := by decide +kernel
theorem dX10_days_0 : decode cX10_days 0 = .ok (.iload_n 1, 1) := by decide +kernel
theorem dX10_days_1 : decode cX10_days 1 = .ok (.iconst 1, 1) := by decide +kernel
theorem dX10_days_2 : decode cX10_days 2 = .ok (.if_icmp .lt 21, 3) := by decide +kernel
theorem dX10_days_5 : decode cX10_days 5 = .ok (.iload_n 1, 1) := by decide +kernel
theorem dX10_days_6 : decode cX10_days 6 = .ok (.bipush 120, 2) := by decide +kernel
theorem dX10_days_8 : decode cX10_days 8 = .ok (.if_icmp .gt 15, 3) := by decide +kernel
theorem dX10_days_11 : decode cX10_days 11 = .ok (.iload_n 1, 1) := by decide +kernel
theorem dX10_days_12 : decode cX10_days 12 = .ok (.sipush 7199, 3) := by decide +kernel
theorem dX10_days_15 : decode cX10_days 15 = .ok (.aload_n 0, 1) := by decide +kernel
theorem dX10_days_16 : decode cX10_days 16 = .ok (.getfield 142, 3) := by decide +kernel
theorem dX10_days_19 : decode cX10_days 19 = .ok (.isub, 1) := by decide +kernel
theorem dX10_days_20 : decode cX10_days 20 = .ok (.if_icmp .le 6, 3) := by decide +kernel
theorem dX10_days_23 : decode cX10_days 23 = .ok (.bipush (-2), 2) := by decide +kernel
theorem dX10_days_25 : decode cX10_days 25 = .ok (.ireturn, 1) := by decide +kernel
theorem dX10_days_26 : decode cX10_days 26 = .ok (.iconst 0, 1) := by decide +kernel
theorem dX10_days_27 : decode cX10_days 27 = .ok (.istore_n 2, 1) := by decide +kernel
theorem dX10_days_28 : decode cX10_days 28 = .ok (.iload_n 2, 1) := by decide +kernel
theorem dX10_days_29 : decode cX10_days 29 = .ok (.iload_n 1, 1) := by decide +kernel
theorem dX10_days_30 : decode cX10_days 30 = .ok (.if_icmp .ge 13, 3) := by decide +kernel
theorem dX10_days_33 : decode cX10_days 33 = .ok (.aload_n 0, 1) := by decide +kernel
theorem dX10_days_34 : decode cX10_days 34 = .ok (.invokevirtual 291, 3) := by decide +kernel
theorem dX10_days_37 : decode cX10_days 37 = .ok (.iinc 2 1, 3) := by decide +kernel
theorem dX10_days_40 : decode cX10_days 40 = .ok (.goto (-12), 3) := by decide +kernel
theorem dX10_days_43 : decode cX10_days 43 = .ok (.aload_n 0, 1) := by decide +kernel
theorem dX10_days_44 : decode cX10_days 44 = .ok (.getfield 142, 3) := by decide +kernel
theorem dX10_days_47 : decode cX10_days 47 = .ok (.ireturn, 1) := by decide +kernel
theorem dX10_liveDay_0 : decode cX10_liveDay 0 = .ok (.aload_n 0, 1) := by decide +kernel
theorem dX10_liveDay_1 : decode cX10_liveDay 1 = .ok (.getfield 32, 3) := by decide +kernel
theorem dX10_liveDay_4 : decode cX10_liveDay 4 = .ok (.aload_n 0, 1) := by decide +kernel
theorem dX10_liveDay_5 : decode cX10_liveDay 5 = .ok (.getfield 142, 3) := by decide +kernel
theorem dX10_liveDay_8 : decode cX10_liveDay 8 = .ok (.iconst 0, 1) := by decide +kernel
theorem dX10_liveDay_9 : decode cX10_liveDay 9 = .ok (.invokevirtual 252, 3) := by decide +kernel
theorem dX10_liveDay_12 : decode cX10_liveDay 12 = .ok (.istore_n 1, 1) := by decide +kernel
theorem dX10_liveDay_13 : decode cX10_liveDay 13 = .ok (.aload_n 0, 1) := by decide +kernel
theorem dX10_liveDay_14 : decode cX10_liveDay 14 = .ok (.getfield 32, 3) := by decide +kernel
theorem dX10_liveDay_17 : decode cX10_liveDay 17 = .ok (.aload_n 0, 1) := by decide +kernel
theorem dX10_liveDay_18 : decode cX10_liveDay 18 = .ok (.getfield 142, 3) := by decide +kernel
theorem dX10_liveDay_21 : decode cX10_liveDay 21 = .ok (.iconst 1, 1) := by decide +kernel
theorem dX10_liveDay_22 : decode cX10_liveDay 22 = .ok (.invokevirtual 252, 3) := by decide +kernel
theorem dX10_liveDay_25 : decode cX10_liveDay 25 = .ok (.istore_n 2, 1) := by decide +kernel
theorem dX10_liveDay_26 : decode cX10_liveDay 26 = .ok (.iconst 0, 1) := by decide +kernel
theorem dX10_liveDay_27 : decode cX10_liveDay 27 = .ok (.istore_n 3, 1) := by decide +kernel
theorem dX10_liveDay_28 : decode cX10_liveDay 28 = .ok (.iload_n 3, 1) := by decide +kernel
theorem dX10_liveDay_29 : decode cX10_liveDay 29 = .ok (.aload_n 0, 1) := by decide +kernel
theorem dX10_liveDay_30 : decode cX10_liveDay 30 = .ok (.getfield 85, 3) := by decide +kernel
theorem dX10_liveDay_33 : decode cX10_liveDay 33 = .ok (.if_icmp .ge 19, 3) := by decide +kernel
theorem dX10_liveDay_36 : decode cX10_liveDay 36 = .ok (.aload_n 0, 1) := by decide +kernel
theorem dX10_liveDay_37 : decode cX10_liveDay 37 = .ok (.getfield 11, 3) := by decide +kernel
theorem dX10_liveDay_40 : decode cX10_liveDay 40 = .ok (.iload_n 3, 1) := by decide +kernel
theorem dX10_liveDay_41 : decode cX10_liveDay 41 = .ok (.aaload, 1) := by decide +kernel
theorem dX10_liveDay_42 : decode cX10_liveDay 42 = .ok (.iconst 0, 1) := by decide +kernel
theorem dX10_liveDay_43 : decode cX10_liveDay 43 = .ok (.putfield 108, 3) := by decide +kernel
theorem dX10_liveDay_46 : decode cX10_liveDay 46 = .ok (.iinc 3 1, 3) := by decide +kernel
theorem dX10_liveDay_49 : decode cX10_liveDay 49 = .ok (.goto (-21), 3) := by decide +kernel
theorem dX10_liveDay_52 : decode cX10_liveDay 52 = .ok (.iconst 0, 1) := by decide +kernel
theorem dX10_liveDay_53 : decode cX10_liveDay 53 = .ok (.istore_n 3, 1) := by decide +kernel
theorem dX10_liveDay_54 : decode cX10_liveDay 54 = .ok (.iload_n 3, 1) := by decide +kernel
theorem dX10_liveDay_55 : decode cX10_liveDay 55 = .ok (.aload_n 0, 1) := by decide +kernel
theorem dX10_liveDay_56 : decode cX10_liveDay 56 = .ok (.getfield 39, 3) := by decide +kernel
theorem dX10_liveDay_59 : decode cX10_liveDay 59 = .ok (.getfield 255, 3) := by decide +kernel
theorem dX10_liveDay_62 : decode cX10_liveDay 62 = .ok (.if_icmp .ge 24, 3) := by decide +kernel
theorem dX10_liveDay_65 : decode cX10_liveDay 65 = .ok (.aload_n 0, 1) := by decide +kernel
theorem dX10_liveDay_66 : decode cX10_liveDay 66 = .ok (.getfield 39, 3) := by decide +kernel
theorem dX10_liveDay_69 : decode cX10_liveDay 69 = .ok (.iload_n 3, 1) := by decide +kernel
theorem dX10_liveDay_70 : decode cX10_liveDay 70 = .ok (.iload_n 1, 1) := by decide +kernel
theorem dX10_liveDay_71 : decode cX10_liveDay 71 = .ok (.iload_n 2, 1) := by decide +kernel
theorem dX10_liveDay_72 : decode cX10_liveDay 72 = .ok (.invokevirtual 294, 3) := by decide +kernel
theorem dX10_liveDay_75 : decode cX10_liveDay 75 = .ok (.aload_n 0, 1) := by decide +kernel
theorem dX10_liveDay_76 : decode cX10_liveDay 76 = .ok (.iload_n 3, 1) := by decide +kernel
theorem dX10_liveDay_77 : decode cX10_liveDay 77 = .ok (.invokevirtual 297, 3) := by decide +kernel
theorem dX10_liveDay_80 : decode cX10_liveDay 80 = .ok (.iinc 3 1, 3) := by decide +kernel
theorem dX10_liveDay_83 : decode cX10_liveDay 83 = .ok (.goto (-29), 3) := by decide +kernel
theorem dX10_liveDay_86 : decode cX10_liveDay 86 = .ok (.aload_n 0, 1) := by decide +kernel
theorem dX10_liveDay_87 : decode cX10_liveDay 87 = .ok (.getfield 142, 3) := by decide +kernel
theorem dX10_liveDay_90 : decode cX10_liveDay 90 = .ok (.sipush 360, 3) := by decide +kernel
theorem dX10_liveDay_93 : decode cX10_liveDay 93 = .ok (.irem, 1) := by decide +kernel
theorem dX10_liveDay_94 : decode cX10_liveDay 94 = .ok (.istore_n 3, 1) := by decide +kernel
theorem dX10_liveDay_95 : decode cX10_liveDay 95 = .ok (.iconst 0, 1) := by decide +kernel
theorem dX10_liveDay_96 : decode cX10_liveDay 96 = .ok (.istore 4, 2) := by decide +kernel
theorem dX10_liveDay_98 : decode cX10_liveDay 98 = .ok (.iload 4, 2) := by decide +kernel
theorem dX10_liveDay_100 : decode cX10_liveDay 100 = .ok (.aload_n 0, 1) := by decide +kernel
theorem dX10_liveDay_101 : decode cX10_liveDay 101 = .ok (.getfield 85, 3) := by decide +kernel
theorem dX10_liveDay_104 : decode cX10_liveDay 104 = .ok (.if_icmp .ge 75, 3) := by decide +kernel
theorem dX10_liveDay_107 : decode cX10_liveDay 107 = .ok (.aload_n 0, 1) := by decide +kernel
theorem dX10_liveDay_108 : decode cX10_liveDay 108 = .ok (.getfield 11, 3) := by decide +kernel
theorem dX10_liveDay_111 : decode cX10_liveDay 111 = .ok (.iload 4, 2) := by decide +kernel
theorem dX10_liveDay_113 : decode cX10_liveDay 113 = .ok (.aaload, 1) := by decide +kernel
theorem dX10_liveDay_114 : decode cX10_liveDay 114 = .ok (.astore 5, 2) := by decide +kernel
theorem dX10_liveDay_116 : decode cX10_liveDay 116 = .ok (.iload_n 3, 1) := by decide +kernel
theorem dX10_liveDay_117 : decode cX10_liveDay 117 = .ok (.bipush 120, 2) := by decide +kernel
theorem dX10_liveDay_119 : decode cX10_liveDay 119 = .ok (.if_icmp .lt 10, 3) := by decide +kernel
theorem dX10_liveDay_122 : decode cX10_liveDay 122 = .ok (.iload_n 3, 1) := by decide +kernel
theorem dX10_liveDay_123 : decode cX10_liveDay 123 = .ok (.sipush 300, 3) := by decide +kernel
theorem dX10_liveDay_126 : decode cX10_liveDay 126 = .ok (.if_icmp .lt 8, 3) := by decide +kernel
theorem dX10_liveDay_129 : decode cX10_liveDay 129 = .ok (.aload 5, 2) := by decide +kernel
theorem dX10_liveDay_131 : decode cX10_liveDay 131 = .ok (.invokevirtual 301, 3) := by decide +kernel
theorem dX10_liveDay_134 : decode cX10_liveDay 134 = .ok (.aload 5, 2) := by decide +kernel
theorem dX10_liveDay_136 : decode cX10_liveDay 136 = .ok (.invokevirtual 95, 3) := by decide +kernel
theorem dX10_liveDay_139 : decode cX10_liveDay 139 = .ok (.istore 6, 2) := by decide +kernel
theorem dX10_liveDay_141 : decode cX10_liveDay 141 = .ok (.iload 6, 2) := by decide +kernel
theorem dX10_liveDay_143 : decode cX10_liveDay 143 = .ok (.ifCond .le 30, 3) := by decide +kernel
theorem dX10_liveDay_146 : decode cX10_liveDay 146 = .ok (.aload_n 0, 1) := by decide +kernel
theorem dX10_liveDay_147 : decode cX10_liveDay 147 = .ok (.aload 5, 2) := by decide +kernel
theorem dX10_liveDay_149 : decode cX10_liveDay 149 = .ok (.invokevirtual 283, 3) := by decide +kernel
theorem dX10_liveDay_152 : decode cX10_liveDay 152 = .ok (.ifCond .ne 21, 3) := by decide +kernel
theorem dX10_liveDay_155 : decode cX10_liveDay 155 = .ok (.aload 5, 2) := by decide +kernel
theorem dX10_liveDay_157 : decode cX10_liveDay 157 = .ok (.iload 6, 2) := by decide +kernel
theorem dX10_liveDay_159 : decode cX10_liveDay 159 = .ok (.i2l, 1) := by decide +kernel
theorem dX10_liveDay_160 : decode cX10_liveDay 160 = .ok (.aload_n 0, 1) := by decide +kernel
theorem dX10_liveDay_161 : decode cX10_liveDay 161 = .ok (.aload 5, 2) := by decide +kernel
theorem dX10_liveDay_163 : decode cX10_liveDay 163 = .ok (.iconst 5, 1) := by decide +kernel
theorem dX10_liveDay_164 : decode cX10_liveDay 164 = .ok (.invokevirtual 287, 3) := by decide +kernel
theorem dX10_liveDay_167 : decode cX10_liveDay 167 = .ok (.i2l, 1) := by decide +kernel
theorem dX10_liveDay_168 : decode cX10_liveDay 168 = .ok (.lmul, 1) := by decide +kernel
theorem dX10_liveDay_169 : decode cX10_liveDay 169 = .ok (.invokevirtual 304, 3) := by decide +kernel
theorem dX10_liveDay_172 : decode cX10_liveDay 172 = .ok (.pop, 1) := by decide +kernel
theorem dX10_liveDay_173 : decode cX10_liveDay 173 = .ok (.iinc 4 1, 3) := by decide +kernel
theorem dX10_liveDay_176 : decode cX10_liveDay 176 = .ok (.goto (-78), 3) := by decide +kernel
theorem dX10_liveDay_179 : decode cX10_liveDay 179 = .ok (.aload_n 0, 1) := by decide +kernel
theorem dX10_liveDay_180 : decode cX10_liveDay 180 = .ok (.getfield 46, 3) := by decide +kernel
theorem dX10_liveDay_183 : decode cX10_liveDay 183 = .ok (.iload_n 1, 1) := by decide +kernel
theorem dX10_liveDay_184 : decode cX10_liveDay 184 = .ok (.iload_n 2, 1) := by decide +kernel
theorem dX10_liveDay_185 : decode cX10_liveDay 185 = .ok (.invokevirtual 308, 3) := by decide +kernel
theorem dX10_liveDay_188 : decode cX10_liveDay 188 = .ok (.iload_n 3, 1) := by decide +kernel
theorem dX10_liveDay_189 : decode cX10_liveDay 189 = .ok (.ifCond .ne 10, 3) := by decide +kernel
theorem dX10_liveDay_192 : decode cX10_liveDay 192 = .ok (.aload_n 0, 1) := by decide +kernel
theorem dX10_liveDay_193 : decode cX10_liveDay 193 = .ok (.getfield 46, 3) := by decide +kernel
theorem dX10_liveDay_196 : decode cX10_liveDay 196 = .ok (.invokevirtual 312, 3) := by decide +kernel
theorem dX10_liveDay_199 : decode cX10_liveDay 199 = .ok (.aload_n 0, 1) := by decide +kernel
theorem dX10_liveDay_200 : decode cX10_liveDay 200 = .ok (.iconst 1, 1) := by decide +kernel
theorem dX10_liveDay_201 : decode cX10_liveDay 201 = .ok (.putfield 315, 3) := by decide +kernel
theorem dX10_liveDay_204 : decode cX10_liveDay 204 = .ok (.aload_n 0, 1) := by decide +kernel
theorem dX10_liveDay_205 : decode cX10_liveDay 205 = .ok (.dup, 1) := by decide +kernel
theorem dX10_liveDay_206 : decode cX10_liveDay 206 = .ok (.getfield 142, 3) := by decide +kernel
theorem dX10_liveDay_209 : decode cX10_liveDay 209 = .ok (.iconst 1, 1) := by decide +kernel
theorem dX10_liveDay_210 : decode cX10_liveDay 210 = .ok (.iadd, 1) := by decide +kernel
theorem dX10_liveDay_211 : decode cX10_liveDay 211 = .ok (.putfield 142, 3) := by decide +kernel
theorem dX10_liveDay_214 : decode cX10_liveDay 214 = .ok (.return_, 1) := by decide +kernel
theorem dX10_graze_0 : decode cX10_graze 0 = .ok (.iconst 0, 1) := by decide +kernel
theorem dX10_graze_1 : decode cX10_graze 1 = .ok (.istore_n 2, 1) := by decide +kernel
theorem dX10_graze_2 : decode cX10_graze 2 = .ok (.iload_n 2, 1) := by decide +kernel
theorem dX10_graze_3 : decode cX10_graze 3 = .ok (.aload_n 0, 1) := by decide +kernel
theorem dX10_graze_4 : decode cX10_graze 4 = .ok (.getfield 85, 3) := by decide +kernel
theorem dX10_graze_7 : decode cX10_graze 7 = .ok (.if_icmp .ge 64, 3) := by decide +kernel
theorem dX10_graze_10 : decode cX10_graze 10 = .ok (.aload_n 0, 1) := by decide +kernel
theorem dX10_graze_11 : decode cX10_graze 11 = .ok (.getfield 11, 3) := by decide +kernel
theorem dX10_graze_14 : decode cX10_graze 14 = .ok (.iload_n 2, 1) := by decide +kernel
theorem dX10_graze_15 : decode cX10_graze 15 = .ok (.aaload, 1) := by decide +kernel
theorem dX10_graze_16 : decode cX10_graze 16 = .ok (.astore_n 3, 1) := by decide +kernel
theorem dX10_graze_17 : decode cX10_graze 17 = .ok (.aload_n 0, 1) := by decide +kernel
theorem dX10_graze_18 : decode cX10_graze 18 = .ok (.getfield 39, 3) := by decide +kernel
theorem dX10_graze_21 : decode cX10_graze 21 = .ok (.iload_n 1, 1) := by decide +kernel
theorem dX10_graze_22 : decode cX10_graze 22 = .ok (.aload_n 3, 1) := by decide +kernel
theorem dX10_graze_23 : decode cX10_graze 23 = .ok (.getfield 274, 3) := by decide +kernel
theorem dX10_graze_26 : decode cX10_graze 26 = .ok (.iload_n 1, 1) := by decide +kernel
theorem dX10_graze_27 : decode cX10_graze 27 = .ok (.iaload, 1) := by decide +kernel
theorem dX10_graze_28 : decode cX10_graze 28 = .ok (.invokevirtual 318, 3) := by decide +kernel
theorem dX10_graze_31 : decode cX10_graze 31 = .ok (.istore 4, 2) := by decide +kernel
theorem dX10_graze_33 : decode cX10_graze 33 = .ok (.aload_n 3, 1) := by decide +kernel
theorem dX10_graze_34 : decode cX10_graze 34 = .ok (.dup, 1) := by decide +kernel
theorem dX10_graze_35 : decode cX10_graze 35 = .ok (.getfield 108, 3) := by decide +kernel
theorem dX10_graze_38 : decode cX10_graze 38 = .ok (.bipush 8, 2) := by decide +kernel
theorem dX10_graze_40 : decode cX10_graze 40 = .ok (.iload 4, 2) := by decide +kernel
theorem dX10_graze_42 : decode cX10_graze 42 = .ok (.imul, 1) := by decide +kernel
theorem dX10_graze_43 : decode cX10_graze 43 = .ok (.iadd, 1) := by decide +kernel
theorem dX10_graze_44 : decode cX10_graze 44 = .ok (.putfield 108, 3) := by decide +kernel
theorem dX10_graze_47 : decode cX10_graze 47 = .ok (.aload_n 3, 1) := by decide +kernel
theorem dX10_graze_48 : decode cX10_graze 48 = .ok (.dup, 1) := by decide +kernel
theorem dX10_graze_49 : decode cX10_graze 49 = .ok (.getfield 105, 3) := by decide +kernel
theorem dX10_graze_52 : decode cX10_graze 52 = .ok (.aload_n 3, 1) := by decide +kernel
theorem dX10_graze_53 : decode cX10_graze 53 = .ok (.getfield 274, 3) := by decide +kernel
theorem dX10_graze_56 : decode cX10_graze 56 = .ok (.iload_n 1, 1) := by decide +kernel
theorem dX10_graze_57 : decode cX10_graze 57 = .ok (.iaload, 1) := by decide +kernel
theorem dX10_graze_58 : decode cX10_graze 58 = .ok (.iload 4, 2) := by decide +kernel
theorem dX10_graze_60 : decode cX10_graze 60 = .ok (.isub, 1) := by decide +kernel
theorem dX10_graze_61 : decode cX10_graze 61 = .ok (.iadd, 1) := by decide +kernel
theorem dX10_graze_62 : decode cX10_graze 62 = .ok (.putfield 105, 3) := by decide +kernel
theorem dX10_graze_65 : decode cX10_graze 65 = .ok (.iinc 2 1, 3) := by decide +kernel
theorem dX10_graze_68 : decode cX10_graze 68 = .ok (.goto (-66), 3) := by decide +kernel
theorem dX10_graze_71 : decode cX10_graze 71 = .ok (.return_, 1) := by decide +kernel
theorem dX10_slope_0 : decode cX10_slope 0 = .ok (.iload_n 1, 1) := by decide +kernel
theorem dX10_slope_1 : decode cX10_slope 1 = .ok (.ifCond .lt 10, 3) := by decide +kernel
theorem dX10_slope_4 : decode cX10_slope 4 = .ok (.iload_n 1, 1) := by decide +kernel
theorem dX10_slope_5 : decode cX10_slope 5 = .ok (.sipush 400, 3) := by decide +kernel
theorem dX10_slope_8 : decode cX10_slope 8 = .ok (.if_icmp .le 6, 3) := by decide +kernel
theorem dX10_slope_11 : decode cX10_slope 11 = .ok (.bipush (-2), 2) := by decide +kernel
theorem dX10_slope_13 : decode cX10_slope 13 = .ok (.ireturn, 1) := by decide +kernel
theorem dX10_slope_14 : decode cX10_slope 14 = .ok (.aload_n 0, 1) := by decide +kernel
theorem dX10_slope_15 : decode cX10_slope 15 = .ok (.getfield 46, 3) := by decide +kernel
theorem dX10_slope_18 : decode cX10_slope 18 = .ok (.getfield 321, 3) := by decide +kernel
theorem dX10_slope_21 : decode cX10_slope 21 = .ok (.bipush 6, 2) := by decide +kernel
theorem dX10_slope_23 : decode cX10_slope 23 = .ok (.if_icmp .lt 6, 3) := by decide +kernel
theorem dX10_slope_26 : decode cX10_slope 26 = .ok (.bipush (-4), 2) := by decide +kernel
theorem dX10_slope_28 : decode cX10_slope 28 = .ok (.ireturn, 1) := by decide +kernel
theorem dX10_slope_29 : decode cX10_slope 29 = .ok (.aload_n 0, 1) := by decide +kernel
theorem dX10_slope_30 : decode cX10_slope 30 = .ok (.getfield 46, 3) := by decide +kernel
theorem dX10_slope_33 : decode cX10_slope 33 = .ok (.getfield 322, 3) := by decide +kernel
theorem dX10_slope_36 : decode cX10_slope 36 = .ok (.aload_n 0, 1) := by decide +kernel
theorem dX10_slope_37 : decode cX10_slope 37 = .ok (.getfield 46, 3) := by decide +kernel
theorem dX10_slope_40 : decode cX10_slope 40 = .ok (.getfield 321, 3) := by decide +kernel
theorem dX10_slope_43 : decode cX10_slope 43 = .ok (.aaload, 1) := by decide +kernel
theorem dX10_slope_44 : decode cX10_slope 44 = .ok (.iload_n 1, 1) := by decide +kernel
theorem dX10_slope_45 : decode cX10_slope 45 = .ok (.putfield 326, 3) := by decide +kernel
theorem dX10_slope_48 : decode cX10_slope 48 = .ok (.aload_n 0, 1) := by decide +kernel
theorem dX10_slope_49 : decode cX10_slope 49 = .ok (.getfield 46, 3) := by decide +kernel
theorem dX10_slope_52 : decode cX10_slope 52 = .ok (.dup, 1) := by decide +kernel
theorem dX10_slope_53 : decode cX10_slope 53 = .ok (.getfield 321, 3) := by decide +kernel
theorem dX10_slope_56 : decode cX10_slope 56 = .ok (.dup_x1, 1) := by decide +kernel
theorem dX10_slope_57 : decode cX10_slope 57 = .ok (.iconst 1, 1) := by decide +kernel
theorem dX10_slope_58 : decode cX10_slope 58 = .ok (.iadd, 1) := by decide +kernel
theorem dX10_slope_59 : decode cX10_slope 59 = .ok (.putfield 321, 3) := by decide +kernel
theorem dX10_slope_62 : decode cX10_slope 62 = .ok (.ireturn, 1) := by decide +kernel
theorem dX10_slopeOf_0 : decode cX10_slopeOf 0 = .ok (.aload_n 0, 1) := by decide +kernel
theorem dX10_slopeOf_1 : decode cX10_slopeOf 1 = .ok (.getfield 46, 3) := by decide +kernel
theorem dX10_slopeOf_4 : decode cX10_slopeOf 4 = .ok (.iload_n 1, 1) := by decide +kernel
theorem dX10_slopeOf_5 : decode cX10_slopeOf 5 = .ok (.invokevirtual 331, 3) := by decide +kernel
theorem dX10_slopeOf_8 : decode cX10_slopeOf 8 = .ok (.ifCond .ne 7, 3) := by decide +kernel
theorem dX10_slopeOf_11 : decode cX10_slopeOf 11 = .ok (.sipush (-500), 3) := by decide +kernel
theorem dX10_slopeOf_14 : decode cX10_slopeOf 14 = .ok (.ireturn, 1) := by decide +kernel
theorem dX10_slopeOf_15 : decode cX10_slopeOf 15 = .ok (.aload_n 0, 1) := by decide +kernel
theorem dX10_slopeOf_16 : decode cX10_slopeOf 16 = .ok (.getfield 46, 3) := by decide +kernel
theorem dX10_slopeOf_19 : decode cX10_slopeOf 19 = .ok (.getfield 322, 3) := by decide +kernel
theorem dX10_slopeOf_22 : decode cX10_slopeOf 22 = .ok (.iload_n 1, 1) := by decide +kernel
theorem dX10_slopeOf_23 : decode cX10_slopeOf 23 = .ok (.aaload, 1) := by decide +kernel
theorem dX10_slopeOf_24 : decode cX10_slopeOf 24 = .ok (.astore_n 3, 1) := by decide +kernel
theorem dX10_slopeOf_25 : decode cX10_slopeOf 25 = .ok (.iload_n 2, 1) := by decide +kernel
theorem dX10_slopeOf_26 : decode cX10_slopeOf 26 = .ok (.tableswitch 94 0 6 #[42, 47, 60, 65, 71, 80, 89], 42) := by decide +kernel
theorem dX10_slopeOf_68 : decode cX10_slopeOf 68 = .ok (.aload_n 3, 1) := by decide +kernel
theorem dX10_slopeOf_69 : decode cX10_slopeOf 69 = .ok (.getfield 326, 3) := by decide +kernel
theorem dX10_slopeOf_72 : decode cX10_slopeOf 72 = .ok (.ireturn, 1) := by decide +kernel
theorem dX10_slopeOf_73 : decode cX10_slopeOf 73 = .ok (.aload_n 3, 1) := by decide +kernel
theorem dX10_slopeOf_74 : decode cX10_slopeOf 74 = .ok (.getfield 332, 3) := by decide +kernel
theorem dX10_slopeOf_77 : decode cX10_slopeOf 77 = .ok (.ifCond .eq 7, 3) := by decide +kernel
theorem dX10_slopeOf_80 : decode cX10_slopeOf 80 = .ok (.iconst 1, 1) := by decide +kernel
theorem dX10_slopeOf_81 : decode cX10_slopeOf 81 = .ok (.goto 4, 3) := by decide +kernel
theorem dX10_slopeOf_84 : decode cX10_slopeOf 84 = .ok (.iconst 0, 1) := by decide +kernel
theorem dX10_slopeOf_85 : decode cX10_slopeOf 85 = .ok (.ireturn, 1) := by decide +kernel
theorem dX10_slopeOf_86 : decode cX10_slopeOf 86 = .ok (.aload_n 3, 1) := by decide +kernel
theorem dX10_slopeOf_87 : decode cX10_slopeOf 87 = .ok (.getfield 335, 3) := by decide +kernel
theorem dX10_slopeOf_90 : decode cX10_slopeOf 90 = .ok (.ireturn, 1) := by decide +kernel
theorem dX10_slopeOf_91 : decode cX10_slopeOf 91 = .ok (.aload_n 3, 1) := by decide +kernel
theorem dX10_slopeOf_92 : decode cX10_slopeOf 92 = .ok (.iconst 0, 1) := by decide +kernel
theorem dX10_slopeOf_93 : decode cX10_slopeOf 93 = .ok (.invokevirtual 338, 3) := by decide +kernel
theorem dX10_slopeOf_96 : decode cX10_slopeOf 96 = .ok (.ireturn, 1) := by decide +kernel
theorem dX10_slopeOf_97 : decode cX10_slopeOf 97 = .ok (.aload_n 3, 1) := by decide +kernel
theorem dX10_slopeOf_98 : decode cX10_slopeOf 98 = .ok (.aload_n 3, 1) := by decide +kernel
theorem dX10_slopeOf_99 : decode cX10_slopeOf 99 = .ok (.getfield 326, 3) := by decide +kernel
theorem dX10_slopeOf_102 : decode cX10_slopeOf 102 = .ok (.invokevirtual 341, 3) := by decide +kernel
theorem dX10_slopeOf_105 : decode cX10_slopeOf 105 = .ok (.ireturn, 1) := by decide +kernel
theorem dX10_slopeOf_106 : decode cX10_slopeOf 106 = .ok (.aload_n 3, 1) := by decide +kernel
theorem dX10_slopeOf_107 : decode cX10_slopeOf 107 = .ok (.aload_n 3, 1) := by decide +kernel
theorem dX10_slopeOf_108 : decode cX10_slopeOf 108 = .ok (.getfield 326, 3) := by decide +kernel
theorem dX10_slopeOf_111 : decode cX10_slopeOf 111 = .ok (.invokevirtual 344, 3) := by decide +kernel
theorem dX10_slopeOf_114 : decode cX10_slopeOf 114 = .ok (.ireturn, 1) := by decide +kernel
theorem dX10_slopeOf_115 : decode cX10_slopeOf 115 = .ok (.aload_n 3, 1) := by decide +kernel
theorem dX10_slopeOf_116 : decode cX10_slopeOf 116 = .ok (.getfield 347, 3) := by decide +kernel
theorem dX10_slopeOf_119 : decode cX10_slopeOf 119 = .ok (.ireturn, 1) := by decide +kernel
theorem dX10_slopeOf_120 : decode cX10_slopeOf 120 = .ok (.iload_n 2, 1) := by decide +kernel
theorem dX10_slopeOf_121 : decode cX10_slopeOf 121 = .ok (.bipush 10, 2) := by decide +kernel
theorem dX10_slopeOf_123 : decode cX10_slopeOf 123 = .ok (.if_icmp .lt 25, 3) := by decide +kernel
theorem dX10_slopeOf_126 : decode cX10_slopeOf 126 = .ok (.iload_n 2, 1) := by decide +kernel
theorem dX10_slopeOf_127 : decode cX10_slopeOf 127 = .ok (.bipush 10, 2) := by decide +kernel
theorem dX10_slopeOf_129 : decode cX10_slopeOf 129 = .ok (.isub, 1) := by decide +kernel
theorem dX10_slopeOf_130 : decode cX10_slopeOf 130 = .ok (.aload_n 3, 1) := by decide +kernel
theorem dX10_slopeOf_131 : decode cX10_slopeOf 131 = .ok (.getfield 335, 3) := by decide +kernel
theorem dX10_slopeOf_134 : decode cX10_slopeOf 134 = .ok (.if_icmp .ge 14, 3) := by decide +kernel
theorem dX10_slopeOf_137 : decode cX10_slopeOf 137 = .ok (.aload_n 3, 1) := by decide +kernel
theorem dX10_slopeOf_138 : decode cX10_slopeOf 138 = .ok (.iload_n 2, 1) := by decide +kernel
theorem dX10_slopeOf_139 : decode cX10_slopeOf 139 = .ok (.bipush 10, 2) := by decide +kernel
theorem dX10_slopeOf_141 : decode cX10_slopeOf 141 = .ok (.isub, 1) := by decide +kernel
theorem dX10_slopeOf_142 : decode cX10_slopeOf 142 = .ok (.invokevirtual 350, 3) := by decide +kernel
theorem dX10_slopeOf_145 : decode cX10_slopeOf 145 = .ok (.goto 6, 3) := by decide +kernel
theorem dX10_slopeOf_148 : decode cX10_slopeOf 148 = .ok (.sipush (-500), 3) := by decide +kernel
theorem dX10_slopeOf_151 : decode cX10_slopeOf 151 = .ok (.ireturn, 1) := by decide +kernel
theorem dX10_works_0 : decode cX10_works 0 = .ok (.aload_n 0, 1) := by decide +kernel
theorem dX10_works_1 : decode cX10_works 1 = .ok (.getfield 46, 3) := by decide +kernel
theorem dX10_works_4 : decode cX10_works 4 = .ok (.iload_n 1, 1) := by decide +kernel
theorem dX10_works_5 : decode cX10_works 5 = .ok (.invokevirtual 331, 3) := by decide +kernel
theorem dX10_works_8 : decode cX10_works 8 = .ok (.ifCond .ne 5, 3) := by decide +kernel
theorem dX10_works_11 : decode cX10_works 11 = .ok (.iconst (-1), 1) := by decide +kernel
theorem dX10_works_12 : decode cX10_works 12 = .ok (.ireturn, 1) := by decide +kernel
theorem dX10_works_13 : decode cX10_works 13 = .ok (.aload_n 0, 1) := by decide +kernel
theorem dX10_works_14 : decode cX10_works 14 = .ok (.getfield 46, 3) := by decide +kernel
theorem dX10_works_17 : decode cX10_works 17 = .ok (.getfield 322, 3) := by decide +kernel
theorem dX10_works_20 : decode cX10_works 20 = .ok (.iload_n 1, 1) := by decide +kernel
theorem dX10_works_21 : decode cX10_works 21 = .ok (.aaload, 1) := by decide +kernel
theorem dX10_works_22 : decode cX10_works 22 = .ok (.getfield 332, 3) := by decide +kernel
theorem dX10_works_25 : decode cX10_works 25 = .ok (.iload_n 2, 1) := by decide +kernel
theorem dX10_works_26 : decode cX10_works 26 = .ok (.if_icmp .ne 5, 3) := by decide +kernel
theorem dX10_works_29 : decode cX10_works 29 = .ok (.iconst 0, 1) := by decide +kernel
theorem dX10_works_30 : decode cX10_works 30 = .ok (.ireturn, 1) := by decide +kernel
theorem dX10_works_31 : decode cX10_works 31 = .ok (.aload_n 0, 1) := by decide +kernel
theorem dX10_works_32 : decode cX10_works 32 = .ok (.getfield 46, 3) := by decide +kernel
theorem dX10_works_35 : decode cX10_works 35 = .ok (.getfield 322, 3) := by decide +kernel
theorem dX10_works_38 : decode cX10_works 38 = .ok (.iload_n 1, 1) := by decide +kernel
theorem dX10_works_39 : decode cX10_works 39 = .ok (.aaload, 1) := by decide +kernel
theorem dX10_works_40 : decode cX10_works 40 = .ok (.iload_n 2, 1) := by decide +kernel
theorem dX10_works_41 : decode cX10_works 41 = .ok (.putfield 332, 3) := by decide +kernel
theorem dX10_works_44 : decode cX10_works 44 = .ok (.iconst 1, 1) := by decide +kernel
theorem dX10_works_45 : decode cX10_works 45 = .ok (.ireturn, 1) := by decide +kernel
theorem dX10_shut_0 : decode cX10_shut 0 = .ok (.aload_n 0, 1) := by decide +kernel
theorem dX10_shut_1 : decode cX10_shut 1 = .ok (.getfield 46, 3) := by decide +kernel
theorem dX10_shut_4 : decode cX10_shut 4 = .ok (.getfield 353, 3) := by decide +kernel
theorem dX10_shut_7 : decode cX10_shut 7 = .ok (.iload_n 1, 1) := by decide +kernel
theorem dX10_shut_8 : decode cX10_shut 8 = .ok (.if_icmp .ne 5, 3) := by decide +kernel
theorem dX10_shut_11 : decode cX10_shut 11 = .ok (.iconst 0, 1) := by decide +kernel
theorem dX10_shut_12 : decode cX10_shut 12 = .ok (.ireturn, 1) := by decide +kernel
theorem dX10_shut_13 : decode cX10_shut 13 = .ok (.aload_n 0, 1) := by decide +kernel
theorem dX10_shut_14 : decode cX10_shut 14 = .ok (.getfield 46, 3) := by decide +kernel
theorem dX10_shut_17 : decode cX10_shut 17 = .ok (.iload_n 1, 1) := by decide +kernel
theorem dX10_shut_18 : decode cX10_shut 18 = .ok (.putfield 353, 3) := by decide +kernel
theorem dX10_shut_21 : decode cX10_shut 21 = .ok (.iconst 1, 1) := by decide +kernel
theorem dX10_shut_22 : decode cX10_shut 22 = .ok (.ireturn, 1) := by decide +kernel
theorem dX10_measure_0 : decode cX10_measure 0 = .ok (.aload_n 0, 1) := by decide +kernel
theorem dX10_measure_1 : decode cX10_measure 1 = .ok (.getfield 315, 3) := by decide +kernel
theorem dX10_measure_4 : decode cX10_measure 4 = .ok (.ifCond .ne 6, 3) := by decide +kernel
theorem dX10_measure_7 : decode cX10_measure 7 = .ok (.bipush (-3), 2) := by decide +kernel
theorem dX10_measure_9 : decode cX10_measure 9 = .ok (.ireturn, 1) := by decide +kernel
theorem dX10_measure_10 : decode cX10_measure 10 = .ok (.aload_n 0, 1) := by decide +kernel
theorem dX10_measure_11 : decode cX10_measure 11 = .ok (.iconst 0, 1) := by decide +kernel
theorem dX10_measure_12 : decode cX10_measure 12 = .ok (.putfield 315, 3) := by decide +kernel
theorem dX10_measure_15 : decode cX10_measure 15 = .ok (.iconst 0, 1) := by decide +kernel
theorem dX10_measure_16 : decode cX10_measure 16 = .ok (.istore_n 1, 1) := by decide +kernel
theorem dX10_measure_17 : decode cX10_measure 17 = .ok (.iconst 0, 1) := by decide +kernel
theorem dX10_measure_18 : decode cX10_measure 18 = .ok (.istore_n 2, 1) := by decide +kernel
theorem dX10_measure_19 : decode cX10_measure 19 = .ok (.iload_n 2, 1) := by decide +kernel
theorem dX10_measure_20 : decode cX10_measure 20 = .ok (.aload_n 0, 1) := by decide +kernel
theorem dX10_measure_21 : decode cX10_measure 21 = .ok (.getfield 85, 3) := by decide +kernel
theorem dX10_measure_24 : decode cX10_measure 24 = .ok (.if_icmp .ge 44, 3) := by decide +kernel
theorem dX10_measure_27 : decode cX10_measure 27 = .ok (.aload_n 0, 1) := by decide +kernel
theorem dX10_measure_28 : decode cX10_measure 28 = .ok (.getfield 11, 3) := by decide +kernel
theorem dX10_measure_31 : decode cX10_measure 31 = .ok (.iload_n 2, 1) := by decide +kernel
theorem dX10_measure_32 : decode cX10_measure 32 = .ok (.aaload, 1) := by decide +kernel
theorem dX10_measure_33 : decode cX10_measure 33 = .ok (.dup, 1) := by decide +kernel
theorem dX10_measure_34 : decode cX10_measure 34 = .ok (.getfield 111, 3) := by decide +kernel
theorem dX10_measure_37 : decode cX10_measure 37 = .ok (.aload_n 0, 1) := by decide +kernel
theorem dX10_measure_38 : decode cX10_measure 38 = .ok (.getfield 11, 3) := by decide +kernel
theorem dX10_measure_41 : decode cX10_measure 41 = .ok (.iload_n 2, 1) := by decide +kernel
theorem dX10_measure_42 : decode cX10_measure 42 = .ok (.aaload, 1) := by decide +kernel
theorem dX10_measure_43 : decode cX10_measure 43 = .ok (.getfield 108, 3) := by decide +kernel
theorem dX10_measure_46 : decode cX10_measure 46 = .ok (.iadd, 1) := by decide +kernel
theorem dX10_measure_47 : decode cX10_measure 47 = .ok (.putfield 111, 3) := by decide +kernel
theorem dX10_measure_50 : decode cX10_measure 50 = .ok (.iload_n 1, 1) := by decide +kernel
theorem dX10_measure_51 : decode cX10_measure 51 = .ok (.aload_n 0, 1) := by decide +kernel
theorem dX10_measure_52 : decode cX10_measure 52 = .ok (.getfield 11, 3) := by decide +kernel
theorem dX10_measure_55 : decode cX10_measure 55 = .ok (.iload_n 2, 1) := by decide +kernel
theorem dX10_measure_56 : decode cX10_measure 56 = .ok (.aaload, 1) := by decide +kernel
theorem dX10_measure_57 : decode cX10_measure 57 = .ok (.getfield 108, 3) := by decide +kernel
theorem dX10_measure_60 : decode cX10_measure 60 = .ok (.iadd, 1) := by decide +kernel
theorem dX10_measure_61 : decode cX10_measure 61 = .ok (.istore_n 1, 1) := by decide +kernel
theorem dX10_measure_62 : decode cX10_measure 62 = .ok (.iinc 2 1, 3) := by decide +kernel
theorem dX10_measure_65 : decode cX10_measure 65 = .ok (.goto (-46), 3) := by decide +kernel
theorem dX10_measure_68 : decode cX10_measure 68 = .ok (.iload_n 1, 1) := by decide +kernel
theorem dX10_measure_69 : decode cX10_measure 69 = .ok (.ireturn, 1) := by decide +kernel
theorem dX10_cheese_0 : decode cX10_cheese 0 = .ok (.iload_n 1, 1) := by decide +kernel
theorem dX10_cheese_1 : decode cX10_cheese 1 = .ok (.ifCond .lt 10, 3) := by decide +kernel
theorem dX10_cheese_4 : decode cX10_cheese 4 = .ok (.iload_n 1, 1) := by decide +kernel
theorem dX10_cheese_5 : decode cX10_cheese 5 = .ok (.sipush 9999, 3) := by decide +kernel
theorem dX10_cheese_8 : decode cX10_cheese 8 = .ok (.if_icmp .le 6, 3) := by decide +kernel
theorem dX10_cheese_11 : decode cX10_cheese 11 = .ok (.bipush (-2), 2) := by decide +kernel
theorem dX10_cheese_13 : decode cX10_cheese 13 = .ok (.ireturn, 1) := by decide +kernel
theorem dX10_cheese_14 : decode cX10_cheese 14 = .ok (.iconst 0, 1) := by decide +kernel
theorem dX10_cheese_15 : decode cX10_cheese 15 = .ok (.istore_n 2, 1) := by decide +kernel
theorem dX10_cheese_16 : decode cX10_cheese 16 = .ok (.iconst 0, 1) := by decide +kernel
theorem dX10_cheese_17 : decode cX10_cheese 17 = .ok (.istore_n 3, 1) := by decide +kernel
theorem dX10_cheese_18 : decode cX10_cheese 18 = .ok (.iload_n 3, 1) := by decide +kernel
theorem dX10_cheese_19 : decode cX10_cheese 19 = .ok (.aload_n 0, 1) := by decide +kernel
theorem dX10_cheese_20 : decode cX10_cheese 20 = .ok (.getfield 85, 3) := by decide +kernel
theorem dX10_cheese_23 : decode cX10_cheese 23 = .ok (.if_icmp .ge 21, 3) := by decide +kernel
theorem dX10_cheese_26 : decode cX10_cheese 26 = .ok (.iload_n 2, 1) := by decide +kernel
theorem dX10_cheese_27 : decode cX10_cheese 27 = .ok (.aload_n 0, 1) := by decide +kernel
theorem dX10_cheese_28 : decode cX10_cheese 28 = .ok (.getfield 11, 3) := by decide +kernel
theorem dX10_cheese_31 : decode cX10_cheese 31 = .ok (.iload_n 3, 1) := by decide +kernel
theorem dX10_cheese_32 : decode cX10_cheese 32 = .ok (.aaload, 1) := by decide +kernel
theorem dX10_cheese_33 : decode cX10_cheese 33 = .ok (.getfield 111, 3) := by decide +kernel
theorem dX10_cheese_36 : decode cX10_cheese 36 = .ok (.iadd, 1) := by decide +kernel
theorem dX10_cheese_37 : decode cX10_cheese 37 = .ok (.istore_n 2, 1) := by decide +kernel
theorem dX10_cheese_38 : decode cX10_cheese 38 = .ok (.iinc 3 1, 3) := by decide +kernel
theorem dX10_cheese_41 : decode cX10_cheese 41 = .ok (.goto (-23), 3) := by decide +kernel
theorem dX10_cheese_44 : decode cX10_cheese 44 = .ok (.iload_n 2, 1) := by decide +kernel
theorem dX10_cheese_45 : decode cX10_cheese 45 = .ok (.ifCond .gt 5, 3) := by decide +kernel
theorem dX10_cheese_48 : decode cX10_cheese 48 = .ok (.iconst 0, 1) := by decide +kernel
theorem dX10_cheese_49 : decode cX10_cheese 49 = .ok (.ireturn, 1) := by decide +kernel
theorem dX10_cheese_50 : decode cX10_cheese 50 = .ok (.iconst 0, 1) := by decide +kernel
theorem dX10_cheese_51 : decode cX10_cheese 51 = .ok (.istore_n 3, 1) := by decide +kernel
theorem dX10_cheese_52 : decode cX10_cheese 52 = .ok (.iconst 0, 1) := by decide +kernel
theorem dX10_cheese_53 : decode cX10_cheese 53 = .ok (.istore 4, 2) := by decide +kernel
theorem dX10_cheese_55 : decode cX10_cheese 55 = .ok (.iload 4, 2) := by decide +kernel
theorem dX10_cheese_57 : decode cX10_cheese 57 = .ok (.aload_n 0, 1) := by decide +kernel
theorem dX10_cheese_58 : decode cX10_cheese 58 = .ok (.getfield 85, 3) := by decide +kernel
theorem dX10_cheese_61 : decode cX10_cheese 61 = .ok (.if_icmp .ge 24, 3) := by decide +kernel
theorem dX10_cheese_64 : decode cX10_cheese 64 = .ok (.iload_n 3, 1) := by decide +kernel
theorem dX10_cheese_65 : decode cX10_cheese 65 = .ok (.aload_n 0, 1) := by decide +kernel
theorem dX10_cheese_66 : decode cX10_cheese 66 = .ok (.getfield 11, 3) := by decide +kernel
theorem dX10_cheese_69 : decode cX10_cheese 69 = .ok (.iload 4, 2) := by decide +kernel
theorem dX10_cheese_71 : decode cX10_cheese 71 = .ok (.aaload, 1) := by decide +kernel
theorem dX10_cheese_72 : decode cX10_cheese 72 = .ok (.iload_n 1, 1) := by decide +kernel
theorem dX10_cheese_73 : decode cX10_cheese 73 = .ok (.iload_n 2, 1) := by decide +kernel
theorem dX10_cheese_74 : decode cX10_cheese 74 = .ok (.invokevirtual 356, 3) := by decide +kernel
theorem dX10_cheese_77 : decode cX10_cheese 77 = .ok (.iadd, 1) := by decide +kernel
theorem dX10_cheese_78 : decode cX10_cheese 78 = .ok (.istore_n 3, 1) := by decide +kernel
theorem dX10_cheese_79 : decode cX10_cheese 79 = .ok (.iinc 4 1, 3) := by decide +kernel
theorem dX10_cheese_82 : decode cX10_cheese 82 = .ok (.goto (-27), 3) := by decide +kernel
theorem dX10_cheese_85 : decode cX10_cheese 85 = .ok (.iload_n 3, 1) := by decide +kernel
theorem dX10_cheese_86 : decode cX10_cheese 86 = .ok (.istore 4, 2) := by decide +kernel
theorem dX10_cheese_88 : decode cX10_cheese 88 = .ok (.iload 4, 2) := by decide +kernel
theorem dX10_cheese_90 : decode cX10_cheese 90 = .ok (.iload_n 1, 1) := by decide +kernel
theorem dX10_cheese_91 : decode cX10_cheese 91 = .ok (.if_icmp .ge 22, 3) := by decide +kernel
theorem dX10_cheese_94 : decode cX10_cheese 94 = .ok (.aload_n 0, 1) := by decide +kernel
theorem dX10_cheese_95 : decode cX10_cheese 95 = .ok (.getfield 11, 3) := by decide +kernel
theorem dX10_cheese_98 : decode cX10_cheese 98 = .ok (.aload_n 0, 1) := by decide +kernel
theorem dX10_cheese_99 : decode cX10_cheese 99 = .ok (.invokevirtual 359, 3) := by decide +kernel
theorem dX10_cheese_102 : decode cX10_cheese 102 = .ok (.aaload, 1) := by decide +kernel
theorem dX10_cheese_103 : decode cX10_cheese 103 = .ok (.iconst 1, 1) := by decide +kernel
theorem dX10_cheese_104 : decode cX10_cheese 104 = .ok (.invokevirtual 362, 3) := by decide +kernel
theorem dX10_cheese_107 : decode cX10_cheese 107 = .ok (.iinc 4 1, 3) := by decide +kernel
theorem dX10_cheese_110 : decode cX10_cheese 110 = .ok (.goto (-22), 3) := by decide +kernel
theorem dX10_cheese_113 : decode cX10_cheese 113 = .ok (.iload_n 3, 1) := by decide +kernel
theorem dX10_cheese_114 : decode cX10_cheese 114 = .ok (.istore 4, 2) := by decide +kernel
theorem dX10_cheese_116 : decode cX10_cheese 116 = .ok (.iload 4, 2) := by decide +kernel
theorem dX10_cheese_118 : decode cX10_cheese 118 = .ok (.iload_n 1, 1) := by decide +kernel
theorem dX10_cheese_119 : decode cX10_cheese 119 = .ok (.if_icmp .le 31, 3) := by decide +kernel
theorem dX10_cheese_122 : decode cX10_cheese 122 = .ok (.aload_n 0, 1) := by decide +kernel
theorem dX10_cheese_123 : decode cX10_cheese 123 = .ok (.invokevirtual 365, 3) := by decide +kernel
theorem dX10_cheese_126 : decode cX10_cheese 126 = .ok (.istore 5, 2) := by decide +kernel
theorem dX10_cheese_128 : decode cX10_cheese 128 = .ok (.iload 5, 2) := by decide +kernel
theorem dX10_cheese_130 : decode cX10_cheese 130 = .ok (.ifCond .lt 14, 3) := by decide +kernel
theorem dX10_cheese_133 : decode cX10_cheese 133 = .ok (.aload_n 0, 1) := by decide +kernel
theorem dX10_cheese_134 : decode cX10_cheese 134 = .ok (.getfield 11, 3) := by decide +kernel
theorem dX10_cheese_137 : decode cX10_cheese 137 = .ok (.iload 5, 2) := by decide +kernel
theorem dX10_cheese_139 : decode cX10_cheese 139 = .ok (.aaload, 1) := by decide +kernel
theorem dX10_cheese_140 : decode cX10_cheese 140 = .ok (.iconst (-1), 1) := by decide +kernel
theorem dX10_cheese_141 : decode cX10_cheese 141 = .ok (.invokevirtual 362, 3) := by decide +kernel
theorem dX10_cheese_144 : decode cX10_cheese 144 = .ok (.iinc 4 (-1), 3) := by decide +kernel
theorem dX10_cheese_147 : decode cX10_cheese 147 = .ok (.goto (-31), 3) := by decide +kernel
theorem dX10_cheese_150 : decode cX10_cheese 150 = .ok (.iconst 0, 1) := by decide +kernel
theorem dX10_cheese_151 : decode cX10_cheese 151 = .ok (.istore 4, 2) := by decide +kernel
theorem dX10_cheese_153 : decode cX10_cheese 153 = .ok (.iload 4, 2) := by decide +kernel
theorem dX10_cheese_155 : decode cX10_cheese 155 = .ok (.aload_n 0, 1) := by decide +kernel
theorem dX10_cheese_156 : decode cX10_cheese 156 = .ok (.getfield 85, 3) := by decide +kernel
theorem dX10_cheese_159 : decode cX10_cheese 159 = .ok (.if_icmp .ge 20, 3) := by decide +kernel
theorem dX10_cheese_162 : decode cX10_cheese 162 = .ok (.aload_n 0, 1) := by decide +kernel
theorem dX10_cheese_163 : decode cX10_cheese 163 = .ok (.getfield 11, 3) := by decide +kernel
theorem dX10_cheese_166 : decode cX10_cheese 166 = .ok (.iload 4, 2) := by decide +kernel
theorem dX10_cheese_168 : decode cX10_cheese 168 = .ok (.aaload, 1) := by decide +kernel
theorem dX10_cheese_169 : decode cX10_cheese 169 = .ok (.iconst 0, 1) := by decide +kernel
theorem dX10_cheese_170 : decode cX10_cheese 170 = .ok (.putfield 111, 3) := by decide +kernel
theorem dX10_cheese_173 : decode cX10_cheese 173 = .ok (.iinc 4 1, 3) := by decide +kernel
theorem dX10_cheese_176 : decode cX10_cheese 176 = .ok (.goto (-23), 3) := by decide +kernel
theorem dX10_cheese_179 : decode cX10_cheese 179 = .ok (.iload_n 1, 1) := by decide +kernel
theorem dX10_cheese_180 : decode cX10_cheese 180 = .ok (.ireturn, 1) := by decide +kernel
theorem dX10_withMostRest_0 : decode cX10_withMostRest 0 = .ok (.iconst 0, 1) := by decide +kernel
theorem dX10_withMostRest_1 : decode cX10_withMostRest 1 = .ok (.istore_n 1, 1) := by decide +kernel
theorem dX10_withMostRest_2 : decode cX10_withMostRest 2 = .ok (.iconst 1, 1) := by decide +kernel
theorem dX10_withMostRest_3 : decode cX10_withMostRest 3 = .ok (.istore_n 2, 1) := by decide +kernel
theorem dX10_withMostRest_4 : decode cX10_withMostRest 4 = .ok (.iload_n 2, 1) := by decide +kernel
theorem dX10_withMostRest_5 : decode cX10_withMostRest 5 = .ok (.aload_n 0, 1) := by decide +kernel
theorem dX10_withMostRest_6 : decode cX10_withMostRest 6 = .ok (.getfield 85, 3) := by decide +kernel
theorem dX10_withMostRest_9 : decode cX10_withMostRest 9 = .ok (.if_icmp .ge 32, 3) := by decide +kernel
theorem dX10_withMostRest_12 : decode cX10_withMostRest 12 = .ok (.aload_n 0, 1) := by decide +kernel
theorem dX10_withMostRest_13 : decode cX10_withMostRest 13 = .ok (.getfield 11, 3) := by decide +kernel
theorem dX10_withMostRest_16 : decode cX10_withMostRest 16 = .ok (.iload_n 2, 1) := by decide +kernel
theorem dX10_withMostRest_17 : decode cX10_withMostRest 17 = .ok (.aaload, 1) := by decide +kernel
theorem dX10_withMostRest_18 : decode cX10_withMostRest 18 = .ok (.getfield 368, 3) := by decide +kernel
theorem dX10_withMostRest_21 : decode cX10_withMostRest 21 = .ok (.aload_n 0, 1) := by decide +kernel
theorem dX10_withMostRest_22 : decode cX10_withMostRest 22 = .ok (.getfield 11, 3) := by decide +kernel
theorem dX10_withMostRest_25 : decode cX10_withMostRest 25 = .ok (.iload_n 1, 1) := by decide +kernel
theorem dX10_withMostRest_26 : decode cX10_withMostRest 26 = .ok (.aaload, 1) := by decide +kernel
theorem dX10_withMostRest_27 : decode cX10_withMostRest 27 = .ok (.getfield 368, 3) := by decide +kernel
theorem dX10_withMostRest_30 : decode cX10_withMostRest 30 = .ok (.if_icmp .le 5, 3) := by decide +kernel
theorem dX10_withMostRest_33 : decode cX10_withMostRest 33 = .ok (.iload_n 2, 1) := by decide +kernel
theorem dX10_withMostRest_34 : decode cX10_withMostRest 34 = .ok (.istore_n 1, 1) := by decide +kernel
theorem dX10_withMostRest_35 : decode cX10_withMostRest 35 = .ok (.iinc 2 1, 3) := by decide +kernel
theorem dX10_withMostRest_38 : decode cX10_withMostRest 38 = .ok (.goto (-34), 3) := by decide +kernel
theorem dX10_withMostRest_41 : decode cX10_withMostRest 41 = .ok (.iload_n 1, 1) := by decide +kernel
theorem dX10_withMostRest_42 : decode cX10_withMostRest 42 = .ok (.ireturn, 1) := by decide +kernel
theorem dX10_withLeastRest_0 : decode cX10_withLeastRest 0 = .ok (.iconst (-1), 1) := by decide +kernel
theorem dX10_withLeastRest_1 : decode cX10_withLeastRest 1 = .ok (.istore_n 1, 1) := by decide +kernel
theorem dX10_withLeastRest_2 : decode cX10_withLeastRest 2 = .ok (.iconst 0, 1) := by decide +kernel
theorem dX10_withLeastRest_3 : decode cX10_withLeastRest 3 = .ok (.istore_n 2, 1) := by decide +kernel
theorem dX10_withLeastRest_4 : decode cX10_withLeastRest 4 = .ok (.iload_n 2, 1) := by decide +kernel
theorem dX10_withLeastRest_5 : decode cX10_withLeastRest 5 = .ok (.aload_n 0, 1) := by decide +kernel
theorem dX10_withLeastRest_6 : decode cX10_withLeastRest 6 = .ok (.getfield 85, 3) := by decide +kernel
theorem dX10_withLeastRest_9 : decode cX10_withLeastRest 9 = .ok (.if_icmp .ge 48, 3) := by decide +kernel
theorem dX10_withLeastRest_12 : decode cX10_withLeastRest 12 = .ok (.aload_n 0, 1) := by decide +kernel
theorem dX10_withLeastRest_13 : decode cX10_withLeastRest 13 = .ok (.getfield 11, 3) := by decide +kernel
theorem dX10_withLeastRest_16 : decode cX10_withLeastRest 16 = .ok (.iload_n 2, 1) := by decide +kernel
theorem dX10_withLeastRest_17 : decode cX10_withLeastRest 17 = .ok (.aaload, 1) := by decide +kernel
theorem dX10_withLeastRest_18 : decode cX10_withLeastRest 18 = .ok (.getfield 371, 3) := by decide +kernel
theorem dX10_withLeastRest_21 : decode cX10_withLeastRest 21 = .ok (.ifCond .le 30, 3) := by decide +kernel
theorem dX10_withLeastRest_24 : decode cX10_withLeastRest 24 = .ok (.iload_n 1, 1) := by decide +kernel
theorem dX10_withLeastRest_25 : decode cX10_withLeastRest 25 = .ok (.ifCond .lt 24, 3) := by decide +kernel
theorem dX10_withLeastRest_28 : decode cX10_withLeastRest 28 = .ok (.aload_n 0, 1) := by decide +kernel
theorem dX10_withLeastRest_29 : decode cX10_withLeastRest 29 = .ok (.getfield 11, 3) := by decide +kernel
theorem dX10_withLeastRest_32 : decode cX10_withLeastRest 32 = .ok (.iload_n 2, 1) := by decide +kernel
theorem dX10_withLeastRest_33 : decode cX10_withLeastRest 33 = .ok (.aaload, 1) := by decide +kernel
theorem dX10_withLeastRest_34 : decode cX10_withLeastRest 34 = .ok (.getfield 368, 3) := by decide +kernel
theorem dX10_withLeastRest_37 : decode cX10_withLeastRest 37 = .ok (.aload_n 0, 1) := by decide +kernel
theorem dX10_withLeastRest_38 : decode cX10_withLeastRest 38 = .ok (.getfield 11, 3) := by decide +kernel
theorem dX10_withLeastRest_41 : decode cX10_withLeastRest 41 = .ok (.iload_n 1, 1) := by decide +kernel
theorem dX10_withLeastRest_42 : decode cX10_withLeastRest 42 = .ok (.aaload, 1) := by decide +kernel
theorem dX10_withLeastRest_43 : decode cX10_withLeastRest 43 = .ok (.getfield 368, 3) := by decide +kernel
theorem dX10_withLeastRest_46 : decode cX10_withLeastRest 46 = .ok (.if_icmp .ge 5, 3) := by decide +kernel
theorem dX10_withLeastRest_49 : decode cX10_withLeastRest 49 = .ok (.iload_n 2, 1) := by decide +kernel
theorem dX10_withLeastRest_50 : decode cX10_withLeastRest 50 = .ok (.istore_n 1, 1) := by decide +kernel
theorem dX10_withLeastRest_51 : decode cX10_withLeastRest 51 = .ok (.iinc 2 1, 3) := by decide +kernel
theorem dX10_withLeastRest_54 : decode cX10_withLeastRest 54 = .ok (.goto (-50), 3) := by decide +kernel
theorem dX10_withLeastRest_57 : decode cX10_withLeastRest 57 = .ok (.iload_n 1, 1) := by decide +kernel
theorem dX10_withLeastRest_58 : decode cX10_withLeastRest 58 = .ok (.ireturn, 1) := by decide +kernel
theorem dX10_rest_0 : decode cX10_rest 0 = .ok (.aload_n 0, 1) := by decide +kernel
theorem dX10_rest_1 : decode cX10_rest 1 = .ok (.iload_n 1, 1) := by decide +kernel
theorem dX10_rest_2 : decode cX10_rest 2 = .ok (.invokevirtual 91, 3) := by decide +kernel
theorem dX10_rest_5 : decode cX10_rest 5 = .ok (.ifCond .eq 15, 3) := by decide +kernel
theorem dX10_rest_8 : decode cX10_rest 8 = .ok (.aload_n 0, 1) := by decide +kernel
theorem dX10_rest_9 : decode cX10_rest 9 = .ok (.getfield 11, 3) := by decide +kernel
theorem dX10_rest_12 : decode cX10_rest 12 = .ok (.iload_n 1, 1) := by decide +kernel
theorem dX10_rest_13 : decode cX10_rest 13 = .ok (.aaload, 1) := by decide +kernel
theorem dX10_rest_14 : decode cX10_rest 14 = .ok (.getfield 368, 3) := by decide +kernel
theorem dX10_rest_17 : decode cX10_rest 17 = .ok (.goto 6, 3) := by decide +kernel
theorem dX10_rest_20 : decode cX10_rest 20 = .ok (.ldc_w 374, 3) := by decide +kernel
theorem dX10_rest_23 : decode cX10_rest 23 = .ok (.ireturn, 1) := by decide +kernel
theorem dX10_fell_0 : decode cX10_fell 0 = .ok (.aload_n 0, 1) := by decide +kernel
theorem dX10_fell_1 : decode cX10_fell 1 = .ok (.getfield 46, 3) := by decide +kernel
theorem dX10_fell_4 : decode cX10_fell 4 = .ok (.iload_n 1, 1) := by decide +kernel
theorem dX10_fell_5 : decode cX10_fell 5 = .ok (.invokevirtual 331, 3) := by decide +kernel
theorem dX10_fell_8 : decode cX10_fell 8 = .ok (.ifCond .eq 11, 3) := by decide +kernel
theorem dX10_fell_11 : decode cX10_fell 11 = .ok (.aload_n 0, 1) := by decide +kernel
theorem dX10_fell_12 : decode cX10_fell 12 = .ok (.iload_n 2, 1) := by decide +kernel
theorem dX10_fell_13 : decode cX10_fell 13 = .ok (.invokevirtual 91, 3) := by decide +kernel
theorem dX10_fell_16 : decode cX10_fell 16 = .ok (.ifCond .ne 5, 3) := by decide +kernel
theorem dX10_fell_19 : decode cX10_fell 19 = .ok (.iconst (-1), 1) := by decide +kernel
theorem dX10_fell_20 : decode cX10_fell 20 = .ok (.ireturn, 1) := by decide +kernel
theorem dX10_fell_21 : decode cX10_fell 21 = .ok (.aload_n 0, 1) := by decide +kernel
theorem dX10_fell_22 : decode cX10_fell 22 = .ok (.getfield 46, 3) := by decide +kernel
theorem dX10_fell_25 : decode cX10_fell 25 = .ok (.getfield 322, 3) := by decide +kernel
theorem dX10_fell_28 : decode cX10_fell 28 = .ok (.iload_n 1, 1) := by decide +kernel
theorem dX10_fell_29 : decode cX10_fell 29 = .ok (.aaload, 1) := by decide +kernel
theorem dX10_fell_30 : decode cX10_fell 30 = .ok (.astore_n 3, 1) := by decide +kernel
theorem dX10_fell_31 : decode cX10_fell 31 = .ok (.aload_n 3, 1) := by decide +kernel
theorem dX10_fell_32 : decode cX10_fell 32 = .ok (.iconst 0, 1) := by decide +kernel
theorem dX10_fell_33 : decode cX10_fell 33 = .ok (.invokevirtual 341, 3) := by decide +kernel
theorem dX10_fell_36 : decode cX10_fell 36 = .ok (.bipush 100, 2) := by decide +kernel
theorem dX10_fell_38 : decode cX10_fell 38 = .ok (.if_icmp .lt 6, 3) := by decide +kernel
theorem dX10_fell_41 : decode cX10_fell 41 = .ok (.bipush (-3), 2) := by decide +kernel
theorem dX10_fell_43 : decode cX10_fell 43 = .ok (.ireturn, 1) := by decide +kernel
theorem dX10_fell_44 : decode cX10_fell 44 = .ok (.aload_n 3, 1) := by decide +kernel
theorem dX10_fell_45 : decode cX10_fell 45 = .ok (.getfield 326, 3) := by decide +kernel
theorem dX10_fell_48 : decode cX10_fell 48 = .ok (.iconst 4, 1) := by decide +kernel
theorem dX10_fell_49 : decode cX10_fell 49 = .ok (.idiv, 1) := by decide +kernel
theorem dX10_fell_50 : decode cX10_fell 50 = .ok (.istore 4, 2) := by decide +kernel
theorem dX10_fell_52 : decode cX10_fell 52 = .ok (.aload_n 3, 1) := by decide +kernel
theorem dX10_fell_53 : decode cX10_fell 53 = .ok (.iconst 0, 1) := by decide +kernel
theorem dX10_fell_54 : decode cX10_fell 54 = .ok (.putfield 326, 3) := by decide +kernel
theorem dX10_fell_57 : decode cX10_fell 57 = .ok (.aload_n 0, 1) := by decide +kernel
theorem dX10_fell_58 : decode cX10_fell 58 = .ok (.getfield 46, 3) := by decide +kernel
theorem dX10_fell_61 : decode cX10_fell 61 = .ok (.dup, 1) := by decide +kernel
theorem dX10_fell_62 : decode cX10_fell 62 = .ok (.getfield 375, 3) := by decide +kernel
theorem dX10_fell_65 : decode cX10_fell 65 = .ok (.iload 4, 2) := by decide +kernel
theorem dX10_fell_67 : decode cX10_fell 67 = .ok (.iadd, 1) := by decide +kernel
theorem dX10_fell_68 : decode cX10_fell 68 = .ok (.putfield 375, 3) := by decide +kernel
theorem dX10_fell_71 : decode cX10_fell 71 = .ok (.aload_n 0, 1) := by decide +kernel
theorem dX10_fell_72 : decode cX10_fell 72 = .ok (.aload_n 0, 1) := by decide +kernel
theorem dX10_fell_73 : decode cX10_fell 73 = .ok (.iload 4, 2) := by decide +kernel
theorem dX10_fell_75 : decode cX10_fell 75 = .ok (.iload_n 2, 1) := by decide +kernel
theorem dX10_fell_76 : decode cX10_fell 76 = .ok (.invokevirtual 378, 3) := by decide +kernel
theorem dX10_fell_79 : decode cX10_fell 79 = .ok (.invokevirtual 381, 3) := by decide +kernel
theorem dX10_fell_82 : decode cX10_fell 82 = .ok (.iload 4, 2) := by decide +kernel
theorem dX10_fell_84 : decode cX10_fell 84 = .ok (.ireturn, 1) := by decide +kernel
theorem dX10_handOutLogs_0 : decode cX10_handOutLogs 0 = .ok (.iload_n 1, 1) := by decide +kernel
theorem dX10_handOutLogs_1 : decode cX10_handOutLogs 1 = .ok (.istore_n 3, 1) := by decide +kernel
theorem dX10_handOutLogs_2 : decode cX10_handOutLogs 2 = .ok (.iconst 0, 1) := by decide +kernel
theorem dX10_handOutLogs_3 : decode cX10_handOutLogs 3 = .ok (.istore 4, 2) := by decide +kernel
theorem dX10_handOutLogs_5 : decode cX10_handOutLogs 5 = .ok (.iload 4, 2) := by decide +kernel
theorem dX10_handOutLogs_7 : decode cX10_handOutLogs 7 = .ok (.aload_n 0, 1) := by decide +kernel
theorem dX10_handOutLogs_8 : decode cX10_handOutLogs 8 = .ok (.getfield 85, 3) := by decide +kernel
theorem dX10_handOutLogs_11 : decode cX10_handOutLogs 11 = .ok (.if_icmp .ge 64, 3) := by decide +kernel
theorem dX10_handOutLogs_14 : decode cX10_handOutLogs 14 = .ok (.aload_n 0, 1) := by decide +kernel
theorem dX10_handOutLogs_15 : decode cX10_handOutLogs 15 = .ok (.getfield 11, 3) := by decide +kernel
theorem dX10_handOutLogs_18 : decode cX10_handOutLogs 18 = .ok (.iload_n 2, 1) := by decide +kernel
theorem dX10_handOutLogs_19 : decode cX10_handOutLogs 19 = .ok (.iload 4, 2) := by decide +kernel
theorem dX10_handOutLogs_21 : decode cX10_handOutLogs 21 = .ok (.iadd, 1) := by decide +kernel
theorem dX10_handOutLogs_22 : decode cX10_handOutLogs 22 = .ok (.aload_n 0, 1) := by decide +kernel
theorem dX10_handOutLogs_23 : decode cX10_handOutLogs 23 = .ok (.getfield 85, 3) := by decide +kernel
theorem dX10_handOutLogs_26 : decode cX10_handOutLogs 26 = .ok (.irem, 1) := by decide +kernel
theorem dX10_handOutLogs_27 : decode cX10_handOutLogs 27 = .ok (.aaload, 1) := by decide +kernel
theorem dX10_handOutLogs_28 : decode cX10_handOutLogs 28 = .ok (.astore 5, 2) := by decide +kernel
theorem dX10_handOutLogs_30 : decode cX10_handOutLogs 30 = .ok (.iload_n 3, 1) := by decide +kernel
theorem dX10_handOutLogs_31 : decode cX10_handOutLogs 31 = .ok (.aload_n 0, 1) := by decide +kernel
theorem dX10_handOutLogs_32 : decode cX10_handOutLogs 32 = .ok (.aload 5, 2) := by decide +kernel
theorem dX10_handOutLogs_34 : decode cX10_handOutLogs 34 = .ok (.bipush 6, 2) := by decide +kernel
theorem dX10_handOutLogs_36 : decode cX10_handOutLogs 36 = .ok (.invokevirtual 287, 3) := by decide +kernel
theorem dX10_handOutLogs_39 : decode cX10_handOutLogs 39 = .ok (.aload 5, 2) := by decide +kernel
theorem dX10_handOutLogs_41 : decode cX10_handOutLogs 41 = .ok (.getfield 88, 3) := by decide +kernel
theorem dX10_handOutLogs_44 : decode cX10_handOutLogs 44 = .ok (.iconst 0, 1) := by decide +kernel
theorem dX10_handOutLogs_45 : decode cX10_handOutLogs 45 = .ok (.iaload, 1) := by decide +kernel
theorem dX10_handOutLogs_46 : decode cX10_handOutLogs 46 = .ok (.imul, 1) := by decide +kernel
theorem dX10_handOutLogs_47 : decode cX10_handOutLogs 47 = .ok (.invokestatic 384, 3) := by decide +kernel
theorem dX10_handOutLogs_50 : decode cX10_handOutLogs 50 = .ok (.istore 6, 2) := by decide +kernel
theorem dX10_handOutLogs_52 : decode cX10_handOutLogs 52 = .ok (.aload 5, 2) := by decide +kernel
theorem dX10_handOutLogs_54 : decode cX10_handOutLogs 54 = .ok (.dup, 1) := by decide +kernel
theorem dX10_handOutLogs_55 : decode cX10_handOutLogs 55 = .ok (.getfield 120, 3) := by decide +kernel
theorem dX10_handOutLogs_58 : decode cX10_handOutLogs 58 = .ok (.iload 6, 2) := by decide +kernel
theorem dX10_handOutLogs_60 : decode cX10_handOutLogs 60 = .ok (.iadd, 1) := by decide +kernel
theorem dX10_handOutLogs_61 : decode cX10_handOutLogs 61 = .ok (.putfield 120, 3) := by decide +kernel
theorem dX10_handOutLogs_64 : decode cX10_handOutLogs 64 = .ok (.iload_n 3, 1) := by decide +kernel
theorem dX10_handOutLogs_65 : decode cX10_handOutLogs 65 = .ok (.iload 6, 2) := by decide +kernel
theorem dX10_handOutLogs_67 : decode cX10_handOutLogs 67 = .ok (.isub, 1) := by decide +kernel
theorem dX10_handOutLogs_68 : decode cX10_handOutLogs 68 = .ok (.istore_n 3, 1) := by decide +kernel
theorem dX10_handOutLogs_69 : decode cX10_handOutLogs 69 = .ok (.iinc 4 1, 3) := by decide +kernel
theorem dX10_handOutLogs_72 : decode cX10_handOutLogs 72 = .ok (.goto (-67), 3) := by decide +kernel
theorem dX10_handOutLogs_75 : decode cX10_handOutLogs 75 = .ok (.iload_n 3, 1) := by decide +kernel
theorem dX10_handOutLogs_76 : decode cX10_handOutLogs 76 = .ok (.ireturn, 1) := by decide +kernel
theorem dX10_sellLogs_0 : decode cX10_sellLogs 0 = .ok (.iload_n 1, 1) := by decide +kernel
theorem dX10_sellLogs_1 : decode cX10_sellLogs 1 = .ok (.istore_n 2, 1) := by decide +kernel
theorem dX10_sellLogs_2 : decode cX10_sellLogs 2 = .ok (.iconst 0, 1) := by decide +kernel
theorem dX10_sellLogs_3 : decode cX10_sellLogs 3 = .ok (.istore_n 3, 1) := by decide +kernel
theorem dX10_sellLogs_4 : decode cX10_sellLogs 4 = .ok (.iload_n 3, 1) := by decide +kernel
theorem dX10_sellLogs_5 : decode cX10_sellLogs 5 = .ok (.aload_n 0, 1) := by decide +kernel
theorem dX10_sellLogs_6 : decode cX10_sellLogs 6 = .ok (.getfield 85, 3) := by decide +kernel
theorem dX10_sellLogs_9 : decode cX10_sellLogs 9 = .ok (.if_icmp .ge 45, 3) := by decide +kernel
theorem dX10_sellLogs_12 : decode cX10_sellLogs 12 = .ok (.iload_n 2, 1) := by decide +kernel
theorem dX10_sellLogs_13 : decode cX10_sellLogs 13 = .ok (.aload_n 0, 1) := by decide +kernel
theorem dX10_sellLogs_14 : decode cX10_sellLogs 14 = .ok (.getfield 11, 3) := by decide +kernel
theorem dX10_sellLogs_17 : decode cX10_sellLogs 17 = .ok (.iload_n 3, 1) := by decide +kernel
theorem dX10_sellLogs_18 : decode cX10_sellLogs 18 = .ok (.aaload, 1) := by decide +kernel
theorem dX10_sellLogs_19 : decode cX10_sellLogs 19 = .ok (.getfield 99, 3) := by decide +kernel
theorem dX10_sellLogs_22 : decode cX10_sellLogs 22 = .ok (.invokestatic 384, 3) := by decide +kernel
theorem dX10_sellLogs_25 : decode cX10_sellLogs 25 = .ok (.istore 4, 2) := by decide +kernel
theorem dX10_sellLogs_27 : decode cX10_sellLogs 27 = .ok (.aload_n 0, 1) := by decide +kernel
theorem dX10_sellLogs_28 : decode cX10_sellLogs 28 = .ok (.getfield 11, 3) := by decide +kernel
theorem dX10_sellLogs_31 : decode cX10_sellLogs 31 = .ok (.iload_n 3, 1) := by decide +kernel
theorem dX10_sellLogs_32 : decode cX10_sellLogs 32 = .ok (.aaload, 1) := by decide +kernel
theorem dX10_sellLogs_33 : decode cX10_sellLogs 33 = .ok (.dup, 1) := by decide +kernel
theorem dX10_sellLogs_34 : decode cX10_sellLogs 34 = .ok (.getfield 99, 3) := by decide +kernel
theorem dX10_sellLogs_37 : decode cX10_sellLogs 37 = .ok (.iload 4, 2) := by decide +kernel
theorem dX10_sellLogs_39 : decode cX10_sellLogs 39 = .ok (.isub, 1) := by decide +kernel
theorem dX10_sellLogs_40 : decode cX10_sellLogs 40 = .ok (.putfield 99, 3) := by decide +kernel
theorem dX10_sellLogs_43 : decode cX10_sellLogs 43 = .ok (.iload_n 2, 1) := by decide +kernel
theorem dX10_sellLogs_44 : decode cX10_sellLogs 44 = .ok (.iload 4, 2) := by decide +kernel
theorem dX10_sellLogs_46 : decode cX10_sellLogs 46 = .ok (.isub, 1) := by decide +kernel
theorem dX10_sellLogs_47 : decode cX10_sellLogs 47 = .ok (.istore_n 2, 1) := by decide +kernel
theorem dX10_sellLogs_48 : decode cX10_sellLogs 48 = .ok (.iinc 3 1, 3) := by decide +kernel
theorem dX10_sellLogs_51 : decode cX10_sellLogs 51 = .ok (.goto (-47), 3) := by decide +kernel
theorem dX10_sellLogs_54 : decode cX10_sellLogs 54 = .ok (.return_, 1) := by decide +kernel
theorem dX10_channel_0 : decode cX10_channel 0 = .ok (.iload_n 1, 1) := by decide +kernel
theorem dX10_channel_1 : decode cX10_channel 1 = .ok (.ifCond .lt 22, 3) := by decide +kernel
theorem dX10_channel_4 : decode cX10_channel 4 = .ok (.iload_n 1, 1) := by decide +kernel
theorem dX10_channel_5 : decode cX10_channel 5 = .ok (.aload_n 0, 1) := by decide +kernel
theorem dX10_channel_6 : decode cX10_channel 6 = .ok (.getfield 53, 3) := by decide +kernel
theorem dX10_channel_9 : decode cX10_channel 9 = .ok (.getfield 389, 3) := by decide +kernel
theorem dX10_channel_12 : decode cX10_channel 12 = .ok (.if_icmp .gt 11, 3) := by decide +kernel
theorem dX10_channel_15 : decode cX10_channel 15 = .ok (.aload_n 0, 1) := by decide +kernel
theorem dX10_channel_16 : decode cX10_channel 16 = .ok (.iload_n 2, 1) := by decide +kernel
theorem dX10_channel_17 : decode cX10_channel 17 = .ok (.invokevirtual 91, 3) := by decide +kernel
theorem dX10_channel_20 : decode cX10_channel 20 = .ok (.ifCond .ne 5, 3) := by decide +kernel
theorem dX10_channel_23 : decode cX10_channel 23 = .ok (.iconst (-1), 1) := by decide +kernel
theorem dX10_channel_24 : decode cX10_channel 24 = .ok (.ireturn, 1) := by decide +kernel
theorem dX10_channel_25 : decode cX10_channel 25 = .ok (.iload_n 3, 1) := by decide +kernel
theorem dX10_channel_26 : decode cX10_channel 26 = .ok (.ifCond .lt 9, 3) := by decide +kernel
theorem dX10_channel_29 : decode cX10_channel 29 = .ok (.iload_n 3, 1) := by decide +kernel
theorem dX10_channel_30 : decode cX10_channel 30 = .ok (.bipush 100, 2) := by decide +kernel
theorem dX10_channel_32 : decode cX10_channel 32 = .ok (.if_icmp .le 6, 3) := by decide +kernel
theorem dX10_channel_35 : decode cX10_channel 35 = .ok (.bipush (-2), 2) := by decide +kernel
theorem dX10_channel_37 : decode cX10_channel 37 = .ok (.ireturn, 1) := by decide +kernel
theorem dX10_channel_38 : decode cX10_channel 38 = .ok (.iload_n 1, 1) := by decide +kernel
theorem dX10_channel_39 : decode cX10_channel 39 = .ok (.bipush 10, 2) := by decide +kernel
theorem dX10_channel_41 : decode cX10_channel 41 = .ok (.if_icmp .lt 6, 3) := by decide +kernel
theorem dX10_channel_44 : decode cX10_channel 44 = .ok (.bipush (-4), 2) := by decide +kernel
theorem dX10_channel_46 : decode cX10_channel 46 = .ok (.ireturn, 1) := by decide +kernel
theorem dX10_channel_47 : decode cX10_channel 47 = .ok (.aload_n 0, 1) := by decide +kernel
theorem dX10_channel_48 : decode cX10_channel 48 = .ok (.getfield 53, 3) := by decide +kernel
theorem dX10_channel_51 : decode cX10_channel 51 = .ok (.getfield 390, 3) := by decide +kernel
theorem dX10_channel_54 : decode cX10_channel 54 = .ok (.iload_n 1, 1) := by decide +kernel
theorem dX10_channel_55 : decode cX10_channel 55 = .ok (.iload_n 2, 1) := by decide +kernel
theorem dX10_channel_56 : decode cX10_channel 56 = .ok (.iastore, 1) := by decide +kernel
theorem dX10_channel_57 : decode cX10_channel 57 = .ok (.aload_n 0, 1) := by decide +kernel
theorem dX10_channel_58 : decode cX10_channel 58 = .ok (.getfield 53, 3) := by decide +kernel
theorem dX10_channel_61 : decode cX10_channel 61 = .ok (.getfield 393, 3) := by decide +kernel
theorem dX10_channel_64 : decode cX10_channel 64 = .ok (.iload_n 1, 1) := by decide +kernel
theorem dX10_channel_65 : decode cX10_channel 65 = .ok (.iload_n 3, 1) := by decide +kernel
theorem dX10_channel_66 : decode cX10_channel 66 = .ok (.iastore, 1) := by decide +kernel
theorem dX10_channel_67 : decode cX10_channel 67 = .ok (.iload_n 1, 1) := by decide +kernel
theorem dX10_channel_68 : decode cX10_channel 68 = .ok (.aload_n 0, 1) := by decide +kernel
theorem dX10_channel_69 : decode cX10_channel 69 = .ok (.getfield 53, 3) := by decide +kernel
theorem dX10_channel_72 : decode cX10_channel 72 = .ok (.getfield 389, 3) := by decide +kernel
theorem dX10_channel_75 : decode cX10_channel 75 = .ok (.if_icmp .ne 16, 3) := by decide +kernel
theorem dX10_channel_78 : decode cX10_channel 78 = .ok (.aload_n 0, 1) := by decide +kernel
theorem dX10_channel_79 : decode cX10_channel 79 = .ok (.getfield 53, 3) := by decide +kernel
theorem dX10_channel_82 : decode cX10_channel 82 = .ok (.dup, 1) := by decide +kernel
theorem dX10_channel_83 : decode cX10_channel 83 = .ok (.getfield 389, 3) := by decide +kernel
theorem dX10_channel_86 : decode cX10_channel 86 = .ok (.iconst 1, 1) := by decide +kernel
theorem dX10_channel_87 : decode cX10_channel 87 = .ok (.iadd, 1) := by decide +kernel
theorem dX10_channel_88 : decode cX10_channel 88 = .ok (.putfield 389, 3) := by decide +kernel
theorem dX10_channel_91 : decode cX10_channel 91 = .ok (.aload_n 0, 1) := by decide +kernel
theorem dX10_channel_92 : decode cX10_channel 92 = .ok (.getfield 53, 3) := by decide +kernel
theorem dX10_channel_95 : decode cX10_channel 95 = .ok (.getfield 389, 3) := by decide +kernel
theorem dX10_channel_98 : decode cX10_channel 98 = .ok (.ireturn, 1) := by decide +kernel
theorem dX10_hour_0 : decode cX10_hour 0 = .ok (.aload_n 0, 1) := by decide +kernel
theorem dX10_hour_1 : decode cX10_hour 1 = .ok (.getfield 18, 3) := by decide +kernel
theorem dX10_hour_4 : decode cX10_hour 4 = .ok (.iconst 2, 1) := by decide +kernel
theorem dX10_hour_5 : decode cX10_hour 5 = .ok (.invokevirtual 168, 3) := by decide +kernel
theorem dX10_hour_8 : decode cX10_hour 8 = .ok (.ifCond .ne 5, 3) := by decide +kernel
theorem dX10_hour_11 : decode cX10_hour 11 = .ok (.iconst (-1), 1) := by decide +kernel
theorem dX10_hour_12 : decode cX10_hour 12 = .ok (.ireturn, 1) := by decide +kernel
theorem dX10_hour_13 : decode cX10_hour 13 = .ok (.iload_n 1, 1) := by decide +kernel
theorem dX10_hour_14 : decode cX10_hour 14 = .ok (.ifCond .ge 6, 3) := by decide +kernel
theorem dX10_hour_17 : decode cX10_hour 17 = .ok (.bipush (-2), 2) := by decide +kernel
theorem dX10_hour_19 : decode cX10_hour 19 = .ok (.ireturn, 1) := by decide +kernel
theorem dX10_hour_20 : decode cX10_hour 20 = .ok (.aload_n 0, 1) := by decide +kernel
theorem dX10_hour_21 : decode cX10_hour 21 = .ok (.getfield 18, 3) := by decide +kernel
theorem dX10_hour_24 : decode cX10_hour 24 = .ok (.iload_n 1, 1) := by decide +kernel
theorem dX10_hour_25 : decode cX10_hour 25 = .ok (.invokevirtual 396, 3) := by decide +kernel
theorem dX10_hour_28 : decode cX10_hour 28 = .ok (.ireturn, 1) := by decide +kernel
theorem dX10_gets_0 : decode cX10_gets 0 = .ok (.aload_n 0, 1) := by decide +kernel
theorem dX10_gets_1 : decode cX10_gets 1 = .ok (.iload_n 1, 1) := by decide +kernel
theorem dX10_gets_2 : decode cX10_gets 2 = .ok (.invokevirtual 91, 3) := by decide +kernel
theorem dX10_gets_5 : decode cX10_gets 5 = .ok (.ifCond .eq 18, 3) := by decide +kernel
theorem dX10_gets_8 : decode cX10_gets 8 = .ok (.iload_n 2, 1) := by decide +kernel
theorem dX10_gets_9 : decode cX10_gets 9 = .ok (.ifCond .lt 14, 3) := by decide +kernel
theorem dX10_gets_12 : decode cX10_gets 12 = .ok (.iload_n 3, 1) := by decide +kernel
theorem dX10_gets_13 : decode cX10_gets 13 = .ok (.ifCond .lt 10, 3) := by decide +kernel
theorem dX10_gets_16 : decode cX10_gets 16 = .ok (.iload_n 3, 1) := by decide +kernel
theorem dX10_gets_17 : decode cX10_gets 17 = .ok (.sipush 10000, 3) := by decide +kernel
theorem dX10_gets_20 : decode cX10_gets 20 = .ok (.if_icmp .le 6, 3) := by decide +kernel
theorem dX10_gets_23 : decode cX10_gets 23 = .ok (.bipush (-5), 2) := by decide +kernel
theorem dX10_gets_25 : decode cX10_gets 25 = .ok (.ireturn, 1) := by decide +kernel
theorem dX10_gets_26 : decode cX10_gets 26 = .ok (.aload_n 0, 1) := by decide +kernel
theorem dX10_gets_27 : decode cX10_gets 27 = .ok (.getfield 18, 3) := by decide +kernel
theorem dX10_gets_30 : decode cX10_gets 30 = .ok (.iload_n 2, 1) := by decide +kernel
theorem dX10_gets_31 : decode cX10_gets 31 = .ok (.invokevirtual 396, 3) := by decide +kernel
theorem dX10_gets_34 : decode cX10_gets 34 = .ok (.istore 4, 2) := by decide +kernel
theorem dX10_gets_36 : decode cX10_gets 36 = .ok (.iload 4, 2) := by decide +kernel
theorem dX10_gets_38 : decode cX10_gets 38 = .ok (.ifCond .lt 20, 3) := by decide +kernel
theorem dX10_gets_41 : decode cX10_gets 41 = .ok (.aload_n 0, 1) := by decide +kernel
theorem dX10_gets_42 : decode cX10_gets 42 = .ok (.getfield 18, 3) := by decide +kernel
theorem dX10_gets_45 : decode cX10_gets 45 = .ok (.iload 4, 2) := by decide +kernel
theorem dX10_gets_47 : decode cX10_gets 47 = .ok (.aload_n 0, 1) := by decide +kernel
theorem dX10_gets_48 : decode cX10_gets 48 = .ok (.getfield 142, 3) := by decide +kernel
theorem dX10_gets_51 : decode cX10_gets 51 = .ok (.invokevirtual 164, 3) := by decide +kernel
theorem dX10_gets_54 : decode cX10_gets 54 = .ok (.iload_n 1, 1) := by decide +kernel
theorem dX10_gets_55 : decode cX10_gets 55 = .ok (.if_icmp .eq 5, 3) := by decide +kernel
theorem dX10_gets_58 : decode cX10_gets 58 = .ok (.iconst 0, 1) := by decide +kernel
theorem dX10_gets_59 : decode cX10_gets 59 = .ok (.ireturn, 1) := by decide +kernel
theorem dX10_gets_60 : decode cX10_gets 60 = .ok (.aload_n 0, 1) := by decide +kernel
theorem dX10_gets_61 : decode cX10_gets 61 = .ok (.getfield 53, 3) := by decide +kernel
theorem dX10_gets_64 : decode cX10_gets 64 = .ok (.iload_n 1, 1) := by decide +kernel
theorem dX10_gets_65 : decode cX10_gets 65 = .ok (.iload_n 3, 1) := by decide +kernel
theorem dX10_gets_66 : decode cX10_gets 66 = .ok (.invokevirtual 399, 3) := by decide +kernel
theorem dX10_gets_69 : decode cX10_gets 69 = .ok (.ireturn, 1) := by decide +kernel
theorem dX10_turn_0 : decode cX10_turn 0 = .ok (.iload_n 1, 1) := by decide +kernel
theorem dX10_turn_1 : decode cX10_turn 1 = .ok (.ifCond .lt 8, 3) := by decide +kernel
theorem dX10_turn_4 : decode cX10_turn 4 = .ok (.iload_n 1, 1) := by decide +kernel
theorem dX10_turn_5 : decode cX10_turn 5 = .ok (.iconst 3, 1) := by decide +kernel
theorem dX10_turn_6 : decode cX10_turn 6 = .ok (.if_icmp .lt 5, 3) := by decide +kernel
theorem dX10_turn_9 : decode cX10_turn 9 = .ok (.iconst (-1), 1) := by decide +kernel
theorem dX10_turn_10 : decode cX10_turn 10 = .ok (.ireturn, 1) := by decide +kernel
theorem dX10_turn_11 : decode cX10_turn 11 = .ok (.aload_n 0, 1) := by decide +kernel
theorem dX10_turn_12 : decode cX10_turn 12 = .ok (.getfield 72, 3) := by decide +kernel
theorem dX10_turn_15 : decode cX10_turn 15 = .ok (.iload_n 1, 1) := by decide +kernel
theorem dX10_turn_16 : decode cX10_turn 16 = .ok (.iaload, 1) := by decide +kernel
theorem dX10_turn_17 : decode cX10_turn 17 = .ok (.istore_n 2, 1) := by decide +kernel
theorem dX10_turn_18 : decode cX10_turn 18 = .ok (.iload_n 1, 1) := by decide +kernel
theorem dX10_turn_19 : decode cX10_turn 19 = .ok (.iconst 1, 1) := by decide +kernel
theorem dX10_turn_20 : decode cX10_turn 20 = .ok (.if_icmp .ne 42, 3) := by decide +kernel
theorem dX10_turn_23 : decode cX10_turn 23 = .ok (.aload_n 0, 1) := by decide +kernel
theorem dX10_turn_24 : decode cX10_turn 24 = .ok (.iload_n 2, 1) := by decide +kernel
theorem dX10_turn_25 : decode cX10_turn 25 = .ok (.invokevirtual 91, 3) := by decide +kernel
theorem dX10_turn_28 : decode cX10_turn 28 = .ok (.ifCond .eq 34, 3) := by decide +kernel
theorem dX10_turn_31 : decode cX10_turn 31 = .ok (.aload_n 0, 1) := by decide +kernel
theorem dX10_turn_32 : decode cX10_turn 32 = .ok (.getfield 402, 3) := by decide +kernel
theorem dX10_turn_35 : decode cX10_turn 35 = .ok (.aload_n 0, 1) := by decide +kernel
theorem dX10_turn_36 : decode cX10_turn 36 = .ok (.aload_n 0, 1) := by decide +kernel
theorem dX10_turn_37 : decode cX10_turn 37 = .ok (.getfield 11, 3) := by decide +kernel
theorem dX10_turn_40 : decode cX10_turn 40 = .ok (.iload_n 2, 1) := by decide +kernel
theorem dX10_turn_41 : decode cX10_turn 41 = .ok (.aaload, 1) := by decide +kernel
theorem dX10_turn_42 : decode cX10_turn 42 = .ok (.bipush 7, 2) := by decide +kernel
theorem dX10_turn_44 : decode cX10_turn 44 = .ok (.invokevirtual 287, 3) := by decide +kernel
theorem dX10_turn_47 : decode cX10_turn 47 = .ok (.if_icmp .ge 15, 3) := by decide +kernel
theorem dX10_turn_50 : decode cX10_turn 50 = .ok (.aload_n 0, 1) := by decide +kernel
theorem dX10_turn_51 : decode cX10_turn 51 = .ok (.dup, 1) := by decide +kernel
theorem dX10_turn_52 : decode cX10_turn 52 = .ok (.getfield 402, 3) := by decide +kernel
theorem dX10_turn_55 : decode cX10_turn 55 = .ok (.iconst 1, 1) := by decide +kernel
theorem dX10_turn_56 : decode cX10_turn 56 = .ok (.iadd, 1) := by decide +kernel
theorem dX10_turn_57 : decode cX10_turn 57 = .ok (.putfield 402, 3) := by decide +kernel
theorem dX10_turn_60 : decode cX10_turn 60 = .ok (.iload_n 2, 1) := by decide +kernel
theorem dX10_turn_61 : decode cX10_turn 61 = .ok (.ireturn, 1) := by decide +kernel
theorem dX10_turn_62 : decode cX10_turn 62 = .ok (.aload_n 0, 1) := by decide +kernel
theorem dX10_turn_63 : decode cX10_turn 63 = .ok (.iload_n 1, 1) := by decide +kernel
theorem dX10_turn_64 : decode cX10_turn 64 = .ok (.iload_n 2, 1) := by decide +kernel
theorem dX10_turn_65 : decode cX10_turn 65 = .ok (.invokevirtual 405, 3) := by decide +kernel
theorem dX10_turn_68 : decode cX10_turn 68 = .ok (.istore_n 3, 1) := by decide +kernel
theorem dX10_turn_69 : decode cX10_turn 69 = .ok (.iload_n 3, 1) := by decide +kernel
theorem dX10_turn_70 : decode cX10_turn 70 = .ok (.ifCond .ge 5, 3) := by decide +kernel
theorem dX10_turn_73 : decode cX10_turn 73 = .ok (.iconst (-1), 1) := by decide +kernel
theorem dX10_turn_74 : decode cX10_turn 74 = .ok (.ireturn, 1) := by decide +kernel
theorem dX10_turn_75 : decode cX10_turn 75 = .ok (.aload_n 0, 1) := by decide +kernel
theorem dX10_turn_76 : decode cX10_turn 76 = .ok (.getfield 72, 3) := by decide +kernel
theorem dX10_turn_79 : decode cX10_turn 79 = .ok (.iload_n 1, 1) := by decide +kernel
theorem dX10_turn_80 : decode cX10_turn 80 = .ok (.iload_n 3, 1) := by decide +kernel
theorem dX10_turn_81 : decode cX10_turn 81 = .ok (.iastore, 1) := by decide +kernel
theorem dX10_turn_82 : decode cX10_turn 82 = .ok (.iload_n 1, 1) := by decide +kernel
theorem dX10_turn_83 : decode cX10_turn 83 = .ok (.iconst 1, 1) := by decide +kernel
theorem dX10_turn_84 : decode cX10_turn 84 = .ok (.if_icmp .ne 8, 3) := by decide +kernel
theorem dX10_turn_87 : decode cX10_turn 87 = .ok (.aload_n 0, 1) := by decide +kernel
theorem dX10_turn_88 : decode cX10_turn 88 = .ok (.iconst 1, 1) := by decide +kernel
theorem dX10_turn_89 : decode cX10_turn 89 = .ok (.putfield 402, 3) := by decide +kernel
theorem dX10_turn_92 : decode cX10_turn 92 = .ok (.iload_n 3, 1) := by decide +kernel
theorem dX10_turn_93 : decode cX10_turn 93 = .ok (.ireturn, 1) := by decide +kernel
theorem dX10_nextTurn_0 : decode cX10_nextTurn 0 = .ok (.iconst 1, 1) := by decide +kernel
theorem dX10_nextTurn_1 : decode cX10_nextTurn 1 = .ok (.istore_n 3, 1) := by decide +kernel
theorem dX10_nextTurn_2 : decode cX10_nextTurn 2 = .ok (.iload_n 3, 1) := by decide +kernel
theorem dX10_nextTurn_3 : decode cX10_nextTurn 3 = .ok (.aload_n 0, 1) := by decide +kernel
theorem dX10_nextTurn_4 : decode cX10_nextTurn 4 = .ok (.getfield 85, 3) := by decide +kernel
theorem dX10_nextTurn_7 : decode cX10_nextTurn 7 = .ok (.if_icmp .gt 36, 3) := by decide +kernel
theorem dX10_nextTurn_10 : decode cX10_nextTurn 10 = .ok (.iload_n 2, 1) := by decide +kernel
theorem dX10_nextTurn_11 : decode cX10_nextTurn 11 = .ok (.iload_n 3, 1) := by decide +kernel
theorem dX10_nextTurn_12 : decode cX10_nextTurn 12 = .ok (.iadd, 1) := by decide +kernel
theorem dX10_nextTurn_13 : decode cX10_nextTurn 13 = .ok (.aload_n 0, 1) := by decide +kernel
theorem dX10_nextTurn_14 : decode cX10_nextTurn 14 = .ok (.getfield 85, 3) := by decide +kernel
theorem dX10_nextTurn_17 : decode cX10_nextTurn 17 = .ok (.irem, 1) := by decide +kernel
theorem dX10_nextTurn_18 : decode cX10_nextTurn 18 = .ok (.istore 4, 2) := by decide +kernel
theorem dX10_nextTurn_20 : decode cX10_nextTurn 20 = .ok (.iload_n 1, 1) := by decide +kernel
theorem dX10_nextTurn_21 : decode cX10_nextTurn 21 = .ok (.aload_n 0, 1) := by decide +kernel
theorem dX10_nextTurn_22 : decode cX10_nextTurn 22 = .ok (.getfield 11, 3) := by decide +kernel
theorem dX10_nextTurn_25 : decode cX10_nextTurn 25 = .ok (.iload 4, 2) := by decide +kernel
theorem dX10_nextTurn_27 : decode cX10_nextTurn 27 = .ok (.aaload, 1) := by decide +kernel
theorem dX10_nextTurn_28 : decode cX10_nextTurn 28 = .ok (.invokestatic 408, 3) := by decide +kernel
theorem dX10_nextTurn_31 : decode cX10_nextTurn 31 = .ok (.ifCond .eq 6, 3) := by decide +kernel
theorem dX10_nextTurn_34 : decode cX10_nextTurn 34 = .ok (.iload 4, 2) := by decide +kernel
theorem dX10_nextTurn_36 : decode cX10_nextTurn 36 = .ok (.ireturn, 1) := by decide +kernel
theorem dX10_nextTurn_37 : decode cX10_nextTurn 37 = .ok (.iinc 3 1, 3) := by decide +kernel
theorem dX10_nextTurn_40 : decode cX10_nextTurn 40 = .ok (.goto (-38), 3) := by decide +kernel
theorem dX10_nextTurn_43 : decode cX10_nextTurn 43 = .ok (.iconst (-1), 1) := by decide +kernel
theorem dX10_nextTurn_44 : decode cX10_nextTurn 44 = .ok (.ireturn, 1) := by decide +kernel
theorem dX10_takesTurn_0 : decode cX10_takesTurn 0 = .ok (.iload_n 0, 1) := by decide +kernel
theorem dX10_takesTurn_1 : decode cX10_takesTurn 1 = .ok (.ifCond .ne 18, 3) := by decide +kernel
theorem dX10_takesTurn_4 : decode cX10_takesTurn 4 = .ok (.aload_n 1, 1) := by decide +kernel
theorem dX10_takesTurn_5 : decode cX10_takesTurn 5 = .ok (.getfield 88, 3) := by decide +kernel
theorem dX10_takesTurn_8 : decode cX10_takesTurn 8 = .ok (.iconst 2, 1) := by decide +kernel
theorem dX10_takesTurn_9 : decode cX10_takesTurn 9 = .ok (.iaload, 1) := by decide +kernel
theorem dX10_takesTurn_10 : decode cX10_takesTurn 10 = .ok (.ifCond .le 7, 3) := by decide +kernel
theorem dX10_takesTurn_13 : decode cX10_takesTurn 13 = .ok (.iconst 1, 1) := by decide +kernel
theorem dX10_takesTurn_14 : decode cX10_takesTurn 14 = .ok (.goto 4, 3) := by decide +kernel
theorem dX10_takesTurn_17 : decode cX10_takesTurn 17 = .ok (.iconst 0, 1) := by decide +kernel
theorem dX10_takesTurn_18 : decode cX10_takesTurn 18 = .ok (.ireturn, 1) := by decide +kernel
theorem dX10_takesTurn_19 : decode cX10_takesTurn 19 = .ok (.iload_n 0, 1) := by decide +kernel
theorem dX10_takesTurn_20 : decode cX10_takesTurn 20 = .ok (.iconst 2, 1) := by decide +kernel
theorem dX10_takesTurn_21 : decode cX10_takesTurn 21 = .ok (.if_icmp .ne 19, 3) := by decide +kernel
theorem dX10_takesTurn_24 : decode cX10_takesTurn 24 = .ok (.aload_n 1, 1) := by decide +kernel
theorem dX10_takesTurn_25 : decode cX10_takesTurn 25 = .ok (.getfield 88, 3) := by decide +kernel
theorem dX10_takesTurn_28 : decode cX10_takesTurn 28 = .ok (.iconst 1, 1) := by decide +kernel
theorem dX10_takesTurn_29 : decode cX10_takesTurn 29 = .ok (.iaload, 1) := by decide +kernel
theorem dX10_takesTurn_30 : decode cX10_takesTurn 30 = .ok (.iconst 3, 1) := by decide +kernel
theorem dX10_takesTurn_31 : decode cX10_takesTurn 31 = .ok (.if_icmp .lt 7, 3) := by decide +kernel
theorem dX10_takesTurn_34 : decode cX10_takesTurn 34 = .ok (.iconst 1, 1) := by decide +kernel
theorem dX10_takesTurn_35 : decode cX10_takesTurn 35 = .ok (.goto 4, 3) := by decide +kernel
theorem dX10_takesTurn_38 : decode cX10_takesTurn 38 = .ok (.iconst 0, 1) := by decide +kernel
theorem dX10_takesTurn_39 : decode cX10_takesTurn 39 = .ok (.ireturn, 1) := by decide +kernel
theorem dX10_takesTurn_40 : decode cX10_takesTurn 40 = .ok (.iconst 1, 1) := by decide +kernel
theorem dX10_takesTurn_41 : decode cX10_takesTurn 41 = .ok (.ireturn, 1) := by decide +kernel
theorem dX10_work_0 : decode cX10_work 0 = .ok (.aload_n 0, 1) := by decide +kernel
theorem dX10_work_1 : decode cX10_work 1 = .ok (.iload_n 1, 1) := by decide +kernel
theorem dX10_work_2 : decode cX10_work 2 = .ok (.invokevirtual 91, 3) := by decide +kernel
theorem dX10_work_5 : decode cX10_work 5 = .ok (.ifCond .ne 5, 3) := by decide +kernel
theorem dX10_work_8 : decode cX10_work 8 = .ok (.iconst (-1), 1) := by decide +kernel
theorem dX10_work_9 : decode cX10_work 9 = .ok (.ireturn, 1) := by decide +kernel
theorem dX10_work_10 : decode cX10_work 10 = .ok (.iload_n 2, 1) := by decide +kernel
theorem dX10_work_11 : decode cX10_work 11 = .ok (.iconst 1, 1) := by decide +kernel
theorem dX10_work_12 : decode cX10_work 12 = .ok (.if_icmp .lt 10, 3) := by decide +kernel
theorem dX10_work_15 : decode cX10_work 15 = .ok (.iload_n 2, 1) := by decide +kernel
theorem dX10_work_16 : decode cX10_work 16 = .ok (.sipush 999, 3) := by decide +kernel
theorem dX10_work_19 : decode cX10_work 19 = .ok (.if_icmp .le 6, 3) := by decide +kernel
theorem dX10_work_22 : decode cX10_work 22 = .ok (.bipush (-2), 2) := by decide +kernel
theorem dX10_work_24 : decode cX10_work 24 = .ok (.ireturn, 1) := by decide +kernel
theorem dX10_work_25 : decode cX10_work 25 = .ok (.aload_n 0, 1) := by decide +kernel
theorem dX10_work_26 : decode cX10_work 26 = .ok (.getfield 11, 3) := by decide +kernel
theorem dX10_work_29 : decode cX10_work 29 = .ok (.iload_n 1, 1) := by decide +kernel
theorem dX10_work_30 : decode cX10_work 30 = .ok (.aaload, 1) := by decide +kernel
theorem dX10_work_31 : decode cX10_work 31 = .ok (.dup, 1) := by decide +kernel
theorem dX10_work_32 : decode cX10_work 32 = .ok (.getfield 123, 3) := by decide +kernel
theorem dX10_work_35 : decode cX10_work 35 = .ok (.iload_n 2, 1) := by decide +kernel
theorem dX10_work_36 : decode cX10_work 36 = .ok (.iadd, 1) := by decide +kernel
theorem dX10_work_37 : decode cX10_work 37 = .ok (.putfield 123, 3) := by decide +kernel
theorem dX10_work_40 : decode cX10_work 40 = .ok (.aload_n 0, 1) := by decide +kernel
theorem dX10_work_41 : decode cX10_work 41 = .ok (.getfield 11, 3) := by decide +kernel
theorem dX10_work_44 : decode cX10_work 44 = .ok (.iload_n 1, 1) := by decide +kernel
theorem dX10_work_45 : decode cX10_work 45 = .ok (.aaload, 1) := by decide +kernel
theorem dX10_work_46 : decode cX10_work 46 = .ok (.getfield 123, 3) := by decide +kernel
theorem dX10_work_49 : decode cX10_work 49 = .ok (.ireturn, 1) := by decide +kernel
theorem dX10_year_0 : decode cX10_year 0 = .ok (.aload_n 0, 1) := by decide +kernel
theorem dX10_year_1 : decode cX10_year 1 = .ok (.getfield 142, 3) := by decide +kernel
theorem dX10_year_4 : decode cX10_year 4 = .ok (.sipush 360, 3) := by decide +kernel
theorem dX10_year_7 : decode cX10_year 7 = .ok (.idiv, 1) := by decide +kernel
theorem dX10_year_8 : decode cX10_year 8 = .ok (.istore_n 1, 1) := by decide +kernel
theorem dX10_year_9 : decode cX10_year 9 = .ok (.iload_n 1, 1) := by decide +kernel
theorem dX10_year_10 : decode cX10_year 10 = .ok (.aload_n 0, 1) := by decide +kernel
theorem dX10_year_11 : decode cX10_year 11 = .ok (.getfield 68, 3) := by decide +kernel
theorem dX10_year_14 : decode cX10_year 14 = .ok (.if_icmp .ne 6, 3) := by decide +kernel
theorem dX10_year_17 : decode cX10_year 17 = .ok (.bipush (-3), 2) := by decide +kernel
theorem dX10_year_19 : decode cX10_year 19 = .ok (.ireturn, 1) := by decide +kernel
theorem dX10_year_20 : decode cX10_year 20 = .ok (.aload_n 0, 1) := by decide +kernel
theorem dX10_year_21 : decode cX10_year 21 = .ok (.iload_n 1, 1) := by decide +kernel
theorem dX10_year_22 : decode cX10_year 22 = .ok (.putfield 68, 3) := by decide +kernel
theorem dX10_year_25 : decode cX10_year 25 = .ok (.iconst 0, 1) := by decide +kernel
theorem dX10_year_26 : decode cX10_year 26 = .ok (.istore_n 2, 1) := by decide +kernel
theorem dX10_year_27 : decode cX10_year 27 = .ok (.iconst 0, 1) := by decide +kernel
theorem dX10_year_28 : decode cX10_year 28 = .ok (.istore_n 3, 1) := by decide +kernel
theorem dX10_year_29 : decode cX10_year 29 = .ok (.iload_n 3, 1) := by decide +kernel
theorem dX10_year_30 : decode cX10_year 30 = .ok (.aload_n 0, 1) := by decide +kernel
theorem dX10_year_31 : decode cX10_year 31 = .ok (.getfield 85, 3) := by decide +kernel
theorem dX10_year_34 : decode cX10_year 34 = .ok (.if_icmp .ge 73, 3) := by decide +kernel
theorem dX10_year_37 : decode cX10_year 37 = .ok (.aload_n 0, 1) := by decide +kernel
theorem dX10_year_38 : decode cX10_year 38 = .ok (.getfield 11, 3) := by decide +kernel
theorem dX10_year_41 : decode cX10_year 41 = .ok (.iload_n 3, 1) := by decide +kernel
theorem dX10_year_42 : decode cX10_year 42 = .ok (.aaload, 1) := by decide +kernel
theorem dX10_year_43 : decode cX10_year 43 = .ok (.astore 4, 2) := by decide +kernel
theorem dX10_year_45 : decode cX10_year 45 = .ok (.aload_n 0, 1) := by decide +kernel
theorem dX10_year_46 : decode cX10_year 46 = .ok (.aload 4, 2) := by decide +kernel
theorem dX10_year_48 : decode cX10_year 48 = .ok (.iconst 4, 1) := by decide +kernel
theorem dX10_year_49 : decode cX10_year 49 = .ok (.invokevirtual 287, 3) := by decide +kernel
theorem dX10_year_52 : decode cX10_year 52 = .ok (.aload 4, 2) := by decide +kernel
theorem dX10_year_54 : decode cX10_year 54 = .ok (.getfield 88, 3) := by decide +kernel
theorem dX10_year_57 : decode cX10_year 57 = .ok (.iconst 1, 1) := by decide +kernel
theorem dX10_year_58 : decode cX10_year 58 = .ok (.iaload, 1) := by decide +kernel
theorem dX10_year_59 : decode cX10_year 59 = .ok (.imul, 1) := by decide +kernel
theorem dX10_year_60 : decode cX10_year 60 = .ok (.aload 4, 2) := by decide +kernel
theorem dX10_year_62 : decode cX10_year 62 = .ok (.getfield 123, 3) := by decide +kernel
theorem dX10_year_65 : decode cX10_year 65 = .ok (.isub, 1) := by decide +kernel
theorem dX10_year_66 : decode cX10_year 66 = .ok (.i2l, 1) := by decide +kernel
theorem dX10_year_67 : decode cX10_year 67 = .ok (.lstore 5, 2) := by decide +kernel
theorem dX10_year_69 : decode cX10_year 69 = .ok (.lload 5, 2) := by decide +kernel
theorem dX10_year_71 : decode cX10_year 71 = .ok (.lconst 0, 1) := by decide +kernel
theorem dX10_year_72 : decode cX10_year 72 = .ok (.lcmp, 1) := by decide +kernel
theorem dX10_year_73 : decode cX10_year 73 = .ok (.ifCond .le 22, 3) := by decide +kernel
theorem dX10_year_76 : decode cX10_year 76 = .ok (.iload_n 2, 1) := by decide +kernel
theorem dX10_year_77 : decode cX10_year 77 = .ok (.aload 4, 2) := by decide +kernel
theorem dX10_year_79 : decode cX10_year 79 = .ok (.lload 5, 2) := by decide +kernel
theorem dX10_year_81 : decode cX10_year 81 = .ok (.aload_n 0, 1) := by decide +kernel
theorem dX10_year_82 : decode cX10_year 82 = .ok (.aload 4, 2) := by decide +kernel
theorem dX10_year_84 : decode cX10_year 84 = .ok (.iconst 5, 1) := by decide +kernel
theorem dX10_year_85 : decode cX10_year 85 = .ok (.invokevirtual 287, 3) := by decide +kernel
theorem dX10_year_88 : decode cX10_year 88 = .ok (.i2l, 1) := by decide +kernel
theorem dX10_year_89 : decode cX10_year 89 = .ok (.lmul, 1) := by decide +kernel
theorem dX10_year_90 : decode cX10_year 90 = .ok (.invokevirtual 304, 3) := by decide +kernel
theorem dX10_year_93 : decode cX10_year 93 = .ok (.iadd, 1) := by decide +kernel
theorem dX10_year_94 : decode cX10_year 94 = .ok (.istore_n 2, 1) := by decide +kernel
theorem dX10_year_95 : decode cX10_year 95 = .ok (.aload 4, 2) := by decide +kernel
theorem dX10_year_97 : decode cX10_year 97 = .ok (.iconst 0, 1) := by decide +kernel
theorem dX10_year_98 : decode cX10_year 98 = .ok (.putfield 123, 3) := by decide +kernel
theorem dX10_year_101 : decode cX10_year 101 = .ok (.iinc 3 1, 3) := by decide +kernel
theorem dX10_year_104 : decode cX10_year 104 = .ok (.goto (-75), 3) := by decide +kernel
theorem dX10_year_107 : decode cX10_year 107 = .ok (.iload_n 2, 1) := by decide +kernel
theorem dX10_year_108 : decode cX10_year 108 = .ok (.ireturn, 1) := by decide +kernel
theorem dX10_plan_0 : decode cX10_plan 0 = .ok (.aload_n 0, 1) := by decide +kernel
theorem dX10_plan_1 : decode cX10_plan 1 = .ok (.iload_n 1, 1) := by decide +kernel
theorem dX10_plan_2 : decode cX10_plan 2 = .ok (.invokevirtual 181, 3) := by decide +kernel
theorem dX10_plan_5 : decode cX10_plan 5 = .ok (.ifCond .eq 17, 3) := by decide +kernel
theorem dX10_plan_8 : decode cX10_plan 8 = .ok (.iload_n 1, 1) := by decide +kernel
theorem dX10_plan_9 : decode cX10_plan 9 = .ok (.ifCond .eq 13, 3) := by decide +kernel
theorem dX10_plan_12 : decode cX10_plan 12 = .ok (.aload_n 0, 1) := by decide +kernel
theorem dX10_plan_13 : decode cX10_plan 13 = .ok (.getfield 39, 3) := by decide +kernel
theorem dX10_plan_16 : decode cX10_plan 16 = .ok (.getfield 255, 3) := by decide +kernel
theorem dX10_plan_19 : decode cX10_plan 19 = .ok (.ifCond .ne 5, 3) := by decide +kernel
theorem dX10_plan_22 : decode cX10_plan 22 = .ok (.iconst (-1), 1) := by decide +kernel
theorem dX10_plan_23 : decode cX10_plan 23 = .ok (.ireturn, 1) := by decide +kernel
theorem dX10_plan_24 : decode cX10_plan 24 = .ok (.iload_n 1, 1) := by decide +kernel
theorem dX10_plan_25 : decode cX10_plan 25 = .ok (.invokestatic 193, 3) := by decide +kernel
theorem dX10_plan_28 : decode cX10_plan 28 = .ok (.istore 4, 2) := by decide +kernel
theorem dX10_plan_30 : decode cX10_plan 30 = .ok (.iload_n 3, 1) := by decide +kernel
theorem dX10_plan_31 : decode cX10_plan 31 = .ok (.ifCond .lt 9, 3) := by decide +kernel
theorem dX10_plan_34 : decode cX10_plan 34 = .ok (.iload_n 3, 1) := by decide +kernel
theorem dX10_plan_35 : decode cX10_plan 35 = .ok (.iload 4, 2) := by decide +kernel
theorem dX10_plan_37 : decode cX10_plan 37 = .ok (.if_icmp .le 5, 3) := by decide +kernel
theorem dX10_plan_40 : decode cX10_plan 40 = .ok (.iconst (-1), 1) := by decide +kernel
theorem dX10_plan_41 : decode cX10_plan 41 = .ok (.ireturn, 1) := by decide +kernel
theorem dX10_plan_42 : decode cX10_plan 42 = .ok (.iload_n 2, 1) := by decide +kernel
theorem dX10_plan_43 : decode cX10_plan 43 = .ok (.iconst 1, 1) := by decide +kernel
theorem dX10_plan_44 : decode cX10_plan 44 = .ok (.if_icmp .lt 27, 3) := by decide +kernel
theorem dX10_plan_47 : decode cX10_plan 47 = .ok (.iload_n 2, 1) := by decide +kernel
theorem dX10_plan_48 : decode cX10_plan 48 = .ok (.bipush 30, 2) := by decide +kernel
theorem dX10_plan_50 : decode cX10_plan 50 = .ok (.if_icmp .gt 21, 3) := by decide +kernel
theorem dX10_plan_53 : decode cX10_plan 53 = .ok (.iload 4, 2) := by decide +kernel
theorem dX10_plan_55 : decode cX10_plan 55 = .ok (.iconst 5, 1) := by decide +kernel
theorem dX10_plan_56 : decode cX10_plan 56 = .ok (.if_icmp .gt 15, 3) := by decide +kernel
theorem dX10_plan_59 : decode cX10_plan 59 = .ok (.iload_n 2, 1) := by decide +kernel
theorem dX10_plan_60 : decode cX10_plan 60 = .ok (.sipush 7200, 3) := by decide +kernel
theorem dX10_plan_63 : decode cX10_plan 63 = .ok (.aload_n 0, 1) := by decide +kernel
theorem dX10_plan_64 : decode cX10_plan 64 = .ok (.getfield 142, 3) := by decide +kernel
theorem dX10_plan_67 : decode cX10_plan 67 = .ok (.isub, 1) := by decide +kernel
theorem dX10_plan_68 : decode cX10_plan 68 = .ok (.if_icmp .le 6, 3) := by decide +kernel
theorem dX10_plan_71 : decode cX10_plan 71 = .ok (.bipush (-2), 2) := by decide +kernel
theorem dX10_plan_73 : decode cX10_plan 73 = .ok (.ireturn, 1) := by decide +kernel
theorem dX10_plan_74 : decode cX10_plan 74 = .ok (.aload_n 0, 1) := by decide +kernel
theorem dX10_plan_75 : decode cX10_plan 75 = .ok (.iload_n 1, 1) := by decide +kernel
theorem dX10_plan_76 : decode cX10_plan 76 = .ok (.invokevirtual 412, 3) := by decide +kernel
theorem dX10_plan_79 : decode cX10_plan 79 = .ok (.istore 5, 2) := by decide +kernel
theorem dX10_plan_81 : decode cX10_plan 81 = .ok (.aload_n 0, 1) := by decide +kernel
theorem dX10_plan_82 : decode cX10_plan 82 = .ok (.iload_n 1, 1) := by decide +kernel
theorem dX10_plan_83 : decode cX10_plan 83 = .ok (.iload 5, 2) := by decide +kernel
theorem dX10_plan_85 : decode cX10_plan 85 = .ok (.iload_n 2, 1) := by decide +kernel
theorem dX10_plan_86 : decode cX10_plan 86 = .ok (.invokevirtual 415, 3) := by decide +kernel
theorem dX10_plan_89 : decode cX10_plan 89 = .ok (.aload_n 0, 1) := by decide +kernel
theorem dX10_plan_90 : decode cX10_plan 90 = .ok (.getfield 39, 3) := by decide +kernel
theorem dX10_plan_93 : decode cX10_plan 93 = .ok (.iload 5, 2) := by decide +kernel
theorem dX10_plan_95 : decode cX10_plan 95 = .ok (.invokevirtual 418, 3) := by decide +kernel
theorem dX10_plan_98 : decode cX10_plan 98 = .ok (.istore 6, 2) := by decide +kernel
theorem dX10_plan_100 : decode cX10_plan 100 = .ok (.iload_n 3, 1) := by decide +kernel
theorem dX10_plan_101 : decode cX10_plan 101 = .ok (.ifCond .ne 8, 3) := by decide +kernel
theorem dX10_plan_104 : decode cX10_plan 104 = .ok (.iload 6, 2) := by decide +kernel
theorem dX10_plan_106 : decode cX10_plan 106 = .ok (.goto 14, 3) := by decide +kernel
theorem dX10_plan_109 : decode cX10_plan 109 = .ok (.aload_n 0, 1) := by decide +kernel
theorem dX10_plan_110 : decode cX10_plan 110 = .ok (.getfield 39, 3) := by decide +kernel
theorem dX10_plan_113 : decode cX10_plan 113 = .ok (.getfield 421, 3) := by decide +kernel
theorem dX10_plan_116 : decode cX10_plan 116 = .ok (.iload_n 3, 1) := by decide +kernel
theorem dX10_plan_117 : decode cX10_plan 117 = .ok (.iconst 1, 1) := by decide +kernel
theorem dX10_plan_118 : decode cX10_plan 118 = .ok (.isub, 1) := by decide +kernel
theorem dX10_plan_119 : decode cX10_plan 119 = .ok (.iaload, 1) := by decide +kernel
theorem dX10_plan_120 : decode cX10_plan 120 = .ok (.ireturn, 1) := by decide +kernel
theorem dX10_listMembers_0 : decode cX10_listMembers 0 = .ok (.iconst 0, 1) := by decide +kernel
theorem dX10_listMembers_1 : decode cX10_listMembers 1 = .ok (.istore_n 2, 1) := by decide +kernel
theorem dX10_listMembers_2 : decode cX10_listMembers 2 = .ok (.iconst 0, 1) := by decide +kernel
theorem dX10_listMembers_3 : decode cX10_listMembers 3 = .ok (.istore_n 3, 1) := by decide +kernel
theorem dX10_listMembers_4 : decode cX10_listMembers 4 = .ok (.iload_n 3, 1) := by decide +kernel
theorem dX10_listMembers_5 : decode cX10_listMembers 5 = .ok (.aload_n 0, 1) := by decide +kernel
theorem dX10_listMembers_6 : decode cX10_listMembers 6 = .ok (.getfield 85, 3) := by decide +kernel
theorem dX10_listMembers_9 : decode cX10_listMembers 9 = .ok (.if_icmp .ge 46, 3) := by decide +kernel
theorem dX10_listMembers_12 : decode cX10_listMembers 12 = .ok (.iload_n 2, 1) := by decide +kernel
theorem dX10_listMembers_13 : decode cX10_listMembers 13 = .ok (.iconst 5, 1) := by decide +kernel
theorem dX10_listMembers_14 : decode cX10_listMembers 14 = .ok (.if_icmp .ge 41, 3) := by decide +kernel
theorem dX10_listMembers_17 : decode cX10_listMembers 17 = .ok (.iload_n 1, 1) := by decide +kernel
theorem dX10_listMembers_18 : decode cX10_listMembers 18 = .ok (.iload_n 3, 1) := by decide +kernel
theorem dX10_listMembers_19 : decode cX10_listMembers 19 = .ok (.ishr, 1) := by decide +kernel
theorem dX10_listMembers_20 : decode cX10_listMembers 20 = .ok (.iconst 1, 1) := by decide +kernel
theorem dX10_listMembers_21 : decode cX10_listMembers 21 = .ok (.iand, 1) := by decide +kernel
theorem dX10_listMembers_22 : decode cX10_listMembers 22 = .ok (.iconst 1, 1) := by decide +kernel
theorem dX10_listMembers_23 : decode cX10_listMembers 23 = .ok (.if_icmp .ne 26, 3) := by decide +kernel
theorem dX10_listMembers_26 : decode cX10_listMembers 26 = .ok (.aload_n 0, 1) := by decide +kernel
theorem dX10_listMembers_27 : decode cX10_listMembers 27 = .ok (.getfield 39, 3) := by decide +kernel
theorem dX10_listMembers_30 : decode cX10_listMembers 30 = .ok (.getfield 424, 3) := by decide +kernel
theorem dX10_listMembers_33 : decode cX10_listMembers 33 = .ok (.iload_n 2, 1) := by decide +kernel
theorem dX10_listMembers_34 : decode cX10_listMembers 34 = .ok (.iinc 2 1, 3) := by decide +kernel
theorem dX10_listMembers_37 : decode cX10_listMembers 37 = .ok (.aload_n 0, 1) := by decide +kernel
theorem dX10_listMembers_38 : decode cX10_listMembers 38 = .ok (.getfield 11, 3) := by decide +kernel
theorem dX10_listMembers_41 : decode cX10_listMembers 41 = .ok (.iload_n 3, 1) := by decide +kernel
theorem dX10_listMembers_42 : decode cX10_listMembers 42 = .ok (.aaload, 1) := by decide +kernel
theorem dX10_listMembers_43 : decode cX10_listMembers 43 = .ok (.getfield 88, 3) := by decide +kernel
theorem dX10_listMembers_46 : decode cX10_listMembers 46 = .ok (.iconst 2, 1) := by decide +kernel
theorem dX10_listMembers_47 : decode cX10_listMembers 47 = .ok (.iaload, 1) := by decide +kernel
theorem dX10_listMembers_48 : decode cX10_listMembers 48 = .ok (.iastore, 1) := by decide +kernel
theorem dX10_listMembers_49 : decode cX10_listMembers 49 = .ok (.iinc 3 1, 3) := by decide +kernel
theorem dX10_listMembers_52 : decode cX10_listMembers 52 = .ok (.goto (-48), 3) := by decide +kernel
theorem dX10_listMembers_55 : decode cX10_listMembers 55 = .ok (.iload_n 2, 1) := by decide +kernel
theorem dX10_listMembers_56 : decode cX10_listMembers 56 = .ok (.ireturn, 1) := by decide +kernel
theorem dX10_foreseeHunger_0 : decode cX10_foreseeHunger 0 = .ok (.iconst 0, 1) := by decide +kernel
theorem dX10_foreseeHunger_1 : decode cX10_foreseeHunger 1 = .ok (.istore 4, 2) := by decide +kernel
theorem dX10_foreseeHunger_3 : decode cX10_foreseeHunger 3 = .ok (.iload 4, 2) := by decide +kernel
theorem dX10_foreseeHunger_5 : decode cX10_foreseeHunger 5 = .ok (.iload_n 3, 1) := by decide +kernel
theorem dX10_foreseeHunger_6 : decode cX10_foreseeHunger 6 = .ok (.if_icmp .ge 59, 3) := by decide +kernel
theorem dX10_foreseeHunger_9 : decode cX10_foreseeHunger 9 = .ok (.aload_n 0, 1) := by decide +kernel
theorem dX10_foreseeHunger_10 : decode cX10_foreseeHunger 10 = .ok (.getfield 39, 3) := by decide +kernel
theorem dX10_foreseeHunger_13 : decode cX10_foreseeHunger 13 = .ok (.getfield 427, 3) := by decide +kernel
theorem dX10_foreseeHunger_16 : decode cX10_foreseeHunger 16 = .ok (.iload 4, 2) := by decide +kernel
theorem dX10_foreseeHunger_18 : decode cX10_foreseeHunger 18 = .ok (.aload_n 0, 1) := by decide +kernel
theorem dX10_foreseeHunger_19 : decode cX10_foreseeHunger 19 = .ok (.getfield 32, 3) := by decide +kernel
theorem dX10_foreseeHunger_22 : decode cX10_foreseeHunger 22 = .ok (.aload_n 0, 1) := by decide +kernel
theorem dX10_foreseeHunger_23 : decode cX10_foreseeHunger 23 = .ok (.getfield 142, 3) := by decide +kernel
theorem dX10_foreseeHunger_26 : decode cX10_foreseeHunger 26 = .ok (.iload 4, 2) := by decide +kernel
theorem dX10_foreseeHunger_28 : decode cX10_foreseeHunger 28 = .ok (.iadd, 1) := by decide +kernel
theorem dX10_foreseeHunger_29 : decode cX10_foreseeHunger 29 = .ok (.iconst 0, 1) := by decide +kernel
theorem dX10_foreseeHunger_30 : decode cX10_foreseeHunger 30 = .ok (.invokevirtual 252, 3) := by decide +kernel
theorem dX10_foreseeHunger_33 : decode cX10_foreseeHunger 33 = .ok (.iastore, 1) := by decide +kernel
theorem dX10_foreseeHunger_34 : decode cX10_foreseeHunger 34 = .ok (.aload_n 0, 1) := by decide +kernel
theorem dX10_foreseeHunger_35 : decode cX10_foreseeHunger 35 = .ok (.getfield 39, 3) := by decide +kernel
theorem dX10_foreseeHunger_38 : decode cX10_foreseeHunger 38 = .ok (.getfield 430, 3) := by decide +kernel
theorem dX10_foreseeHunger_41 : decode cX10_foreseeHunger 41 = .ok (.iload 4, 2) := by decide +kernel
theorem dX10_foreseeHunger_43 : decode cX10_foreseeHunger 43 = .ok (.aload_n 0, 1) := by decide +kernel
theorem dX10_foreseeHunger_44 : decode cX10_foreseeHunger 44 = .ok (.getfield 32, 3) := by decide +kernel
theorem dX10_foreseeHunger_47 : decode cX10_foreseeHunger 47 = .ok (.aload_n 0, 1) := by decide +kernel
theorem dX10_foreseeHunger_48 : decode cX10_foreseeHunger 48 = .ok (.getfield 142, 3) := by decide +kernel
theorem dX10_foreseeHunger_51 : decode cX10_foreseeHunger 51 = .ok (.iload 4, 2) := by decide +kernel
theorem dX10_foreseeHunger_53 : decode cX10_foreseeHunger 53 = .ok (.iadd, 1) := by decide +kernel
theorem dX10_foreseeHunger_54 : decode cX10_foreseeHunger 54 = .ok (.iconst 1, 1) := by decide +kernel
theorem dX10_foreseeHunger_55 : decode cX10_foreseeHunger 55 = .ok (.invokevirtual 252, 3) := by decide +kernel
theorem dX10_foreseeHunger_58 : decode cX10_foreseeHunger 58 = .ok (.iastore, 1) := by decide +kernel
theorem dX10_foreseeHunger_59 : decode cX10_foreseeHunger 59 = .ok (.iinc 4 1, 3) := by decide +kernel
theorem dX10_foreseeHunger_62 : decode cX10_foreseeHunger 62 = .ok (.goto (-59), 3) := by decide +kernel
theorem dX10_foreseeHunger_65 : decode cX10_foreseeHunger 65 = .ok (.iconst 0, 1) := by decide +kernel
theorem dX10_foreseeHunger_66 : decode cX10_foreseeHunger 66 = .ok (.istore 4, 2) := by decide +kernel
theorem dX10_foreseeHunger_68 : decode cX10_foreseeHunger 68 = .ok (.iload 4, 2) := by decide +kernel
theorem dX10_foreseeHunger_70 : decode cX10_foreseeHunger 70 = .ok (.aload_n 0, 1) := by decide +kernel
theorem dX10_foreseeHunger_71 : decode cX10_foreseeHunger 71 = .ok (.getfield 39, 3) := by decide +kernel
theorem dX10_foreseeHunger_74 : decode cX10_foreseeHunger 74 = .ok (.getfield 255, 3) := by decide +kernel
theorem dX10_foreseeHunger_77 : decode cX10_foreseeHunger 77 = .ok (.if_icmp .ge 71, 3) := by decide +kernel
theorem dX10_foreseeHunger_80 : decode cX10_foreseeHunger 80 = .ok (.aload_n 0, 1) := by decide +kernel
theorem dX10_foreseeHunger_81 : decode cX10_foreseeHunger 81 = .ok (.iload 4, 2) := by decide +kernel
theorem dX10_foreseeHunger_83 : decode cX10_foreseeHunger 83 = .ok (.iload_n 1, 1) := by decide +kernel
theorem dX10_foreseeHunger_84 : decode cX10_foreseeHunger 84 = .ok (.invokevirtual 271, 3) := by decide +kernel
theorem dX10_foreseeHunger_87 : decode cX10_foreseeHunger 87 = .ok (.istore 5, 2) := by decide +kernel
theorem dX10_foreseeHunger_89 : decode cX10_foreseeHunger 89 = .ok (.iconst 0, 1) := by decide +kernel
theorem dX10_foreseeHunger_90 : decode cX10_foreseeHunger 90 = .ok (.istore 6, 2) := by decide +kernel
theorem dX10_foreseeHunger_92 : decode cX10_foreseeHunger 92 = .ok (.iload 6, 2) := by decide +kernel
theorem dX10_foreseeHunger_94 : decode cX10_foreseeHunger 94 = .ok (.iconst 1, 1) := by decide +kernel
theorem dX10_foreseeHunger_95 : decode cX10_foreseeHunger 95 = .ok (.iload_n 2, 1) := by decide +kernel
theorem dX10_foreseeHunger_96 : decode cX10_foreseeHunger 96 = .ok (.ishl, 1) := by decide +kernel
theorem dX10_foreseeHunger_97 : decode cX10_foreseeHunger 97 = .ok (.if_icmp .ge 45, 3) := by decide +kernel
theorem dX10_foreseeHunger_100 : decode cX10_foreseeHunger 100 = .ok (.aload_n 0, 1) := by decide +kernel
theorem dX10_foreseeHunger_101 : decode cX10_foreseeHunger 101 = .ok (.getfield 39, 3) := by decide +kernel
theorem dX10_foreseeHunger_104 : decode cX10_foreseeHunger 104 = .ok (.getfield 433, 3) := by decide +kernel
theorem dX10_foreseeHunger_107 : decode cX10_foreseeHunger 107 = .ok (.iload 4, 2) := by decide +kernel
theorem dX10_foreseeHunger_109 : decode cX10_foreseeHunger 109 = .ok (.aaload, 1) := by decide +kernel
theorem dX10_foreseeHunger_110 : decode cX10_foreseeHunger 110 = .ok (.iload 6, 2) := by decide +kernel
theorem dX10_foreseeHunger_112 : decode cX10_foreseeHunger 112 = .ok (.aload_n 0, 1) := by decide +kernel
theorem dX10_foreseeHunger_113 : decode cX10_foreseeHunger 113 = .ok (.getfield 39, 3) := by decide +kernel
theorem dX10_foreseeHunger_116 : decode cX10_foreseeHunger 116 = .ok (.iload 4, 2) := by decide +kernel
theorem dX10_foreseeHunger_118 : decode cX10_foreseeHunger 118 = .ok (.iload 5, 2) := by decide +kernel
theorem dX10_foreseeHunger_120 : decode cX10_foreseeHunger 120 = .ok (.aload_n 0, 1) := by decide +kernel
theorem dX10_foreseeHunger_121 : decode cX10_foreseeHunger 121 = .ok (.getfield 39, 3) := by decide +kernel
theorem dX10_foreseeHunger_124 : decode cX10_foreseeHunger 124 = .ok (.iload 6, 2) := by decide +kernel
theorem dX10_foreseeHunger_126 : decode cX10_foreseeHunger 126 = .ok (.iload_n 2, 1) := by decide +kernel
theorem dX10_foreseeHunger_127 : decode cX10_foreseeHunger 127 = .ok (.invokevirtual 436, 3) := by decide +kernel
theorem dX10_foreseeHunger_130 : decode cX10_foreseeHunger 130 = .ok (.iadd, 1) := by decide +kernel
theorem dX10_foreseeHunger_131 : decode cX10_foreseeHunger 131 = .ok (.iload_n 3, 1) := by decide +kernel
theorem dX10_foreseeHunger_132 : decode cX10_foreseeHunger 132 = .ok (.invokevirtual 439, 3) := by decide +kernel
theorem dX10_foreseeHunger_135 : decode cX10_foreseeHunger 135 = .ok (.iastore, 1) := by decide +kernel
theorem dX10_foreseeHunger_136 : decode cX10_foreseeHunger 136 = .ok (.iinc 6 1, 3) := by decide +kernel
theorem dX10_foreseeHunger_139 : decode cX10_foreseeHunger 139 = .ok (.goto (-47), 3) := by decide +kernel
theorem dX10_foreseeHunger_142 : decode cX10_foreseeHunger 142 = .ok (.iinc 4 1, 3) := by decide +kernel
theorem dX10_foreseeHunger_145 : decode cX10_foreseeHunger 145 = .ok (.goto (-77), 3) := by decide +kernel
theorem dX10_foreseeHunger_148 : decode cX10_foreseeHunger 148 = .ok (.return_, 1) := by decide +kernel
theorem dX10_act_0 : decode cX10_act 0 = .ok (.aload_n 0, 1) := by decide +kernel
theorem dX10_act_1 : decode cX10_act 1 = .ok (.iconst 0, 1) := by decide +kernel
theorem dX10_act_2 : decode cX10_act 2 = .ok (.putfield 442, 3) := by decide +kernel
theorem dX10_act_5 : decode cX10_act 5 = .ok (.aload_n 0, 1) := by decide +kernel
theorem dX10_act_6 : decode cX10_act 6 = .ok (.getfield 18, 3) := by decide +kernel
theorem dX10_act_9 : decode cX10_act 9 = .ok (.iload_n 1, 1) := by decide +kernel
theorem dX10_act_10 : decode cX10_act 10 = .ok (.invokevirtual 133, 3) := by decide +kernel
theorem dX10_act_13 : decode cX10_act 13 = .ok (.ifCond .ne 5, 3) := by decide +kernel
theorem dX10_act_16 : decode cX10_act 16 = .ok (.iconst 0, 1) := by decide +kernel
theorem dX10_act_17 : decode cX10_act 17 = .ok (.ireturn, 1) := by decide +kernel
theorem dX10_act_18 : decode cX10_act 18 = .ok (.iload_n 2, 1) := by decide +kernel
theorem dX10_act_19 : decode cX10_act 19 = .ok (.tableswitch 46 0 2 #[25, 32, 39], 25) := by decide +kernel
theorem dX10_act_44 : decode cX10_act 44 = .ok (.aload_n 0, 1) := by decide +kernel
theorem dX10_act_45 : decode cX10_act 45 = .ok (.iload_n 1, 1) := by decide +kernel
theorem dX10_act_46 : decode cX10_act 46 = .ok (.iload_n 3, 1) := by decide +kernel
theorem dX10_act_47 : decode cX10_act 47 = .ok (.invokevirtual 445, 3) := by decide +kernel
theorem dX10_act_50 : decode cX10_act 50 = .ok (.ireturn, 1) := by decide +kernel
theorem dX10_act_51 : decode cX10_act 51 = .ok (.aload_n 0, 1) := by decide +kernel
theorem dX10_act_52 : decode cX10_act 52 = .ok (.iload_n 1, 1) := by decide +kernel
theorem dX10_act_53 : decode cX10_act 53 = .ok (.iload_n 3, 1) := by decide +kernel
theorem dX10_act_54 : decode cX10_act 54 = .ok (.invokevirtual 448, 3) := by decide +kernel
theorem dX10_act_57 : decode cX10_act 57 = .ok (.ireturn, 1) := by decide +kernel
theorem dX10_act_58 : decode cX10_act 58 = .ok (.aload_n 0, 1) := by decide +kernel
theorem dX10_act_59 : decode cX10_act 59 = .ok (.iload_n 1, 1) := by decide +kernel
theorem dX10_act_60 : decode cX10_act 60 = .ok (.iload_n 3, 1) := by decide +kernel
theorem dX10_act_61 : decode cX10_act 61 = .ok (.invokevirtual 451, 3) := by decide +kernel
theorem dX10_act_64 : decode cX10_act 64 = .ok (.ireturn, 1) := by decide +kernel
theorem dX10_act_65 : decode cX10_act 65 = .ok (.iconst 0, 1) := by decide +kernel
theorem dX10_act_66 : decode cX10_act 66 = .ok (.ireturn, 1) := by decide +kernel
theorem dX10_enterBody_0 : decode cX10_enterBody 0 = .ok (.aload_n 0, 1) := by decide +kernel
theorem dX10_enterBody_1 : decode cX10_enterBody 1 = .ok (.getfield 442, 3) := by decide +kernel
theorem dX10_enterBody_4 : decode cX10_enterBody 4 = .ok (.bipush 20, 2) := by decide +kernel
theorem dX10_enterBody_6 : decode cX10_enterBody 6 = .ok (.if_icmp .ge 13, 3) := by decide +kernel
theorem dX10_enterBody_9 : decode cX10_enterBody 9 = .ok (.aload_n 0, 1) := by decide +kernel
theorem dX10_enterBody_10 : decode cX10_enterBody 10 = .ok (.getfield 76, 3) := by decide +kernel
theorem dX10_enterBody_13 : decode cX10_enterBody 13 = .ok (.aload_n 0, 1) := by decide +kernel
theorem dX10_enterBody_14 : decode cX10_enterBody 14 = .ok (.getfield 442, 3) := by decide +kernel
theorem dX10_enterBody_17 : decode cX10_enterBody 17 = .ok (.iload_n 1, 1) := by decide +kernel
theorem dX10_enterBody_18 : decode cX10_enterBody 18 = .ok (.iastore, 1) := by decide +kernel
theorem dX10_enterBody_19 : decode cX10_enterBody 19 = .ok (.aload_n 0, 1) := by decide +kernel
theorem dX10_enterBody_20 : decode cX10_enterBody 20 = .ok (.dup, 1) := by decide +kernel
theorem dX10_enterBody_21 : decode cX10_enterBody 21 = .ok (.getfield 442, 3) := by decide +kernel
theorem dX10_enterBody_24 : decode cX10_enterBody 24 = .ok (.iconst 1, 1) := by decide +kernel
theorem dX10_enterBody_25 : decode cX10_enterBody 25 = .ok (.iadd, 1) := by decide +kernel
theorem dX10_enterBody_26 : decode cX10_enterBody 26 = .ok (.putfield 442, 3) := by decide +kernel
theorem dX10_enterBody_29 : decode cX10_enterBody 29 = .ok (.return_, 1) := by decide +kernel
theorem dX10_holdsBy_0 : decode cX10_holdsBy 0 = .ok (.aload_n 0, 1) := by decide +kernel
theorem dX10_holdsBy_1 : decode cX10_holdsBy 1 = .ok (.getfield 18, 3) := by decide +kernel
theorem dX10_holdsBy_4 : decode cX10_holdsBy 4 = .ok (.getfield 148, 3) := by decide +kernel
theorem dX10_holdsBy_7 : decode cX10_holdsBy 7 = .ok (.iload_n 1, 1) := by decide +kernel
theorem dX10_holdsBy_8 : decode cX10_holdsBy 8 = .ok (.iaload, 1) := by decide +kernel
theorem dX10_holdsBy_9 : decode cX10_holdsBy 9 = .ok (.istore_n 3, 1) := by decide +kernel
theorem dX10_holdsBy_10 : decode cX10_holdsBy 10 = .ok (.iload_n 3, 1) := by decide +kernel
theorem dX10_holdsBy_11 : decode cX10_holdsBy 11 = .ok (.iconst 2, 1) := by decide +kernel
theorem dX10_holdsBy_12 : decode cX10_holdsBy 12 = .ok (.if_icmp .ne 9, 3) := by decide +kernel
theorem dX10_holdsBy_15 : decode cX10_holdsBy 15 = .ok (.aload_n 0, 1) := by decide +kernel
theorem dX10_holdsBy_16 : decode cX10_holdsBy 16 = .ok (.bipush 30, 2) := by decide +kernel
theorem dX10_holdsBy_18 : decode cX10_holdsBy 18 = .ok (.invokevirtual 454, 3) := by decide +kernel
theorem dX10_holdsBy_21 : decode cX10_holdsBy 21 = .ok (.iload_n 3, 1) := by decide +kernel
theorem dX10_holdsBy_22 : decode cX10_holdsBy 22 = .ok (.iconst 4, 1) := by decide +kernel
theorem dX10_holdsBy_23 : decode cX10_holdsBy 23 = .ok (.if_icmp .ne 9, 3) := by decide +kernel
theorem dX10_holdsBy_26 : decode cX10_holdsBy 26 = .ok (.aload_n 0, 1) := by decide +kernel
theorem dX10_holdsBy_27 : decode cX10_holdsBy 27 = .ok (.bipush 50, 2) := by decide +kernel
theorem dX10_holdsBy_29 : decode cX10_holdsBy 29 = .ok (.invokevirtual 454, 3) := by decide +kernel
theorem dX10_holdsBy_32 : decode cX10_holdsBy 32 = .ok (.iload_n 3, 1) := by decide +kernel
theorem dX10_holdsBy_33 : decode cX10_holdsBy 33 = .ok (.iconst 5, 1) := by decide +kernel
theorem dX10_holdsBy_34 : decode cX10_holdsBy 34 = .ok (.if_icmp .ne 9, 3) := by decide +kernel
theorem dX10_holdsBy_37 : decode cX10_holdsBy 37 = .ok (.aload_n 0, 1) := by decide +kernel
theorem dX10_holdsBy_38 : decode cX10_holdsBy 38 = .ok (.bipush 60, 2) := by decide +kernel
theorem dX10_holdsBy_40 : decode cX10_holdsBy 40 = .ok (.invokevirtual 454, 3) := by decide +kernel
theorem dX10_holdsBy_43 : decode cX10_holdsBy 43 = .ok (.aload_n 0, 1) := by decide +kernel
theorem dX10_holdsBy_44 : decode cX10_holdsBy 44 = .ok (.bipush 10, 2) := by decide +kernel
theorem dX10_holdsBy_46 : decode cX10_holdsBy 46 = .ok (.invokevirtual 454, 3) := by decide +kernel
theorem dX10_holdsBy_49 : decode cX10_holdsBy 49 = .ok (.iload_n 2, 1) := by decide +kernel
theorem dX10_holdsBy_50 : decode cX10_holdsBy 50 = .ok (.aload_n 0, 1) := by decide +kernel
theorem dX10_holdsBy_51 : decode cX10_holdsBy 51 = .ok (.getfield 18, 3) := by decide +kernel
theorem dX10_holdsBy_54 : decode cX10_holdsBy 54 = .ok (.getfield 135, 3) := by decide +kernel
theorem dX10_holdsBy_57 : decode cX10_holdsBy 57 = .ok (.iload_n 1, 1) := by decide +kernel
theorem dX10_holdsBy_58 : decode cX10_holdsBy 58 = .ok (.iaload, 1) := by decide +kernel
theorem dX10_holdsBy_59 : decode cX10_holdsBy 59 = .ok (.iadd, 1) := by decide +kernel
theorem dX10_holdsBy_60 : decode cX10_holdsBy 60 = .ok (.istore 4, 2) := by decide +kernel
theorem dX10_holdsBy_62 : decode cX10_holdsBy 62 = .ok (.iload_n 3, 1) := by decide +kernel
theorem dX10_holdsBy_63 : decode cX10_holdsBy 63 = .ok (.iconst 2, 1) := by decide +kernel
theorem dX10_holdsBy_64 : decode cX10_holdsBy 64 = .ok (.if_icmp .ne 8, 3) := by decide +kernel
theorem dX10_holdsBy_67 : decode cX10_holdsBy 67 = .ok (.iload 4, 2) := by decide +kernel
theorem dX10_holdsBy_69 : decode cX10_holdsBy 69 = .ok (.iconst 3, 1) := by decide +kernel
theorem dX10_holdsBy_70 : decode cX10_holdsBy 70 = .ok (.imul, 1) := by decide +kernel
theorem dX10_holdsBy_71 : decode cX10_holdsBy 71 = .ok (.ireturn, 1) := by decide +kernel
theorem dX10_holdsBy_72 : decode cX10_holdsBy 72 = .ok (.iload_n 3, 1) := by decide +kernel
theorem dX10_holdsBy_73 : decode cX10_holdsBy 73 = .ok (.iconst 4, 1) := by decide +kernel
theorem dX10_holdsBy_74 : decode cX10_holdsBy 74 = .ok (.if_icmp .ne 8, 3) := by decide +kernel
theorem dX10_holdsBy_77 : decode cX10_holdsBy 77 = .ok (.iload 4, 2) := by decide +kernel
theorem dX10_holdsBy_79 : decode cX10_holdsBy 79 = .ok (.iconst 5, 1) := by decide +kernel
theorem dX10_holdsBy_80 : decode cX10_holdsBy 80 = .ok (.ixor, 1) := by decide +kernel
theorem dX10_holdsBy_81 : decode cX10_holdsBy 81 = .ok (.ireturn, 1) := by decide +kernel
theorem dX10_holdsBy_82 : decode cX10_holdsBy 82 = .ok (.iload_n 3, 1) := by decide +kernel
theorem dX10_holdsBy_83 : decode cX10_holdsBy 83 = .ok (.iconst 5, 1) := by decide +kernel
theorem dX10_holdsBy_84 : decode cX10_holdsBy 84 = .ok (.if_icmp .ne 11, 3) := by decide +kernel
theorem dX10_holdsBy_87 : decode cX10_holdsBy 87 = .ok (.iload 4, 2) := by decide +kernel
theorem dX10_holdsBy_89 : decode cX10_holdsBy 89 = .ok (.bipush 7, 2) := by decide +kernel
theorem dX10_holdsBy_91 : decode cX10_holdsBy 91 = .ok (.isub, 1) := by decide +kernel
theorem dX10_holdsBy_92 : decode cX10_holdsBy 92 = .ok (.goto 5, 3) := by decide +kernel
theorem dX10_holdsBy_95 : decode cX10_holdsBy 95 = .ok (.iload 4, 2) := by decide +kernel
theorem dX10_holdsBy_97 : decode cX10_holdsBy 97 = .ok (.ireturn, 1) := by decide +kernel
theorem dX10_owesBy_0 : decode cX10_owesBy 0 = .ok (.aload_n 0, 1) := by decide +kernel
theorem dX10_owesBy_1 : decode cX10_owesBy 1 = .ok (.getfield 18, 3) := by decide +kernel
theorem dX10_owesBy_4 : decode cX10_owesBy 4 = .ok (.getfield 148, 3) := by decide +kernel
theorem dX10_owesBy_7 : decode cX10_owesBy 7 = .ok (.iload_n 1, 1) := by decide +kernel
theorem dX10_owesBy_8 : decode cX10_owesBy 8 = .ok (.iaload, 1) := by decide +kernel
theorem dX10_owesBy_9 : decode cX10_owesBy 9 = .ok (.istore_n 3, 1) := by decide +kernel
theorem dX10_owesBy_10 : decode cX10_owesBy 10 = .ok (.iload_n 3, 1) := by decide +kernel
theorem dX10_owesBy_11 : decode cX10_owesBy 11 = .ok (.iconst 4, 1) := by decide +kernel
theorem dX10_owesBy_12 : decode cX10_owesBy 12 = .ok (.if_icmp .ne 9, 3) := by decide +kernel
theorem dX10_owesBy_15 : decode cX10_owesBy 15 = .ok (.aload_n 0, 1) := by decide +kernel
theorem dX10_owesBy_16 : decode cX10_owesBy 16 = .ok (.bipush 51, 2) := by decide +kernel
theorem dX10_owesBy_18 : decode cX10_owesBy 18 = .ok (.invokevirtual 454, 3) := by decide +kernel
theorem dX10_owesBy_21 : decode cX10_owesBy 21 = .ok (.iload_n 3, 1) := by decide +kernel
theorem dX10_owesBy_22 : decode cX10_owesBy 22 = .ok (.iconst 4, 1) := by decide +kernel
theorem dX10_owesBy_23 : decode cX10_owesBy 23 = .ok (.if_icmp .eq 8, 3) := by decide +kernel
theorem dX10_owesBy_26 : decode cX10_owesBy 26 = .ok (.iload_n 3, 1) := by decide +kernel
theorem dX10_owesBy_27 : decode cX10_owesBy 27 = .ok (.iconst 1, 1) := by decide +kernel
theorem dX10_owesBy_28 : decode cX10_owesBy 28 = .ok (.if_icmp .ne 9, 3) := by decide +kernel
theorem dX10_owesBy_31 : decode cX10_owesBy 31 = .ok (.aload_n 0, 1) := by decide +kernel
theorem dX10_owesBy_32 : decode cX10_owesBy 32 = .ok (.bipush 20, 2) := by decide +kernel
theorem dX10_owesBy_34 : decode cX10_owesBy 34 = .ok (.invokevirtual 454, 3) := by decide +kernel
theorem dX10_owesBy_37 : decode cX10_owesBy 37 = .ok (.aload_n 0, 1) := by decide +kernel
theorem dX10_owesBy_38 : decode cX10_owesBy 38 = .ok (.bipush 11, 2) := by decide +kernel
theorem dX10_owesBy_40 : decode cX10_owesBy 40 = .ok (.invokevirtual 454, 3) := by decide +kernel
theorem dX10_owesBy_43 : decode cX10_owesBy 43 = .ok (.aload_n 0, 1) := by decide +kernel
theorem dX10_owesBy_44 : decode cX10_owesBy 44 = .ok (.iload_n 1, 1) := by decide +kernel
theorem dX10_owesBy_45 : decode cX10_owesBy 45 = .ok (.iload_n 2, 1) := by decide +kernel
theorem dX10_owesBy_46 : decode cX10_owesBy 46 = .ok (.invokevirtual 445, 3) := by decide +kernel
theorem dX10_owesBy_49 : decode cX10_owesBy 49 = .ok (.iconst 2, 1) := by decide +kernel
theorem dX10_owesBy_50 : decode cX10_owesBy 50 = .ok (.imul, 1) := by decide +kernel
theorem dX10_owesBy_51 : decode cX10_owesBy 51 = .ok (.istore 4, 2) := by decide +kernel
theorem dX10_owesBy_53 : decode cX10_owesBy 53 = .ok (.iload_n 3, 1) := by decide +kernel
theorem dX10_owesBy_54 : decode cX10_owesBy 54 = .ok (.iconst 4, 1) := by decide +kernel
theorem dX10_owesBy_55 : decode cX10_owesBy 55 = .ok (.if_icmp .eq 8, 3) := by decide +kernel
theorem dX10_owesBy_58 : decode cX10_owesBy 58 = .ok (.iload_n 3, 1) := by decide +kernel
theorem dX10_owesBy_59 : decode cX10_owesBy 59 = .ok (.iconst 1, 1) := by decide +kernel
theorem dX10_owesBy_60 : decode cX10_owesBy 60 = .ok (.if_icmp .ne 9, 3) := by decide +kernel
theorem dX10_owesBy_63 : decode cX10_owesBy 63 = .ok (.iload 4, 2) := by decide +kernel
theorem dX10_owesBy_65 : decode cX10_owesBy 65 = .ok (.iload_n 1, 1) := by decide +kernel
theorem dX10_owesBy_66 : decode cX10_owesBy 66 = .ok (.iadd, 1) := by decide +kernel
theorem dX10_owesBy_67 : decode cX10_owesBy 67 = .ok (.istore 4, 2) := by decide +kernel
theorem dX10_owesBy_69 : decode cX10_owesBy 69 = .ok (.iload_n 3, 1) := by decide +kernel
theorem dX10_owesBy_70 : decode cX10_owesBy 70 = .ok (.iconst 4, 1) := by decide +kernel
theorem dX10_owesBy_71 : decode cX10_owesBy 71 = .ok (.if_icmp .ne 18, 3) := by decide +kernel
theorem dX10_owesBy_74 : decode cX10_owesBy 74 = .ok (.iload 4, 2) := by decide +kernel
theorem dX10_owesBy_76 : decode cX10_owesBy 76 = .ok (.aload_n 0, 1) := by decide +kernel
theorem dX10_owesBy_77 : decode cX10_owesBy 77 = .ok (.getfield 18, 3) := by decide +kernel
theorem dX10_owesBy_80 : decode cX10_owesBy 80 = .ok (.getfield 135, 3) := by decide +kernel
theorem dX10_owesBy_83 : decode cX10_owesBy 83 = .ok (.iload_n 1, 1) := by decide +kernel
theorem dX10_owesBy_84 : decode cX10_owesBy 84 = .ok (.iaload, 1) := by decide +kernel
theorem dX10_owesBy_85 : decode cX10_owesBy 85 = .ok (.isub, 1) := by decide +kernel
theorem dX10_owesBy_86 : decode cX10_owesBy 86 = .ok (.goto 5, 3) := by decide +kernel
theorem dX10_owesBy_89 : decode cX10_owesBy 89 = .ok (.iload 4, 2) := by decide +kernel
theorem dX10_owesBy_91 : decode cX10_owesBy 91 = .ok (.ireturn, 1) := by decide +kernel
theorem dX10_passesBy_0 : decode cX10_passesBy 0 = .ok (.iload_n 2, 1) := by decide +kernel
theorem dX10_passesBy_1 : decode cX10_passesBy 1 = .ok (.istore_n 3, 1) := by decide +kernel
theorem dX10_passesBy_2 : decode cX10_passesBy 2 = .ok (.aload_n 0, 1) := by decide +kernel
theorem dX10_passesBy_3 : decode cX10_passesBy 3 = .ok (.getfield 18, 3) := by decide +kernel
theorem dX10_passesBy_6 : decode cX10_passesBy 6 = .ok (.getfield 148, 3) := by decide +kernel
theorem dX10_passesBy_9 : decode cX10_passesBy 9 = .ok (.iload_n 1, 1) := by decide +kernel
theorem dX10_passesBy_10 : decode cX10_passesBy 10 = .ok (.iaload, 1) := by decide +kernel
theorem dX10_passesBy_11 : decode cX10_passesBy 11 = .ok (.iconst 3, 1) := by decide +kernel
theorem dX10_passesBy_12 : decode cX10_passesBy 12 = .ok (.if_icmp .ne 13, 3) := by decide +kernel
theorem dX10_passesBy_15 : decode cX10_passesBy 15 = .ok (.aload_n 0, 1) := by decide +kernel
theorem dX10_passesBy_16 : decode cX10_passesBy 16 = .ok (.bipush 40, 2) := by decide +kernel
theorem dX10_passesBy_18 : decode cX10_passesBy 18 = .ok (.invokevirtual 454, 3) := by decide +kernel
theorem dX10_passesBy_21 : decode cX10_passesBy 21 = .ok (.iload_n 2, 1) := by decide +kernel
theorem dX10_passesBy_22 : decode cX10_passesBy 22 = .ok (.iconst 1, 1) := by decide +kernel
theorem dX10_passesBy_23 : decode cX10_passesBy 23 = .ok (.iadd, 1) := by decide +kernel
theorem dX10_passesBy_24 : decode cX10_passesBy 24 = .ok (.istore_n 3, 1) := by decide +kernel
theorem dX10_passesBy_25 : decode cX10_passesBy 25 = .ok (.aload_n 0, 1) := by decide +kernel
theorem dX10_passesBy_26 : decode cX10_passesBy 26 = .ok (.bipush 12, 2) := by decide +kernel
theorem dX10_passesBy_28 : decode cX10_passesBy 28 = .ok (.invokevirtual 454, 3) := by decide +kernel
theorem dX10_passesBy_31 : decode cX10_passesBy 31 = .ok (.aload_n 0, 1) := by decide +kernel
theorem dX10_passesBy_32 : decode cX10_passesBy 32 = .ok (.iload_n 1, 1) := by decide +kernel
theorem dX10_passesBy_33 : decode cX10_passesBy 33 = .ok (.iload_n 3, 1) := by decide +kernel
theorem dX10_passesBy_34 : decode cX10_passesBy 34 = .ok (.invokevirtual 448, 3) := by decide +kernel
theorem dX10_passesBy_37 : decode cX10_passesBy 37 = .ok (.istore 4, 2) := by decide +kernel
theorem dX10_passesBy_39 : decode cX10_passesBy 39 = .ok (.iload 4, 2) := by decide +kernel
theorem dX10_passesBy_41 : decode cX10_passesBy 41 = .ok (.aload_n 0, 1) := by decide +kernel
theorem dX10_passesBy_42 : decode cX10_passesBy 42 = .ok (.iload_n 1, 1) := by decide +kernel
theorem dX10_passesBy_43 : decode cX10_passesBy 43 = .ok (.iload_n 3, 1) := by decide +kernel
theorem dX10_passesBy_44 : decode cX10_passesBy 44 = .ok (.iload_n 1, 1) := by decide +kernel
theorem dX10_passesBy_45 : decode cX10_passesBy 45 = .ok (.isub, 1) := by decide +kernel
theorem dX10_passesBy_46 : decode cX10_passesBy 46 = .ok (.invokevirtual 445, 3) := by decide +kernel
theorem dX10_passesBy_49 : decode cX10_passesBy 49 = .ok (.ixor, 1) := by decide +kernel
theorem dX10_passesBy_50 : decode cX10_passesBy 50 = .ok (.ireturn, 1) := by decide +kernel
theorem dX10_trace_0 : decode cX10_trace 0 = .ok (.iload_n 1, 1) := by decide +kernel
theorem dX10_trace_1 : decode cX10_trace 1 = .ok (.ifCond .lt 17, 3) := by decide +kernel
theorem dX10_trace_4 : decode cX10_trace 4 = .ok (.iload_n 1, 1) := by decide +kernel
theorem dX10_trace_5 : decode cX10_trace 5 = .ok (.aload_n 0, 1) := by decide +kernel
theorem dX10_trace_6 : decode cX10_trace 6 = .ok (.getfield 442, 3) := by decide +kernel
theorem dX10_trace_9 : decode cX10_trace 9 = .ok (.if_icmp .ge 9, 3) := by decide +kernel
theorem dX10_trace_12 : decode cX10_trace 12 = .ok (.iload_n 1, 1) := by decide +kernel
theorem dX10_trace_13 : decode cX10_trace 13 = .ok (.bipush 20, 2) := by decide +kernel
theorem dX10_trace_15 : decode cX10_trace 15 = .ok (.if_icmp .lt 5, 3) := by decide +kernel
theorem dX10_trace_18 : decode cX10_trace 18 = .ok (.iconst (-1), 1) := by decide +kernel
theorem dX10_trace_19 : decode cX10_trace 19 = .ok (.ireturn, 1) := by decide +kernel
theorem dX10_trace_20 : decode cX10_trace 20 = .ok (.aload_n 0, 1) := by decide +kernel
theorem dX10_trace_21 : decode cX10_trace 21 = .ok (.getfield 76, 3) := by decide +kernel
theorem dX10_trace_24 : decode cX10_trace 24 = .ok (.iload_n 1, 1) := by decide +kernel
theorem dX10_trace_25 : decode cX10_trace 25 = .ok (.iaload, 1) := by decide +kernel
theorem dX10_trace_26 : decode cX10_trace 26 = .ok (.ireturn, 1) := by decide +kernel
theorem dX10_taken_0 : decode cX10_taken 0 = .ok (.iload_n 2, 1) := by decide +kernel
theorem dX10_taken_1 : decode cX10_taken 1 = .ok (.ifCond .lt 9, 3) := by decide +kernel
theorem dX10_taken_4 : decode cX10_taken 4 = .ok (.iload_n 2, 1) := by decide +kernel
theorem dX10_taken_5 : decode cX10_taken 5 = .ok (.bipush 6, 2) := by decide +kernel
theorem dX10_taken_7 : decode cX10_taken 7 = .ok (.if_icmp .lt 6, 3) := by decide +kernel
theorem dX10_taken_10 : decode cX10_taken 10 = .ok (.bipush (-2), 2) := by decide +kernel
theorem dX10_taken_12 : decode cX10_taken 12 = .ok (.ireturn, 1) := by decide +kernel
theorem dX10_taken_13 : decode cX10_taken 13 = .ok (.aload_n 0, 1) := by decide +kernel
theorem dX10_taken_14 : decode cX10_taken 14 = .ok (.getfield 18, 3) := by decide +kernel
theorem dX10_taken_17 : decode cX10_taken 17 = .ok (.iload_n 1, 1) := by decide +kernel
theorem dX10_taken_18 : decode cX10_taken 18 = .ok (.invokevirtual 133, 3) := by decide +kernel
theorem dX10_taken_21 : decode cX10_taken 21 = .ok (.ifCond .ne 6, 3) := by decide +kernel
theorem dX10_taken_24 : decode cX10_taken 24 = .ok (.bipush (-11), 2) := by decide +kernel
theorem dX10_taken_26 : decode cX10_taken 26 = .ok (.ireturn, 1) := by decide +kernel
theorem dX10_taken_27 : decode cX10_taken 27 = .ok (.aload_n 0, 1) := by decide +kernel
theorem dX10_taken_28 : decode cX10_taken 28 = .ok (.getfield 18, 3) := by decide +kernel
theorem dX10_taken_31 : decode cX10_taken 31 = .ok (.getfield 148, 3) := by decide +kernel
theorem dX10_taken_34 : decode cX10_taken 34 = .ok (.iload_n 1, 1) := by decide +kernel
theorem dX10_taken_35 : decode cX10_taken 35 = .ok (.iaload, 1) := by decide +kernel
theorem dX10_taken_36 : decode cX10_taken 36 = .ok (.istore_n 3, 1) := by decide +kernel
theorem dX10_taken_37 : decode cX10_taken 37 = .ok (.iload_n 3, 1) := by decide +kernel
theorem dX10_taken_38 : decode cX10_taken 38 = .ok (.iload_n 2, 1) := by decide +kernel
theorem dX10_taken_39 : decode cX10_taken 39 = .ok (.invokestatic 457, 3) := by decide +kernel
theorem dX10_taken_42 : decode cX10_taken 42 = .ok (.ifCond .eq 7, 3) := by decide +kernel
theorem dX10_taken_45 : decode cX10_taken 45 = .ok (.iload_n 3, 1) := by decide +kernel
theorem dX10_taken_46 : decode cX10_taken 46 = .ok (.goto 5, 3) := by decide +kernel
theorem dX10_taken_49 : decode cX10_taken 49 = .ok (.bipush (-13), 2) := by decide +kernel
theorem dX10_taken_51 : decode cX10_taken 51 = .ok (.ireturn, 1) := by decide +kernel
theorem dX10_count_0 : decode cX10_count 0 = .ok (.iload_n 1, 1) := by decide +kernel
theorem dX10_count_1 : decode cX10_count 1 = .ok (.tableswitch 188 0 14 #[75, 80, 88, 96, 101, 109, 117, 122, 130, 138, 146, 151, 159, 167, 183], 75) := by decide +kernel
theorem dX10_count_76 : decode cX10_count 76 = .ok (.aload_n 0, 1) := by decide +kernel
theorem dX10_count_77 : decode cX10_count 77 = .ok (.getfield 85, 3) := by decide +kernel
theorem dX10_count_80 : decode cX10_count 80 = .ok (.ireturn, 1) := by decide +kernel
theorem dX10_count_81 : decode cX10_count 81 = .ok (.aload_n 0, 1) := by decide +kernel
theorem dX10_count_82 : decode cX10_count 82 = .ok (.getfield 18, 3) := by decide +kernel
theorem dX10_count_85 : decode cX10_count 85 = .ok (.getfield 126, 3) := by decide +kernel
theorem dX10_count_88 : decode cX10_count 88 = .ok (.ireturn, 1) := by decide +kernel
theorem dX10_count_89 : decode cX10_count 89 = .ok (.aload_n 0, 1) := by decide +kernel
theorem dX10_count_90 : decode cX10_count 90 = .ok (.getfield 25, 3) := by decide +kernel
theorem dX10_count_93 : decode cX10_count 93 = .ok (.getfield 184, 3) := by decide +kernel
theorem dX10_count_96 : decode cX10_count 96 = .ok (.ireturn, 1) := by decide +kernel
theorem dX10_count_97 : decode cX10_count 97 = .ok (.aload_n 0, 1) := by decide +kernel
theorem dX10_count_98 : decode cX10_count 98 = .ok (.getfield 142, 3) := by decide +kernel
theorem dX10_count_101 : decode cX10_count 101 = .ok (.ireturn, 1) := by decide +kernel
theorem dX10_count_102 : decode cX10_count 102 = .ok (.aload_n 0, 1) := by decide +kernel
theorem dX10_count_103 : decode cX10_count 103 = .ok (.getfield 39, 3) := by decide +kernel
theorem dX10_count_106 : decode cX10_count 106 = .ok (.getfield 255, 3) := by decide +kernel
theorem dX10_count_109 : decode cX10_count 109 = .ok (.ireturn, 1) := by decide +kernel
theorem dX10_count_110 : decode cX10_count 110 = .ok (.aload_n 0, 1) := by decide +kernel
theorem dX10_count_111 : decode cX10_count 111 = .ok (.getfield 46, 3) := by decide +kernel
theorem dX10_count_114 : decode cX10_count 114 = .ok (.getfield 321, 3) := by decide +kernel
theorem dX10_count_117 : decode cX10_count 117 = .ok (.ireturn, 1) := by decide +kernel
theorem dX10_count_118 : decode cX10_count 118 = .ok (.aload_n 0, 1) := by decide +kernel
theorem dX10_count_119 : decode cX10_count 119 = .ok (.getfield 212, 3) := by decide +kernel
theorem dX10_count_122 : decode cX10_count 122 = .ok (.ireturn, 1) := by decide +kernel
theorem dX10_count_123 : decode cX10_count 123 = .ok (.aload_n 0, 1) := by decide +kernel
theorem dX10_count_124 : decode cX10_count 124 = .ok (.getfield 46, 3) := by decide +kernel
theorem dX10_count_127 : decode cX10_count 127 = .ok (.getfield 460, 3) := by decide +kernel
theorem dX10_count_130 : decode cX10_count 130 = .ok (.ireturn, 1) := by decide +kernel
theorem dX10_count_131 : decode cX10_count 131 = .ok (.aload_n 0, 1) := by decide +kernel
theorem dX10_count_132 : decode cX10_count 132 = .ok (.getfield 46, 3) := by decide +kernel
theorem dX10_count_135 : decode cX10_count 135 = .ok (.getfield 463, 3) := by decide +kernel
theorem dX10_count_138 : decode cX10_count 138 = .ok (.ireturn, 1) := by decide +kernel
theorem dX10_count_139 : decode cX10_count 139 = .ok (.aload_n 0, 1) := by decide +kernel
theorem dX10_count_140 : decode cX10_count 140 = .ok (.getfield 46, 3) := by decide +kernel
theorem dX10_count_143 : decode cX10_count 143 = .ok (.getfield 466, 3) := by decide +kernel
theorem dX10_count_146 : decode cX10_count 146 = .ok (.ireturn, 1) := by decide +kernel
theorem dX10_count_147 : decode cX10_count 147 = .ok (.aload_n 0, 1) := by decide +kernel
theorem dX10_count_148 : decode cX10_count 148 = .ok (.invokevirtual 469, 3) := by decide +kernel
theorem dX10_count_151 : decode cX10_count 151 = .ok (.ireturn, 1) := by decide +kernel
theorem dX10_count_152 : decode cX10_count 152 = .ok (.aload_n 0, 1) := by decide +kernel
theorem dX10_count_153 : decode cX10_count 153 = .ok (.getfield 46, 3) := by decide +kernel
theorem dX10_count_156 : decode cX10_count 156 = .ok (.getfield 375, 3) := by decide +kernel
theorem dX10_count_159 : decode cX10_count 159 = .ok (.ireturn, 1) := by decide +kernel
theorem dX10_count_160 : decode cX10_count 160 = .ok (.aload_n 0, 1) := by decide +kernel
theorem dX10_count_161 : decode cX10_count 161 = .ok (.getfield 25, 3) := by decide +kernel
theorem dX10_count_164 : decode cX10_count 164 = .ok (.getfield 174, 3) := by decide +kernel
theorem dX10_count_167 : decode cX10_count 167 = .ok (.ireturn, 1) := by decide +kernel
theorem dX10_count_168 : decode cX10_count 168 = .ok (.aload_n 0, 1) := by decide +kernel
theorem dX10_count_169 : decode cX10_count 169 = .ok (.getfield 46, 3) := by decide +kernel
theorem dX10_count_172 : decode cX10_count 172 = .ok (.getfield 353, 3) := by decide +kernel
theorem dX10_count_175 : decode cX10_count 175 = .ok (.ifCond .eq 7, 3) := by decide +kernel
theorem dX10_count_178 : decode cX10_count 178 = .ok (.iconst 1, 1) := by decide +kernel
theorem dX10_count_179 : decode cX10_count 179 = .ok (.goto 4, 3) := by decide +kernel
theorem dX10_count_182 : decode cX10_count 182 = .ok (.iconst 0, 1) := by decide +kernel
theorem dX10_count_183 : decode cX10_count 183 = .ok (.ireturn, 1) := by decide +kernel
theorem dX10_count_184 : decode cX10_count 184 = .ok (.aload_n 0, 1) := by decide +kernel
theorem dX10_count_185 : decode cX10_count 185 = .ok (.getfield 442, 3) := by decide +kernel
theorem dX10_count_188 : decode cX10_count 188 = .ok (.ireturn, 1) := by decide +kernel
theorem dX10_count_189 : decode cX10_count 189 = .ok (.bipush (-2), 2) := by decide +kernel
theorem dX10_count_191 : decode cX10_count 191 = .ok (.ireturn, 1) := by decide +kernel
theorem dX10_wheelsGiven_0 : decode cX10_wheelsGiven 0 = .ok (.iconst 0, 1) := by decide +kernel
theorem dX10_wheelsGiven_1 : decode cX10_wheelsGiven 1 = .ok (.istore_n 1, 1) := by decide +kernel
theorem dX10_wheelsGiven_2 : decode cX10_wheelsGiven 2 = .ok (.iconst 0, 1) := by decide +kernel
theorem dX10_wheelsGiven_3 : decode cX10_wheelsGiven 3 = .ok (.istore_n 2, 1) := by decide +kernel
theorem dX10_wheelsGiven_4 : decode cX10_wheelsGiven 4 = .ok (.iload_n 2, 1) := by decide +kernel
theorem dX10_wheelsGiven_5 : decode cX10_wheelsGiven 5 = .ok (.aload_n 0, 1) := by decide +kernel
theorem dX10_wheelsGiven_6 : decode cX10_wheelsGiven 6 = .ok (.getfield 85, 3) := by decide +kernel
theorem dX10_wheelsGiven_9 : decode cX10_wheelsGiven 9 = .ok (.if_icmp .ge 21, 3) := by decide +kernel
theorem dX10_wheelsGiven_12 : decode cX10_wheelsGiven 12 = .ok (.iload_n 1, 1) := by decide +kernel
theorem dX10_wheelsGiven_13 : decode cX10_wheelsGiven 13 = .ok (.aload_n 0, 1) := by decide +kernel
theorem dX10_wheelsGiven_14 : decode cX10_wheelsGiven 14 = .ok (.getfield 11, 3) := by decide +kernel
theorem dX10_wheelsGiven_17 : decode cX10_wheelsGiven 17 = .ok (.iload_n 2, 1) := by decide +kernel
theorem dX10_wheelsGiven_18 : decode cX10_wheelsGiven 18 = .ok (.aaload, 1) := by decide +kernel
theorem dX10_wheelsGiven_19 : decode cX10_wheelsGiven 19 = .ok (.getfield 117, 3) := by decide +kernel
theorem dX10_wheelsGiven_22 : decode cX10_wheelsGiven 22 = .ok (.iadd, 1) := by decide +kernel
theorem dX10_wheelsGiven_23 : decode cX10_wheelsGiven 23 = .ok (.istore_n 1, 1) := by decide +kernel
theorem dX10_wheelsGiven_24 : decode cX10_wheelsGiven 24 = .ok (.iinc 2 1, 3) := by decide +kernel
theorem dX10_wheelsGiven_27 : decode cX10_wheelsGiven 27 = .ok (.goto (-23), 3) := by decide +kernel
theorem dX10_wheelsGiven_30 : decode cX10_wheelsGiven 30 = .ok (.iload_n 1, 1) := by decide +kernel
theorem dX10_wheelsGiven_31 : decode cX10_wheelsGiven 31 = .ok (.ireturn, 1) := by decide +kernel
theorem dX10_sheet_0 : decode cX10_sheet 0 = .ok (.iload_n 1, 1) := by decide +kernel
theorem dX10_sheet_1 : decode cX10_sheet 1 = .ok (.invokestatic 235, 3) := by decide +kernel
theorem dX10_sheet_4 : decode cX10_sheet 4 = .ok (.ifCond .eq 13, 3) := by decide +kernel
theorem dX10_sheet_7 : decode cX10_sheet 7 = .ok (.iload_n 2, 1) := by decide +kernel
theorem dX10_sheet_8 : decode cX10_sheet 8 = .ok (.iconst (-1), 1) := by decide +kernel
theorem dX10_sheet_9 : decode cX10_sheet 9 = .ok (.if_icmp .lt 8, 3) := by decide +kernel
theorem dX10_sheet_12 : decode cX10_sheet 12 = .ok (.iload_n 2, 1) := by decide +kernel
theorem dX10_sheet_13 : decode cX10_sheet 13 = .ok (.iconst 2, 1) := by decide +kernel
theorem dX10_sheet_14 : decode cX10_sheet 14 = .ok (.if_icmp .le 6, 3) := by decide +kernel
theorem dX10_sheet_17 : decode cX10_sheet 17 = .ok (.bipush (-2), 2) := by decide +kernel
theorem dX10_sheet_19 : decode cX10_sheet 19 = .ok (.ireturn, 1) := by decide +kernel
theorem dX10_sheet_20 : decode cX10_sheet 20 = .ok (.iload_n 2, 1) := by decide +kernel
theorem dX10_sheet_21 : decode cX10_sheet 21 = .ok (.iconst (-1), 1) := by decide +kernel
theorem dX10_sheet_22 : decode cX10_sheet 22 = .ok (.if_icmp .ne 16, 3) := by decide +kernel
theorem dX10_sheet_25 : decode cX10_sheet 25 = .ok (.aload_n 0, 1) := by decide +kernel
theorem dX10_sheet_26 : decode cX10_sheet 26 = .ok (.getfield 59, 3) := by decide +kernel
theorem dX10_sheet_29 : decode cX10_sheet 29 = .ok (.iload_n 1, 1) := by decide +kernel
theorem dX10_sheet_30 : decode cX10_sheet 30 = .ok (.aaload, 1) := by decide +kernel
theorem dX10_sheet_31 : decode cX10_sheet 31 = .ok (.iconst (-1), 1) := by decide +kernel
theorem dX10_sheet_32 : decode cX10_sheet 32 = .ok (.iconst 0, 1) := by decide +kernel
theorem dX10_sheet_33 : decode cX10_sheet 33 = .ok (.invokevirtual 472, 3) := by decide +kernel
theorem dX10_sheet_36 : decode cX10_sheet 36 = .ok (.iconst 1, 1) := by decide +kernel
theorem dX10_sheet_37 : decode cX10_sheet 37 = .ok (.ireturn, 1) := by decide +kernel
theorem dX10_sheet_38 : decode cX10_sheet 38 = .ok (.iload_n 3, 1) := by decide +kernel
theorem dX10_sheet_39 : decode cX10_sheet 39 = .ok (.bipush 60, 2) := by decide +kernel
theorem dX10_sheet_41 : decode cX10_sheet 41 = .ok (.if_icmp .le 6, 3) := by decide +kernel
theorem dX10_sheet_44 : decode cX10_sheet 44 = .ok (.bipush (-2), 2) := by decide +kernel
theorem dX10_sheet_46 : decode cX10_sheet 46 = .ok (.ireturn, 1) := by decide +kernel
theorem dX10_sheet_47 : decode cX10_sheet 47 = .ok (.iload_n 3, 1) := by decide +kernel
theorem dX10_sheet_48 : decode cX10_sheet 48 = .ok (.ifCond .ge 6, 3) := by decide +kernel
theorem dX10_sheet_51 : decode cX10_sheet 51 = .ok (.bipush (-14), 2) := by decide +kernel
theorem dX10_sheet_53 : decode cX10_sheet 53 = .ok (.ireturn, 1) := by decide +kernel
theorem dX10_sheet_54 : decode cX10_sheet 54 = .ok (.aload_n 0, 1) := by decide +kernel
theorem dX10_sheet_55 : decode cX10_sheet 55 = .ok (.getfield 59, 3) := by decide +kernel
theorem dX10_sheet_58 : decode cX10_sheet 58 = .ok (.iload_n 1, 1) := by decide +kernel
theorem dX10_sheet_59 : decode cX10_sheet 59 = .ok (.aaload, 1) := by decide +kernel
theorem dX10_sheet_60 : decode cX10_sheet 60 = .ok (.iload_n 2, 1) := by decide +kernel
theorem dX10_sheet_61 : decode cX10_sheet 61 = .ok (.iload_n 3, 1) := by decide +kernel
theorem dX10_sheet_62 : decode cX10_sheet 62 = .ok (.invokevirtual 472, 3) := by decide +kernel
theorem dX10_sheet_65 : decode cX10_sheet 65 = .ok (.iconst 1, 1) := by decide +kernel
theorem dX10_sheet_66 : decode cX10_sheet 66 = .ok (.ireturn, 1) := by decide +kernel
theorem dX10_cell_0 : decode cX10_cell 0 = .ok (.iload_n 1, 1) := by decide +kernel
theorem dX10_cell_1 : decode cX10_cell 1 = .ok (.invokestatic 235, 3) := by decide +kernel
theorem dX10_cell_4 : decode cX10_cell 4 = .ok (.ifCond .ne 6, 3) := by decide +kernel
theorem dX10_cell_7 : decode cX10_cell 7 = .ok (.bipush (-2), 2) := by decide +kernel
theorem dX10_cell_9 : decode cX10_cell 9 = .ok (.ireturn, 1) := by decide +kernel
theorem dX10_cell_10 : decode cX10_cell 10 = .ok (.aload_n 0, 1) := by decide +kernel
theorem dX10_cell_11 : decode cX10_cell 11 = .ok (.getfield 59, 3) := by decide +kernel
theorem dX10_cell_14 : decode cX10_cell 14 = .ok (.iload_n 1, 1) := by decide +kernel
theorem dX10_cell_15 : decode cX10_cell 15 = .ok (.aaload, 1) := by decide +kernel
theorem dX10_cell_16 : decode cX10_cell 16 = .ok (.astore 4, 2) := by decide +kernel
theorem dX10_cell_18 : decode cX10_cell 18 = .ok (.aload 4, 2) := by decide +kernel
theorem dX10_cell_20 : decode cX10_cell 20 = .ok (.getfield 238, 3) := by decide +kernel
theorem dX10_cell_23 : decode cX10_cell 23 = .ok (.iconst (-1), 1) := by decide +kernel
theorem dX10_cell_24 : decode cX10_cell 24 = .ok (.if_icmp .ne 6, 3) := by decide +kernel
theorem dX10_cell_27 : decode cX10_cell 27 = .ok (.bipush (-11), 2) := by decide +kernel
theorem dX10_cell_29 : decode cX10_cell 29 = .ok (.ireturn, 1) := by decide +kernel
theorem dX10_cell_30 : decode cX10_cell 30 = .ok (.aload 4, 2) := by decide +kernel
theorem dX10_cell_32 : decode cX10_cell 32 = .ok (.iload_n 2, 1) := by decide +kernel
theorem dX10_cell_33 : decode cX10_cell 33 = .ok (.iconst 1, 1) := by decide +kernel
theorem dX10_cell_34 : decode cX10_cell 34 = .ok (.invokevirtual 241, 3) := by decide +kernel
theorem dX10_cell_37 : decode cX10_cell 37 = .ok (.ifCond .ne 6, 3) := by decide +kernel
theorem dX10_cell_40 : decode cX10_cell 40 = .ok (.bipush (-12), 2) := by decide +kernel
theorem dX10_cell_42 : decode cX10_cell 42 = .ok (.ireturn, 1) := by decide +kernel
theorem dX10_cell_43 : decode cX10_cell 43 = .ok (.aload 4, 2) := by decide +kernel
theorem dX10_cell_45 : decode cX10_cell 45 = .ok (.getfield 244, 3) := by decide +kernel
theorem dX10_cell_48 : decode cX10_cell 48 = .ok (.iload_n 2, 1) := by decide +kernel
theorem dX10_cell_49 : decode cX10_cell 49 = .ok (.aload 4, 2) := by decide +kernel
theorem dX10_cell_51 : decode cX10_cell 51 = .ok (.iload_n 3, 1) := by decide +kernel
theorem dX10_cell_52 : decode cX10_cell 52 = .ok (.invokevirtual 475, 3) := by decide +kernel
theorem dX10_cell_55 : decode cX10_cell 55 = .ok (.lastore, 1) := by decide +kernel
theorem dX10_cell_56 : decode cX10_cell 56 = .ok (.iconst 1, 1) := by decide +kernel
theorem dX10_cell_57 : decode cX10_cell 57 = .ok (.ireturn, 1) := by decide +kernel
theorem dX10_lose_0 : decode cX10_lose 0 = .ok (.iload_n 1, 1) := by decide +kernel
theorem dX10_lose_1 : decode cX10_lose 1 = .ok (.invokestatic 235, 3) := by decide +kernel
theorem dX10_lose_4 : decode cX10_lose 4 = .ok (.ifCond .ne 6, 3) := by decide +kernel
theorem dX10_lose_7 : decode cX10_lose 7 = .ok (.bipush (-2), 2) := by decide +kernel
theorem dX10_lose_9 : decode cX10_lose 9 = .ok (.ireturn, 1) := by decide +kernel
theorem dX10_lose_10 : decode cX10_lose 10 = .ok (.aload_n 0, 1) := by decide +kernel
theorem dX10_lose_11 : decode cX10_lose 11 = .ok (.getfield 59, 3) := by decide +kernel
theorem dX10_lose_14 : decode cX10_lose 14 = .ok (.iload_n 1, 1) := by decide +kernel
theorem dX10_lose_15 : decode cX10_lose 15 = .ok (.aaload, 1) := by decide +kernel
theorem dX10_lose_16 : decode cX10_lose 16 = .ok (.astore_n 3, 1) := by decide +kernel
theorem dX10_lose_17 : decode cX10_lose 17 = .ok (.aload_n 3, 1) := by decide +kernel
theorem dX10_lose_18 : decode cX10_lose 18 = .ok (.getfield 238, 3) := by decide +kernel
theorem dX10_lose_21 : decode cX10_lose 21 = .ok (.iconst (-1), 1) := by decide +kernel
theorem dX10_lose_22 : decode cX10_lose 22 = .ok (.if_icmp .ne 6, 3) := by decide +kernel
theorem dX10_lose_25 : decode cX10_lose 25 = .ok (.bipush (-11), 2) := by decide +kernel
theorem dX10_lose_27 : decode cX10_lose 27 = .ok (.ireturn, 1) := by decide +kernel
theorem dX10_lose_28 : decode cX10_lose 28 = .ok (.aload_n 3, 1) := by decide +kernel
theorem dX10_lose_29 : decode cX10_lose 29 = .ok (.getfield 238, 3) := by decide +kernel
theorem dX10_lose_32 : decode cX10_lose 32 = .ok (.iconst 2, 1) := by decide +kernel
theorem dX10_lose_33 : decode cX10_lose 33 = .ok (.if_icmp .eq 6, 3) := by decide +kernel
theorem dX10_lose_36 : decode cX10_lose 36 = .ok (.bipush (-13), 2) := by decide +kernel
theorem dX10_lose_38 : decode cX10_lose 38 = .ok (.ireturn, 1) := by decide +kernel
theorem dX10_lose_39 : decode cX10_lose 39 = .ok (.aload_n 3, 1) := by decide +kernel
theorem dX10_lose_40 : decode cX10_lose 40 = .ok (.iload_n 2, 1) := by decide +kernel
theorem dX10_lose_41 : decode cX10_lose 41 = .ok (.iconst 1, 1) := by decide +kernel
theorem dX10_lose_42 : decode cX10_lose 42 = .ok (.invokevirtual 241, 3) := by decide +kernel
theorem dX10_lose_45 : decode cX10_lose 45 = .ok (.ifCond .ne 6, 3) := by decide +kernel
theorem dX10_lose_48 : decode cX10_lose 48 = .ok (.bipush (-12), 2) := by decide +kernel
theorem dX10_lose_50 : decode cX10_lose 50 = .ok (.ireturn, 1) := by decide +kernel
theorem dX10_lose_51 : decode cX10_lose 51 = .ok (.aload_n 3, 1) := by decide +kernel
theorem dX10_lose_52 : decode cX10_lose 52 = .ok (.getfield 244, 3) := by decide +kernel
theorem dX10_lose_55 : decode cX10_lose 55 = .ok (.iload_n 2, 1) := by decide +kernel
theorem dX10_lose_56 : decode cX10_lose 56 = .ok (.ldc2_w 248, 3) := by decide +kernel
theorem dX10_lose_59 : decode cX10_lose 59 = .ok (.lastore, 1) := by decide +kernel
theorem dX10_lose_60 : decode cX10_lose 60 = .ok (.iconst 1, 1) := by decide +kernel
theorem dX10_lose_61 : decode cX10_lose 61 = .ok (.ireturn, 1) := by decide +kernel
theorem dX10_copy_0 : decode cX10_copy 0 = .ok (.iload_n 1, 1) := by decide +kernel
theorem dX10_copy_1 : decode cX10_copy 1 = .ok (.invokestatic 235, 3) := by decide +kernel
theorem dX10_copy_4 : decode cX10_copy 4 = .ok (.ifCond .eq 10, 3) := by decide +kernel
theorem dX10_copy_7 : decode cX10_copy 7 = .ok (.iload_n 3, 1) := by decide +kernel
theorem dX10_copy_8 : decode cX10_copy 8 = .ok (.invokestatic 235, 3) := by decide +kernel
theorem dX10_copy_11 : decode cX10_copy 11 = .ok (.ifCond .ne 6, 3) := by decide +kernel
theorem dX10_copy_14 : decode cX10_copy 14 = .ok (.bipush (-2), 2) := by decide +kernel
theorem dX10_copy_16 : decode cX10_copy 16 = .ok (.ireturn, 1) := by decide +kernel
theorem dX10_copy_17 : decode cX10_copy 17 = .ok (.aload_n 0, 1) := by decide +kernel
theorem dX10_copy_18 : decode cX10_copy 18 = .ok (.getfield 59, 3) := by decide +kernel
theorem dX10_copy_21 : decode cX10_copy 21 = .ok (.iload_n 1, 1) := by decide +kernel
theorem dX10_copy_22 : decode cX10_copy 22 = .ok (.aaload, 1) := by decide +kernel
theorem dX10_copy_23 : decode cX10_copy 23 = .ok (.astore 6, 2) := by decide +kernel
theorem dX10_copy_25 : decode cX10_copy 25 = .ok (.aload_n 0, 1) := by decide +kernel
theorem dX10_copy_26 : decode cX10_copy 26 = .ok (.getfield 59, 3) := by decide +kernel
theorem dX10_copy_29 : decode cX10_copy 29 = .ok (.iload_n 3, 1) := by decide +kernel
theorem dX10_copy_30 : decode cX10_copy 30 = .ok (.aaload, 1) := by decide +kernel
theorem dX10_copy_31 : decode cX10_copy 31 = .ok (.astore 7, 2) := by decide +kernel
theorem dX10_copy_33 : decode cX10_copy 33 = .ok (.aload 6, 2) := by decide +kernel
theorem dX10_copy_35 : decode cX10_copy 35 = .ok (.getfield 238, 3) := by decide +kernel
theorem dX10_copy_38 : decode cX10_copy 38 = .ok (.iconst (-1), 1) := by decide +kernel
theorem dX10_copy_39 : decode cX10_copy 39 = .ok (.if_icmp .eq 12, 3) := by decide +kernel
theorem dX10_copy_42 : decode cX10_copy 42 = .ok (.aload 7, 2) := by decide +kernel
theorem dX10_copy_44 : decode cX10_copy 44 = .ok (.getfield 238, 3) := by decide +kernel
theorem dX10_copy_47 : decode cX10_copy 47 = .ok (.iconst (-1), 1) := by decide +kernel
theorem dX10_copy_48 : decode cX10_copy 48 = .ok (.if_icmp .ne 6, 3) := by decide +kernel
theorem dX10_copy_51 : decode cX10_copy 51 = .ok (.bipush (-11), 2) := by decide +kernel
theorem dX10_copy_53 : decode cX10_copy 53 = .ok (.ireturn, 1) := by decide +kernel
theorem dX10_copy_54 : decode cX10_copy 54 = .ok (.aload 6, 2) := by decide +kernel
theorem dX10_copy_56 : decode cX10_copy 56 = .ok (.getfield 238, 3) := by decide +kernel
theorem dX10_copy_59 : decode cX10_copy 59 = .ok (.aload 7, 2) := by decide +kernel
theorem dX10_copy_61 : decode cX10_copy 61 = .ok (.getfield 238, 3) := by decide +kernel
theorem dX10_copy_64 : decode cX10_copy 64 = .ok (.if_icmp .eq 6, 3) := by decide +kernel
theorem dX10_copy_67 : decode cX10_copy 67 = .ok (.bipush (-13), 2) := by decide +kernel
theorem dX10_copy_69 : decode cX10_copy 69 = .ok (.ireturn, 1) := by decide +kernel
theorem dX10_copy_70 : decode cX10_copy 70 = .ok (.aload 6, 2) := by decide +kernel
theorem dX10_copy_72 : decode cX10_copy 72 = .ok (.iload_n 2, 1) := by decide +kernel
theorem dX10_copy_73 : decode cX10_copy 73 = .ok (.iload 5, 2) := by decide +kernel
theorem dX10_copy_75 : decode cX10_copy 75 = .ok (.invokevirtual 241, 3) := by decide +kernel
theorem dX10_copy_78 : decode cX10_copy 78 = .ok (.ifCond .eq 15, 3) := by decide +kernel
theorem dX10_copy_81 : decode cX10_copy 81 = .ok (.aload 7, 2) := by decide +kernel
theorem dX10_copy_83 : decode cX10_copy 83 = .ok (.iload 4, 2) := by decide +kernel
theorem dX10_copy_85 : decode cX10_copy 85 = .ok (.iload 5, 2) := by decide +kernel
theorem dX10_copy_87 : decode cX10_copy 87 = .ok (.invokevirtual 241, 3) := by decide +kernel
theorem dX10_copy_90 : decode cX10_copy 90 = .ok (.ifCond .ne 6, 3) := by decide +kernel
theorem dX10_copy_93 : decode cX10_copy 93 = .ok (.bipush (-12), 2) := by decide +kernel
theorem dX10_copy_95 : decode cX10_copy 95 = .ok (.ireturn, 1) := by decide +kernel
theorem dX10_copy_96 : decode cX10_copy 96 = .ok (.aload 6, 2) := by decide +kernel
theorem dX10_copy_98 : decode cX10_copy 98 = .ok (.getfield 244, 3) := by decide +kernel
theorem dX10_copy_101 : decode cX10_copy 101 = .ok (.iload_n 2, 1) := by decide +kernel
theorem dX10_copy_102 : decode cX10_copy 102 = .ok (.aload 7, 2) := by decide +kernel
theorem dX10_copy_104 : decode cX10_copy 104 = .ok (.getfield 244, 3) := by decide +kernel
theorem dX10_copy_107 : decode cX10_copy 107 = .ok (.iload 4, 2) := by decide +kernel
theorem dX10_copy_109 : decode cX10_copy 109 = .ok (.iload 5, 2) := by decide +kernel
theorem dX10_copy_111 : decode cX10_copy 111 = .ok (.invokestatic 479, 3) := by decide +kernel
theorem dX10_copy_114 : decode cX10_copy 114 = .ok (.iload 5, 2) := by decide +kernel
theorem dX10_copy_116 : decode cX10_copy 116 = .ok (.ireturn, 1) := by decide +kernel
theorem dX10_isSheet_0 : decode cX10_isSheet 0 = .ok (.iload_n 0, 1) := by decide +kernel
theorem dX10_isSheet_1 : decode cX10_isSheet 1 = .ok (.ifCond .lt 12, 3) := by decide +kernel
theorem dX10_isSheet_4 : decode cX10_isSheet 4 = .ok (.iload_n 0, 1) := by decide +kernel
theorem dX10_isSheet_5 : decode cX10_isSheet 5 = .ok (.iconst 3, 1) := by decide +kernel
theorem dX10_isSheet_6 : decode cX10_isSheet 6 = .ok (.if_icmp .ge 7, 3) := by decide +kernel
theorem dX10_isSheet_9 : decode cX10_isSheet 9 = .ok (.iconst 1, 1) := by decide +kernel
theorem dX10_isSheet_10 : decode cX10_isSheet 10 = .ok (.goto 4, 3) := by decide +kernel
theorem dX10_isSheet_13 : decode cX10_isSheet 13 = .ok (.iconst 0, 1) := by decide +kernel
theorem dX10_isSheet_14 : decode cX10_isSheet 14 = .ok (.ireturn, 1) := by decide +kernel
