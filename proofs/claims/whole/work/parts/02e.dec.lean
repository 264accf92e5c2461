theorem dX11_grow_22 : decode cX11_grow 22 = .ok (.getfield 83, 3) := by decide +kernel
theorem dX11_grow_25 : decode cX11_grow 25 = .ok (.iload_n 1, 1) := by decide +kernel
theorem dX11_grow_26 : decode cX11_grow 26 = .ok (.dup2, 1) := by decide +kernel
theorem dX11_grow_27 : decode cX11_grow 27 = .ok (.iaload, 1) := by decide +kernel
theorem dX11_grow_28 : decode cX11_grow 28 = .ok (.aload_n 0, 1) := by decide +kernel
theorem dX11_grow_29 : decode cX11_grow 29 = .ok (.iload_n 2, 1) := by decide +kernel
theorem dX11_grow_30 : decode cX11_grow 30 = .ok (.iconst 1, 1) := by decide +kernel
theorem dX11_grow_31 : decode cX11_grow 31 = .ok (.invokevirtual 357, 3) := by decide +kernel
theorem dX11_grow_34 : decode cX11_grow 34 = .ok (.iadd, 1) := by decide +kernel
theorem dX11_grow_35 : decode cX11_grow 35 = .ok (.iastore, 1) := by decide +kernel
theorem dX11_grow_36 : decode cX11_grow 36 = .ok (.goto 23, 3) := by decide +kernel
theorem dX11_grow_39 : decode cX11_grow 39 = .ok (.aload_n 0, 1) := by decide +kernel
theorem dX11_grow_40 : decode cX11_grow 40 = .ok (.getfield 83, 3) := by decide +kernel
theorem dX11_grow_43 : decode cX11_grow 43 = .ok (.iload_n 1, 1) := by decide +kernel
theorem dX11_grow_44 : decode cX11_grow 44 = .ok (.iconst 0, 1) := by decide +kernel
theorem dX11_grow_45 : decode cX11_grow 45 = .ok (.aload_n 0, 1) := by decide +kernel
theorem dX11_grow_46 : decode cX11_grow 46 = .ok (.getfield 83, 3) := by decide +kernel
theorem dX11_grow_49 : decode cX11_grow 49 = .ok (.iload_n 1, 1) := by decide +kernel
theorem dX11_grow_50 : decode cX11_grow 50 = .ok (.iaload, 1) := by decide +kernel
theorem dX11_grow_51 : decode cX11_grow 51 = .ok (.iconst 2, 1) := by decide +kernel
theorem dX11_grow_52 : decode cX11_grow 52 = .ok (.iload_n 3, 1) := by decide +kernel
theorem dX11_grow_53 : decode cX11_grow 53 = .ok (.imul, 1) := by decide +kernel
theorem dX11_grow_54 : decode cX11_grow 54 = .ok (.isub, 1) := by decide +kernel
theorem dX11_grow_55 : decode cX11_grow 55 = .ok (.invokestatic 371, 3) := by decide +kernel
theorem dX11_grow_58 : decode cX11_grow 58 = .ok (.iastore, 1) := by decide +kernel
theorem dX11_grow_59 : decode cX11_grow 59 = .ok (.aload_n 0, 1) := by decide +kernel
theorem dX11_grow_60 : decode cX11_grow 60 = .ok (.getfield 83, 3) := by decide +kernel
theorem dX11_grow_63 : decode cX11_grow 63 = .ok (.iload_n 1, 1) := by decide +kernel
theorem dX11_grow_64 : decode cX11_grow 64 = .ok (.iaload, 1) := by decide +kernel
theorem dX11_grow_65 : decode cX11_grow 65 = .ok (.ifCond .ne 48, 3) := by decide +kernel
theorem dX11_grow_68 : decode cX11_grow 68 = .ok (.iload_n 3, 1) := by decide +kernel
theorem dX11_grow_69 : decode cX11_grow 69 = .ok (.ifCond .le 44, 3) := by decide +kernel
theorem dX11_grow_72 : decode cX11_grow 72 = .ok (.aload_n 0, 1) := by decide +kernel
theorem dX11_grow_73 : decode cX11_grow 73 = .ok (.getfield 80, 3) := by decide +kernel
theorem dX11_grow_76 : decode cX11_grow 76 = .ok (.iload_n 1, 1) := by decide +kernel
theorem dX11_grow_77 : decode cX11_grow 77 = .ok (.bipush 10, 2) := by decide +kernel
theorem dX11_grow_79 : decode cX11_grow 79 = .ok (.aload_n 0, 1) := by decide +kernel
theorem dX11_grow_80 : decode cX11_grow 80 = .ok (.getfield 77, 3) := by decide +kernel
theorem dX11_grow_83 : decode cX11_grow 83 = .ok (.iload_n 1, 1) := by decide +kernel
theorem dX11_grow_84 : decode cX11_grow 84 = .ok (.iaload, 1) := by decide +kernel
theorem dX11_grow_85 : decode cX11_grow 85 = .ok (.imul, 1) := by decide +kernel
theorem dX11_grow_86 : decode cX11_grow 86 = .ok (.aload_n 0, 1) := by decide +kernel
theorem dX11_grow_87 : decode cX11_grow 87 = .ok (.getfield 80, 3) := by decide +kernel
theorem dX11_grow_90 : decode cX11_grow 90 = .ok (.iload_n 1, 1) := by decide +kernel
theorem dX11_grow_91 : decode cX11_grow 91 = .ok (.iaload, 1) := by decide +kernel
theorem dX11_grow_92 : decode cX11_grow 92 = .ok (.iload_n 3, 1) := by decide +kernel
theorem dX11_grow_93 : decode cX11_grow 93 = .ok (.bipush 20, 2) := by decide +kernel
theorem dX11_grow_95 : decode cX11_grow 95 = .ok (.invokestatic 345, 3) := by decide +kernel
theorem dX11_grow_98 : decode cX11_grow 98 = .ok (.aload_n 0, 1) := by decide +kernel
theorem dX11_grow_99 : decode cX11_grow 99 = .ok (.getfield 77, 3) := by decide +kernel
theorem dX11_grow_102 : decode cX11_grow 102 = .ok (.iload_n 1, 1) := by decide +kernel
theorem dX11_grow_103 : decode cX11_grow 103 = .ok (.iaload, 1) := by decide +kernel
theorem dX11_grow_104 : decode cX11_grow 104 = .ok (.imul, 1) := by decide +kernel
theorem dX11_grow_105 : decode cX11_grow 105 = .ok (.bipush 10, 2) := by decide +kernel
theorem dX11_grow_107 : decode cX11_grow 107 = .ok (.idiv, 1) := by decide +kernel
theorem dX11_grow_108 : decode cX11_grow 108 = .ok (.iadd, 1) := by decide +kernel
theorem dX11_grow_109 : decode cX11_grow 109 = .ok (.invokestatic 345, 3) := by decide +kernel
theorem dX11_grow_112 : decode cX11_grow 112 = .ok (.iastore, 1) := by decide +kernel
theorem dX11_grow_113 : decode cX11_grow 113 = .ok (.return_, 1) := by decide +kernel
theorem dX11_feedOn_0 : decode cX11_feedOn 0 = .ok (.aload_n 0, 1) := by decide +kernel
theorem dX11_feedOn_1 : decode cX11_feedOn 1 = .ok (.getfield 39, 3) := by decide +kernel
theorem dX11_feedOn_4 : decode cX11_feedOn 4 = .ok (.iload_n 1, 1) := by decide +kernel
theorem dX11_feedOn_5 : decode cX11_feedOn 5 = .ok (.aaload, 1) := by decide +kernel
theorem dX11_feedOn_6 : decode cX11_feedOn 6 = .ok (.iload_n 2, 1) := by decide +kernel
theorem dX11_feedOn_7 : decode cX11_feedOn 7 = .ok (.iaload, 1) := by decide +kernel
theorem dX11_feedOn_8 : decode cX11_feedOn 8 = .ok (.aload_n 0, 1) := by decide +kernel
theorem dX11_feedOn_9 : decode cX11_feedOn 9 = .ok (.getfield 80, 3) := by decide +kernel
theorem dX11_feedOn_12 : decode cX11_feedOn 12 = .ok (.iload_n 1, 1) := by decide +kernel
theorem dX11_feedOn_13 : decode cX11_feedOn 13 = .ok (.iaload, 1) := by decide +kernel
theorem dX11_feedOn_14 : decode cX11_feedOn 14 = .ok (.iconst 3, 1) := by decide +kernel
theorem dX11_feedOn_15 : decode cX11_feedOn 15 = .ok (.idiv, 1) := by decide +kernel
theorem dX11_feedOn_16 : decode cX11_feedOn 16 = .ok (.invokestatic 345, 3) := by decide +kernel
theorem dX11_feedOn_19 : decode cX11_feedOn 19 = .ok (.istore_n 3, 1) := by decide +kernel
theorem dX11_feedOn_20 : decode cX11_feedOn 20 = .ok (.aload_n 0, 1) := by decide +kernel
theorem dX11_feedOn_21 : decode cX11_feedOn 21 = .ok (.getfield 80, 3) := by decide +kernel
theorem dX11_feedOn_24 : decode cX11_feedOn 24 = .ok (.iload_n 1, 1) := by decide +kernel
theorem dX11_feedOn_25 : decode cX11_feedOn 25 = .ok (.dup2, 1) := by decide +kernel
theorem dX11_feedOn_26 : decode cX11_feedOn 26 = .ok (.iaload, 1) := by decide +kernel
theorem dX11_feedOn_27 : decode cX11_feedOn 27 = .ok (.iconst 3, 1) := by decide +kernel
theorem dX11_feedOn_28 : decode cX11_feedOn 28 = .ok (.iload_n 3, 1) := by decide +kernel
theorem dX11_feedOn_29 : decode cX11_feedOn 29 = .ok (.imul, 1) := by decide +kernel
theorem dX11_feedOn_30 : decode cX11_feedOn 30 = .ok (.isub, 1) := by decide +kernel
theorem dX11_feedOn_31 : decode cX11_feedOn 31 = .ok (.iastore, 1) := by decide +kernel
theorem dX11_feedOn_32 : decode cX11_feedOn 32 = .ok (.iload_n 3, 1) := by decide +kernel
theorem dX11_feedOn_33 : decode cX11_feedOn 33 = .ok (.ireturn, 1) := by decide +kernel
theorem dX11_fields_0 : decode cX11_fields 0 = .ok (.iconst 0, 1) := by decide +kernel
theorem dX11_fields_1 : decode cX11_fields 1 = .ok (.istore_n 1, 1) := by decide +kernel
theorem dX11_fields_2 : decode cX11_fields 2 = .ok (.iload_n 1, 1) := by decide +kernel
theorem dX11_fields_3 : decode cX11_fields 3 = .ok (.aload_n 0, 1) := by decide +kernel
theorem dX11_fields_4 : decode cX11_fields 4 = .ok (.getfield 160, 3) := by decide +kernel
theorem dX11_fields_7 : decode cX11_fields 7 = .ok (.if_icmp .ge 16, 3) := by decide +kernel
theorem dX11_fields_10 : decode cX11_fields 10 = .ok (.aload_n 0, 1) := by decide +kernel
theorem dX11_fields_11 : decode cX11_fields 11 = .ok (.getfield 18, 3) := by decide +kernel
theorem dX11_fields_14 : decode cX11_fields 14 = .ok (.iload_n 1, 1) := by decide +kernel
theorem dX11_fields_15 : decode cX11_fields 15 = .ok (.iconst 0, 1) := by decide +kernel
theorem dX11_fields_16 : decode cX11_fields 16 = .ok (.iastore, 1) := by decide +kernel
theorem dX11_fields_17 : decode cX11_fields 17 = .ok (.iinc 1 1, 3) := by decide +kernel
theorem dX11_fields_20 : decode cX11_fields 20 = .ok (.goto (-18), 3) := by decide +kernel
theorem dX11_fields_23 : decode cX11_fields 23 = .ok (.iconst 0, 1) := by decide +kernel
theorem dX11_fields_24 : decode cX11_fields 24 = .ok (.istore_n 1, 1) := by decide +kernel
theorem dX11_fields_25 : decode cX11_fields 25 = .ok (.iload_n 1, 1) := by decide +kernel
theorem dX11_fields_26 : decode cX11_fields 26 = .ok (.aload_n 0, 1) := by decide +kernel
theorem dX11_fields_27 : decode cX11_fields 27 = .ok (.getfield 170, 3) := by decide +kernel
theorem dX11_fields_30 : decode cX11_fields 30 = .ok (.if_icmp .ge 18, 3) := by decide +kernel
theorem dX11_fields_33 : decode cX11_fields 33 = .ok (.aload_n 0, 1) := by decide +kernel
theorem dX11_fields_34 : decode cX11_fields 34 = .ok (.iload_n 1, 1) := by decide +kernel
theorem dX11_fields_35 : decode cX11_fields 35 = .ok (.aload_n 0, 1) := by decide +kernel
theorem dX11_fields_36 : decode cX11_fields 36 = .ok (.getfield 193, 3) := by decide +kernel
theorem dX11_fields_39 : decode cX11_fields 39 = .ok (.invokevirtual 374, 3) := by decide +kernel
theorem dX11_fields_42 : decode cX11_fields 42 = .ok (.iinc 1 1, 3) := by decide +kernel
theorem dX11_fields_45 : decode cX11_fields 45 = .ok (.goto (-20), 3) := by decide +kernel
theorem dX11_fields_48 : decode cX11_fields 48 = .ok (.iconst 0, 1) := by decide +kernel
theorem dX11_fields_49 : decode cX11_fields 49 = .ok (.istore_n 1, 1) := by decide +kernel
theorem dX11_fields_50 : decode cX11_fields 50 = .ok (.iload_n 1, 1) := by decide +kernel
theorem dX11_fields_51 : decode cX11_fields 51 = .ok (.aload_n 0, 1) := by decide +kernel
theorem dX11_fields_52 : decode cX11_fields 52 = .ok (.getfield 170, 3) := by decide +kernel
theorem dX11_fields_55 : decode cX11_fields 55 = .ok (.if_icmp .ge 64, 3) := by decide +kernel
theorem dX11_fields_58 : decode cX11_fields 58 = .ok (.iconst 0, 1) := by decide +kernel
theorem dX11_fields_59 : decode cX11_fields 59 = .ok (.istore_n 2, 1) := by decide +kernel
theorem dX11_fields_60 : decode cX11_fields 60 = .ok (.iload_n 2, 1) := by decide +kernel
theorem dX11_fields_61 : decode cX11_fields 61 = .ok (.aload_n 0, 1) := by decide +kernel
theorem dX11_fields_62 : decode cX11_fields 62 = .ok (.getfield 160, 3) := by decide +kernel
theorem dX11_fields_65 : decode cX11_fields 65 = .ok (.if_icmp .ge 48, 3) := by decide +kernel
theorem dX11_fields_68 : decode cX11_fields 68 = .ok (.aload_n 0, 1) := by decide +kernel
theorem dX11_fields_69 : decode cX11_fields 69 = .ok (.iload_n 1, 1) := by decide +kernel
theorem dX11_fields_70 : decode cX11_fields 70 = .ok (.iload_n 2, 1) := by decide +kernel
theorem dX11_fields_71 : decode cX11_fields 71 = .ok (.invokevirtual 378, 3) := by decide +kernel
theorem dX11_fields_74 : decode cX11_fields 74 = .ok (.istore_n 3, 1) := by decide +kernel
theorem dX11_fields_75 : decode cX11_fields 75 = .ok (.aload_n 0, 1) := by decide +kernel
theorem dX11_fields_76 : decode cX11_fields 76 = .ok (.getfield 18, 3) := by decide +kernel
theorem dX11_fields_79 : decode cX11_fields 79 = .ok (.iload_n 2, 1) := by decide +kernel
theorem dX11_fields_80 : decode cX11_fields 80 = .ok (.dup2, 1) := by decide +kernel
theorem dX11_fields_81 : decode cX11_fields 81 = .ok (.iaload, 1) := by decide +kernel
theorem dX11_fields_82 : decode cX11_fields 82 = .ok (.bipush 8, 2) := by decide +kernel
theorem dX11_fields_84 : decode cX11_fields 84 = .ok (.iload_n 3, 1) := by decide +kernel
theorem dX11_fields_85 : decode cX11_fields 85 = .ok (.imul, 1) := by decide +kernel
theorem dX11_fields_86 : decode cX11_fields 86 = .ok (.iadd, 1) := by decide +kernel
theorem dX11_fields_87 : decode cX11_fields 87 = .ok (.iastore, 1) := by decide +kernel
theorem dX11_fields_88 : decode cX11_fields 88 = .ok (.aload_n 0, 1) := by decide +kernel
theorem dX11_fields_89 : decode cX11_fields 89 = .ok (.getfield 14, 3) := by decide +kernel
theorem dX11_fields_92 : decode cX11_fields 92 = .ok (.iload_n 2, 1) := by decide +kernel
theorem dX11_fields_93 : decode cX11_fields 93 = .ok (.dup2, 1) := by decide +kernel
theorem dX11_fields_94 : decode cX11_fields 94 = .ok (.iaload, 1) := by decide +kernel
theorem dX11_fields_95 : decode cX11_fields 95 = .ok (.aload_n 0, 1) := by decide +kernel
theorem dX11_fields_96 : decode cX11_fields 96 = .ok (.getfield 39, 3) := by decide +kernel
theorem dX11_fields_99 : decode cX11_fields 99 = .ok (.iload_n 1, 1) := by decide +kernel
theorem dX11_fields_100 : decode cX11_fields 100 = .ok (.aaload, 1) := by decide +kernel
theorem dX11_fields_101 : decode cX11_fields 101 = .ok (.iload_n 2, 1) := by decide +kernel
theorem dX11_fields_102 : decode cX11_fields 102 = .ok (.iaload, 1) := by decide +kernel
theorem dX11_fields_103 : decode cX11_fields 103 = .ok (.iload_n 3, 1) := by decide +kernel
theorem dX11_fields_104 : decode cX11_fields 104 = .ok (.isub, 1) := by decide +kernel
theorem dX11_fields_105 : decode cX11_fields 105 = .ok (.iadd, 1) := by decide +kernel
theorem dX11_fields_106 : decode cX11_fields 106 = .ok (.iastore, 1) := by decide +kernel
theorem dX11_fields_107 : decode cX11_fields 107 = .ok (.iinc 2 1, 3) := by decide +kernel
theorem dX11_fields_110 : decode cX11_fields 110 = .ok (.goto (-50), 3) := by decide +kernel
theorem dX11_fields_113 : decode cX11_fields 113 = .ok (.iinc 1 1, 3) := by decide +kernel
theorem dX11_fields_116 : decode cX11_fields 116 = .ok (.goto (-66), 3) := by decide +kernel
theorem dX11_fields_119 : decode cX11_fields 119 = .ok (.return_, 1) := by decide +kernel
theorem dX11_stables_0 : decode cX11_stables 0 = .ok (.aload_n 0, 1) := by decide +kernel
theorem dX11_stables_1 : decode cX11_stables 1 = .ok (.getfield 193, 3) := by decide +kernel
theorem dX11_stables_4 : decode cX11_stables 4 = .ok (.sipush 360, 3) := by decide +kernel
theorem dX11_stables_7 : decode cX11_stables 7 = .ok (.irem, 1) := by decide +kernel
theorem dX11_stables_8 : decode cX11_stables 8 = .ok (.istore_n 1, 1) := by decide +kernel
theorem dX11_stables_9 : decode cX11_stables 9 = .ok (.iconst 0, 1) := by decide +kernel
theorem dX11_stables_10 : decode cX11_stables 10 = .ok (.istore_n 2, 1) := by decide +kernel
theorem dX11_stables_11 : decode cX11_stables 11 = .ok (.iload_n 2, 1) := by decide +kernel
theorem dX11_stables_12 : decode cX11_stables 12 = .ok (.aload_n 0, 1) := by decide +kernel
theorem dX11_stables_13 : decode cX11_stables 13 = .ok (.getfield 160, 3) := by decide +kernel
theorem dX11_stables_16 : decode cX11_stables 16 = .ok (.if_icmp .ge 77, 3) := by decide +kernel
theorem dX11_stables_19 : decode cX11_stables 19 = .ok (.iload_n 1, 1) := by decide +kernel
theorem dX11_stables_20 : decode cX11_stables 20 = .ok (.bipush 120, 2) := by decide +kernel
theorem dX11_stables_22 : decode cX11_stables 22 = .ok (.if_icmp .lt 10, 3) := by decide +kernel
theorem dX11_stables_25 : decode cX11_stables 25 = .ok (.iload_n 1, 1) := by decide +kernel
theorem dX11_stables_26 : decode cX11_stables 26 = .ok (.sipush 300, 3) := by decide +kernel
theorem dX11_stables_29 : decode cX11_stables 29 = .ok (.if_icmp .lt 64, 3) := by decide +kernel
theorem dX11_stables_32 : decode cX11_stables 32 = .ok (.aload_n 0, 1) := by decide +kernel
theorem dX11_stables_33 : decode cX11_stables 33 = .ok (.getfield 9, 3) := by decide +kernel
theorem dX11_stables_36 : decode cX11_stables 36 = .ok (.iload_n 2, 1) := by decide +kernel
theorem dX11_stables_37 : decode cX11_stables 37 = .ok (.aaload, 1) := by decide +kernel
theorem dX11_stables_38 : decode cX11_stables 38 = .ok (.iconst 2, 1) := by decide +kernel
theorem dX11_stables_39 : decode cX11_stables 39 = .ok (.iaload, 1) := by decide +kernel
theorem dX11_stables_40 : decode cX11_stables 40 = .ok (.aload_n 0, 1) := by decide +kernel
theorem dX11_stables_41 : decode cX11_stables 41 = .ok (.iload_n 2, 1) := by decide +kernel
theorem dX11_stables_42 : decode cX11_stables 42 = .ok (.invokevirtual 185, 3) := by decide +kernel
theorem dX11_stables_45 : decode cX11_stables 45 = .ok (.isub, 1) := by decide +kernel
theorem dX11_stables_46 : decode cX11_stables 46 = .ok (.istore_n 3, 1) := by decide +kernel
theorem dX11_stables_47 : decode cX11_stables 47 = .ok (.iload_n 3, 1) := by decide +kernel
theorem dX11_stables_48 : decode cX11_stables 48 = .ok (.aload_n 0, 1) := by decide +kernel
theorem dX11_stables_49 : decode cX11_stables 49 = .ok (.getfield 9, 3) := by decide +kernel
theorem dX11_stables_52 : decode cX11_stables 52 = .ok (.iload_n 2, 1) := by decide +kernel
theorem dX11_stables_53 : decode cX11_stables 53 = .ok (.aaload, 1) := by decide +kernel
theorem dX11_stables_54 : decode cX11_stables 54 = .ok (.iconst 3, 1) := by decide +kernel
theorem dX11_stables_55 : decode cX11_stables 55 = .ok (.iaload, 1) := by decide +kernel
theorem dX11_stables_56 : decode cX11_stables 56 = .ok (.invokestatic 345, 3) := by decide +kernel
theorem dX11_stables_59 : decode cX11_stables 59 = .ok (.istore 4, 2) := by decide +kernel
theorem dX11_stables_61 : decode cX11_stables 61 = .ok (.aload_n 0, 1) := by decide +kernel
theorem dX11_stables_62 : decode cX11_stables 62 = .ok (.getfield 9, 3) := by decide +kernel
theorem dX11_stables_65 : decode cX11_stables 65 = .ok (.iload_n 2, 1) := by decide +kernel
theorem dX11_stables_66 : decode cX11_stables 66 = .ok (.aaload, 1) := by decide +kernel
theorem dX11_stables_67 : decode cX11_stables 67 = .ok (.iconst 3, 1) := by decide +kernel
theorem dX11_stables_68 : decode cX11_stables 68 = .ok (.dup2, 1) := by decide +kernel
theorem dX11_stables_69 : decode cX11_stables 69 = .ok (.iaload, 1) := by decide +kernel
theorem dX11_stables_70 : decode cX11_stables 70 = .ok (.iload 4, 2) := by decide +kernel
theorem dX11_stables_72 : decode cX11_stables 72 = .ok (.isub, 1) := by decide +kernel
theorem dX11_stables_73 : decode cX11_stables 73 = .ok (.iastore, 1) := by decide +kernel
theorem dX11_stables_74 : decode cX11_stables 74 = .ok (.aload_n 0, 1) := by decide +kernel
theorem dX11_stables_75 : decode cX11_stables 75 = .ok (.getfield 14, 3) := by decide +kernel
theorem dX11_stables_78 : decode cX11_stables 78 = .ok (.iload_n 2, 1) := by decide +kernel
theorem dX11_stables_79 : decode cX11_stables 79 = .ok (.dup2, 1) := by decide +kernel
theorem dX11_stables_80 : decode cX11_stables 80 = .ok (.iaload, 1) := by decide +kernel
theorem dX11_stables_81 : decode cX11_stables 81 = .ok (.iload_n 3, 1) := by decide +kernel
theorem dX11_stables_82 : decode cX11_stables 82 = .ok (.iload 4, 2) := by decide +kernel
theorem dX11_stables_84 : decode cX11_stables 84 = .ok (.isub, 1) := by decide +kernel
theorem dX11_stables_85 : decode cX11_stables 85 = .ok (.iadd, 1) := by decide +kernel
theorem dX11_stables_86 : decode cX11_stables 86 = .ok (.iastore, 1) := by decide +kernel
theorem dX11_stables_87 : decode cX11_stables 87 = .ok (.iinc 2 1, 3) := by decide +kernel
theorem dX11_stables_90 : decode cX11_stables 90 = .ok (.goto (-79), 3) := by decide +kernel
theorem dX11_stables_93 : decode cX11_stables 93 = .ok (.iconst 0, 1) := by decide +kernel
theorem dX11_stables_94 : decode cX11_stables 94 = .ok (.istore_n 2, 1) := by decide +kernel
theorem dX11_stables_95 : decode cX11_stables 95 = .ok (.iload_n 2, 1) := by decide +kernel
theorem dX11_stables_96 : decode cX11_stables 96 = .ok (.aload_n 0, 1) := by decide +kernel
theorem dX11_stables_97 : decode cX11_stables 97 = .ok (.getfield 160, 3) := by decide +kernel
theorem dX11_stables_100 : decode cX11_stables 100 = .ok (.if_icmp .ge 49, 3) := by decide +kernel
theorem dX11_stables_103 : decode cX11_stables 103 = .ok (.iload_n 1, 1) := by decide +kernel
theorem dX11_stables_104 : decode cX11_stables 104 = .ok (.aload_n 0, 1) := by decide +kernel
theorem dX11_stables_105 : decode cX11_stables 105 = .ok (.iload_n 2, 1) := by decide +kernel
theorem dX11_stables_106 : decode cX11_stables 106 = .ok (.iconst 3, 1) := by decide +kernel
theorem dX11_stables_107 : decode cX11_stables 107 = .ok (.invokevirtual 366, 3) := by decide +kernel
theorem dX11_stables_110 : decode cX11_stables 110 = .ok (.if_icmp .ge 13, 3) := by decide +kernel
theorem dX11_stables_113 : decode cX11_stables 113 = .ok (.iload_n 1, 1) := by decide +kernel
theorem dX11_stables_114 : decode cX11_stables 114 = .ok (.aload_n 0, 1) := by decide +kernel
theorem dX11_stables_115 : decode cX11_stables 115 = .ok (.iload_n 2, 1) := by decide +kernel
theorem dX11_stables_116 : decode cX11_stables 116 = .ok (.iconst 2, 1) := by decide +kernel
theorem dX11_stables_117 : decode cX11_stables 117 = .ok (.invokevirtual 366, 3) := by decide +kernel
theorem dX11_stables_120 : decode cX11_stables 120 = .ok (.if_icmp .ge 23, 3) := by decide +kernel
theorem dX11_stables_123 : decode cX11_stables 123 = .ok (.aload_n 0, 1) := by decide +kernel
theorem dX11_stables_124 : decode cX11_stables 124 = .ok (.iload_n 2, 1) := by decide +kernel
theorem dX11_stables_125 : decode cX11_stables 125 = .ok (.aload_n 0, 1) := by decide +kernel
theorem dX11_stables_126 : decode cX11_stables 126 = .ok (.iload_n 2, 1) := by decide +kernel
theorem dX11_stables_127 : decode cX11_stables 127 = .ok (.iconst 5, 1) := by decide +kernel
theorem dX11_stables_128 : decode cX11_stables 128 = .ok (.invokevirtual 366, 3) := by decide +kernel
theorem dX11_stables_131 : decode cX11_stables 131 = .ok (.i2l, 1) := by decide +kernel
theorem dX11_stables_132 : decode cX11_stables 132 = .ok (.aload_n 0, 1) := by decide +kernel
theorem dX11_stables_133 : decode cX11_stables 133 = .ok (.iload_n 2, 1) := by decide +kernel
theorem dX11_stables_134 : decode cX11_stables 134 = .ok (.invokevirtual 185, 3) := by decide +kernel
theorem dX11_stables_137 : decode cX11_stables 137 = .ok (.i2l, 1) := by decide +kernel
theorem dX11_stables_138 : decode cX11_stables 138 = .ok (.lmul, 1) := by decide +kernel
theorem dX11_stables_139 : decode cX11_stables 139 = .ok (.invokevirtual 381, 3) := by decide +kernel
theorem dX11_stables_142 : decode cX11_stables 142 = .ok (.pop, 1) := by decide +kernel
theorem dX11_stables_143 : decode cX11_stables 143 = .ok (.iinc 2 1, 3) := by decide +kernel
theorem dX11_stables_146 : decode cX11_stables 146 = .ok (.goto (-51), 3) := by decide +kernel
theorem dX11_stables_149 : decode cX11_stables 149 = .ok (.return_, 1) := by decide +kernel
theorem dX11_newLayer_0 : decode cX11_newLayer 0 = .ok (.aload_n 0, 1) := by decide +kernel
theorem dX11_newLayer_1 : decode cX11_newLayer 1 = .ok (.getfield 99, 3) := by decide +kernel
theorem dX11_newLayer_4 : decode cX11_newLayer 4 = .ok (.iload_n 1, 1) := by decide +kernel
theorem dX11_newLayer_5 : decode cX11_newLayer 5 = .ok (.aaload, 1) := by decide +kernel
theorem dX11_newLayer_6 : decode cX11_newLayer 6 = .ok (.aload_n 0, 1) := by decide +kernel
theorem dX11_newLayer_7 : decode cX11_newLayer 7 = .ok (.getfield 96, 3) := by decide +kernel
theorem dX11_newLayer_10 : decode cX11_newLayer 10 = .ok (.iload_n 1, 1) := by decide +kernel
theorem dX11_newLayer_11 : decode cX11_newLayer 11 = .ok (.iaload, 1) := by decide +kernel
theorem dX11_newLayer_12 : decode cX11_newLayer 12 = .ok (.iload_n 2, 1) := by decide +kernel
theorem dX11_newLayer_13 : decode cX11_newLayer 13 = .ok (.iastore, 1) := by decide +kernel
theorem dX11_newLayer_14 : decode cX11_newLayer 14 = .ok (.aload_n 0, 1) := by decide +kernel
theorem dX11_newLayer_15 : decode cX11_newLayer 15 = .ok (.getfield 102, 3) := by decide +kernel
theorem dX11_newLayer_18 : decode cX11_newLayer 18 = .ok (.iload_n 1, 1) := by decide +kernel
theorem dX11_newLayer_19 : decode cX11_newLayer 19 = .ok (.aaload, 1) := by decide +kernel
theorem dX11_newLayer_20 : decode cX11_newLayer 20 = .ok (.aload_n 0, 1) := by decide +kernel
theorem dX11_newLayer_21 : decode cX11_newLayer 21 = .ok (.getfield 96, 3) := by decide +kernel
theorem dX11_newLayer_24 : decode cX11_newLayer 24 = .ok (.iload_n 1, 1) := by decide +kernel
theorem dX11_newLayer_25 : decode cX11_newLayer 25 = .ok (.iaload, 1) := by decide +kernel
theorem dX11_newLayer_26 : decode cX11_newLayer 26 = .ok (.iload_n 3, 1) := by decide +kernel
theorem dX11_newLayer_27 : decode cX11_newLayer 27 = .ok (.bastore, 1) := by decide +kernel
theorem dX11_newLayer_28 : decode cX11_newLayer 28 = .ok (.aload_n 0, 1) := by decide +kernel
theorem dX11_newLayer_29 : decode cX11_newLayer 29 = .ok (.getfield 96, 3) := by decide +kernel
theorem dX11_newLayer_32 : decode cX11_newLayer 32 = .ok (.iload_n 1, 1) := by decide +kernel
theorem dX11_newLayer_33 : decode cX11_newLayer 33 = .ok (.dup2, 1) := by decide +kernel
theorem dX11_newLayer_34 : decode cX11_newLayer 34 = .ok (.iaload, 1) := by decide +kernel
theorem dX11_newLayer_35 : decode cX11_newLayer 35 = .ok (.iconst 1, 1) := by decide +kernel
theorem dX11_newLayer_36 : decode cX11_newLayer 36 = .ok (.iadd, 1) := by decide +kernel
theorem dX11_newLayer_37 : decode cX11_newLayer 37 = .ok (.iastore, 1) := by decide +kernel
theorem dX11_newLayer_38 : decode cX11_newLayer 38 = .ok (.aload_n 0, 1) := by decide +kernel
theorem dX11_newLayer_39 : decode cX11_newLayer 39 = .ok (.getfield 96, 3) := by decide +kernel
theorem dX11_newLayer_42 : decode cX11_newLayer 42 = .ok (.iload_n 1, 1) := by decide +kernel
theorem dX11_newLayer_43 : decode cX11_newLayer 43 = .ok (.iaload, 1) := by decide +kernel
theorem dX11_newLayer_44 : decode cX11_newLayer 44 = .ok (.bipush 6, 2) := by decide +kernel
theorem dX11_newLayer_46 : decode cX11_newLayer 46 = .ok (.if_icmp .le 105, 3) := by decide +kernel
theorem dX11_newLayer_49 : decode cX11_newLayer 49 = .ok (.aload_n 0, 1) := by decide +kernel
theorem dX11_newLayer_50 : decode cX11_newLayer 50 = .ok (.getfield 99, 3) := by decide +kernel
theorem dX11_newLayer_53 : decode cX11_newLayer 53 = .ok (.iload_n 1, 1) := by decide +kernel
theorem dX11_newLayer_54 : decode cX11_newLayer 54 = .ok (.aaload, 1) := by decide +kernel
theorem dX11_newLayer_55 : decode cX11_newLayer 55 = .ok (.iconst 0, 1) := by decide +kernel
theorem dX11_newLayer_56 : decode cX11_newLayer 56 = .ok (.dup2, 1) := by decide +kernel
theorem dX11_newLayer_57 : decode cX11_newLayer 57 = .ok (.iaload, 1) := by decide +kernel
theorem dX11_newLayer_58 : decode cX11_newLayer 58 = .ok (.aload_n 0, 1) := by decide +kernel
theorem dX11_newLayer_59 : decode cX11_newLayer 59 = .ok (.getfield 99, 3) := by decide +kernel
theorem dX11_newLayer_62 : decode cX11_newLayer 62 = .ok (.iload_n 1, 1) := by decide +kernel
theorem dX11_newLayer_63 : decode cX11_newLayer 63 = .ok (.aaload, 1) := by decide +kernel
theorem dX11_newLayer_64 : decode cX11_newLayer 64 = .ok (.iconst 1, 1) := by decide +kernel
theorem dX11_newLayer_65 : decode cX11_newLayer 65 = .ok (.iaload, 1) := by decide +kernel
theorem dX11_newLayer_66 : decode cX11_newLayer 66 = .ok (.iadd, 1) := by decide +kernel
theorem dX11_newLayer_67 : decode cX11_newLayer 67 = .ok (.iastore, 1) := by decide +kernel
theorem dX11_newLayer_68 : decode cX11_newLayer 68 = .ok (.aload_n 0, 1) := by decide +kernel
theorem dX11_newLayer_69 : decode cX11_newLayer 69 = .ok (.getfield 102, 3) := by decide +kernel
theorem dX11_newLayer_72 : decode cX11_newLayer 72 = .ok (.iload_n 1, 1) := by decide +kernel
theorem dX11_newLayer_73 : decode cX11_newLayer 73 = .ok (.aaload, 1) := by decide +kernel
theorem dX11_newLayer_74 : decode cX11_newLayer 74 = .ok (.iconst 0, 1) := by decide +kernel
theorem dX11_newLayer_75 : decode cX11_newLayer 75 = .ok (.dup2, 1) := by decide +kernel
theorem dX11_newLayer_76 : decode cX11_newLayer 76 = .ok (.baload, 1) := by decide +kernel
theorem dX11_newLayer_77 : decode cX11_newLayer 77 = .ok (.aload_n 0, 1) := by decide +kernel
theorem dX11_newLayer_78 : decode cX11_newLayer 78 = .ok (.getfield 102, 3) := by decide +kernel
theorem dX11_newLayer_81 : decode cX11_newLayer 81 = .ok (.iload_n 1, 1) := by decide +kernel
theorem dX11_newLayer_82 : decode cX11_newLayer 82 = .ok (.aaload, 1) := by decide +kernel
theorem dX11_newLayer_83 : decode cX11_newLayer 83 = .ok (.iconst 1, 1) := by decide +kernel
theorem dX11_newLayer_84 : decode cX11_newLayer 84 = .ok (.baload, 1) := by decide +kernel
theorem dX11_newLayer_85 : decode cX11_newLayer 85 = .ok (.ior, 1) := by decide +kernel
theorem dX11_newLayer_86 : decode cX11_newLayer 86 = .ok (.bastore, 1) := by decide +kernel
theorem dX11_newLayer_87 : decode cX11_newLayer 87 = .ok (.iconst 1, 1) := by decide +kernel
theorem dX11_newLayer_88 : decode cX11_newLayer 88 = .ok (.istore 4, 2) := by decide +kernel
theorem dX11_newLayer_90 : decode cX11_newLayer 90 = .ok (.iload 4, 2) := by decide +kernel
theorem dX11_newLayer_92 : decode cX11_newLayer 92 = .ok (.bipush 6, 2) := by decide +kernel
theorem dX11_newLayer_94 : decode cX11_newLayer 94 = .ok (.if_icmp .ge 49, 3) := by decide +kernel
theorem dX11_newLayer_97 : decode cX11_newLayer 97 = .ok (.aload_n 0, 1) := by decide +kernel
theorem dX11_newLayer_98 : decode cX11_newLayer 98 = .ok (.getfield 99, 3) := by decide +kernel
theorem dX11_newLayer_101 : decode cX11_newLayer 101 = .ok (.iload_n 1, 1) := by decide +kernel
theorem dX11_newLayer_102 : decode cX11_newLayer 102 = .ok (.aaload, 1) := by decide +kernel
theorem dX11_newLayer_103 : decode cX11_newLayer 103 = .ok (.iload 4, 2) := by decide +kernel
theorem dX11_newLayer_105 : decode cX11_newLayer 105 = .ok (.aload_n 0, 1) := by decide +kernel
theorem dX11_newLayer_106 : decode cX11_newLayer 106 = .ok (.getfield 99, 3) := by decide +kernel
theorem dX11_newLayer_109 : decode cX11_newLayer 109 = .ok (.iload_n 1, 1) := by decide +kernel
theorem dX11_newLayer_110 : decode cX11_newLayer 110 = .ok (.aaload, 1) := by decide +kernel
theorem dX11_newLayer_111 : decode cX11_newLayer 111 = .ok (.iload 4, 2) := by decide +kernel
theorem dX11_newLayer_113 : decode cX11_newLayer 113 = .ok (.iconst 1, 1) := by decide +kernel
theorem dX11_newLayer_114 : decode cX11_newLayer 114 = .ok (.iadd, 1) := by decide +kernel
theorem dX11_newLayer_115 : decode cX11_newLayer 115 = .ok (.iaload, 1) := by decide +kernel
theorem dX11_newLayer_116 : decode cX11_newLayer 116 = .ok (.iastore, 1) := by decide +kernel
theorem dX11_newLayer_117 : decode cX11_newLayer 117 = .ok (.aload_n 0, 1) := by decide +kernel
theorem dX11_newLayer_118 : decode cX11_newLayer 118 = .ok (.getfield 102, 3) := by decide +kernel
theorem dX11_newLayer_121 : decode cX11_newLayer 121 = .ok (.iload_n 1, 1) := by decide +kernel
theorem dX11_newLayer_122 : decode cX11_newLayer 122 = .ok (.aaload, 1) := by decide +kernel
theorem dX11_newLayer_123 : decode cX11_newLayer 123 = .ok (.iload 4, 2) := by decide +kernel
theorem dX11_newLayer_125 : decode cX11_newLayer 125 = .ok (.aload_n 0, 1) := by decide +kernel
theorem dX11_newLayer_126 : decode cX11_newLayer 126 = .ok (.getfield 102, 3) := by decide +kernel
theorem dX11_newLayer_129 : decode cX11_newLayer 129 = .ok (.iload_n 1, 1) := by decide +kernel
theorem dX11_newLayer_130 : decode cX11_newLayer 130 = .ok (.aaload, 1) := by decide +kernel
theorem dX11_newLayer_131 : decode cX11_newLayer 131 = .ok (.iload 4, 2) := by decide +kernel
theorem dX11_newLayer_133 : decode cX11_newLayer 133 = .ok (.iconst 1, 1) := by decide +kernel
theorem dX11_newLayer_134 : decode cX11_newLayer 134 = .ok (.iadd, 1) := by decide +kernel
theorem dX11_newLayer_135 : decode cX11_newLayer 135 = .ok (.baload, 1) := by decide +kernel
theorem dX11_newLayer_136 : decode cX11_newLayer 136 = .ok (.bastore, 1) := by decide +kernel
theorem dX11_newLayer_137 : decode cX11_newLayer 137 = .ok (.iinc 4 1, 3) := by decide +kernel
theorem dX11_newLayer_140 : decode cX11_newLayer 140 = .ok (.goto (-50), 3) := by decide +kernel
theorem dX11_newLayer_143 : decode cX11_newLayer 143 = .ok (.aload_n 0, 1) := by decide +kernel
theorem dX11_newLayer_144 : decode cX11_newLayer 144 = .ok (.getfield 96, 3) := by decide +kernel
theorem dX11_newLayer_147 : decode cX11_newLayer 147 = .ok (.iload_n 1, 1) := by decide +kernel
theorem dX11_newLayer_148 : decode cX11_newLayer 148 = .ok (.bipush 6, 2) := by decide +kernel
theorem dX11_newLayer_150 : decode cX11_newLayer 150 = .ok (.iastore, 1) := by decide +kernel
theorem dX11_newLayer_151 : decode cX11_newLayer 151 = .ok (.return_, 1) := by decide +kernel
theorem dX11_holdsOf_0 : decode cX11_holdsOf 0 = .ok (.bipush 40, 2) := by decide +kernel
theorem dX11_holdsOf_2 : decode cX11_holdsOf 2 = .ok (.iload_n 2, 1) := by decide +kernel
theorem dX11_holdsOf_3 : decode cX11_holdsOf 3 = .ok (.iconst 5, 1) := by decide +kernel
theorem dX11_holdsOf_4 : decode cX11_holdsOf 4 = .ok (.idiv, 1) := by decide +kernel
theorem dX11_holdsOf_5 : decode cX11_holdsOf 5 = .ok (.iadd, 1) := by decide +kernel
theorem dX11_holdsOf_6 : decode cX11_holdsOf 6 = .ok (.aload_n 0, 1) := by decide +kernel
theorem dX11_holdsOf_7 : decode cX11_holdsOf 7 = .ok (.getfield 92, 3) := by decide +kernel
theorem dX11_holdsOf_10 : decode cX11_holdsOf 10 = .ok (.iload_n 1, 1) := by decide +kernel
theorem dX11_holdsOf_11 : decode cX11_holdsOf 11 = .ok (.baload, 1) := by decide +kernel
theorem dX11_holdsOf_12 : decode cX11_holdsOf 12 = .ok (.ifCond .eq 8, 3) := by decide +kernel
theorem dX11_holdsOf_15 : decode cX11_holdsOf 15 = .ok (.bipush 30, 2) := by decide +kernel
theorem dX11_holdsOf_17 : decode cX11_holdsOf 17 = .ok (.goto 4, 3) := by decide +kernel
theorem dX11_holdsOf_20 : decode cX11_holdsOf 20 = .ok (.iconst 0, 1) := by decide +kernel
theorem dX11_holdsOf_21 : decode cX11_holdsOf 21 = .ok (.iadd, 1) := by decide +kernel
theorem dX11_holdsOf_22 : decode cX11_holdsOf 22 = .ok (.ireturn, 1) := by decide +kernel
theorem dX11_over_0 : decode cX11_over 0 = .ok (.iconst 0, 1) := by decide +kernel
theorem dX11_over_1 : decode cX11_over 1 = .ok (.istore_n 3, 1) := by decide +kernel
theorem dX11_over_2 : decode cX11_over 2 = .ok (.iload_n 2, 1) := by decide +kernel
theorem dX11_over_3 : decode cX11_over 3 = .ok (.iconst 1, 1) := by decide +kernel
theorem dX11_over_4 : decode cX11_over 4 = .ok (.iadd, 1) := by decide +kernel
theorem dX11_over_5 : decode cX11_over 5 = .ok (.istore 4, 2) := by decide +kernel
theorem dX11_over_7 : decode cX11_over 7 = .ok (.iload 4, 2) := by decide +kernel
theorem dX11_over_9 : decode cX11_over 9 = .ok (.aload_n 0, 1) := by decide +kernel
theorem dX11_over_10 : decode cX11_over 10 = .ok (.getfield 96, 3) := by decide +kernel
theorem dX11_over_13 : decode cX11_over 13 = .ok (.iload_n 1, 1) := by decide +kernel
theorem dX11_over_14 : decode cX11_over 14 = .ok (.iaload, 1) := by decide +kernel
theorem dX11_over_15 : decode cX11_over 15 = .ok (.if_icmp .ge 21, 3) := by decide +kernel
theorem dX11_over_18 : decode cX11_over 18 = .ok (.iload_n 3, 1) := by decide +kernel
theorem dX11_over_19 : decode cX11_over 19 = .ok (.aload_n 0, 1) := by decide +kernel
theorem dX11_over_20 : decode cX11_over 20 = .ok (.getfield 99, 3) := by decide +kernel
theorem dX11_over_23 : decode cX11_over 23 = .ok (.iload_n 1, 1) := by decide +kernel
theorem dX11_over_24 : decode cX11_over 24 = .ok (.aaload, 1) := by decide +kernel
theorem dX11_over_25 : decode cX11_over 25 = .ok (.iload 4, 2) := by decide +kernel
theorem dX11_over_27 : decode cX11_over 27 = .ok (.iaload, 1) := by decide +kernel
theorem dX11_over_28 : decode cX11_over 28 = .ok (.iadd, 1) := by decide +kernel
theorem dX11_over_29 : decode cX11_over 29 = .ok (.istore_n 3, 1) := by decide +kernel
theorem dX11_over_30 : decode cX11_over 30 = .ok (.iinc 4 1, 3) := by decide +kernel
theorem dX11_over_33 : decode cX11_over 33 = .ok (.goto (-26), 3) := by decide +kernel
theorem dX11_over_36 : decode cX11_over 36 = .ok (.iload_n 3, 1) := by decide +kernel
theorem dX11_over_37 : decode cX11_over 37 = .ok (.ireturn, 1) := by decide +kernel
theorem dX11_lowestSoft_0 : decode cX11_lowestSoft 0 = .ok (.iconst 0, 1) := by decide +kernel
theorem dX11_lowestSoft_1 : decode cX11_lowestSoft 1 = .ok (.istore_n 2, 1) := by decide +kernel
theorem dX11_lowestSoft_2 : decode cX11_lowestSoft 2 = .ok (.iload_n 2, 1) := by decide +kernel
theorem dX11_lowestSoft_3 : decode cX11_lowestSoft 3 = .ok (.aload_n 0, 1) := by decide +kernel
theorem dX11_lowestSoft_4 : decode cX11_lowestSoft 4 = .ok (.getfield 96, 3) := by decide +kernel
theorem dX11_lowestSoft_7 : decode cX11_lowestSoft 7 = .ok (.iload_n 1, 1) := by decide +kernel
theorem dX11_lowestSoft_8 : decode cX11_lowestSoft 8 = .ok (.iaload, 1) := by decide +kernel
theorem dX11_lowestSoft_9 : decode cX11_lowestSoft 9 = .ok (.if_icmp .ge 22, 3) := by decide +kernel
theorem dX11_lowestSoft_12 : decode cX11_lowestSoft 12 = .ok (.aload_n 0, 1) := by decide +kernel
theorem dX11_lowestSoft_13 : decode cX11_lowestSoft 13 = .ok (.getfield 102, 3) := by decide +kernel
theorem dX11_lowestSoft_16 : decode cX11_lowestSoft 16 = .ok (.iload_n 1, 1) := by decide +kernel
theorem dX11_lowestSoft_17 : decode cX11_lowestSoft 17 = .ok (.aaload, 1) := by decide +kernel
theorem dX11_lowestSoft_18 : decode cX11_lowestSoft 18 = .ok (.iload_n 2, 1) := by decide +kernel
theorem dX11_lowestSoft_19 : decode cX11_lowestSoft 19 = .ok (.baload, 1) := by decide +kernel
theorem dX11_lowestSoft_20 : decode cX11_lowestSoft 20 = .ok (.ifCond .eq 5, 3) := by decide +kernel
theorem dX11_lowestSoft_23 : decode cX11_lowestSoft 23 = .ok (.iload_n 2, 1) := by decide +kernel
theorem dX11_lowestSoft_24 : decode cX11_lowestSoft 24 = .ok (.ireturn, 1) := by decide +kernel
theorem dX11_lowestSoft_25 : decode cX11_lowestSoft 25 = .ok (.iinc 2 1, 3) := by decide +kernel
theorem dX11_lowestSoft_28 : decode cX11_lowestSoft 28 = .ok (.goto (-26), 3) := by decide +kernel
theorem dX11_lowestSoft_31 : decode cX11_lowestSoft 31 = .ok (.iconst (-1), 1) := by decide +kernel
theorem dX11_lowestSoft_32 : decode cX11_lowestSoft 32 = .ok (.ireturn, 1) := by decide +kernel
theorem dX11_riskOf_0 : decode cX11_riskOf 0 = .ok (.aload_n 0, 1) := by decide +kernel
theorem dX11_riskOf_1 : decode cX11_riskOf 1 = .ok (.iload_n 1, 1) := by decide +kernel
theorem dX11_riskOf_2 : decode cX11_riskOf 2 = .ok (.invokevirtual 385, 3) := by decide +kernel
theorem dX11_riskOf_5 : decode cX11_riskOf 5 = .ok (.istore_n 3, 1) := by decide +kernel
theorem dX11_riskOf_6 : decode cX11_riskOf 6 = .ok (.iload_n 3, 1) := by decide +kernel
theorem dX11_riskOf_7 : decode cX11_riskOf 7 = .ok (.ifCond .ge 7, 3) := by decide +kernel
theorem dX11_riskOf_10 : decode cX11_riskOf 10 = .ok (.iconst 0, 1) := by decide +kernel
theorem dX11_riskOf_11 : decode cX11_riskOf 11 = .ok (.goto 19, 3) := by decide +kernel
theorem dX11_riskOf_14 : decode cX11_riskOf 14 = .ok (.aload_n 0, 1) := by decide +kernel
theorem dX11_riskOf_15 : decode cX11_riskOf 15 = .ok (.iload_n 1, 1) := by decide +kernel
theorem dX11_riskOf_16 : decode cX11_riskOf 16 = .ok (.iload_n 3, 1) := by decide +kernel
theorem dX11_riskOf_17 : decode cX11_riskOf 17 = .ok (.invokevirtual 388, 3) := by decide +kernel
theorem dX11_riskOf_20 : decode cX11_riskOf 20 = .ok (.bipush 100, 2) := by decide +kernel
theorem dX11_riskOf_22 : decode cX11_riskOf 22 = .ok (.imul, 1) := by decide +kernel
theorem dX11_riskOf_23 : decode cX11_riskOf 23 = .ok (.aload_n 0, 1) := by decide +kernel
theorem dX11_riskOf_24 : decode cX11_riskOf 24 = .ok (.iload_n 1, 1) := by decide +kernel
theorem dX11_riskOf_25 : decode cX11_riskOf 25 = .ok (.iload_n 2, 1) := by decide +kernel
theorem dX11_riskOf_26 : decode cX11_riskOf 26 = .ok (.invokevirtual 391, 3) := by decide +kernel
theorem dX11_riskOf_29 : decode cX11_riskOf 29 = .ok (.idiv, 1) := by decide +kernel
theorem dX11_riskOf_30 : decode cX11_riskOf 30 = .ok (.ireturn, 1) := by decide +kernel
theorem dX11_slopeDay_0 : decode cX11_slopeDay 0 = .ok (.aload_n 0, 1) := by decide +kernel
theorem dX11_slopeDay_1 : decode cX11_slopeDay 1 = .ok (.aload_n 0, 1) := by decide +kernel
theorem dX11_slopeDay_2 : decode cX11_slopeDay 2 = .ok (.getfield 193, 3) := by decide +kernel
theorem dX11_slopeDay_5 : decode cX11_slopeDay 5 = .ok (.iconst 0, 1) := by decide +kernel
theorem dX11_slopeDay_6 : decode cX11_slopeDay 6 = .ok (.invokevirtual 357, 3) := by decide +kernel
theorem dX11_slopeDay_9 : decode cX11_slopeDay 9 = .ok (.istore_n 2, 1) := by decide +kernel
theorem dX11_slopeDay_10 : decode cX11_slopeDay 10 = .ok (.aload_n 0, 1) := by decide +kernel
theorem dX11_slopeDay_11 : decode cX11_slopeDay 11 = .ok (.aload_n 0, 1) := by decide +kernel
theorem dX11_slopeDay_12 : decode cX11_slopeDay 12 = .ok (.getfield 193, 3) := by decide +kernel
theorem dX11_slopeDay_15 : decode cX11_slopeDay 15 = .ok (.iconst 1, 1) := by decide +kernel
theorem dX11_slopeDay_16 : decode cX11_slopeDay 16 = .ok (.invokevirtual 357, 3) := by decide +kernel
theorem dX11_slopeDay_19 : decode cX11_slopeDay 19 = .ok (.istore_n 3, 1) := by decide +kernel
theorem dX11_slopeDay_20 : decode cX11_slopeDay 20 = .ok (.iload_n 3, 1) := by decide +kernel
theorem dX11_slopeDay_21 : decode cX11_slopeDay 21 = .ok (.ifCond .le 25, 3) := by decide +kernel
theorem dX11_slopeDay_24 : decode cX11_slopeDay 24 = .ok (.iload_n 2, 1) := by decide +kernel
theorem dX11_slopeDay_25 : decode cX11_slopeDay 25 = .ok (.iconst 2, 1) := by decide +kernel
theorem dX11_slopeDay_26 : decode cX11_slopeDay 26 = .ok (.if_icmp .gt 20, 3) := by decide +kernel
theorem dX11_slopeDay_29 : decode cX11_slopeDay 29 = .ok (.aload_n 0, 1) := by decide +kernel
theorem dX11_slopeDay_30 : decode cX11_slopeDay 30 = .ok (.iload_n 1, 1) := by decide +kernel
theorem dX11_slopeDay_31 : decode cX11_slopeDay 31 = .ok (.iload_n 3, 1) := by decide +kernel
theorem dX11_slopeDay_32 : decode cX11_slopeDay 32 = .ok (.iload_n 2, 1) := by decide +kernel
theorem dX11_slopeDay_33 : decode cX11_slopeDay 33 = .ok (.bipush (-5), 2) := by decide +kernel
theorem dX11_slopeDay_35 : decode cX11_slopeDay 35 = .ok (.if_icmp .le 7, 3) := by decide +kernel
theorem dX11_slopeDay_38 : decode cX11_slopeDay 38 = .ok (.iconst 1, 1) := by decide +kernel
theorem dX11_slopeDay_39 : decode cX11_slopeDay 39 = .ok (.goto 4, 3) := by decide +kernel
theorem dX11_slopeDay_42 : decode cX11_slopeDay 42 = .ok (.iconst 0, 1) := by decide +kernel
theorem dX11_slopeDay_43 : decode cX11_slopeDay 43 = .ok (.invokevirtual 394, 3) := by decide +kernel
theorem dX11_slopeDay_46 : decode cX11_slopeDay 46 = .ok (.iload_n 2, 1) := by decide +kernel
theorem dX11_slopeDay_47 : decode cX11_slopeDay 47 = .ok (.iconst 2, 1) := by decide +kernel
theorem dX11_slopeDay_48 : decode cX11_slopeDay 48 = .ok (.if_icmp .le 59, 3) := by decide +kernel
theorem dX11_slopeDay_51 : decode cX11_slopeDay 51 = .ok (.aload_n 0, 1) := by decide +kernel
theorem dX11_slopeDay_52 : decode cX11_slopeDay 52 = .ok (.getfield 96, 3) := by decide +kernel
theorem dX11_slopeDay_55 : decode cX11_slopeDay 55 = .ok (.iload_n 1, 1) := by decide +kernel
theorem dX11_slopeDay_56 : decode cX11_slopeDay 56 = .ok (.iaload, 1) := by decide +kernel
theorem dX11_slopeDay_57 : decode cX11_slopeDay 57 = .ok (.ifCond .le 50, 3) := by decide +kernel
theorem dX11_slopeDay_60 : decode cX11_slopeDay 60 = .ok (.aload_n 0, 1) := by decide +kernel
theorem dX11_slopeDay_61 : decode cX11_slopeDay 61 = .ok (.getfield 96, 3) := by decide +kernel
theorem dX11_slopeDay_64 : decode cX11_slopeDay 64 = .ok (.iload_n 1, 1) := by decide +kernel
theorem dX11_slopeDay_65 : decode cX11_slopeDay 65 = .ok (.iaload, 1) := by decide +kernel
theorem dX11_slopeDay_66 : decode cX11_slopeDay 66 = .ok (.iconst 1, 1) := by decide +kernel
theorem dX11_slopeDay_67 : decode cX11_slopeDay 67 = .ok (.isub, 1) := by decide +kernel
theorem dX11_slopeDay_68 : decode cX11_slopeDay 68 = .ok (.istore 4, 2) := by decide +kernel
theorem dX11_slopeDay_70 : decode cX11_slopeDay 70 = .ok (.aload_n 0, 1) := by decide +kernel
theorem dX11_slopeDay_71 : decode cX11_slopeDay 71 = .ok (.getfield 99, 3) := by decide +kernel
theorem dX11_slopeDay_74 : decode cX11_slopeDay 74 = .ok (.iload_n 1, 1) := by decide +kernel
theorem dX11_slopeDay_75 : decode cX11_slopeDay 75 = .ok (.aaload, 1) := by decide +kernel
theorem dX11_slopeDay_76 : decode cX11_slopeDay 76 = .ok (.iload 4, 2) := by decide +kernel
theorem dX11_slopeDay_78 : decode cX11_slopeDay 78 = .ok (.dup2, 1) := by decide +kernel
theorem dX11_slopeDay_79 : decode cX11_slopeDay 79 = .ok (.iaload, 1) := by decide +kernel
theorem dX11_slopeDay_80 : decode cX11_slopeDay 80 = .ok (.iconst 3, 1) := by decide +kernel
theorem dX11_slopeDay_81 : decode cX11_slopeDay 81 = .ok (.iload_n 2, 1) := by decide +kernel
theorem dX11_slopeDay_82 : decode cX11_slopeDay 82 = .ok (.imul, 1) := by decide +kernel
theorem dX11_slopeDay_83 : decode cX11_slopeDay 83 = .ok (.isub, 1) := by decide +kernel
theorem dX11_slopeDay_84 : decode cX11_slopeDay 84 = .ok (.iastore, 1) := by decide +kernel
theorem dX11_slopeDay_85 : decode cX11_slopeDay 85 = .ok (.aload_n 0, 1) := by decide +kernel
theorem dX11_slopeDay_86 : decode cX11_slopeDay 86 = .ok (.getfield 99, 3) := by decide +kernel
theorem dX11_slopeDay_89 : decode cX11_slopeDay 89 = .ok (.iload_n 1, 1) := by decide +kernel
theorem dX11_slopeDay_90 : decode cX11_slopeDay 90 = .ok (.aaload, 1) := by decide +kernel
theorem dX11_slopeDay_91 : decode cX11_slopeDay 91 = .ok (.iload 4, 2) := by decide +kernel
theorem dX11_slopeDay_93 : decode cX11_slopeDay 93 = .ok (.iaload, 1) := by decide +kernel
theorem dX11_slopeDay_94 : decode cX11_slopeDay 94 = .ok (.ifCond .gt 13, 3) := by decide +kernel
theorem dX11_slopeDay_97 : decode cX11_slopeDay 97 = .ok (.aload_n 0, 1) := by decide +kernel
theorem dX11_slopeDay_98 : decode cX11_slopeDay 98 = .ok (.getfield 96, 3) := by decide +kernel
theorem dX11_slopeDay_101 : decode cX11_slopeDay 101 = .ok (.iload_n 1, 1) := by decide +kernel
theorem dX11_slopeDay_102 : decode cX11_slopeDay 102 = .ok (.dup2, 1) := by decide +kernel
theorem dX11_slopeDay_103 : decode cX11_slopeDay 103 = .ok (.iaload, 1) := by decide +kernel
theorem dX11_slopeDay_104 : decode cX11_slopeDay 104 = .ok (.iconst 1, 1) := by decide +kernel
theorem dX11_slopeDay_105 : decode cX11_slopeDay 105 = .ok (.isub, 1) := by decide +kernel
theorem dX11_slopeDay_106 : decode cX11_slopeDay 106 = .ok (.iastore, 1) := by decide +kernel
theorem dX11_slopeDay_107 : decode cX11_slopeDay 107 = .ok (.aload_n 0, 1) := by decide +kernel
theorem dX11_slopeDay_108 : decode cX11_slopeDay 108 = .ok (.iload_n 1, 1) := by decide +kernel
theorem dX11_slopeDay_109 : decode cX11_slopeDay 109 = .ok (.invokevirtual 385, 3) := by decide +kernel
theorem dX11_slopeDay_112 : decode cX11_slopeDay 112 = .ok (.istore 4, 2) := by decide +kernel
theorem dX11_slopeDay_114 : decode cX11_slopeDay 114 = .ok (.iload 4, 2) := by decide +kernel
theorem dX11_slopeDay_116 : decode cX11_slopeDay 116 = .ok (.ifCond .lt 24, 3) := by decide +kernel
theorem dX11_slopeDay_119 : decode cX11_slopeDay 119 = .ok (.aload_n 0, 1) := by decide +kernel
theorem dX11_slopeDay_120 : decode cX11_slopeDay 120 = .ok (.iload_n 1, 1) := by decide +kernel
theorem dX11_slopeDay_121 : decode cX11_slopeDay 121 = .ok (.iload 4, 2) := by decide +kernel
theorem dX11_slopeDay_123 : decode cX11_slopeDay 123 = .ok (.invokevirtual 388, 3) := by decide +kernel
theorem dX11_slopeDay_126 : decode cX11_slopeDay 126 = .ok (.aload_n 0, 1) := by decide +kernel
theorem dX11_slopeDay_127 : decode cX11_slopeDay 127 = .ok (.iload_n 1, 1) := by decide +kernel
theorem dX11_slopeDay_128 : decode cX11_slopeDay 128 = .ok (.aload_n 0, 1) := by decide +kernel
theorem dX11_slopeDay_129 : decode cX11_slopeDay 129 = .ok (.getfield 89, 3) := by decide +kernel
theorem dX11_slopeDay_132 : decode cX11_slopeDay 132 = .ok (.iload_n 1, 1) := by decide +kernel
theorem dX11_slopeDay_133 : decode cX11_slopeDay 133 = .ok (.iaload, 1) := by decide +kernel
theorem dX11_slopeDay_134 : decode cX11_slopeDay 134 = .ok (.invokevirtual 391, 3) := by decide +kernel
theorem dX11_slopeDay_137 : decode cX11_slopeDay 137 = .ok (.if_icmp .ge 5, 3) := by decide +kernel
theorem dX11_slopeDay_140 : decode cX11_slopeDay 140 = .ok (.iconst 0, 1) := by decide +kernel
theorem dX11_slopeDay_141 : decode cX11_slopeDay 141 = .ok (.ireturn, 1) := by decide +kernel
theorem dX11_slopeDay_142 : decode cX11_slopeDay 142 = .ok (.aload_n 0, 1) := by decide +kernel
theorem dX11_slopeDay_143 : decode cX11_slopeDay 143 = .ok (.getfield 96, 3) := by decide +kernel
theorem dX11_slopeDay_146 : decode cX11_slopeDay 146 = .ok (.iload_n 1, 1) := by decide +kernel
theorem dX11_slopeDay_147 : decode cX11_slopeDay 147 = .ok (.iload 4, 2) := by decide +kernel
theorem dX11_slopeDay_149 : decode cX11_slopeDay 149 = .ok (.iastore, 1) := by decide +kernel
theorem dX11_slopeDay_150 : decode cX11_slopeDay 150 = .ok (.aload_n 0, 1) := by decide +kernel
theorem dX11_slopeDay_151 : decode cX11_slopeDay 151 = .ok (.getfield 89, 3) := by decide +kernel
theorem dX11_slopeDay_154 : decode cX11_slopeDay 154 = .ok (.iload_n 1, 1) := by decide +kernel
theorem dX11_slopeDay_155 : decode cX11_slopeDay 155 = .ok (.aload_n 0, 1) := by decide +kernel
theorem dX11_slopeDay_156 : decode cX11_slopeDay 156 = .ok (.getfield 89, 3) := by decide +kernel
theorem dX11_slopeDay_159 : decode cX11_slopeDay 159 = .ok (.iload_n 1, 1) := by decide +kernel
theorem dX11_slopeDay_160 : decode cX11_slopeDay 160 = .ok (.iaload, 1) := by decide +kernel
theorem dX11_slopeDay_161 : decode cX11_slopeDay 161 = .ok (.bipush 40, 2) := by decide +kernel
theorem dX11_slopeDay_163 : decode cX11_slopeDay 163 = .ok (.if_icmp .ge 7, 3) := by decide +kernel
theorem dX11_slopeDay_166 : decode cX11_slopeDay 166 = .ok (.iconst 0, 1) := by decide +kernel
theorem dX11_slopeDay_167 : decode cX11_slopeDay 167 = .ok (.goto 9, 3) := by decide +kernel
theorem dX11_slopeDay_170 : decode cX11_slopeDay 170 = .ok (.aload_n 0, 1) := by decide +kernel
theorem dX11_slopeDay_171 : decode cX11_slopeDay 171 = .ok (.getfield 89, 3) := by decide +kernel
theorem dX11_slopeDay_174 : decode cX11_slopeDay 174 = .ok (.iload_n 1, 1) := by decide +kernel
theorem dX11_slopeDay_175 : decode cX11_slopeDay 175 = .ok (.iaload, 1) := by decide +kernel
theorem dX11_slopeDay_176 : decode cX11_slopeDay 176 = .ok (.iastore, 1) := by decide +kernel
theorem dX11_slopeDay_177 : decode cX11_slopeDay 177 = .ok (.aload_n 0, 1) := by decide +kernel
theorem dX11_slopeDay_178 : decode cX11_slopeDay 178 = .ok (.getfield 105, 3) := by decide +kernel
theorem dX11_slopeDay_181 : decode cX11_slopeDay 181 = .ok (.iload_n 1, 1) := by decide +kernel
theorem dX11_slopeDay_182 : decode cX11_slopeDay 182 = .ok (.dup2, 1) := by decide +kernel
theorem dX11_slopeDay_183 : decode cX11_slopeDay 183 = .ok (.iaload, 1) := by decide +kernel
theorem dX11_slopeDay_184 : decode cX11_slopeDay 184 = .ok (.iconst 1, 1) := by decide +kernel
theorem dX11_slopeDay_185 : decode cX11_slopeDay 185 = .ok (.iadd, 1) := by decide +kernel
theorem dX11_slopeDay_186 : decode cX11_slopeDay 186 = .ok (.iastore, 1) := by decide +kernel
theorem dX11_slopeDay_187 : decode cX11_slopeDay 187 = .ok (.aload_n 0, 1) := by decide +kernel
theorem dX11_slopeDay_188 : decode cX11_slopeDay 188 = .ok (.dup, 1) := by decide +kernel
theorem dX11_slopeDay_189 : decode cX11_slopeDay 189 = .ok (.getfield 398, 3) := by decide +kernel
theorem dX11_slopeDay_192 : decode cX11_slopeDay 192 = .ok (.iconst 1, 1) := by decide +kernel
theorem dX11_slopeDay_193 : decode cX11_slopeDay 193 = .ok (.iadd, 1) := by decide +kernel
theorem dX11_slopeDay_194 : decode cX11_slopeDay 194 = .ok (.putfield 398, 3) := by decide +kernel
theorem dX11_slopeDay_197 : decode cX11_slopeDay 197 = .ok (.aload_n 0, 1) := by decide +kernel
theorem dX11_slopeDay_198 : decode cX11_slopeDay 198 = .ok (.dup, 1) := by decide +kernel
theorem dX11_slopeDay_199 : decode cX11_slopeDay 199 = .ok (.getfield 401, 3) := by decide +kernel
theorem dX11_slopeDay_202 : decode cX11_slopeDay 202 = .ok (.aload_n 0, 1) := by decide +kernel
theorem dX11_slopeDay_203 : decode cX11_slopeDay 203 = .ok (.getfield 404, 3) := by decide +kernel
theorem dX11_slopeDay_206 : decode cX11_slopeDay 206 = .ok (.ifCond .eq 7, 3) := by decide +kernel
theorem dX11_slopeDay_209 : decode cX11_slopeDay 209 = .ok (.iconst 0, 1) := by decide +kernel
theorem dX11_slopeDay_210 : decode cX11_slopeDay 210 = .ok (.goto 4, 3) := by decide +kernel
theorem dX11_slopeDay_213 : decode cX11_slopeDay 213 = .ok (.iconst 1, 1) := by decide +kernel
theorem dX11_slopeDay_214 : decode cX11_slopeDay 214 = .ok (.iadd, 1) := by decide +kernel
theorem dX11_slopeDay_215 : decode cX11_slopeDay 215 = .ok (.putfield 401, 3) := by decide +kernel
theorem dX11_slopeDay_218 : decode cX11_slopeDay 218 = .ok (.iconst 1, 1) := by decide +kernel
theorem dX11_slopeDay_219 : decode cX11_slopeDay 219 = .ok (.ireturn, 1) := by decide +kernel
theorem dX11_oneDay_0 : decode cX11_oneDay 0 = .ok (.aload_n 0, 1) := by decide +kernel
theorem dX11_oneDay_1 : decode cX11_oneDay 1 = .ok (.invokevirtual 408, 3) := by decide +kernel
theorem dX11_oneDay_4 : decode cX11_oneDay 4 = .ok (.aload_n 0, 1) := by decide +kernel
theorem dX11_oneDay_5 : decode cX11_oneDay 5 = .ok (.invokevirtual 411, 3) := by decide +kernel
theorem dX11_oneDay_8 : decode cX11_oneDay 8 = .ok (.iconst 0, 1) := by decide +kernel
theorem dX11_oneDay_9 : decode cX11_oneDay 9 = .ok (.istore_n 1, 1) := by decide +kernel
theorem dX11_oneDay_10 : decode cX11_oneDay 10 = .ok (.iconst 0, 1) := by decide +kernel
theorem dX11_oneDay_11 : decode cX11_oneDay 11 = .ok (.istore_n 2, 1) := by decide +kernel
theorem dX11_oneDay_12 : decode cX11_oneDay 12 = .ok (.iload_n 2, 1) := by decide +kernel
theorem dX11_oneDay_13 : decode cX11_oneDay 13 = .ok (.aload_n 0, 1) := by decide +kernel
theorem dX11_oneDay_14 : decode cX11_oneDay 14 = .ok (.getfield 173, 3) := by decide +kernel
theorem dX11_oneDay_17 : decode cX11_oneDay 17 = .ok (.if_icmp .ge 17, 3) := by decide +kernel
theorem dX11_oneDay_20 : decode cX11_oneDay 20 = .ok (.iload_n 1, 1) := by decide +kernel
theorem dX11_oneDay_21 : decode cX11_oneDay 21 = .ok (.aload_n 0, 1) := by decide +kernel
theorem dX11_oneDay_22 : decode cX11_oneDay 22 = .ok (.iload_n 2, 1) := by decide +kernel
theorem dX11_oneDay_23 : decode cX11_oneDay 23 = .ok (.invokevirtual 414, 3) := by decide +kernel
theorem dX11_oneDay_26 : decode cX11_oneDay 26 = .ok (.ior, 1) := by decide +kernel
theorem dX11_oneDay_27 : decode cX11_oneDay 27 = .ok (.istore_n 1, 1) := by decide +kernel
theorem dX11_oneDay_28 : decode cX11_oneDay 28 = .ok (.iinc 2 1, 3) := by decide +kernel
theorem dX11_oneDay_31 : decode cX11_oneDay 31 = .ok (.goto (-19), 3) := by decide +kernel
theorem dX11_oneDay_34 : decode cX11_oneDay 34 = .ok (.aload_n 0, 1) := by decide +kernel
theorem dX11_oneDay_35 : decode cX11_oneDay 35 = .ok (.dup, 1) := by decide +kernel
theorem dX11_oneDay_36 : decode cX11_oneDay 36 = .ok (.getfield 417, 3) := by decide +kernel
theorem dX11_oneDay_39 : decode cX11_oneDay 39 = .ok (.aload_n 0, 1) := by decide +kernel
theorem dX11_oneDay_40 : decode cX11_oneDay 40 = .ok (.getfield 404, 3) := by decide +kernel
theorem dX11_oneDay_43 : decode cX11_oneDay 43 = .ok (.ifCond .eq 11, 3) := by decide +kernel
theorem dX11_oneDay_46 : decode cX11_oneDay 46 = .ok (.iload_n 1, 1) := by decide +kernel
theorem dX11_oneDay_47 : decode cX11_oneDay 47 = .ok (.ifCond .ne 7, 3) := by decide +kernel
theorem dX11_oneDay_50 : decode cX11_oneDay 50 = .ok (.iconst 1, 1) := by decide +kernel
theorem dX11_oneDay_51 : decode cX11_oneDay 51 = .ok (.goto 4, 3) := by decide +kernel
theorem dX11_oneDay_54 : decode cX11_oneDay 54 = .ok (.iconst 0, 1) := by decide +kernel
theorem dX11_oneDay_55 : decode cX11_oneDay 55 = .ok (.iadd, 1) := by decide +kernel
theorem dX11_oneDay_56 : decode cX11_oneDay 56 = .ok (.putfield 417, 3) := by decide +kernel
theorem dX11_oneDay_59 : decode cX11_oneDay 59 = .ok (.iconst 0, 1) := by decide +kernel
theorem dX11_oneDay_60 : decode cX11_oneDay 60 = .ok (.istore_n 2, 1) := by decide +kernel
theorem dX11_oneDay_61 : decode cX11_oneDay 61 = .ok (.iload_n 2, 1) := by decide +kernel
theorem dX11_oneDay_62 : decode cX11_oneDay 62 = .ok (.aload_n 0, 1) := by decide +kernel
theorem dX11_oneDay_63 : decode cX11_oneDay 63 = .ok (.getfield 173, 3) := by decide +kernel
theorem dX11_oneDay_66 : decode cX11_oneDay 66 = .ok (.if_icmp .ge 40, 3) := by decide +kernel
theorem dX11_oneDay_69 : decode cX11_oneDay 69 = .ok (.aload_n 0, 1) := by decide +kernel
theorem dX11_oneDay_70 : decode cX11_oneDay 70 = .ok (.getfield 193, 3) := by decide +kernel
theorem dX11_oneDay_73 : decode cX11_oneDay 73 = .ok (.sipush 360, 3) := by decide +kernel
theorem dX11_oneDay_76 : decode cX11_oneDay 76 = .ok (.irem, 1) := by decide +kernel
theorem dX11_oneDay_77 : decode cX11_oneDay 77 = .ok (.ifCond .ne 29, 3) := by decide +kernel
theorem dX11_oneDay_80 : decode cX11_oneDay 80 = .ok (.aload_n 0, 1) := by decide +kernel
theorem dX11_oneDay_81 : decode cX11_oneDay 81 = .ok (.getfield 89, 3) := by decide +kernel
theorem dX11_oneDay_84 : decode cX11_oneDay 84 = .ok (.iload_n 2, 1) := by decide +kernel
theorem dX11_oneDay_85 : decode cX11_oneDay 85 = .ok (.sipush 400, 3) := by decide +kernel
theorem dX11_oneDay_88 : decode cX11_oneDay 88 = .ok (.aload_n 0, 1) := by decide +kernel
theorem dX11_oneDay_89 : decode cX11_oneDay 89 = .ok (.getfield 89, 3) := by decide +kernel
theorem dX11_oneDay_92 : decode cX11_oneDay 92 = .ok (.iload_n 2, 1) := by decide +kernel
theorem dX11_oneDay_93 : decode cX11_oneDay 93 = .ok (.iaload, 1) := by decide +kernel
theorem dX11_oneDay_94 : decode cX11_oneDay 94 = .ok (.iconst 1, 1) := by decide +kernel
theorem dX11_oneDay_95 : decode cX11_oneDay 95 = .ok (.iadd, 1) := by decide +kernel
theorem dX11_oneDay_96 : decode cX11_oneDay 96 = .ok (.invokestatic 345, 3) := by decide +kernel
theorem dX11_oneDay_99 : decode cX11_oneDay 99 = .ok (.iastore, 1) := by decide +kernel
theorem dX11_oneDay_100 : decode cX11_oneDay 100 = .ok (.iinc 2 1, 3) := by decide +kernel
theorem dX11_oneDay_103 : decode cX11_oneDay 103 = .ok (.goto (-42), 3) := by decide +kernel
theorem dX11_oneDay_106 : decode cX11_oneDay 106 = .ok (.aload_n 0, 1) := by decide +kernel
theorem dX11_oneDay_107 : decode cX11_oneDay 107 = .ok (.dup, 1) := by decide +kernel
theorem dX11_oneDay_108 : decode cX11_oneDay 108 = .ok (.getfield 193, 3) := by decide +kernel
theorem dX11_oneDay_111 : decode cX11_oneDay 111 = .ok (.iconst 1, 1) := by decide +kernel
theorem dX11_oneDay_112 : decode cX11_oneDay 112 = .ok (.iadd, 1) := by decide +kernel
theorem dX11_oneDay_113 : decode cX11_oneDay 113 = .ok (.putfield 193, 3) := by decide +kernel
theorem dX11_oneDay_116 : decode cX11_oneDay 116 = .ok (.return_, 1) := by decide +kernel
theorem dX11_days_0 : decode cX11_days 0 = .ok (.iload_n 1, 1) := by decide +kernel
theorem dX11_days_1 : decode cX11_days 1 = .ok (.iconst 1, 1) := by decide +kernel
theorem dX11_days_2 : decode cX11_days 2 = .ok (.bipush 120, 2) := by decide +kernel
theorem dX11_days_4 : decode cX11_days 4 = .ok (.invokestatic 163, 3) := by decide +kernel
theorem dX11_days_7 : decode cX11_days 7 = .ok (.ifCond .eq 15, 3) := by decide +kernel
theorem dX11_days_10 : decode cX11_days 10 = .ok (.aload_n 0, 1) := by decide +kernel
theorem dX11_days_11 : decode cX11_days 11 = .ok (.getfield 193, 3) := by decide +kernel
theorem dX11_days_14 : decode cX11_days 14 = .ok (.iload_n 1, 1) := by decide +kernel
theorem dX11_days_15 : decode cX11_days 15 = .ok (.iadd, 1) := by decide +kernel
theorem dX11_days_16 : decode cX11_days 16 = .ok (.sipush 7199, 3) := by decide +kernel
theorem dX11_days_19 : decode cX11_days 19 = .ok (.if_icmp .le 6, 3) := by decide +kernel
theorem dX11_days_22 : decode cX11_days 22 = .ok (.bipush (-2), 2) := by decide +kernel
theorem dX11_days_24 : decode cX11_days 24 = .ok (.ireturn, 1) := by decide +kernel
theorem dX11_days_25 : decode cX11_days 25 = .ok (.iconst 0, 1) := by decide +kernel
theorem dX11_days_26 : decode cX11_days 26 = .ok (.istore_n 2, 1) := by decide +kernel
theorem dX11_days_27 : decode cX11_days 27 = .ok (.iload_n 2, 1) := by decide +kernel
theorem dX11_days_28 : decode cX11_days 28 = .ok (.iload_n 1, 1) := by decide +kernel
theorem dX11_days_29 : decode cX11_days 29 = .ok (.if_icmp .ge 13, 3) := by decide +kernel
theorem dX11_days_32 : decode cX11_days 32 = .ok (.aload_n 0, 1) := by decide +kernel
theorem dX11_days_33 : decode cX11_days 33 = .ok (.invokevirtual 420, 3) := by decide +kernel
theorem dX11_days_36 : decode cX11_days 36 = .ok (.iinc 2 1, 3) := by decide +kernel
theorem dX11_days_39 : decode cX11_days 39 = .ok (.goto (-12), 3) := by decide +kernel
theorem dX11_days_42 : decode cX11_days 42 = .ok (.aload_n 0, 1) := by decide +kernel
theorem dX11_days_43 : decode cX11_days 43 = .ok (.getfield 193, 3) := by decide +kernel
theorem dX11_days_46 : decode cX11_days 46 = .ok (.ireturn, 1) := by decide +kernel
theorem dX11_slope_0 : decode cX11_slope 0 = .ok (.iload_n 1, 1) := by decide +kernel
theorem dX11_slope_1 : decode cX11_slope 1 = .ok (.iconst 0, 1) := by decide +kernel
theorem dX11_slope_2 : decode cX11_slope 2 = .ok (.sipush 400, 3) := by decide +kernel
theorem dX11_slope_5 : decode cX11_slope 5 = .ok (.invokestatic 163, 3) := by decide +kernel
theorem dX11_slope_8 : decode cX11_slope 8 = .ok (.ifCond .ne 6, 3) := by decide +kernel
theorem dX11_slope_11 : decode cX11_slope 11 = .ok (.bipush (-2), 2) := by decide +kernel
theorem dX11_slope_13 : decode cX11_slope 13 = .ok (.ireturn, 1) := by decide +kernel
theorem dX11_slope_14 : decode cX11_slope 14 = .ok (.aload_n 0, 1) := by decide +kernel
theorem dX11_slope_15 : decode cX11_slope 15 = .ok (.getfield 173, 3) := by decide +kernel
theorem dX11_slope_18 : decode cX11_slope 18 = .ok (.bipush 6, 2) := by decide +kernel
theorem dX11_slope_20 : decode cX11_slope 20 = .ok (.if_icmp .ne 6, 3) := by decide +kernel
theorem dX11_slope_23 : decode cX11_slope 23 = .ok (.bipush (-4), 2) := by decide +kernel
theorem dX11_slope_25 : decode cX11_slope 25 = .ok (.ireturn, 1) := by decide +kernel
theorem dX11_slope_26 : decode cX11_slope 26 = .ok (.aload_n 0, 1) := by decide +kernel
theorem dX11_slope_27 : decode cX11_slope 27 = .ok (.getfield 89, 3) := by decide +kernel
theorem dX11_slope_30 : decode cX11_slope 30 = .ok (.aload_n 0, 1) := by decide +kernel
theorem dX11_slope_31 : decode cX11_slope 31 = .ok (.getfield 173, 3) := by decide +kernel
theorem dX11_slope_34 : decode cX11_slope 34 = .ok (.iload_n 1, 1) := by decide +kernel
theorem dX11_slope_35 : decode cX11_slope 35 = .ok (.iastore, 1) := by decide +kernel
theorem dX11_slope_36 : decode cX11_slope 36 = .ok (.aload_n 0, 1) := by decide +kernel
theorem dX11_slope_37 : decode cX11_slope 37 = .ok (.dup, 1) := by decide +kernel
theorem dX11_slope_38 : decode cX11_slope 38 = .ok (.getfield 173, 3) := by decide +kernel
theorem dX11_slope_41 : decode cX11_slope 41 = .ok (.dup_x1, 1) := by decide +kernel
theorem dX11_slope_42 : decode cX11_slope 42 = .ok (.iconst 1, 1) := by decide +kernel
theorem dX11_slope_43 : decode cX11_slope 43 = .ok (.iadd, 1) := by decide +kernel
theorem dX11_slope_44 : decode cX11_slope 44 = .ok (.putfield 173, 3) := by decide +kernel
theorem dX11_slope_47 : decode cX11_slope 47 = .ok (.ireturn, 1) := by decide +kernel
theorem dX11_slopeOf_0 : decode cX11_slopeOf 0 = .ok (.aload_n 0, 1) := by decide +kernel
theorem dX11_slopeOf_1 : decode cX11_slopeOf 1 = .ok (.iload_n 1, 1) := by decide +kernel
theorem dX11_slopeOf_2 : decode cX11_slopeOf 2 = .ok (.invokevirtual 423, 3) := by decide +kernel
theorem dX11_slopeOf_5 : decode cX11_slopeOf 5 = .ok (.ifCond .ne 7, 3) := by decide +kernel
theorem dX11_slopeOf_8 : decode cX11_slopeOf 8 = .ok (.sipush (-500), 3) := by decide +kernel
theorem dX11_slopeOf_11 : decode cX11_slopeOf 11 = .ok (.ireturn, 1) := by decide +kernel
theorem dX11_slopeOf_12 : decode cX11_slopeOf 12 = .ok (.iload_n 2, 1) := by decide +kernel
theorem dX11_slopeOf_13 : decode cX11_slopeOf 13 = .ok (.tableswitch 110 0 6 #[43, 50, 65, 72, 79, 91, 103], 43) := by decide +kernel
theorem dX11_slopeOf_56 : decode cX11_slopeOf 56 = .ok (.aload_n 0, 1) := by decide +kernel
theorem dX11_slopeOf_57 : decode cX11_slopeOf 57 = .ok (.getfield 89, 3) := by decide +kernel
theorem dX11_slopeOf_60 : decode cX11_slopeOf 60 = .ok (.iload_n 1, 1) := by decide +kernel
theorem dX11_slopeOf_61 : decode cX11_slopeOf 61 = .ok (.iaload, 1) := by decide +kernel
theorem dX11_slopeOf_62 : decode cX11_slopeOf 62 = .ok (.ireturn, 1) := by decide +kernel
theorem dX11_slopeOf_63 : decode cX11_slopeOf 63 = .ok (.aload_n 0, 1) := by decide +kernel
theorem dX11_slopeOf_64 : decode cX11_slopeOf 64 = .ok (.getfield 92, 3) := by decide +kernel
theorem dX11_slopeOf_67 : decode cX11_slopeOf 67 = .ok (.iload_n 1, 1) := by decide +kernel
theorem dX11_slopeOf_68 : decode cX11_slopeOf 68 = .ok (.baload, 1) := by decide +kernel
theorem dX11_slopeOf_69 : decode cX11_slopeOf 69 = .ok (.ifCond .eq 7, 3) := by decide +kernel
theorem dX11_slopeOf_72 : decode cX11_slopeOf 72 = .ok (.iconst 1, 1) := by decide +kernel
theorem dX11_slopeOf_73 : decode cX11_slopeOf 73 = .ok (.goto 4, 3) := by decide +kernel
theorem dX11_slopeOf_76 : decode cX11_slopeOf 76 = .ok (.iconst 0, 1) := by decide +kernel
theorem dX11_slopeOf_77 : decode cX11_slopeOf 77 = .ok (.ireturn, 1) := by decide +kernel
theorem dX11_slopeOf_78 : decode cX11_slopeOf 78 = .ok (.aload_n 0, 1) := by decide +kernel
theorem dX11_slopeOf_79 : decode cX11_slopeOf 79 = .ok (.getfield 96, 3) := by decide +kernel
theorem dX11_slopeOf_82 : decode cX11_slopeOf 82 = .ok (.iload_n 1, 1) := by decide +kernel
theorem dX11_slopeOf_83 : decode cX11_slopeOf 83 = .ok (.iaload, 1) := by decide +kernel
theorem dX11_slopeOf_84 : decode cX11_slopeOf 84 = .ok (.ireturn, 1) := by decide +kernel
theorem dX11_slopeOf_85 : decode cX11_slopeOf 85 = .ok (.aload_n 0, 1) := by decide +kernel
theorem dX11_slopeOf_86 : decode cX11_slopeOf 86 = .ok (.iload_n 1, 1) := by decide +kernel
theorem dX11_slopeOf_87 : decode cX11_slopeOf 87 = .ok (.iconst (-1), 1) := by decide +kernel
theorem dX11_slopeOf_88 : decode cX11_slopeOf 88 = .ok (.invokevirtual 388, 3) := by decide +kernel
theorem dX11_slopeOf_91 : decode cX11_slopeOf 91 = .ok (.ireturn, 1) := by decide +kernel
theorem dX11_slopeOf_92 : decode cX11_slopeOf 92 = .ok (.aload_n 0, 1) := by decide +kernel
theorem dX11_slopeOf_93 : decode cX11_slopeOf 93 = .ok (.iload_n 1, 1) := by decide +kernel
theorem dX11_slopeOf_94 : decode cX11_slopeOf 94 = .ok (.aload_n 0, 1) := by decide +kernel
theorem dX11_slopeOf_95 : decode cX11_slopeOf 95 = .ok (.getfield 89, 3) := by decide +kernel
theorem dX11_slopeOf_98 : decode cX11_slopeOf 98 = .ok (.iload_n 1, 1) := by decide +kernel
theorem dX11_slopeOf_99 : decode cX11_slopeOf 99 = .ok (.iaload, 1) := by decide +kernel
theorem dX11_slopeOf_100 : decode cX11_slopeOf 100 = .ok (.invokevirtual 426, 3) := by decide +kernel
theorem dX11_slopeOf_103 : decode cX11_slopeOf 103 = .ok (.ireturn, 1) := by decide +kernel
theorem dX11_slopeOf_104 : decode cX11_slopeOf 104 = .ok (.aload_n 0, 1) := by decide +kernel
theorem dX11_slopeOf_105 : decode cX11_slopeOf 105 = .ok (.iload_n 1, 1) := by decide +kernel
theorem dX11_slopeOf_106 : decode cX11_slopeOf 106 = .ok (.aload_n 0, 1) := by decide +kernel
theorem dX11_slopeOf_107 : decode cX11_slopeOf 107 = .ok (.getfield 89, 3) := by decide +kernel
theorem dX11_slopeOf_110 : decode cX11_slopeOf 110 = .ok (.iload_n 1, 1) := by decide +kernel
theorem dX11_slopeOf_111 : decode cX11_slopeOf 111 = .ok (.iaload, 1) := by decide +kernel
theorem dX11_slopeOf_112 : decode cX11_slopeOf 112 = .ok (.invokevirtual 391, 3) := by decide +kernel
theorem dX11_slopeOf_115 : decode cX11_slopeOf 115 = .ok (.ireturn, 1) := by decide +kernel
theorem dX11_slopeOf_116 : decode cX11_slopeOf 116 = .ok (.aload_n 0, 1) := by decide +kernel
theorem dX11_slopeOf_117 : decode cX11_slopeOf 117 = .ok (.getfield 105, 3) := by decide +kernel
theorem dX11_slopeOf_120 : decode cX11_slopeOf 120 = .ok (.iload_n 1, 1) := by decide +kernel
theorem dX11_slopeOf_121 : decode cX11_slopeOf 121 = .ok (.iaload, 1) := by decide +kernel
theorem dX11_slopeOf_122 : decode cX11_slopeOf 122 = .ok (.ireturn, 1) := by decide +kernel
theorem dX11_slopeOf_123 : decode cX11_slopeOf 123 = .ok (.iload_n 2, 1) := by decide +kernel
theorem dX11_slopeOf_124 : decode cX11_slopeOf 124 = .ok (.bipush 10, 2) := by decide +kernel
theorem dX11_slopeOf_126 : decode cX11_slopeOf 126 = .ok (.if_icmp .lt 16, 3) := by decide +kernel
theorem dX11_slopeOf_129 : decode cX11_slopeOf 129 = .ok (.iload_n 2, 1) := by decide +kernel
theorem dX11_slopeOf_130 : decode cX11_slopeOf 130 = .ok (.bipush 10, 2) := by decide +kernel
theorem dX11_slopeOf_132 : decode cX11_slopeOf 132 = .ok (.isub, 1) := by decide +kernel
theorem dX11_slopeOf_133 : decode cX11_slopeOf 133 = .ok (.aload_n 0, 1) := by decide +kernel
theorem dX11_slopeOf_134 : decode cX11_slopeOf 134 = .ok (.getfield 96, 3) := by decide +kernel
theorem dX11_slopeOf_137 : decode cX11_slopeOf 137 = .ok (.iload_n 1, 1) := by decide +kernel
theorem dX11_slopeOf_138 : decode cX11_slopeOf 138 = .ok (.iaload, 1) := by decide +kernel
theorem dX11_slopeOf_139 : decode cX11_slopeOf 139 = .ok (.if_icmp .lt 7, 3) := by decide +kernel
theorem dX11_slopeOf_142 : decode cX11_slopeOf 142 = .ok (.sipush (-500), 3) := by decide +kernel
theorem dX11_slopeOf_145 : decode cX11_slopeOf 145 = .ok (.ireturn, 1) := by decide +kernel
theorem dX11_slopeOf_146 : decode cX11_slopeOf 146 = .ok (.aload_n 0, 1) := by decide +kernel
theorem dX11_slopeOf_147 : decode cX11_slopeOf 147 = .ok (.getfield 102, 3) := by decide +kernel
theorem dX11_slopeOf_150 : decode cX11_slopeOf 150 = .ok (.iload_n 1, 1) := by decide +kernel
theorem dX11_slopeOf_151 : decode cX11_slopeOf 151 = .ok (.aaload, 1) := by decide +kernel
theorem dX11_slopeOf_152 : decode cX11_slopeOf 152 = .ok (.iload_n 2, 1) := by decide +kernel
theorem dX11_slopeOf_153 : decode cX11_slopeOf 153 = .ok (.bipush 10, 2) := by decide +kernel
theorem dX11_slopeOf_155 : decode cX11_slopeOf 155 = .ok (.isub, 1) := by decide +kernel
theorem dX11_slopeOf_156 : decode cX11_slopeOf 156 = .ok (.baload, 1) := by decide +kernel
theorem dX11_slopeOf_157 : decode cX11_slopeOf 157 = .ok (.ifCond .eq 18, 3) := by decide +kernel
theorem dX11_slopeOf_160 : decode cX11_slopeOf 160 = .ok (.aload_n 0, 1) := by decide +kernel
theorem dX11_slopeOf_161 : decode cX11_slopeOf 161 = .ok (.getfield 99, 3) := by decide +kernel
theorem dX11_slopeOf_164 : decode cX11_slopeOf 164 = .ok (.iload_n 1, 1) := by decide +kernel
theorem dX11_slopeOf_165 : decode cX11_slopeOf 165 = .ok (.aaload, 1) := by decide +kernel
theorem dX11_slopeOf_166 : decode cX11_slopeOf 166 = .ok (.iload_n 2, 1) := by decide +kernel
theorem dX11_slopeOf_167 : decode cX11_slopeOf 167 = .ok (.bipush 10, 2) := by decide +kernel
theorem dX11_slopeOf_169 : decode cX11_slopeOf 169 = .ok (.isub, 1) := by decide +kernel
theorem dX11_slopeOf_170 : decode cX11_slopeOf 170 = .ok (.iaload, 1) := by decide +kernel
theorem dX11_slopeOf_171 : decode cX11_slopeOf 171 = .ok (.ineg, 1) := by decide +kernel
theorem dX11_slopeOf_172 : decode cX11_slopeOf 172 = .ok (.goto 14, 3) := by decide +kernel
theorem dX11_slopeOf_175 : decode cX11_slopeOf 175 = .ok (.aload_n 0, 1) := by decide +kernel
theorem dX11_slopeOf_176 : decode cX11_slopeOf 176 = .ok (.getfield 99, 3) := by decide +kernel
theorem dX11_slopeOf_179 : decode cX11_slopeOf 179 = .ok (.iload_n 1, 1) := by decide +kernel
theorem dX11_slopeOf_180 : decode cX11_slopeOf 180 = .ok (.aaload, 1) := by decide +kernel
theorem dX11_slopeOf_181 : decode cX11_slopeOf 181 = .ok (.iload_n 2, 1) := by decide +kernel
theorem dX11_slopeOf_182 : decode cX11_slopeOf 182 = .ok (.bipush 10, 2) := by decide +kernel
theorem dX11_slopeOf_184 : decode cX11_slopeOf 184 = .ok (.isub, 1) := by decide +kernel
theorem dX11_slopeOf_185 : decode cX11_slopeOf 185 = .ok (.iaload, 1) := by decide +kernel
theorem dX11_slopeOf_186 : decode cX11_slopeOf 186 = .ok (.ireturn, 1) := by decide +kernel
theorem dX11_works_0 : decode cX11_works 0 = .ok (.aload_n 0, 1) := by decide +kernel
theorem dX11_works_1 : decode cX11_works 1 = .ok (.iload_n 1, 1) := by decide +kernel
theorem dX11_works_2 : decode cX11_works 2 = .ok (.invokevirtual 423, 3) := by decide +kernel
theorem dX11_works_5 : decode cX11_works 5 = .ok (.ifCond .ne 5, 3) := by decide +kernel
theorem dX11_works_8 : decode cX11_works 8 = .ok (.iconst (-1), 1) := by decide +kernel
theorem dX11_works_9 : decode cX11_works 9 = .ok (.ireturn, 1) := by decide +kernel
theorem dX11_works_10 : decode cX11_works 10 = .ok (.aload_n 0, 1) := by decide +kernel
theorem dX11_works_11 : decode cX11_works 11 = .ok (.getfield 92, 3) := by decide +kernel
theorem dX11_works_14 : decode cX11_works 14 = .ok (.iload_n 1, 1) := by decide +kernel
theorem dX11_works_15 : decode cX11_works 15 = .ok (.baload, 1) := by decide +kernel
theorem dX11_works_16 : decode cX11_works 16 = .ok (.istore_n 3, 1) := by decide +kernel
theorem dX11_works_17 : decode cX11_works 17 = .ok (.aload_n 0, 1) := by decide +kernel
theorem dX11_works_18 : decode cX11_works 18 = .ok (.getfield 92, 3) := by decide +kernel
theorem dX11_works_21 : decode cX11_works 21 = .ok (.iload_n 1, 1) := by decide +kernel
theorem dX11_works_22 : decode cX11_works 22 = .ok (.iload_n 2, 1) := by decide +kernel
theorem dX11_works_23 : decode cX11_works 23 = .ok (.bastore, 1) := by decide +kernel
theorem dX11_works_24 : decode cX11_works 24 = .ok (.iload_n 3, 1) := by decide +kernel
theorem dX11_works_25 : decode cX11_works 25 = .ok (.iload_n 2, 1) := by decide +kernel
theorem dX11_works_26 : decode cX11_works 26 = .ok (.if_icmp .eq 7, 3) := by decide +kernel
theorem dX11_works_29 : decode cX11_works 29 = .ok (.iconst 1, 1) := by decide +kernel
theorem dX11_works_30 : decode cX11_works 30 = .ok (.goto 4, 3) := by decide +kernel
theorem dX11_works_33 : decode cX11_works 33 = .ok (.iconst 0, 1) := by decide +kernel
theorem dX11_works_34 : decode cX11_works 34 = .ok (.ireturn, 1) := by decide +kernel
theorem dX11_shut_0 : decode cX11_shut 0 = .ok (.aload_n 0, 1) := by decide +kernel
theorem dX11_shut_1 : decode cX11_shut 1 = .ok (.getfield 404, 3) := by decide +kernel
theorem dX11_shut_4 : decode cX11_shut 4 = .ok (.istore_n 2, 1) := by decide +kernel
theorem dX11_shut_5 : decode cX11_shut 5 = .ok (.aload_n 0, 1) := by decide +kernel
theorem dX11_shut_6 : decode cX11_shut 6 = .ok (.iload_n 1, 1) := by decide +kernel
theorem dX11_shut_7 : decode cX11_shut 7 = .ok (.putfield 404, 3) := by decide +kernel
theorem dX11_shut_10 : decode cX11_shut 10 = .ok (.iload_n 2, 1) := by decide +kernel
theorem dX11_shut_11 : decode cX11_shut 11 = .ok (.iload_n 1, 1) := by decide +kernel
theorem dX11_shut_12 : decode cX11_shut 12 = .ok (.if_icmp .eq 7, 3) := by decide +kernel
theorem dX11_shut_15 : decode cX11_shut 15 = .ok (.iconst 1, 1) := by decide +kernel
theorem dX11_shut_16 : decode cX11_shut 16 = .ok (.goto 4, 3) := by decide +kernel
theorem dX11_shut_19 : decode cX11_shut 19 = .ok (.iconst 0, 1) := by decide +kernel
theorem dX11_shut_20 : decode cX11_shut 20 = .ok (.ireturn, 1) := by decide +kernel
theorem dX11_measure_0 : decode cX11_measure 0 = .ok (.aload_n 0, 1) := by decide +kernel
theorem dX11_measure_1 : decode cX11_measure 1 = .ok (.getfield 193, 3) := by decide +kernel
theorem dX11_measure_4 : decode cX11_measure 4 = .ok (.ifCond .eq 14, 3) := by decide +kernel
theorem dX11_measure_7 : decode cX11_measure 7 = .ok (.aload_n 0, 1) := by decide +kernel
theorem dX11_measure_8 : decode cX11_measure 8 = .ok (.getfield 108, 3) := by decide +kernel
theorem dX11_measure_11 : decode cX11_measure 11 = .ok (.aload_n 0, 1) := by decide +kernel
theorem dX11_measure_12 : decode cX11_measure 12 = .ok (.getfield 193, 3) := by decide +kernel
theorem dX11_measure_15 : decode cX11_measure 15 = .ok (.if_icmp .ne 6, 3) := by decide +kernel
theorem dX11_measure_18 : decode cX11_measure 18 = .ok (.bipush (-3), 2) := by decide +kernel
theorem dX11_measure_20 : decode cX11_measure 20 = .ok (.ireturn, 1) := by decide +kernel
theorem dX11_measure_21 : decode cX11_measure 21 = .ok (.aload_n 0, 1) := by decide +kernel
theorem dX11_measure_22 : decode cX11_measure 22 = .ok (.aload_n 0, 1) := by decide +kernel
theorem dX11_measure_23 : decode cX11_measure 23 = .ok (.getfield 193, 3) := by decide +kernel
theorem dX11_measure_26 : decode cX11_measure 26 = .ok (.putfield 108, 3) := by decide +kernel
theorem dX11_measure_29 : decode cX11_measure 29 = .ok (.iconst 0, 1) := by decide +kernel
theorem dX11_measure_30 : decode cX11_measure 30 = .ok (.istore_n 1, 1) := by decide +kernel
theorem dX11_measure_31 : decode cX11_measure 31 = .ok (.iconst 0, 1) := by decide +kernel
theorem dX11_measure_32 : decode cX11_measure 32 = .ok (.istore_n 2, 1) := by decide +kernel
theorem dX11_measure_33 : decode cX11_measure 33 = .ok (.iload_n 2, 1) := by decide +kernel
theorem dX11_measure_34 : decode cX11_measure 34 = .ok (.aload_n 0, 1) := by decide +kernel
theorem dX11_measure_35 : decode cX11_measure 35 = .ok (.getfield 160, 3) := by decide +kernel
theorem dX11_measure_38 : decode cX11_measure 38 = .ok (.if_icmp .ge 33, 3) := by decide +kernel
theorem dX11_measure_41 : decode cX11_measure 41 = .ok (.aload_n 0, 1) := by decide +kernel
theorem dX11_measure_42 : decode cX11_measure 42 = .ok (.getfield 21, 3) := by decide +kernel
theorem dX11_measure_45 : decode cX11_measure 45 = .ok (.iload_n 2, 1) := by decide +kernel
theorem dX11_measure_46 : decode cX11_measure 46 = .ok (.dup2, 1) := by decide +kernel
theorem dX11_measure_47 : decode cX11_measure 47 = .ok (.iaload, 1) := by decide +kernel
theorem dX11_measure_48 : decode cX11_measure 48 = .ok (.aload_n 0, 1) := by decide +kernel
theorem dX11_measure_49 : decode cX11_measure 49 = .ok (.getfield 18, 3) := by decide +kernel
theorem dX11_measure_52 : decode cX11_measure 52 = .ok (.iload_n 2, 1) := by decide +kernel
theorem dX11_measure_53 : decode cX11_measure 53 = .ok (.iaload, 1) := by decide +kernel
theorem dX11_measure_54 : decode cX11_measure 54 = .ok (.iadd, 1) := by decide +kernel
theorem dX11_measure_55 : decode cX11_measure 55 = .ok (.iastore, 1) := by decide +kernel
theorem dX11_measure_56 : decode cX11_measure 56 = .ok (.iload_n 1, 1) := by decide +kernel
theorem dX11_measure_57 : decode cX11_measure 57 = .ok (.aload_n 0, 1) := by decide +kernel
theorem dX11_measure_58 : decode cX11_measure 58 = .ok (.getfield 18, 3) := by decide +kernel
theorem dX11_measure_61 : decode cX11_measure 61 = .ok (.iload_n 2, 1) := by decide +kernel
theorem dX11_measure_62 : decode cX11_measure 62 = .ok (.iaload, 1) := by decide +kernel
theorem dX11_measure_63 : decode cX11_measure 63 = .ok (.iadd, 1) := by decide +kernel
theorem dX11_measure_64 : decode cX11_measure 64 = .ok (.istore_n 1, 1) := by decide +kernel
theorem dX11_measure_65 : decode cX11_measure 65 = .ok (.iinc 2 1, 3) := by decide +kernel
theorem dX11_measure_68 : decode cX11_measure 68 = .ok (.goto (-35), 3) := by decide +kernel
theorem dX11_measure_71 : decode cX11_measure 71 = .ok (.iload_n 1, 1) := by decide +kernel
theorem dX11_measure_72 : decode cX11_measure 72 = .ok (.ireturn, 1) := by decide +kernel
theorem dX11_next_0 : decode cX11_next 0 = .ok (.iconst (-1), 1) := by decide +kernel
theorem dX11_next_1 : decode cX11_next 1 = .ok (.istore_n 2, 1) := by decide +kernel
theorem dX11_next_2 : decode cX11_next 2 = .ok (.iconst 0, 1) := by decide +kernel
theorem dX11_next_3 : decode cX11_next 3 = .ok (.istore_n 3, 1) := by decide +kernel
theorem dX11_next_4 : decode cX11_next 4 = .ok (.iload_n 3, 1) := by decide +kernel
theorem dX11_next_5 : decode cX11_next 5 = .ok (.aload_n 0, 1) := by decide +kernel
theorem dX11_next_6 : decode cX11_next 6 = .ok (.getfield 160, 3) := by decide +kernel
theorem dX11_next_9 : decode cX11_next 9 = .ok (.if_icmp .ge 68, 3) := by decide +kernel
theorem dX11_next_12 : decode cX11_next 12 = .ok (.iload_n 1, 1) := by decide +kernel
theorem dX11_next_13 : decode cX11_next 13 = .ok (.ifCond .ne 15, 3) := by decide +kernel
theorem dX11_next_16 : decode cX11_next 16 = .ok (.aload_n 0, 1) := by decide +kernel
theorem dX11_next_17 : decode cX11_next 17 = .ok (.getfield 142, 3) := by decide +kernel
theorem dX11_next_20 : decode cX11_next 20 = .ok (.iload_n 3, 1) := by decide +kernel
theorem dX11_next_21 : decode cX11_next 21 = .ok (.iaload, 1) := by decide +kernel
theorem dX11_next_22 : decode cX11_next 22 = .ok (.ifCond .ne 6, 3) := by decide +kernel
theorem dX11_next_25 : decode cX11_next 25 = .ok (.goto 46, 3) := by decide +kernel
theorem dX11_next_28 : decode cX11_next 28 = .ok (.iload_n 2, 1) := by decide +kernel
theorem dX11_next_29 : decode cX11_next 29 = .ok (.ifCond .lt 40, 3) := by decide +kernel
theorem dX11_next_32 : decode cX11_next 32 = .ok (.iload_n 1, 1) := by decide +kernel
theorem dX11_next_33 : decode cX11_next 33 = .ok (.ifCond .eq 21, 3) := by decide +kernel
theorem dX11_next_36 : decode cX11_next 36 = .ok (.aload_n 0, 1) := by decide +kernel
theorem dX11_next_37 : decode cX11_next 37 = .ok (.getfield 24, 3) := by decide +kernel
theorem dX11_next_40 : decode cX11_next 40 = .ok (.iload_n 3, 1) := by decide +kernel
theorem dX11_next_41 : decode cX11_next 41 = .ok (.iaload, 1) := by decide +kernel
theorem dX11_next_42 : decode cX11_next 42 = .ok (.aload_n 0, 1) := by decide +kernel
theorem dX11_next_43 : decode cX11_next 43 = .ok (.getfield 24, 3) := by decide +kernel
theorem dX11_next_46 : decode cX11_next 46 = .ok (.iload_n 2, 1) := by decide +kernel
theorem dX11_next_47 : decode cX11_next 47 = .ok (.iaload, 1) := by decide +kernel
theorem dX11_next_48 : decode cX11_next 48 = .ok (.if_icmp .le 23, 3) := by decide +kernel
theorem dX11_next_51 : decode cX11_next 51 = .ok (.goto 18, 3) := by decide +kernel
theorem dX11_next_54 : decode cX11_next 54 = .ok (.aload_n 0, 1) := by decide +kernel
theorem dX11_next_55 : decode cX11_next 55 = .ok (.getfield 24, 3) := by decide +kernel
theorem dX11_next_58 : decode cX11_next 58 = .ok (.iload_n 3, 1) := by decide +kernel
theorem dX11_next_59 : decode cX11_next 59 = .ok (.iaload, 1) := by decide +kernel
theorem dX11_next_60 : decode cX11_next 60 = .ok (.aload_n 0, 1) := by decide +kernel
theorem dX11_next_61 : decode cX11_next 61 = .ok (.getfield 24, 3) := by decide +kernel
theorem dX11_next_64 : decode cX11_next 64 = .ok (.iload_n 2, 1) := by decide +kernel
theorem dX11_next_65 : decode cX11_next 65 = .ok (.iaload, 1) := by decide +kernel
theorem dX11_next_66 : decode cX11_next 66 = .ok (.if_icmp .ge 5, 3) := by decide +kernel
theorem dX11_next_69 : decode cX11_next 69 = .ok (.iload_n 3, 1) := by decide +kernel
theorem dX11_next_70 : decode cX11_next 70 = .ok (.istore_n 2, 1) := by decide +kernel
theorem dX11_next_71 : decode cX11_next 71 = .ok (.iinc 3 1, 3) := by decide +kernel
theorem dX11_next_74 : decode cX11_next 74 = .ok (.goto (-70), 3) := by decide +kernel
theorem dX11_next_77 : decode cX11_next 77 = .ok (.iload_n 2, 1) := by decide +kernel
theorem dX11_next_78 : decode cX11_next 78 = .ok (.ireturn, 1) := by decide +kernel
theorem dX11_cheese_0 : decode cX11_cheese 0 = .ok (.iload_n 1, 1) := by decide +kernel
theorem dX11_cheese_1 : decode cX11_cheese 1 = .ok (.iconst 0, 1) := by decide +kernel
theorem dX11_cheese_2 : decode cX11_cheese 2 = .ok (.sipush 9999, 3) := by decide +kernel
theorem dX11_cheese_5 : decode cX11_cheese 5 = .ok (.invokestatic 163, 3) := by decide +kernel
theorem dX11_cheese_8 : decode cX11_cheese 8 = .ok (.ifCond .ne 6, 3) := by decide +kernel
theorem dX11_cheese_11 : decode cX11_cheese 11 = .ok (.bipush (-2), 2) := by decide +kernel
theorem dX11_cheese_13 : decode cX11_cheese 13 = .ok (.ireturn, 1) := by decide +kernel
theorem dX11_cheese_14 : decode cX11_cheese 14 = .ok (.lconst 0, 1) := by decide +kernel
theorem dX11_cheese_15 : decode cX11_cheese 15 = .ok (.lstore_n 2, 1) := by decide +kernel
theorem dX11_cheese_16 : decode cX11_cheese 16 = .ok (.iconst 0, 1) := by decide +kernel
theorem dX11_cheese_17 : decode cX11_cheese 17 = .ok (.istore 4, 2) := by decide +kernel
theorem dX11_cheese_19 : decode cX11_cheese 19 = .ok (.iload 4, 2) := by decide +kernel
theorem dX11_cheese_21 : decode cX11_cheese 21 = .ok (.aload_n 0, 1) := by decide +kernel
theorem dX11_cheese_22 : decode cX11_cheese 22 = .ok (.getfield 160, 3) := by decide +kernel
theorem dX11_cheese_25 : decode cX11_cheese 25 = .ok (.if_icmp .ge 20, 3) := by decide +kernel
theorem dX11_cheese_28 : decode cX11_cheese 28 = .ok (.lload_n 2, 1) := by decide +kernel
theorem dX11_cheese_29 : decode cX11_cheese 29 = .ok (.aload_n 0, 1) := by decide +kernel
theorem dX11_cheese_30 : decode cX11_cheese 30 = .ok (.getfield 21, 3) := by decide +kernel
theorem dX11_cheese_33 : decode cX11_cheese 33 = .ok (.iload 4, 2) := by decide +kernel
theorem dX11_cheese_35 : decode cX11_cheese 35 = .ok (.iaload, 1) := by decide +kernel
theorem dX11_cheese_36 : decode cX11_cheese 36 = .ok (.i2l, 1) := by decide +kernel
theorem dX11_cheese_37 : decode cX11_cheese 37 = .ok (.ladd, 1) := by decide +kernel
theorem dX11_cheese_38 : decode cX11_cheese 38 = .ok (.lstore_n 2, 1) := by decide +kernel
theorem dX11_cheese_39 : decode cX11_cheese 39 = .ok (.iinc 4 1, 3) := by decide +kernel
theorem dX11_cheese_42 : decode cX11_cheese 42 = .ok (.goto (-23), 3) := by decide +kernel
theorem dX11_cheese_45 : decode cX11_cheese 45 = .ok (.lload_n 2, 1) := by decide +kernel
theorem dX11_cheese_46 : decode cX11_cheese 46 = .ok (.lconst 0, 1) := by decide +kernel
theorem dX11_cheese_47 : decode cX11_cheese 47 = .ok (.lcmp, 1) := by decide +kernel
theorem dX11_cheese_48 : decode cX11_cheese 48 = .ok (.ifCond .ne 5, 3) := by decide +kernel
theorem dX11_cheese_51 : decode cX11_cheese 51 = .ok (.iconst 0, 1) := by decide +kernel
theorem dX11_cheese_52 : decode cX11_cheese 52 = .ok (.ireturn, 1) := by decide +kernel
theorem dX11_cheese_53 : decode cX11_cheese 53 = .ok (.iconst 0, 1) := by decide +kernel
theorem dX11_cheese_54 : decode cX11_cheese 54 = .ok (.istore 4, 2) := by decide +kernel
theorem dX11_cheese_56 : decode cX11_cheese 56 = .ok (.iconst 0, 1) := by decide +kernel
theorem dX11_cheese_57 : decode cX11_cheese 57 = .ok (.istore 5, 2) := by decide +kernel
theorem dX11_cheese_59 : decode cX11_cheese 59 = .ok (.iload 5, 2) := by decide +kernel
theorem dX11_cheese_61 : decode cX11_cheese 61 = .ok (.aload_n 0, 1) := by decide +kernel
theorem dX11_cheese_62 : decode cX11_cheese 62 = .ok (.getfield 160, 3) := by decide +kernel
theorem dX11_cheese_65 : decode cX11_cheese 65 = .ok (.if_icmp .ge 97, 3) := by decide +kernel
theorem dX11_cheese_68 : decode cX11_cheese 68 = .ok (.iload_n 1, 1) := by decide +kernel
theorem dX11_cheese_69 : decode cX11_cheese 69 = .ok (.i2l, 1) := by decide +kernel
theorem dX11_cheese_70 : decode cX11_cheese 70 = .ok (.aload_n 0, 1) := by decide +kernel
theorem dX11_cheese_71 : decode cX11_cheese 71 = .ok (.getfield 21, 3) := by decide +kernel
theorem dX11_cheese_74 : decode cX11_cheese 74 = .ok (.iload 5, 2) := by decide +kernel
theorem dX11_cheese_76 : decode cX11_cheese 76 = .ok (.iaload, 1) := by decide +kernel
theorem dX11_cheese_77 : decode cX11_cheese 77 = .ok (.i2l, 1) := by decide +kernel
theorem dX11_cheese_78 : decode cX11_cheese 78 = .ok (.lmul, 1) := by decide +kernel
theorem dX11_cheese_79 : decode cX11_cheese 79 = .ok (.ldc2_w 429, 3) := by decide +kernel
theorem dX11_cheese_82 : decode cX11_cheese 82 = .ok (.lmul, 1) := by decide +kernel
theorem dX11_cheese_83 : decode cX11_cheese 83 = .ok (.lload_n 2, 1) := by decide +kernel
theorem dX11_cheese_84 : decode cX11_cheese 84 = .ok (.ldiv, 1) := by decide +kernel
theorem dX11_cheese_85 : decode cX11_cheese 85 = .ok (.aload_n 0, 1) := by decide +kernel
theorem dX11_cheese_86 : decode cX11_cheese 86 = .ok (.getfield 24, 3) := by decide +kernel
theorem dX11_cheese_89 : decode cX11_cheese 89 = .ok (.iload 5, 2) := by decide +kernel
theorem dX11_cheese_91 : decode cX11_cheese 91 = .ok (.iaload, 1) := by decide +kernel
theorem dX11_cheese_92 : decode cX11_cheese 92 = .ok (.i2l, 1) := by decide +kernel
theorem dX11_cheese_93 : decode cX11_cheese 93 = .ok (.ladd, 1) := by decide +kernel
theorem dX11_cheese_94 : decode cX11_cheese 94 = .ok (.lstore 6, 2) := by decide +kernel
theorem dX11_cheese_96 : decode cX11_cheese 96 = .ok (.aload_n 0, 1) := by decide +kernel
theorem dX11_cheese_97 : decode cX11_cheese 97 = .ok (.getfield 142, 3) := by decide +kernel
theorem dX11_cheese_100 : decode cX11_cheese 100 = .ok (.iload 5, 2) := by decide +kernel
theorem dX11_cheese_102 : decode cX11_cheese 102 = .ok (.lload 6, 2) := by decide +kernel
theorem dX11_cheese_104 : decode cX11_cheese 104 = .ok (.lconst 0, 1) := by decide +kernel
theorem dX11_cheese_105 : decode cX11_cheese 105 = .ok (.lcmp, 1) := by decide +kernel
theorem dX11_cheese_106 : decode cX11_cheese 106 = .ok (.ifCond .ge 7, 3) := by decide +kernel
theorem dX11_cheese_109 : decode cX11_cheese 109 = .ok (.iconst 0, 1) := by decide +kernel
theorem dX11_cheese_110 : decode cX11_cheese 110 = .ok (.goto 10, 3) := by decide +kernel
theorem dX11_cheese_113 : decode cX11_cheese 113 = .ok (.lload 6, 2) := by decide +kernel
theorem dX11_cheese_115 : decode cX11_cheese 115 = .ok (.ldc2_w 429, 3) := by decide +kernel
theorem dX11_cheese_118 : decode cX11_cheese 118 = .ok (.ldiv, 1) := by decide +kernel
theorem dX11_cheese_119 : decode cX11_cheese 119 = .ok (.l2i, 1) := by decide +kernel
theorem dX11_cheese_120 : decode cX11_cheese 120 = .ok (.iastore, 1) := by decide +kernel
theorem dX11_cheese_121 : decode cX11_cheese 121 = .ok (.aload_n 0, 1) := by decide +kernel
theorem dX11_cheese_122 : decode cX11_cheese 122 = .ok (.getfield 24, 3) := by decide +kernel
theorem dX11_cheese_125 : decode cX11_cheese 125 = .ok (.iload 5, 2) := by decide +kernel
theorem dX11_cheese_127 : decode cX11_cheese 127 = .ok (.lload 6, 2) := by decide +kernel
theorem dX11_cheese_129 : decode cX11_cheese 129 = .ok (.ldc2_w 429, 3) := by decide +kernel
theorem dX11_cheese_132 : decode cX11_cheese 132 = .ok (.aload_n 0, 1) := by decide +kernel
theorem dX11_cheese_133 : decode cX11_cheese 133 = .ok (.getfield 142, 3) := by decide +kernel
theorem dX11_cheese_136 : decode cX11_cheese 136 = .ok (.iload 5, 2) := by decide +kernel
theorem dX11_cheese_138 : decode cX11_cheese 138 = .ok (.iaload, 1) := by decide +kernel
theorem dX11_cheese_139 : decode cX11_cheese 139 = .ok (.i2l, 1) := by decide +kernel
theorem dX11_cheese_140 : decode cX11_cheese 140 = .ok (.lmul, 1) := by decide +kernel
theorem dX11_cheese_141 : decode cX11_cheese 141 = .ok (.lsub, 1) := by decide +kernel
theorem dX11_cheese_142 : decode cX11_cheese 142 = .ok (.l2i, 1) := by decide +kernel
theorem dX11_cheese_143 : decode cX11_cheese 143 = .ok (.iastore, 1) := by decide +kernel
theorem dX11_cheese_144 : decode cX11_cheese 144 = .ok (.iload 4, 2) := by decide +kernel
theorem dX11_cheese_146 : decode cX11_cheese 146 = .ok (.aload_n 0, 1) := by decide +kernel
theorem dX11_cheese_147 : decode cX11_cheese 147 = .ok (.getfield 142, 3) := by decide +kernel
theorem dX11_cheese_150 : decode cX11_cheese 150 = .ok (.iload 5, 2) := by decide +kernel
theorem dX11_cheese_152 : decode cX11_cheese 152 = .ok (.iaload, 1) := by decide +kernel
theorem dX11_cheese_153 : decode cX11_cheese 153 = .ok (.iadd, 1) := by decide +kernel
theorem dX11_cheese_154 : decode cX11_cheese 154 = .ok (.istore 4, 2) := by decide +kernel
theorem dX11_cheese_156 : decode cX11_cheese 156 = .ok (.iinc 5 1, 3) := by decide +kernel
theorem dX11_cheese_159 : decode cX11_cheese 159 = .ok (.goto (-100), 3) := by decide +kernel
theorem dX11_cheese_162 : decode cX11_cheese 162 = .ok (.iload 4, 2) := by decide +kernel
theorem dX11_cheese_164 : decode cX11_cheese 164 = .ok (.iload_n 1, 1) := by decide +kernel
theorem dX11_cheese_165 : decode cX11_cheese 165 = .ok (.if_icmp .ge 40, 3) := by decide +kernel
theorem dX11_cheese_168 : decode cX11_cheese 168 = .ok (.aload_n 0, 1) := by decide +kernel
theorem dX11_cheese_169 : decode cX11_cheese 169 = .ok (.iconst 1, 1) := by decide +kernel
theorem dX11_cheese_170 : decode cX11_cheese 170 = .ok (.invokevirtual 431, 3) := by decide +kernel
theorem dX11_cheese_173 : decode cX11_cheese 173 = .ok (.istore 5, 2) := by decide +kernel
theorem dX11_cheese_175 : decode cX11_cheese 175 = .ok (.aload_n 0, 1) := by decide +kernel
theorem dX11_cheese_176 : decode cX11_cheese 176 = .ok (.getfield 142, 3) := by decide +kernel
theorem dX11_cheese_179 : decode cX11_cheese 179 = .ok (.iload 5, 2) := by decide +kernel
theorem dX11_cheese_181 : decode cX11_cheese 181 = .ok (.dup2, 1) := by decide +kernel
theorem dX11_cheese_182 : decode cX11_cheese 182 = .ok (.iaload, 1) := by decide +kernel
theorem dX11_cheese_183 : decode cX11_cheese 183 = .ok (.iconst 1, 1) := by decide +kernel
theorem dX11_cheese_184 : decode cX11_cheese 184 = .ok (.iadd, 1) := by decide +kernel
theorem dX11_cheese_185 : decode cX11_cheese 185 = .ok (.iastore, 1) := by decide +kernel
theorem dX11_cheese_186 : decode cX11_cheese 186 = .ok (.aload_n 0, 1) := by decide +kernel
theorem dX11_cheese_187 : decode cX11_cheese 187 = .ok (.getfield 24, 3) := by decide +kernel
theorem dX11_cheese_190 : decode cX11_cheese 190 = .ok (.iload 5, 2) := by decide +kernel
theorem dX11_cheese_192 : decode cX11_cheese 192 = .ok (.dup2, 1) := by decide +kernel
theorem dX11_cheese_193 : decode cX11_cheese 193 = .ok (.iaload, 1) := by decide +kernel
theorem dX11_cheese_194 : decode cX11_cheese 194 = .ok (.sipush 10000, 3) := by decide +kernel
theorem dX11_cheese_197 : decode cX11_cheese 197 = .ok (.isub, 1) := by decide +kernel
theorem dX11_cheese_198 : decode cX11_cheese 198 = .ok (.iastore, 1) := by decide +kernel
theorem dX11_cheese_199 : decode cX11_cheese 199 = .ok (.iinc 4 1, 3) := by decide +kernel
theorem dX11_cheese_202 : decode cX11_cheese 202 = .ok (.goto (-40), 3) := by decide +kernel
theorem dX11_cheese_205 : decode cX11_cheese 205 = .ok (.iload 4, 2) := by decide +kernel
theorem dX11_cheese_207 : decode cX11_cheese 207 = .ok (.iload_n 1, 1) := by decide +kernel
theorem dX11_cheese_208 : decode cX11_cheese 208 = .ok (.if_icmp .le 40, 3) := by decide +kernel
theorem dX11_cheese_211 : decode cX11_cheese 211 = .ok (.aload_n 0, 1) := by decide +kernel
theorem dX11_cheese_212 : decode cX11_cheese 212 = .ok (.iconst 0, 1) := by decide +kernel
theorem dX11_cheese_213 : decode cX11_cheese 213 = .ok (.invokevirtual 431, 3) := by decide +kernel
theorem dX11_cheese_216 : decode cX11_cheese 216 = .ok (.istore 5, 2) := by decide +kernel
theorem dX11_cheese_218 : decode cX11_cheese 218 = .ok (.aload_n 0, 1) := by decide +kernel
theorem dX11_cheese_219 : decode cX11_cheese 219 = .ok (.getfield 142, 3) := by decide +kernel
theorem dX11_cheese_222 : decode cX11_cheese 222 = .ok (.iload 5, 2) := by decide +kernel
theorem dX11_cheese_224 : decode cX11_cheese 224 = .ok (.dup2, 1) := by decide +kernel
theorem dX11_cheese_225 : decode cX11_cheese 225 = .ok (.iaload, 1) := by decide +kernel
theorem dX11_cheese_226 : decode cX11_cheese 226 = .ok (.iconst 1, 1) := by decide +kernel
theorem dX11_cheese_227 : decode cX11_cheese 227 = .ok (.isub, 1) := by decide +kernel
theorem dX11_cheese_228 : decode cX11_cheese 228 = .ok (.iastore, 1) := by decide +kernel
theorem dX11_cheese_229 : decode cX11_cheese 229 = .ok (.aload_n 0, 1) := by decide +kernel
theorem dX11_cheese_230 : decode cX11_cheese 230 = .ok (.getfield 24, 3) := by decide +kernel
theorem dX11_cheese_233 : decode cX11_cheese 233 = .ok (.iload 5, 2) := by decide +kernel
theorem dX11_cheese_235 : decode cX11_cheese 235 = .ok (.dup2, 1) := by decide +kernel
theorem dX11_cheese_236 : decode cX11_cheese 236 = .ok (.iaload, 1) := by decide +kernel
theorem dX11_cheese_237 : decode cX11_cheese 237 = .ok (.sipush 10000, 3) := by decide +kernel
theorem dX11_cheese_240 : decode cX11_cheese 240 = .ok (.iadd, 1) := by decide +kernel
theorem dX11_cheese_241 : decode cX11_cheese 241 = .ok (.iastore, 1) := by decide +kernel
theorem dX11_cheese_242 : decode cX11_cheese 242 = .ok (.iinc 4 (-1), 3) := by decide +kernel
theorem dX11_cheese_245 : decode cX11_cheese 245 = .ok (.goto (-40), 3) := by decide +kernel
theorem dX11_cheese_248 : decode cX11_cheese 248 = .ok (.iconst 0, 1) := by decide +kernel
theorem dX11_cheese_249 : decode cX11_cheese 249 = .ok (.istore 5, 2) := by decide +kernel
theorem dX11_cheese_251 : decode cX11_cheese 251 = .ok (.iload 5, 2) := by decide +kernel
theorem dX11_cheese_253 : decode cX11_cheese 253 = .ok (.aload_n 0, 1) := by decide +kernel
theorem dX11_cheese_254 : decode cX11_cheese 254 = .ok (.getfield 160, 3) := by decide +kernel
theorem dX11_cheese_257 : decode cX11_cheese 257 = .ok (.if_icmp .ge 34, 3) := by decide +kernel
theorem dX11_cheese_260 : decode cX11_cheese 260 = .ok (.aload_n 0, 1) := by decide +kernel
theorem dX11_cheese_261 : decode cX11_cheese 261 = .ok (.getfield 30, 3) := by decide +kernel
theorem dX11_cheese_264 : decode cX11_cheese 264 = .ok (.iload 5, 2) := by decide +kernel
theorem dX11_cheese_266 : decode cX11_cheese 266 = .ok (.dup2, 1) := by decide +kernel
theorem dX11_cheese_267 : decode cX11_cheese 267 = .ok (.iaload, 1) := by decide +kernel
theorem dX11_cheese_268 : decode cX11_cheese 268 = .ok (.aload_n 0, 1) := by decide +kernel
theorem dX11_cheese_269 : decode cX11_cheese 269 = .ok (.getfield 142, 3) := by decide +kernel
theorem dX11_cheese_272 : decode cX11_cheese 272 = .ok (.iload 5, 2) := by decide +kernel
theorem dX11_cheese_274 : decode cX11_cheese 274 = .ok (.iaload, 1) := by decide +kernel
theorem dX11_cheese_275 : decode cX11_cheese 275 = .ok (.iadd, 1) := by decide +kernel
theorem dX11_cheese_276 : decode cX11_cheese 276 = .ok (.iastore, 1) := by decide +kernel
theorem dX11_cheese_277 : decode cX11_cheese 277 = .ok (.aload_n 0, 1) := by decide +kernel
theorem dX11_cheese_278 : decode cX11_cheese 278 = .ok (.getfield 21, 3) := by decide +kernel
theorem dX11_cheese_281 : decode cX11_cheese 281 = .ok (.iload 5, 2) := by decide +kernel
theorem dX11_cheese_283 : decode cX11_cheese 283 = .ok (.iconst 0, 1) := by decide +kernel
theorem dX11_cheese_284 : decode cX11_cheese 284 = .ok (.iastore, 1) := by decide +kernel
theorem dX11_cheese_285 : decode cX11_cheese 285 = .ok (.iinc 5 1, 3) := by decide +kernel
theorem dX11_cheese_288 : decode cX11_cheese 288 = .ok (.goto (-37), 3) := by decide +kernel
theorem dX11_cheese_291 : decode cX11_cheese 291 = .ok (.aload_n 0, 1) := by decide +kernel
theorem dX11_cheese_292 : decode cX11_cheese 292 = .ok (.dup, 1) := by decide +kernel
theorem dX11_cheese_293 : decode cX11_cheese 293 = .ok (.getfield 435, 3) := by decide +kernel
theorem dX11_cheese_296 : decode cX11_cheese 296 = .ok (.iload_n 1, 1) := by decide +kernel
theorem dX11_cheese_297 : decode cX11_cheese 297 = .ok (.iadd, 1) := by decide +kernel
theorem dX11_cheese_298 : decode cX11_cheese 298 = .ok (.putfield 435, 3) := by decide +kernel
theorem dX11_cheese_301 : decode cX11_cheese 301 = .ok (.iload_n 1, 1) := by decide +kernel
theorem dX11_cheese_302 : decode cX11_cheese 302 = .ok (.ireturn, 1) := by decide +kernel
theorem dX11_rest_0 : decode cX11_rest 0 = .ok (.aload_n 0, 1) := by decide +kernel
theorem dX11_rest_1 : decode cX11_rest 1 = .ok (.iload_n 1, 1) := by decide +kernel
theorem dX11_rest_2 : decode cX11_rest 2 = .ok (.invokevirtual 181, 3) := by decide +kernel
theorem dX11_rest_5 : decode cX11_rest 5 = .ok (.ifCond .eq 12, 3) := by decide +kernel
theorem dX11_rest_8 : decode cX11_rest 8 = .ok (.aload_n 0, 1) := by decide +kernel
theorem dX11_rest_9 : decode cX11_rest 9 = .ok (.getfield 24, 3) := by decide +kernel
theorem dX11_rest_12 : decode cX11_rest 12 = .ok (.iload_n 1, 1) := by decide +kernel
theorem dX11_rest_13 : decode cX11_rest 13 = .ok (.iaload, 1) := by decide +kernel
theorem dX11_rest_14 : decode cX11_rest 14 = .ok (.goto 6, 3) := by decide +kernel
theorem dX11_rest_17 : decode cX11_rest 17 = .ok (.ldc_w 438, 3) := by decide +kernel
theorem dX11_rest_20 : decode cX11_rest 20 = .ok (.ireturn, 1) := by decide +kernel
theorem dX11_fell_0 : decode cX11_fell 0 = .ok (.aload_n 0, 1) := by decide +kernel
theorem dX11_fell_1 : decode cX11_fell 1 = .ok (.iload_n 1, 1) := by decide +kernel
theorem dX11_fell_2 : decode cX11_fell 2 = .ok (.invokevirtual 423, 3) := by decide +kernel
theorem dX11_fell_5 : decode cX11_fell 5 = .ok (.ifCond .eq 11, 3) := by decide +kernel
theorem dX11_fell_8 : decode cX11_fell 8 = .ok (.aload_n 0, 1) := by decide +kernel
theorem dX11_fell_9 : decode cX11_fell 9 = .ok (.iload_n 2, 1) := by decide +kernel
theorem dX11_fell_10 : decode cX11_fell 10 = .ok (.invokevirtual 181, 3) := by decide +kernel
theorem dX11_fell_13 : decode cX11_fell 13 = .ok (.ifCond .ne 5, 3) := by decide +kernel
theorem dX11_fell_16 : decode cX11_fell 16 = .ok (.iconst (-1), 1) := by decide +kernel
theorem dX11_fell_17 : decode cX11_fell 17 = .ok (.ireturn, 1) := by decide +kernel
theorem dX11_fell_18 : decode cX11_fell 18 = .ok (.aload_n 0, 1) := by decide +kernel
theorem dX11_fell_19 : decode cX11_fell 19 = .ok (.iload_n 1, 1) := by decide +kernel
theorem dX11_fell_20 : decode cX11_fell 20 = .ok (.iconst 0, 1) := by decide +kernel
theorem dX11_fell_21 : decode cX11_fell 21 = .ok (.invokevirtual 426, 3) := by decide +kernel
theorem dX11_fell_24 : decode cX11_fell 24 = .ok (.bipush 100, 2) := by decide +kernel
theorem dX11_fell_26 : decode cX11_fell 26 = .ok (.if_icmp .lt 6, 3) := by decide +kernel
theorem dX11_fell_29 : decode cX11_fell 29 = .ok (.bipush (-3), 2) := by decide +kernel
theorem dX11_fell_31 : decode cX11_fell 31 = .ok (.ireturn, 1) := by decide +kernel
theorem dX11_fell_32 : decode cX11_fell 32 = .ok (.aload_n 0, 1) := by decide +kernel
theorem dX11_fell_33 : decode cX11_fell 33 = .ok (.getfield 89, 3) := by decide +kernel
theorem dX11_fell_36 : decode cX11_fell 36 = .ok (.iload_n 1, 1) := by decide +kernel
theorem dX11_fell_37 : decode cX11_fell 37 = .ok (.iaload, 1) := by decide +kernel
theorem dX11_fell_38 : decode cX11_fell 38 = .ok (.iconst 4, 1) := by decide +kernel
theorem dX11_fell_39 : decode cX11_fell 39 = .ok (.idiv, 1) := by decide +kernel
theorem dX11_fell_40 : decode cX11_fell 40 = .ok (.istore_n 3, 1) := by decide +kernel
theorem dX11_fell_41 : decode cX11_fell 41 = .ok (.iload_n 3, 1) := by decide +kernel
theorem dX11_fell_42 : decode cX11_fell 42 = .ok (.istore 4, 2) := by decide +kernel
theorem dX11_fell_44 : decode cX11_fell 44 = .ok (.iconst 0, 1) := by decide +kernel
theorem dX11_fell_45 : decode cX11_fell 45 = .ok (.istore 5, 2) := by decide +kernel
theorem dX11_fell_47 : decode cX11_fell 47 = .ok (.iload 5, 2) := by decide +kernel
theorem dX11_fell_49 : decode cX11_fell 49 = .ok (.aload_n 0, 1) := by decide +kernel
theorem dX11_fell_50 : decode cX11_fell 50 = .ok (.getfield 160, 3) := by decide +kernel
theorem dX11_fell_53 : decode cX11_fell 53 = .ok (.if_icmp .ge 68, 3) := by decide +kernel
theorem dX11_fell_56 : decode cX11_fell 56 = .ok (.iload_n 2, 1) := by decide +kernel
theorem dX11_fell_57 : decode cX11_fell 57 = .ok (.iload 5, 2) := by decide +kernel
theorem dX11_fell_59 : decode cX11_fell 59 = .ok (.iadd, 1) := by decide +kernel
theorem dX11_fell_60 : decode cX11_fell 60 = .ok (.aload_n 0, 1) := by decide +kernel
theorem dX11_fell_61 : decode cX11_fell 61 = .ok (.getfield 160, 3) := by decide +kernel
theorem dX11_fell_64 : decode cX11_fell 64 = .ok (.irem, 1) := by decide +kernel
theorem dX11_fell_65 : decode cX11_fell 65 = .ok (.istore 6, 2) := by decide +kernel
theorem dX11_fell_67 : decode cX11_fell 67 = .ok (.iload 4, 2) := by decide +kernel
theorem dX11_fell_69 : decode cX11_fell 69 = .ok (.i2l, 1) := by decide +kernel
theorem dX11_fell_70 : decode cX11_fell 70 = .ok (.aload_n 0, 1) := by decide +kernel
theorem dX11_fell_71 : decode cX11_fell 71 = .ok (.iload 6, 2) := by decide +kernel
theorem dX11_fell_73 : decode cX11_fell 73 = .ok (.bipush 6, 2) := by decide +kernel
theorem dX11_fell_75 : decode cX11_fell 75 = .ok (.invokevirtual 366, 3) := by decide +kernel
theorem dX11_fell_78 : decode cX11_fell 78 = .ok (.i2l, 1) := by decide +kernel
theorem dX11_fell_79 : decode cX11_fell 79 = .ok (.aload_n 0, 1) := by decide +kernel
theorem dX11_fell_80 : decode cX11_fell 80 = .ok (.getfield 9, 3) := by decide +kernel
theorem dX11_fell_83 : decode cX11_fell 83 = .ok (.iload 6, 2) := by decide +kernel
theorem dX11_fell_85 : decode cX11_fell 85 = .ok (.aaload, 1) := by decide +kernel
theorem dX11_fell_86 : decode cX11_fell 86 = .ok (.iconst 0, 1) := by decide +kernel
theorem dX11_fell_87 : decode cX11_fell 87 = .ok (.iaload, 1) := by decide +kernel
theorem dX11_fell_88 : decode cX11_fell 88 = .ok (.i2l, 1) := by decide +kernel
theorem dX11_fell_89 : decode cX11_fell 89 = .ok (.lmul, 1) := by decide +kernel
theorem dX11_fell_90 : decode cX11_fell 90 = .ok (.invokestatic 439, 3) := by decide +kernel
theorem dX11_fell_93 : decode cX11_fell 93 = .ok (.l2i, 1) := by decide +kernel
theorem dX11_fell_94 : decode cX11_fell 94 = .ok (.istore 7, 2) := by decide +kernel
theorem dX11_fell_96 : decode cX11_fell 96 = .ok (.aload_n 0, 1) := by decide +kernel
theorem dX11_fell_97 : decode cX11_fell 97 = .ok (.getfield 33, 3) := by decide +kernel
theorem dX11_fell_100 : decode cX11_fell 100 = .ok (.iload 6, 2) := by decide +kernel
theorem dX11_fell_102 : decode cX11_fell 102 = .ok (.dup2, 1) := by decide +kernel
theorem dX11_fell_103 : decode cX11_fell 103 = .ok (.iaload, 1) := by decide +kernel
theorem dX11_fell_104 : decode cX11_fell 104 = .ok (.iload 7, 2) := by decide +kernel
theorem dX11_fell_106 : decode cX11_fell 106 = .ok (.iadd, 1) := by decide +kernel
theorem dX11_fell_107 : decode cX11_fell 107 = .ok (.iastore, 1) := by decide +kernel
theorem dX11_fell_108 : decode cX11_fell 108 = .ok (.iload 4, 2) := by decide +kernel
theorem dX11_fell_110 : decode cX11_fell 110 = .ok (.iload 7, 2) := by decide +kernel
theorem dX11_fell_112 : decode cX11_fell 112 = .ok (.isub, 1) := by decide +kernel
theorem dX11_fell_113 : decode cX11_fell 113 = .ok (.istore 4, 2) := by decide +kernel
theorem dX11_fell_115 : decode cX11_fell 115 = .ok (.iinc 5 1, 3) := by decide +kernel
theorem dX11_fell_118 : decode cX11_fell 118 = .ok (.goto (-71), 3) := by decide +kernel
theorem dX11_fell_121 : decode cX11_fell 121 = .ok (.aload_n 0, 1) := by decide +kernel
theorem dX11_fell_122 : decode cX11_fell 122 = .ok (.getfield 89, 3) := by decide +kernel
theorem dX11_fell_125 : decode cX11_fell 125 = .ok (.iload_n 1, 1) := by decide +kernel
theorem dX11_fell_126 : decode cX11_fell 126 = .ok (.iconst 0, 1) := by decide +kernel
theorem dX11_fell_127 : decode cX11_fell 127 = .ok (.iastore, 1) := by decide +kernel
theorem dX11_fell_128 : decode cX11_fell 128 = .ok (.iconst 0, 1) := by decide +kernel
theorem dX11_fell_129 : decode cX11_fell 129 = .ok (.istore 5, 2) := by decide +kernel
theorem dX11_fell_131 : decode cX11_fell 131 = .ok (.iload 5, 2) := by decide +kernel
theorem dX11_fell_133 : decode cX11_fell 133 = .ok (.aload_n 0, 1) := by decide +kernel
theorem dX11_fell_134 : decode cX11_fell 134 = .ok (.getfield 160, 3) := by decide +kernel
theorem dX11_fell_137 : decode cX11_fell 137 = .ok (.if_icmp .ge 50, 3) := by decide +kernel
theorem dX11_fell_140 : decode cX11_fell 140 = .ok (.iconst 0, 1) := by decide +kernel
theorem dX11_fell_141 : decode cX11_fell 141 = .ok (.iload 4, 2) := by decide +kernel
theorem dX11_fell_143 : decode cX11_fell 143 = .ok (.aload_n 0, 1) := by decide +kernel
theorem dX11_fell_144 : decode cX11_fell 144 = .ok (.getfield 9, 3) := by decide +kernel
theorem dX11_fell_147 : decode cX11_fell 147 = .ok (.iload 5, 2) := by decide +kernel
theorem dX11_fell_149 : decode cX11_fell 149 = .ok (.aaload, 1) := by decide +kernel
theorem dX11_fell_150 : decode cX11_fell 150 = .ok (.iconst 4, 1) := by decide +kernel
theorem dX11_fell_151 : decode cX11_fell 151 = .ok (.iaload, 1) := by decide +kernel
theorem dX11_fell_152 : decode cX11_fell 152 = .ok (.invokestatic 345, 3) := by decide +kernel
theorem dX11_fell_155 : decode cX11_fell 155 = .ok (.invokestatic 371, 3) := by decide +kernel
theorem dX11_fell_158 : decode cX11_fell 158 = .ok (.istore 6, 2) := by decide +kernel
theorem dX11_fell_160 : decode cX11_fell 160 = .ok (.aload_n 0, 1) := by decide +kernel
theorem dX11_fell_161 : decode cX11_fell 161 = .ok (.getfield 9, 3) := by decide +kernel
theorem dX11_fell_164 : decode cX11_fell 164 = .ok (.iload 5, 2) := by decide +kernel
theorem dX11_fell_166 : decode cX11_fell 166 = .ok (.aaload, 1) := by decide +kernel
theorem dX11_fell_167 : decode cX11_fell 167 = .ok (.iconst 4, 1) := by decide +kernel
theorem dX11_fell_168 : decode cX11_fell 168 = .ok (.dup2, 1) := by decide +kernel
theorem dX11_fell_169 : decode cX11_fell 169 = .ok (.iaload, 1) := by decide +kernel
theorem dX11_fell_170 : decode cX11_fell 170 = .ok (.iload 6, 2) := by decide +kernel
theorem dX11_fell_172 : decode cX11_fell 172 = .ok (.isub, 1) := by decide +kernel
theorem dX11_fell_173 : decode cX11_fell 173 = .ok (.iastore, 1) := by decide +kernel
theorem dX11_fell_174 : decode cX11_fell 174 = .ok (.iload 4, 2) := by decide +kernel
theorem dX11_fell_176 : decode cX11_fell 176 = .ok (.iload 6, 2) := by decide +kernel
theorem dX11_fell_178 : decode cX11_fell 178 = .ok (.isub, 1) := by decide +kernel
theorem dX11_fell_179 : decode cX11_fell 179 = .ok (.istore 4, 2) := by decide +kernel
theorem dX11_fell_181 : decode cX11_fell 181 = .ok (.iinc 5 1, 3) := by decide +kernel
theorem dX11_fell_184 : decode cX11_fell 184 = .ok (.goto (-53), 3) := by decide +kernel
theorem dX11_fell_187 : decode cX11_fell 187 = .ok (.aload_n 0, 1) := by decide +kernel
theorem dX11_fell_188 : decode cX11_fell 188 = .ok (.dup, 1) := by decide +kernel
theorem dX11_fell_189 : decode cX11_fell 189 = .ok (.getfield 442, 3) := by decide +kernel
theorem dX11_fell_192 : decode cX11_fell 192 = .ok (.iload_n 3, 1) := by decide +kernel
theorem dX11_fell_193 : decode cX11_fell 193 = .ok (.iadd, 1) := by decide +kernel
theorem dX11_fell_194 : decode cX11_fell 194 = .ok (.putfield 442, 3) := by decide +kernel
theorem dX11_fell_197 : decode cX11_fell 197 = .ok (.iload_n 3, 1) := by decide +kernel
theorem dX11_fell_198 : decode cX11_fell 198 = .ok (.ireturn, 1) := by decide +kernel
theorem dX11_channel_0 : decode cX11_channel 0 = .ok (.iload_n 1, 1) := by decide +kernel
theorem dX11_channel_1 : decode cX11_channel 1 = .ok (.iconst 0, 1) := by decide +kernel
theorem dX11_channel_2 : decode cX11_channel 2 = .ok (.aload_n 0, 1) := by decide +kernel
theorem dX11_channel_3 : decode cX11_channel 3 = .ok (.getfield 445, 3) := by decide +kernel
theorem dX11_channel_6 : decode cX11_channel 6 = .ok (.invokestatic 163, 3) := by decide +kernel
theorem dX11_channel_9 : decode cX11_channel 9 = .ok (.ifCond .eq 11, 3) := by decide +kernel
theorem dX11_channel_12 : decode cX11_channel 12 = .ok (.aload_n 0, 1) := by decide +kernel
theorem dX11_channel_13 : decode cX11_channel 13 = .ok (.iload_n 2, 1) := by decide +kernel
theorem dX11_channel_14 : decode cX11_channel 14 = .ok (.invokevirtual 181, 3) := by decide +kernel
theorem dX11_channel_17 : decode cX11_channel 17 = .ok (.ifCond .ne 5, 3) := by decide +kernel
theorem dX11_channel_20 : decode cX11_channel 20 = .ok (.iconst (-1), 1) := by decide +kernel
theorem dX11_channel_21 : decode cX11_channel 21 = .ok (.ireturn, 1) := by decide +kernel
theorem dX11_channel_22 : decode cX11_channel 22 = .ok (.iload_n 3, 1) := by decide +kernel
theorem dX11_channel_23 : decode cX11_channel 23 = .ok (.iconst 0, 1) := by decide +kernel
theorem dX11_channel_24 : decode cX11_channel 24 = .ok (.bipush 100, 2) := by decide +kernel
theorem dX11_channel_26 : decode cX11_channel 26 = .ok (.invokestatic 163, 3) := by decide +kernel
theorem dX11_channel_29 : decode cX11_channel 29 = .ok (.ifCond .ne 6, 3) := by decide +kernel
theorem dX11_channel_32 : decode cX11_channel 32 = .ok (.bipush (-2), 2) := by decide +kernel
theorem dX11_channel_34 : decode cX11_channel 34 = .ok (.ireturn, 1) := by decide +kernel
theorem dX11_channel_35 : decode cX11_channel 35 = .ok (.iload_n 1, 1) := by decide +kernel
theorem dX11_channel_36 : decode cX11_channel 36 = .ok (.bipush 10, 2) := by decide +kernel
theorem dX11_channel_38 : decode cX11_channel 38 = .ok (.if_icmp .ne 6, 3) := by decide +kernel
theorem dX11_channel_41 : decode cX11_channel 41 = .ok (.bipush (-4), 2) := by decide +kernel
theorem dX11_channel_43 : decode cX11_channel 43 = .ok (.ireturn, 1) := by decide +kernel
theorem dX11_channel_44 : decode cX11_channel 44 = .ok (.aload_n 0, 1) := by decide +kernel
theorem dX11_channel_45 : decode cX11_channel 45 = .ok (.getfield 112, 3) := by decide +kernel
theorem dX11_channel_48 : decode cX11_channel 48 = .ok (.iload_n 1, 1) := by decide +kernel
theorem dX11_channel_49 : decode cX11_channel 49 = .ok (.iload_n 2, 1) := by decide +kernel
theorem dX11_channel_50 : decode cX11_channel 50 = .ok (.iastore, 1) := by decide +kernel
theorem dX11_channel_51 : decode cX11_channel 51 = .ok (.aload_n 0, 1) := by decide +kernel
theorem dX11_channel_52 : decode cX11_channel 52 = .ok (.getfield 115, 3) := by decide +kernel
theorem dX11_channel_55 : decode cX11_channel 55 = .ok (.iload_n 1, 1) := by decide +kernel
theorem dX11_channel_56 : decode cX11_channel 56 = .ok (.iload_n 3, 1) := by decide +kernel
theorem dX11_channel_57 : decode cX11_channel 57 = .ok (.iastore, 1) := by decide +kernel
theorem dX11_channel_58 : decode cX11_channel 58 = .ok (.aload_n 0, 1) := by decide +kernel
theorem dX11_channel_59 : decode cX11_channel 59 = .ok (.aload_n 0, 1) := by decide +kernel
theorem dX11_channel_60 : decode cX11_channel 60 = .ok (.getfield 445, 3) := by decide +kernel
theorem dX11_channel_63 : decode cX11_channel 63 = .ok (.iload_n 1, 1) := by decide +kernel
theorem dX11_channel_64 : decode cX11_channel 64 = .ok (.iconst 1, 1) := by decide +kernel
theorem dX11_channel_65 : decode cX11_channel 65 = .ok (.iadd, 1) := by decide +kernel
theorem dX11_channel_66 : decode cX11_channel 66 = .ok (.invokestatic 371, 3) := by decide +kernel
theorem dX11_channel_69 : decode cX11_channel 69 = .ok (.putfield 445, 3) := by decide +kernel
theorem dX11_channel_72 : decode cX11_channel 72 = .ok (.aload_n 0, 1) := by decide +kernel
theorem dX11_channel_73 : decode cX11_channel 73 = .ok (.getfield 445, 3) := by decide +kernel
theorem dX11_channel_76 : decode cX11_channel 76 = .ok (.ireturn, 1) := by decide +kernel
theorem dX11_rightAt_0 : decode cX11_rightAt 0 = .ok (.aload_n 0, 1) := by decide +kernel
theorem dX11_rightAt_1 : decode cX11_rightAt 1 = .ok (.iconst (-1), 1) := by decide +kernel
theorem dX11_rightAt_2 : decode cX11_rightAt 2 = .ok (.iconst 2, 1) := by decide +kernel
theorem dX11_rightAt_3 : decode cX11_rightAt 3 = .ok (.invokevirtual 208, 3) := by decide +kernel
theorem dX11_rightAt_6 : decode cX11_rightAt 6 = .ok (.istore_n 2, 1) := by decide +kernel
theorem dX11_rightAt_7 : decode cX11_rightAt 7 = .ok (.iload_n 2, 1) := by decide +kernel
theorem dX11_rightAt_8 : decode cX11_rightAt 8 = .ok (.ifCond .ne 5, 3) := by decide +kernel
theorem dX11_rightAt_11 : decode cX11_rightAt 11 = .ok (.iconst (-1), 1) := by decide +kernel
theorem dX11_rightAt_12 : decode cX11_rightAt 12 = .ok (.ireturn, 1) := by decide +kernel
theorem dX11_rightAt_13 : decode cX11_rightAt 13 = .ok (.iload_n 1, 1) := by decide +kernel
theorem dX11_rightAt_14 : decode cX11_rightAt 14 = .ok (.iload_n 2, 1) := by decide +kernel
theorem dX11_rightAt_15 : decode cX11_rightAt 15 = .ok (.irem, 1) := by decide +kernel
theorem dX11_rightAt_16 : decode cX11_rightAt 16 = .ok (.istore_n 3, 1) := by decide +kernel
theorem dX11_rightAt_17 : decode cX11_rightAt 17 = .ok (.iconst 0, 1) := by decide +kernel
theorem dX11_rightAt_18 : decode cX11_rightAt 18 = .ok (.istore 4, 2) := by decide +kernel
theorem dX11_rightAt_20 : decode cX11_rightAt 20 = .ok (.iload 4, 2) := by decide +kernel
theorem dX11_rightAt_22 : decode cX11_rightAt 22 = .ok (.aload_n 0, 1) := by decide +kernel
theorem dX11_rightAt_23 : decode cX11_rightAt 23 = .ok (.getfield 167, 3) := by decide +kernel
theorem dX11_rightAt_26 : decode cX11_rightAt 26 = .ok (.if_icmp .ge 44, 3) := by decide +kernel
theorem dX11_rightAt_29 : decode cX11_rightAt 29 = .ok (.aload_n 0, 1) := by decide +kernel
theorem dX11_rightAt_30 : decode cX11_rightAt 30 = .ok (.getfield 42, 3) := by decide +kernel
theorem dX11_rightAt_33 : decode cX11_rightAt 33 = .ok (.iload 4, 2) := by decide +kernel
theorem dX11_rightAt_35 : decode cX11_rightAt 35 = .ok (.iaload, 1) := by decide +kernel
theorem dX11_rightAt_36 : decode cX11_rightAt 36 = .ok (.iconst 3, 1) := by decide +kernel
theorem dX11_rightAt_37 : decode cX11_rightAt 37 = .ok (.if_icmp .ne 27, 3) := by decide +kernel
theorem dX11_rightAt_40 : decode cX11_rightAt 40 = .ok (.iload_n 3, 1) := by decide +kernel
theorem dX11_rightAt_41 : decode cX11_rightAt 41 = .ok (.aload_n 0, 1) := by decide +kernel
theorem dX11_rightAt_42 : decode cX11_rightAt 42 = .ok (.getfield 48, 3) := by decide +kernel
theorem dX11_rightAt_45 : decode cX11_rightAt 45 = .ok (.iload 4, 2) := by decide +kernel
theorem dX11_rightAt_47 : decode cX11_rightAt 47 = .ok (.iaload, 1) := by decide +kernel
theorem dX11_rightAt_48 : decode cX11_rightAt 48 = .ok (.if_icmp .ge 6, 3) := by decide +kernel
theorem dX11_rightAt_51 : decode cX11_rightAt 51 = .ok (.iload 4, 2) := by decide +kernel
theorem dX11_rightAt_53 : decode cX11_rightAt 53 = .ok (.ireturn, 1) := by decide +kernel
theorem dX11_rightAt_54 : decode cX11_rightAt 54 = .ok (.iload_n 3, 1) := by decide +kernel
theorem dX11_rightAt_55 : decode cX11_rightAt 55 = .ok (.aload_n 0, 1) := by decide +kernel
theorem dX11_rightAt_56 : decode cX11_rightAt 56 = .ok (.getfield 48, 3) := by decide +kernel
theorem dX11_rightAt_59 : decode cX11_rightAt 59 = .ok (.iload 4, 2) := by decide +kernel
theorem dX11_rightAt_61 : decode cX11_rightAt 61 = .ok (.iaload, 1) := by decide +kernel
theorem dX11_rightAt_62 : decode cX11_rightAt 62 = .ok (.isub, 1) := by decide +kernel
theorem dX11_rightAt_63 : decode cX11_rightAt 63 = .ok (.istore_n 3, 1) := by decide +kernel
theorem dX11_rightAt_64 : decode cX11_rightAt 64 = .ok (.iinc 4 1, 3) := by decide +kernel
theorem dX11_rightAt_67 : decode cX11_rightAt 67 = .ok (.goto (-47), 3) := by decide +kernel
theorem dX11_rightAt_70 : decode cX11_rightAt 70 = .ok (.iconst (-1), 1) := by decide +kernel
theorem dX11_rightAt_71 : decode cX11_rightAt 71 = .ok (.ireturn, 1) := by decide +kernel
theorem dX11_hour_0 : decode cX11_hour 0 = .ok (.aload_n 0, 1) := by decide +kernel
theorem dX11_hour_1 : decode cX11_hour 1 = .ok (.iconst (-1), 1) := by decide +kernel
theorem dX11_hour_2 : decode cX11_hour 2 = .ok (.iconst 2, 1) := by decide +kernel
theorem dX11_hour_3 : decode cX11_hour 3 = .ok (.invokevirtual 208, 3) := by decide +kernel
theorem dX11_hour_6 : decode cX11_hour 6 = .ok (.ifCond .ne 5, 3) := by decide +kernel
theorem dX11_hour_9 : decode cX11_hour 9 = .ok (.iconst (-1), 1) := by decide +kernel
theorem dX11_hour_10 : decode cX11_hour 10 = .ok (.ireturn, 1) := by decide +kernel
theorem dX11_hour_11 : decode cX11_hour 11 = .ok (.iload_n 1, 1) := by decide +kernel
theorem dX11_hour_12 : decode cX11_hour 12 = .ok (.ifCond .ge 8, 3) := by decide +kernel
theorem dX11_hour_15 : decode cX11_hour 15 = .ok (.bipush (-2), 2) := by decide +kernel
theorem dX11_hour_17 : decode cX11_hour 17 = .ok (.goto 8, 3) := by decide +kernel
theorem dX11_hour_20 : decode cX11_hour 20 = .ok (.aload_n 0, 1) := by decide +kernel
theorem dX11_hour_21 : decode cX11_hour 21 = .ok (.iload_n 1, 1) := by decide +kernel
theorem dX11_hour_22 : decode cX11_hour 22 = .ok (.invokevirtual 448, 3) := by decide +kernel
theorem dX11_hour_25 : decode cX11_hour 25 = .ok (.ireturn, 1) := by decide +kernel
theorem dX11_gets_0 : decode cX11_gets 0 = .ok (.aload_n 0, 1) := by decide +kernel
theorem dX11_gets_1 : decode cX11_gets 1 = .ok (.iload_n 1, 1) := by decide +kernel
theorem dX11_gets_2 : decode cX11_gets 2 = .ok (.invokevirtual 181, 3) := by decide +kernel
theorem dX11_gets_5 : decode cX11_gets 5 = .ok (.ifCond .eq 18, 3) := by decide +kernel
theorem dX11_gets_8 : decode cX11_gets 8 = .ok (.iload_n 2, 1) := by decide +kernel
theorem dX11_gets_9 : decode cX11_gets 9 = .ok (.ifCond .lt 14, 3) := by decide +kernel
theorem dX11_gets_12 : decode cX11_gets 12 = .ok (.iload_n 3, 1) := by decide +kernel
theorem dX11_gets_13 : decode cX11_gets 13 = .ok (.iconst 0, 1) := by decide +kernel
theorem dX11_gets_14 : decode cX11_gets 14 = .ok (.sipush 10000, 3) := by decide +kernel
theorem dX11_gets_17 : decode cX11_gets 17 = .ok (.invokestatic 163, 3) := by decide +kernel
theorem dX11_gets_20 : decode cX11_gets 20 = .ok (.ifCond .ne 6, 3) := by decide +kernel
theorem dX11_gets_23 : decode cX11_gets 23 = .ok (.bipush (-5), 2) := by decide +kernel
theorem dX11_gets_25 : decode cX11_gets 25 = .ok (.ireturn, 1) := by decide +kernel
theorem dX11_gets_26 : decode cX11_gets 26 = .ok (.aload_n 0, 1) := by decide +kernel
theorem dX11_gets_27 : decode cX11_gets 27 = .ok (.iload_n 2, 1) := by decide +kernel
theorem dX11_gets_28 : decode cX11_gets 28 = .ok (.invokevirtual 448, 3) := by decide +kernel
theorem dX11_gets_31 : decode cX11_gets 31 = .ok (.istore 4, 2) := by decide +kernel
theorem dX11_gets_33 : decode cX11_gets 33 = .ok (.iload 4, 2) := by decide +kernel
theorem dX11_gets_35 : decode cX11_gets 35 = .ok (.ifCond .lt 13, 3) := by decide +kernel
theorem dX11_gets_38 : decode cX11_gets 38 = .ok (.aload_n 0, 1) := by decide +kernel
theorem dX11_gets_39 : decode cX11_gets 39 = .ok (.iload 4, 2) := by decide +kernel
theorem dX11_gets_41 : decode cX11_gets 41 = .ok (.invokevirtual 205, 3) := by decide +kernel
theorem dX11_gets_44 : decode cX11_gets 44 = .ok (.iload_n 1, 1) := by decide +kernel
theorem dX11_gets_45 : decode cX11_gets 45 = .ok (.if_icmp .eq 5, 3) := by decide +kernel
theorem dX11_gets_48 : decode cX11_gets 48 = .ok (.iconst 0, 1) := by decide +kernel
theorem dX11_gets_49 : decode cX11_gets 49 = .ok (.ireturn, 1) := by decide +kernel
theorem dX11_gets_50 : decode cX11_gets 50 = .ok (.iload_n 3, 1) := by decide +kernel
theorem dX11_gets_51 : decode cX11_gets 51 = .ok (.istore 5, 2) := by decide +kernel
theorem dX11_gets_53 : decode cX11_gets 53 = .ok (.iconst 0, 1) := by decide +kernel
theorem dX11_gets_54 : decode cX11_gets 54 = .ok (.istore 6, 2) := by decide +kernel
theorem dX11_gets_56 : decode cX11_gets 56 = .ok (.iload 6, 2) := by decide +kernel
theorem dX11_gets_58 : decode cX11_gets 58 = .ok (.aload_n 0, 1) := by decide +kernel
theorem dX11_gets_59 : decode cX11_gets 59 = .ok (.getfield 445, 3) := by decide +kernel
theorem dX11_gets_62 : decode cX11_gets 62 = .ok (.if_icmp .ge 41, 3) := by decide +kernel
theorem dX11_gets_65 : decode cX11_gets 65 = .ok (.iload 5, 2) := by decide +kernel
theorem dX11_gets_67 : decode cX11_gets 67 = .ok (.bipush 100, 2) := by decide +kernel
theorem dX11_gets_69 : decode cX11_gets 69 = .ok (.aload_n 0, 1) := by decide +kernel
theorem dX11_gets_70 : decode cX11_gets 70 = .ok (.getfield 115, 3) := by decide +kernel
theorem dX11_gets_73 : decode cX11_gets 73 = .ok (.iload 6, 2) := by decide +kernel
theorem dX11_gets_75 : decode cX11_gets 75 = .ok (.iaload, 1) := by decide +kernel
theorem dX11_gets_76 : decode cX11_gets 76 = .ok (.isub, 1) := by decide +kernel
theorem dX11_gets_77 : decode cX11_gets 77 = .ok (.imul, 1) := by decide +kernel
theorem dX11_gets_78 : decode cX11_gets 78 = .ok (.bipush 100, 2) := by decide +kernel
theorem dX11_gets_80 : decode cX11_gets 80 = .ok (.idiv, 1) := by decide +kernel
theorem dX11_gets_81 : decode cX11_gets 81 = .ok (.istore 5, 2) := by decide +kernel
theorem dX11_gets_83 : decode cX11_gets 83 = .ok (.aload_n 0, 1) := by decide +kernel
theorem dX11_gets_84 : decode cX11_gets 84 = .ok (.getfield 112, 3) := by decide +kernel
theorem dX11_gets_87 : decode cX11_gets 87 = .ok (.iload 6, 2) := by decide +kernel
theorem dX11_gets_89 : decode cX11_gets 89 = .ok (.iaload, 1) := by decide +kernel
theorem dX11_gets_90 : decode cX11_gets 90 = .ok (.iload_n 1, 1) := by decide +kernel
theorem dX11_gets_91 : decode cX11_gets 91 = .ok (.if_icmp .ne 6, 3) := by decide +kernel
theorem dX11_gets_94 : decode cX11_gets 94 = .ok (.iload 5, 2) := by decide +kernel
theorem dX11_gets_96 : decode cX11_gets 96 = .ok (.ireturn, 1) := by decide +kernel
theorem dX11_gets_97 : decode cX11_gets 97 = .ok (.iinc 6 1, 3) := by decide +kernel
theorem dX11_gets_100 : decode cX11_gets 100 = .ok (.goto (-44), 3) := by decide +kernel
theorem dX11_gets_103 : decode cX11_gets 103 = .ok (.iconst 0, 1) := by decide +kernel
theorem dX11_gets_104 : decode cX11_gets 104 = .ok (.ireturn, 1) := by decide +kernel
theorem dX11_canHave_0 : decode cX11_canHave 0 = .ok (.iload_n 1, 1) := by decide +kernel
theorem dX11_canHave_1 : decode cX11_canHave 1 = .ok (.ifCond .ne 22, 3) := by decide +kernel
theorem dX11_canHave_4 : decode cX11_canHave 4 = .ok (.aload_n 0, 1) := by decide +kernel
theorem dX11_canHave_5 : decode cX11_canHave 5 = .ok (.getfield 9, 3) := by decide +kernel
theorem dX11_canHave_8 : decode cX11_canHave 8 = .ok (.iload_n 2, 1) := by decide +kernel
theorem dX11_canHave_9 : decode cX11_canHave 9 = .ok (.aaload, 1) := by decide +kernel
theorem dX11_canHave_10 : decode cX11_canHave 10 = .ok (.iconst 2, 1) := by decide +kernel
theorem dX11_canHave_11 : decode cX11_canHave 11 = .ok (.iaload, 1) := by decide +kernel
theorem dX11_canHave_12 : decode cX11_canHave 12 = .ok (.ifCond .le 7, 3) := by decide +kernel
theorem dX11_canHave_15 : decode cX11_canHave 15 = .ok (.iconst 1, 1) := by decide +kernel
theorem dX11_canHave_16 : decode cX11_canHave 16 = .ok (.goto 29, 3) := by decide +kernel
theorem dX11_canHave_19 : decode cX11_canHave 19 = .ok (.iconst 0, 1) := by decide +kernel
theorem dX11_canHave_20 : decode cX11_canHave 20 = .ok (.goto 25, 3) := by decide +kernel
theorem dX11_canHave_23 : decode cX11_canHave 23 = .ok (.iload_n 1, 1) := by decide +kernel
theorem dX11_canHave_24 : decode cX11_canHave 24 = .ok (.iconst 2, 1) := by decide +kernel
theorem dX11_canHave_25 : decode cX11_canHave 25 = .ok (.if_icmp .ne 15, 3) := by decide +kernel
theorem dX11_canHave_28 : decode cX11_canHave 28 = .ok (.aload_n 0, 1) := by decide +kernel
theorem dX11_canHave_29 : decode cX11_canHave 29 = .ok (.getfield 9, 3) := by decide +kernel
theorem dX11_canHave_32 : decode cX11_canHave 32 = .ok (.iload_n 2, 1) := by decide +kernel
theorem dX11_canHave_33 : decode cX11_canHave 33 = .ok (.aaload, 1) := by decide +kernel
theorem dX11_canHave_34 : decode cX11_canHave 34 = .ok (.iconst 1, 1) := by decide +kernel
theorem dX11_canHave_35 : decode cX11_canHave 35 = .ok (.iaload, 1) := by decide +kernel
theorem dX11_canHave_36 : decode cX11_canHave 36 = .ok (.iconst 3, 1) := by decide +kernel
theorem dX11_canHave_37 : decode cX11_canHave 37 = .ok (.if_icmp .lt 7, 3) := by decide +kernel
theorem dX11_canHave_40 : decode cX11_canHave 40 = .ok (.iconst 1, 1) := by decide +kernel
theorem dX11_canHave_41 : decode cX11_canHave 41 = .ok (.goto 4, 3) := by decide +kernel
theorem dX11_canHave_44 : decode cX11_canHave 44 = .ok (.iconst 0, 1) := by decide +kernel
theorem dX11_canHave_45 : decode cX11_canHave 45 = .ok (.ireturn, 1) := by decide +kernel
theorem dX11_turn_0 : decode cX11_turn 0 = .ok (.iload_n 1, 1) := by decide +kernel
theorem dX11_turn_1 : decode cX11_turn 1 = .ok (.iconst 0, 1) := by decide +kernel
theorem dX11_turn_2 : decode cX11_turn 2 = .ok (.iconst 2, 1) := by decide +kernel
theorem dX11_turn_3 : decode cX11_turn 3 = .ok (.invokestatic 163, 3) := by decide +kernel
theorem dX11_turn_6 : decode cX11_turn 6 = .ok (.ifCond .ne 5, 3) := by decide +kernel
theorem dX11_turn_9 : decode cX11_turn 9 = .ok (.iconst (-1), 1) := by decide +kernel
theorem dX11_turn_10 : decode cX11_turn 10 = .ok (.ireturn, 1) := by decide +kernel
theorem dX11_turn_11 : decode cX11_turn 11 = .ok (.aload_n 0, 1) := by decide +kernel
theorem dX11_turn_12 : decode cX11_turn 12 = .ok (.getfield 118, 3) := by decide +kernel
theorem dX11_turn_15 : decode cX11_turn 15 = .ok (.iload_n 1, 1) := by decide +kernel
theorem dX11_turn_16 : decode cX11_turn 16 = .ok (.iaload, 1) := by decide +kernel
theorem dX11_turn_17 : decode cX11_turn 17 = .ok (.istore_n 2, 1) := by decide +kernel
theorem dX11_turn_18 : decode cX11_turn 18 = .ok (.iload_n 1, 1) := by decide +kernel
theorem dX11_turn_19 : decode cX11_turn 19 = .ok (.iconst 1, 1) := by decide +kernel
theorem dX11_turn_20 : decode cX11_turn 20 = .ok (.if_icmp .ne 37, 3) := by decide +kernel
theorem dX11_turn_23 : decode cX11_turn 23 = .ok (.iload_n 2, 1) := by decide +kernel
theorem dX11_turn_24 : decode cX11_turn 24 = .ok (.ifCond .lt 33, 3) := by decide +kernel
theorem dX11_turn_27 : decode cX11_turn 27 = .ok (.aload_n 0, 1) := by decide +kernel
theorem dX11_turn_28 : decode cX11_turn 28 = .ok (.getfield 451, 3) := by decide +kernel
theorem dX11_turn_31 : decode cX11_turn 31 = .ok (.iconst 1, 1) := by decide +kernel
theorem dX11_turn_32 : decode cX11_turn 32 = .ok (.aload_n 0, 1) := by decide +kernel
theorem dX11_turn_33 : decode cX11_turn 33 = .ok (.iload_n 2, 1) := by decide +kernel
theorem dX11_turn_34 : decode cX11_turn 34 = .ok (.bipush 7, 2) := by decide +kernel
theorem dX11_turn_36 : decode cX11_turn 36 = .ok (.invokevirtual 366, 3) := by decide +kernel
theorem dX11_turn_39 : decode cX11_turn 39 = .ok (.invokestatic 371, 3) := by decide +kernel
theorem dX11_turn_42 : decode cX11_turn 42 = .ok (.if_icmp .ge 15, 3) := by decide +kernel
theorem dX11_turn_45 : decode cX11_turn 45 = .ok (.aload_n 0, 1) := by decide +kernel
theorem dX11_turn_46 : decode cX11_turn 46 = .ok (.dup, 1) := by decide +kernel
theorem dX11_turn_47 : decode cX11_turn 47 = .ok (.getfield 451, 3) := by decide +kernel
theorem dX11_turn_50 : decode cX11_turn 50 = .ok (.iconst 1, 1) := by decide +kernel
theorem dX11_turn_51 : decode cX11_turn 51 = .ok (.iadd, 1) := by decide +kernel
theorem dX11_turn_52 : decode cX11_turn 52 = .ok (.putfield 451, 3) := by decide +kernel
theorem dX11_turn_55 : decode cX11_turn 55 = .ok (.iload_n 2, 1) := by decide +kernel
theorem dX11_turn_56 : decode cX11_turn 56 = .ok (.ireturn, 1) := by decide +kernel
theorem dX11_turn_57 : decode cX11_turn 57 = .ok (.iconst 1, 1) := by decide +kernel
theorem dX11_turn_58 : decode cX11_turn 58 = .ok (.istore_n 3, 1) := by decide +kernel
theorem dX11_turn_59 : decode cX11_turn 59 = .ok (.iload_n 3, 1) := by decide +kernel
theorem dX11_turn_60 : decode cX11_turn 60 = .ok (.aload_n 0, 1) := by decide +kernel
theorem dX11_turn_61 : decode cX11_turn 61 = .ok (.getfield 160, 3) := by decide +kernel
theorem dX11_turn_64 : decode cX11_turn 64 = .ok (.if_icmp .gt 57, 3) := by decide +kernel
theorem dX11_turn_67 : decode cX11_turn 67 = .ok (.iload_n 2, 1) := by decide +kernel
theorem dX11_turn_68 : decode cX11_turn 68 = .ok (.iload_n 3, 1) := by decide +kernel
theorem dX11_turn_69 : decode cX11_turn 69 = .ok (.iadd, 1) := by decide +kernel
theorem dX11_turn_70 : decode cX11_turn 70 = .ok (.aload_n 0, 1) := by decide +kernel
theorem dX11_turn_71 : decode cX11_turn 71 = .ok (.getfield 160, 3) := by decide +kernel
theorem dX11_turn_74 : decode cX11_turn 74 = .ok (.irem, 1) := by decide +kernel
theorem dX11_turn_75 : decode cX11_turn 75 = .ok (.istore 4, 2) := by decide +kernel
theorem dX11_turn_77 : decode cX11_turn 77 = .ok (.aload_n 0, 1) := by decide +kernel
theorem dX11_turn_78 : decode cX11_turn 78 = .ok (.iload_n 1, 1) := by decide +kernel
theorem dX11_turn_79 : decode cX11_turn 79 = .ok (.iload 4, 2) := by decide +kernel
theorem dX11_turn_81 : decode cX11_turn 81 = .ok (.invokevirtual 454, 3) := by decide +kernel
theorem dX11_turn_84 : decode cX11_turn 84 = .ok (.ifCond .eq 31, 3) := by decide +kernel
theorem dX11_turn_87 : decode cX11_turn 87 = .ok (.aload_n 0, 1) := by decide +kernel
theorem dX11_turn_88 : decode cX11_turn 88 = .ok (.getfield 118, 3) := by decide +kernel
theorem dX11_turn_91 : decode cX11_turn 91 = .ok (.iload_n 1, 1) := by decide +kernel
theorem dX11_turn_92 : decode cX11_turn 92 = .ok (.iload 4, 2) := by decide +kernel
theorem dX11_turn_94 : decode cX11_turn 94 = .ok (.iastore, 1) := by decide +kernel
theorem dX11_turn_95 : decode cX11_turn 95 = .ok (.aload_n 0, 1) := by decide +kernel
theorem dX11_turn_96 : decode cX11_turn 96 = .ok (.iload_n 1, 1) := by decide +kernel
theorem dX11_turn_97 : decode cX11_turn 97 = .ok (.iconst 1, 1) := by decide +kernel
theorem dX11_turn_98 : decode cX11_turn 98 = .ok (.if_icmp .ne 7, 3) := by decide +kernel
theorem dX11_turn_101 : decode cX11_turn 101 = .ok (.iconst 1, 1) := by decide +kernel
theorem dX11_turn_102 : decode cX11_turn 102 = .ok (.goto 7, 3) := by decide +kernel
theorem dX11_turn_105 : decode cX11_turn 105 = .ok (.aload_n 0, 1) := by decide +kernel
theorem dX11_turn_106 : decode cX11_turn 106 = .ok (.getfield 451, 3) := by decide +kernel
theorem dX11_turn_109 : decode cX11_turn 109 = .ok (.putfield 451, 3) := by decide +kernel
theorem dX11_turn_112 : decode cX11_turn 112 = .ok (.iload 4, 2) := by decide +kernel
theorem dX11_turn_114 : decode cX11_turn 114 = .ok (.ireturn, 1) := by decide +kernel
theorem dX11_turn_115 : decode cX11_turn 115 = .ok (.iinc 3 1, 3) := by decide +kernel
theorem dX11_turn_118 : decode cX11_turn 118 = .ok (.goto (-59), 3) := by decide +kernel
theorem dX11_turn_121 : decode cX11_turn 121 = .ok (.iconst (-1), 1) := by decide +kernel
theorem dX11_turn_122 : decode cX11_turn 122 = .ok (.ireturn, 1) := by decide +kernel
theorem dX11_work_0 : decode cX11_work 0 = .ok (.aload_n 0, 1) := by decide +kernel
theorem dX11_work_1 : decode cX11_work 1 = .ok (.iload_n 1, 1) := by decide +kernel
theorem dX11_work_2 : decode cX11_work 2 = .ok (.invokevirtual 181, 3) := by decide +kernel
theorem dX11_work_5 : decode cX11_work 5 = .ok (.ifCond .ne 5, 3) := by decide +kernel
theorem dX11_work_8 : decode cX11_work 8 = .ok (.iconst (-1), 1) := by decide +kernel
theorem dX11_work_9 : decode cX11_work 9 = .ok (.ireturn, 1) := by decide +kernel
theorem dX11_work_10 : decode cX11_work 10 = .ok (.iload_n 2, 1) := by decide +kernel
theorem dX11_work_11 : decode cX11_work 11 = .ok (.iconst 1, 1) := by decide +kernel
theorem dX11_work_12 : decode cX11_work 12 = .ok (.sipush 999, 3) := by decide +kernel
theorem dX11_work_15 : decode cX11_work 15 = .ok (.invokestatic 163, 3) := by decide +kernel
theorem dX11_work_18 : decode cX11_work 18 = .ok (.ifCond .ne 6, 3) := by decide +kernel
theorem dX11_work_21 : decode cX11_work 21 = .ok (.bipush (-2), 2) := by decide +kernel
theorem dX11_work_23 : decode cX11_work 23 = .ok (.ireturn, 1) := by decide +kernel
theorem dX11_work_24 : decode cX11_work 24 = .ok (.aload_n 0, 1) := by decide +kernel
theorem dX11_work_25 : decode cX11_work 25 = .ok (.getfield 36, 3) := by decide +kernel
theorem dX11_work_28 : decode cX11_work 28 = .ok (.iload_n 1, 1) := by decide +kernel
theorem dX11_work_29 : decode cX11_work 29 = .ok (.dup2, 1) := by decide +kernel
theorem dX11_work_30 : decode cX11_work 30 = .ok (.iaload, 1) := by decide +kernel
theorem dX11_work_31 : decode cX11_work 31 = .ok (.iload_n 2, 1) := by decide +kernel
theorem dX11_work_32 : decode cX11_work 32 = .ok (.iadd, 1) := by decide +kernel
theorem dX11_work_33 : decode cX11_work 33 = .ok (.iastore, 1) := by decide +kernel
theorem dX11_work_34 : decode cX11_work 34 = .ok (.aload_n 0, 1) := by decide +kernel
theorem dX11_work_35 : decode cX11_work 35 = .ok (.getfield 36, 3) := by decide +kernel
theorem dX11_work_38 : decode cX11_work 38 = .ok (.iload_n 1, 1) := by decide +kernel
theorem dX11_work_39 : decode cX11_work 39 = .ok (.iaload, 1) := by decide +kernel
theorem dX11_work_40 : decode cX11_work 40 = .ok (.ireturn, 1) := by decide +kernel
theorem dX11_owes_0 : decode cX11_owes 0 = .ok (.aload_n 0, 1) := by decide +kernel
theorem dX11_owes_1 : decode cX11_owes 1 = .ok (.getfield 9, 3) := by decide +kernel
theorem dX11_owes_4 : decode cX11_owes 4 = .ok (.iload_n 1, 1) := by decide +kernel
theorem dX11_owes_5 : decode cX11_owes 5 = .ok (.aaload, 1) := by decide +kernel
theorem dX11_owes_6 : decode cX11_owes 6 = .ok (.iconst 4, 1) := by decide +kernel
theorem dX11_owes_7 : decode cX11_owes 7 = .ok (.iaload, 1) := by decide +kernel
theorem dX11_owes_8 : decode cX11_owes 8 = .ok (.istore 4, 2) := by decide +kernel
theorem dX11_owes_10 : decode cX11_owes 10 = .ok (.aload_n 0, 1) := by decide +kernel
theorem dX11_owes_11 : decode cX11_owes 11 = .ok (.getfield 9, 3) := by decide +kernel
theorem dX11_owes_14 : decode cX11_owes 14 = .ok (.iload_n 1, 1) := by decide +kernel
theorem dX11_owes_15 : decode cX11_owes 15 = .ok (.aaload, 1) := by decide +kernel
theorem dX11_owes_16 : decode cX11_owes 16 = .ok (.iconst 4, 1) := by decide +kernel
theorem dX11_owes_17 : decode cX11_owes 17 = .ok (.ldc2_w 457, 3) := by decide +kernel
theorem dX11_owes_20 : decode cX11_owes 20 = .ok (.iload 4, 2) := by decide +kernel
theorem dX11_owes_22 : decode cX11_owes 22 = .ok (.i2l, 1) := by decide +kernel
theorem dX11_owes_23 : decode cX11_owes 23 = .ok (.lload_n 2, 1) := by decide +kernel
theorem dX11_owes_24 : decode cX11_owes 24 = .ok (.ladd, 1) := by decide +kernel
theorem dX11_owes_25 : decode cX11_owes 25 = .ok (.invokestatic 439, 3) := by decide +kernel
theorem dX11_owes_28 : decode cX11_owes 28 = .ok (.l2i, 1) := by decide +kernel
theorem dX11_owes_29 : decode cX11_owes 29 = .ok (.iastore, 1) := by decide +kernel
theorem dX11_owes_30 : decode cX11_owes 30 = .ok (.aload_n 0, 1) := by decide +kernel
theorem dX11_owes_31 : decode cX11_owes 31 = .ok (.getfield 9, 3) := by decide +kernel
theorem dX11_owes_34 : decode cX11_owes 34 = .ok (.iload_n 1, 1) := by decide +kernel
theorem dX11_owes_35 : decode cX11_owes 35 = .ok (.aaload, 1) := by decide +kernel
theorem dX11_owes_36 : decode cX11_owes 36 = .ok (.iconst 4, 1) := by decide +kernel
theorem dX11_owes_37 : decode cX11_owes 37 = .ok (.iaload, 1) := by decide +kernel
theorem dX11_owes_38 : decode cX11_owes 38 = .ok (.iload 4, 2) := by decide +kernel
theorem dX11_owes_40 : decode cX11_owes 40 = .ok (.isub, 1) := by decide +kernel
theorem dX11_owes_41 : decode cX11_owes 41 = .ok (.ireturn, 1) := by decide +kernel
theorem dX11_year_0 : decode cX11_year 0 = .ok (.aload_n 0, 1) := by decide +kernel
theorem dX11_year_1 : decode cX11_year 1 = .ok (.getfield 121, 3) := by decide +kernel
theorem dX11_year_4 : decode cX11_year 4 = .ok (.aload_n 0, 1) := by decide +kernel
theorem dX11_year_5 : decode cX11_year 5 = .ok (.getfield 193, 3) := by decide +kernel
theorem dX11_year_8 : decode cX11_year 8 = .ok (.sipush 360, 3) := by decide +kernel
theorem dX11_year_11 : decode cX11_year 11 = .ok (.idiv, 1) := by decide +kernel
theorem dX11_year_12 : decode cX11_year 12 = .ok (.if_icmp .ne 6, 3) := by decide +kernel
theorem dX11_year_15 : decode cX11_year 15 = .ok (.bipush (-3), 2) := by decide +kernel
theorem dX11_year_17 : decode cX11_year 17 = .ok (.ireturn, 1) := by decide +kernel
theorem dX11_year_18 : decode cX11_year 18 = .ok (.aload_n 0, 1) := by decide +kernel
theorem dX11_year_19 : decode cX11_year 19 = .ok (.aload_n 0, 1) := by decide +kernel
theorem dX11_year_20 : decode cX11_year 20 = .ok (.getfield 193, 3) := by decide +kernel
theorem dX11_year_23 : decode cX11_year 23 = .ok (.sipush 360, 3) := by decide +kernel
theorem dX11_year_26 : decode cX11_year 26 = .ok (.idiv, 1) := by decide +kernel
theorem dX11_year_27 : decode cX11_year 27 = .ok (.putfield 121, 3) := by decide +kernel
theorem dX11_year_30 : decode cX11_year 30 = .ok (.iconst 0, 1) := by decide +kernel
theorem dX11_year_31 : decode cX11_year 31 = .ok (.istore_n 1, 1) := by decide +kernel
theorem dX11_year_32 : decode cX11_year 32 = .ok (.iconst 0, 1) := by decide +kernel
theorem dX11_year_33 : decode cX11_year 33 = .ok (.istore_n 2, 1) := by decide +kernel
theorem dX11_year_34 : decode cX11_year 34 = .ok (.iload_n 2, 1) := by decide +kernel
theorem dX11_year_35 : decode cX11_year 35 = .ok (.aload_n 0, 1) := by decide +kernel
theorem dX11_year_36 : decode cX11_year 36 = .ok (.getfield 160, 3) := by decide +kernel
theorem dX11_year_39 : decode cX11_year 39 = .ok (.if_icmp .ge 61, 3) := by decide +kernel
theorem dX11_year_42 : decode cX11_year 42 = .ok (.iconst 0, 1) := by decide +kernel
theorem dX11_year_43 : decode cX11_year 43 = .ok (.aload_n 0, 1) := by decide +kernel
theorem dX11_year_44 : decode cX11_year 44 = .ok (.iload_n 2, 1) := by decide +kernel
theorem dX11_year_45 : decode cX11_year 45 = .ok (.iconst 4, 1) := by decide +kernel
theorem dX11_year_46 : decode cX11_year 46 = .ok (.invokevirtual 366, 3) := by decide +kernel
theorem dX11_year_49 : decode cX11_year 49 = .ok (.aload_n 0, 1) := by decide +kernel
theorem dX11_year_50 : decode cX11_year 50 = .ok (.getfield 9, 3) := by decide +kernel
theorem dX11_year_53 : decode cX11_year 53 = .ok (.iload_n 2, 1) := by decide +kernel
theorem dX11_year_54 : decode cX11_year 54 = .ok (.aaload, 1) := by decide +kernel
theorem dX11_year_55 : decode cX11_year 55 = .ok (.iconst 1, 1) := by decide +kernel
theorem dX11_year_56 : decode cX11_year 56 = .ok (.iaload, 1) := by decide +kernel
theorem dX11_year_57 : decode cX11_year 57 = .ok (.imul, 1) := by decide +kernel
theorem dX11_year_58 : decode cX11_year 58 = .ok (.aload_n 0, 1) := by decide +kernel
theorem dX11_year_59 : decode cX11_year 59 = .ok (.getfield 36, 3) := by decide +kernel
theorem dX11_year_62 : decode cX11_year 62 = .ok (.iload_n 2, 1) := by decide +kernel
theorem dX11_year_63 : decode cX11_year 63 = .ok (.iaload, 1) := by decide +kernel
theorem dX11_year_64 : decode cX11_year 64 = .ok (.isub, 1) := by decide +kernel
theorem dX11_year_65 : decode cX11_year 65 = .ok (.invokestatic 371, 3) := by decide +kernel
theorem dX11_year_68 : decode cX11_year 68 = .ok (.istore_n 3, 1) := by decide +kernel
theorem dX11_year_69 : decode cX11_year 69 = .ok (.iload_n 1, 1) := by decide +kernel
theorem dX11_year_70 : decode cX11_year 70 = .ok (.aload_n 0, 1) := by decide +kernel
theorem dX11_year_71 : decode cX11_year 71 = .ok (.iload_n 2, 1) := by decide +kernel
theorem dX11_year_72 : decode cX11_year 72 = .ok (.iload_n 3, 1) := by decide +kernel
theorem dX11_year_73 : decode cX11_year 73 = .ok (.i2l, 1) := by decide +kernel
theorem dX11_year_74 : decode cX11_year 74 = .ok (.aload_n 0, 1) := by decide +kernel
theorem dX11_year_75 : decode cX11_year 75 = .ok (.iload_n 2, 1) := by decide +kernel
theorem dX11_year_76 : decode cX11_year 76 = .ok (.iconst 5, 1) := by decide +kernel
theorem dX11_year_77 : decode cX11_year 77 = .ok (.invokevirtual 366, 3) := by decide +kernel
theorem dX11_year_80 : decode cX11_year 80 = .ok (.i2l, 1) := by decide +kernel
theorem dX11_year_81 : decode cX11_year 81 = .ok (.lmul, 1) := by decide +kernel
theorem dX11_year_82 : decode cX11_year 82 = .ok (.invokevirtual 381, 3) := by decide +kernel
theorem dX11_year_85 : decode cX11_year 85 = .ok (.iadd, 1) := by decide +kernel
theorem dX11_year_86 : decode cX11_year 86 = .ok (.istore_n 1, 1) := by decide +kernel
theorem dX11_year_87 : decode cX11_year 87 = .ok (.aload_n 0, 1) := by decide +kernel
theorem dX11_year_88 : decode cX11_year 88 = .ok (.getfield 36, 3) := by decide +kernel
theorem dX11_year_91 : decode cX11_year 91 = .ok (.iload_n 2, 1) := by decide +kernel
theorem dX11_year_92 : decode cX11_year 92 = .ok (.iconst 0, 1) := by decide +kernel
theorem dX11_year_93 : decode cX11_year 93 = .ok (.iastore, 1) := by decide +kernel
theorem dX11_year_94 : decode cX11_year 94 = .ok (.iinc 2 1, 3) := by decide +kernel
theorem dX11_year_97 : decode cX11_year 97 = .ok (.goto (-63), 3) := by decide +kernel
theorem dX11_year_100 : decode cX11_year 100 = .ok (.iload_n 1, 1) := by decide +kernel
theorem dX11_year_101 : decode cX11_year 101 = .ok (.ireturn, 1) := by decide +kernel
theorem dX11_tried_0 : decode cX11_tried 0 = .ok (.aload_n 0, 1) := by decide +kernel
theorem dX11_tried_1 : decode cX11_tried 1 = .ok (.getfield 80, 3) := by decide +kernel
theorem dX11_tried_4 : decode cX11_tried 4 = .ok (.astore_n 3, 1) := by decide +kernel
theorem dX11_tried_5 : decode cX11_tried 5 = .ok (.aload_n 0, 1) := by decide +kernel
theorem dX11_tried_6 : decode cX11_tried 6 = .ok (.getfield 83, 3) := by decide +kernel
theorem dX11_tried_9 : decode cX11_tried 9 = .ok (.astore 4, 2) := by decide +kernel
theorem dX11_tried_11 : decode cX11_tried 11 = .ok (.aload_n 0, 1) := by decide +kernel
theorem dX11_tried_12 : decode cX11_tried 12 = .ok (.getfield 39, 3) := by decide +kernel
theorem dX11_tried_15 : decode cX11_tried 15 = .ok (.astore 5, 2) := by decide +kernel
theorem dX11_tried_17 : decode cX11_tried 17 = .ok (.aload_n 3, 1) := by decide +kernel
theorem dX11_tried_18 : decode cX11_tried 18 = .ok (.iconst 0, 1) := by decide +kernel
theorem dX11_tried_19 : decode cX11_tried 19 = .ok (.aload_n 0, 1) := by decide +kernel
theorem dX11_tried_20 : decode cX11_tried 20 = .ok (.getfield 145, 3) := by decide +kernel
theorem dX11_tried_23 : decode cX11_tried 23 = .ok (.iconst 0, 1) := by decide +kernel
theorem dX11_tried_24 : decode cX11_tried 24 = .ok (.iconst 4, 1) := by decide +kernel
theorem dX11_tried_25 : decode cX11_tried 25 = .ok (.invokestatic 304, 3) := by decide +kernel
theorem dX11_tried_28 : decode cX11_tried 28 = .ok (.aload 4, 2) := by decide +kernel
theorem dX11_tried_30 : decode cX11_tried 30 = .ok (.iconst 0, 1) := by decide +kernel
theorem dX11_tried_31 : decode cX11_tried 31 = .ok (.aload_n 0, 1) := by decide +kernel
theorem dX11_tried_32 : decode cX11_tried 32 = .ok (.getfield 148, 3) := by decide +kernel
theorem dX11_tried_35 : decode cX11_tried 35 = .ok (.iconst 0, 1) := by decide +kernel
theorem dX11_tried_36 : decode cX11_tried 36 = .ok (.iconst 4, 1) := by decide +kernel
theorem dX11_tried_37 : decode cX11_tried 37 = .ok (.invokestatic 304, 3) := by decide +kernel
theorem dX11_tried_40 : decode cX11_tried 40 = .ok (.iconst 0, 1) := by decide +kernel
theorem dX11_tried_41 : decode cX11_tried 41 = .ok (.istore 6, 2) := by decide +kernel
theorem dX11_tried_43 : decode cX11_tried 43 = .ok (.iload 6, 2) := by decide +kernel
theorem dX11_tried_45 : decode cX11_tried 45 = .ok (.iconst 4, 1) := by decide +kernel
theorem dX11_tried_46 : decode cX11_tried 46 = .ok (.if_icmp .ge 28, 3) := by decide +kernel
theorem dX11_tried_49 : decode cX11_tried 49 = .ok (.aload 5, 2) := by decide +kernel
theorem dX11_tried_51 : decode cX11_tried 51 = .ok (.iload 6, 2) := by decide +kernel
theorem dX11_tried_53 : decode cX11_tried 53 = .ok (.aaload, 1) := by decide +kernel
theorem dX11_tried_54 : decode cX11_tried 54 = .ok (.iconst 0, 1) := by decide +kernel
theorem dX11_tried_55 : decode cX11_tried 55 = .ok (.aload_n 0, 1) := by decide +kernel
theorem dX11_tried_56 : decode cX11_tried 56 = .ok (.getfield 151, 3) := by decide +kernel
theorem dX11_tried_59 : decode cX11_tried 59 = .ok (.iload 6, 2) := by decide +kernel
theorem dX11_tried_61 : decode cX11_tried 61 = .ok (.aaload, 1) := by decide +kernel
theorem dX11_tried_62 : decode cX11_tried 62 = .ok (.iconst 0, 1) := by decide +kernel
theorem dX11_tried_63 : decode cX11_tried 63 = .ok (.bipush 10, 2) := by decide +kernel
theorem dX11_tried_65 : decode cX11_tried 65 = .ok (.invokestatic 304, 3) := by decide +kernel
theorem dX11_tried_68 : decode cX11_tried 68 = .ok (.iinc 6 1, 3) := by decide +kernel
theorem dX11_tried_71 : decode cX11_tried 71 = .ok (.goto (-28), 3) := by decide +kernel
theorem dX11_tried_74 : decode cX11_tried 74 = .ok (.iconst 0, 1) := by decide +kernel
theorem dX11_tried_75 : decode cX11_tried 75 = .ok (.istore 6, 2) := by decide +kernel
theorem dX11_tried_77 : decode cX11_tried 77 = .ok (.iconst 0, 1) := by decide +kernel
theorem dX11_tried_78 : decode cX11_tried 78 = .ok (.istore 7, 2) := by decide +kernel
theorem dX11_tried_80 : decode cX11_tried 80 = .ok (.iload 7, 2) := by decide +kernel
theorem dX11_tried_82 : decode cX11_tried 82 = .ok (.aload_n 0, 1) := by decide +kernel
theorem dX11_tried_83 : decode cX11_tried 83 = .ok (.getfield 160, 3) := by decide +kernel
theorem dX11_tried_86 : decode cX11_tried 86 = .ok (.if_icmp .ge 75, 3) := by decide +kernel
theorem dX11_tried_89 : decode cX11_tried 89 = .ok (.iload_n 1, 1) := by decide +kernel
theorem dX11_tried_90 : decode cX11_tried 90 = .ok (.iload 7, 2) := by decide +kernel
theorem dX11_tried_92 : decode cX11_tried 92 = .ok (.ishr, 1) := by decide +kernel
theorem dX11_tried_93 : decode cX11_tried 93 = .ok (.iconst 1, 1) := by decide +kernel
theorem dX11_tried_94 : decode cX11_tried 94 = .ok (.iand, 1) := by decide +kernel
theorem dX11_tried_95 : decode cX11_tried 95 = .ok (.iconst 1, 1) := by decide +kernel
theorem dX11_tried_96 : decode cX11_tried 96 = .ok (.if_icmp .ne 59, 3) := by decide +kernel
theorem dX11_tried_99 : decode cX11_tried 99 = .ok (.iconst 0, 1) := by decide +kernel
theorem dX11_tried_100 : decode cX11_tried 100 = .ok (.istore 8, 2) := by decide +kernel
theorem dX11_tried_102 : decode cX11_tried 102 = .ok (.iload 8, 2) := by decide +kernel
theorem dX11_tried_104 : decode cX11_tried 104 = .ok (.aload_n 0, 1) := by decide +kernel
theorem dX11_tried_105 : decode cX11_tried 105 = .ok (.getfield 170, 3) := by decide +kernel
theorem dX11_tried_108 : decode cX11_tried 108 = .ok (.if_icmp .ge 44, 3) := by decide +kernel
theorem dX11_tried_111 : decode cX11_tried 111 = .ok (.aload_n 0, 1) := by decide +kernel
theorem dX11_tried_112 : decode cX11_tried 112 = .ok (.getfield 151, 3) := by decide +kernel
theorem dX11_tried_115 : decode cX11_tried 115 = .ok (.iload 8, 2) := by decide +kernel
theorem dX11_tried_117 : decode cX11_tried 117 = .ok (.aaload, 1) := by decide +kernel
theorem dX11_tried_118 : decode cX11_tried 118 = .ok (.iload 7, 2) := by decide +kernel
theorem dX11_tried_120 : decode cX11_tried 120 = .ok (.iload 8, 2) := by decide +kernel
theorem dX11_tried_122 : decode cX11_tried 122 = .ok (.aload_n 0, 1) := by decide +kernel
theorem dX11_tried_123 : decode cX11_tried 123 = .ok (.getfield 154, 3) := by decide +kernel
theorem dX11_tried_126 : decode cX11_tried 126 = .ok (.iload 6, 2) := by decide +kernel
theorem dX11_tried_128 : decode cX11_tried 128 = .ok (.iaload, 1) := by decide +kernel
theorem dX11_tried_129 : decode cX11_tried 129 = .ok (.if_icmp .ne 15, 3) := by decide +kernel
theorem dX11_tried_132 : decode cX11_tried 132 = .ok (.aload_n 0, 1) := by decide +kernel
theorem dX11_tried_133 : decode cX11_tried 133 = .ok (.getfield 9, 3) := by decide +kernel
theorem dX11_tried_136 : decode cX11_tried 136 = .ok (.iload 7, 2) := by decide +kernel
theorem dX11_tried_138 : decode cX11_tried 138 = .ok (.aaload, 1) := by decide +kernel
theorem dX11_tried_139 : decode cX11_tried 139 = .ok (.iconst 2, 1) := by decide +kernel
theorem dX11_tried_140 : decode cX11_tried 140 = .ok (.iaload, 1) := by decide +kernel
theorem dX11_tried_141 : decode cX11_tried 141 = .ok (.goto 4, 3) := by decide +kernel
theorem dX11_tried_144 : decode cX11_tried 144 = .ok (.iconst 0, 1) := by decide +kernel
theorem dX11_tried_145 : decode cX11_tried 145 = .ok (.iastore, 1) := by decide +kernel
theorem dX11_tried_146 : decode cX11_tried 146 = .ok (.iinc 8 1, 3) := by decide +kernel
theorem dX11_tried_149 : decode cX11_tried 149 = .ok (.goto (-47), 3) := by decide +kernel
theorem dX11_tried_152 : decode cX11_tried 152 = .ok (.iinc 6 1, 3) := by decide +kernel
theorem dX11_tried_155 : decode cX11_tried 155 = .ok (.iinc 7 1, 3) := by decide +kernel
theorem dX11_tried_158 : decode cX11_tried 158 = .ok (.goto (-78), 3) := by decide +kernel
theorem dX11_tried_161 : decode cX11_tried 161 = .ok (.aload_n 0, 1) := by decide +kernel
theorem dX11_tried_162 : decode cX11_tried 162 = .ok (.aload_n 0, 1) := by decide +kernel
theorem dX11_tried_163 : decode cX11_tried 163 = .ok (.getfield 145, 3) := by decide +kernel
theorem dX11_tried_166 : decode cX11_tried 166 = .ok (.putfield 80, 3) := by decide +kernel
theorem dX11_tried_169 : decode cX11_tried 169 = .ok (.aload_n 0, 1) := by decide +kernel
theorem dX11_tried_170 : decode cX11_tried 170 = .ok (.aload_n 0, 1) := by decide +kernel
theorem dX11_tried_171 : decode cX11_tried 171 = .ok (.getfield 148, 3) := by decide +kernel
theorem dX11_tried_174 : decode cX11_tried 174 = .ok (.putfield 83, 3) := by decide +kernel
theorem dX11_tried_177 : decode cX11_tried 177 = .ok (.aload_n 0, 1) := by decide +kernel
theorem dX11_tried_178 : decode cX11_tried 178 = .ok (.aload_n 0, 1) := by decide +kernel
theorem dX11_tried_179 : decode cX11_tried 179 = .ok (.getfield 151, 3) := by decide +kernel
theorem dX11_tried_182 : decode cX11_tried 182 = .ok (.putfield 39, 3) := by decide +kernel
theorem dX11_tried_185 : decode cX11_tried 185 = .ok (.iconst 0, 1) := by decide +kernel
theorem dX11_tried_186 : decode cX11_tried 186 = .ok (.istore 7, 2) := by decide +kernel
theorem dX11_tried_188 : decode cX11_tried 188 = .ok (.aload_n 0, 1) := by decide +kernel
theorem dX11_tried_189 : decode cX11_tried 189 = .ok (.getfield 193, 3) := by decide +kernel
theorem dX11_tried_192 : decode cX11_tried 192 = .ok (.istore 8, 2) := by decide +kernel
theorem dX11_tried_194 : decode cX11_tried 194 = .ok (.iload 8, 2) := by decide +kernel
theorem dX11_tried_196 : decode cX11_tried 196 = .ok (.aload_n 0, 1) := by decide +kernel
theorem dX11_tried_197 : decode cX11_tried 197 = .ok (.getfield 193, 3) := by decide +kernel
theorem dX11_tried_200 : decode cX11_tried 200 = .ok (.iload_n 2, 1) := by decide +kernel
theorem dX11_tried_201 : decode cX11_tried 201 = .ok (.iadd, 1) := by decide +kernel
theorem dX11_tried_202 : decode cX11_tried 202 = .ok (.if_icmp .ge 95, 3) := by decide +kernel
theorem dX11_tried_205 : decode cX11_tried 205 = .ok (.iconst 0, 1) := by decide +kernel
theorem dX11_tried_206 : decode cX11_tried 206 = .ok (.istore 9, 2) := by decide +kernel
theorem dX11_tried_208 : decode cX11_tried 208 = .ok (.iload 9, 2) := by decide +kernel
theorem dX11_tried_210 : decode cX11_tried 210 = .ok (.aload_n 0, 1) := by decide +kernel
theorem dX11_tried_211 : decode cX11_tried 211 = .ok (.getfield 170, 3) := by decide +kernel
theorem dX11_tried_214 : decode cX11_tried 214 = .ok (.if_icmp .ge 17, 3) := by decide +kernel
theorem dX11_tried_217 : decode cX11_tried 217 = .ok (.aload_n 0, 1) := by decide +kernel
theorem dX11_tried_218 : decode cX11_tried 218 = .ok (.iload 9, 2) := by decide +kernel
theorem dX11_tried_220 : decode cX11_tried 220 = .ok (.iload 8, 2) := by decide +kernel
theorem dX11_tried_222 : decode cX11_tried 222 = .ok (.invokevirtual 374, 3) := by decide +kernel
theorem dX11_tried_225 : decode cX11_tried 225 = .ok (.iinc 9 1, 3) := by decide +kernel
theorem dX11_tried_228 : decode cX11_tried 228 = .ok (.goto (-20), 3) := by decide +kernel
theorem dX11_tried_231 : decode cX11_tried 231 = .ok (.iconst 0, 1) := by decide +kernel
theorem dX11_tried_232 : decode cX11_tried 232 = .ok (.istore 9, 2) := by decide +kernel
theorem dX11_tried_234 : decode cX11_tried 234 = .ok (.iload 9, 2) := by decide +kernel
theorem dX11_tried_236 : decode cX11_tried 236 = .ok (.aload_n 0, 1) := by decide +kernel
theorem dX11_tried_237 : decode cX11_tried 237 = .ok (.getfield 170, 3) := by decide +kernel
theorem dX11_tried_240 : decode cX11_tried 240 = .ok (.if_icmp .ge 51, 3) := by decide +kernel
theorem dX11_tried_243 : decode cX11_tried 243 = .ok (.iconst 0, 1) := by decide +kernel
theorem dX11_tried_244 : decode cX11_tried 244 = .ok (.istore 10, 2) := by decide +kernel
theorem dX11_tried_246 : decode cX11_tried 246 = .ok (.iload 10, 2) := by decide +kernel
theorem dX11_tried_248 : decode cX11_tried 248 = .ok (.aload_n 0, 1) := by decide +kernel
theorem dX11_tried_249 : decode cX11_tried 249 = .ok (.getfield 160, 3) := by decide +kernel
theorem dX11_tried_252 : decode cX11_tried 252 = .ok (.if_icmp .ge 33, 3) := by decide +kernel
theorem dX11_tried_255 : decode cX11_tried 255 = .ok (.iload 7, 2) := by decide +kernel
theorem dX11_tried_257 : decode cX11_tried 257 = .ok (.aload_n 0, 1) := by decide +kernel
theorem dX11_tried_258 : decode cX11_tried 258 = .ok (.getfield 39, 3) := by decide +kernel
theorem dX11_tried_261 : decode cX11_tried 261 = .ok (.iload 9, 2) := by decide +kernel
theorem dX11_tried_263 : decode cX11_tried 263 = .ok (.aaload, 1) := by decide +kernel
theorem dX11_tried_264 : decode cX11_tried 264 = .ok (.iload 10, 2) := by decide +kernel
theorem dX11_tried_266 : decode cX11_tried 266 = .ok (.iaload, 1) := by decide +kernel
theorem dX11_tried_267 : decode cX11_tried 267 = .ok (.aload_n 0, 1) := by decide +kernel
theorem dX11_tried_268 : decode cX11_tried 268 = .ok (.iload 9, 2) := by decide +kernel
theorem dX11_tried_270 : decode cX11_tried 270 = .ok (.iload 10, 2) := by decide +kernel
theorem dX11_tried_272 : decode cX11_tried 272 = .ok (.invokevirtual 378, 3) := by decide +kernel
theorem dX11_tried_275 : decode cX11_tried 275 = .ok (.isub, 1) := by decide +kernel
theorem dX11_tried_276 : decode cX11_tried 276 = .ok (.iadd, 1) := by decide +kernel
theorem dX11_tried_277 : decode cX11_tried 277 = .ok (.istore 7, 2) := by decide +kernel
theorem dX11_tried_279 : decode cX11_tried 279 = .ok (.iinc 10 1, 3) := by decide +kernel
theorem dX11_tried_282 : decode cX11_tried 282 = .ok (.goto (-36), 3) := by decide +kernel
theorem dX11_tried_285 : decode cX11_tried 285 = .ok (.iinc 9 1, 3) := by decide +kernel
theorem dX11_tried_288 : decode cX11_tried 288 = .ok (.goto (-54), 3) := by decide +kernel
theorem dX11_tried_291 : decode cX11_tried 291 = .ok (.iinc 8 1, 3) := by decide +kernel
theorem dX11_tried_294 : decode cX11_tried 294 = .ok (.goto (-100), 3) := by decide +kernel
theorem dX11_tried_297 : decode cX11_tried 297 = .ok (.aload_n 0, 1) := by decide +kernel
theorem dX11_tried_298 : decode cX11_tried 298 = .ok (.aload_n 3, 1) := by decide +kernel
theorem dX11_tried_299 : decode cX11_tried 299 = .ok (.putfield 80, 3) := by decide +kernel
theorem dX11_tried_302 : decode cX11_tried 302 = .ok (.aload_n 0, 1) := by decide +kernel
theorem dX11_tried_303 : decode cX11_tried 303 = .ok (.aload 4, 2) := by decide +kernel
theorem dX11_tried_305 : decode cX11_tried 305 = .ok (.putfield 83, 3) := by decide +kernel
theorem dX11_tried_308 : decode cX11_tried 308 = .ok (.aload_n 0, 1) := by decide +kernel
theorem dX11_tried_309 : decode cX11_tried 309 = .ok (.aload 5, 2) := by decide +kernel
theorem dX11_tried_311 : decode cX11_tried 311 = .ok (.putfield 39, 3) := by decide +kernel
theorem dX11_tried_314 : decode cX11_tried 314 = .ok (.iload 7, 2) := by decide +kernel
theorem dX11_tried_316 : decode cX11_tried 316 = .ok (.ireturn, 1) := by decide +kernel
theorem dX11_plan_0 : decode cX11_plan 0 = .ok (.iload_n 1, 1) := by decide +kernel
theorem dX11_plan_1 : decode cX11_plan 1 = .ok (.invokestatic 317, 3) := by decide +kernel
theorem dX11_plan_4 : decode cX11_plan 4 = .ok (.istore 4, 2) := by decide +kernel
theorem dX11_plan_6 : decode cX11_plan 6 = .ok (.iload_n 1, 1) := by decide +kernel
theorem dX11_plan_7 : decode cX11_plan 7 = .ok (.iconst 1, 1) := by decide +kernel
theorem dX11_plan_8 : decode cX11_plan 8 = .ok (.aload_n 0, 1) := by decide +kernel
theorem dX11_plan_9 : decode cX11_plan 9 = .ok (.getfield 160, 3) := by decide +kernel
theorem dX11_plan_12 : decode cX11_plan 12 = .ok (.ishl, 1) := by decide +kernel
theorem dX11_plan_13 : decode cX11_plan 13 = .ok (.iconst 1, 1) := by decide +kernel
theorem dX11_plan_14 : decode cX11_plan 14 = .ok (.isub, 1) := by decide +kernel
theorem dX11_plan_15 : decode cX11_plan 15 = .ok (.iconst (-1), 1) := by decide +kernel
theorem dX11_plan_16 : decode cX11_plan 16 = .ok (.ixor, 1) := by decide +kernel
theorem dX11_plan_17 : decode cX11_plan 17 = .ok (.iand, 1) := by decide +kernel
theorem dX11_plan_18 : decode cX11_plan 18 = .ok (.ifCond .ne 24, 3) := by decide +kernel
theorem dX11_plan_21 : decode cX11_plan 21 = .ok (.iload_n 1, 1) := by decide +kernel
theorem dX11_plan_22 : decode cX11_plan 22 = .ok (.ifCond .eq 20, 3) := by decide +kernel
theorem dX11_plan_25 : decode cX11_plan 25 = .ok (.aload_n 0, 1) := by decide +kernel
theorem dX11_plan_26 : decode cX11_plan 26 = .ok (.getfield 170, 3) := by decide +kernel
theorem dX11_plan_29 : decode cX11_plan 29 = .ok (.ifCond .eq 13, 3) := by decide +kernel
theorem dX11_plan_32 : decode cX11_plan 32 = .ok (.iload_n 3, 1) := by decide +kernel
theorem dX11_plan_33 : decode cX11_plan 33 = .ok (.iconst 0, 1) := by decide +kernel
theorem dX11_plan_34 : decode cX11_plan 34 = .ok (.iload 4, 2) := by decide +kernel
theorem dX11_plan_36 : decode cX11_plan 36 = .ok (.invokestatic 163, 3) := by decide +kernel
theorem dX11_plan_39 : decode cX11_plan 39 = .ok (.ifCond .ne 5, 3) := by decide +kernel
theorem dX11_plan_42 : decode cX11_plan 42 = .ok (.iconst (-1), 1) := by decide +kernel
theorem dX11_plan_43 : decode cX11_plan 43 = .ok (.ireturn, 1) := by decide +kernel
theorem dX11_plan_44 : decode cX11_plan 44 = .ok (.iload_n 2, 1) := by decide +kernel
theorem dX11_plan_45 : decode cX11_plan 45 = .ok (.iconst 1, 1) := by decide +kernel
theorem dX11_plan_46 : decode cX11_plan 46 = .ok (.bipush 30, 2) := by decide +kernel
theorem dX11_plan_48 : decode cX11_plan 48 = .ok (.invokestatic 163, 3) := by decide +kernel
theorem dX11_plan_51 : decode cX11_plan 51 = .ok (.ifCond .eq 21, 3) := by decide +kernel
theorem dX11_plan_54 : decode cX11_plan 54 = .ok (.iload 4, 2) := by decide +kernel
theorem dX11_plan_56 : decode cX11_plan 56 = .ok (.iconst 5, 1) := by decide +kernel
theorem dX11_plan_57 : decode cX11_plan 57 = .ok (.if_icmp .gt 15, 3) := by decide +kernel
theorem dX11_plan_60 : decode cX11_plan 60 = .ok (.aload_n 0, 1) := by decide +kernel
theorem dX11_plan_61 : decode cX11_plan 61 = .ok (.getfield 193, 3) := by decide +kernel
theorem dX11_plan_64 : decode cX11_plan 64 = .ok (.iload_n 2, 1) := by decide +kernel
theorem dX11_plan_65 : decode cX11_plan 65 = .ok (.iadd, 1) := by decide +kernel
theorem dX11_plan_66 : decode cX11_plan 66 = .ok (.sipush 7200, 3) := by decide +kernel
theorem dX11_plan_69 : decode cX11_plan 69 = .ok (.if_icmp .le 6, 3) := by decide +kernel
theorem dX11_plan_72 : decode cX11_plan 72 = .ok (.bipush (-2), 2) := by decide +kernel
theorem dX11_plan_74 : decode cX11_plan 74 = .ok (.ireturn, 1) := by decide +kernel
theorem dX11_plan_75 : decode cX11_plan 75 = .ok (.iconst 1, 1) := by decide +kernel
theorem dX11_plan_76 : decode cX11_plan 76 = .ok (.istore 5, 2) := by decide +kernel
theorem dX11_plan_78 : decode cX11_plan 78 = .ok (.iconst 0, 1) := by decide +kernel
theorem dX11_plan_79 : decode cX11_plan 79 = .ok (.istore 6, 2) := by decide +kernel
theorem dX11_plan_81 : decode cX11_plan 81 = .ok (.iload 6, 2) := by decide +kernel
theorem dX11_plan_83 : decode cX11_plan 83 = .ok (.iload 4, 2) := by decide +kernel
theorem dX11_plan_85 : decode cX11_plan 85 = .ok (.if_icmp .ge 18, 3) := by decide +kernel
theorem dX11_plan_88 : decode cX11_plan 88 = .ok (.iload 5, 2) := by decide +kernel
theorem dX11_plan_90 : decode cX11_plan 90 = .ok (.aload_n 0, 1) := by decide +kernel
theorem dX11_plan_91 : decode cX11_plan 91 = .ok (.getfield 170, 3) := by decide +kernel
theorem dX11_plan_94 : decode cX11_plan 94 = .ok (.imul, 1) := by decide +kernel
theorem dX11_plan_95 : decode cX11_plan 95 = .ok (.istore 5, 2) := by decide +kernel
theorem dX11_plan_97 : decode cX11_plan 97 = .ok (.iinc 6 1, 3) := by decide +kernel
theorem dX11_plan_100 : decode cX11_plan 100 = .ok (.goto (-19), 3) := by decide +kernel
theorem dX11_plan_103 : decode cX11_plan 103 = .ok (.ldc_w 459, 3) := by decide +kernel
theorem dX11_plan_106 : decode cX11_plan 106 = .ok (.istore 6, 2) := by decide +kernel
theorem dX11_plan_108 : decode cX11_plan 108 = .ok (.iconst 0, 1) := by decide +kernel
theorem dX11_plan_109 : decode cX11_plan 109 = .ok (.istore 7, 2) := by decide +kernel
theorem dX11_plan_111 : decode cX11_plan 111 = .ok (.iload 7, 2) := by decide +kernel
theorem dX11_plan_113 : decode cX11_plan 113 = .ok (.iload 5, 2) := by decide +kernel
theorem dX11_plan_115 : decode cX11_plan 115 = .ok (.if_icmp .ge 86, 3) := by decide +kernel
theorem dX11_plan_118 : decode cX11_plan 118 = .ok (.iload 7, 2) := by decide +kernel
theorem dX11_plan_120 : decode cX11_plan 120 = .ok (.istore 8, 2) := by decide +kernel
theorem dX11_plan_122 : decode cX11_plan 122 = .ok (.iload 4, 2) := by decide +kernel
theorem dX11_plan_124 : decode cX11_plan 124 = .ok (.iconst 1, 1) := by decide +kernel
theorem dX11_plan_125 : decode cX11_plan 125 = .ok (.isub, 1) := by decide +kernel
theorem dX11_plan_126 : decode cX11_plan 126 = .ok (.istore 9, 2) := by decide +kernel
theorem dX11_plan_128 : decode cX11_plan 128 = .ok (.iload 9, 2) := by decide +kernel
theorem dX11_plan_130 : decode cX11_plan 130 = .ok (.ifCond .lt 32, 3) := by decide +kernel
theorem dX11_plan_133 : decode cX11_plan 133 = .ok (.aload_n 0, 1) := by decide +kernel
theorem dX11_plan_134 : decode cX11_plan 134 = .ok (.getfield 154, 3) := by decide +kernel
theorem dX11_plan_137 : decode cX11_plan 137 = .ok (.iload 9, 2) := by decide +kernel
theorem dX11_plan_139 : decode cX11_plan 139 = .ok (.iload 8, 2) := by decide +kernel
theorem dX11_plan_141 : decode cX11_plan 141 = .ok (.aload_n 0, 1) := by decide +kernel
theorem dX11_plan_142 : decode cX11_plan 142 = .ok (.getfield 170, 3) := by decide +kernel
theorem dX11_plan_145 : decode cX11_plan 145 = .ok (.irem, 1) := by decide +kernel
theorem dX11_plan_146 : decode cX11_plan 146 = .ok (.iastore, 1) := by decide +kernel
theorem dX11_plan_147 : decode cX11_plan 147 = .ok (.iload 8, 2) := by decide +kernel
theorem dX11_plan_149 : decode cX11_plan 149 = .ok (.aload_n 0, 1) := by decide +kernel
theorem dX11_plan_150 : decode cX11_plan 150 = .ok (.getfield 170, 3) := by decide +kernel
theorem dX11_plan_153 : decode cX11_plan 153 = .ok (.idiv, 1) := by decide +kernel
theorem dX11_plan_154 : decode cX11_plan 154 = .ok (.istore 8, 2) := by decide +kernel
theorem dX11_plan_156 : decode cX11_plan 156 = .ok (.iinc 9 (-1), 3) := by decide +kernel
theorem dX11_plan_159 : decode cX11_plan 159 = .ok (.goto (-31), 3) := by decide +kernel
theorem dX11_plan_162 : decode cX11_plan 162 = .ok (.aload_n 0, 1) := by decide +kernel
theorem dX11_plan_163 : decode cX11_plan 163 = .ok (.iload_n 1, 1) := by decide +kernel
theorem dX11_plan_164 : decode cX11_plan 164 = .ok (.iload_n 2, 1) := by decide +kernel
theorem dX11_plan_165 : decode cX11_plan 165 = .ok (.invokevirtual 460, 3) := by decide +kernel
theorem dX11_plan_168 : decode cX11_plan 168 = .ok (.istore 9, 2) := by decide +kernel
theorem dX11_plan_170 : decode cX11_plan 170 = .ok (.iload 9, 2) := by decide +kernel
theorem dX11_plan_172 : decode cX11_plan 172 = .ok (.iload 6, 2) := by decide +kernel
theorem dX11_plan_174 : decode cX11_plan 174 = .ok (.if_icmp .ge 21, 3) := by decide +kernel
theorem dX11_plan_177 : decode cX11_plan 177 = .ok (.iload 9, 2) := by decide +kernel
theorem dX11_plan_179 : decode cX11_plan 179 = .ok (.istore 6, 2) := by decide +kernel
theorem dX11_plan_181 : decode cX11_plan 181 = .ok (.aload_n 0, 1) := by decide +kernel
theorem dX11_plan_182 : decode cX11_plan 182 = .ok (.getfield 154, 3) := by decide +kernel
theorem dX11_plan_185 : decode cX11_plan 185 = .ok (.iconst 0, 1) := by decide +kernel
theorem dX11_plan_186 : decode cX11_plan 186 = .ok (.aload_n 0, 1) := by decide +kernel
theorem dX11_plan_187 : decode cX11_plan 187 = .ok (.getfield 157, 3) := by decide +kernel
theorem dX11_plan_190 : decode cX11_plan 190 = .ok (.iconst 0, 1) := by decide +kernel
theorem dX11_plan_191 : decode cX11_plan 191 = .ok (.iconst 5, 1) := by decide +kernel
theorem dX11_plan_192 : decode cX11_plan 192 = .ok (.invokestatic 304, 3) := by decide +kernel
theorem dX11_plan_195 : decode cX11_plan 195 = .ok (.iinc 7 1, 3) := by decide +kernel
theorem dX11_plan_198 : decode cX11_plan 198 = .ok (.goto (-87), 3) := by decide +kernel
theorem dX11_plan_201 : decode cX11_plan 201 = .ok (.iload_n 3, 1) := by decide +kernel
theorem dX11_plan_202 : decode cX11_plan 202 = .ok (.ifCond .ne 8, 3) := by decide +kernel
theorem dX11_plan_205 : decode cX11_plan 205 = .ok (.iload 6, 2) := by decide +kernel
theorem dX11_plan_207 : decode cX11_plan 207 = .ok (.goto 11, 3) := by decide +kernel
theorem dX11_plan_210 : decode cX11_plan 210 = .ok (.aload_n 0, 1) := by decide +kernel
theorem dX11_plan_211 : decode cX11_plan 211 = .ok (.getfield 157, 3) := by decide +kernel
theorem dX11_plan_214 : decode cX11_plan 214 = .ok (.iload_n 3, 1) := by decide +kernel
theorem dX11_plan_215 : decode cX11_plan 215 = .ok (.iconst 1, 1) := by decide +kernel
theorem dX11_plan_216 : decode cX11_plan 216 = .ok (.isub, 1) := by decide +kernel
theorem dX11_plan_217 : decode cX11_plan 217 = .ok (.iaload, 1) := by decide +kernel
theorem dX11_plan_218 : decode cX11_plan 218 = .ok (.ireturn, 1) := by decide +kernel
theorem dX11_above_0 : decode cX11_above 0 = .ok (.iload_n 0, 1) := by decide +kernel
theorem dX11_above_1 : decode cX11_above 1 = .ok (.ifCond .ne 7, 3) := by decide +kernel
theorem dX11_above_4 : decode cX11_above 4 = .ok (.iconst (-1), 1) := by decide +kernel
theorem dX11_above_5 : decode cX11_above 5 = .ok (.goto 13, 3) := by decide +kernel
theorem dX11_above_8 : decode cX11_above 8 = .ok (.iload_n 0, 1) := by decide +kernel
theorem dX11_above_9 : decode cX11_above 9 = .ok (.iconst 4, 1) := by decide +kernel
theorem dX11_above_10 : decode cX11_above 10 = .ok (.if_icmp .ne 7, 3) := by decide +kernel
theorem dX11_above_13 : decode cX11_above 13 = .ok (.iconst 1, 1) := by decide +kernel
theorem dX11_above_14 : decode cX11_above 14 = .ok (.goto 4, 3) := by decide +kernel
theorem dX11_above_17 : decode cX11_above 17 = .ok (.iconst 0, 1) := by decide +kernel
theorem dX11_above_18 : decode cX11_above 18 = .ok (.ireturn, 1) := by decide +kernel
theorem dX11_bodyOf_0 : decode cX11_bodyOf 0 = .ok (.bipush 10, 2) := by decide +kernel
theorem dX11_bodyOf_2 : decode cX11_bodyOf 2 = .ok (.iload_n 0, 1) := by decide +kernel
theorem dX11_bodyOf_3 : decode cX11_bodyOf 3 = .ok (.imul, 1) := by decide +kernel
theorem dX11_bodyOf_4 : decode cX11_bodyOf 4 = .ok (.iload_n 1, 1) := by decide +kernel
theorem dX11_bodyOf_5 : decode cX11_bodyOf 5 = .ok (.iadd, 1) := by decide +kernel
theorem dX11_bodyOf_6 : decode cX11_bodyOf 6 = .ok (.lookupswitch 109 #[(0, 82), (1, 85), (2, 88), (11, 91), (20, 94), (32, 97), (40, 100), (41, 103), (50, 106)], 82) := by decide +kernel
theorem dX11_bodyOf_88 : decode cX11_bodyOf 88 = .ok (.bipush 10, 2) := by decide +kernel
theorem dX11_bodyOf_90 : decode cX11_bodyOf 90 = .ok (.ireturn, 1) := by decide +kernel
theorem dX11_bodyOf_91 : decode cX11_bodyOf 91 = .ok (.bipush 11, 2) := by decide +kernel
theorem dX11_bodyOf_93 : decode cX11_bodyOf 93 = .ok (.ireturn, 1) := by decide +kernel
theorem dX11_bodyOf_94 : decode cX11_bodyOf 94 = .ok (.bipush 12, 2) := by decide +kernel
theorem dX11_bodyOf_96 : decode cX11_bodyOf 96 = .ok (.ireturn, 1) := by decide +kernel
theorem dX11_bodyOf_97 : decode cX11_bodyOf 97 = .ok (.bipush 20, 2) := by decide +kernel
theorem dX11_bodyOf_99 : decode cX11_bodyOf 99 = .ok (.ireturn, 1) := by decide +kernel
theorem dX11_bodyOf_100 : decode cX11_bodyOf 100 = .ok (.bipush 30, 2) := by decide +kernel
theorem dX11_bodyOf_102 : decode cX11_bodyOf 102 = .ok (.ireturn, 1) := by decide +kernel
theorem dX11_bodyOf_103 : decode cX11_bodyOf 103 = .ok (.bipush 40, 2) := by decide +kernel
theorem dX11_bodyOf_105 : decode cX11_bodyOf 105 = .ok (.ireturn, 1) := by decide +kernel
theorem dX11_bodyOf_106 : decode cX11_bodyOf 106 = .ok (.bipush 50, 2) := by decide +kernel
theorem dX11_bodyOf_108 : decode cX11_bodyOf 108 = .ok (.ireturn, 1) := by decide +kernel
theorem dX11_bodyOf_109 : decode cX11_bodyOf 109 = .ok (.bipush 51, 2) := by decide +kernel
theorem dX11_bodyOf_111 : decode cX11_bodyOf 111 = .ok (.ireturn, 1) := by decide +kernel
theorem dX11_bodyOf_112 : decode cX11_bodyOf 112 = .ok (.bipush 60, 2) := by decide +kernel
theorem dX11_bodyOf_114 : decode cX11_bodyOf 114 = .ok (.ireturn, 1) := by decide +kernel
theorem dX11_bodyOf_115 : decode cX11_bodyOf 115 = .ok (.iconst 0, 1) := by decide +kernel
theorem dX11_bodyOf_116 : decode cX11_bodyOf 116 = .ok (.ireturn, 1) := by decide +kernel
theorem dX11_run_0 : decode cX11_run 0 = .ok (.iload_n 2, 1) := by decide +kernel
theorem dX11_run_1 : decode cX11_run 1 = .ok (.istore 5, 2) := by decide +kernel
theorem dX11_run_3 : decode cX11_run 3 = .ok (.iload 5, 2) := by decide +kernel
theorem dX11_run_5 : decode cX11_run 5 = .ok (.iload_n 3, 1) := by decide +kernel
theorem dX11_run_6 : decode cX11_run 6 = .ok (.invokestatic 463, 3) := by decide +kernel
theorem dX11_run_9 : decode cX11_run 9 = .ok (.ifCond .ne 13, 3) := by decide +kernel
theorem dX11_run_12 : decode cX11_run 12 = .ok (.iload 5, 2) := by decide +kernel
theorem dX11_run_14 : decode cX11_run 14 = .ok (.invokestatic 466, 3) := by decide +kernel
theorem dX11_run_17 : decode cX11_run 17 = .ok (.istore 5, 2) := by decide +kernel
theorem dX11_run_19 : decode cX11_run 19 = .ok (.goto (-16), 3) := by decide +kernel
theorem dX11_run_22 : decode cX11_run 22 = .ok (.iload 5, 2) := by decide +kernel
theorem dX11_run_24 : decode cX11_run 24 = .ok (.iload_n 3, 1) := by decide +kernel
theorem dX11_run_25 : decode cX11_run 25 = .ok (.invokestatic 463, 3) := by decide +kernel
theorem dX11_run_28 : decode cX11_run 28 = .ok (.istore 6, 2) := by decide +kernel
theorem dX11_run_30 : decode cX11_run 30 = .ok (.aload_n 0, 1) := by decide +kernel
theorem dX11_run_31 : decode cX11_run 31 = .ok (.getfield 469, 3) := by decide +kernel
theorem dX11_run_34 : decode cX11_run 34 = .ok (.bipush 20, 2) := by decide +kernel
theorem dX11_run_36 : decode cX11_run 36 = .ok (.if_icmp .ge 14, 3) := by decide +kernel
theorem dX11_run_39 : decode cX11_run 39 = .ok (.aload_n 0, 1) := by decide +kernel
theorem dX11_run_40 : decode cX11_run 40 = .ok (.getfield 136, 3) := by decide +kernel
theorem dX11_run_43 : decode cX11_run 43 = .ok (.aload_n 0, 1) := by decide +kernel
theorem dX11_run_44 : decode cX11_run 44 = .ok (.getfield 469, 3) := by decide +kernel
theorem dX11_run_47 : decode cX11_run 47 = .ok (.iload 6, 2) := by decide +kernel
theorem dX11_run_49 : decode cX11_run 49 = .ok (.iastore, 1) := by decide +kernel
theorem dX11_run_50 : decode cX11_run 50 = .ok (.aload_n 0, 1) := by decide +kernel
theorem dX11_run_51 : decode cX11_run 51 = .ok (.dup, 1) := by decide +kernel
theorem dX11_run_52 : decode cX11_run 52 = .ok (.getfield 469, 3) := by decide +kernel
theorem dX11_run_55 : decode cX11_run 55 = .ok (.iconst 1, 1) := by decide +kernel
theorem dX11_run_56 : decode cX11_run 56 = .ok (.iadd, 1) := by decide +kernel
theorem dX11_run_57 : decode cX11_run 57 = .ok (.putfield 469, 3) := by decide +kernel
theorem dX11_run_60 : decode cX11_run 60 = .ok (.iload 6, 2) := by decide +kernel
theorem dX11_run_62 : decode cX11_run 62 = .ok (.lookupswitch 222 #[(10, 74), (11, 84), (12, 101), (20, 137), (30, 153), (40, 169), (50, 185), (51, 201)], 74) := by decide +kernel
theorem dX11_run_136 : decode cX11_run 136 = .ok (.iload 4, 2) := by decide +kernel
theorem dX11_run_138 : decode cX11_run 138 = .ok (.aload_n 0, 1) := by decide +kernel
theorem dX11_run_139 : decode cX11_run 139 = .ok (.getfield 48, 3) := by decide +kernel
theorem dX11_run_142 : decode cX11_run 142 = .ok (.iload_n 1, 1) := by decide +kernel
theorem dX11_run_143 : decode cX11_run 143 = .ok (.iaload, 1) := by decide +kernel
theorem dX11_run_144 : decode cX11_run 144 = .ok (.iadd, 1) := by decide +kernel
theorem dX11_run_145 : decode cX11_run 145 = .ok (.ireturn, 1) := by decide +kernel
theorem dX11_run_146 : decode cX11_run 146 = .ok (.aload_n 0, 1) := by decide +kernel
theorem dX11_run_147 : decode cX11_run 147 = .ok (.iload_n 1, 1) := by decide +kernel
theorem dX11_run_148 : decode cX11_run 148 = .ok (.aload_n 0, 1) := by decide +kernel
theorem dX11_run_149 : decode cX11_run 149 = .ok (.getfield 42, 3) := by decide +kernel
theorem dX11_run_152 : decode cX11_run 152 = .ok (.iload_n 1, 1) := by decide +kernel
theorem dX11_run_153 : decode cX11_run 153 = .ok (.iaload, 1) := by decide +kernel
theorem dX11_run_154 : decode cX11_run 154 = .ok (.iconst 0, 1) := by decide +kernel
theorem dX11_run_155 : decode cX11_run 155 = .ok (.iload 4, 2) := by decide +kernel
theorem dX11_run_157 : decode cX11_run 157 = .ok (.invokevirtual 472, 3) := by decide +kernel
theorem dX11_run_160 : decode cX11_run 160 = .ok (.iconst 2, 1) := by decide +kernel
theorem dX11_run_161 : decode cX11_run 161 = .ok (.imul, 1) := by decide +kernel
theorem dX11_run_162 : decode cX11_run 162 = .ok (.ireturn, 1) := by decide +kernel
theorem dX11_run_163 : decode cX11_run 163 = .ok (.aload_n 0, 1) := by decide +kernel
theorem dX11_run_164 : decode cX11_run 164 = .ok (.iload_n 1, 1) := by decide +kernel
theorem dX11_run_165 : decode cX11_run 165 = .ok (.aload_n 0, 1) := by decide +kernel
theorem dX11_run_166 : decode cX11_run 166 = .ok (.getfield 42, 3) := by decide +kernel
theorem dX11_run_169 : decode cX11_run 169 = .ok (.iload_n 1, 1) := by decide +kernel
theorem dX11_run_170 : decode cX11_run 170 = .ok (.iaload, 1) := by decide +kernel
theorem dX11_run_171 : decode cX11_run 171 = .ok (.iconst 1, 1) := by decide +kernel
theorem dX11_run_172 : decode cX11_run 172 = .ok (.iload 4, 2) := by decide +kernel
theorem dX11_run_174 : decode cX11_run 174 = .ok (.invokevirtual 472, 3) := by decide +kernel
theorem dX11_run_177 : decode cX11_run 177 = .ok (.istore 7, 2) := by decide +kernel
theorem dX11_run_179 : decode cX11_run 179 = .ok (.iload 7, 2) := by decide +kernel
theorem dX11_run_181 : decode cX11_run 181 = .ok (.aload_n 0, 1) := by decide +kernel
theorem dX11_run_182 : decode cX11_run 182 = .ok (.iload_n 1, 1) := by decide +kernel
theorem dX11_run_183 : decode cX11_run 183 = .ok (.aload_n 0, 1) := by decide +kernel
theorem dX11_run_184 : decode cX11_run 184 = .ok (.getfield 42, 3) := by decide +kernel
theorem dX11_run_187 : decode cX11_run 187 = .ok (.iload_n 1, 1) := by decide +kernel
theorem dX11_run_188 : decode cX11_run 188 = .ok (.iaload, 1) := by decide +kernel
theorem dX11_run_189 : decode cX11_run 189 = .ok (.iconst 0, 1) := by decide +kernel
theorem dX11_run_190 : decode cX11_run 190 = .ok (.iload 4, 2) := by decide +kernel
theorem dX11_run_192 : decode cX11_run 192 = .ok (.iload_n 1, 1) := by decide +kernel
theorem dX11_run_193 : decode cX11_run 193 = .ok (.isub, 1) := by decide +kernel
theorem dX11_run_194 : decode cX11_run 194 = .ok (.invokevirtual 472, 3) := by decide +kernel
theorem dX11_run_197 : decode cX11_run 197 = .ok (.ixor, 1) := by decide +kernel
theorem dX11_run_198 : decode cX11_run 198 = .ok (.ireturn, 1) := by decide +kernel
theorem dX11_run_199 : decode cX11_run 199 = .ok (.aload_n 0, 1) := by decide +kernel
theorem dX11_run_200 : decode cX11_run 200 = .ok (.iload_n 1, 1) := by decide +kernel
theorem dX11_run_201 : decode cX11_run 201 = .ok (.iload 5, 2) := by decide +kernel
theorem dX11_run_203 : decode cX11_run 203 = .ok (.invokestatic 466, 3) := by decide +kernel
theorem dX11_run_206 : decode cX11_run 206 = .ok (.iconst 1, 1) := by decide +kernel
theorem dX11_run_207 : decode cX11_run 207 = .ok (.iload 4, 2) := by decide +kernel
theorem dX11_run_209 : decode cX11_run 209 = .ok (.invokevirtual 472, 3) := by decide +kernel
theorem dX11_run_212 : decode cX11_run 212 = .ok (.iload_n 1, 1) := by decide +kernel
theorem dX11_run_213 : decode cX11_run 213 = .ok (.iadd, 1) := by decide +kernel
theorem dX11_run_214 : decode cX11_run 214 = .ok (.ireturn, 1) := by decide +kernel
theorem dX11_run_215 : decode cX11_run 215 = .ok (.aload_n 0, 1) := by decide +kernel
theorem dX11_run_216 : decode cX11_run 216 = .ok (.iload_n 1, 1) := by decide +kernel
theorem dX11_run_217 : decode cX11_run 217 = .ok (.iload 5, 2) := by decide +kernel
theorem dX11_run_219 : decode cX11_run 219 = .ok (.invokestatic 466, 3) := by decide +kernel
theorem dX11_run_222 : decode cX11_run 222 = .ok (.iconst 0, 1) := by decide +kernel
theorem dX11_run_223 : decode cX11_run 223 = .ok (.iload 4, 2) := by decide +kernel
theorem dX11_run_225 : decode cX11_run 225 = .ok (.invokevirtual 472, 3) := by decide +kernel
theorem dX11_run_228 : decode cX11_run 228 = .ok (.iconst 3, 1) := by decide +kernel
theorem dX11_run_229 : decode cX11_run 229 = .ok (.imul, 1) := by decide +kernel
theorem dX11_run_230 : decode cX11_run 230 = .ok (.ireturn, 1) := by decide +kernel
theorem dX11_run_231 : decode cX11_run 231 = .ok (.aload_n 0, 1) := by decide +kernel
theorem dX11_run_232 : decode cX11_run 232 = .ok (.iload_n 1, 1) := by decide +kernel
theorem dX11_run_233 : decode cX11_run 233 = .ok (.iload 5, 2) := by decide +kernel
theorem dX11_run_235 : decode cX11_run 235 = .ok (.invokestatic 466, 3) := by decide +kernel
theorem dX11_run_238 : decode cX11_run 238 = .ok (.iconst 2, 1) := by decide +kernel
theorem dX11_run_239 : decode cX11_run 239 = .ok (.iload 4, 2) := by decide +kernel
theorem dX11_run_241 : decode cX11_run 241 = .ok (.iconst 1, 1) := by decide +kernel
theorem dX11_run_242 : decode cX11_run 242 = .ok (.iadd, 1) := by decide +kernel
theorem dX11_run_243 : decode cX11_run 243 = .ok (.invokevirtual 472, 3) := by decide +kernel
theorem dX11_run_246 : decode cX11_run 246 = .ok (.ireturn, 1) := by decide +kernel
theorem dX11_run_247 : decode cX11_run 247 = .ok (.aload_n 0, 1) := by decide +kernel
theorem dX11_run_248 : decode cX11_run 248 = .ok (.iload_n 1, 1) := by decide +kernel
theorem dX11_run_249 : decode cX11_run 249 = .ok (.iload 5, 2) := by decide +kernel
theorem dX11_run_251 : decode cX11_run 251 = .ok (.invokestatic 466, 3) := by decide +kernel
theorem dX11_run_254 : decode cX11_run 254 = .ok (.iconst 0, 1) := by decide +kernel
theorem dX11_run_255 : decode cX11_run 255 = .ok (.iload 4, 2) := by decide +kernel
theorem dX11_run_257 : decode cX11_run 257 = .ok (.invokevirtual 472, 3) := by decide +kernel
theorem dX11_run_260 : decode cX11_run 260 = .ok (.iconst 5, 1) := by decide +kernel
theorem dX11_run_261 : decode cX11_run 261 = .ok (.ixor, 1) := by decide +kernel
theorem dX11_run_262 : decode cX11_run 262 = .ok (.ireturn, 1) := by decide +kernel
theorem dX11_run_263 : decode cX11_run 263 = .ok (.aload_n 0, 1) := by decide +kernel
theorem dX11_run_264 : decode cX11_run 264 = .ok (.iload_n 1, 1) := by decide +kernel
theorem dX11_run_265 : decode cX11_run 265 = .ok (.iload 5, 2) := by decide +kernel
theorem dX11_run_267 : decode cX11_run 267 = .ok (.invokestatic 466, 3) := by decide +kernel
theorem dX11_run_270 : decode cX11_run 270 = .ok (.iconst 1, 1) := by decide +kernel
theorem dX11_run_271 : decode cX11_run 271 = .ok (.iload 4, 2) := by decide +kernel
theorem dX11_run_273 : decode cX11_run 273 = .ok (.invokevirtual 472, 3) := by decide +kernel
theorem dX11_run_276 : decode cX11_run 276 = .ok (.aload_n 0, 1) := by decide +kernel
theorem dX11_run_277 : decode cX11_run 277 = .ok (.getfield 48, 3) := by decide +kernel
theorem dX11_run_280 : decode cX11_run 280 = .ok (.iload_n 1, 1) := by decide +kernel
theorem dX11_run_281 : decode cX11_run 281 = .ok (.iaload, 1) := by decide +kernel
theorem dX11_run_282 : decode cX11_run 282 = .ok (.isub, 1) := by decide +kernel
theorem dX11_run_283 : decode cX11_run 283 = .ok (.ireturn, 1) := by decide +kernel
theorem dX11_run_284 : decode cX11_run 284 = .ok (.aload_n 0, 1) := by decide +kernel
theorem dX11_run_285 : decode cX11_run 285 = .ok (.iload_n 1, 1) := by decide +kernel
theorem dX11_run_286 : decode cX11_run 286 = .ok (.iload 5, 2) := by decide +kernel
theorem dX11_run_288 : decode cX11_run 288 = .ok (.invokestatic 466, 3) := by decide +kernel
theorem dX11_run_291 : decode cX11_run 291 = .ok (.iconst 0, 1) := by decide +kernel
theorem dX11_run_292 : decode cX11_run 292 = .ok (.iload 4, 2) := by decide +kernel
theorem dX11_run_294 : decode cX11_run 294 = .ok (.invokevirtual 472, 3) := by decide +kernel
theorem dX11_run_297 : decode cX11_run 297 = .ok (.bipush 7, 2) := by decide +kernel
theorem dX11_run_299 : decode cX11_run 299 = .ok (.isub, 1) := by decide +kernel
theorem dX11_run_300 : decode cX11_run 300 = .ok (.ireturn, 1) := by decide +kernel
theorem dX11_act_0 : decode cX11_act 0 = .ok (.aload_n 0, 1) := by decide +kernel
theorem dX11_act_1 : decode cX11_act 1 = .ok (.iconst 0, 1) := by decide +kernel
theorem dX11_act_2 : decode cX11_act 2 = .ok (.putfield 469, 3) := by decide +kernel
theorem dX11_act_5 : decode cX11_act 5 = .ok (.aload_n 0, 1) := by decide +kernel
theorem dX11_act_6 : decode cX11_act 6 = .ok (.iload_n 1, 1) := by decide +kernel
theorem dX11_act_7 : decode cX11_act 7 = .ok (.invokevirtual 199, 3) := by decide +kernel
theorem dX11_act_10 : decode cX11_act 10 = .ok (.ifCond .eq 28, 3) := by decide +kernel
theorem dX11_act_13 : decode cX11_act 13 = .ok (.iload_n 2, 1) := by decide +kernel
theorem dX11_act_14 : decode cX11_act 14 = .ok (.iconst 0, 1) := by decide +kernel
theorem dX11_act_15 : decode cX11_act 15 = .ok (.iconst 2, 1) := by decide +kernel
theorem dX11_act_16 : decode cX11_act 16 = .ok (.invokestatic 163, 3) := by decide +kernel
theorem dX11_act_19 : decode cX11_act 19 = .ok (.ifCond .eq 19, 3) := by decide +kernel
theorem dX11_act_22 : decode cX11_act 22 = .ok (.aload_n 0, 1) := by decide +kernel
theorem dX11_act_23 : decode cX11_act 23 = .ok (.iload_n 1, 1) := by decide +kernel
theorem dX11_act_24 : decode cX11_act 24 = .ok (.aload_n 0, 1) := by decide +kernel
theorem dX11_act_25 : decode cX11_act 25 = .ok (.getfield 42, 3) := by decide +kernel
theorem dX11_act_28 : decode cX11_act 28 = .ok (.iload_n 1, 1) := by decide +kernel
theorem dX11_act_29 : decode cX11_act 29 = .ok (.iaload, 1) := by decide +kernel
theorem dX11_act_30 : decode cX11_act 30 = .ok (.iload_n 2, 1) := by decide +kernel
theorem dX11_act_31 : decode cX11_act 31 = .ok (.iload_n 3, 1) := by decide +kernel
theorem dX11_act_32 : decode cX11_act 32 = .ok (.invokevirtual 472, 3) := by decide +kernel
theorem dX11_act_35 : decode cX11_act 35 = .ok (.goto 4, 3) := by decide +kernel
theorem dX11_act_38 : decode cX11_act 38 = .ok (.iconst 0, 1) := by decide +kernel
theorem dX11_act_39 : decode cX11_act 39 = .ok (.ireturn, 1) := by decide +kernel
theorem dX11_trace_0 : decode cX11_trace 0 = .ok (.iload_n 1, 1) := by decide +kernel
theorem dX11_trace_1 : decode cX11_trace 1 = .ok (.iconst 0, 1) := by decide +kernel
theorem dX11_trace_2 : decode cX11_trace 2 = .ok (.aload_n 0, 1) := by decide +kernel
theorem dX11_trace_3 : decode cX11_trace 3 = .ok (.getfield 469, 3) := by decide +kernel
theorem dX11_trace_6 : decode cX11_trace 6 = .ok (.bipush 20, 2) := by decide +kernel
theorem dX11_trace_8 : decode cX11_trace 8 = .ok (.invokestatic 345, 3) := by decide +kernel
theorem dX11_trace_11 : decode cX11_trace 11 = .ok (.iconst 1, 1) := by decide +kernel
theorem dX11_trace_12 : decode cX11_trace 12 = .ok (.isub, 1) := by decide +kernel
theorem dX11_trace_13 : decode cX11_trace 13 = .ok (.invokestatic 163, 3) := by decide +kernel
theorem dX11_trace_16 : decode cX11_trace 16 = .ok (.ifCond .eq 12, 3) := by decide +kernel
theorem dX11_trace_19 : decode cX11_trace 19 = .ok (.aload_n 0, 1) := by decide +kernel
theorem dX11_trace_20 : decode cX11_trace 20 = .ok (.getfield 136, 3) := by decide +kernel
theorem dX11_trace_23 : decode cX11_trace 23 = .ok (.iload_n 1, 1) := by decide +kernel
theorem dX11_trace_24 : decode cX11_trace 24 = .ok (.iaload, 1) := by decide +kernel
theorem dX11_trace_25 : decode cX11_trace 25 = .ok (.goto 4, 3) := by decide +kernel
theorem dX11_trace_28 : decode cX11_trace 28 = .ok (.iconst (-1), 1) := by decide +kernel
theorem dX11_trace_29 : decode cX11_trace 29 = .ok (.ireturn, 1) := by decide +kernel
theorem dX11_taken_0 : decode cX11_taken 0 = .ok (.iload_n 2, 1) := by decide +kernel
theorem dX11_taken_1 : decode cX11_taken 1 = .ok (.iconst 0, 1) := by decide +kernel
theorem dX11_taken_2 : decode cX11_taken 2 = .ok (.iconst 5, 1) := by decide +kernel
theorem dX11_taken_3 : decode cX11_taken 3 = .ok (.invokestatic 163, 3) := by decide +kernel
theorem dX11_taken_6 : decode cX11_taken 6 = .ok (.ifCond .ne 6, 3) := by decide +kernel
theorem dX11_taken_9 : decode cX11_taken 9 = .ok (.bipush (-2), 2) := by decide +kernel
theorem dX11_taken_11 : decode cX11_taken 11 = .ok (.ireturn, 1) := by decide +kernel
theorem dX11_taken_12 : decode cX11_taken 12 = .ok (.aload_n 0, 1) := by decide +kernel
theorem dX11_taken_13 : decode cX11_taken 13 = .ok (.iload_n 1, 1) := by decide +kernel
theorem dX11_taken_14 : decode cX11_taken 14 = .ok (.invokevirtual 199, 3) := by decide +kernel
theorem dX11_taken_17 : decode cX11_taken 17 = .ok (.ifCond .ne 6, 3) := by decide +kernel
theorem dX11_taken_20 : decode cX11_taken 20 = .ok (.bipush (-11), 2) := by decide +kernel
theorem dX11_taken_22 : decode cX11_taken 22 = .ok (.ireturn, 1) := by decide +kernel
theorem dX11_taken_23 : decode cX11_taken 23 = .ok (.aload_n 0, 1) := by decide +kernel
theorem dX11_taken_24 : decode cX11_taken 24 = .ok (.getfield 42, 3) := by decide +kernel
theorem dX11_taken_27 : decode cX11_taken 27 = .ok (.iload_n 1, 1) := by decide +kernel
theorem dX11_taken_28 : decode cX11_taken 28 = .ok (.iaload, 1) := by decide +kernel
theorem dX11_taken_29 : decode cX11_taken 29 = .ok (.istore_n 3, 1) := by decide +kernel
theorem dX11_taken_30 : decode cX11_taken 30 = .ok (.iload_n 3, 1) := by decide +kernel
theorem dX11_taken_31 : decode cX11_taken 31 = .ok (.ifCond .lt 23, 3) := by decide +kernel
theorem dX11_taken_34 : decode cX11_taken 34 = .ok (.iload_n 3, 1) := by decide +kernel
theorem dX11_taken_35 : decode cX11_taken 35 = .ok (.iload_n 2, 1) := by decide +kernel
theorem dX11_taken_36 : decode cX11_taken 36 = .ok (.if_icmp .ne 10, 3) := by decide +kernel
theorem dX11_taken_39 : decode cX11_taken 39 = .ok (.aload_n 0, 1) := by decide +kernel
theorem dX11_taken_40 : decode cX11_taken 40 = .ok (.getfield 42, 3) := by decide +kernel
theorem dX11_taken_43 : decode cX11_taken 43 = .ok (.iload_n 1, 1) := by decide +kernel
theorem dX11_taken_44 : decode cX11_taken 44 = .ok (.iaload, 1) := by decide +kernel
theorem dX11_taken_45 : decode cX11_taken 45 = .ok (.ireturn, 1) := by decide +kernel
theorem dX11_taken_46 : decode cX11_taken 46 = .ok (.iload_n 3, 1) := by decide +kernel
theorem dX11_taken_47 : decode cX11_taken 47 = .ok (.invokestatic 466, 3) := by decide +kernel
theorem dX11_taken_50 : decode cX11_taken 50 = .ok (.istore_n 3, 1) := by decide +kernel
theorem dX11_taken_51 : decode cX11_taken 51 = .ok (.goto (-21), 3) := by decide +kernel
theorem dX11_taken_54 : decode cX11_taken 54 = .ok (.bipush (-13), 2) := by decide +kernel
theorem dX11_taken_56 : decode cX11_taken 56 = .ok (.ireturn, 1) := by decide +kernel
theorem dX11_count_0 : decode cX11_count 0 = .ok (.iload_n 1, 1) := by decide +kernel
theorem dX11_count_1 : decode cX11_count 1 = .ok (.tableswitch 158 0 14 #[75, 80, 85, 90, 95, 100, 105, 110, 115, 120, 125, 130, 135, 140, 153], 75) := by decide +kernel
theorem dX11_count_76 : decode cX11_count 76 = .ok (.aload_n 0, 1) := by decide +kernel
theorem dX11_count_77 : decode cX11_count 77 = .ok (.getfield 160, 3) := by decide +kernel
theorem dX11_count_80 : decode cX11_count 80 = .ok (.ireturn, 1) := by decide +kernel
theorem dX11_count_81 : decode cX11_count 81 = .ok (.aload_n 0, 1) := by decide +kernel
theorem dX11_count_82 : decode cX11_count 82 = .ok (.getfield 167, 3) := by decide +kernel
theorem dX11_count_85 : decode cX11_count 85 = .ok (.ireturn, 1) := by decide +kernel
theorem dX11_count_86 : decode cX11_count 86 = .ok (.aload_n 0, 1) := by decide +kernel
theorem dX11_count_87 : decode cX11_count 87 = .ok (.getfield 289, 3) := by decide +kernel
theorem dX11_count_90 : decode cX11_count 90 = .ok (.ireturn, 1) := by decide +kernel
theorem dX11_count_91 : decode cX11_count 91 = .ok (.aload_n 0, 1) := by decide +kernel
theorem dX11_count_92 : decode cX11_count 92 = .ok (.getfield 193, 3) := by decide +kernel
theorem dX11_count_95 : decode cX11_count 95 = .ok (.ireturn, 1) := by decide +kernel
theorem dX11_count_96 : decode cX11_count 96 = .ok (.aload_n 0, 1) := by decide +kernel
theorem dX11_count_97 : decode cX11_count 97 = .ok (.getfield 170, 3) := by decide +kernel
theorem dX11_count_100 : decode cX11_count 100 = .ok (.ireturn, 1) := by decide +kernel
theorem dX11_count_101 : decode cX11_count 101 = .ok (.aload_n 0, 1) := by decide +kernel
theorem dX11_count_102 : decode cX11_count 102 = .ok (.getfield 173, 3) := by decide +kernel
theorem dX11_count_105 : decode cX11_count 105 = .ok (.ireturn, 1) := by decide +kernel
theorem dX11_count_106 : decode cX11_count 106 = .ok (.aload_n 0, 1) := by decide +kernel
theorem dX11_count_107 : decode cX11_count 107 = .ok (.getfield 342, 3) := by decide +kernel
theorem dX11_count_110 : decode cX11_count 110 = .ok (.ireturn, 1) := by decide +kernel
theorem dX11_count_111 : decode cX11_count 111 = .ok (.aload_n 0, 1) := by decide +kernel
theorem dX11_count_112 : decode cX11_count 112 = .ok (.getfield 398, 3) := by decide +kernel
theorem dX11_count_115 : decode cX11_count 115 = .ok (.ireturn, 1) := by decide +kernel
theorem dX11_count_116 : decode cX11_count 116 = .ok (.aload_n 0, 1) := by decide +kernel
theorem dX11_count_117 : decode cX11_count 117 = .ok (.getfield 401, 3) := by decide +kernel
theorem dX11_count_120 : decode cX11_count 120 = .ok (.ireturn, 1) := by decide +kernel
theorem dX11_count_121 : decode cX11_count 121 = .ok (.aload_n 0, 1) := by decide +kernel
theorem dX11_count_122 : decode cX11_count 122 = .ok (.getfield 417, 3) := by decide +kernel
theorem dX11_count_125 : decode cX11_count 125 = .ok (.ireturn, 1) := by decide +kernel
theorem dX11_count_126 : decode cX11_count 126 = .ok (.aload_n 0, 1) := by decide +kernel
theorem dX11_count_127 : decode cX11_count 127 = .ok (.getfield 435, 3) := by decide +kernel
theorem dX11_count_130 : decode cX11_count 130 = .ok (.ireturn, 1) := by decide +kernel
theorem dX11_count_131 : decode cX11_count 131 = .ok (.aload_n 0, 1) := by decide +kernel
theorem dX11_count_132 : decode cX11_count 132 = .ok (.getfield 442, 3) := by decide +kernel
theorem dX11_count_135 : decode cX11_count 135 = .ok (.ireturn, 1) := by decide +kernel
theorem dX11_count_136 : decode cX11_count 136 = .ok (.aload_n 0, 1) := by decide +kernel
theorem dX11_count_137 : decode cX11_count 137 = .ok (.getfield 212, 3) := by decide +kernel
theorem dX11_count_140 : decode cX11_count 140 = .ok (.ireturn, 1) := by decide +kernel
theorem dX11_count_141 : decode cX11_count 141 = .ok (.aload_n 0, 1) := by decide +kernel
theorem dX11_count_142 : decode cX11_count 142 = .ok (.getfield 404, 3) := by decide +kernel
theorem dX11_count_145 : decode cX11_count 145 = .ok (.ifCond .eq 7, 3) := by decide +kernel
theorem dX11_count_148 : decode cX11_count 148 = .ok (.iconst 1, 1) := by decide +kernel
theorem dX11_count_149 : decode cX11_count 149 = .ok (.goto 4, 3) := by decide +kernel
theorem dX11_count_152 : decode cX11_count 152 = .ok (.iconst 0, 1) := by decide +kernel
theorem dX11_count_153 : decode cX11_count 153 = .ok (.ireturn, 1) := by decide +kernel
theorem dX11_count_154 : decode cX11_count 154 = .ok (.aload_n 0, 1) := by decide +kernel
theorem dX11_count_155 : decode cX11_count 155 = .ok (.getfield 469, 3) := by decide +kernel
theorem dX11_count_158 : decode cX11_count 158 = .ok (.ireturn, 1) := by decide +kernel
theorem dX11_count_159 : decode cX11_count 159 = .ok (.bipush (-2), 2) := by decide +kernel
theorem dX11_count_161 : decode cX11_count 161 = .ok (.ireturn, 1) := by decide +kernel
theorem dX11_sheet_0 : decode cX11_sheet 0 = .ok (.iload_n 1, 1) := by decide +kernel
theorem dX11_sheet_1 : decode cX11_sheet 1 = .ok (.iconst 0, 1) := by decide +kernel
theorem dX11_sheet_2 : decode cX11_sheet 2 = .ok (.iconst 2, 1) := by decide +kernel
theorem dX11_sheet_3 : decode cX11_sheet 3 = .ok (.invokestatic 163, 3) := by decide +kernel
theorem dX11_sheet_6 : decode cX11_sheet 6 = .ok (.ifCond .eq 22, 3) := by decide +kernel
theorem dX11_sheet_9 : decode cX11_sheet 9 = .ok (.iload_n 2, 1) := by decide +kernel
theorem dX11_sheet_10 : decode cX11_sheet 10 = .ok (.iconst (-1), 1) := by decide +kernel
theorem dX11_sheet_11 : decode cX11_sheet 11 = .ok (.iconst 2, 1) := by decide +kernel
theorem dX11_sheet_12 : decode cX11_sheet 12 = .ok (.invokestatic 163, 3) := by decide +kernel
theorem dX11_sheet_15 : decode cX11_sheet 15 = .ok (.ifCond .eq 13, 3) := by decide +kernel
theorem dX11_sheet_18 : decode cX11_sheet 18 = .ok (.iload_n 2, 1) := by decide +kernel
theorem dX11_sheet_19 : decode cX11_sheet 19 = .ok (.ifCond .lt 12, 3) := by decide +kernel
theorem dX11_sheet_22 : decode cX11_sheet 22 = .ok (.iload_n 3, 1) := by decide +kernel
theorem dX11_sheet_23 : decode cX11_sheet 23 = .ok (.bipush 60, 2) := by decide +kernel
theorem dX11_sheet_25 : decode cX11_sheet 25 = .ok (.if_icmp .le 6, 3) := by decide +kernel
theorem dX11_sheet_28 : decode cX11_sheet 28 = .ok (.bipush (-2), 2) := by decide +kernel
theorem dX11_sheet_30 : decode cX11_sheet 30 = .ok (.ireturn, 1) := by decide +kernel
theorem dX11_sheet_31 : decode cX11_sheet 31 = .ok (.iload_n 2, 1) := by decide +kernel
theorem dX11_sheet_32 : decode cX11_sheet 32 = .ok (.ifCond .lt 10, 3) := by decide +kernel
theorem dX11_sheet_35 : decode cX11_sheet 35 = .ok (.iload_n 3, 1) := by decide +kernel
theorem dX11_sheet_36 : decode cX11_sheet 36 = .ok (.ifCond .ge 6, 3) := by decide +kernel
theorem dX11_sheet_39 : decode cX11_sheet 39 = .ok (.bipush (-14), 2) := by decide +kernel
theorem dX11_sheet_41 : decode cX11_sheet 41 = .ok (.ireturn, 1) := by decide +kernel
theorem dX11_sheet_42 : decode cX11_sheet 42 = .ok (.aload_n 0, 1) := by decide +kernel
theorem dX11_sheet_43 : decode cX11_sheet 43 = .ok (.getfield 124, 3) := by decide +kernel
theorem dX11_sheet_46 : decode cX11_sheet 46 = .ok (.iload_n 1, 1) := by decide +kernel
theorem dX11_sheet_47 : decode cX11_sheet 47 = .ok (.iload_n 2, 1) := by decide +kernel
theorem dX11_sheet_48 : decode cX11_sheet 48 = .ok (.iastore, 1) := by decide +kernel
theorem dX11_sheet_49 : decode cX11_sheet 49 = .ok (.aload_n 0, 1) := by decide +kernel
theorem dX11_sheet_50 : decode cX11_sheet 50 = .ok (.getfield 127, 3) := by decide +kernel
theorem dX11_sheet_53 : decode cX11_sheet 53 = .ok (.iload_n 1, 1) := by decide +kernel
theorem dX11_sheet_54 : decode cX11_sheet 54 = .ok (.iload_n 2, 1) := by decide +kernel
theorem dX11_sheet_55 : decode cX11_sheet 55 = .ok (.ifCond .ge 7, 3) := by decide +kernel
theorem dX11_sheet_58 : decode cX11_sheet 58 = .ok (.iconst 0, 1) := by decide +kernel
theorem dX11_sheet_59 : decode cX11_sheet 59 = .ok (.goto 4, 3) := by decide +kernel
theorem dX11_sheet_62 : decode cX11_sheet 62 = .ok (.iload_n 3, 1) := by decide +kernel
theorem dX11_sheet_63 : decode cX11_sheet 63 = .ok (.iastore, 1) := by decide +kernel
theorem dX11_sheet_64 : decode cX11_sheet 64 = .ok (.iconst 0, 1) := by decide +kernel
theorem dX11_sheet_65 : decode cX11_sheet 65 = .ok (.istore 4, 2) := by decide +kernel
theorem dX11_sheet_67 : decode cX11_sheet 67 = .ok (.iload 4, 2) := by decide +kernel
theorem dX11_sheet_69 : decode cX11_sheet 69 = .ok (.bipush 60, 2) := by decide +kernel
theorem dX11_sheet_71 : decode cX11_sheet 71 = .ok (.if_icmp .ge 29, 3) := by decide +kernel
theorem dX11_sheet_74 : decode cX11_sheet 74 = .ok (.aload_n 0, 1) := by decide +kernel
theorem dX11_sheet_75 : decode cX11_sheet 75 = .ok (.getfield 130, 3) := by decide +kernel
theorem dX11_sheet_78 : decode cX11_sheet 78 = .ok (.iload_n 1, 1) := by decide +kernel
theorem dX11_sheet_79 : decode cX11_sheet 79 = .ok (.aaload, 1) := by decide +kernel
theorem dX11_sheet_80 : decode cX11_sheet 80 = .ok (.iload 4, 2) := by decide +kernel
theorem dX11_sheet_82 : decode cX11_sheet 82 = .ok (.iconst 0, 1) := by decide +kernel
theorem dX11_sheet_83 : decode cX11_sheet 83 = .ok (.iastore, 1) := by decide +kernel
theorem dX11_sheet_84 : decode cX11_sheet 84 = .ok (.aload_n 0, 1) := by decide +kernel
theorem dX11_sheet_85 : decode cX11_sheet 85 = .ok (.getfield 133, 3) := by decide +kernel
theorem dX11_sheet_88 : decode cX11_sheet 88 = .ok (.iload_n 1, 1) := by decide +kernel
theorem dX11_sheet_89 : decode cX11_sheet 89 = .ok (.aaload, 1) := by decide +kernel
theorem dX11_sheet_90 : decode cX11_sheet 90 = .ok (.iload 4, 2) := by decide +kernel
theorem dX11_sheet_92 : decode cX11_sheet 92 = .ok (.iconst 0, 1) := by decide +kernel
theorem dX11_sheet_93 : decode cX11_sheet 93 = .ok (.bastore, 1) := by decide +kernel
theorem dX11_sheet_94 : decode cX11_sheet 94 = .ok (.iinc 4 1, 3) := by decide +kernel
theorem dX11_sheet_97 : decode cX11_sheet 97 = .ok (.goto (-30), 3) := by decide +kernel
theorem dX11_sheet_100 : decode cX11_sheet 100 = .ok (.iconst 1, 1) := by decide +kernel
theorem dX11_sheet_101 : decode cX11_sheet 101 = .ok (.ireturn, 1) := by decide +kernel
theorem dX11_cell_0 : decode cX11_cell 0 = .ok (.iload_n 1, 1) := by decide +kernel
theorem dX11_cell_1 : decode cX11_cell 1 = .ok (.iconst 0, 1) := by decide +kernel
theorem dX11_cell_2 : decode cX11_cell 2 = .ok (.iconst 2, 1) := by decide +kernel
theorem dX11_cell_3 : decode cX11_cell 3 = .ok (.invokestatic 163, 3) := by decide +kernel
theorem dX11_cell_6 : decode cX11_cell 6 = .ok (.ifCond .ne 6, 3) := by decide +kernel
theorem dX11_cell_9 : decode cX11_cell 9 = .ok (.bipush (-2), 2) := by decide +kernel
theorem dX11_cell_11 : decode cX11_cell 11 = .ok (.ireturn, 1) := by decide +kernel
theorem dX11_cell_12 : decode cX11_cell 12 = .ok (.aload_n 0, 1) := by decide +kernel
theorem dX11_cell_13 : decode cX11_cell 13 = .ok (.getfield 124, 3) := by decide +kernel
theorem dX11_cell_16 : decode cX11_cell 16 = .ok (.iload_n 1, 1) := by decide +kernel
theorem dX11_cell_17 : decode cX11_cell 17 = .ok (.iaload, 1) := by decide +kernel
theorem dX11_cell_18 : decode cX11_cell 18 = .ok (.ifCond .ge 6, 3) := by decide +kernel
theorem dX11_cell_21 : decode cX11_cell 21 = .ok (.bipush (-11), 2) := by decide +kernel
theorem dX11_cell_23 : decode cX11_cell 23 = .ok (.ireturn, 1) := by decide +kernel
theorem dX11_cell_24 : decode cX11_cell 24 = .ok (.iload_n 2, 1) := by decide +kernel
theorem dX11_cell_25 : decode cX11_cell 25 = .ok (.iconst 0, 1) := by decide +kernel
theorem dX11_cell_26 : decode cX11_cell 26 = .ok (.aload_n 0, 1) := by decide +kernel
theorem dX11_cell_27 : decode cX11_cell 27 = .ok (.getfield 127, 3) := by decide +kernel
theorem dX11_cell_30 : decode cX11_cell 30 = .ok (.iload_n 1, 1) := by decide +kernel
theorem dX11_cell_31 : decode cX11_cell 31 = .ok (.iaload, 1) := by decide +kernel
theorem dX11_cell_32 : decode cX11_cell 32 = .ok (.iconst 1, 1) := by decide +kernel
theorem dX11_cell_33 : decode cX11_cell 33 = .ok (.isub, 1) := by decide +kernel
theorem dX11_cell_34 : decode cX11_cell 34 = .ok (.invokestatic 163, 3) := by decide +kernel
theorem dX11_cell_37 : decode cX11_cell 37 = .ok (.ifCond .ne 6, 3) := by decide +kernel
theorem dX11_cell_40 : decode cX11_cell 40 = .ok (.bipush (-12), 2) := by decide +kernel
theorem dX11_cell_42 : decode cX11_cell 42 = .ok (.ireturn, 1) := by decide +kernel
theorem dX11_cell_43 : decode cX11_cell 43 = .ok (.aload_n 0, 1) := by decide +kernel
theorem dX11_cell_44 : decode cX11_cell 44 = .ok (.getfield 130, 3) := by decide +kernel
theorem dX11_cell_47 : decode cX11_cell 47 = .ok (.iload_n 1, 1) := by decide +kernel
theorem dX11_cell_48 : decode cX11_cell 48 = .ok (.aaload, 1) := by decide +kernel
theorem dX11_cell_49 : decode cX11_cell 49 = .ok (.iload_n 2, 1) := by decide +kernel
theorem dX11_cell_50 : decode cX11_cell 50 = .ok (.aload_n 0, 1) := by decide +kernel
theorem dX11_cell_51 : decode cX11_cell 51 = .ok (.getfield 124, 3) := by decide +kernel
theorem dX11_cell_54 : decode cX11_cell 54 = .ok (.iload_n 1, 1) := by decide +kernel
theorem dX11_cell_55 : decode cX11_cell 55 = .ok (.iaload, 1) := by decide +kernel
theorem dX11_cell_56 : decode cX11_cell 56 = .ok (.ifCond .ne 8, 3) := by decide +kernel
theorem dX11_cell_59 : decode cX11_cell 59 = .ok (.iload_n 3, 1) := by decide +kernel
theorem dX11_cell_60 : decode cX11_cell 60 = .ok (.i2b, 1) := by decide +kernel
theorem dX11_cell_61 : decode cX11_cell 61 = .ok (.goto 19, 3) := by decide +kernel
theorem dX11_cell_64 : decode cX11_cell 64 = .ok (.aload_n 0, 1) := by decide +kernel
theorem dX11_cell_65 : decode cX11_cell 65 = .ok (.getfield 124, 3) := by decide +kernel
theorem dX11_cell_68 : decode cX11_cell 68 = .ok (.iload_n 1, 1) := by decide +kernel
theorem dX11_cell_69 : decode cX11_cell 69 = .ok (.iaload, 1) := by decide +kernel
theorem dX11_cell_70 : decode cX11_cell 70 = .ok (.iconst 1, 1) := by decide +kernel
theorem dX11_cell_71 : decode cX11_cell 71 = .ok (.if_icmp .ne 8, 3) := by decide +kernel
theorem dX11_cell_74 : decode cX11_cell 74 = .ok (.iload_n 3, 1) := by decide +kernel
theorem dX11_cell_75 : decode cX11_cell 75 = .ok (.i2s, 1) := by decide +kernel
theorem dX11_cell_76 : decode cX11_cell 76 = .ok (.goto 4, 3) := by decide +kernel
theorem dX11_cell_79 : decode cX11_cell 79 = .ok (.iload_n 3, 1) := by decide +kernel
theorem dX11_cell_80 : decode cX11_cell 80 = .ok (.iastore, 1) := by decide +kernel
theorem dX11_cell_81 : decode cX11_cell 81 = .ok (.aload_n 0, 1) := by decide +kernel
theorem dX11_cell_82 : decode cX11_cell 82 = .ok (.getfield 133, 3) := by decide +kernel
theorem dX11_cell_85 : decode cX11_cell 85 = .ok (.iload_n 1, 1) := by decide +kernel
theorem dX11_cell_86 : decode cX11_cell 86 = .ok (.aaload, 1) := by decide +kernel
theorem dX11_cell_87 : decode cX11_cell 87 = .ok (.iload_n 2, 1) := by decide +kernel
theorem dX11_cell_88 : decode cX11_cell 88 = .ok (.iconst 0, 1) := by decide +kernel
theorem dX11_cell_89 : decode cX11_cell 89 = .ok (.bastore, 1) := by decide +kernel
theorem dX11_cell_90 : decode cX11_cell 90 = .ok (.iconst 1, 1) := by decide +kernel
theorem dX11_cell_91 : decode cX11_cell 91 = .ok (.ireturn, 1) := by decide +kernel
theorem dX11_lose_0 : decode cX11_lose 0 = .ok (.iload_n 1, 1) := by decide +kernel
theorem dX11_lose_1 : decode cX11_lose 1 = .ok (.iconst 0, 1) := by decide +kernel
theorem dX11_lose_2 : decode cX11_lose 2 = .ok (.iconst 2, 1) := by decide +kernel
theorem dX11_lose_3 : decode cX11_lose 3 = .ok (.invokestatic 163, 3) := by decide +kernel
theorem dX11_lose_6 : decode cX11_lose 6 = .ok (.ifCond .ne 6, 3) := by decide +kernel
theorem dX11_lose_9 : decode cX11_lose 9 = .ok (.bipush (-2), 2) := by decide +kernel
theorem dX11_lose_11 : decode cX11_lose 11 = .ok (.ireturn, 1) := by decide +kernel
theorem dX11_lose_12 : decode cX11_lose 12 = .ok (.aload_n 0, 1) := by decide +kernel
theorem dX11_lose_13 : decode cX11_lose 13 = .ok (.getfield 124, 3) := by decide +kernel
theorem dX11_lose_16 : decode cX11_lose 16 = .ok (.iload_n 1, 1) := by decide +kernel
theorem dX11_lose_17 : decode cX11_lose 17 = .ok (.iaload, 1) := by decide +kernel
theorem dX11_lose_18 : decode cX11_lose 18 = .ok (.ifCond .ge 6, 3) := by decide +kernel
theorem dX11_lose_21 : decode cX11_lose 21 = .ok (.bipush (-11), 2) := by decide +kernel
theorem dX11_lose_23 : decode cX11_lose 23 = .ok (.ireturn, 1) := by decide +kernel
theorem dX11_lose_24 : decode cX11_lose 24 = .ok (.aload_n 0, 1) := by decide +kernel
theorem dX11_lose_25 : decode cX11_lose 25 = .ok (.getfield 124, 3) := by decide +kernel
theorem dX11_lose_28 : decode cX11_lose 28 = .ok (.iload_n 1, 1) := by decide +kernel
theorem dX11_lose_29 : decode cX11_lose 29 = .ok (.iaload, 1) := by decide +kernel
theorem dX11_lose_30 : decode cX11_lose 30 = .ok (.iconst 2, 1) := by decide +kernel
theorem dX11_lose_31 : decode cX11_lose 31 = .ok (.if_icmp .eq 6, 3) := by decide +kernel
theorem dX11_lose_34 : decode cX11_lose 34 = .ok (.bipush (-13), 2) := by decide +kernel
theorem dX11_lose_36 : decode cX11_lose 36 = .ok (.ireturn, 1) := by decide +kernel
theorem dX11_lose_37 : decode cX11_lose 37 = .ok (.iload_n 2, 1) := by decide +kernel
theorem dX11_lose_38 : decode cX11_lose 38 = .ok (.iconst 0, 1) := by decide +kernel
theorem dX11_lose_39 : decode cX11_lose 39 = .ok (.aload_n 0, 1) := by decide +kernel
theorem dX11_lose_40 : decode cX11_lose 40 = .ok (.getfield 127, 3) := by decide +kernel
theorem dX11_lose_43 : decode cX11_lose 43 = .ok (.iload_n 1, 1) := by decide +kernel
theorem dX11_lose_44 : decode cX11_lose 44 = .ok (.iaload, 1) := by decide +kernel
theorem dX11_lose_45 : decode cX11_lose 45 = .ok (.iconst 1, 1) := by decide +kernel
theorem dX11_lose_46 : decode cX11_lose 46 = .ok (.isub, 1) := by decide +kernel
theorem dX11_lose_47 : decode cX11_lose 47 = .ok (.invokestatic 163, 3) := by decide +kernel
theorem dX11_lose_50 : decode cX11_lose 50 = .ok (.ifCond .ne 6, 3) := by decide +kernel
theorem dX11_lose_53 : decode cX11_lose 53 = .ok (.bipush (-12), 2) := by decide +kernel
theorem dX11_lose_55 : decode cX11_lose 55 = .ok (.ireturn, 1) := by decide +kernel
theorem dX11_lose_56 : decode cX11_lose 56 = .ok (.aload_n 0, 1) := by decide +kernel
theorem dX11_lose_57 : decode cX11_lose 57 = .ok (.getfield 133, 3) := by decide +kernel
theorem dX11_lose_60 : decode cX11_lose 60 = .ok (.iload_n 1, 1) := by decide +kernel
theorem dX11_lose_61 : decode cX11_lose 61 = .ok (.aaload, 1) := by decide +kernel
theorem dX11_lose_62 : decode cX11_lose 62 = .ok (.iload_n 2, 1) := by decide +kernel
theorem dX11_lose_63 : decode cX11_lose 63 = .ok (.iconst 1, 1) := by decide +kernel
theorem dX11_lose_64 : decode cX11_lose 64 = .ok (.bastore, 1) := by decide +kernel
theorem dX11_lose_65 : decode cX11_lose 65 = .ok (.iconst 1, 1) := by decide +kernel
theorem dX11_lose_66 : decode cX11_lose 66 = .ok (.ireturn, 1) := by decide +kernel
theorem dX11_copy_0 : decode cX11_copy 0 = .ok (.iload_n 1, 1) := by decide +kernel
theorem dX11_copy_1 : decode cX11_copy 1 = .ok (.iconst 0, 1) := by decide +kernel
theorem dX11_copy_2 : decode cX11_copy 2 = .ok (.iconst 2, 1) := by decide +kernel
theorem dX11_copy_3 : decode cX11_copy 3 = .ok (.invokestatic 163, 3) := by decide +kernel
theorem dX11_copy_6 : decode cX11_copy 6 = .ok (.ifCond .eq 12, 3) := by decide +kernel
theorem dX11_copy_9 : decode cX11_copy 9 = .ok (.iload_n 3, 1) := by decide +kernel
theorem dX11_copy_10 : decode cX11_copy 10 = .ok (.iconst 0, 1) := by decide +kernel
theorem dX11_copy_11 : decode cX11_copy 11 = .ok (.iconst 2, 1) := by decide +kernel
theorem dX11_copy_12 : decode cX11_copy 12 = .ok (.invokestatic 163, 3) := by decide +kernel
theorem dX11_copy_15 : decode cX11_copy 15 = .ok (.ifCond .ne 6, 3) := by decide +kernel
theorem dX11_copy_18 : decode cX11_copy 18 = .ok (.bipush (-2), 2) := by decide +kernel
theorem dX11_copy_20 : decode cX11_copy 20 = .ok (.ireturn, 1) := by decide +kernel
theorem dX11_copy_21 : decode cX11_copy 21 = .ok (.aload_n 0, 1) := by decide +kernel
theorem dX11_copy_22 : decode cX11_copy 22 = .ok (.getfield 124, 3) := by decide +kernel
theorem dX11_copy_25 : decode cX11_copy 25 = .ok (.iload_n 1, 1) := by decide +kernel
theorem dX11_copy_26 : decode cX11_copy 26 = .ok (.iaload, 1) := by decide +kernel
theorem dX11_copy_27 : decode cX11_copy 27 = .ok (.ifCond .lt 12, 3) := by decide +kernel
theorem dX11_copy_30 : decode cX11_copy 30 = .ok (.aload_n 0, 1) := by decide +kernel
theorem dX11_copy_31 : decode cX11_copy 31 = .ok (.getfield 124, 3) := by decide +kernel
theorem dX11_copy_34 : decode cX11_copy 34 = .ok (.iload_n 3, 1) := by decide +kernel
theorem dX11_copy_35 : decode cX11_copy 35 = .ok (.iaload, 1) := by decide +kernel
theorem dX11_copy_36 : decode cX11_copy 36 = .ok (.ifCond .ge 6, 3) := by decide +kernel
theorem dX11_copy_39 : decode cX11_copy 39 = .ok (.bipush (-11), 2) := by decide +kernel
theorem dX11_copy_41 : decode cX11_copy 41 = .ok (.ireturn, 1) := by decide +kernel
theorem dX11_copy_42 : decode cX11_copy 42 = .ok (.aload_n 0, 1) := by decide +kernel
theorem dX11_copy_43 : decode cX11_copy 43 = .ok (.getfield 124, 3) := by decide +kernel
theorem dX11_copy_46 : decode cX11_copy 46 = .ok (.iload_n 1, 1) := by decide +kernel
theorem dX11_copy_47 : decode cX11_copy 47 = .ok (.iaload, 1) := by decide +kernel
theorem dX11_copy_48 : decode cX11_copy 48 = .ok (.aload_n 0, 1) := by decide +kernel
theorem dX11_copy_49 : decode cX11_copy 49 = .ok (.getfield 124, 3) := by decide +kernel
theorem dX11_copy_52 : decode cX11_copy 52 = .ok (.iload_n 3, 1) := by decide +kernel
theorem dX11_copy_53 : decode cX11_copy 53 = .ok (.iaload, 1) := by decide +kernel
theorem dX11_copy_54 : decode cX11_copy 54 = .ok (.if_icmp .eq 6, 3) := by decide +kernel
theorem dX11_copy_57 : decode cX11_copy 57 = .ok (.bipush (-13), 2) := by decide +kernel
theorem dX11_copy_59 : decode cX11_copy 59 = .ok (.ireturn, 1) := by decide +kernel
theorem dX11_copy_60 : decode cX11_copy 60 = .ok (.iload 5, 2) := by decide +kernel
theorem dX11_copy_62 : decode cX11_copy 62 = .ok (.ifCond .lt 47, 3) := by decide +kernel
theorem dX11_copy_65 : decode cX11_copy 65 = .ok (.iload_n 2, 1) := by decide +kernel
theorem dX11_copy_66 : decode cX11_copy 66 = .ok (.ifCond .lt 43, 3) := by decide +kernel
theorem dX11_copy_69 : decode cX11_copy 69 = .ok (.iload 4, 2) := by decide +kernel
theorem dX11_copy_71 : decode cX11_copy 71 = .ok (.ifCond .lt 38, 3) := by decide +kernel
theorem dX11_copy_74 : decode cX11_copy 74 = .ok (.iload_n 2, 1) := by decide +kernel
theorem dX11_copy_75 : decode cX11_copy 75 = .ok (.i2l, 1) := by decide +kernel
theorem dX11_copy_76 : decode cX11_copy 76 = .ok (.iload 5, 2) := by decide +kernel
theorem dX11_copy_78 : decode cX11_copy 78 = .ok (.i2l, 1) := by decide +kernel
theorem dX11_copy_79 : decode cX11_copy 79 = .ok (.ladd, 1) := by decide +kernel
theorem dX11_copy_80 : decode cX11_copy 80 = .ok (.aload_n 0, 1) := by decide +kernel
theorem dX11_copy_81 : decode cX11_copy 81 = .ok (.getfield 127, 3) := by decide +kernel
theorem dX11_copy_84 : decode cX11_copy 84 = .ok (.iload_n 1, 1) := by decide +kernel
theorem dX11_copy_85 : decode cX11_copy 85 = .ok (.iaload, 1) := by decide +kernel
theorem dX11_copy_86 : decode cX11_copy 86 = .ok (.i2l, 1) := by decide +kernel
theorem dX11_copy_87 : decode cX11_copy 87 = .ok (.lcmp, 1) := by decide +kernel
theorem dX11_copy_88 : decode cX11_copy 88 = .ok (.ifCond .gt 21, 3) := by decide +kernel
theorem dX11_copy_91 : decode cX11_copy 91 = .ok (.iload 4, 2) := by decide +kernel
theorem dX11_copy_93 : decode cX11_copy 93 = .ok (.i2l, 1) := by decide +kernel
theorem dX11_copy_94 : decode cX11_copy 94 = .ok (.iload 5, 2) := by decide +kernel
theorem dX11_copy_96 : decode cX11_copy 96 = .ok (.i2l, 1) := by decide +kernel
theorem dX11_copy_97 : decode cX11_copy 97 = .ok (.ladd, 1) := by decide +kernel
theorem dX11_copy_98 : decode cX11_copy 98 = .ok (.aload_n 0, 1) := by decide +kernel
theorem dX11_copy_99 : decode cX11_copy 99 = .ok (.getfield 127, 3) := by decide +kernel
theorem dX11_copy_102 : decode cX11_copy 102 = .ok (.iload_n 3, 1) := by decide +kernel
theorem dX11_copy_103 : decode cX11_copy 103 = .ok (.iaload, 1) := by decide +kernel
theorem dX11_copy_104 : decode cX11_copy 104 = .ok (.i2l, 1) := by decide +kernel
theorem dX11_copy_105 : decode cX11_copy 105 = .ok (.lcmp, 1) := by decide +kernel
theorem dX11_copy_106 : decode cX11_copy 106 = .ok (.ifCond .le 6, 3) := by decide +kernel
theorem dX11_copy_109 : decode cX11_copy 109 = .ok (.bipush (-12), 2) := by decide +kernel
theorem dX11_copy_111 : decode cX11_copy 111 = .ok (.ireturn, 1) := by decide +kernel
theorem dX11_copy_112 : decode cX11_copy 112 = .ok (.aload_n 0, 1) := by decide +kernel
theorem dX11_copy_113 : decode cX11_copy 113 = .ok (.getfield 130, 3) := by decide +kernel
theorem dX11_copy_116 : decode cX11_copy 116 = .ok (.iload_n 1, 1) := by decide +kernel
theorem dX11_copy_117 : decode cX11_copy 117 = .ok (.aaload, 1) := by decide +kernel
theorem dX11_copy_118 : decode cX11_copy 118 = .ok (.iload_n 2, 1) := by decide +kernel
theorem dX11_copy_119 : decode cX11_copy 119 = .ok (.aload_n 0, 1) := by decide +kernel
theorem dX11_copy_120 : decode cX11_copy 120 = .ok (.getfield 130, 3) := by decide +kernel
theorem dX11_copy_123 : decode cX11_copy 123 = .ok (.iload_n 3, 1) := by decide +kernel
theorem dX11_copy_124 : decode cX11_copy 124 = .ok (.aaload, 1) := by decide +kernel
theorem dX11_copy_125 : decode cX11_copy 125 = .ok (.iload 4, 2) := by decide +kernel
theorem dX11_copy_127 : decode cX11_copy 127 = .ok (.iload 5, 2) := by decide +kernel
theorem dX11_copy_129 : decode cX11_copy 129 = .ok (.invokestatic 304, 3) := by decide +kernel
theorem dX11_copy_132 : decode cX11_copy 132 = .ok (.aload_n 0, 1) := by decide +kernel
theorem dX11_copy_133 : decode cX11_copy 133 = .ok (.getfield 133, 3) := by decide +kernel
theorem dX11_copy_136 : decode cX11_copy 136 = .ok (.iload_n 1, 1) := by decide +kernel
theorem dX11_copy_137 : decode cX11_copy 137 = .ok (.aaload, 1) := by decide +kernel
theorem dX11_copy_138 : decode cX11_copy 138 = .ok (.iload_n 2, 1) := by decide +kernel
theorem dX11_copy_139 : decode cX11_copy 139 = .ok (.aload_n 0, 1) := by decide +kernel
theorem dX11_copy_140 : decode cX11_copy 140 = .ok (.getfield 133, 3) := by decide +kernel
theorem dX11_copy_143 : decode cX11_copy 143 = .ok (.iload_n 3, 1) := by decide +kernel
theorem dX11_copy_144 : decode cX11_copy 144 = .ok (.aaload, 1) := by decide +kernel
theorem dX11_copy_145 : decode cX11_copy 145 = .ok (.iload 4, 2) := by decide +kernel
theorem dX11_copy_147 : decode cX11_copy 147 = .ok (.iload 5, 2) := by decide +kernel
theorem dX11_copy_149 : decode cX11_copy 149 = .ok (.invokestatic 304, 3) := by decide +kernel
theorem dX11_copy_152 : decode cX11_copy 152 = .ok (.iload 5, 2) := by decide +kernel
theorem dX11_copy_154 : decode cX11_copy 154 = .ok (.ireturn, 1) := by decide +kernel
