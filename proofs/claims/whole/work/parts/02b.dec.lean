theorem dX0_init_0 : decode cX0_init 0 = .ok (.aload_n 0, 1) := by decide +kernel
theorem dX0_init_1 : decode cX0_init 1 = .ok (.invokespecial 3, 3) := by decide +kernel
theorem dX0_init_4 : decode cX0_init 4 = .ok (.aload_n 0, 1) := by decide +kernel
theorem dX0_init_5 : decode cX0_init 5 = .ok (.iconst 4, 1) := by decide +kernel
theorem dX0_init_6 : decode cX0_init 6 = .ok (.newarray .int, 2) := by decide +kernel
theorem dX0_init_8 : decode cX0_init 8 = .ok (.putfield 9, 3) := by decide +kernel
theorem dX0_init_11 : decode cX0_init 11 = .ok (.aload_n 0, 1) := by decide +kernel
theorem dX0_init_12 : decode cX0_init 12 = .ok (.iconst 4, 1) := by decide +kernel
theorem dX0_init_13 : decode cX0_init 13 = .ok (.newarray .int, 2) := by decide +kernel
theorem dX0_init_15 : decode cX0_init 15 = .ok (.putfield 15, 3) := by decide +kernel
theorem dX0_init_18 : decode cX0_init 18 = .ok (.aload_n 0, 1) := by decide +kernel
theorem dX0_init_19 : decode cX0_init 19 = .ok (.iconst 4, 1) := by decide +kernel
theorem dX0_init_20 : decode cX0_init 20 = .ok (.newarray .int, 2) := by decide +kernel
theorem dX0_init_22 : decode cX0_init 22 = .ok (.putfield 18, 3) := by decide +kernel
theorem dX0_init_25 : decode cX0_init 25 = .ok (.aload_n 0, 1) := by decide +kernel
theorem dX0_init_26 : decode cX0_init 26 = .ok (.iconst 4, 1) := by decide +kernel
theorem dX0_init_27 : decode cX0_init 27 = .ok (.newarray .int, 2) := by decide +kernel
theorem dX0_init_29 : decode cX0_init 29 = .ok (.putfield 21, 3) := by decide +kernel
theorem dX0_init_32 : decode cX0_init 32 = .ok (.aload_n 0, 1) := by decide +kernel
theorem dX0_init_33 : decode cX0_init 33 = .ok (.bipush 30, 2) := by decide +kernel
theorem dX0_init_35 : decode cX0_init 35 = .ok (.newarray .int, 2) := by decide +kernel
theorem dX0_init_37 : decode cX0_init 37 = .ok (.putfield 24, 3) := by decide +kernel
theorem dX0_init_40 : decode cX0_init 40 = .ok (.aload_n 0, 1) := by decide +kernel
theorem dX0_init_41 : decode cX0_init 41 = .ok (.bipush 30, 2) := by decide +kernel
theorem dX0_init_43 : decode cX0_init 43 = .ok (.newarray .int, 2) := by decide +kernel
theorem dX0_init_45 : decode cX0_init 45 = .ok (.putfield 27, 3) := by decide +kernel
theorem dX0_init_48 : decode cX0_init 48 = .ok (.aload_n 0, 1) := by decide +kernel
theorem dX0_init_49 : decode cX0_init 49 = .ok (.iconst 5, 1) := by decide +kernel
theorem dX0_init_50 : decode cX0_init 50 = .ok (.newarray .int, 2) := by decide +kernel
theorem dX0_init_52 : decode cX0_init 52 = .ok (.putfield 30, 3) := by decide +kernel
theorem dX0_init_55 : decode cX0_init 55 = .ok (.aload_n 0, 1) := by decide +kernel
theorem dX0_init_56 : decode cX0_init 56 = .ok (.iconst 4, 1) := by decide +kernel
theorem dX0_init_57 : decode cX0_init 57 = .ok (.bipush 32, 2) := by decide +kernel
theorem dX0_init_59 : decode cX0_init 59 = .ok (.multianewarray 33 2, 4) := by decide +kernel
theorem dX0_init_63 : decode cX0_init 63 = .ok (.putfield 35, 3) := by decide +kernel
theorem dX0_init_66 : decode cX0_init 66 = .ok (.aload_n 0, 1) := by decide +kernel
theorem dX0_init_67 : decode cX0_init 67 = .ok (.iconst 5, 1) := by decide +kernel
theorem dX0_init_68 : decode cX0_init 68 = .ok (.newarray .int, 2) := by decide +kernel
theorem dX0_init_70 : decode cX0_init 70 = .ok (.putfield 38, 3) := by decide +kernel
theorem dX0_init_73 : decode cX0_init 73 = .ok (.aload_n 0, 1) := by decide +kernel
theorem dX0_init_74 : decode cX0_init 74 = .ok (.iconst 4, 1) := by decide +kernel
theorem dX0_init_75 : decode cX0_init 75 = .ok (.newarray .int, 2) := by decide +kernel
theorem dX0_init_77 : decode cX0_init 77 = .ok (.putfield 41, 3) := by decide +kernel
theorem dX0_init_80 : decode cX0_init 80 = .ok (.aload_n 0, 1) := by decide +kernel
theorem dX0_init_81 : decode cX0_init 81 = .ok (.iconst 5, 1) := by decide +kernel
theorem dX0_init_82 : decode cX0_init 82 = .ok (.newarray .int, 2) := by decide +kernel
theorem dX0_init_84 : decode cX0_init 84 = .ok (.putfield 44, 3) := by decide +kernel
theorem dX0_init_87 : decode cX0_init 87 = .ok (.return_, 1) := by decide +kernel
theorem dX0_has_0 : decode cX0_has 0 = .ok (.iload_n 1, 1) := by decide +kernel
theorem dX0_has_1 : decode cX0_has 1 = .ok (.ifCond .lt 15, 3) := by decide +kernel
theorem dX0_has_4 : decode cX0_has 4 = .ok (.iload_n 1, 1) := by decide +kernel
theorem dX0_has_5 : decode cX0_has 5 = .ok (.aload_n 0, 1) := by decide +kernel
theorem dX0_has_6 : decode cX0_has 6 = .ok (.getfield 47, 3) := by decide +kernel
theorem dX0_has_9 : decode cX0_has 9 = .ok (.if_icmp .ge 7, 3) := by decide +kernel
theorem dX0_has_12 : decode cX0_has 12 = .ok (.iconst 1, 1) := by decide +kernel
theorem dX0_has_13 : decode cX0_has 13 = .ok (.goto 4, 3) := by decide +kernel
theorem dX0_has_16 : decode cX0_has 16 = .ok (.iconst 0, 1) := by decide +kernel
theorem dX0_has_17 : decode cX0_has 17 = .ok (.ireturn, 1) := by decide +kernel
theorem dX0_enter_0 : decode cX0_enter 0 = .ok (.aload_n 0, 1) := by decide +kernel
theorem dX0_enter_1 : decode cX0_enter 1 = .ok (.getfield 9, 3) := by decide +kernel
theorem dX0_enter_4 : decode cX0_enter 4 = .ok (.aload_n 0, 1) := by decide +kernel
theorem dX0_enter_5 : decode cX0_enter 5 = .ok (.getfield 47, 3) := by decide +kernel
theorem dX0_enter_8 : decode cX0_enter 8 = .ok (.iload_n 1, 1) := by decide +kernel
theorem dX0_enter_9 : decode cX0_enter 9 = .ok (.iastore, 1) := by decide +kernel
theorem dX0_enter_10 : decode cX0_enter 10 = .ok (.aload_n 0, 1) := by decide +kernel
theorem dX0_enter_11 : decode cX0_enter 11 = .ok (.getfield 15, 3) := by decide +kernel
theorem dX0_enter_14 : decode cX0_enter 14 = .ok (.aload_n 0, 1) := by decide +kernel
theorem dX0_enter_15 : decode cX0_enter 15 = .ok (.getfield 47, 3) := by decide +kernel
theorem dX0_enter_18 : decode cX0_enter 18 = .ok (.iload_n 2, 1) := by decide +kernel
theorem dX0_enter_19 : decode cX0_enter 19 = .ok (.iastore, 1) := by decide +kernel
theorem dX0_enter_20 : decode cX0_enter 20 = .ok (.aload_n 0, 1) := by decide +kernel
theorem dX0_enter_21 : decode cX0_enter 21 = .ok (.dup, 1) := by decide +kernel
theorem dX0_enter_22 : decode cX0_enter 22 = .ok (.getfield 47, 3) := by decide +kernel
theorem dX0_enter_25 : decode cX0_enter 25 = .ok (.dup_x1, 1) := by decide +kernel
theorem dX0_enter_26 : decode cX0_enter 26 = .ok (.iconst 1, 1) := by decide +kernel
theorem dX0_enter_27 : decode cX0_enter 27 = .ok (.iadd, 1) := by decide +kernel
theorem dX0_enter_28 : decode cX0_enter 28 = .ok (.putfield 47, 3) := by decide +kernel
theorem dX0_enter_31 : decode cX0_enter 31 = .ok (.ireturn, 1) := by decide +kernel
theorem dX0_grow_0 : decode cX0_grow 0 = .ok (.iload_n 2, 1) := by decide +kernel
theorem dX0_grow_1 : decode cX0_grow 1 = .ok (.iconst 5, 1) := by decide +kernel
theorem dX0_grow_2 : decode cX0_grow 2 = .ok (.aload_n 0, 1) := by decide +kernel
theorem dX0_grow_3 : decode cX0_grow 3 = .ok (.getfield 9, 3) := by decide +kernel
theorem dX0_grow_6 : decode cX0_grow 6 = .ok (.iload_n 1, 1) := by decide +kernel
theorem dX0_grow_7 : decode cX0_grow 7 = .ok (.iaload, 1) := by decide +kernel
theorem dX0_grow_8 : decode cX0_grow 8 = .ok (.imul, 1) := by decide +kernel
theorem dX0_grow_9 : decode cX0_grow 9 = .ok (.isub, 1) := by decide +kernel
theorem dX0_grow_10 : decode cX0_grow 10 = .ok (.istore 4, 2) := by decide +kernel
theorem dX0_grow_12 : decode cX0_grow 12 = .ok (.aload_n 0, 1) := by decide +kernel
theorem dX0_grow_13 : decode cX0_grow 13 = .ok (.getfield 21, 3) := by decide +kernel
theorem dX0_grow_16 : decode cX0_grow 16 = .ok (.iload_n 1, 1) := by decide +kernel
theorem dX0_grow_17 : decode cX0_grow 17 = .ok (.aload_n 0, 1) := by decide +kernel
theorem dX0_grow_18 : decode cX0_grow 18 = .ok (.getfield 21, 3) := by decide +kernel
theorem dX0_grow_21 : decode cX0_grow 21 = .ok (.iload_n 1, 1) := by decide +kernel
theorem dX0_grow_22 : decode cX0_grow 22 = .ok (.iaload, 1) := by decide +kernel
theorem dX0_grow_23 : decode cX0_grow 23 = .ok (.iload 4, 2) := by decide +kernel
theorem dX0_grow_25 : decode cX0_grow 25 = .ok (.iload_n 3, 1) := by decide +kernel
theorem dX0_grow_26 : decode cX0_grow 26 = .ok (.invokestatic 51, 3) := by decide +kernel
theorem dX0_grow_29 : decode cX0_grow 29 = .ok (.iastore, 1) := by decide +kernel
theorem dX0_grow_30 : decode cX0_grow 30 = .ok (.aload_n 0, 1) := by decide +kernel
theorem dX0_grow_31 : decode cX0_grow 31 = .ok (.getfield 21, 3) := by decide +kernel
theorem dX0_grow_34 : decode cX0_grow 34 = .ok (.iload_n 1, 1) := by decide +kernel
theorem dX0_grow_35 : decode cX0_grow 35 = .ok (.iaload, 1) := by decide +kernel
theorem dX0_grow_36 : decode cX0_grow 36 = .ok (.ifCond .ne 26, 3) := by decide +kernel
theorem dX0_grow_39 : decode cX0_grow 39 = .ok (.aload_n 0, 1) := by decide +kernel
theorem dX0_grow_40 : decode cX0_grow 40 = .ok (.getfield 18, 3) := by decide +kernel
theorem dX0_grow_43 : decode cX0_grow 43 = .ok (.iload_n 1, 1) := by decide +kernel
theorem dX0_grow_44 : decode cX0_grow 44 = .ok (.aload_n 0, 1) := by decide +kernel
theorem dX0_grow_45 : decode cX0_grow 45 = .ok (.getfield 18, 3) := by decide +kernel
theorem dX0_grow_48 : decode cX0_grow 48 = .ok (.iload_n 1, 1) := by decide +kernel
theorem dX0_grow_49 : decode cX0_grow 49 = .ok (.iaload, 1) := by decide +kernel
theorem dX0_grow_50 : decode cX0_grow 50 = .ok (.iload 4, 2) := by decide +kernel
theorem dX0_grow_52 : decode cX0_grow 52 = .ok (.aload_n 0, 1) := by decide +kernel
theorem dX0_grow_53 : decode cX0_grow 53 = .ok (.getfield 15, 3) := by decide +kernel
theorem dX0_grow_56 : decode cX0_grow 56 = .ok (.iload_n 1, 1) := by decide +kernel
theorem dX0_grow_57 : decode cX0_grow 57 = .ok (.iaload, 1) := by decide +kernel
theorem dX0_grow_58 : decode cX0_grow 58 = .ok (.invokestatic 55, 3) := by decide +kernel
theorem dX0_grow_61 : decode cX0_grow 61 = .ok (.iastore, 1) := by decide +kernel
theorem dX0_grow_62 : decode cX0_grow 62 = .ok (.return_, 1) := by decide +kernel
theorem dX0_snowAfter_0 : decode cX0_snowAfter 0 = .ok (.iload_n 1, 1) := by decide +kernel
theorem dX0_snowAfter_1 : decode cX0_snowAfter 1 = .ok (.iconst 2, 1) := by decide +kernel
theorem dX0_snowAfter_2 : decode cX0_snowAfter 2 = .ok (.if_icmp .gt 9, 3) := by decide +kernel
theorem dX0_snowAfter_5 : decode cX0_snowAfter 5 = .ok (.iload_n 0, 1) := by decide +kernel
theorem dX0_snowAfter_6 : decode cX0_snowAfter 6 = .ok (.iload_n 2, 1) := by decide +kernel
theorem dX0_snowAfter_7 : decode cX0_snowAfter 7 = .ok (.iadd, 1) := by decide +kernel
theorem dX0_snowAfter_8 : decode cX0_snowAfter 8 = .ok (.goto 12, 3) := by decide +kernel
theorem dX0_snowAfter_11 : decode cX0_snowAfter 11 = .ok (.iconst 0, 1) := by decide +kernel
theorem dX0_snowAfter_12 : decode cX0_snowAfter 12 = .ok (.iload_n 0, 1) := by decide +kernel
theorem dX0_snowAfter_13 : decode cX0_snowAfter 13 = .ok (.iconst 2, 1) := by decide +kernel
theorem dX0_snowAfter_14 : decode cX0_snowAfter 14 = .ok (.iload_n 1, 1) := by decide +kernel
theorem dX0_snowAfter_15 : decode cX0_snowAfter 15 = .ok (.imul, 1) := by decide +kernel
theorem dX0_snowAfter_16 : decode cX0_snowAfter 16 = .ok (.isub, 1) := by decide +kernel
theorem dX0_snowAfter_17 : decode cX0_snowAfter 17 = .ok (.invokestatic 58, 3) := by decide +kernel
theorem dX0_snowAfter_20 : decode cX0_snowAfter 20 = .ok (.ireturn, 1) := by decide +kernel
theorem dX0_grassAfter_0 : decode cX0_grassAfter 0 = .ok (.iload_n 1, 1) := by decide +kernel
theorem dX0_grassAfter_1 : decode cX0_grassAfter 1 = .ok (.ifCond .gt 5, 3) := by decide +kernel
theorem dX0_grassAfter_4 : decode cX0_grassAfter 4 = .ok (.iload_n 0, 1) := by decide +kernel
theorem dX0_grassAfter_5 : decode cX0_grassAfter 5 = .ok (.ireturn, 1) := by decide +kernel
theorem dX0_grassAfter_6 : decode cX0_grassAfter 6 = .ok (.bipush 10, 2) := by decide +kernel
theorem dX0_grassAfter_8 : decode cX0_grassAfter 8 = .ok (.iload_n 2, 1) := by decide +kernel
theorem dX0_grassAfter_9 : decode cX0_grassAfter 9 = .ok (.imul, 1) := by decide +kernel
theorem dX0_grassAfter_10 : decode cX0_grassAfter 10 = .ok (.iload_n 0, 1) := by decide +kernel
theorem dX0_grassAfter_11 : decode cX0_grassAfter 11 = .ok (.iload_n 1, 1) := by decide +kernel
theorem dX0_grassAfter_12 : decode cX0_grassAfter 12 = .ok (.bipush 20, 2) := by decide +kernel
theorem dX0_grassAfter_14 : decode cX0_grassAfter 14 = .ok (.invokestatic 64, 3) := by decide +kernel
theorem dX0_grassAfter_17 : decode cX0_grassAfter 17 = .ok (.iload_n 2, 1) := by decide +kernel
theorem dX0_grassAfter_18 : decode cX0_grassAfter 18 = .ok (.imul, 1) := by decide +kernel
theorem dX0_grassAfter_19 : decode cX0_grassAfter 19 = .ok (.bipush 10, 2) := by decide +kernel
theorem dX0_grassAfter_21 : decode cX0_grassAfter 21 = .ok (.idiv, 1) := by decide +kernel
theorem dX0_grassAfter_22 : decode cX0_grassAfter 22 = .ok (.iadd, 1) := by decide +kernel
theorem dX0_grassAfter_23 : decode cX0_grassAfter 23 = .ok (.invokestatic 64, 3) := by decide +kernel
theorem dX0_grassAfter_26 : decode cX0_grassAfter 26 = .ok (.ireturn, 1) := by decide +kernel
theorem dX0_feedCows_0 : decode cX0_feedCows 0 = .ok (.iload_n 2, 1) := by decide +kernel
theorem dX0_feedCows_1 : decode cX0_feedCows 1 = .ok (.aload_n 0, 1) := by decide +kernel
theorem dX0_feedCows_2 : decode cX0_feedCows 2 = .ok (.getfield 18, 3) := by decide +kernel
theorem dX0_feedCows_5 : decode cX0_feedCows 5 = .ok (.iload_n 1, 1) := by decide +kernel
theorem dX0_feedCows_6 : decode cX0_feedCows 6 = .ok (.iaload, 1) := by decide +kernel
theorem dX0_feedCows_7 : decode cX0_feedCows 7 = .ok (.iconst 3, 1) := by decide +kernel
theorem dX0_feedCows_8 : decode cX0_feedCows 8 = .ok (.idiv, 1) := by decide +kernel
theorem dX0_feedCows_9 : decode cX0_feedCows 9 = .ok (.invokestatic 64, 3) := by decide +kernel
theorem dX0_feedCows_12 : decode cX0_feedCows 12 = .ok (.istore_n 3, 1) := by decide +kernel
theorem dX0_feedCows_13 : decode cX0_feedCows 13 = .ok (.aload_n 0, 1) := by decide +kernel
theorem dX0_feedCows_14 : decode cX0_feedCows 14 = .ok (.getfield 18, 3) := by decide +kernel
theorem dX0_feedCows_17 : decode cX0_feedCows 17 = .ok (.iload_n 1, 1) := by decide +kernel
theorem dX0_feedCows_18 : decode cX0_feedCows 18 = .ok (.dup2, 1) := by decide +kernel
theorem dX0_feedCows_19 : decode cX0_feedCows 19 = .ok (.iaload, 1) := by decide +kernel
theorem dX0_feedCows_20 : decode cX0_feedCows 20 = .ok (.iconst 3, 1) := by decide +kernel
theorem dX0_feedCows_21 : decode cX0_feedCows 21 = .ok (.iload_n 3, 1) := by decide +kernel
theorem dX0_feedCows_22 : decode cX0_feedCows 22 = .ok (.imul, 1) := by decide +kernel
theorem dX0_feedCows_23 : decode cX0_feedCows 23 = .ok (.isub, 1) := by decide +kernel
theorem dX0_feedCows_24 : decode cX0_feedCows 24 = .ok (.iastore, 1) := by decide +kernel
theorem dX0_feedCows_25 : decode cX0_feedCows 25 = .ok (.iload_n 3, 1) := by decide +kernel
theorem dX0_feedCows_26 : decode cX0_feedCows 26 = .ok (.ireturn, 1) := by decide +kernel
theorem dX0_hungerWith_0 : decode cX0_hungerWith 0 = .ok (.aload_n 0, 1) := by decide +kernel
theorem dX0_hungerWith_1 : decode cX0_hungerWith 1 = .ok (.getfield 18, 3) := by decide +kernel
theorem dX0_hungerWith_4 : decode cX0_hungerWith 4 = .ok (.iload_n 1, 1) := by decide +kernel
theorem dX0_hungerWith_5 : decode cX0_hungerWith 5 = .ok (.iaload, 1) := by decide +kernel
theorem dX0_hungerWith_6 : decode cX0_hungerWith 6 = .ok (.istore 4, 2) := by decide +kernel
theorem dX0_hungerWith_8 : decode cX0_hungerWith 8 = .ok (.aload_n 0, 1) := by decide +kernel
theorem dX0_hungerWith_9 : decode cX0_hungerWith 9 = .ok (.getfield 21, 3) := by decide +kernel
theorem dX0_hungerWith_12 : decode cX0_hungerWith 12 = .ok (.iload_n 1, 1) := by decide +kernel
theorem dX0_hungerWith_13 : decode cX0_hungerWith 13 = .ok (.iaload, 1) := by decide +kernel
theorem dX0_hungerWith_14 : decode cX0_hungerWith 14 = .ok (.istore 5, 2) := by decide +kernel
theorem dX0_hungerWith_16 : decode cX0_hungerWith 16 = .ok (.iconst 0, 1) := by decide +kernel
theorem dX0_hungerWith_17 : decode cX0_hungerWith 17 = .ok (.istore 6, 2) := by decide +kernel
theorem dX0_hungerWith_19 : decode cX0_hungerWith 19 = .ok (.iconst 0, 1) := by decide +kernel
theorem dX0_hungerWith_20 : decode cX0_hungerWith 20 = .ok (.istore 7, 2) := by decide +kernel
theorem dX0_hungerWith_22 : decode cX0_hungerWith 22 = .ok (.iload 7, 2) := by decide +kernel
theorem dX0_hungerWith_24 : decode cX0_hungerWith 24 = .ok (.iload_n 3, 1) := by decide +kernel
theorem dX0_hungerWith_25 : decode cX0_hungerWith 25 = .ok (.if_icmp .ge 98, 3) := by decide +kernel
theorem dX0_hungerWith_28 : decode cX0_hungerWith 28 = .ok (.iload 7, 2) := by decide +kernel
theorem dX0_hungerWith_30 : decode cX0_hungerWith 30 = .ok (.bipush 30, 2) := by decide +kernel
theorem dX0_hungerWith_32 : decode cX0_hungerWith 32 = .ok (.if_icmp .ge 91, 3) := by decide +kernel
theorem dX0_hungerWith_35 : decode cX0_hungerWith 35 = .ok (.aload_n 0, 1) := by decide +kernel
theorem dX0_hungerWith_36 : decode cX0_hungerWith 36 = .ok (.getfield 24, 3) := by decide +kernel
theorem dX0_hungerWith_39 : decode cX0_hungerWith 39 = .ok (.iload 7, 2) := by decide +kernel
theorem dX0_hungerWith_41 : decode cX0_hungerWith 41 = .ok (.iaload, 1) := by decide +kernel
theorem dX0_hungerWith_42 : decode cX0_hungerWith 42 = .ok (.iconst 5, 1) := by decide +kernel
theorem dX0_hungerWith_43 : decode cX0_hungerWith 43 = .ok (.aload_n 0, 1) := by decide +kernel
theorem dX0_hungerWith_44 : decode cX0_hungerWith 44 = .ok (.getfield 9, 3) := by decide +kernel
theorem dX0_hungerWith_47 : decode cX0_hungerWith 47 = .ok (.iload_n 1, 1) := by decide +kernel
theorem dX0_hungerWith_48 : decode cX0_hungerWith 48 = .ok (.iaload, 1) := by decide +kernel
theorem dX0_hungerWith_49 : decode cX0_hungerWith 49 = .ok (.imul, 1) := by decide +kernel
theorem dX0_hungerWith_50 : decode cX0_hungerWith 50 = .ok (.isub, 1) := by decide +kernel
theorem dX0_hungerWith_51 : decode cX0_hungerWith 51 = .ok (.istore 8, 2) := by decide +kernel
theorem dX0_hungerWith_53 : decode cX0_hungerWith 53 = .ok (.iload 5, 2) := by decide +kernel
theorem dX0_hungerWith_55 : decode cX0_hungerWith 55 = .ok (.iload 8, 2) := by decide +kernel
theorem dX0_hungerWith_57 : decode cX0_hungerWith 57 = .ok (.aload_n 0, 1) := by decide +kernel
theorem dX0_hungerWith_58 : decode cX0_hungerWith 58 = .ok (.getfield 27, 3) := by decide +kernel
theorem dX0_hungerWith_61 : decode cX0_hungerWith 61 = .ok (.iload 7, 2) := by decide +kernel
theorem dX0_hungerWith_63 : decode cX0_hungerWith 63 = .ok (.iaload, 1) := by decide +kernel
theorem dX0_hungerWith_64 : decode cX0_hungerWith 64 = .ok (.invokestatic 51, 3) := by decide +kernel
theorem dX0_hungerWith_67 : decode cX0_hungerWith 67 = .ok (.istore 5, 2) := by decide +kernel
theorem dX0_hungerWith_69 : decode cX0_hungerWith 69 = .ok (.iload 5, 2) := by decide +kernel
theorem dX0_hungerWith_71 : decode cX0_hungerWith 71 = .ok (.ifCond .ne 18, 3) := by decide +kernel
theorem dX0_hungerWith_74 : decode cX0_hungerWith 74 = .ok (.iload 4, 2) := by decide +kernel
theorem dX0_hungerWith_76 : decode cX0_hungerWith 76 = .ok (.iload 8, 2) := by decide +kernel
theorem dX0_hungerWith_78 : decode cX0_hungerWith 78 = .ok (.aload_n 0, 1) := by decide +kernel
theorem dX0_hungerWith_79 : decode cX0_hungerWith 79 = .ok (.getfield 15, 3) := by decide +kernel
theorem dX0_hungerWith_82 : decode cX0_hungerWith 82 = .ok (.iload_n 1, 1) := by decide +kernel
theorem dX0_hungerWith_83 : decode cX0_hungerWith 83 = .ok (.iaload, 1) := by decide +kernel
theorem dX0_hungerWith_84 : decode cX0_hungerWith 84 = .ok (.invokestatic 55, 3) := by decide +kernel
theorem dX0_hungerWith_87 : decode cX0_hungerWith 87 = .ok (.istore 4, 2) := by decide +kernel
theorem dX0_hungerWith_89 : decode cX0_hungerWith 89 = .ok (.iload_n 2, 1) := by decide +kernel
theorem dX0_hungerWith_90 : decode cX0_hungerWith 90 = .ok (.iload 4, 2) := by decide +kernel
theorem dX0_hungerWith_92 : decode cX0_hungerWith 92 = .ok (.iconst 3, 1) := by decide +kernel
theorem dX0_hungerWith_93 : decode cX0_hungerWith 93 = .ok (.idiv, 1) := by decide +kernel
theorem dX0_hungerWith_94 : decode cX0_hungerWith 94 = .ok (.invokestatic 64, 3) := by decide +kernel
theorem dX0_hungerWith_97 : decode cX0_hungerWith 97 = .ok (.istore 9, 2) := by decide +kernel
theorem dX0_hungerWith_99 : decode cX0_hungerWith 99 = .ok (.iload 4, 2) := by decide +kernel
theorem dX0_hungerWith_101 : decode cX0_hungerWith 101 = .ok (.iconst 3, 1) := by decide +kernel
theorem dX0_hungerWith_102 : decode cX0_hungerWith 102 = .ok (.iload 9, 2) := by decide +kernel
theorem dX0_hungerWith_104 : decode cX0_hungerWith 104 = .ok (.imul, 1) := by decide +kernel
theorem dX0_hungerWith_105 : decode cX0_hungerWith 105 = .ok (.isub, 1) := by decide +kernel
theorem dX0_hungerWith_106 : decode cX0_hungerWith 106 = .ok (.istore 4, 2) := by decide +kernel
theorem dX0_hungerWith_108 : decode cX0_hungerWith 108 = .ok (.iload 6, 2) := by decide +kernel
theorem dX0_hungerWith_110 : decode cX0_hungerWith 110 = .ok (.iload_n 2, 1) := by decide +kernel
theorem dX0_hungerWith_111 : decode cX0_hungerWith 111 = .ok (.iload 9, 2) := by decide +kernel
theorem dX0_hungerWith_113 : decode cX0_hungerWith 113 = .ok (.isub, 1) := by decide +kernel
theorem dX0_hungerWith_114 : decode cX0_hungerWith 114 = .ok (.iadd, 1) := by decide +kernel
theorem dX0_hungerWith_115 : decode cX0_hungerWith 115 = .ok (.istore 6, 2) := by decide +kernel
theorem dX0_hungerWith_117 : decode cX0_hungerWith 117 = .ok (.iinc 7 1, 3) := by decide +kernel
theorem dX0_hungerWith_120 : decode cX0_hungerWith 120 = .ok (.goto (-98), 3) := by decide +kernel
theorem dX0_hungerWith_123 : decode cX0_hungerWith 123 = .ok (.iload 6, 2) := by decide +kernel
theorem dX0_hungerWith_125 : decode cX0_hungerWith 125 = .ok (.ireturn, 1) := by decide +kernel
theorem dX0_cowsOfSome_0 : decode cX0_cowsOfSome 0 = .ok (.iconst 0, 1) := by decide +kernel
theorem dX0_cowsOfSome_1 : decode cX0_cowsOfSome 1 = .ok (.istore_n 3, 1) := by decide +kernel
theorem dX0_cowsOfSome_2 : decode cX0_cowsOfSome 2 = .ok (.iconst 0, 1) := by decide +kernel
theorem dX0_cowsOfSome_3 : decode cX0_cowsOfSome 3 = .ok (.istore 4, 2) := by decide +kernel
theorem dX0_cowsOfSome_5 : decode cX0_cowsOfSome 5 = .ok (.iload 4, 2) := by decide +kernel
theorem dX0_cowsOfSome_7 : decode cX0_cowsOfSome 7 = .ok (.iload_n 2, 1) := by decide +kernel
theorem dX0_cowsOfSome_8 : decode cX0_cowsOfSome 8 = .ok (.if_icmp .ge 35, 3) := by decide +kernel
theorem dX0_cowsOfSome_11 : decode cX0_cowsOfSome 11 = .ok (.iload 4, 2) := by decide +kernel
theorem dX0_cowsOfSome_13 : decode cX0_cowsOfSome 13 = .ok (.iconst 5, 1) := by decide +kernel
theorem dX0_cowsOfSome_14 : decode cX0_cowsOfSome 14 = .ok (.if_icmp .ge 29, 3) := by decide +kernel
theorem dX0_cowsOfSome_17 : decode cX0_cowsOfSome 17 = .ok (.iload_n 1, 1) := by decide +kernel
theorem dX0_cowsOfSome_18 : decode cX0_cowsOfSome 18 = .ok (.iload 4, 2) := by decide +kernel
theorem dX0_cowsOfSome_20 : decode cX0_cowsOfSome 20 = .ok (.ishr, 1) := by decide +kernel
theorem dX0_cowsOfSome_21 : decode cX0_cowsOfSome 21 = .ok (.iconst 1, 1) := by decide +kernel
theorem dX0_cowsOfSome_22 : decode cX0_cowsOfSome 22 = .ok (.iand, 1) := by decide +kernel
theorem dX0_cowsOfSome_23 : decode cX0_cowsOfSome 23 = .ok (.iconst 1, 1) := by decide +kernel
theorem dX0_cowsOfSome_24 : decode cX0_cowsOfSome 24 = .ok (.if_icmp .ne 13, 3) := by decide +kernel
theorem dX0_cowsOfSome_27 : decode cX0_cowsOfSome 27 = .ok (.iload_n 3, 1) := by decide +kernel
theorem dX0_cowsOfSome_28 : decode cX0_cowsOfSome 28 = .ok (.aload_n 0, 1) := by decide +kernel
theorem dX0_cowsOfSome_29 : decode cX0_cowsOfSome 29 = .ok (.getfield 30, 3) := by decide +kernel
theorem dX0_cowsOfSome_32 : decode cX0_cowsOfSome 32 = .ok (.iload 4, 2) := by decide +kernel
theorem dX0_cowsOfSome_34 : decode cX0_cowsOfSome 34 = .ok (.iaload, 1) := by decide +kernel
theorem dX0_cowsOfSome_35 : decode cX0_cowsOfSome 35 = .ok (.iadd, 1) := by decide +kernel
theorem dX0_cowsOfSome_36 : decode cX0_cowsOfSome 36 = .ok (.istore_n 3, 1) := by decide +kernel
theorem dX0_cowsOfSome_37 : decode cX0_cowsOfSome 37 = .ok (.iinc 4 1, 3) := by decide +kernel
theorem dX0_cowsOfSome_40 : decode cX0_cowsOfSome 40 = .ok (.goto (-35), 3) := by decide +kernel
theorem dX0_cowsOfSome_43 : decode cX0_cowsOfSome 43 = .ok (.iload_n 3, 1) := by decide +kernel
theorem dX0_cowsOfSome_44 : decode cX0_cowsOfSome 44 = .ok (.ireturn, 1) := by decide +kernel
theorem dX0_bestPlan_0 : decode cX0_bestPlan 0 = .ok (.aload_n 0, 1) := by decide +kernel
theorem dX0_bestPlan_1 : decode cX0_bestPlan 1 = .ok (.iload_n 1, 1) := by decide +kernel
theorem dX0_bestPlan_2 : decode cX0_bestPlan 2 = .ok (.invokevirtual 67, 3) := by decide +kernel
theorem dX0_bestPlan_5 : decode cX0_bestPlan 5 = .ok (.istore_n 2, 1) := by decide +kernel
theorem dX0_bestPlan_6 : decode cX0_bestPlan 6 = .ok (.aload_n 0, 1) := by decide +kernel
theorem dX0_bestPlan_7 : decode cX0_bestPlan 7 = .ok (.invokevirtual 71, 3) := by decide +kernel
theorem dX0_bestPlan_10 : decode cX0_bestPlan 10 = .ok (.istore_n 3, 1) := by decide +kernel
theorem dX0_bestPlan_11 : decode cX0_bestPlan 11 = .ok (.iconst 1, 1) := by decide +kernel
theorem dX0_bestPlan_12 : decode cX0_bestPlan 12 = .ok (.istore 4, 2) := by decide +kernel
theorem dX0_bestPlan_14 : decode cX0_bestPlan 14 = .ok (.iload 4, 2) := by decide +kernel
theorem dX0_bestPlan_16 : decode cX0_bestPlan 16 = .ok (.iload_n 2, 1) := by decide +kernel
theorem dX0_bestPlan_17 : decode cX0_bestPlan 17 = .ok (.if_icmp .ge 34, 3) := by decide +kernel
theorem dX0_bestPlan_20 : decode cX0_bestPlan 20 = .ok (.aload_n 0, 1) := by decide +kernel
theorem dX0_bestPlan_21 : decode cX0_bestPlan 21 = .ok (.iload_n 1, 1) := by decide +kernel
theorem dX0_bestPlan_22 : decode cX0_bestPlan 22 = .ok (.invokevirtual 75, 3) := by decide +kernel
theorem dX0_bestPlan_25 : decode cX0_bestPlan 25 = .ok (.aload_n 0, 1) := by decide +kernel
theorem dX0_bestPlan_26 : decode cX0_bestPlan 26 = .ok (.invokevirtual 71, 3) := by decide +kernel
theorem dX0_bestPlan_29 : decode cX0_bestPlan 29 = .ok (.istore 5, 2) := by decide +kernel
theorem dX0_bestPlan_31 : decode cX0_bestPlan 31 = .ok (.iload 5, 2) := by decide +kernel
theorem dX0_bestPlan_33 : decode cX0_bestPlan 33 = .ok (.iload_n 3, 1) := by decide +kernel
theorem dX0_bestPlan_34 : decode cX0_bestPlan 34 = .ok (.if_icmp .ge 11, 3) := by decide +kernel
theorem dX0_bestPlan_37 : decode cX0_bestPlan 37 = .ok (.iload 5, 2) := by decide +kernel
theorem dX0_bestPlan_39 : decode cX0_bestPlan 39 = .ok (.istore_n 3, 1) := by decide +kernel
theorem dX0_bestPlan_40 : decode cX0_bestPlan 40 = .ok (.aload_n 0, 1) := by decide +kernel
theorem dX0_bestPlan_41 : decode cX0_bestPlan 41 = .ok (.iload_n 1, 1) := by decide +kernel
theorem dX0_bestPlan_42 : decode cX0_bestPlan 42 = .ok (.invokevirtual 79, 3) := by decide +kernel
theorem dX0_bestPlan_45 : decode cX0_bestPlan 45 = .ok (.iinc 4 1, 3) := by decide +kernel
theorem dX0_bestPlan_48 : decode cX0_bestPlan 48 = .ok (.goto (-34), 3) := by decide +kernel
theorem dX0_bestPlan_51 : decode cX0_bestPlan 51 = .ok (.iload_n 3, 1) := by decide +kernel
theorem dX0_bestPlan_52 : decode cX0_bestPlan 52 = .ok (.ireturn, 1) := by decide +kernel
theorem dX0_beginPlans_0 : decode cX0_beginPlans 0 = .ok (.iconst 1, 1) := by decide +kernel
theorem dX0_beginPlans_1 : decode cX0_beginPlans 1 = .ok (.istore_n 2, 1) := by decide +kernel
theorem dX0_beginPlans_2 : decode cX0_beginPlans 2 = .ok (.iconst 0, 1) := by decide +kernel
theorem dX0_beginPlans_3 : decode cX0_beginPlans 3 = .ok (.istore_n 3, 1) := by decide +kernel
theorem dX0_beginPlans_4 : decode cX0_beginPlans 4 = .ok (.iload_n 3, 1) := by decide +kernel
theorem dX0_beginPlans_5 : decode cX0_beginPlans 5 = .ok (.iload_n 1, 1) := by decide +kernel
theorem dX0_beginPlans_6 : decode cX0_beginPlans 6 = .ok (.if_icmp .ge 23, 3) := by decide +kernel
theorem dX0_beginPlans_9 : decode cX0_beginPlans 9 = .ok (.iload_n 2, 1) := by decide +kernel
theorem dX0_beginPlans_10 : decode cX0_beginPlans 10 = .ok (.aload_n 0, 1) := by decide +kernel
theorem dX0_beginPlans_11 : decode cX0_beginPlans 11 = .ok (.getfield 47, 3) := by decide +kernel
theorem dX0_beginPlans_14 : decode cX0_beginPlans 14 = .ok (.imul, 1) := by decide +kernel
theorem dX0_beginPlans_15 : decode cX0_beginPlans 15 = .ok (.istore_n 2, 1) := by decide +kernel
theorem dX0_beginPlans_16 : decode cX0_beginPlans 16 = .ok (.aload_n 0, 1) := by decide +kernel
theorem dX0_beginPlans_17 : decode cX0_beginPlans 17 = .ok (.getfield 38, 3) := by decide +kernel
theorem dX0_beginPlans_20 : decode cX0_beginPlans 20 = .ok (.iload_n 3, 1) := by decide +kernel
theorem dX0_beginPlans_21 : decode cX0_beginPlans 21 = .ok (.iconst 0, 1) := by decide +kernel
theorem dX0_beginPlans_22 : decode cX0_beginPlans 22 = .ok (.iastore, 1) := by decide +kernel
theorem dX0_beginPlans_23 : decode cX0_beginPlans 23 = .ok (.iinc 3 1, 3) := by decide +kernel
theorem dX0_beginPlans_26 : decode cX0_beginPlans 26 = .ok (.goto (-22), 3) := by decide +kernel
theorem dX0_beginPlans_29 : decode cX0_beginPlans 29 = .ok (.iconst 0, 1) := by decide +kernel
theorem dX0_beginPlans_30 : decode cX0_beginPlans 30 = .ok (.istore_n 3, 1) := by decide +kernel
theorem dX0_beginPlans_31 : decode cX0_beginPlans 31 = .ok (.iload_n 3, 1) := by decide +kernel
theorem dX0_beginPlans_32 : decode cX0_beginPlans 32 = .ok (.aload_n 0, 1) := by decide +kernel
theorem dX0_beginPlans_33 : decode cX0_beginPlans 33 = .ok (.getfield 47, 3) := by decide +kernel
theorem dX0_beginPlans_36 : decode cX0_beginPlans 36 = .ok (.if_icmp .ge 16, 3) := by decide +kernel
theorem dX0_beginPlans_39 : decode cX0_beginPlans 39 = .ok (.aload_n 0, 1) := by decide +kernel
theorem dX0_beginPlans_40 : decode cX0_beginPlans 40 = .ok (.getfield 41, 3) := by decide +kernel
theorem dX0_beginPlans_43 : decode cX0_beginPlans 43 = .ok (.iload_n 3, 1) := by decide +kernel
theorem dX0_beginPlans_44 : decode cX0_beginPlans 44 = .ok (.iconst 0, 1) := by decide +kernel
theorem dX0_beginPlans_45 : decode cX0_beginPlans 45 = .ok (.iastore, 1) := by decide +kernel
theorem dX0_beginPlans_46 : decode cX0_beginPlans 46 = .ok (.iinc 3 1, 3) := by decide +kernel
theorem dX0_beginPlans_49 : decode cX0_beginPlans 49 = .ok (.goto (-18), 3) := by decide +kernel
theorem dX0_beginPlans_52 : decode cX0_beginPlans 52 = .ok (.aload_n 0, 1) := by decide +kernel
theorem dX0_beginPlans_53 : decode cX0_beginPlans 53 = .ok (.getfield 41, 3) := by decide +kernel
theorem dX0_beginPlans_56 : decode cX0_beginPlans 56 = .ok (.iconst 0, 1) := by decide +kernel
theorem dX0_beginPlans_57 : decode cX0_beginPlans 57 = .ok (.iconst 1, 1) := by decide +kernel
theorem dX0_beginPlans_58 : decode cX0_beginPlans 58 = .ok (.iload_n 1, 1) := by decide +kernel
theorem dX0_beginPlans_59 : decode cX0_beginPlans 59 = .ok (.ishl, 1) := by decide +kernel
theorem dX0_beginPlans_60 : decode cX0_beginPlans 60 = .ok (.iconst 1, 1) := by decide +kernel
theorem dX0_beginPlans_61 : decode cX0_beginPlans 61 = .ok (.isub, 1) := by decide +kernel
theorem dX0_beginPlans_62 : decode cX0_beginPlans 62 = .ok (.iastore, 1) := by decide +kernel
theorem dX0_beginPlans_63 : decode cX0_beginPlans 63 = .ok (.aload_n 0, 1) := by decide +kernel
theorem dX0_beginPlans_64 : decode cX0_beginPlans 64 = .ok (.iload_n 1, 1) := by decide +kernel
theorem dX0_beginPlans_65 : decode cX0_beginPlans 65 = .ok (.invokevirtual 79, 3) := by decide +kernel
theorem dX0_beginPlans_68 : decode cX0_beginPlans 68 = .ok (.iload_n 2, 1) := by decide +kernel
theorem dX0_beginPlans_69 : decode cX0_beginPlans 69 = .ok (.ireturn, 1) := by decide +kernel
theorem dX0_hungerNow_0 : decode cX0_hungerNow 0 = .ok (.iconst 0, 1) := by decide +kernel
theorem dX0_hungerNow_1 : decode cX0_hungerNow 1 = .ok (.istore_n 1, 1) := by decide +kernel
theorem dX0_hungerNow_2 : decode cX0_hungerNow 2 = .ok (.iconst 0, 1) := by decide +kernel
theorem dX0_hungerNow_3 : decode cX0_hungerNow 3 = .ok (.istore_n 2, 1) := by decide +kernel
theorem dX0_hungerNow_4 : decode cX0_hungerNow 4 = .ok (.iload_n 2, 1) := by decide +kernel
theorem dX0_hungerNow_5 : decode cX0_hungerNow 5 = .ok (.aload_n 0, 1) := by decide +kernel
theorem dX0_hungerNow_6 : decode cX0_hungerNow 6 = .ok (.getfield 47, 3) := by decide +kernel
theorem dX0_hungerNow_9 : decode cX0_hungerNow 9 = .ok (.if_icmp .ge 25, 3) := by decide +kernel
theorem dX0_hungerNow_12 : decode cX0_hungerNow 12 = .ok (.iload_n 1, 1) := by decide +kernel
theorem dX0_hungerNow_13 : decode cX0_hungerNow 13 = .ok (.aload_n 0, 1) := by decide +kernel
theorem dX0_hungerNow_14 : decode cX0_hungerNow 14 = .ok (.getfield 35, 3) := by decide +kernel
theorem dX0_hungerNow_17 : decode cX0_hungerNow 17 = .ok (.iload_n 2, 1) := by decide +kernel
theorem dX0_hungerNow_18 : decode cX0_hungerNow 18 = .ok (.aaload, 1) := by decide +kernel
theorem dX0_hungerNow_19 : decode cX0_hungerNow 19 = .ok (.aload_n 0, 1) := by decide +kernel
theorem dX0_hungerNow_20 : decode cX0_hungerNow 20 = .ok (.getfield 41, 3) := by decide +kernel
theorem dX0_hungerNow_23 : decode cX0_hungerNow 23 = .ok (.iload_n 2, 1) := by decide +kernel
theorem dX0_hungerNow_24 : decode cX0_hungerNow 24 = .ok (.iaload, 1) := by decide +kernel
theorem dX0_hungerNow_25 : decode cX0_hungerNow 25 = .ok (.iaload, 1) := by decide +kernel
theorem dX0_hungerNow_26 : decode cX0_hungerNow 26 = .ok (.iadd, 1) := by decide +kernel
theorem dX0_hungerNow_27 : decode cX0_hungerNow 27 = .ok (.istore_n 1, 1) := by decide +kernel
theorem dX0_hungerNow_28 : decode cX0_hungerNow 28 = .ok (.iinc 2 1, 3) := by decide +kernel
theorem dX0_hungerNow_31 : decode cX0_hungerNow 31 = .ok (.goto (-27), 3) := by decide +kernel
theorem dX0_hungerNow_34 : decode cX0_hungerNow 34 = .ok (.iload_n 1, 1) := by decide +kernel
theorem dX0_hungerNow_35 : decode cX0_hungerNow 35 = .ok (.ireturn, 1) := by decide +kernel
theorem dX0_keepPlan_0 : decode cX0_keepPlan 0 = .ok (.iconst 0, 1) := by decide +kernel
theorem dX0_keepPlan_1 : decode cX0_keepPlan 1 = .ok (.istore_n 2, 1) := by decide +kernel
theorem dX0_keepPlan_2 : decode cX0_keepPlan 2 = .ok (.iload_n 2, 1) := by decide +kernel
theorem dX0_keepPlan_3 : decode cX0_keepPlan 3 = .ok (.iload_n 1, 1) := by decide +kernel
theorem dX0_keepPlan_4 : decode cX0_keepPlan 4 = .ok (.if_icmp .ge 21, 3) := by decide +kernel
theorem dX0_keepPlan_7 : decode cX0_keepPlan 7 = .ok (.aload_n 0, 1) := by decide +kernel
theorem dX0_keepPlan_8 : decode cX0_keepPlan 8 = .ok (.getfield 44, 3) := by decide +kernel
theorem dX0_keepPlan_11 : decode cX0_keepPlan 11 = .ok (.iload_n 2, 1) := by decide +kernel
theorem dX0_keepPlan_12 : decode cX0_keepPlan 12 = .ok (.aload_n 0, 1) := by decide +kernel
theorem dX0_keepPlan_13 : decode cX0_keepPlan 13 = .ok (.getfield 38, 3) := by decide +kernel
theorem dX0_keepPlan_16 : decode cX0_keepPlan 16 = .ok (.iload_n 2, 1) := by decide +kernel
theorem dX0_keepPlan_17 : decode cX0_keepPlan 17 = .ok (.iaload, 1) := by decide +kernel
theorem dX0_keepPlan_18 : decode cX0_keepPlan 18 = .ok (.iastore, 1) := by decide +kernel
theorem dX0_keepPlan_19 : decode cX0_keepPlan 19 = .ok (.iinc 2 1, 3) := by decide +kernel
theorem dX0_keepPlan_22 : decode cX0_keepPlan 22 = .ok (.goto (-20), 3) := by decide +kernel
theorem dX0_keepPlan_25 : decode cX0_keepPlan 25 = .ok (.return_, 1) := by decide +kernel
theorem dX0_turnPlan_0 : decode cX0_turnPlan 0 = .ok (.iconst 0, 1) := by decide +kernel
theorem dX0_turnPlan_1 : decode cX0_turnPlan 1 = .ok (.istore_n 2, 1) := by decide +kernel
theorem dX0_turnPlan_2 : decode cX0_turnPlan 2 = .ok (.iload_n 1, 1) := by decide +kernel
theorem dX0_turnPlan_3 : decode cX0_turnPlan 3 = .ok (.iconst 1, 1) := by decide +kernel
theorem dX0_turnPlan_4 : decode cX0_turnPlan 4 = .ok (.isub, 1) := by decide +kernel
theorem dX0_turnPlan_5 : decode cX0_turnPlan 5 = .ok (.istore_n 3, 1) := by decide +kernel
theorem dX0_turnPlan_6 : decode cX0_turnPlan 6 = .ok (.iload_n 3, 1) := by decide +kernel
theorem dX0_turnPlan_7 : decode cX0_turnPlan 7 = .ok (.ifCond .lt 90, 3) := by decide +kernel
theorem dX0_turnPlan_10 : decode cX0_turnPlan 10 = .ok (.iload_n 2, 1) := by decide +kernel
theorem dX0_turnPlan_11 : decode cX0_turnPlan 11 = .ok (.ifCond .ne 86, 3) := by decide +kernel
theorem dX0_turnPlan_14 : decode cX0_turnPlan 14 = .ok (.aload_n 0, 1) := by decide +kernel
theorem dX0_turnPlan_15 : decode cX0_turnPlan 15 = .ok (.getfield 41, 3) := by decide +kernel
theorem dX0_turnPlan_18 : decode cX0_turnPlan 18 = .ok (.aload_n 0, 1) := by decide +kernel
theorem dX0_turnPlan_19 : decode cX0_turnPlan 19 = .ok (.getfield 38, 3) := by decide +kernel
theorem dX0_turnPlan_22 : decode cX0_turnPlan 22 = .ok (.iload_n 3, 1) := by decide +kernel
theorem dX0_turnPlan_23 : decode cX0_turnPlan 23 = .ok (.iaload, 1) := by decide +kernel
theorem dX0_turnPlan_24 : decode cX0_turnPlan 24 = .ok (.dup2, 1) := by decide +kernel
theorem dX0_turnPlan_25 : decode cX0_turnPlan 25 = .ok (.iaload, 1) := by decide +kernel
theorem dX0_turnPlan_26 : decode cX0_turnPlan 26 = .ok (.iconst 1, 1) := by decide +kernel
theorem dX0_turnPlan_27 : decode cX0_turnPlan 27 = .ok (.iload_n 3, 1) := by decide +kernel
theorem dX0_turnPlan_28 : decode cX0_turnPlan 28 = .ok (.ishl, 1) := by decide +kernel
theorem dX0_turnPlan_29 : decode cX0_turnPlan 29 = .ok (.ixor, 1) := by decide +kernel
theorem dX0_turnPlan_30 : decode cX0_turnPlan 30 = .ok (.iastore, 1) := by decide +kernel
theorem dX0_turnPlan_31 : decode cX0_turnPlan 31 = .ok (.aload_n 0, 1) := by decide +kernel
theorem dX0_turnPlan_32 : decode cX0_turnPlan 32 = .ok (.getfield 38, 3) := by decide +kernel
theorem dX0_turnPlan_35 : decode cX0_turnPlan 35 = .ok (.iload_n 3, 1) := by decide +kernel
theorem dX0_turnPlan_36 : decode cX0_turnPlan 36 = .ok (.iaload, 1) := by decide +kernel
theorem dX0_turnPlan_37 : decode cX0_turnPlan 37 = .ok (.iconst 1, 1) := by decide +kernel
theorem dX0_turnPlan_38 : decode cX0_turnPlan 38 = .ok (.iadd, 1) := by decide +kernel
theorem dX0_turnPlan_39 : decode cX0_turnPlan 39 = .ok (.aload_n 0, 1) := by decide +kernel
theorem dX0_turnPlan_40 : decode cX0_turnPlan 40 = .ok (.getfield 47, 3) := by decide +kernel
theorem dX0_turnPlan_43 : decode cX0_turnPlan 43 = .ok (.if_icmp .ge 7, 3) := by decide +kernel
theorem dX0_turnPlan_46 : decode cX0_turnPlan 46 = .ok (.iconst 1, 1) := by decide +kernel
theorem dX0_turnPlan_47 : decode cX0_turnPlan 47 = .ok (.goto 4, 3) := by decide +kernel
theorem dX0_turnPlan_50 : decode cX0_turnPlan 50 = .ok (.iconst 0, 1) := by decide +kernel
theorem dX0_turnPlan_51 : decode cX0_turnPlan 51 = .ok (.istore_n 2, 1) := by decide +kernel
theorem dX0_turnPlan_52 : decode cX0_turnPlan 52 = .ok (.aload_n 0, 1) := by decide +kernel
theorem dX0_turnPlan_53 : decode cX0_turnPlan 53 = .ok (.getfield 38, 3) := by decide +kernel
theorem dX0_turnPlan_56 : decode cX0_turnPlan 56 = .ok (.iload_n 3, 1) := by decide +kernel
theorem dX0_turnPlan_57 : decode cX0_turnPlan 57 = .ok (.iload_n 2, 1) := by decide +kernel
theorem dX0_turnPlan_58 : decode cX0_turnPlan 58 = .ok (.ifCond .eq 14, 3) := by decide +kernel
theorem dX0_turnPlan_61 : decode cX0_turnPlan 61 = .ok (.aload_n 0, 1) := by decide +kernel
theorem dX0_turnPlan_62 : decode cX0_turnPlan 62 = .ok (.getfield 38, 3) := by decide +kernel
theorem dX0_turnPlan_65 : decode cX0_turnPlan 65 = .ok (.iload_n 3, 1) := by decide +kernel
theorem dX0_turnPlan_66 : decode cX0_turnPlan 66 = .ok (.iaload, 1) := by decide +kernel
theorem dX0_turnPlan_67 : decode cX0_turnPlan 67 = .ok (.iconst 1, 1) := by decide +kernel
theorem dX0_turnPlan_68 : decode cX0_turnPlan 68 = .ok (.iadd, 1) := by decide +kernel
theorem dX0_turnPlan_69 : decode cX0_turnPlan 69 = .ok (.goto 4, 3) := by decide +kernel
theorem dX0_turnPlan_72 : decode cX0_turnPlan 72 = .ok (.iconst 0, 1) := by decide +kernel
theorem dX0_turnPlan_73 : decode cX0_turnPlan 73 = .ok (.iastore, 1) := by decide +kernel
theorem dX0_turnPlan_74 : decode cX0_turnPlan 74 = .ok (.aload_n 0, 1) := by decide +kernel
theorem dX0_turnPlan_75 : decode cX0_turnPlan 75 = .ok (.getfield 41, 3) := by decide +kernel
theorem dX0_turnPlan_78 : decode cX0_turnPlan 78 = .ok (.aload_n 0, 1) := by decide +kernel
theorem dX0_turnPlan_79 : decode cX0_turnPlan 79 = .ok (.getfield 38, 3) := by decide +kernel
theorem dX0_turnPlan_82 : decode cX0_turnPlan 82 = .ok (.iload_n 3, 1) := by decide +kernel
theorem dX0_turnPlan_83 : decode cX0_turnPlan 83 = .ok (.iaload, 1) := by decide +kernel
theorem dX0_turnPlan_84 : decode cX0_turnPlan 84 = .ok (.dup2, 1) := by decide +kernel
theorem dX0_turnPlan_85 : decode cX0_turnPlan 85 = .ok (.iaload, 1) := by decide +kernel
theorem dX0_turnPlan_86 : decode cX0_turnPlan 86 = .ok (.iconst 1, 1) := by decide +kernel
theorem dX0_turnPlan_87 : decode cX0_turnPlan 87 = .ok (.iload_n 3, 1) := by decide +kernel
theorem dX0_turnPlan_88 : decode cX0_turnPlan 88 = .ok (.ishl, 1) := by decide +kernel
theorem dX0_turnPlan_89 : decode cX0_turnPlan 89 = .ok (.ixor, 1) := by decide +kernel
theorem dX0_turnPlan_90 : decode cX0_turnPlan 90 = .ok (.iastore, 1) := by decide +kernel
theorem dX0_turnPlan_91 : decode cX0_turnPlan 91 = .ok (.iinc 3 (-1), 3) := by decide +kernel
theorem dX0_turnPlan_94 : decode cX0_turnPlan 94 = .ok (.goto (-88), 3) := by decide +kernel
theorem dX0_turnPlan_97 : decode cX0_turnPlan 97 = .ok (.return_, 1) := by decide +kernel
theorem dX1_init_0 : decode cX1_init 0 = .ok (.aload_n 0, 1) := by decide +kernel
theorem dX1_init_1 : decode cX1_init 1 = .ok (.invokespecial 3, 3) := by decide +kernel
theorem dX1_init_4 : decode cX1_init 4 = .ok (.aload_n 0, 1) := by decide +kernel
theorem dX1_init_5 : decode cX1_init 5 = .ok (.bipush 10, 2) := by decide +kernel
theorem dX1_init_7 : decode cX1_init 7 = .ok (.newarray .int, 2) := by decide +kernel
theorem dX1_init_9 : decode cX1_init 9 = .ok (.putfield 9, 3) := by decide +kernel
theorem dX1_init_12 : decode cX1_init 12 = .ok (.aload_n 0, 1) := by decide +kernel
theorem dX1_init_13 : decode cX1_init 13 = .ok (.bipush 10, 2) := by decide +kernel
theorem dX1_init_15 : decode cX1_init 15 = .ok (.newarray .int, 2) := by decide +kernel
theorem dX1_init_17 : decode cX1_init 17 = .ok (.putfield 15, 3) := by decide +kernel
theorem dX1_init_20 : decode cX1_init 20 = .ok (.return_, 1) := by decide +kernel
theorem dX1_comesTo_0 : decode cX1_comesTo 0 = .ok (.iload_n 2, 1) := by decide +kernel
theorem dX1_comesTo_1 : decode cX1_comesTo 1 = .ok (.istore_n 3, 1) := by decide +kernel
theorem dX1_comesTo_2 : decode cX1_comesTo 2 = .ok (.iconst 0, 1) := by decide +kernel
theorem dX1_comesTo_3 : decode cX1_comesTo 3 = .ok (.istore 4, 2) := by decide +kernel
theorem dX1_comesTo_5 : decode cX1_comesTo 5 = .ok (.iload 4, 2) := by decide +kernel
theorem dX1_comesTo_7 : decode cX1_comesTo 7 = .ok (.aload_n 0, 1) := by decide +kernel
theorem dX1_comesTo_8 : decode cX1_comesTo 8 = .ok (.getfield 18, 3) := by decide +kernel
theorem dX1_comesTo_11 : decode cX1_comesTo 11 = .ok (.if_icmp .ge 38, 3) := by decide +kernel
theorem dX1_comesTo_14 : decode cX1_comesTo 14 = .ok (.iload_n 3, 1) := by decide +kernel
theorem dX1_comesTo_15 : decode cX1_comesTo 15 = .ok (.bipush 100, 2) := by decide +kernel
theorem dX1_comesTo_17 : decode cX1_comesTo 17 = .ok (.aload_n 0, 1) := by decide +kernel
theorem dX1_comesTo_18 : decode cX1_comesTo 18 = .ok (.getfield 15, 3) := by decide +kernel
theorem dX1_comesTo_21 : decode cX1_comesTo 21 = .ok (.iload 4, 2) := by decide +kernel
theorem dX1_comesTo_23 : decode cX1_comesTo 23 = .ok (.iaload, 1) := by decide +kernel
theorem dX1_comesTo_24 : decode cX1_comesTo 24 = .ok (.isub, 1) := by decide +kernel
theorem dX1_comesTo_25 : decode cX1_comesTo 25 = .ok (.imul, 1) := by decide +kernel
theorem dX1_comesTo_26 : decode cX1_comesTo 26 = .ok (.bipush 100, 2) := by decide +kernel
theorem dX1_comesTo_28 : decode cX1_comesTo 28 = .ok (.idiv, 1) := by decide +kernel
theorem dX1_comesTo_29 : decode cX1_comesTo 29 = .ok (.istore_n 3, 1) := by decide +kernel
theorem dX1_comesTo_30 : decode cX1_comesTo 30 = .ok (.aload_n 0, 1) := by decide +kernel
theorem dX1_comesTo_31 : decode cX1_comesTo 31 = .ok (.getfield 9, 3) := by decide +kernel
theorem dX1_comesTo_34 : decode cX1_comesTo 34 = .ok (.iload 4, 2) := by decide +kernel
theorem dX1_comesTo_36 : decode cX1_comesTo 36 = .ok (.iaload, 1) := by decide +kernel
theorem dX1_comesTo_37 : decode cX1_comesTo 37 = .ok (.iload_n 1, 1) := by decide +kernel
theorem dX1_comesTo_38 : decode cX1_comesTo 38 = .ok (.if_icmp .ne 5, 3) := by decide +kernel
theorem dX1_comesTo_41 : decode cX1_comesTo 41 = .ok (.iload_n 3, 1) := by decide +kernel
theorem dX1_comesTo_42 : decode cX1_comesTo 42 = .ok (.ireturn, 1) := by decide +kernel
theorem dX1_comesTo_43 : decode cX1_comesTo 43 = .ok (.iinc 4 1, 3) := by decide +kernel
theorem dX1_comesTo_46 : decode cX1_comesTo 46 = .ok (.goto (-41), 3) := by decide +kernel
theorem dX1_comesTo_49 : decode cX1_comesTo 49 = .ok (.iconst 0, 1) := by decide +kernel
theorem dX1_comesTo_50 : decode cX1_comesTo 50 = .ok (.ireturn, 1) := by decide +kernel
theorem dX2_init_0 : decode cX2_init 0 = .ok (.aload_n 0, 1) := by decide +kernel
theorem dX2_init_1 : decode cX2_init 1 = .ok (.invokespecial 3, 3) := by decide +kernel
theorem dX2_init_4 : decode cX2_init 4 = .ok (.aload_n 0, 1) := by decide +kernel
theorem dX2_init_5 : decode cX2_init 5 = .ok (.iconst 4, 1) := by decide +kernel
theorem dX2_init_6 : decode cX2_init 6 = .ok (.newarray .int, 2) := by decide +kernel
theorem dX2_init_8 : decode cX2_init 8 = .ok (.putfield 9, 3) := by decide +kernel
theorem dX2_init_11 : decode cX2_init 11 = .ok (.aload_n 0, 1) := by decide +kernel
theorem dX2_init_12 : decode cX2_init 12 = .ok (.iconst 4, 1) := by decide +kernel
theorem dX2_init_13 : decode cX2_init 13 = .ok (.newarray .int, 2) := by decide +kernel
theorem dX2_init_15 : decode cX2_init 15 = .ok (.putfield 15, 3) := by decide +kernel
theorem dX2_init_18 : decode cX2_init 18 = .ok (.return_, 1) := by decide +kernel
theorem dX2_fits_0 : decode cX2_fits 0 = .ok (.iload_n 1, 1) := by decide +kernel
theorem dX2_fits_1 : decode cX2_fits 1 = .ok (.getstatic 18, 3) := by decide +kernel
theorem dX2_fits_4 : decode cX2_fits 4 = .ok (.iload_n 0, 1) := by decide +kernel
theorem dX2_fits_5 : decode cX2_fits 5 = .ok (.iaload, 1) := by decide +kernel
theorem dX2_fits_6 : decode cX2_fits 6 = .ok (.if_icmp .lt 16, 3) := by decide +kernel
theorem dX2_fits_9 : decode cX2_fits 9 = .ok (.iload_n 1, 1) := by decide +kernel
theorem dX2_fits_10 : decode cX2_fits 10 = .ok (.getstatic 21, 3) := by decide +kernel
theorem dX2_fits_13 : decode cX2_fits 13 = .ok (.iload_n 0, 1) := by decide +kernel
theorem dX2_fits_14 : decode cX2_fits 14 = .ok (.iaload, 1) := by decide +kernel
theorem dX2_fits_15 : decode cX2_fits 15 = .ok (.if_icmp .gt 7, 3) := by decide +kernel
theorem dX2_fits_18 : decode cX2_fits 18 = .ok (.iconst 1, 1) := by decide +kernel
theorem dX2_fits_19 : decode cX2_fits 19 = .ok (.goto 4, 3) := by decide +kernel
theorem dX2_fits_22 : decode cX2_fits 22 = .ok (.iconst 0, 1) := by decide +kernel
theorem dX2_fits_23 : decode cX2_fits 23 = .ok (.ireturn, 1) := by decide +kernel
theorem dX2_allUp_0 : decode cX2_allUp 0 = .ok (.iconst 0, 1) := by decide +kernel
theorem dX2_allUp_1 : decode cX2_allUp 1 = .ok (.istore_n 1, 1) := by decide +kernel
theorem dX2_allUp_2 : decode cX2_allUp 2 = .ok (.iconst 0, 1) := by decide +kernel
theorem dX2_allUp_3 : decode cX2_allUp 3 = .ok (.istore_n 2, 1) := by decide +kernel
theorem dX2_allUp_4 : decode cX2_allUp 4 = .ok (.iload_n 2, 1) := by decide +kernel
theorem dX2_allUp_5 : decode cX2_allUp 5 = .ok (.iconst 4, 1) := by decide +kernel
theorem dX2_allUp_6 : decode cX2_allUp 6 = .ok (.if_icmp .ge 18, 3) := by decide +kernel
theorem dX2_allUp_9 : decode cX2_allUp 9 = .ok (.iload_n 1, 1) := by decide +kernel
theorem dX2_allUp_10 : decode cX2_allUp 10 = .ok (.aload_n 0, 1) := by decide +kernel
theorem dX2_allUp_11 : decode cX2_allUp 11 = .ok (.getfield 15, 3) := by decide +kernel
theorem dX2_allUp_14 : decode cX2_allUp 14 = .ok (.iload_n 2, 1) := by decide +kernel
theorem dX2_allUp_15 : decode cX2_allUp 15 = .ok (.iaload, 1) := by decide +kernel
theorem dX2_allUp_16 : decode cX2_allUp 16 = .ok (.iadd, 1) := by decide +kernel
theorem dX2_allUp_17 : decode cX2_allUp 17 = .ok (.istore_n 1, 1) := by decide +kernel
theorem dX2_allUp_18 : decode cX2_allUp 18 = .ok (.iinc 2 1, 3) := by decide +kernel
theorem dX2_allUp_21 : decode cX2_allUp 21 = .ok (.goto (-17), 3) := by decide +kernel
theorem dX2_allUp_24 : decode cX2_allUp 24 = .ok (.iload_n 1, 1) := by decide +kernel
theorem dX2_allUp_25 : decode cX2_allUp 25 = .ok (.ireturn, 1) := by decide +kernel
theorem dX2_atHome_0 : decode cX2_atHome 0 = .ok (.aload_n 0, 1) := by decide +kernel
theorem dX2_atHome_1 : decode cX2_atHome 1 = .ok (.getfield 9, 3) := by decide +kernel
theorem dX2_atHome_4 : decode cX2_atHome 4 = .ok (.iconst 2, 1) := by decide +kernel
theorem dX2_atHome_5 : decode cX2_atHome 5 = .ok (.iaload, 1) := by decide +kernel
theorem dX2_atHome_6 : decode cX2_atHome 6 = .ok (.aload_n 0, 1) := by decide +kernel
theorem dX2_atHome_7 : decode cX2_atHome 7 = .ok (.invokevirtual 24, 3) := by decide +kernel
theorem dX2_atHome_10 : decode cX2_atHome 10 = .ok (.isub, 1) := by decide +kernel
theorem dX2_atHome_11 : decode cX2_atHome 11 = .ok (.ireturn, 1) := by decide +kernel
theorem dX2_winterAtHome_0 : decode cX2_winterAtHome 0 = .ok (.aload_n 0, 1) := by decide +kernel
theorem dX2_winterAtHome_1 : decode cX2_winterAtHome 1 = .ok (.invokevirtual 28, 3) := by decide +kernel
theorem dX2_winterAtHome_4 : decode cX2_winterAtHome 4 = .ok (.aload_n 0, 1) := by decide +kernel
theorem dX2_winterAtHome_5 : decode cX2_winterAtHome 5 = .ok (.getfield 9, 3) := by decide +kernel
theorem dX2_winterAtHome_8 : decode cX2_winterAtHome 8 = .ok (.iconst 3, 1) := by decide +kernel
theorem dX2_winterAtHome_9 : decode cX2_winterAtHome 9 = .ok (.iaload, 1) := by decide +kernel
theorem dX2_winterAtHome_10 : decode cX2_winterAtHome 10 = .ok (.invokestatic 31, 3) := by decide +kernel
theorem dX2_winterAtHome_13 : decode cX2_winterAtHome 13 = .ok (.istore_n 1, 1) := by decide +kernel
theorem dX2_winterAtHome_14 : decode cX2_winterAtHome 14 = .ok (.aload_n 0, 1) := by decide +kernel
theorem dX2_winterAtHome_15 : decode cX2_winterAtHome 15 = .ok (.getfield 9, 3) := by decide +kernel
theorem dX2_winterAtHome_18 : decode cX2_winterAtHome 18 = .ok (.iconst 3, 1) := by decide +kernel
theorem dX2_winterAtHome_19 : decode cX2_winterAtHome 19 = .ok (.dup2, 1) := by decide +kernel
theorem dX2_winterAtHome_20 : decode cX2_winterAtHome 20 = .ok (.iaload, 1) := by decide +kernel
theorem dX2_winterAtHome_21 : decode cX2_winterAtHome 21 = .ok (.iload_n 1, 1) := by decide +kernel
theorem dX2_winterAtHome_22 : decode cX2_winterAtHome 22 = .ok (.isub, 1) := by decide +kernel
theorem dX2_winterAtHome_23 : decode cX2_winterAtHome 23 = .ok (.iastore, 1) := by decide +kernel
theorem dX2_winterAtHome_24 : decode cX2_winterAtHome 24 = .ok (.aload_n 0, 1) := by decide +kernel
theorem dX2_winterAtHome_25 : decode cX2_winterAtHome 25 = .ok (.dup, 1) := by decide +kernel
theorem dX2_winterAtHome_26 : decode cX2_winterAtHome 26 = .ok (.getfield 37, 3) := by decide +kernel
theorem dX2_winterAtHome_29 : decode cX2_winterAtHome 29 = .ok (.aload_n 0, 1) := by decide +kernel
theorem dX2_winterAtHome_30 : decode cX2_winterAtHome 30 = .ok (.invokevirtual 28, 3) := by decide +kernel
theorem dX2_winterAtHome_33 : decode cX2_winterAtHome 33 = .ok (.iload_n 1, 1) := by decide +kernel
theorem dX2_winterAtHome_34 : decode cX2_winterAtHome 34 = .ok (.isub, 1) := by decide +kernel
theorem dX2_winterAtHome_35 : decode cX2_winterAtHome 35 = .ok (.iadd, 1) := by decide +kernel
theorem dX2_winterAtHome_36 : decode cX2_winterAtHome 36 = .ok (.putfield 37, 3) := by decide +kernel
theorem dX2_winterAtHome_39 : decode cX2_winterAtHome 39 = .ok (.return_, 1) := by decide +kernel
theorem dX2_oweMore_0 : decode cX2_oweMore 0 = .ok (.lload_n 1, 1) := by decide +kernel
theorem dX2_oweMore_1 : decode cX2_oweMore 1 = .ok (.ldc 41, 2) := by decide +kernel
theorem dX2_oweMore_3 : decode cX2_oweMore 3 = .ok (.aload_n 0, 1) := by decide +kernel
theorem dX2_oweMore_4 : decode cX2_oweMore 4 = .ok (.getfield 42, 3) := by decide +kernel
theorem dX2_oweMore_7 : decode cX2_oweMore 7 = .ok (.isub, 1) := by decide +kernel
theorem dX2_oweMore_8 : decode cX2_oweMore 8 = .ok (.i2l, 1) := by decide +kernel
theorem dX2_oweMore_9 : decode cX2_oweMore 9 = .ok (.invokestatic 45, 3) := by decide +kernel
theorem dX2_oweMore_12 : decode cX2_oweMore 12 = .ok (.l2i, 1) := by decide +kernel
theorem dX2_oweMore_13 : decode cX2_oweMore 13 = .ok (.istore_n 3, 1) := by decide +kernel
theorem dX2_oweMore_14 : decode cX2_oweMore 14 = .ok (.aload_n 0, 1) := by decide +kernel
theorem dX2_oweMore_15 : decode cX2_oweMore 15 = .ok (.dup, 1) := by decide +kernel
theorem dX2_oweMore_16 : decode cX2_oweMore 16 = .ok (.getfield 42, 3) := by decide +kernel
theorem dX2_oweMore_19 : decode cX2_oweMore 19 = .ok (.iload_n 3, 1) := by decide +kernel
theorem dX2_oweMore_20 : decode cX2_oweMore 20 = .ok (.iadd, 1) := by decide +kernel
theorem dX2_oweMore_21 : decode cX2_oweMore 21 = .ok (.putfield 42, 3) := by decide +kernel
theorem dX2_oweMore_24 : decode cX2_oweMore 24 = .ok (.iload_n 3, 1) := by decide +kernel
theorem dX2_oweMore_25 : decode cX2_oweMore 25 = .ok (.ireturn, 1) := by decide +kernel
theorem dX2_partWheels_0 : decode cX2_partWheels 0 = .ok (.aload_n 0, 1) := by decide +kernel
theorem dX2_partWheels_1 : decode cX2_partWheels 1 = .ok (.dup, 1) := by decide +kernel
theorem dX2_partWheels_2 : decode cX2_partWheels 2 = .ok (.getfield 48, 3) := by decide +kernel
theorem dX2_partWheels_5 : decode cX2_partWheels 5 = .ok (.iload_n 1, 1) := by decide +kernel
theorem dX2_partWheels_6 : decode cX2_partWheels 6 = .ok (.i2l, 1) := by decide +kernel
theorem dX2_partWheels_7 : decode cX2_partWheels 7 = .ok (.aload_n 0, 1) := by decide +kernel
theorem dX2_partWheels_8 : decode cX2_partWheels 8 = .ok (.getfield 51, 3) := by decide +kernel
theorem dX2_partWheels_11 : decode cX2_partWheels 11 = .ok (.i2l, 1) := by decide +kernel
theorem dX2_partWheels_12 : decode cX2_partWheels 12 = .ok (.lmul, 1) := by decide +kernel
theorem dX2_partWheels_13 : decode cX2_partWheels 13 = .ok (.ldc2_w 54, 3) := by decide +kernel
theorem dX2_partWheels_16 : decode cX2_partWheels 16 = .ok (.lmul, 1) := by decide +kernel
theorem dX2_partWheels_17 : decode cX2_partWheels 17 = .ok (.iload_n 2, 1) := by decide +kernel
theorem dX2_partWheels_18 : decode cX2_partWheels 18 = .ok (.i2l, 1) := by decide +kernel
theorem dX2_partWheels_19 : decode cX2_partWheels 19 = .ok (.ldiv, 1) := by decide +kernel
theorem dX2_partWheels_20 : decode cX2_partWheels 20 = .ok (.l2i, 1) := by decide +kernel
theorem dX2_partWheels_21 : decode cX2_partWheels 21 = .ok (.iadd, 1) := by decide +kernel
theorem dX2_partWheels_22 : decode cX2_partWheels 22 = .ok (.putfield 48, 3) := by decide +kernel
theorem dX2_partWheels_25 : decode cX2_partWheels 25 = .ok (.aload_n 0, 1) := by decide +kernel
theorem dX2_partWheels_26 : decode cX2_partWheels 26 = .ok (.iconst 0, 1) := by decide +kernel
theorem dX2_partWheels_27 : decode cX2_partWheels 27 = .ok (.putfield 56, 3) := by decide +kernel
theorem dX2_partWheels_30 : decode cX2_partWheels 30 = .ok (.aload_n 0, 1) := by decide +kernel
theorem dX2_partWheels_31 : decode cX2_partWheels 31 = .ok (.getfield 48, 3) := by decide +kernel
theorem dX2_partWheels_34 : decode cX2_partWheels 34 = .ok (.ifCond .le 15, 3) := by decide +kernel
theorem dX2_partWheels_37 : decode cX2_partWheels 37 = .ok (.aload_n 0, 1) := by decide +kernel
theorem dX2_partWheels_38 : decode cX2_partWheels 38 = .ok (.aload_n 0, 1) := by decide +kernel
theorem dX2_partWheels_39 : decode cX2_partWheels 39 = .ok (.getfield 48, 3) := by decide +kernel
theorem dX2_partWheels_42 : decode cX2_partWheels 42 = .ok (.sipush 10000, 3) := by decide +kernel
theorem dX2_partWheels_45 : decode cX2_partWheels 45 = .ok (.idiv, 1) := by decide +kernel
theorem dX2_partWheels_46 : decode cX2_partWheels 46 = .ok (.invokevirtual 59, 3) := by decide +kernel
theorem dX2_partWheels_49 : decode cX2_partWheels 49 = .ok (.aload_n 0, 1) := by decide +kernel
theorem dX2_partWheels_50 : decode cX2_partWheels 50 = .ok (.getfield 56, 3) := by decide +kernel
theorem dX2_partWheels_53 : decode cX2_partWheels 53 = .ok (.ireturn, 1) := by decide +kernel
theorem dX2_takeWheels_0 : decode cX2_takeWheels 0 = .ok (.aload_n 0, 1) := by decide +kernel
theorem dX2_takeWheels_1 : decode cX2_takeWheels 1 = .ok (.dup, 1) := by decide +kernel
theorem dX2_takeWheels_2 : decode cX2_takeWheels 2 = .ok (.getfield 56, 3) := by decide +kernel
theorem dX2_takeWheels_5 : decode cX2_takeWheels 5 = .ok (.iload_n 1, 1) := by decide +kernel
theorem dX2_takeWheels_6 : decode cX2_takeWheels 6 = .ok (.iadd, 1) := by decide +kernel
theorem dX2_takeWheels_7 : decode cX2_takeWheels 7 = .ok (.putfield 56, 3) := by decide +kernel
theorem dX2_takeWheels_10 : decode cX2_takeWheels 10 = .ok (.aload_n 0, 1) := by decide +kernel
theorem dX2_takeWheels_11 : decode cX2_takeWheels 11 = .ok (.dup, 1) := by decide +kernel
theorem dX2_takeWheels_12 : decode cX2_takeWheels 12 = .ok (.getfield 63, 3) := by decide +kernel
theorem dX2_takeWheels_15 : decode cX2_takeWheels 15 = .ok (.iload_n 1, 1) := by decide +kernel
theorem dX2_takeWheels_16 : decode cX2_takeWheels 16 = .ok (.iadd, 1) := by decide +kernel
theorem dX2_takeWheels_17 : decode cX2_takeWheels 17 = .ok (.putfield 63, 3) := by decide +kernel
theorem dX2_takeWheels_20 : decode cX2_takeWheels 20 = .ok (.aload_n 0, 1) := by decide +kernel
theorem dX2_takeWheels_21 : decode cX2_takeWheels 21 = .ok (.dup, 1) := by decide +kernel
theorem dX2_takeWheels_22 : decode cX2_takeWheels 22 = .ok (.getfield 48, 3) := by decide +kernel
theorem dX2_takeWheels_25 : decode cX2_takeWheels 25 = .ok (.iload_n 1, 1) := by decide +kernel
theorem dX2_takeWheels_26 : decode cX2_takeWheels 26 = .ok (.sipush 10000, 3) := by decide +kernel
theorem dX2_takeWheels_29 : decode cX2_takeWheels 29 = .ok (.imul, 1) := by decide +kernel
theorem dX2_takeWheels_30 : decode cX2_takeWheels 30 = .ok (.isub, 1) := by decide +kernel
theorem dX2_takeWheels_31 : decode cX2_takeWheels 31 = .ok (.putfield 48, 3) := by decide +kernel
theorem dX2_takeWheels_34 : decode cX2_takeWheels 34 = .ok (.return_, 1) := by decide +kernel
theorem dX3_init_0 : decode cX3_init 0 = .ok (.aload_n 0, 1) := by decide +kernel
theorem dX3_init_1 : decode cX3_init 1 = .ok (.invokespecial 3, 3) := by decide +kernel
theorem dX3_init_4 : decode cX3_init 4 = .ok (.aload_n 0, 1) := by decide +kernel
theorem dX3_init_5 : decode cX3_init 5 = .ok (.bipush 50, 2) := by decide +kernel
theorem dX3_init_7 : decode cX3_init 7 = .ok (.newarray .int, 2) := by decide +kernel
theorem dX3_init_9 : decode cX3_init 9 = .ok (.putfield 9, 3) := by decide +kernel
theorem dX3_init_12 : decode cX3_init 12 = .ok (.aload_n 0, 1) := by decide +kernel
theorem dX3_init_13 : decode cX3_init 13 = .ok (.bipush 50, 2) := by decide +kernel
theorem dX3_init_15 : decode cX3_init 15 = .ok (.newarray .int, 2) := by decide +kernel
theorem dX3_init_17 : decode cX3_init 17 = .ok (.putfield 15, 3) := by decide +kernel
theorem dX3_init_20 : decode cX3_init 20 = .ok (.aload_n 0, 1) := by decide +kernel
theorem dX3_init_21 : decode cX3_init 21 = .ok (.bipush 50, 2) := by decide +kernel
theorem dX3_init_23 : decode cX3_init 23 = .ok (.newarray .int, 2) := by decide +kernel
theorem dX3_init_25 : decode cX3_init 25 = .ok (.putfield 18, 3) := by decide +kernel
theorem dX3_init_28 : decode cX3_init 28 = .ok (.aload_n 0, 1) := by decide +kernel
theorem dX3_init_29 : decode cX3_init 29 = .ok (.bipush 50, 2) := by decide +kernel
theorem dX3_init_31 : decode cX3_init 31 = .ok (.newarray .int, 2) := by decide +kernel
theorem dX3_init_33 : decode cX3_init 33 = .ok (.putfield 21, 3) := by decide +kernel
theorem dX3_init_36 : decode cX3_init 36 = .ok (.aload_n 0, 1) := by decide +kernel
theorem dX3_init_37 : decode cX3_init 37 = .ok (.bipush 50, 2) := by decide +kernel
theorem dX3_init_39 : decode cX3_init 39 = .ok (.newarray .int, 2) := by decide +kernel
theorem dX3_init_41 : decode cX3_init 41 = .ok (.putfield 24, 3) := by decide +kernel
theorem dX3_init_44 : decode cX3_init 44 = .ok (.return_, 1) := by decide +kernel
theorem dX3_has_0 : decode cX3_has 0 = .ok (.iload_n 1, 1) := by decide +kernel
theorem dX3_has_1 : decode cX3_has 1 = .ok (.ifCond .lt 15, 3) := by decide +kernel
theorem dX3_has_4 : decode cX3_has 4 = .ok (.iload_n 1, 1) := by decide +kernel
theorem dX3_has_5 : decode cX3_has 5 = .ok (.aload_n 0, 1) := by decide +kernel
theorem dX3_has_6 : decode cX3_has 6 = .ok (.getfield 27, 3) := by decide +kernel
theorem dX3_has_9 : decode cX3_has 9 = .ok (.if_icmp .ge 7, 3) := by decide +kernel
theorem dX3_has_12 : decode cX3_has 12 = .ok (.iconst 1, 1) := by decide +kernel
theorem dX3_has_13 : decode cX3_has 13 = .ok (.goto 4, 3) := by decide +kernel
theorem dX3_has_16 : decode cX3_has 16 = .ok (.iconst 0, 1) := by decide +kernel
theorem dX3_has_17 : decode cX3_has 17 = .ok (.ireturn, 1) := by decide +kernel
theorem dX3_enter_0 : decode cX3_enter 0 = .ok (.aload_n 0, 1) := by decide +kernel
theorem dX3_enter_1 : decode cX3_enter 1 = .ok (.getfield 9, 3) := by decide +kernel
theorem dX3_enter_4 : decode cX3_enter 4 = .ok (.aload_n 0, 1) := by decide +kernel
theorem dX3_enter_5 : decode cX3_enter 5 = .ok (.getfield 27, 3) := by decide +kernel
theorem dX3_enter_8 : decode cX3_enter 8 = .ok (.iload_n 1, 1) := by decide +kernel
theorem dX3_enter_9 : decode cX3_enter 9 = .ok (.iastore, 1) := by decide +kernel
theorem dX3_enter_10 : decode cX3_enter 10 = .ok (.aload_n 0, 1) := by decide +kernel
theorem dX3_enter_11 : decode cX3_enter 11 = .ok (.getfield 15, 3) := by decide +kernel
theorem dX3_enter_14 : decode cX3_enter 14 = .ok (.aload_n 0, 1) := by decide +kernel
theorem dX3_enter_15 : decode cX3_enter 15 = .ok (.getfield 27, 3) := by decide +kernel
theorem dX3_enter_18 : decode cX3_enter 18 = .ok (.iload_n 2, 1) := by decide +kernel
theorem dX3_enter_19 : decode cX3_enter 19 = .ok (.iastore, 1) := by decide +kernel
theorem dX3_enter_20 : decode cX3_enter 20 = .ok (.aload_n 0, 1) := by decide +kernel
theorem dX3_enter_21 : decode cX3_enter 21 = .ok (.getfield 18, 3) := by decide +kernel
theorem dX3_enter_24 : decode cX3_enter 24 = .ok (.aload_n 0, 1) := by decide +kernel
theorem dX3_enter_25 : decode cX3_enter 25 = .ok (.getfield 27, 3) := by decide +kernel
theorem dX3_enter_28 : decode cX3_enter 28 = .ok (.iload_n 3, 1) := by decide +kernel
theorem dX3_enter_29 : decode cX3_enter 29 = .ok (.iastore, 1) := by decide +kernel
theorem dX3_enter_30 : decode cX3_enter 30 = .ok (.aload_n 0, 1) := by decide +kernel
theorem dX3_enter_31 : decode cX3_enter 31 = .ok (.dup, 1) := by decide +kernel
theorem dX3_enter_32 : decode cX3_enter 32 = .ok (.getfield 27, 3) := by decide +kernel
theorem dX3_enter_35 : decode cX3_enter 35 = .ok (.dup_x1, 1) := by decide +kernel
theorem dX3_enter_36 : decode cX3_enter 36 = .ok (.iconst 1, 1) := by decide +kernel
theorem dX3_enter_37 : decode cX3_enter 37 = .ok (.iadd, 1) := by decide +kernel
theorem dX3_enter_38 : decode cX3_enter 38 = .ok (.putfield 27, 3) := by decide +kernel
theorem dX3_enter_41 : decode cX3_enter 41 = .ok (.ireturn, 1) := by decide +kernel
theorem dX3_commonOf_0 : decode cX3_commonOf 0 = .ok (.getstatic 31, 3) := by decide +kernel
theorem dX3_commonOf_3 : decode cX3_commonOf 3 = .ok (.aload_n 0, 1) := by decide +kernel
theorem dX3_commonOf_4 : decode cX3_commonOf 4 = .ok (.getfield 9, 3) := by decide +kernel
theorem dX3_commonOf_7 : decode cX3_commonOf 7 = .ok (.iload_n 1, 1) := by decide +kernel
theorem dX3_commonOf_8 : decode cX3_commonOf 8 = .ok (.iaload, 1) := by decide +kernel
theorem dX3_commonOf_9 : decode cX3_commonOf 9 = .ok (.iaload, 1) := by decide +kernel
theorem dX3_commonOf_10 : decode cX3_commonOf 10 = .ok (.ireturn, 1) := by decide +kernel
theorem dX3_isLent_0 : decode cX3_isLent 0 = .ok (.iload_n 2, 1) := by decide +kernel
theorem dX3_isLent_1 : decode cX3_isLent 1 = .ok (.aload_n 0, 1) := by decide +kernel
theorem dX3_isLent_2 : decode cX3_isLent 2 = .ok (.getfield 24, 3) := by decide +kernel
theorem dX3_isLent_5 : decode cX3_isLent 5 = .ok (.iload_n 1, 1) := by decide +kernel
theorem dX3_isLent_6 : decode cX3_isLent 6 = .ok (.iaload, 1) := by decide +kernel
theorem dX3_isLent_7 : decode cX3_isLent 7 = .ok (.if_icmp .ge 7, 3) := by decide +kernel
theorem dX3_isLent_10 : decode cX3_isLent 10 = .ok (.iconst 1, 1) := by decide +kernel
theorem dX3_isLent_11 : decode cX3_isLent 11 = .ok (.goto 4, 3) := by decide +kernel
theorem dX3_isLent_14 : decode cX3_isLent 14 = .ok (.iconst 0, 1) := by decide +kernel
theorem dX3_isLent_15 : decode cX3_isLent 15 = .ok (.ireturn, 1) := by decide +kernel
theorem dX3_holder_0 : decode cX3_holder 0 = .ok (.aload_n 0, 1) := by decide +kernel
theorem dX3_holder_1 : decode cX3_holder 1 = .ok (.iload_n 1, 1) := by decide +kernel
theorem dX3_holder_2 : decode cX3_holder 2 = .ok (.iload_n 2, 1) := by decide +kernel
theorem dX3_holder_3 : decode cX3_holder 3 = .ok (.invokevirtual 34, 3) := by decide +kernel
theorem dX3_holder_6 : decode cX3_holder 6 = .ok (.ifCond .eq 12, 3) := by decide +kernel
theorem dX3_holder_9 : decode cX3_holder 9 = .ok (.aload_n 0, 1) := by decide +kernel
theorem dX3_holder_10 : decode cX3_holder 10 = .ok (.getfield 21, 3) := by decide +kernel
theorem dX3_holder_13 : decode cX3_holder 13 = .ok (.iload_n 1, 1) := by decide +kernel
theorem dX3_holder_14 : decode cX3_holder 14 = .ok (.iaload, 1) := by decide +kernel
theorem dX3_holder_15 : decode cX3_holder 15 = .ok (.goto 9, 3) := by decide +kernel
theorem dX3_holder_18 : decode cX3_holder 18 = .ok (.aload_n 0, 1) := by decide +kernel
theorem dX3_holder_19 : decode cX3_holder 19 = .ok (.getfield 15, 3) := by decide +kernel
theorem dX3_holder_22 : decode cX3_holder 22 = .ok (.iload_n 1, 1) := by decide +kernel
theorem dX3_holder_23 : decode cX3_holder 23 = .ok (.iaload, 1) := by decide +kernel
theorem dX3_holder_24 : decode cX3_holder 24 = .ok (.ireturn, 1) := by decide +kernel
theorem dX3_joinable_0 : decode cX3_joinable 0 = .ok (.aload_n 0, 1) := by decide +kernel
theorem dX3_joinable_1 : decode cX3_joinable 1 = .ok (.iload_n 1, 1) := by decide +kernel
theorem dX3_joinable_2 : decode cX3_joinable 2 = .ok (.invokevirtual 38, 3) := by decide +kernel
theorem dX3_joinable_5 : decode cX3_joinable 5 = .ok (.ifCond .lt 31, 3) := by decide +kernel
theorem dX3_joinable_8 : decode cX3_joinable 8 = .ok (.aload_n 0, 1) := by decide +kernel
theorem dX3_joinable_9 : decode cX3_joinable 9 = .ok (.iload_n 1, 1) := by decide +kernel
theorem dX3_joinable_10 : decode cX3_joinable 10 = .ok (.invokevirtual 38, 3) := by decide +kernel
theorem dX3_joinable_13 : decode cX3_joinable 13 = .ok (.aload_n 0, 1) := by decide +kernel
theorem dX3_joinable_14 : decode cX3_joinable 14 = .ok (.iload_n 2, 1) := by decide +kernel
theorem dX3_joinable_15 : decode cX3_joinable 15 = .ok (.invokevirtual 38, 3) := by decide +kernel
theorem dX3_joinable_18 : decode cX3_joinable 18 = .ok (.if_icmp .ne 18, 3) := by decide +kernel
theorem dX3_joinable_21 : decode cX3_joinable 21 = .ok (.aload_n 0, 1) := by decide +kernel
theorem dX3_joinable_22 : decode cX3_joinable 22 = .ok (.getfield 15, 3) := by decide +kernel
theorem dX3_joinable_25 : decode cX3_joinable 25 = .ok (.iload_n 1, 1) := by decide +kernel
theorem dX3_joinable_26 : decode cX3_joinable 26 = .ok (.iaload, 1) := by decide +kernel
theorem dX3_joinable_27 : decode cX3_joinable 27 = .ok (.aload_n 0, 1) := by decide +kernel
theorem dX3_joinable_28 : decode cX3_joinable 28 = .ok (.getfield 15, 3) := by decide +kernel
theorem dX3_joinable_31 : decode cX3_joinable 31 = .ok (.iload_n 2, 1) := by decide +kernel
theorem dX3_joinable_32 : decode cX3_joinable 32 = .ok (.iaload, 1) := by decide +kernel
theorem dX3_joinable_33 : decode cX3_joinable 33 = .ok (.if_icmp .eq 5, 3) := by decide +kernel
theorem dX3_joinable_36 : decode cX3_joinable 36 = .ok (.iconst 0, 1) := by decide +kernel
theorem dX3_joinable_37 : decode cX3_joinable 37 = .ok (.ireturn, 1) := by decide +kernel
theorem dX3_joinable_38 : decode cX3_joinable 38 = .ok (.aload_n 0, 1) := by decide +kernel
theorem dX3_joinable_39 : decode cX3_joinable 39 = .ok (.iload_n 1, 1) := by decide +kernel
theorem dX3_joinable_40 : decode cX3_joinable 40 = .ok (.iload_n 3, 1) := by decide +kernel
theorem dX3_joinable_41 : decode cX3_joinable 41 = .ok (.invokevirtual 34, 3) := by decide +kernel
theorem dX3_joinable_44 : decode cX3_joinable 44 = .ok (.ifCond .ne 12, 3) := by decide +kernel
theorem dX3_joinable_47 : decode cX3_joinable 47 = .ok (.aload_n 0, 1) := by decide +kernel
theorem dX3_joinable_48 : decode cX3_joinable 48 = .ok (.iload_n 2, 1) := by decide +kernel
theorem dX3_joinable_49 : decode cX3_joinable 49 = .ok (.iload_n 3, 1) := by decide +kernel
theorem dX3_joinable_50 : decode cX3_joinable 50 = .ok (.invokevirtual 34, 3) := by decide +kernel
theorem dX3_joinable_53 : decode cX3_joinable 53 = .ok (.ifCond .eq 5, 3) := by decide +kernel
theorem dX3_joinable_56 : decode cX3_joinable 56 = .ok (.iconst 0, 1) := by decide +kernel
theorem dX3_joinable_57 : decode cX3_joinable 57 = .ok (.ireturn, 1) := by decide +kernel
theorem dX3_joinable_58 : decode cX3_joinable 58 = .ok (.aload_n 0, 1) := by decide +kernel
theorem dX3_joinable_59 : decode cX3_joinable 59 = .ok (.getfield 18, 3) := by decide +kernel
theorem dX3_joinable_62 : decode cX3_joinable 62 = .ok (.iload_n 1, 1) := by decide +kernel
theorem dX3_joinable_63 : decode cX3_joinable 63 = .ok (.iaload, 1) := by decide +kernel
theorem dX3_joinable_64 : decode cX3_joinable 64 = .ok (.ifCond .le 16, 3) := by decide +kernel
theorem dX3_joinable_67 : decode cX3_joinable 67 = .ok (.aload_n 0, 1) := by decide +kernel
theorem dX3_joinable_68 : decode cX3_joinable 68 = .ok (.getfield 18, 3) := by decide +kernel
theorem dX3_joinable_71 : decode cX3_joinable 71 = .ok (.iload_n 2, 1) := by decide +kernel
theorem dX3_joinable_72 : decode cX3_joinable 72 = .ok (.iaload, 1) := by decide +kernel
theorem dX3_joinable_73 : decode cX3_joinable 73 = .ok (.ifCond .le 7, 3) := by decide +kernel
theorem dX3_joinable_76 : decode cX3_joinable 76 = .ok (.iconst 1, 1) := by decide +kernel
theorem dX3_joinable_77 : decode cX3_joinable 77 = .ok (.goto 4, 3) := by decide +kernel
theorem dX3_joinable_80 : decode cX3_joinable 80 = .ok (.iconst 0, 1) := by decide +kernel
theorem dX3_joinable_81 : decode cX3_joinable 81 = .ok (.ireturn, 1) := by decide +kernel
theorem dX3_whole_0 : decode cX3_whole 0 = .ok (.iconst 0, 1) := by decide +kernel
theorem dX3_whole_1 : decode cX3_whole 1 = .ok (.istore_n 2, 1) := by decide +kernel
theorem dX3_whole_2 : decode cX3_whole 2 = .ok (.iconst 0, 1) := by decide +kernel
theorem dX3_whole_3 : decode cX3_whole 3 = .ok (.istore_n 3, 1) := by decide +kernel
theorem dX3_whole_4 : decode cX3_whole 4 = .ok (.iload_n 3, 1) := by decide +kernel
theorem dX3_whole_5 : decode cX3_whole 5 = .ok (.aload_n 0, 1) := by decide +kernel
theorem dX3_whole_6 : decode cX3_whole 6 = .ok (.getfield 27, 3) := by decide +kernel
theorem dX3_whole_9 : decode cX3_whole 9 = .ok (.if_icmp .ge 27, 3) := by decide +kernel
theorem dX3_whole_12 : decode cX3_whole 12 = .ok (.aload_n 0, 1) := by decide +kernel
theorem dX3_whole_13 : decode cX3_whole 13 = .ok (.iload_n 3, 1) := by decide +kernel
theorem dX3_whole_14 : decode cX3_whole 14 = .ok (.invokevirtual 38, 3) := by decide +kernel
theorem dX3_whole_17 : decode cX3_whole 17 = .ok (.iload_n 1, 1) := by decide +kernel
theorem dX3_whole_18 : decode cX3_whole 18 = .ok (.if_icmp .ne 12, 3) := by decide +kernel
theorem dX3_whole_21 : decode cX3_whole 21 = .ok (.iload_n 2, 1) := by decide +kernel
theorem dX3_whole_22 : decode cX3_whole 22 = .ok (.aload_n 0, 1) := by decide +kernel
theorem dX3_whole_23 : decode cX3_whole 23 = .ok (.getfield 18, 3) := by decide +kernel
theorem dX3_whole_26 : decode cX3_whole 26 = .ok (.iload_n 3, 1) := by decide +kernel
theorem dX3_whole_27 : decode cX3_whole 27 = .ok (.iaload, 1) := by decide +kernel
theorem dX3_whole_28 : decode cX3_whole 28 = .ok (.iadd, 1) := by decide +kernel
theorem dX3_whole_29 : decode cX3_whole 29 = .ok (.istore_n 2, 1) := by decide +kernel
theorem dX3_whole_30 : decode cX3_whole 30 = .ok (.iinc 3 1, 3) := by decide +kernel
theorem dX3_whole_33 : decode cX3_whole 33 = .ok (.goto (-29), 3) := by decide +kernel
theorem dX3_whole_36 : decode cX3_whole 36 = .ok (.iload_n 2, 1) := by decide +kernel
theorem dX3_whole_37 : decode cX3_whole 37 = .ok (.ireturn, 1) := by decide +kernel
theorem dX3_held_0 : decode cX3_held 0 = .ok (.iconst 0, 1) := by decide +kernel
theorem dX3_held_1 : decode cX3_held 1 = .ok (.istore 4, 2) := by decide +kernel
theorem dX3_held_3 : decode cX3_held 3 = .ok (.iconst 0, 1) := by decide +kernel
theorem dX3_held_4 : decode cX3_held 4 = .ok (.istore 5, 2) := by decide +kernel
theorem dX3_held_6 : decode cX3_held 6 = .ok (.iload 5, 2) := by decide +kernel
theorem dX3_held_8 : decode cX3_held 8 = .ok (.aload_n 0, 1) := by decide +kernel
theorem dX3_held_9 : decode cX3_held 9 = .ok (.getfield 27, 3) := by decide +kernel
theorem dX3_held_12 : decode cX3_held 12 = .ok (.if_icmp .ge 42, 3) := by decide +kernel
theorem dX3_held_15 : decode cX3_held 15 = .ok (.aload_n 0, 1) := by decide +kernel
theorem dX3_held_16 : decode cX3_held 16 = .ok (.iload 5, 2) := by decide +kernel
theorem dX3_held_18 : decode cX3_held 18 = .ok (.invokevirtual 38, 3) := by decide +kernel
theorem dX3_held_21 : decode cX3_held 21 = .ok (.iload_n 2, 1) := by decide +kernel
theorem dX3_held_22 : decode cX3_held 22 = .ok (.if_icmp .ne 26, 3) := by decide +kernel
theorem dX3_held_25 : decode cX3_held 25 = .ok (.aload_n 0, 1) := by decide +kernel
theorem dX3_held_26 : decode cX3_held 26 = .ok (.iload 5, 2) := by decide +kernel
theorem dX3_held_28 : decode cX3_held 28 = .ok (.iload_n 3, 1) := by decide +kernel
theorem dX3_held_29 : decode cX3_held 29 = .ok (.invokevirtual 42, 3) := by decide +kernel
theorem dX3_held_32 : decode cX3_held 32 = .ok (.iload_n 1, 1) := by decide +kernel
theorem dX3_held_33 : decode cX3_held 33 = .ok (.if_icmp .ne 15, 3) := by decide +kernel
theorem dX3_held_36 : decode cX3_held 36 = .ok (.iload 4, 2) := by decide +kernel
theorem dX3_held_38 : decode cX3_held 38 = .ok (.aload_n 0, 1) := by decide +kernel
theorem dX3_held_39 : decode cX3_held 39 = .ok (.getfield 18, 3) := by decide +kernel
theorem dX3_held_42 : decode cX3_held 42 = .ok (.iload 5, 2) := by decide +kernel
theorem dX3_held_44 : decode cX3_held 44 = .ok (.iaload, 1) := by decide +kernel
theorem dX3_held_45 : decode cX3_held 45 = .ok (.iadd, 1) := by decide +kernel
theorem dX3_held_46 : decode cX3_held 46 = .ok (.istore 4, 2) := by decide +kernel
theorem dX3_held_48 : decode cX3_held 48 = .ok (.iinc 5 1, 3) := by decide +kernel
theorem dX3_held_51 : decode cX3_held 51 = .ok (.goto (-45), 3) := by decide +kernel
theorem dX3_held_54 : decode cX3_held 54 = .ok (.iload 4, 2) := by decide +kernel
theorem dX3_held_56 : decode cX3_held 56 = .ok (.ireturn, 1) := by decide +kernel
theorem dX3_atHour_0 : decode cX3_atHour 0 = .ok (.aload_n 0, 1) := by decide +kernel
theorem dX3_atHour_1 : decode cX3_atHour 1 = .ok (.iconst 2, 1) := by decide +kernel
theorem dX3_atHour_2 : decode cX3_atHour 2 = .ok (.invokevirtual 46, 3) := by decide +kernel
theorem dX3_atHour_5 : decode cX3_atHour 5 = .ok (.istore_n 2, 1) := by decide +kernel
theorem dX3_atHour_6 : decode cX3_atHour 6 = .ok (.iload_n 2, 1) := by decide +kernel
theorem dX3_atHour_7 : decode cX3_atHour 7 = .ok (.ifCond .gt 5, 3) := by decide +kernel
theorem dX3_atHour_10 : decode cX3_atHour 10 = .ok (.iconst (-1), 1) := by decide +kernel
theorem dX3_atHour_11 : decode cX3_atHour 11 = .ok (.ireturn, 1) := by decide +kernel
theorem dX3_atHour_12 : decode cX3_atHour 12 = .ok (.iload_n 1, 1) := by decide +kernel
theorem dX3_atHour_13 : decode cX3_atHour 13 = .ok (.iload_n 2, 1) := by decide +kernel
theorem dX3_atHour_14 : decode cX3_atHour 14 = .ok (.irem, 1) := by decide +kernel
theorem dX3_atHour_15 : decode cX3_atHour 15 = .ok (.istore_n 3, 1) := by decide +kernel
theorem dX3_atHour_16 : decode cX3_atHour 16 = .ok (.iconst 0, 1) := by decide +kernel
theorem dX3_atHour_17 : decode cX3_atHour 17 = .ok (.istore 4, 2) := by decide +kernel
theorem dX3_atHour_19 : decode cX3_atHour 19 = .ok (.iload 4, 2) := by decide +kernel
theorem dX3_atHour_21 : decode cX3_atHour 21 = .ok (.aload_n 0, 1) := by decide +kernel
theorem dX3_atHour_22 : decode cX3_atHour 22 = .ok (.getfield 27, 3) := by decide +kernel
theorem dX3_atHour_25 : decode cX3_atHour 25 = .ok (.if_icmp .ge 43, 3) := by decide +kernel
theorem dX3_atHour_28 : decode cX3_atHour 28 = .ok (.aload_n 0, 1) := by decide +kernel
theorem dX3_atHour_29 : decode cX3_atHour 29 = .ok (.iload 4, 2) := by decide +kernel
theorem dX3_atHour_31 : decode cX3_atHour 31 = .ok (.invokevirtual 38, 3) := by decide +kernel
theorem dX3_atHour_34 : decode cX3_atHour 34 = .ok (.iconst 2, 1) := by decide +kernel
theorem dX3_atHour_35 : decode cX3_atHour 35 = .ok (.if_icmp .ne 27, 3) := by decide +kernel
theorem dX3_atHour_38 : decode cX3_atHour 38 = .ok (.iload_n 3, 1) := by decide +kernel
theorem dX3_atHour_39 : decode cX3_atHour 39 = .ok (.aload_n 0, 1) := by decide +kernel
theorem dX3_atHour_40 : decode cX3_atHour 40 = .ok (.getfield 18, 3) := by decide +kernel
theorem dX3_atHour_43 : decode cX3_atHour 43 = .ok (.iload 4, 2) := by decide +kernel
theorem dX3_atHour_45 : decode cX3_atHour 45 = .ok (.iaload, 1) := by decide +kernel
theorem dX3_atHour_46 : decode cX3_atHour 46 = .ok (.if_icmp .ge 6, 3) := by decide +kernel
theorem dX3_atHour_49 : decode cX3_atHour 49 = .ok (.iload 4, 2) := by decide +kernel
theorem dX3_atHour_51 : decode cX3_atHour 51 = .ok (.ireturn, 1) := by decide +kernel
theorem dX3_atHour_52 : decode cX3_atHour 52 = .ok (.iload_n 3, 1) := by decide +kernel
theorem dX3_atHour_53 : decode cX3_atHour 53 = .ok (.aload_n 0, 1) := by decide +kernel
theorem dX3_atHour_54 : decode cX3_atHour 54 = .ok (.getfield 18, 3) := by decide +kernel
theorem dX3_atHour_57 : decode cX3_atHour 57 = .ok (.iload 4, 2) := by decide +kernel
theorem dX3_atHour_59 : decode cX3_atHour 59 = .ok (.iaload, 1) := by decide +kernel
theorem dX3_atHour_60 : decode cX3_atHour 60 = .ok (.isub, 1) := by decide +kernel
theorem dX3_atHour_61 : decode cX3_atHour 61 = .ok (.istore_n 3, 1) := by decide +kernel
theorem dX3_atHour_62 : decode cX3_atHour 62 = .ok (.iinc 4 1, 3) := by decide +kernel
theorem dX3_atHour_65 : decode cX3_atHour 65 = .ok (.goto (-46), 3) := by decide +kernel
theorem dX3_atHour_68 : decode cX3_atHour 68 = .ok (.iconst (-1), 1) := by decide +kernel
theorem dX3_atHour_69 : decode cX3_atHour 69 = .ok (.ireturn, 1) := by decide +kernel
theorem dX3_isUnder_0 : decode cX3_isUnder 0 = .ok (.iload_n 0, 1) := by decide +kernel
theorem dX3_isUnder_1 : decode cX3_isUnder 1 = .ok (.istore_n 2, 1) := by decide +kernel
theorem dX3_isUnder_2 : decode cX3_isUnder 2 = .ok (.iconst 0, 1) := by decide +kernel
theorem dX3_isUnder_3 : decode cX3_isUnder 3 = .ok (.istore_n 3, 1) := by decide +kernel
theorem dX3_isUnder_4 : decode cX3_isUnder 4 = .ok (.iload_n 3, 1) := by decide +kernel
theorem dX3_isUnder_5 : decode cX3_isUnder 5 = .ok (.bipush 6, 2) := by decide +kernel
theorem dX3_isUnder_7 : decode cX3_isUnder 7 = .ok (.if_icmp .ge 26, 3) := by decide +kernel
theorem dX3_isUnder_10 : decode cX3_isUnder 10 = .ok (.iload_n 2, 1) := by decide +kernel
theorem dX3_isUnder_11 : decode cX3_isUnder 11 = .ok (.ifCond .lt 22, 3) := by decide +kernel
theorem dX3_isUnder_14 : decode cX3_isUnder 14 = .ok (.iload_n 2, 1) := by decide +kernel
theorem dX3_isUnder_15 : decode cX3_isUnder 15 = .ok (.iload_n 1, 1) := by decide +kernel
theorem dX3_isUnder_16 : decode cX3_isUnder 16 = .ok (.if_icmp .ne 5, 3) := by decide +kernel
theorem dX3_isUnder_19 : decode cX3_isUnder 19 = .ok (.iconst 1, 1) := by decide +kernel
theorem dX3_isUnder_20 : decode cX3_isUnder 20 = .ok (.ireturn, 1) := by decide +kernel
theorem dX3_isUnder_21 : decode cX3_isUnder 21 = .ok (.getstatic 49, 3) := by decide +kernel
theorem dX3_isUnder_24 : decode cX3_isUnder 24 = .ok (.iload_n 2, 1) := by decide +kernel
theorem dX3_isUnder_25 : decode cX3_isUnder 25 = .ok (.iaload, 1) := by decide +kernel
theorem dX3_isUnder_26 : decode cX3_isUnder 26 = .ok (.istore_n 2, 1) := by decide +kernel
theorem dX3_isUnder_27 : decode cX3_isUnder 27 = .ok (.iinc 3 1, 3) := by decide +kernel
theorem dX3_isUnder_30 : decode cX3_isUnder 30 = .ok (.goto (-26), 3) := by decide +kernel
theorem dX3_isUnder_33 : decode cX3_isUnder 33 = .ok (.iconst 0, 1) := by decide +kernel
theorem dX3_isUnder_34 : decode cX3_isUnder 34 = .ok (.ireturn, 1) := by decide +kernel
theorem dX4_init_0 : decode cX4_init 0 = .ok (.aload_n 0, 1) := by decide +kernel
theorem dX4_init_1 : decode cX4_init 1 = .ok (.invokespecial 3, 3) := by decide +kernel
theorem dX4_init_4 : decode cX4_init 4 = .ok (.aload_n 0, 1) := by decide +kernel
theorem dX4_init_5 : decode cX4_init 5 = .ok (.iconst (-1), 1) := by decide +kernel
theorem dX4_init_6 : decode cX4_init 6 = .ok (.putfield 9, 3) := by decide +kernel
theorem dX4_init_9 : decode cX4_init 9 = .ok (.aload_n 0, 1) := by decide +kernel
theorem dX4_init_10 : decode cX4_init 10 = .ok (.bipush 60, 2) := by decide +kernel
theorem dX4_init_12 : decode cX4_init 12 = .ok (.newarray .long, 2) := by decide +kernel
theorem dX4_init_14 : decode cX4_init 14 = .ok (.putfield 15, 3) := by decide +kernel
theorem dX4_init_17 : decode cX4_init 17 = .ok (.return_, 1) := by decide +kernel
theorem dX4_becomeRow_0 : decode cX4_becomeRow 0 = .ok (.aload_n 0, 1) := by decide +kernel
theorem dX4_becomeRow_1 : decode cX4_becomeRow 1 = .ok (.iload_n 1, 1) := by decide +kernel
theorem dX4_becomeRow_2 : decode cX4_becomeRow 2 = .ok (.putfield 9, 3) := by decide +kernel
theorem dX4_becomeRow_5 : decode cX4_becomeRow 5 = .ok (.aload_n 0, 1) := by decide +kernel
theorem dX4_becomeRow_6 : decode cX4_becomeRow 6 = .ok (.iload_n 2, 1) := by decide +kernel
theorem dX4_becomeRow_7 : decode cX4_becomeRow 7 = .ok (.putfield 19, 3) := by decide +kernel
theorem dX4_becomeRow_10 : decode cX4_becomeRow 10 = .ok (.iconst 0, 1) := by decide +kernel
theorem dX4_becomeRow_11 : decode cX4_becomeRow 11 = .ok (.istore_n 3, 1) := by decide +kernel
theorem dX4_becomeRow_12 : decode cX4_becomeRow 12 = .ok (.iload_n 3, 1) := by decide +kernel
theorem dX4_becomeRow_13 : decode cX4_becomeRow 13 = .ok (.bipush 60, 2) := by decide +kernel
theorem dX4_becomeRow_15 : decode cX4_becomeRow 15 = .ok (.if_icmp .ge 16, 3) := by decide +kernel
theorem dX4_becomeRow_18 : decode cX4_becomeRow 18 = .ok (.aload_n 0, 1) := by decide +kernel
theorem dX4_becomeRow_19 : decode cX4_becomeRow 19 = .ok (.getfield 15, 3) := by decide +kernel
theorem dX4_becomeRow_22 : decode cX4_becomeRow 22 = .ok (.iload_n 3, 1) := by decide +kernel
theorem dX4_becomeRow_23 : decode cX4_becomeRow 23 = .ok (.lconst 0, 1) := by decide +kernel
theorem dX4_becomeRow_24 : decode cX4_becomeRow 24 = .ok (.lastore, 1) := by decide +kernel
theorem dX4_becomeRow_25 : decode cX4_becomeRow 25 = .ok (.iinc 3 1, 3) := by decide +kernel
theorem dX4_becomeRow_28 : decode cX4_becomeRow 28 = .ok (.goto (-16), 3) := by decide +kernel
theorem dX4_becomeRow_31 : decode cX4_becomeRow 31 = .ok (.return_, 1) := by decide +kernel
theorem dX4_holds_0 : decode cX4_holds 0 = .ok (.iload_n 1, 1) := by decide +kernel
theorem dX4_holds_1 : decode cX4_holds 1 = .ok (.ifCond .lt 21, 3) := by decide +kernel
theorem dX4_holds_4 : decode cX4_holds 4 = .ok (.iload_n 2, 1) := by decide +kernel
theorem dX4_holds_5 : decode cX4_holds 5 = .ok (.ifCond .lt 17, 3) := by decide +kernel
theorem dX4_holds_8 : decode cX4_holds 8 = .ok (.iload_n 2, 1) := by decide +kernel
theorem dX4_holds_9 : decode cX4_holds 9 = .ok (.aload_n 0, 1) := by decide +kernel
theorem dX4_holds_10 : decode cX4_holds 10 = .ok (.getfield 19, 3) := by decide +kernel
theorem dX4_holds_13 : decode cX4_holds 13 = .ok (.iload_n 1, 1) := by decide +kernel
theorem dX4_holds_14 : decode cX4_holds 14 = .ok (.isub, 1) := by decide +kernel
theorem dX4_holds_15 : decode cX4_holds 15 = .ok (.if_icmp .gt 7, 3) := by decide +kernel
theorem dX4_holds_18 : decode cX4_holds 18 = .ok (.iconst 1, 1) := by decide +kernel
theorem dX4_holds_19 : decode cX4_holds 19 = .ok (.goto 4, 3) := by decide +kernel
theorem dX4_holds_22 : decode cX4_holds 22 = .ok (.iconst 0, 1) := by decide +kernel
theorem dX4_holds_23 : decode cX4_holds 23 = .ok (.ireturn, 1) := by decide +kernel
theorem dX4_cut_0 : decode cX4_cut 0 = .ok (.aload_n 0, 1) := by decide +kernel
theorem dX4_cut_1 : decode cX4_cut 1 = .ok (.getfield 9, 3) := by decide +kernel
theorem dX4_cut_4 : decode cX4_cut 4 = .ok (.ifCond .ne 7, 3) := by decide +kernel
theorem dX4_cut_7 : decode cX4_cut 7 = .ok (.iload_n 1, 1) := by decide +kernel
theorem dX4_cut_8 : decode cX4_cut 8 = .ok (.i2b, 1) := by decide +kernel
theorem dX4_cut_9 : decode cX4_cut 9 = .ok (.i2l, 1) := by decide +kernel
theorem dX4_cut_10 : decode cX4_cut 10 = .ok (.lreturn, 1) := by decide +kernel
theorem dX4_cut_11 : decode cX4_cut 11 = .ok (.aload_n 0, 1) := by decide +kernel
theorem dX4_cut_12 : decode cX4_cut 12 = .ok (.getfield 9, 3) := by decide +kernel
theorem dX4_cut_15 : decode cX4_cut 15 = .ok (.iconst 1, 1) := by decide +kernel
theorem dX4_cut_16 : decode cX4_cut 16 = .ok (.if_icmp .ne 9, 3) := by decide +kernel
theorem dX4_cut_19 : decode cX4_cut 19 = .ok (.iload_n 1, 1) := by decide +kernel
theorem dX4_cut_20 : decode cX4_cut 20 = .ok (.i2s, 1) := by decide +kernel
theorem dX4_cut_21 : decode cX4_cut 21 = .ok (.i2l, 1) := by decide +kernel
theorem dX4_cut_22 : decode cX4_cut 22 = .ok (.goto 5, 3) := by decide +kernel
theorem dX4_cut_25 : decode cX4_cut 25 = .ok (.iload_n 1, 1) := by decide +kernel
theorem dX4_cut_26 : decode cX4_cut 26 = .ok (.i2l, 1) := by decide +kernel
theorem dX4_cut_27 : decode cX4_cut 27 = .ok (.lreturn, 1) := by decide +kernel
theorem dX5_init_0 : decode cX5_init 0 = .ok (.aload_n 0, 1) := by decide +kernel
theorem dX5_init_1 : decode cX5_init 1 = .ok (.invokespecial 3, 3) := by decide +kernel
theorem dX5_init_4 : decode cX5_init 4 = .ok (.aload_n 0, 1) := by decide +kernel
theorem dX5_init_5 : decode cX5_init 5 = .ok (.iconst 2, 1) := by decide +kernel
theorem dX5_init_6 : decode cX5_init 6 = .ok (.sipush 7200, 3) := by decide +kernel
theorem dX5_init_9 : decode cX5_init 9 = .ok (.multianewarray 9 2, 4) := by decide +kernel
theorem dX5_init_13 : decode cX5_init 13 = .ok (.putfield 11, 3) := by decide +kernel
theorem dX5_init_16 : decode cX5_init 16 = .ok (.aload_n 0, 1) := by decide +kernel
theorem dX5_init_17 : decode cX5_init 17 = .ok (.iconst 2, 1) := by decide +kernel
theorem dX5_init_18 : decode cX5_init 18 = .ok (.bipush 120, 2) := by decide +kernel
theorem dX5_init_20 : decode cX5_init 20 = .ok (.multianewarray 16 2, 4) := by decide +kernel
theorem dX5_init_24 : decode cX5_init 24 = .ok (.putfield 18, 3) := by decide +kernel
theorem dX5_init_27 : decode cX5_init 27 = .ok (.return_, 1) := by decide +kernel
theorem dX5_has_0 : decode cX5_has 0 = .ok (.iload_n 0, 1) := by decide +kernel
theorem dX5_has_1 : decode cX5_has 1 = .ok (.ifCond .lt 23, 3) := by decide +kernel
theorem dX5_has_4 : decode cX5_has 4 = .ok (.iload_n 0, 1) := by decide +kernel
theorem dX5_has_5 : decode cX5_has 5 = .ok (.sipush 7199, 3) := by decide +kernel
theorem dX5_has_8 : decode cX5_has 8 = .ok (.if_icmp .gt 16, 3) := by decide +kernel
theorem dX5_has_11 : decode cX5_has 11 = .ok (.iload_n 1, 1) := by decide +kernel
theorem dX5_has_12 : decode cX5_has 12 = .ok (.ifCond .lt 12, 3) := by decide +kernel
theorem dX5_has_15 : decode cX5_has 15 = .ok (.iload_n 1, 1) := by decide +kernel
theorem dX5_has_16 : decode cX5_has 16 = .ok (.iconst 1, 1) := by decide +kernel
theorem dX5_has_17 : decode cX5_has 17 = .ok (.if_icmp .gt 7, 3) := by decide +kernel
theorem dX5_has_20 : decode cX5_has 20 = .ok (.iconst 1, 1) := by decide +kernel
theorem dX5_has_21 : decode cX5_has 21 = .ok (.goto 4, 3) := by decide +kernel
theorem dX5_has_24 : decode cX5_has 24 = .ok (.iconst 0, 1) := by decide +kernel
theorem dX5_has_25 : decode cX5_has 25 = .ok (.ireturn, 1) := by decide +kernel
theorem dX5_fits_0 : decode cX5_fits 0 = .ok (.lload_n 1, 1) := by decide +kernel
theorem dX5_fits_1 : decode cX5_fits 1 = .ok (.getstatic 21, 3) := by decide +kernel
theorem dX5_fits_4 : decode cX5_fits 4 = .ok (.iload_n 0, 1) := by decide +kernel
theorem dX5_fits_5 : decode cX5_fits 5 = .ok (.iaload, 1) := by decide +kernel
theorem dX5_fits_6 : decode cX5_fits 6 = .ok (.i2l, 1) := by decide +kernel
theorem dX5_fits_7 : decode cX5_fits 7 = .ok (.lcmp, 1) := by decide +kernel
theorem dX5_fits_8 : decode cX5_fits 8 = .ok (.ifCond .lt 18, 3) := by decide +kernel
theorem dX5_fits_11 : decode cX5_fits 11 = .ok (.lload_n 1, 1) := by decide +kernel
theorem dX5_fits_12 : decode cX5_fits 12 = .ok (.getstatic 25, 3) := by decide +kernel
theorem dX5_fits_15 : decode cX5_fits 15 = .ok (.iload_n 0, 1) := by decide +kernel
theorem dX5_fits_16 : decode cX5_fits 16 = .ok (.iaload, 1) := by decide +kernel
theorem dX5_fits_17 : decode cX5_fits 17 = .ok (.i2l, 1) := by decide +kernel
theorem dX5_fits_18 : decode cX5_fits 18 = .ok (.lcmp, 1) := by decide +kernel
theorem dX5_fits_19 : decode cX5_fits 19 = .ok (.ifCond .gt 7, 3) := by decide +kernel
theorem dX5_fits_22 : decode cX5_fits 22 = .ok (.iconst 1, 1) := by decide +kernel
theorem dX5_fits_23 : decode cX5_fits 23 = .ok (.goto 4, 3) := by decide +kernel
theorem dX5_fits_26 : decode cX5_fits 26 = .ok (.iconst 0, 1) := by decide +kernel
theorem dX5_fits_27 : decode cX5_fits 27 = .ok (.ireturn, 1) := by decide +kernel
theorem dX5_tell_0 : decode cX5_tell 0 = .ok (.aload_n 0, 1) := by decide +kernel
theorem dX5_tell_1 : decode cX5_tell 1 = .ok (.getfield 11, 3) := by decide +kernel
theorem dX5_tell_4 : decode cX5_tell 4 = .ok (.iload_n 2, 1) := by decide +kernel
theorem dX5_tell_5 : decode cX5_tell 5 = .ok (.aaload, 1) := by decide +kernel
theorem dX5_tell_6 : decode cX5_tell 6 = .ok (.iload_n 1, 1) := by decide +kernel
theorem dX5_tell_7 : decode cX5_tell 7 = .ok (.saload, 1) := by decide +kernel
theorem dX5_tell_8 : decode cX5_tell 8 = .ok (.ifCond .ne 18, 3) := by decide +kernel
theorem dX5_tell_11 : decode cX5_tell 11 = .ok (.aload_n 0, 1) := by decide +kernel
theorem dX5_tell_12 : decode cX5_tell 12 = .ok (.getfield 18, 3) := by decide +kernel
theorem dX5_tell_15 : decode cX5_tell 15 = .ok (.iload_n 2, 1) := by decide +kernel
theorem dX5_tell_16 : decode cX5_tell 16 = .ok (.aaload, 1) := by decide +kernel
theorem dX5_tell_17 : decode cX5_tell 17 = .ok (.iload_n 1, 1) := by decide +kernel
theorem dX5_tell_18 : decode cX5_tell 18 = .ok (.bipush 60, 2) := by decide +kernel
theorem dX5_tell_20 : decode cX5_tell 20 = .ok (.idiv, 1) := by decide +kernel
theorem dX5_tell_21 : decode cX5_tell 21 = .ok (.dup2, 1) := by decide +kernel
theorem dX5_tell_22 : decode cX5_tell 22 = .ok (.iaload, 1) := by decide +kernel
theorem dX5_tell_23 : decode cX5_tell 23 = .ok (.iconst 1, 1) := by decide +kernel
theorem dX5_tell_24 : decode cX5_tell 24 = .ok (.iadd, 1) := by decide +kernel
theorem dX5_tell_25 : decode cX5_tell 25 = .ok (.iastore, 1) := by decide +kernel
theorem dX5_tell_26 : decode cX5_tell 26 = .ok (.aload_n 0, 1) := by decide +kernel
theorem dX5_tell_27 : decode cX5_tell 27 = .ok (.getfield 11, 3) := by decide +kernel
theorem dX5_tell_30 : decode cX5_tell 30 = .ok (.iload_n 2, 1) := by decide +kernel
theorem dX5_tell_31 : decode cX5_tell 31 = .ok (.aaload, 1) := by decide +kernel
theorem dX5_tell_32 : decode cX5_tell 32 = .ok (.iload_n 1, 1) := by decide +kernel
theorem dX5_tell_33 : decode cX5_tell 33 = .ok (.iload_n 3, 1) := by decide +kernel
theorem dX5_tell_34 : decode cX5_tell 34 = .ok (.bipush 41, 2) := by decide +kernel
theorem dX5_tell_36 : decode cX5_tell 36 = .ok (.iadd, 1) := by decide +kernel
theorem dX5_tell_37 : decode cX5_tell 37 = .ok (.i2s, 1) := by decide +kernel
theorem dX5_tell_38 : decode cX5_tell 38 = .ok (.sastore, 1) := by decide +kernel
theorem dX5_tell_39 : decode cX5_tell 39 = .ok (.return_, 1) := by decide +kernel
theorem dX5_on_0 : decode cX5_on 0 = .ok (.iload_n 1, 1) := by decide +kernel
theorem dX5_on_1 : decode cX5_on 1 = .ok (.istore_n 3, 1) := by decide +kernel
theorem dX5_on_2 : decode cX5_on 2 = .ok (.iload_n 3, 1) := by decide +kernel
theorem dX5_on_3 : decode cX5_on 3 = .ok (.ifCond .lt 61, 3) := by decide +kernel
theorem dX5_on_6 : decode cX5_on 6 = .ok (.aload_n 0, 1) := by decide +kernel
theorem dX5_on_7 : decode cX5_on 7 = .ok (.getfield 11, 3) := by decide +kernel
theorem dX5_on_10 : decode cX5_on 10 = .ok (.iload_n 2, 1) := by decide +kernel
theorem dX5_on_11 : decode cX5_on 11 = .ok (.aaload, 1) := by decide +kernel
theorem dX5_on_12 : decode cX5_on 12 = .ok (.iload_n 3, 1) := by decide +kernel
theorem dX5_on_13 : decode cX5_on 13 = .ok (.saload, 1) := by decide +kernel
theorem dX5_on_14 : decode cX5_on 14 = .ok (.ifCond .eq 15, 3) := by decide +kernel
theorem dX5_on_17 : decode cX5_on 17 = .ok (.aload_n 0, 1) := by decide +kernel
theorem dX5_on_18 : decode cX5_on 18 = .ok (.getfield 11, 3) := by decide +kernel
theorem dX5_on_21 : decode cX5_on 21 = .ok (.iload_n 2, 1) := by decide +kernel
theorem dX5_on_22 : decode cX5_on 22 = .ok (.aaload, 1) := by decide +kernel
theorem dX5_on_23 : decode cX5_on 23 = .ok (.iload_n 3, 1) := by decide +kernel
theorem dX5_on_24 : decode cX5_on 24 = .ok (.saload, 1) := by decide +kernel
theorem dX5_on_25 : decode cX5_on 25 = .ok (.bipush 41, 2) := by decide +kernel
theorem dX5_on_27 : decode cX5_on 27 = .ok (.isub, 1) := by decide +kernel
theorem dX5_on_28 : decode cX5_on 28 = .ok (.ireturn, 1) := by decide +kernel
theorem dX5_on_29 : decode cX5_on 29 = .ok (.iload_n 3, 1) := by decide +kernel
theorem dX5_on_30 : decode cX5_on 30 = .ok (.bipush 60, 2) := by decide +kernel
theorem dX5_on_32 : decode cX5_on 32 = .ok (.idiv, 1) := by decide +kernel
theorem dX5_on_33 : decode cX5_on 33 = .ok (.istore 4, 2) := by decide +kernel
theorem dX5_on_35 : decode cX5_on 35 = .ok (.aload_n 0, 1) := by decide +kernel
theorem dX5_on_36 : decode cX5_on 36 = .ok (.getfield 18, 3) := by decide +kernel
theorem dX5_on_39 : decode cX5_on 39 = .ok (.iload_n 2, 1) := by decide +kernel
theorem dX5_on_40 : decode cX5_on 40 = .ok (.aaload, 1) := by decide +kernel
theorem dX5_on_41 : decode cX5_on 41 = .ok (.iload 4, 2) := by decide +kernel
theorem dX5_on_43 : decode cX5_on 43 = .ok (.iaload, 1) := by decide +kernel
theorem dX5_on_44 : decode cX5_on 44 = .ok (.ifCond .ne 13, 3) := by decide +kernel
theorem dX5_on_47 : decode cX5_on 47 = .ok (.iload 4, 2) := by decide +kernel
theorem dX5_on_49 : decode cX5_on 49 = .ok (.bipush 60, 2) := by decide +kernel
theorem dX5_on_51 : decode cX5_on 51 = .ok (.imul, 1) := by decide +kernel
theorem dX5_on_52 : decode cX5_on 52 = .ok (.iconst 1, 1) := by decide +kernel
theorem dX5_on_53 : decode cX5_on 53 = .ok (.isub, 1) := by decide +kernel
theorem dX5_on_54 : decode cX5_on 54 = .ok (.goto 6, 3) := by decide +kernel
theorem dX5_on_57 : decode cX5_on 57 = .ok (.iload_n 3, 1) := by decide +kernel
theorem dX5_on_58 : decode cX5_on 58 = .ok (.iconst 1, 1) := by decide +kernel
theorem dX5_on_59 : decode cX5_on 59 = .ok (.isub, 1) := by decide +kernel
theorem dX5_on_60 : decode cX5_on 60 = .ok (.istore_n 3, 1) := by decide +kernel
theorem dX5_on_61 : decode cX5_on 61 = .ok (.goto (-59), 3) := by decide +kernel
theorem dX5_on_64 : decode cX5_on 64 = .ok (.getstatic 28, 3) := by decide +kernel
theorem dX5_on_67 : decode cX5_on 67 = .ok (.iload_n 2, 1) := by decide +kernel
theorem dX5_on_68 : decode cX5_on 68 = .ok (.iaload, 1) := by decide +kernel
theorem dX5_on_69 : decode cX5_on 69 = .ok (.ireturn, 1) := by decide +kernel
theorem dX6_init_0 : decode cX6_init 0 = .ok (.aload_n 0, 1) := by decide +kernel
theorem dX6_init_1 : decode cX6_init 1 = .ok (.invokespecial 3, 3) := by decide +kernel
theorem dX6_init_4 : decode cX6_init 4 = .ok (.aload_n 0, 1) := by decide +kernel
theorem dX6_init_5 : decode cX6_init 5 = .ok (.bipush 7, 2) := by decide +kernel
theorem dX6_init_7 : decode cX6_init 7 = .ok (.newarray .int, 2) := by decide +kernel
theorem dX6_init_9 : decode cX6_init 9 = .ok (.putfield 9, 3) := by decide +kernel
theorem dX6_init_12 : decode cX6_init 12 = .ok (.aload_n 0, 1) := by decide +kernel
theorem dX6_init_13 : decode cX6_init 13 = .ok (.bipush 7, 2) := by decide +kernel
theorem dX6_init_15 : decode cX6_init 15 = .ok (.newarray .boolean, 2) := by decide +kernel
theorem dX6_init_17 : decode cX6_init 17 = .ok (.putfield 15, 3) := by decide +kernel
theorem dX6_init_20 : decode cX6_init 20 = .ok (.return_, 1) := by decide +kernel
theorem dX6_bears_0 : decode cX6_bears 0 = .ok (.bipush 40, 2) := by decide +kernel
theorem dX6_bears_2 : decode cX6_bears 2 = .ok (.iload_n 1, 1) := by decide +kernel
theorem dX6_bears_3 : decode cX6_bears 3 = .ok (.iconst 5, 1) := by decide +kernel
theorem dX6_bears_4 : decode cX6_bears 4 = .ok (.idiv, 1) := by decide +kernel
theorem dX6_bears_5 : decode cX6_bears 5 = .ok (.iadd, 1) := by decide +kernel
theorem dX6_bears_6 : decode cX6_bears 6 = .ok (.aload_n 0, 1) := by decide +kernel
theorem dX6_bears_7 : decode cX6_bears 7 = .ok (.getfield 19, 3) := by decide +kernel
theorem dX6_bears_10 : decode cX6_bears 10 = .ok (.ifCond .eq 8, 3) := by decide +kernel
theorem dX6_bears_13 : decode cX6_bears 13 = .ok (.bipush 30, 2) := by decide +kernel
theorem dX6_bears_15 : decode cX6_bears 15 = .ok (.goto 4, 3) := by decide +kernel
theorem dX6_bears_18 : decode cX6_bears 18 = .ok (.iconst 0, 1) := by decide +kernel
theorem dX6_bears_19 : decode cX6_bears 19 = .ok (.iadd, 1) := by decide +kernel
theorem dX6_bears_20 : decode cX6_bears 20 = .ok (.ireturn, 1) := by decide +kernel
theorem dX6_layerOf_0 : decode cX6_layerOf 0 = .ok (.aload_n 0, 1) := by decide +kernel
theorem dX6_layerOf_1 : decode cX6_layerOf 1 = .ok (.getfield 15, 3) := by decide +kernel
theorem dX6_layerOf_4 : decode cX6_layerOf 4 = .ok (.iload_n 1, 1) := by decide +kernel
theorem dX6_layerOf_5 : decode cX6_layerOf 5 = .ok (.baload, 1) := by decide +kernel
theorem dX6_layerOf_6 : decode cX6_layerOf 6 = .ok (.ifCond .eq 13, 3) := by decide +kernel
theorem dX6_layerOf_9 : decode cX6_layerOf 9 = .ok (.aload_n 0, 1) := by decide +kernel
theorem dX6_layerOf_10 : decode cX6_layerOf 10 = .ok (.getfield 9, 3) := by decide +kernel
theorem dX6_layerOf_13 : decode cX6_layerOf 13 = .ok (.iload_n 1, 1) := by decide +kernel
theorem dX6_layerOf_14 : decode cX6_layerOf 14 = .ok (.iaload, 1) := by decide +kernel
theorem dX6_layerOf_15 : decode cX6_layerOf 15 = .ok (.ineg, 1) := by decide +kernel
theorem dX6_layerOf_16 : decode cX6_layerOf 16 = .ok (.goto 9, 3) := by decide +kernel
theorem dX6_layerOf_19 : decode cX6_layerOf 19 = .ok (.aload_n 0, 1) := by decide +kernel
theorem dX6_layerOf_20 : decode cX6_layerOf 20 = .ok (.getfield 9, 3) := by decide +kernel
theorem dX6_layerOf_23 : decode cX6_layerOf 23 = .ok (.iload_n 1, 1) := by decide +kernel
theorem dX6_layerOf_24 : decode cX6_layerOf 24 = .ok (.iaload, 1) := by decide +kernel
theorem dX6_layerOf_25 : decode cX6_layerOf 25 = .ok (.ireturn, 1) := by decide +kernel
theorem dX6_lyingFrom_0 : decode cX6_lyingFrom 0 = .ok (.iconst 0, 1) := by decide +kernel
theorem dX6_lyingFrom_1 : decode cX6_lyingFrom 1 = .ok (.istore_n 2, 1) := by decide +kernel
theorem dX6_lyingFrom_2 : decode cX6_lyingFrom 2 = .ok (.iload_n 1, 1) := by decide +kernel
theorem dX6_lyingFrom_3 : decode cX6_lyingFrom 3 = .ok (.istore_n 3, 1) := by decide +kernel
theorem dX6_lyingFrom_4 : decode cX6_lyingFrom 4 = .ok (.iload_n 3, 1) := by decide +kernel
theorem dX6_lyingFrom_5 : decode cX6_lyingFrom 5 = .ok (.aload_n 0, 1) := by decide +kernel
theorem dX6_lyingFrom_6 : decode cX6_lyingFrom 6 = .ok (.getfield 23, 3) := by decide +kernel
theorem dX6_lyingFrom_9 : decode cX6_lyingFrom 9 = .ok (.if_icmp .ge 18, 3) := by decide +kernel
theorem dX6_lyingFrom_12 : decode cX6_lyingFrom 12 = .ok (.iload_n 2, 1) := by decide +kernel
theorem dX6_lyingFrom_13 : decode cX6_lyingFrom 13 = .ok (.aload_n 0, 1) := by decide +kernel
theorem dX6_lyingFrom_14 : decode cX6_lyingFrom 14 = .ok (.getfield 9, 3) := by decide +kernel
theorem dX6_lyingFrom_17 : decode cX6_lyingFrom 17 = .ok (.iload_n 3, 1) := by decide +kernel
theorem dX6_lyingFrom_18 : decode cX6_lyingFrom 18 = .ok (.iaload, 1) := by decide +kernel
theorem dX6_lyingFrom_19 : decode cX6_lyingFrom 19 = .ok (.iadd, 1) := by decide +kernel
theorem dX6_lyingFrom_20 : decode cX6_lyingFrom 20 = .ok (.istore_n 2, 1) := by decide +kernel
theorem dX6_lyingFrom_21 : decode cX6_lyingFrom 21 = .ok (.iinc 3 1, 3) := by decide +kernel
theorem dX6_lyingFrom_24 : decode cX6_lyingFrom 24 = .ok (.goto (-20), 3) := by decide +kernel
theorem dX6_lyingFrom_27 : decode cX6_lyingFrom 27 = .ok (.iload_n 2, 1) := by decide +kernel
theorem dX6_lyingFrom_28 : decode cX6_lyingFrom 28 = .ok (.ireturn, 1) := by decide +kernel
theorem dX6_lowestSoft_0 : decode cX6_lowestSoft 0 = .ok (.iconst 0, 1) := by decide +kernel
theorem dX6_lowestSoft_1 : decode cX6_lowestSoft 1 = .ok (.istore_n 1, 1) := by decide +kernel
theorem dX6_lowestSoft_2 : decode cX6_lowestSoft 2 = .ok (.iload_n 1, 1) := by decide +kernel
theorem dX6_lowestSoft_3 : decode cX6_lowestSoft 3 = .ok (.aload_n 0, 1) := by decide +kernel
theorem dX6_lowestSoft_4 : decode cX6_lowestSoft 4 = .ok (.getfield 23, 3) := by decide +kernel
theorem dX6_lowestSoft_7 : decode cX6_lowestSoft 7 = .ok (.if_icmp .ge 18, 3) := by decide +kernel
theorem dX6_lowestSoft_10 : decode cX6_lowestSoft 10 = .ok (.aload_n 0, 1) := by decide +kernel
theorem dX6_lowestSoft_11 : decode cX6_lowestSoft 11 = .ok (.getfield 15, 3) := by decide +kernel
theorem dX6_lowestSoft_14 : decode cX6_lowestSoft 14 = .ok (.iload_n 1, 1) := by decide +kernel
theorem dX6_lowestSoft_15 : decode cX6_lowestSoft 15 = .ok (.baload, 1) := by decide +kernel
theorem dX6_lowestSoft_16 : decode cX6_lowestSoft 16 = .ok (.ifCond .ne 9, 3) := by decide +kernel
theorem dX6_lowestSoft_19 : decode cX6_lowestSoft 19 = .ok (.iinc 1 1, 3) := by decide +kernel
theorem dX6_lowestSoft_22 : decode cX6_lowestSoft 22 = .ok (.goto (-20), 3) := by decide +kernel
theorem dX6_lowestSoft_25 : decode cX6_lowestSoft 25 = .ok (.iload_n 1, 1) := by decide +kernel
theorem dX6_lowestSoft_26 : decode cX6_lowestSoft 26 = .ok (.ireturn, 1) := by decide +kernel
theorem dX6_risk_0 : decode cX6_risk 0 = .ok (.aload_n 0, 1) := by decide +kernel
theorem dX6_risk_1 : decode cX6_risk 1 = .ok (.aload_n 0, 1) := by decide +kernel
theorem dX6_risk_2 : decode cX6_risk 2 = .ok (.invokevirtual 27, 3) := by decide +kernel
theorem dX6_risk_5 : decode cX6_risk 5 = .ok (.iconst 1, 1) := by decide +kernel
theorem dX6_risk_6 : decode cX6_risk 6 = .ok (.iadd, 1) := by decide +kernel
theorem dX6_risk_7 : decode cX6_risk 7 = .ok (.invokevirtual 31, 3) := by decide +kernel
theorem dX6_risk_10 : decode cX6_risk 10 = .ok (.bipush 100, 2) := by decide +kernel
theorem dX6_risk_12 : decode cX6_risk 12 = .ok (.imul, 1) := by decide +kernel
theorem dX6_risk_13 : decode cX6_risk 13 = .ok (.aload_n 0, 1) := by decide +kernel
theorem dX6_risk_14 : decode cX6_risk 14 = .ok (.iload_n 1, 1) := by decide +kernel
theorem dX6_risk_15 : decode cX6_risk 15 = .ok (.invokevirtual 35, 3) := by decide +kernel
theorem dX6_risk_18 : decode cX6_risk 18 = .ok (.idiv, 1) := by decide +kernel
theorem dX6_risk_19 : decode cX6_risk 19 = .ok (.ireturn, 1) := by decide +kernel
theorem dX6_live_0 : decode cX6_live 0 = .ok (.iload_n 1, 1) := by decide +kernel
theorem dX6_live_1 : decode cX6_live 1 = .ok (.iconst 2, 1) := by decide +kernel
theorem dX6_live_2 : decode cX6_live 2 = .ok (.if_icmp .le 13, 3) := by decide +kernel
theorem dX6_live_5 : decode cX6_live 5 = .ok (.aload_n 0, 1) := by decide +kernel
theorem dX6_live_6 : decode cX6_live 6 = .ok (.iconst 3, 1) := by decide +kernel
theorem dX6_live_7 : decode cX6_live 7 = .ok (.iload_n 1, 1) := by decide +kernel
theorem dX6_live_8 : decode cX6_live 8 = .ok (.imul, 1) := by decide +kernel
theorem dX6_live_9 : decode cX6_live 9 = .ok (.invokevirtual 38, 3) := by decide +kernel
theorem dX6_live_12 : decode cX6_live 12 = .ok (.goto 23, 3) := by decide +kernel
theorem dX6_live_15 : decode cX6_live 15 = .ok (.iload_n 2, 1) := by decide +kernel
theorem dX6_live_16 : decode cX6_live 16 = .ok (.ifCond .le 19, 3) := by decide +kernel
theorem dX6_live_19 : decode cX6_live 19 = .ok (.aload_n 0, 1) := by decide +kernel
theorem dX6_live_20 : decode cX6_live 20 = .ok (.iload_n 2, 1) := by decide +kernel
theorem dX6_live_21 : decode cX6_live 21 = .ok (.iload_n 1, 1) := by decide +kernel
theorem dX6_live_22 : decode cX6_live 22 = .ok (.bipush (-5), 2) := by decide +kernel
theorem dX6_live_24 : decode cX6_live 24 = .ok (.if_icmp .le 7, 3) := by decide +kernel
theorem dX6_live_27 : decode cX6_live 27 = .ok (.iconst 1, 1) := by decide +kernel
theorem dX6_live_28 : decode cX6_live 28 = .ok (.goto 4, 3) := by decide +kernel
theorem dX6_live_31 : decode cX6_live 31 = .ok (.iconst 0, 1) := by decide +kernel
theorem dX6_live_32 : decode cX6_live 32 = .ok (.invokevirtual 42, 3) := by decide +kernel
theorem dX6_live_35 : decode cX6_live 35 = .ok (.aload_n 0, 1) := by decide +kernel
theorem dX6_live_36 : decode cX6_live 36 = .ok (.invokevirtual 27, 3) := by decide +kernel
theorem dX6_live_39 : decode cX6_live 39 = .ok (.istore_n 3, 1) := by decide +kernel
theorem dX6_live_40 : decode cX6_live 40 = .ok (.aload_n 0, 1) := by decide +kernel
theorem dX6_live_41 : decode cX6_live 41 = .ok (.iload_n 3, 1) := by decide +kernel
theorem dX6_live_42 : decode cX6_live 42 = .ok (.iconst 1, 1) := by decide +kernel
theorem dX6_live_43 : decode cX6_live 43 = .ok (.iadd, 1) := by decide +kernel
theorem dX6_live_44 : decode cX6_live 44 = .ok (.invokevirtual 31, 3) := by decide +kernel
theorem dX6_live_47 : decode cX6_live 47 = .ok (.aload_n 0, 1) := by decide +kernel
theorem dX6_live_48 : decode cX6_live 48 = .ok (.aload_n 0, 1) := by decide +kernel
theorem dX6_live_49 : decode cX6_live 49 = .ok (.getfield 46, 3) := by decide +kernel
theorem dX6_live_52 : decode cX6_live 52 = .ok (.invokevirtual 35, 3) := by decide +kernel
theorem dX6_live_55 : decode cX6_live 55 = .ok (.if_icmp .ge 5, 3) := by decide +kernel
theorem dX6_live_58 : decode cX6_live 58 = .ok (.iconst 0, 1) := by decide +kernel
theorem dX6_live_59 : decode cX6_live 59 = .ok (.ireturn, 1) := by decide +kernel
theorem dX6_live_60 : decode cX6_live 60 = .ok (.aload_n 0, 1) := by decide +kernel
theorem dX6_live_61 : decode cX6_live 61 = .ok (.iload_n 3, 1) := by decide +kernel
theorem dX6_live_62 : decode cX6_live 62 = .ok (.putfield 23, 3) := by decide +kernel
theorem dX6_live_65 : decode cX6_live 65 = .ok (.aload_n 0, 1) := by decide +kernel
theorem dX6_live_66 : decode cX6_live 66 = .ok (.getfield 46, 3) := by decide +kernel
theorem dX6_live_69 : decode cX6_live 69 = .ok (.bipush 40, 2) := by decide +kernel
theorem dX6_live_71 : decode cX6_live 71 = .ok (.if_icmp .ge 8, 3) := by decide +kernel
theorem dX6_live_74 : decode cX6_live 74 = .ok (.aload_n 0, 1) := by decide +kernel
theorem dX6_live_75 : decode cX6_live 75 = .ok (.iconst 0, 1) := by decide +kernel
theorem dX6_live_76 : decode cX6_live 76 = .ok (.putfield 46, 3) := by decide +kernel
theorem dX6_live_79 : decode cX6_live 79 = .ok (.aload_n 0, 1) := by decide +kernel
theorem dX6_live_80 : decode cX6_live 80 = .ok (.dup, 1) := by decide +kernel
theorem dX6_live_81 : decode cX6_live 81 = .ok (.getfield 49, 3) := by decide +kernel
theorem dX6_live_84 : decode cX6_live 84 = .ok (.iconst 1, 1) := by decide +kernel
theorem dX6_live_85 : decode cX6_live 85 = .ok (.iadd, 1) := by decide +kernel
theorem dX6_live_86 : decode cX6_live 86 = .ok (.putfield 49, 3) := by decide +kernel
theorem dX6_live_89 : decode cX6_live 89 = .ok (.iconst 1, 1) := by decide +kernel
theorem dX6_live_90 : decode cX6_live 90 = .ok (.ireturn, 1) := by decide +kernel
theorem dX6_melt_0 : decode cX6_melt 0 = .ok (.aload_n 0, 1) := by decide +kernel
theorem dX6_melt_1 : decode cX6_melt 1 = .ok (.getfield 23, 3) := by decide +kernel
theorem dX6_melt_4 : decode cX6_melt 4 = .ok (.ifCond .ne 4, 3) := by decide +kernel
theorem dX6_melt_7 : decode cX6_melt 7 = .ok (.return_, 1) := by decide +kernel
theorem dX6_melt_8 : decode cX6_melt 8 = .ok (.aload_n 0, 1) := by decide +kernel
theorem dX6_melt_9 : decode cX6_melt 9 = .ok (.getfield 23, 3) := by decide +kernel
theorem dX6_melt_12 : decode cX6_melt 12 = .ok (.iconst 1, 1) := by decide +kernel
theorem dX6_melt_13 : decode cX6_melt 13 = .ok (.isub, 1) := by decide +kernel
theorem dX6_melt_14 : decode cX6_melt 14 = .ok (.istore_n 2, 1) := by decide +kernel
theorem dX6_melt_15 : decode cX6_melt 15 = .ok (.aload_n 0, 1) := by decide +kernel
theorem dX6_melt_16 : decode cX6_melt 16 = .ok (.getfield 9, 3) := by decide +kernel
theorem dX6_melt_19 : decode cX6_melt 19 = .ok (.iload_n 2, 1) := by decide +kernel
theorem dX6_melt_20 : decode cX6_melt 20 = .ok (.iaload, 1) := by decide +kernel
theorem dX6_melt_21 : decode cX6_melt 21 = .ok (.iload_n 1, 1) := by decide +kernel
theorem dX6_melt_22 : decode cX6_melt 22 = .ok (.if_icmp .le 16, 3) := by decide +kernel
theorem dX6_melt_25 : decode cX6_melt 25 = .ok (.aload_n 0, 1) := by decide +kernel
theorem dX6_melt_26 : decode cX6_melt 26 = .ok (.getfield 9, 3) := by decide +kernel
theorem dX6_melt_29 : decode cX6_melt 29 = .ok (.iload_n 2, 1) := by decide +kernel
theorem dX6_melt_30 : decode cX6_melt 30 = .ok (.dup2, 1) := by decide +kernel
theorem dX6_melt_31 : decode cX6_melt 31 = .ok (.iaload, 1) := by decide +kernel
theorem dX6_melt_32 : decode cX6_melt 32 = .ok (.iload_n 1, 1) := by decide +kernel
theorem dX6_melt_33 : decode cX6_melt 33 = .ok (.isub, 1) := by decide +kernel
theorem dX6_melt_34 : decode cX6_melt 34 = .ok (.iastore, 1) := by decide +kernel
theorem dX6_melt_35 : decode cX6_melt 35 = .ok (.goto 8, 3) := by decide +kernel
theorem dX6_melt_38 : decode cX6_melt 38 = .ok (.aload_n 0, 1) := by decide +kernel
theorem dX6_melt_39 : decode cX6_melt 39 = .ok (.iload_n 2, 1) := by decide +kernel
theorem dX6_melt_40 : decode cX6_melt 40 = .ok (.putfield 23, 3) := by decide +kernel
theorem dX6_melt_43 : decode cX6_melt 43 = .ok (.return_, 1) := by decide +kernel
theorem dX6_addLayer_0 : decode cX6_addLayer 0 = .ok (.aload_n 0, 1) := by decide +kernel
theorem dX6_addLayer_1 : decode cX6_addLayer 1 = .ok (.getfield 9, 3) := by decide +kernel
theorem dX6_addLayer_4 : decode cX6_addLayer 4 = .ok (.aload_n 0, 1) := by decide +kernel
theorem dX6_addLayer_5 : decode cX6_addLayer 5 = .ok (.getfield 23, 3) := by decide +kernel
theorem dX6_addLayer_8 : decode cX6_addLayer 8 = .ok (.iload_n 1, 1) := by decide +kernel
theorem dX6_addLayer_9 : decode cX6_addLayer 9 = .ok (.iastore, 1) := by decide +kernel
theorem dX6_addLayer_10 : decode cX6_addLayer 10 = .ok (.aload_n 0, 1) := by decide +kernel
theorem dX6_addLayer_11 : decode cX6_addLayer 11 = .ok (.getfield 15, 3) := by decide +kernel
theorem dX6_addLayer_14 : decode cX6_addLayer 14 = .ok (.aload_n 0, 1) := by decide +kernel
theorem dX6_addLayer_15 : decode cX6_addLayer 15 = .ok (.getfield 23, 3) := by decide +kernel
theorem dX6_addLayer_18 : decode cX6_addLayer 18 = .ok (.iload_n 2, 1) := by decide +kernel
theorem dX6_addLayer_19 : decode cX6_addLayer 19 = .ok (.bastore, 1) := by decide +kernel
theorem dX6_addLayer_20 : decode cX6_addLayer 20 = .ok (.aload_n 0, 1) := by decide +kernel
theorem dX6_addLayer_21 : decode cX6_addLayer 21 = .ok (.dup, 1) := by decide +kernel
theorem dX6_addLayer_22 : decode cX6_addLayer 22 = .ok (.getfield 23, 3) := by decide +kernel
theorem dX6_addLayer_25 : decode cX6_addLayer 25 = .ok (.iconst 1, 1) := by decide +kernel
theorem dX6_addLayer_26 : decode cX6_addLayer 26 = .ok (.iadd, 1) := by decide +kernel
theorem dX6_addLayer_27 : decode cX6_addLayer 27 = .ok (.putfield 23, 3) := by decide +kernel
theorem dX6_addLayer_30 : decode cX6_addLayer 30 = .ok (.aload_n 0, 1) := by decide +kernel
theorem dX6_addLayer_31 : decode cX6_addLayer 31 = .ok (.getfield 23, 3) := by decide +kernel
theorem dX6_addLayer_34 : decode cX6_addLayer 34 = .ok (.bipush 6, 2) := by decide +kernel
theorem dX6_addLayer_36 : decode cX6_addLayer 36 = .ok (.if_icmp .le 7, 3) := by decide +kernel
theorem dX6_addLayer_39 : decode cX6_addLayer 39 = .ok (.aload_n 0, 1) := by decide +kernel
theorem dX6_addLayer_40 : decode cX6_addLayer 40 = .ok (.invokevirtual 52, 3) := by decide +kernel
theorem dX6_addLayer_43 : decode cX6_addLayer 43 = .ok (.return_, 1) := by decide +kernel
theorem dX6_joinLowest_0 : decode cX6_joinLowest 0 = .ok (.aload_n 0, 1) := by decide +kernel
theorem dX6_joinLowest_1 : decode cX6_joinLowest 1 = .ok (.getfield 9, 3) := by decide +kernel
theorem dX6_joinLowest_4 : decode cX6_joinLowest 4 = .ok (.iconst 1, 1) := by decide +kernel
theorem dX6_joinLowest_5 : decode cX6_joinLowest 5 = .ok (.dup2, 1) := by decide +kernel
theorem dX6_joinLowest_6 : decode cX6_joinLowest 6 = .ok (.iaload, 1) := by decide +kernel
theorem dX6_joinLowest_7 : decode cX6_joinLowest 7 = .ok (.aload_n 0, 1) := by decide +kernel
theorem dX6_joinLowest_8 : decode cX6_joinLowest 8 = .ok (.getfield 9, 3) := by decide +kernel
theorem dX6_joinLowest_11 : decode cX6_joinLowest 11 = .ok (.iconst 0, 1) := by decide +kernel
theorem dX6_joinLowest_12 : decode cX6_joinLowest 12 = .ok (.iaload, 1) := by decide +kernel
theorem dX6_joinLowest_13 : decode cX6_joinLowest 13 = .ok (.iadd, 1) := by decide +kernel
theorem dX6_joinLowest_14 : decode cX6_joinLowest 14 = .ok (.iastore, 1) := by decide +kernel
theorem dX6_joinLowest_15 : decode cX6_joinLowest 15 = .ok (.aload_n 0, 1) := by decide +kernel
theorem dX6_joinLowest_16 : decode cX6_joinLowest 16 = .ok (.getfield 15, 3) := by decide +kernel
theorem dX6_joinLowest_19 : decode cX6_joinLowest 19 = .ok (.iconst 1, 1) := by decide +kernel
theorem dX6_joinLowest_20 : decode cX6_joinLowest 20 = .ok (.aload_n 0, 1) := by decide +kernel
theorem dX6_joinLowest_21 : decode cX6_joinLowest 21 = .ok (.getfield 15, 3) := by decide +kernel
theorem dX6_joinLowest_24 : decode cX6_joinLowest 24 = .ok (.iconst 1, 1) := by decide +kernel
theorem dX6_joinLowest_25 : decode cX6_joinLowest 25 = .ok (.baload, 1) := by decide +kernel
theorem dX6_joinLowest_26 : decode cX6_joinLowest 26 = .ok (.ifCond .ne 12, 3) := by decide +kernel
theorem dX6_joinLowest_29 : decode cX6_joinLowest 29 = .ok (.aload_n 0, 1) := by decide +kernel
theorem dX6_joinLowest_30 : decode cX6_joinLowest 30 = .ok (.getfield 15, 3) := by decide +kernel
theorem dX6_joinLowest_33 : decode cX6_joinLowest 33 = .ok (.iconst 0, 1) := by decide +kernel
theorem dX6_joinLowest_34 : decode cX6_joinLowest 34 = .ok (.baload, 1) := by decide +kernel
theorem dX6_joinLowest_35 : decode cX6_joinLowest 35 = .ok (.ifCond .eq 7, 3) := by decide +kernel
theorem dX6_joinLowest_38 : decode cX6_joinLowest 38 = .ok (.iconst 1, 1) := by decide +kernel
theorem dX6_joinLowest_39 : decode cX6_joinLowest 39 = .ok (.goto 4, 3) := by decide +kernel
theorem dX6_joinLowest_42 : decode cX6_joinLowest 42 = .ok (.iconst 0, 1) := by decide +kernel
theorem dX6_joinLowest_43 : decode cX6_joinLowest 43 = .ok (.bastore, 1) := by decide +kernel
theorem dX6_joinLowest_44 : decode cX6_joinLowest 44 = .ok (.aload_n 0, 1) := by decide +kernel
theorem dX6_joinLowest_45 : decode cX6_joinLowest 45 = .ok (.dup, 1) := by decide +kernel
theorem dX6_joinLowest_46 : decode cX6_joinLowest 46 = .ok (.getfield 23, 3) := by decide +kernel
theorem dX6_joinLowest_49 : decode cX6_joinLowest 49 = .ok (.iconst 1, 1) := by decide +kernel
theorem dX6_joinLowest_50 : decode cX6_joinLowest 50 = .ok (.isub, 1) := by decide +kernel
theorem dX6_joinLowest_51 : decode cX6_joinLowest 51 = .ok (.putfield 23, 3) := by decide +kernel
theorem dX6_joinLowest_54 : decode cX6_joinLowest 54 = .ok (.iconst 0, 1) := by decide +kernel
theorem dX6_joinLowest_55 : decode cX6_joinLowest 55 = .ok (.istore_n 1, 1) := by decide +kernel
theorem dX6_joinLowest_56 : decode cX6_joinLowest 56 = .ok (.iload_n 1, 1) := by decide +kernel
theorem dX6_joinLowest_57 : decode cX6_joinLowest 57 = .ok (.aload_n 0, 1) := by decide +kernel
theorem dX6_joinLowest_58 : decode cX6_joinLowest 58 = .ok (.getfield 23, 3) := by decide +kernel
theorem dX6_joinLowest_61 : decode cX6_joinLowest 61 = .ok (.if_icmp .ge 37, 3) := by decide +kernel
theorem dX6_joinLowest_64 : decode cX6_joinLowest 64 = .ok (.aload_n 0, 1) := by decide +kernel
theorem dX6_joinLowest_65 : decode cX6_joinLowest 65 = .ok (.getfield 9, 3) := by decide +kernel
theorem dX6_joinLowest_68 : decode cX6_joinLowest 68 = .ok (.iload_n 1, 1) := by decide +kernel
theorem dX6_joinLowest_69 : decode cX6_joinLowest 69 = .ok (.aload_n 0, 1) := by decide +kernel
theorem dX6_joinLowest_70 : decode cX6_joinLowest 70 = .ok (.getfield 9, 3) := by decide +kernel
theorem dX6_joinLowest_73 : decode cX6_joinLowest 73 = .ok (.iload_n 1, 1) := by decide +kernel
theorem dX6_joinLowest_74 : decode cX6_joinLowest 74 = .ok (.iconst 1, 1) := by decide +kernel
theorem dX6_joinLowest_75 : decode cX6_joinLowest 75 = .ok (.iadd, 1) := by decide +kernel
theorem dX6_joinLowest_76 : decode cX6_joinLowest 76 = .ok (.iaload, 1) := by decide +kernel
theorem dX6_joinLowest_77 : decode cX6_joinLowest 77 = .ok (.iastore, 1) := by decide +kernel
theorem dX6_joinLowest_78 : decode cX6_joinLowest 78 = .ok (.aload_n 0, 1) := by decide +kernel
theorem dX6_joinLowest_79 : decode cX6_joinLowest 79 = .ok (.getfield 15, 3) := by decide +kernel
theorem dX6_joinLowest_82 : decode cX6_joinLowest 82 = .ok (.iload_n 1, 1) := by decide +kernel
theorem dX6_joinLowest_83 : decode cX6_joinLowest 83 = .ok (.aload_n 0, 1) := by decide +kernel
theorem dX6_joinLowest_84 : decode cX6_joinLowest 84 = .ok (.getfield 15, 3) := by decide +kernel
theorem dX6_joinLowest_87 : decode cX6_joinLowest 87 = .ok (.iload_n 1, 1) := by decide +kernel
theorem dX6_joinLowest_88 : decode cX6_joinLowest 88 = .ok (.iconst 1, 1) := by decide +kernel
theorem dX6_joinLowest_89 : decode cX6_joinLowest 89 = .ok (.iadd, 1) := by decide +kernel
theorem dX6_joinLowest_90 : decode cX6_joinLowest 90 = .ok (.baload, 1) := by decide +kernel
theorem dX6_joinLowest_91 : decode cX6_joinLowest 91 = .ok (.bastore, 1) := by decide +kernel
theorem dX6_joinLowest_92 : decode cX6_joinLowest 92 = .ok (.iinc 1 1, 3) := by decide +kernel
theorem dX6_joinLowest_95 : decode cX6_joinLowest 95 = .ok (.goto (-39), 3) := by decide +kernel
theorem dX6_joinLowest_98 : decode cX6_joinLowest 98 = .ok (.return_, 1) := by decide +kernel
theorem dX7_init_0 : decode cX7_init 0 = .ok (.aload_n 0, 1) := by decide +kernel
theorem dX7_init_1 : decode cX7_init 1 = .ok (.invokespecial 3, 3) := by decide +kernel
theorem dX7_init_4 : decode cX7_init 4 = .ok (.aload_n 0, 1) := by decide +kernel
theorem dX7_init_5 : decode cX7_init 5 = .ok (.bipush 6, 2) := by decide +kernel
theorem dX7_init_7 : decode cX7_init 7 = .ok (.anewarray 9, 3) := by decide +kernel
theorem dX7_init_10 : decode cX7_init 10 = .ok (.putfield 11, 3) := by decide +kernel
theorem dX7_init_13 : decode cX7_init 13 = .ok (.iconst 0, 1) := by decide +kernel
theorem dX7_init_14 : decode cX7_init 14 = .ok (.istore_n 1, 1) := by decide +kernel
theorem dX7_init_15 : decode cX7_init 15 = .ok (.iload_n 1, 1) := by decide +kernel
theorem dX7_init_16 : decode cX7_init 16 = .ok (.bipush 6, 2) := by decide +kernel
theorem dX7_init_18 : decode cX7_init 18 = .ok (.if_icmp .ge 22, 3) := by decide +kernel
theorem dX7_init_21 : decode cX7_init 21 = .ok (.aload_n 0, 1) := by decide +kernel
theorem dX7_init_22 : decode cX7_init 22 = .ok (.getfield 11, 3) := by decide +kernel
theorem dX7_init_25 : decode cX7_init 25 = .ok (.iload_n 1, 1) := by decide +kernel
theorem dX7_init_26 : decode cX7_init 26 = .ok (.new 9, 3) := by decide +kernel
theorem dX7_init_29 : decode cX7_init 29 = .ok (.dup, 1) := by decide +kernel
theorem dX7_init_30 : decode cX7_init 30 = .ok (.invokespecial 17, 3) := by decide +kernel
theorem dX7_init_33 : decode cX7_init 33 = .ok (.aastore, 1) := by decide +kernel
theorem dX7_init_34 : decode cX7_init 34 = .ok (.iinc 1 1, 3) := by decide +kernel
theorem dX7_init_37 : decode cX7_init 37 = .ok (.goto (-22), 3) := by decide +kernel
theorem dX7_init_40 : decode cX7_init 40 = .ok (.return_, 1) := by decide +kernel
theorem dX7_has_0 : decode cX7_has 0 = .ok (.iload_n 1, 1) := by decide +kernel
theorem dX7_has_1 : decode cX7_has 1 = .ok (.ifCond .lt 15, 3) := by decide +kernel
theorem dX7_has_4 : decode cX7_has 4 = .ok (.iload_n 1, 1) := by decide +kernel
theorem dX7_has_5 : decode cX7_has 5 = .ok (.aload_n 0, 1) := by decide +kernel
theorem dX7_has_6 : decode cX7_has 6 = .ok (.getfield 18, 3) := by decide +kernel
theorem dX7_has_9 : decode cX7_has 9 = .ok (.if_icmp .ge 7, 3) := by decide +kernel
theorem dX7_has_12 : decode cX7_has 12 = .ok (.iconst 1, 1) := by decide +kernel
theorem dX7_has_13 : decode cX7_has 13 = .ok (.goto 4, 3) := by decide +kernel
theorem dX7_has_16 : decode cX7_has 16 = .ok (.iconst 0, 1) := by decide +kernel
theorem dX7_has_17 : decode cX7_has 17 = .ok (.ireturn, 1) := by decide +kernel
theorem dX7_live_0 : decode cX7_live 0 = .ok (.iconst 0, 1) := by decide +kernel
theorem dX7_live_1 : decode cX7_live 1 = .ok (.istore_n 3, 1) := by decide +kernel
theorem dX7_live_2 : decode cX7_live 2 = .ok (.iconst 0, 1) := by decide +kernel
theorem dX7_live_3 : decode cX7_live 3 = .ok (.istore 4, 2) := by decide +kernel
theorem dX7_live_5 : decode cX7_live 5 = .ok (.iload 4, 2) := by decide +kernel
theorem dX7_live_7 : decode cX7_live 7 = .ok (.aload_n 0, 1) := by decide +kernel
theorem dX7_live_8 : decode cX7_live 8 = .ok (.getfield 18, 3) := by decide +kernel
theorem dX7_live_11 : decode cX7_live 11 = .ok (.if_icmp .ge 27, 3) := by decide +kernel
theorem dX7_live_14 : decode cX7_live 14 = .ok (.aload_n 0, 1) := by decide +kernel
theorem dX7_live_15 : decode cX7_live 15 = .ok (.getfield 11, 3) := by decide +kernel
theorem dX7_live_18 : decode cX7_live 18 = .ok (.iload 4, 2) := by decide +kernel
theorem dX7_live_20 : decode cX7_live 20 = .ok (.aaload, 1) := by decide +kernel
theorem dX7_live_21 : decode cX7_live 21 = .ok (.iload_n 1, 1) := by decide +kernel
theorem dX7_live_22 : decode cX7_live 22 = .ok (.iload_n 2, 1) := by decide +kernel
theorem dX7_live_23 : decode cX7_live 23 = .ok (.invokevirtual 22, 3) := by decide +kernel
theorem dX7_live_26 : decode cX7_live 26 = .ok (.ifCond .eq 6, 3) := by decide +kernel
theorem dX7_live_29 : decode cX7_live 29 = .ok (.iinc 3 1, 3) := by decide +kernel
theorem dX7_live_32 : decode cX7_live 32 = .ok (.iinc 4 1, 3) := by decide +kernel
theorem dX7_live_35 : decode cX7_live 35 = .ok (.goto (-30), 3) := by decide +kernel
theorem dX7_live_38 : decode cX7_live 38 = .ok (.aload_n 0, 1) := by decide +kernel
theorem dX7_live_39 : decode cX7_live 39 = .ok (.dup, 1) := by decide +kernel
theorem dX7_live_40 : decode cX7_live 40 = .ok (.getfield 26, 3) := by decide +kernel
theorem dX7_live_43 : decode cX7_live 43 = .ok (.iload_n 3, 1) := by decide +kernel
theorem dX7_live_44 : decode cX7_live 44 = .ok (.iadd, 1) := by decide +kernel
theorem dX7_live_45 : decode cX7_live 45 = .ok (.putfield 26, 3) := by decide +kernel
theorem dX7_live_48 : decode cX7_live 48 = .ok (.aload_n 0, 1) := by decide +kernel
theorem dX7_live_49 : decode cX7_live 49 = .ok (.getfield 29, 3) := by decide +kernel
theorem dX7_live_52 : decode cX7_live 52 = .ok (.ifCond .ne 16, 3) := by decide +kernel
theorem dX7_live_55 : decode cX7_live 55 = .ok (.aload_n 0, 1) := by decide +kernel
theorem dX7_live_56 : decode cX7_live 56 = .ok (.dup, 1) := by decide +kernel
theorem dX7_live_57 : decode cX7_live 57 = .ok (.getfield 33, 3) := by decide +kernel
theorem dX7_live_60 : decode cX7_live 60 = .ok (.iload_n 3, 1) := by decide +kernel
theorem dX7_live_61 : decode cX7_live 61 = .ok (.iadd, 1) := by decide +kernel
theorem dX7_live_62 : decode cX7_live 62 = .ok (.putfield 33, 3) := by decide +kernel
theorem dX7_live_65 : decode cX7_live 65 = .ok (.goto 17, 3) := by decide +kernel
theorem dX7_live_68 : decode cX7_live 68 = .ok (.iload_n 3, 1) := by decide +kernel
theorem dX7_live_69 : decode cX7_live 69 = .ok (.ifCond .ne 13, 3) := by decide +kernel
theorem dX7_live_72 : decode cX7_live 72 = .ok (.aload_n 0, 1) := by decide +kernel
theorem dX7_live_73 : decode cX7_live 73 = .ok (.dup, 1) := by decide +kernel
theorem dX7_live_74 : decode cX7_live 74 = .ok (.getfield 36, 3) := by decide +kernel
theorem dX7_live_77 : decode cX7_live 77 = .ok (.iconst 1, 1) := by decide +kernel
theorem dX7_live_78 : decode cX7_live 78 = .ok (.iadd, 1) := by decide +kernel
theorem dX7_live_79 : decode cX7_live 79 = .ok (.putfield 36, 3) := by decide +kernel
theorem dX7_live_82 : decode cX7_live 82 = .ok (.return_, 1) := by decide +kernel
theorem dX7_ageWoods_0 : decode cX7_ageWoods 0 = .ok (.iconst 0, 1) := by decide +kernel
theorem dX7_ageWoods_1 : decode cX7_ageWoods 1 = .ok (.istore_n 1, 1) := by decide +kernel
theorem dX7_ageWoods_2 : decode cX7_ageWoods 2 = .ok (.iload_n 1, 1) := by decide +kernel
theorem dX7_ageWoods_3 : decode cX7_ageWoods 3 = .ok (.aload_n 0, 1) := by decide +kernel
theorem dX7_ageWoods_4 : decode cX7_ageWoods 4 = .ok (.getfield 18, 3) := by decide +kernel
theorem dX7_ageWoods_7 : decode cX7_ageWoods 7 = .ok (.if_icmp .ge 35, 3) := by decide +kernel
theorem dX7_ageWoods_10 : decode cX7_ageWoods 10 = .ok (.aload_n 0, 1) := by decide +kernel
theorem dX7_ageWoods_11 : decode cX7_ageWoods 11 = .ok (.getfield 11, 3) := by decide +kernel
theorem dX7_ageWoods_14 : decode cX7_ageWoods 14 = .ok (.iload_n 1, 1) := by decide +kernel
theorem dX7_ageWoods_15 : decode cX7_ageWoods 15 = .ok (.aaload, 1) := by decide +kernel
theorem dX7_ageWoods_16 : decode cX7_ageWoods 16 = .ok (.sipush 400, 3) := by decide +kernel
theorem dX7_ageWoods_19 : decode cX7_ageWoods 19 = .ok (.aload_n 0, 1) := by decide +kernel
theorem dX7_ageWoods_20 : decode cX7_ageWoods 20 = .ok (.getfield 11, 3) := by decide +kernel
theorem dX7_ageWoods_23 : decode cX7_ageWoods 23 = .ok (.iload_n 1, 1) := by decide +kernel
theorem dX7_ageWoods_24 : decode cX7_ageWoods 24 = .ok (.aaload, 1) := by decide +kernel
theorem dX7_ageWoods_25 : decode cX7_ageWoods 25 = .ok (.getfield 39, 3) := by decide +kernel
theorem dX7_ageWoods_28 : decode cX7_ageWoods 28 = .ok (.iconst 1, 1) := by decide +kernel
theorem dX7_ageWoods_29 : decode cX7_ageWoods 29 = .ok (.iadd, 1) := by decide +kernel
theorem dX7_ageWoods_30 : decode cX7_ageWoods 30 = .ok (.invokestatic 42, 3) := by decide +kernel
theorem dX7_ageWoods_33 : decode cX7_ageWoods 33 = .ok (.putfield 39, 3) := by decide +kernel
theorem dX7_ageWoods_36 : decode cX7_ageWoods 36 = .ok (.iinc 1 1, 3) := by decide +kernel
theorem dX7_ageWoods_39 : decode cX7_ageWoods 39 = .ok (.goto (-37), 3) := by decide +kernel
theorem dX7_ageWoods_42 : decode cX7_ageWoods 42 = .ok (.return_, 1) := by decide +kernel
theorem dX8_init_0 : decode cX8_init 0 = .ok (.aload_n 0, 1) := by decide +kernel
theorem dX8_init_1 : decode cX8_init 1 = .ok (.invokespecial 3, 3) := by decide +kernel
theorem dX8_init_4 : decode cX8_init 4 = .ok (.aload_n 0, 1) := by decide +kernel
theorem dX8_init_5 : decode cX8_init 5 = .ok (.iconst 4, 1) := by decide +kernel
theorem dX8_init_6 : decode cX8_init 6 = .ok (.newarray .int, 2) := by decide +kernel
theorem dX8_init_8 : decode cX8_init 8 = .ok (.putfield 9, 3) := by decide +kernel
theorem dX8_init_11 : decode cX8_init 11 = .ok (.aload_n 0, 1) := by decide +kernel
theorem dX8_init_12 : decode cX8_init 12 = .ok (.iconst 4, 1) := by decide +kernel
theorem dX8_init_13 : decode cX8_init 13 = .ok (.newarray .int, 2) := by decide +kernel
theorem dX8_init_15 : decode cX8_init 15 = .ok (.putfield 15, 3) := by decide +kernel
theorem dX8_init_18 : decode cX8_init 18 = .ok (.aload_n 0, 1) := by decide +kernel
theorem dX8_init_19 : decode cX8_init 19 = .ok (.iconst 4, 1) := by decide +kernel
theorem dX8_init_20 : decode cX8_init 20 = .ok (.newarray .int, 2) := by decide +kernel
theorem dX8_init_22 : decode cX8_init 22 = .ok (.putfield 18, 3) := by decide +kernel
theorem dX8_init_25 : decode cX8_init 25 = .ok (.aload_n 0, 1) := by decide +kernel
theorem dX8_init_26 : decode cX8_init 26 = .ok (.iconst 4, 1) := by decide +kernel
theorem dX8_init_27 : decode cX8_init 27 = .ok (.newarray .boolean, 2) := by decide +kernel
theorem dX8_init_29 : decode cX8_init 29 = .ok (.putfield 21, 3) := by decide +kernel
theorem dX8_init_32 : decode cX8_init 32 = .ok (.aload_n 0, 1) := by decide +kernel
theorem dX8_init_33 : decode cX8_init 33 = .ok (.iconst 4, 1) := by decide +kernel
theorem dX8_init_34 : decode cX8_init 34 = .ok (.newarray .boolean, 2) := by decide +kernel
theorem dX8_init_36 : decode cX8_init 36 = .ok (.putfield 25, 3) := by decide +kernel
theorem dX8_init_39 : decode cX8_init 39 = .ok (.return_, 1) := by decide +kernel
theorem dX8_stands_0 : decode cX8_stands 0 = .ok (.aload_n 0, 1) := by decide +kernel
theorem dX8_stands_1 : decode cX8_stands 1 = .ok (.getfield 28, 3) := by decide +kernel
theorem dX8_stands_4 : decode cX8_stands 4 = .ok (.iload_n 1, 1) := by decide +kernel
theorem dX8_stands_5 : decode cX8_stands 5 = .ok (.if_icmp .ne 38, 3) := by decide +kernel
theorem dX8_stands_8 : decode cX8_stands 8 = .ok (.aload_n 0, 1) := by decide +kernel
theorem dX8_stands_9 : decode cX8_stands 9 = .ok (.getfield 32, 3) := by decide +kernel
theorem dX8_stands_12 : decode cX8_stands 12 = .ok (.iload_n 2, 1) := by decide +kernel
theorem dX8_stands_13 : decode cX8_stands 13 = .ok (.if_icmp .gt 30, 3) := by decide +kernel
theorem dX8_stands_16 : decode cX8_stands 16 = .ok (.aload_n 0, 1) := by decide +kernel
theorem dX8_stands_17 : decode cX8_stands 17 = .ok (.getfield 32, 3) := by decide +kernel
theorem dX8_stands_20 : decode cX8_stands 20 = .ok (.iload_n 3, 1) := by decide +kernel
theorem dX8_stands_21 : decode cX8_stands 21 = .ok (.if_icmp .gt 22, 3) := by decide +kernel
theorem dX8_stands_24 : decode cX8_stands 24 = .ok (.aload_n 0, 1) := by decide +kernel
theorem dX8_stands_25 : decode cX8_stands 25 = .ok (.getfield 35, 3) := by decide +kernel
theorem dX8_stands_28 : decode cX8_stands 28 = .ok (.ifCond .eq 11, 3) := by decide +kernel
theorem dX8_stands_31 : decode cX8_stands 31 = .ok (.aload_n 0, 1) := by decide +kernel
theorem dX8_stands_32 : decode cX8_stands 32 = .ok (.getfield 39, 3) := by decide +kernel
theorem dX8_stands_35 : decode cX8_stands 35 = .ok (.iload_n 3, 1) := by decide +kernel
theorem dX8_stands_36 : decode cX8_stands 36 = .ok (.if_icmp .le 7, 3) := by decide +kernel
theorem dX8_stands_39 : decode cX8_stands 39 = .ok (.iconst 1, 1) := by decide +kernel
theorem dX8_stands_40 : decode cX8_stands 40 = .ok (.goto 4, 3) := by decide +kernel
theorem dX8_stands_43 : decode cX8_stands 43 = .ok (.iconst 0, 1) := by decide +kernel
theorem dX8_stands_44 : decode cX8_stands 44 = .ok (.ireturn, 1) := by decide +kernel
theorem dX8_holdsFor_0 : decode cX8_holdsFor 0 = .ok (.aload_n 0, 1) := by decide +kernel
theorem dX8_holdsFor_1 : decode cX8_holdsFor 1 = .ok (.getfield 42, 3) := by decide +kernel
theorem dX8_holdsFor_4 : decode cX8_holdsFor 4 = .ok (.ifCond .ne 5, 3) := by decide +kernel
theorem dX8_holdsFor_7 : decode cX8_holdsFor 7 = .ok (.iconst 1, 1) := by decide +kernel
theorem dX8_holdsFor_8 : decode cX8_holdsFor 8 = .ok (.ireturn, 1) := by decide +kernel
theorem dX8_holdsFor_9 : decode cX8_holdsFor 9 = .ok (.iconst 0, 1) := by decide +kernel
theorem dX8_holdsFor_10 : decode cX8_holdsFor 10 = .ok (.istore_n 3, 1) := by decide +kernel
theorem dX8_holdsFor_11 : decode cX8_holdsFor 11 = .ok (.iconst 1, 1) := by decide +kernel
theorem dX8_holdsFor_12 : decode cX8_holdsFor 12 = .ok (.istore 4, 2) := by decide +kernel
theorem dX8_holdsFor_14 : decode cX8_holdsFor 14 = .ok (.iconst 0, 1) := by decide +kernel
theorem dX8_holdsFor_15 : decode cX8_holdsFor 15 = .ok (.istore 5, 2) := by decide +kernel
theorem dX8_holdsFor_17 : decode cX8_holdsFor 17 = .ok (.iload 5, 2) := by decide +kernel
theorem dX8_holdsFor_19 : decode cX8_holdsFor 19 = .ok (.aload_n 0, 1) := by decide +kernel
theorem dX8_holdsFor_20 : decode cX8_holdsFor 20 = .ok (.getfield 42, 3) := by decide +kernel
theorem dX8_holdsFor_23 : decode cX8_holdsFor 23 = .ok (.if_icmp .ge 94, 3) := by decide +kernel
theorem dX8_holdsFor_26 : decode cX8_holdsFor 26 = .ok (.iload 5, 2) := by decide +kernel
theorem dX8_holdsFor_28 : decode cX8_holdsFor 28 = .ok (.iconst 4, 1) := by decide +kernel
theorem dX8_holdsFor_29 : decode cX8_holdsFor 29 = .ok (.if_icmp .ge 88, 3) := by decide +kernel
theorem dX8_holdsFor_32 : decode cX8_holdsFor 32 = .ok (.aload_n 0, 1) := by decide +kernel
theorem dX8_holdsFor_33 : decode cX8_holdsFor 33 = .ok (.getfield 25, 3) := by decide +kernel
theorem dX8_holdsFor_36 : decode cX8_holdsFor 36 = .ok (.iload 5, 2) := by decide +kernel
theorem dX8_holdsFor_38 : decode cX8_holdsFor 38 = .ok (.baload, 1) := by decide +kernel
theorem dX8_holdsFor_39 : decode cX8_holdsFor 39 = .ok (.ifCond .eq 21, 3) := by decide +kernel
theorem dX8_holdsFor_42 : decode cX8_holdsFor 42 = .ok (.iload_n 3, 1) := by decide +kernel
theorem dX8_holdsFor_43 : decode cX8_holdsFor 43 = .ok (.ifCond .ne 8, 3) := by decide +kernel
theorem dX8_holdsFor_46 : decode cX8_holdsFor 46 = .ok (.iload 4, 2) := by decide +kernel
theorem dX8_holdsFor_48 : decode cX8_holdsFor 48 = .ok (.ifCond .eq 7, 3) := by decide +kernel
theorem dX8_holdsFor_51 : decode cX8_holdsFor 51 = .ok (.iconst 1, 1) := by decide +kernel
theorem dX8_holdsFor_52 : decode cX8_holdsFor 52 = .ok (.goto 4, 3) := by decide +kernel
theorem dX8_holdsFor_55 : decode cX8_holdsFor 55 = .ok (.iconst 0, 1) := by decide +kernel
theorem dX8_holdsFor_56 : decode cX8_holdsFor 56 = .ok (.istore_n 3, 1) := by decide +kernel
theorem dX8_holdsFor_57 : decode cX8_holdsFor 57 = .ok (.iconst 1, 1) := by decide +kernel
theorem dX8_holdsFor_58 : decode cX8_holdsFor 58 = .ok (.istore 4, 2) := by decide +kernel
theorem dX8_holdsFor_60 : decode cX8_holdsFor 60 = .ok (.iload 4, 2) := by decide +kernel
theorem dX8_holdsFor_62 : decode cX8_holdsFor 62 = .ok (.ifCond .eq 46, 3) := by decide +kernel
theorem dX8_holdsFor_65 : decode cX8_holdsFor 65 = .ok (.aload_n 0, 1) := by decide +kernel
theorem dX8_holdsFor_66 : decode cX8_holdsFor 66 = .ok (.getfield 21, 3) := by decide +kernel
theorem dX8_holdsFor_69 : decode cX8_holdsFor 69 = .ok (.iload 5, 2) := by decide +kernel
theorem dX8_holdsFor_71 : decode cX8_holdsFor 71 = .ok (.baload, 1) := by decide +kernel
theorem dX8_holdsFor_72 : decode cX8_holdsFor 72 = .ok (.aload_n 1, 1) := by decide +kernel
theorem dX8_holdsFor_73 : decode cX8_holdsFor 73 = .ok (.iload_n 2, 1) := by decide +kernel
theorem dX8_holdsFor_74 : decode cX8_holdsFor 74 = .ok (.aload_n 0, 1) := by decide +kernel
theorem dX8_holdsFor_75 : decode cX8_holdsFor 75 = .ok (.getfield 9, 3) := by decide +kernel
theorem dX8_holdsFor_78 : decode cX8_holdsFor 78 = .ok (.iload 5, 2) := by decide +kernel
theorem dX8_holdsFor_80 : decode cX8_holdsFor 80 = .ok (.iaload, 1) := by decide +kernel
theorem dX8_holdsFor_81 : decode cX8_holdsFor 81 = .ok (.invokestatic 45, 3) := by decide +kernel
theorem dX8_holdsFor_84 : decode cX8_holdsFor 84 = .ok (.aload_n 0, 1) := by decide +kernel
theorem dX8_holdsFor_85 : decode cX8_holdsFor 85 = .ok (.getfield 15, 3) := by decide +kernel
theorem dX8_holdsFor_88 : decode cX8_holdsFor 88 = .ok (.iload 5, 2) := by decide +kernel
theorem dX8_holdsFor_90 : decode cX8_holdsFor 90 = .ok (.iaload, 1) := by decide +kernel
theorem dX8_holdsFor_91 : decode cX8_holdsFor 91 = .ok (.aload_n 0, 1) := by decide +kernel
theorem dX8_holdsFor_92 : decode cX8_holdsFor 92 = .ok (.getfield 18, 3) := by decide +kernel
theorem dX8_holdsFor_95 : decode cX8_holdsFor 95 = .ok (.iload 5, 2) := by decide +kernel
theorem dX8_holdsFor_97 : decode cX8_holdsFor 97 = .ok (.iaload, 1) := by decide +kernel
theorem dX8_holdsFor_98 : decode cX8_holdsFor 98 = .ok (.invokestatic 49, 3) := by decide +kernel
theorem dX8_holdsFor_101 : decode cX8_holdsFor 101 = .ok (.if_icmp .eq 7, 3) := by decide +kernel
theorem dX8_holdsFor_104 : decode cX8_holdsFor 104 = .ok (.iconst 1, 1) := by decide +kernel
theorem dX8_holdsFor_105 : decode cX8_holdsFor 105 = .ok (.goto 4, 3) := by decide +kernel
theorem dX8_holdsFor_108 : decode cX8_holdsFor 108 = .ok (.iconst 0, 1) := by decide +kernel
theorem dX8_holdsFor_109 : decode cX8_holdsFor 109 = .ok (.istore 4, 2) := by decide +kernel
theorem dX8_holdsFor_111 : decode cX8_holdsFor 111 = .ok (.iinc 5 1, 3) := by decide +kernel
theorem dX8_holdsFor_114 : decode cX8_holdsFor 114 = .ok (.goto (-97), 3) := by decide +kernel
theorem dX8_holdsFor_117 : decode cX8_holdsFor 117 = .ok (.iload_n 3, 1) := by decide +kernel
theorem dX8_holdsFor_118 : decode cX8_holdsFor 118 = .ok (.ifCond .ne 8, 3) := by decide +kernel
theorem dX8_holdsFor_121 : decode cX8_holdsFor 121 = .ok (.iload 4, 2) := by decide +kernel
theorem dX8_holdsFor_123 : decode cX8_holdsFor 123 = .ok (.ifCond .eq 7, 3) := by decide +kernel
theorem dX8_holdsFor_126 : decode cX8_holdsFor 126 = .ok (.iconst 1, 1) := by decide +kernel
theorem dX8_holdsFor_127 : decode cX8_holdsFor 127 = .ok (.goto 4, 3) := by decide +kernel
theorem dX8_holdsFor_130 : decode cX8_holdsFor 130 = .ok (.iconst 0, 1) := by decide +kernel
theorem dX8_holdsFor_131 : decode cX8_holdsFor 131 = .ok (.aload_n 0, 1) := by decide +kernel
theorem dX8_holdsFor_132 : decode cX8_holdsFor 132 = .ok (.getfield 53, 3) := by decide +kernel
theorem dX8_holdsFor_135 : decode cX8_holdsFor 135 = .ok (.if_icmp .eq 7, 3) := by decide +kernel
theorem dX8_holdsFor_138 : decode cX8_holdsFor 138 = .ok (.iconst 1, 1) := by decide +kernel
theorem dX8_holdsFor_139 : decode cX8_holdsFor 139 = .ok (.goto 4, 3) := by decide +kernel
theorem dX8_holdsFor_142 : decode cX8_holdsFor 142 = .ok (.iconst 0, 1) := by decide +kernel
theorem dX8_holdsFor_143 : decode cX8_holdsFor 143 = .ok (.ireturn, 1) := by decide +kernel
theorem dX8_fieldOf_0 : decode cX8_fieldOf 0 = .ok (.iload_n 2, 1) := by decide +kernel
theorem dX8_fieldOf_1 : decode cX8_fieldOf 1 = .ok (.tableswitch 69 0 4 #[35, 42, 49, 56, 63], 35) := by decide +kernel
theorem dX8_fieldOf_36 : decode cX8_fieldOf 36 = .ok (.aload_n 0, 1) := by decide +kernel
theorem dX8_fieldOf_37 : decode cX8_fieldOf 37 = .ok (.getfield 56, 3) := by decide +kernel
theorem dX8_fieldOf_40 : decode cX8_fieldOf 40 = .ok (.iconst 2, 1) := by decide +kernel
theorem dX8_fieldOf_41 : decode cX8_fieldOf 41 = .ok (.iaload, 1) := by decide +kernel
theorem dX8_fieldOf_42 : decode cX8_fieldOf 42 = .ok (.ireturn, 1) := by decide +kernel
theorem dX8_fieldOf_43 : decode cX8_fieldOf 43 = .ok (.aload_n 0, 1) := by decide +kernel
theorem dX8_fieldOf_44 : decode cX8_fieldOf 44 = .ok (.getfield 56, 3) := by decide +kernel
theorem dX8_fieldOf_47 : decode cX8_fieldOf 47 = .ok (.iconst 3, 1) := by decide +kernel
theorem dX8_fieldOf_48 : decode cX8_fieldOf 48 = .ok (.iaload, 1) := by decide +kernel
theorem dX8_fieldOf_49 : decode cX8_fieldOf 49 = .ok (.ireturn, 1) := by decide +kernel
theorem dX8_fieldOf_50 : decode cX8_fieldOf 50 = .ok (.aload_n 0, 1) := by decide +kernel
theorem dX8_fieldOf_51 : decode cX8_fieldOf 51 = .ok (.getfield 56, 3) := by decide +kernel
theorem dX8_fieldOf_54 : decode cX8_fieldOf 54 = .ok (.iconst 1, 1) := by decide +kernel
theorem dX8_fieldOf_55 : decode cX8_fieldOf 55 = .ok (.iaload, 1) := by decide +kernel
theorem dX8_fieldOf_56 : decode cX8_fieldOf 56 = .ok (.ireturn, 1) := by decide +kernel
theorem dX8_fieldOf_57 : decode cX8_fieldOf 57 = .ok (.aload_n 0, 1) := by decide +kernel
theorem dX8_fieldOf_58 : decode cX8_fieldOf 58 = .ok (.getfield 56, 3) := by decide +kernel
theorem dX8_fieldOf_61 : decode cX8_fieldOf 61 = .ok (.iconst 0, 1) := by decide +kernel
theorem dX8_fieldOf_62 : decode cX8_fieldOf 62 = .ok (.iaload, 1) := by decide +kernel
theorem dX8_fieldOf_63 : decode cX8_fieldOf 63 = .ok (.ireturn, 1) := by decide +kernel
theorem dX8_fieldOf_64 : decode cX8_fieldOf 64 = .ok (.iload_n 1, 1) := by decide +kernel
theorem dX8_fieldOf_65 : decode cX8_fieldOf 65 = .ok (.sipush 360, 3) := by decide +kernel
theorem dX8_fieldOf_68 : decode cX8_fieldOf 68 = .ok (.idiv, 1) := by decide +kernel
theorem dX8_fieldOf_69 : decode cX8_fieldOf 69 = .ok (.ireturn, 1) := by decide +kernel
theorem dX8_fieldOf_70 : decode cX8_fieldOf 70 = .ok (.iload_n 1, 1) := by decide +kernel
theorem dX8_fieldOf_71 : decode cX8_fieldOf 71 = .ok (.sipush 360, 3) := by decide +kernel
theorem dX8_fieldOf_74 : decode cX8_fieldOf 74 = .ok (.irem, 1) := by decide +kernel
theorem dX8_fieldOf_75 : decode cX8_fieldOf 75 = .ok (.ireturn, 1) := by decide +kernel
theorem dX8_isTrue_0 : decode cX8_isTrue 0 = .ok (.iload_n 1, 1) := by decide +kernel
theorem dX8_isTrue_1 : decode cX8_isTrue 1 = .ok (.ifCond .ne 14, 3) := by decide +kernel
theorem dX8_isTrue_4 : decode cX8_isTrue 4 = .ok (.iload_n 0, 1) := by decide +kernel
theorem dX8_isTrue_5 : decode cX8_isTrue 5 = .ok (.iload_n 2, 1) := by decide +kernel
theorem dX8_isTrue_6 : decode cX8_isTrue 6 = .ok (.if_icmp .ge 7, 3) := by decide +kernel
theorem dX8_isTrue_9 : decode cX8_isTrue 9 = .ok (.iconst 1, 1) := by decide +kernel
theorem dX8_isTrue_10 : decode cX8_isTrue 10 = .ok (.goto 4, 3) := by decide +kernel
theorem dX8_isTrue_13 : decode cX8_isTrue 13 = .ok (.iconst 0, 1) := by decide +kernel
theorem dX8_isTrue_14 : decode cX8_isTrue 14 = .ok (.ireturn, 1) := by decide +kernel
theorem dX8_isTrue_15 : decode cX8_isTrue 15 = .ok (.iload_n 1, 1) := by decide +kernel
theorem dX8_isTrue_16 : decode cX8_isTrue 16 = .ok (.iconst 1, 1) := by decide +kernel
theorem dX8_isTrue_17 : decode cX8_isTrue 17 = .ok (.if_icmp .ne 16, 3) := by decide +kernel
theorem dX8_isTrue_20 : decode cX8_isTrue 20 = .ok (.iload_n 0, 1) := by decide +kernel
theorem dX8_isTrue_21 : decode cX8_isTrue 21 = .ok (.iload_n 2, 1) := by decide +kernel
theorem dX8_isTrue_22 : decode cX8_isTrue 22 = .ok (.if_icmp .ne 7, 3) := by decide +kernel
theorem dX8_isTrue_25 : decode cX8_isTrue 25 = .ok (.iconst 1, 1) := by decide +kernel
theorem dX8_isTrue_26 : decode cX8_isTrue 26 = .ok (.goto 17, 3) := by decide +kernel
theorem dX8_isTrue_29 : decode cX8_isTrue 29 = .ok (.iconst 0, 1) := by decide +kernel
theorem dX8_isTrue_30 : decode cX8_isTrue 30 = .ok (.goto 13, 3) := by decide +kernel
theorem dX8_isTrue_33 : decode cX8_isTrue 33 = .ok (.iload_n 0, 1) := by decide +kernel
theorem dX8_isTrue_34 : decode cX8_isTrue 34 = .ok (.iload_n 2, 1) := by decide +kernel
theorem dX8_isTrue_35 : decode cX8_isTrue 35 = .ok (.if_icmp .le 7, 3) := by decide +kernel
theorem dX8_isTrue_38 : decode cX8_isTrue 38 = .ok (.iconst 1, 1) := by decide +kernel
theorem dX8_isTrue_39 : decode cX8_isTrue 39 = .ok (.goto 4, 3) := by decide +kernel
theorem dX8_isTrue_42 : decode cX8_isTrue 42 = .ok (.iconst 0, 1) := by decide +kernel
theorem dX8_isTrue_43 : decode cX8_isTrue 43 = .ok (.ireturn, 1) := by decide +kernel
theorem dX9_init_0 : decode cX9_init 0 = .ok (.aload_n 0, 1) := by decide +kernel
theorem dX9_init_1 : decode cX9_init 1 = .ok (.invokespecial 3, 3) := by decide +kernel
theorem dX9_init_4 : decode cX9_init 4 = .ok (.aload_n 0, 1) := by decide +kernel
theorem dX9_init_5 : decode cX9_init 5 = .ok (.bipush 40, 2) := by decide +kernel
theorem dX9_init_7 : decode cX9_init 7 = .ok (.anewarray 9, 3) := by decide +kernel
theorem dX9_init_10 : decode cX9_init 10 = .ok (.putfield 11, 3) := by decide +kernel
theorem dX9_init_13 : decode cX9_init 13 = .ok (.aload_n 0, 1) := by decide +kernel
theorem dX9_init_14 : decode cX9_init 14 = .ok (.bipush 100, 2) := by decide +kernel
theorem dX9_init_16 : decode cX9_init 16 = .ok (.newarray .byte, 2) := by decide +kernel
theorem dX9_init_18 : decode cX9_init 18 = .ok (.putfield 17, 3) := by decide +kernel
theorem dX9_init_21 : decode cX9_init 21 = .ok (.iconst 0, 1) := by decide +kernel
theorem dX9_init_22 : decode cX9_init 22 = .ok (.istore_n 1, 1) := by decide +kernel
theorem dX9_init_23 : decode cX9_init 23 = .ok (.iload_n 1, 1) := by decide +kernel
theorem dX9_init_24 : decode cX9_init 24 = .ok (.bipush 40, 2) := by decide +kernel
theorem dX9_init_26 : decode cX9_init 26 = .ok (.if_icmp .ge 22, 3) := by decide +kernel
theorem dX9_init_29 : decode cX9_init 29 = .ok (.aload_n 0, 1) := by decide +kernel
theorem dX9_init_30 : decode cX9_init 30 = .ok (.getfield 11, 3) := by decide +kernel
theorem dX9_init_33 : decode cX9_init 33 = .ok (.iload_n 1, 1) := by decide +kernel
theorem dX9_init_34 : decode cX9_init 34 = .ok (.new 9, 3) := by decide +kernel
theorem dX9_init_37 : decode cX9_init 37 = .ok (.dup, 1) := by decide +kernel
theorem dX9_init_38 : decode cX9_init 38 = .ok (.invokespecial 21, 3) := by decide +kernel
theorem dX9_init_41 : decode cX9_init 41 = .ok (.aastore, 1) := by decide +kernel
theorem dX9_init_42 : decode cX9_init 42 = .ok (.iinc 1 1, 3) := by decide +kernel
theorem dX9_init_45 : decode cX9_init 45 = .ok (.goto (-22), 3) := by decide +kernel
theorem dX9_init_48 : decode cX9_init 48 = .ok (.return_, 1) := by decide +kernel
theorem dX9_has_0 : decode cX9_has 0 = .ok (.iload_n 1, 1) := by decide +kernel
theorem dX9_has_1 : decode cX9_has 1 = .ok (.ifCond .lt 15, 3) := by decide +kernel
theorem dX9_has_4 : decode cX9_has 4 = .ok (.iload_n 1, 1) := by decide +kernel
theorem dX9_has_5 : decode cX9_has 5 = .ok (.aload_n 0, 1) := by decide +kernel
theorem dX9_has_6 : decode cX9_has 6 = .ok (.getfield 22, 3) := by decide +kernel
theorem dX9_has_9 : decode cX9_has 9 = .ok (.if_icmp .ge 7, 3) := by decide +kernel
theorem dX9_has_12 : decode cX9_has 12 = .ok (.iconst 1, 1) := by decide +kernel
theorem dX9_has_13 : decode cX9_has 13 = .ok (.goto 4, 3) := by decide +kernel
theorem dX9_has_16 : decode cX9_has 16 = .ok (.iconst 0, 1) := by decide +kernel
theorem dX9_has_17 : decode cX9_has 17 = .ok (.ireturn, 1) := by decide +kernel
theorem dX9_append_0 : decode cX9_append 0 = .ok (.aload_n 0, 1) := by decide +kernel
theorem dX9_append_1 : decode cX9_append 1 = .ok (.getfield 26, 3) := by decide +kernel
theorem dX9_append_4 : decode cX9_append 4 = .ok (.bipush 100, 2) := by decide +kernel
theorem dX9_append_6 : decode cX9_append 6 = .ok (.if_icmp .ge 20, 3) := by decide +kernel
theorem dX9_append_9 : decode cX9_append 9 = .ok (.aload_n 0, 1) := by decide +kernel
theorem dX9_append_10 : decode cX9_append 10 = .ok (.getfield 17, 3) := by decide +kernel
theorem dX9_append_13 : decode cX9_append 13 = .ok (.aload_n 0, 1) := by decide +kernel
theorem dX9_append_14 : decode cX9_append 14 = .ok (.dup, 1) := by decide +kernel
theorem dX9_append_15 : decode cX9_append 15 = .ok (.getfield 26, 3) := by decide +kernel
theorem dX9_append_18 : decode cX9_append 18 = .ok (.dup_x1, 1) := by decide +kernel
theorem dX9_append_19 : decode cX9_append 19 = .ok (.iconst 1, 1) := by decide +kernel
theorem dX9_append_20 : decode cX9_append 20 = .ok (.iadd, 1) := by decide +kernel
theorem dX9_append_21 : decode cX9_append 21 = .ok (.putfield 26, 3) := by decide +kernel
theorem dX9_append_24 : decode cX9_append 24 = .ok (.iload_n 1, 1) := by decide +kernel
theorem dX9_append_25 : decode cX9_append 25 = .ok (.bastore, 1) := by decide +kernel
theorem dX9_append_26 : decode cX9_append 26 = .ok (.return_, 1) := by decide +kernel
theorem dX9_enter_0 : decode cX9_enter 0 = .ok (.aload_n 0, 1) := by decide +kernel
theorem dX9_enter_1 : decode cX9_enter 1 = .ok (.getfield 11, 3) := by decide +kernel
theorem dX9_enter_4 : decode cX9_enter 4 = .ok (.aload_n 0, 1) := by decide +kernel
theorem dX9_enter_5 : decode cX9_enter 5 = .ok (.getfield 22, 3) := by decide +kernel
theorem dX9_enter_8 : decode cX9_enter 8 = .ok (.aaload, 1) := by decide +kernel
theorem dX9_enter_9 : decode cX9_enter 9 = .ok (.iload_n 1, 1) := by decide +kernel
theorem dX9_enter_10 : decode cX9_enter 10 = .ok (.putfield 29, 3) := by decide +kernel
theorem dX9_enter_13 : decode cX9_enter 13 = .ok (.aload_n 0, 1) := by decide +kernel
theorem dX9_enter_14 : decode cX9_enter 14 = .ok (.dup, 1) := by decide +kernel
theorem dX9_enter_15 : decode cX9_enter 15 = .ok (.getfield 22, 3) := by decide +kernel
theorem dX9_enter_18 : decode cX9_enter 18 = .ok (.dup_x1, 1) := by decide +kernel
theorem dX9_enter_19 : decode cX9_enter 19 = .ok (.iconst 1, 1) := by decide +kernel
theorem dX9_enter_20 : decode cX9_enter 20 = .ok (.iadd, 1) := by decide +kernel
theorem dX9_enter_21 : decode cX9_enter 21 = .ok (.putfield 22, 3) := by decide +kernel
theorem dX9_enter_24 : decode cX9_enter 24 = .ok (.ireturn, 1) := by decide +kernel
theorem dX9_worth_0 : decode cX9_worth 0 = .ok (.iload_n 1, 1) := by decide +kernel
theorem dX9_worth_1 : decode cX9_worth 1 = .ok (.ifCond .ge 11, 3) := by decide +kernel
theorem dX9_worth_4 : decode cX9_worth 4 = .ok (.getstatic 32, 3) := by decide +kernel
theorem dX9_worth_7 : decode cX9_worth 7 = .ok (.iload_n 2, 1) := by decide +kernel
theorem dX9_worth_8 : decode cX9_worth 8 = .ok (.iaload, 1) := by decide +kernel
theorem dX9_worth_9 : decode cX9_worth 9 = .ok (.goto 12, 3) := by decide +kernel
theorem dX9_worth_12 : decode cX9_worth 12 = .ok (.aload_n 0, 1) := by decide +kernel
theorem dX9_worth_13 : decode cX9_worth 13 = .ok (.getfield 11, 3) := by decide +kernel
theorem dX9_worth_16 : decode cX9_worth 16 = .ok (.iload_n 1, 1) := by decide +kernel
theorem dX9_worth_17 : decode cX9_worth 17 = .ok (.aaload, 1) := by decide +kernel
theorem dX9_worth_18 : decode cX9_worth 18 = .ok (.getfield 36, 3) := by decide +kernel
theorem dX9_worth_21 : decode cX9_worth 21 = .ok (.ireturn, 1) := by decide +kernel
theorem dX9_latest_0 : decode cX9_latest 0 = .ok (.aload_n 0, 1) := by decide +kernel
theorem dX9_latest_1 : decode cX9_latest 1 = .ok (.getfield 22, 3) := by decide +kernel
theorem dX9_latest_4 : decode cX9_latest 4 = .ok (.iconst 1, 1) := by decide +kernel
theorem dX9_latest_5 : decode cX9_latest 5 = .ok (.isub, 1) := by decide +kernel
theorem dX9_latest_6 : decode cX9_latest 6 = .ok (.istore 5, 2) := by decide +kernel
theorem dX9_latest_8 : decode cX9_latest 8 = .ok (.iload 5, 2) := by decide +kernel
theorem dX9_latest_10 : decode cX9_latest 10 = .ok (.ifCond .lt 44, 3) := by decide +kernel
theorem dX9_latest_13 : decode cX9_latest 13 = .ok (.aload_n 0, 1) := by decide +kernel
theorem dX9_latest_14 : decode cX9_latest 14 = .ok (.getfield 11, 3) := by decide +kernel
theorem dX9_latest_17 : decode cX9_latest 17 = .ok (.iload 5, 2) := by decide +kernel
theorem dX9_latest_19 : decode cX9_latest 19 = .ok (.aaload, 1) := by decide +kernel
theorem dX9_latest_20 : decode cX9_latest 20 = .ok (.iload_n 2, 1) := by decide +kernel
theorem dX9_latest_21 : decode cX9_latest 21 = .ok (.iload_n 3, 1) := by decide +kernel
theorem dX9_latest_22 : decode cX9_latest 22 = .ok (.iload 4, 2) := by decide +kernel
theorem dX9_latest_24 : decode cX9_latest 24 = .ok (.invokevirtual 39, 3) := by decide +kernel
theorem dX9_latest_27 : decode cX9_latest 27 = .ok (.ifCond .eq 21, 3) := by decide +kernel
theorem dX9_latest_30 : decode cX9_latest 30 = .ok (.aload_n 0, 1) := by decide +kernel
theorem dX9_latest_31 : decode cX9_latest 31 = .ok (.getfield 11, 3) := by decide +kernel
theorem dX9_latest_34 : decode cX9_latest 34 = .ok (.iload 5, 2) := by decide +kernel
theorem dX9_latest_36 : decode cX9_latest 36 = .ok (.aaload, 1) := by decide +kernel
theorem dX9_latest_37 : decode cX9_latest 37 = .ok (.aload_n 1, 1) := by decide +kernel
theorem dX9_latest_38 : decode cX9_latest 38 = .ok (.iload_n 3, 1) := by decide +kernel
theorem dX9_latest_39 : decode cX9_latest 39 = .ok (.invokevirtual 43, 3) := by decide +kernel
theorem dX9_latest_42 : decode cX9_latest 42 = .ok (.ifCond .eq 6, 3) := by decide +kernel
theorem dX9_latest_45 : decode cX9_latest 45 = .ok (.iload 5, 2) := by decide +kernel
theorem dX9_latest_47 : decode cX9_latest 47 = .ok (.ireturn, 1) := by decide +kernel
theorem dX9_latest_48 : decode cX9_latest 48 = .ok (.iinc 5 (-1), 3) := by decide +kernel
theorem dX9_latest_51 : decode cX9_latest 51 = .ok (.goto (-43), 3) := by decide +kernel
theorem dX9_latest_54 : decode cX9_latest 54 = .ok (.iconst (-1), 1) := by decide +kernel
theorem dX9_latest_55 : decode cX9_latest 55 = .ok (.ireturn, 1) := by decide +kernel
theorem dX9_read_0 : decode cX9_read 0 = .ok (.aload_n 0, 1) := by decide +kernel
theorem dX9_read_1 : decode cX9_read 1 = .ok (.getfield 22, 3) := by decide +kernel
theorem dX9_read_4 : decode cX9_read 4 = .ok (.bipush 40, 2) := by decide +kernel
theorem dX9_read_6 : decode cX9_read 6 = .ok (.if_icmp .lt 5, 3) := by decide +kernel
theorem dX9_read_9 : decode cX9_read 9 = .ok (.iconst 0, 1) := by decide +kernel
theorem dX9_read_10 : decode cX9_read 10 = .ok (.ireturn, 1) := by decide +kernel
theorem dX9_read_11 : decode cX9_read 11 = .ok (.aload_n 0, 1) := by decide +kernel
theorem dX9_read_12 : decode cX9_read 12 = .ok (.iconst 0, 1) := by decide +kernel
theorem dX9_read_13 : decode cX9_read 13 = .ok (.putfield 47, 3) := by decide +kernel
theorem dX9_read_16 : decode cX9_read 16 = .ok (.aload_n 0, 1) := by decide +kernel
theorem dX9_read_17 : decode cX9_read 17 = .ok (.aload_n 0, 1) := by decide +kernel
theorem dX9_read_18 : decode cX9_read 18 = .ok (.getfield 11, 3) := by decide +kernel
theorem dX9_read_21 : decode cX9_read 21 = .ok (.aload_n 0, 1) := by decide +kernel
theorem dX9_read_22 : decode cX9_read 22 = .ok (.getfield 22, 3) := by decide +kernel
theorem dX9_read_25 : decode cX9_read 25 = .ok (.aaload, 1) := by decide +kernel
theorem dX9_read_26 : decode cX9_read 26 = .ok (.invokevirtual 50, 3) := by decide +kernel
theorem dX9_read_29 : decode cX9_read 29 = .ok (.ifCond .eq 7, 3) := by decide +kernel
theorem dX9_read_32 : decode cX9_read 32 = .ok (.iconst (-1), 1) := by decide +kernel
theorem dX9_read_33 : decode cX9_read 33 = .ok (.goto 7, 3) := by decide +kernel
theorem dX9_read_36 : decode cX9_read 36 = .ok (.aload_n 0, 1) := by decide +kernel
theorem dX9_read_37 : decode cX9_read 37 = .ok (.getfield 47, 3) := by decide +kernel
theorem dX9_read_40 : decode cX9_read 40 = .ok (.ireturn, 1) := by decide +kernel
theorem dX9_readWord_0 : decode cX9_readWord 0 = .ok (.aload_n 1, 1) := by decide +kernel
theorem dX9_readWord_1 : decode cX9_readWord 1 = .ok (.iconst 0, 1) := by decide +kernel
theorem dX9_readWord_2 : decode cX9_readWord 2 = .ok (.putfield 54, 3) := by decide +kernel
theorem dX9_readWord_5 : decode cX9_readWord 5 = .ok (.aload_n 1, 1) := by decide +kernel
theorem dX9_readWord_6 : decode cX9_readWord 6 = .ok (.iconst 0, 1) := by decide +kernel
theorem dX9_readWord_7 : decode cX9_readWord 7 = .ok (.putfield 57, 3) := by decide +kernel
theorem dX9_readWord_10 : decode cX9_readWord 10 = .ok (.aload_n 1, 1) := by decide +kernel
theorem dX9_readWord_11 : decode cX9_readWord 11 = .ok (.aload_n 0, 1) := by decide +kernel
theorem dX9_readWord_12 : decode cX9_readWord 12 = .ok (.ldc 61, 2) := by decide +kernel
theorem dX9_readWord_14 : decode cX9_readWord 14 = .ok (.invokevirtual 63, 3) := by decide +kernel
theorem dX9_readWord_17 : decode cX9_readWord 17 = .ok (.putfield 67, 3) := by decide +kernel
theorem dX9_readWord_20 : decode cX9_readWord 20 = .ok (.aload_n 1, 1) := by decide +kernel
theorem dX9_readWord_21 : decode cX9_readWord 21 = .ok (.getfield 67, 3) := by decide +kernel
theorem dX9_readWord_24 : decode cX9_readWord 24 = .ok (.ifCond .lt 10, 3) := by decide +kernel
theorem dX9_readWord_27 : decode cX9_readWord 27 = .ok (.aload_n 0, 1) := by decide +kernel
theorem dX9_readWord_28 : decode cX9_readWord 28 = .ok (.invokevirtual 70, 3) := by decide +kernel
theorem dX9_readWord_31 : decode cX9_readWord 31 = .ok (.ifCond .ne 5, 3) := by decide +kernel
theorem dX9_readWord_34 : decode cX9_readWord 34 = .ok (.iconst 0, 1) := by decide +kernel
theorem dX9_readWord_35 : decode cX9_readWord 35 = .ok (.ireturn, 1) := by decide +kernel
theorem dX9_readWord_36 : decode cX9_readWord 36 = .ok (.aload_n 1, 1) := by decide +kernel
theorem dX9_readWord_37 : decode cX9_readWord 37 = .ok (.aload_n 0, 1) := by decide +kernel
theorem dX9_readWord_38 : decode cX9_readWord 38 = .ok (.invokevirtual 74, 3) := by decide +kernel
theorem dX9_readWord_41 : decode cX9_readWord 41 = .ok (.putfield 36, 3) := by decide +kernel
theorem dX9_readWord_44 : decode cX9_readWord 44 = .ok (.aload_n 1, 1) := by decide +kernel
theorem dX9_readWord_45 : decode cX9_readWord 45 = .ok (.getfield 36, 3) := by decide +kernel
theorem dX9_readWord_48 : decode cX9_readWord 48 = .ok (.ifCond .ge 5, 3) := by decide +kernel
theorem dX9_readWord_51 : decode cX9_readWord 51 = .ok (.iconst 0, 1) := by decide +kernel
theorem dX9_readWord_52 : decode cX9_readWord 52 = .ok (.ireturn, 1) := by decide +kernel
theorem dX9_readWord_53 : decode cX9_readWord 53 = .ok (.aload_n 0, 1) := by decide +kernel
theorem dX9_readWord_54 : decode cX9_readWord 54 = .ok (.getfield 47, 3) := by decide +kernel
theorem dX9_readWord_57 : decode cX9_readWord 57 = .ok (.aload_n 0, 1) := by decide +kernel
theorem dX9_readWord_58 : decode cX9_readWord 58 = .ok (.getfield 26, 3) := by decide +kernel
theorem dX9_readWord_61 : decode cX9_readWord 61 = .ok (.if_icmp .ne 5, 3) := by decide +kernel
theorem dX9_readWord_64 : decode cX9_readWord 64 = .ok (.iconst 1, 1) := by decide +kernel
theorem dX9_readWord_65 : decode cX9_readWord 65 = .ok (.ireturn, 1) := by decide +kernel
theorem dX9_readWord_66 : decode cX9_readWord 66 = .ok (.aload_n 0, 1) := by decide +kernel
theorem dX9_readWord_67 : decode cX9_readWord 67 = .ok (.invokevirtual 70, 3) := by decide +kernel
theorem dX9_readWord_70 : decode cX9_readWord 70 = .ok (.ifCond .ne 5, 3) := by decide +kernel
theorem dX9_readWord_73 : decode cX9_readWord 73 = .ok (.iconst 0, 1) := by decide +kernel
theorem dX9_readWord_74 : decode cX9_readWord 74 = .ok (.ireturn, 1) := by decide +kernel
theorem dX9_readWord_75 : decode cX9_readWord 75 = .ok (.aload_n 0, 1) := by decide +kernel
theorem dX9_readWord_76 : decode cX9_readWord 76 = .ok (.ldc 78, 2) := by decide +kernel
theorem dX9_readWord_78 : decode cX9_readWord 78 = .ok (.invokevirtual 63, 3) := by decide +kernel
theorem dX9_readWord_81 : decode cX9_readWord 81 = .ok (.istore_n 2, 1) := by decide +kernel
theorem dX9_readWord_82 : decode cX9_readWord 82 = .ok (.iload_n 2, 1) := by decide +kernel
theorem dX9_readWord_83 : decode cX9_readWord 83 = .ok (.ifCond .lt 10, 3) := by decide +kernel
theorem dX9_readWord_86 : decode cX9_readWord 86 = .ok (.aload_n 0, 1) := by decide +kernel
theorem dX9_readWord_87 : decode cX9_readWord 87 = .ok (.invokevirtual 70, 3) := by decide +kernel
theorem dX9_readWord_90 : decode cX9_readWord 90 = .ok (.ifCond .ne 5, 3) := by decide +kernel
theorem dX9_readWord_93 : decode cX9_readWord 93 = .ok (.iconst 0, 1) := by decide +kernel
theorem dX9_readWord_94 : decode cX9_readWord 94 = .ok (.ireturn, 1) := by decide +kernel
theorem dX9_readWord_95 : decode cX9_readWord 95 = .ok (.aload_n 1, 1) := by decide +kernel
theorem dX9_readWord_96 : decode cX9_readWord 96 = .ok (.iload_n 2, 1) := by decide +kernel
theorem dX9_readWord_97 : decode cX9_readWord 97 = .ok (.iconst 1, 1) := by decide +kernel
theorem dX9_readWord_98 : decode cX9_readWord 98 = .ok (.if_icmp .ne 7, 3) := by decide +kernel
theorem dX9_readWord_101 : decode cX9_readWord 101 = .ok (.iconst 1, 1) := by decide +kernel
theorem dX9_readWord_102 : decode cX9_readWord 102 = .ok (.goto 4, 3) := by decide +kernel
theorem dX9_readWord_105 : decode cX9_readWord 105 = .ok (.iconst 0, 1) := by decide +kernel
theorem dX9_readWord_106 : decode cX9_readWord 106 = .ok (.putfield 57, 3) := by decide +kernel
theorem dX9_readWord_109 : decode cX9_readWord 109 = .ok (.aload_n 0, 1) := by decide +kernel
theorem dX9_readWord_110 : decode cX9_readWord 110 = .ok (.aload_n 1, 1) := by decide +kernel
theorem dX9_readWord_111 : decode cX9_readWord 111 = .ok (.invokevirtual 80, 3) := by decide +kernel
theorem dX9_readWord_114 : decode cX9_readWord 114 = .ok (.ireturn, 1) := by decide +kernel
theorem dX9_readTests_0 : decode cX9_readTests 0 = .ok (.iconst 0, 1) := by decide +kernel
theorem dX9_readTests_1 : decode cX9_readTests 1 = .ok (.istore_n 2, 1) := by decide +kernel
theorem dX9_readTests_2 : decode cX9_readTests 2 = .ok (.iconst 0, 1) := by decide +kernel
theorem dX9_readTests_3 : decode cX9_readTests 3 = .ok (.istore_n 3, 1) := by decide +kernel
theorem dX9_readTests_4 : decode cX9_readTests 4 = .ok (.iload_n 3, 1) := by decide +kernel
theorem dX9_readTests_5 : decode cX9_readTests 5 = .ok (.iconst 4, 1) := by decide +kernel
theorem dX9_readTests_6 : decode cX9_readTests 6 = .ok (.if_icmp .ge 95, 3) := by decide +kernel
theorem dX9_readTests_9 : decode cX9_readTests 9 = .ok (.aload_n 1, 1) := by decide +kernel
theorem dX9_readTests_10 : decode cX9_readTests 10 = .ok (.getfield 83, 3) := by decide +kernel
theorem dX9_readTests_13 : decode cX9_readTests 13 = .ok (.iload_n 3, 1) := by decide +kernel
theorem dX9_readTests_14 : decode cX9_readTests 14 = .ok (.iload_n 2, 1) := by decide +kernel
theorem dX9_readTests_15 : decode cX9_readTests 15 = .ok (.bastore, 1) := by decide +kernel
theorem dX9_readTests_16 : decode cX9_readTests 16 = .ok (.aload_n 0, 1) := by decide +kernel
theorem dX9_readTests_17 : decode cX9_readTests 17 = .ok (.aload_n 1, 1) := by decide +kernel
theorem dX9_readTests_18 : decode cX9_readTests 18 = .ok (.iload_n 3, 1) := by decide +kernel
theorem dX9_readTests_19 : decode cX9_readTests 19 = .ok (.invokevirtual 87, 3) := by decide +kernel
theorem dX9_readTests_22 : decode cX9_readTests 22 = .ok (.ifCond .ne 5, 3) := by decide +kernel
theorem dX9_readTests_25 : decode cX9_readTests 25 = .ok (.iconst 0, 1) := by decide +kernel
theorem dX9_readTests_26 : decode cX9_readTests 26 = .ok (.ireturn, 1) := by decide +kernel
theorem dX9_readTests_27 : decode cX9_readTests 27 = .ok (.aload_n 1, 1) := by decide +kernel
theorem dX9_readTests_28 : decode cX9_readTests 28 = .ok (.iload_n 3, 1) := by decide +kernel
theorem dX9_readTests_29 : decode cX9_readTests 29 = .ok (.iconst 1, 1) := by decide +kernel
theorem dX9_readTests_30 : decode cX9_readTests 30 = .ok (.iadd, 1) := by decide +kernel
theorem dX9_readTests_31 : decode cX9_readTests 31 = .ok (.putfield 54, 3) := by decide +kernel
theorem dX9_readTests_34 : decode cX9_readTests 34 = .ok (.aload_n 0, 1) := by decide +kernel
theorem dX9_readTests_35 : decode cX9_readTests 35 = .ok (.getfield 47, 3) := by decide +kernel
theorem dX9_readTests_38 : decode cX9_readTests 38 = .ok (.aload_n 0, 1) := by decide +kernel
theorem dX9_readTests_39 : decode cX9_readTests 39 = .ok (.getfield 26, 3) := by decide +kernel
theorem dX9_readTests_42 : decode cX9_readTests 42 = .ok (.if_icmp .ne 5, 3) := by decide +kernel
theorem dX9_readTests_45 : decode cX9_readTests 45 = .ok (.iconst 1, 1) := by decide +kernel
theorem dX9_readTests_46 : decode cX9_readTests 46 = .ok (.ireturn, 1) := by decide +kernel
theorem dX9_readTests_47 : decode cX9_readTests 47 = .ok (.iload_n 3, 1) := by decide +kernel
theorem dX9_readTests_48 : decode cX9_readTests 48 = .ok (.iconst 3, 1) := by decide +kernel
theorem dX9_readTests_49 : decode cX9_readTests 49 = .ok (.if_icmp .eq 10, 3) := by decide +kernel
theorem dX9_readTests_52 : decode cX9_readTests 52 = .ok (.aload_n 0, 1) := by decide +kernel
theorem dX9_readTests_53 : decode cX9_readTests 53 = .ok (.invokevirtual 70, 3) := by decide +kernel
theorem dX9_readTests_56 : decode cX9_readTests 56 = .ok (.ifCond .ne 5, 3) := by decide +kernel
theorem dX9_readTests_59 : decode cX9_readTests 59 = .ok (.iconst 0, 1) := by decide +kernel
theorem dX9_readTests_60 : decode cX9_readTests 60 = .ok (.ireturn, 1) := by decide +kernel
theorem dX9_readTests_61 : decode cX9_readTests 61 = .ok (.aload_n 0, 1) := by decide +kernel
theorem dX9_readTests_62 : decode cX9_readTests 62 = .ok (.ldc 91, 2) := by decide +kernel
theorem dX9_readTests_64 : decode cX9_readTests 64 = .ok (.invokevirtual 63, 3) := by decide +kernel
theorem dX9_readTests_67 : decode cX9_readTests 67 = .ok (.istore 4, 2) := by decide +kernel
theorem dX9_readTests_69 : decode cX9_readTests 69 = .ok (.iload 4, 2) := by decide +kernel
theorem dX9_readTests_71 : decode cX9_readTests 71 = .ok (.ifCond .lt 10, 3) := by decide +kernel
theorem dX9_readTests_74 : decode cX9_readTests 74 = .ok (.aload_n 0, 1) := by decide +kernel
theorem dX9_readTests_75 : decode cX9_readTests 75 = .ok (.invokevirtual 70, 3) := by decide +kernel
theorem dX9_readTests_78 : decode cX9_readTests 78 = .ok (.ifCond .ne 5, 3) := by decide +kernel
theorem dX9_readTests_81 : decode cX9_readTests 81 = .ok (.iconst 0, 1) := by decide +kernel
theorem dX9_readTests_82 : decode cX9_readTests 82 = .ok (.ireturn, 1) := by decide +kernel
theorem dX9_readTests_83 : decode cX9_readTests 83 = .ok (.iload 4, 2) := by decide +kernel
theorem dX9_readTests_85 : decode cX9_readTests 85 = .ok (.iconst 1, 1) := by decide +kernel
theorem dX9_readTests_86 : decode cX9_readTests 86 = .ok (.if_icmp .ne 7, 3) := by decide +kernel
theorem dX9_readTests_89 : decode cX9_readTests 89 = .ok (.iconst 1, 1) := by decide +kernel
theorem dX9_readTests_90 : decode cX9_readTests 90 = .ok (.goto 4, 3) := by decide +kernel
theorem dX9_readTests_93 : decode cX9_readTests 93 = .ok (.iconst 0, 1) := by decide +kernel
theorem dX9_readTests_94 : decode cX9_readTests 94 = .ok (.istore_n 2, 1) := by decide +kernel
theorem dX9_readTests_95 : decode cX9_readTests 95 = .ok (.iinc 3 1, 3) := by decide +kernel
theorem dX9_readTests_98 : decode cX9_readTests 98 = .ok (.goto (-94), 3) := by decide +kernel
theorem dX9_readTests_101 : decode cX9_readTests 101 = .ok (.iconst 0, 1) := by decide +kernel
theorem dX9_readTests_102 : decode cX9_readTests 102 = .ok (.ireturn, 1) := by decide +kernel
theorem dX9_readTest_0 : decode cX9_readTest 0 = .ok (.aload_n 0, 1) := by decide +kernel
theorem dX9_readTest_1 : decode cX9_readTest 1 = .ok (.ldc 93, 2) := by decide +kernel
theorem dX9_readTest_3 : decode cX9_readTest 3 = .ok (.invokevirtual 63, 3) := by decide +kernel
theorem dX9_readTest_6 : decode cX9_readTest 6 = .ok (.istore_n 3, 1) := by decide +kernel
theorem dX9_readTest_7 : decode cX9_readTest 7 = .ok (.aload_n 1, 1) := by decide +kernel
theorem dX9_readTest_8 : decode cX9_readTest 8 = .ok (.getfield 95, 3) := by decide +kernel
theorem dX9_readTest_11 : decode cX9_readTest 11 = .ok (.iload_n 2, 1) := by decide +kernel
theorem dX9_readTest_12 : decode cX9_readTest 12 = .ok (.iload_n 3, 1) := by decide +kernel
theorem dX9_readTest_13 : decode cX9_readTest 13 = .ok (.bipush 6, 2) := by decide +kernel
theorem dX9_readTest_15 : decode cX9_readTest 15 = .ok (.if_icmp .ne 7, 3) := by decide +kernel
theorem dX9_readTest_18 : decode cX9_readTest 18 = .ok (.iconst 1, 1) := by decide +kernel
theorem dX9_readTest_19 : decode cX9_readTest 19 = .ok (.goto 4, 3) := by decide +kernel
theorem dX9_readTest_22 : decode cX9_readTest 22 = .ok (.iconst 0, 1) := by decide +kernel
theorem dX9_readTest_23 : decode cX9_readTest 23 = .ok (.bastore, 1) := by decide +kernel
theorem dX9_readTest_24 : decode cX9_readTest 24 = .ok (.iload_n 3, 1) := by decide +kernel
theorem dX9_readTest_25 : decode cX9_readTest 25 = .ok (.bipush 6, 2) := by decide +kernel
theorem dX9_readTest_27 : decode cX9_readTest 27 = .ok (.if_icmp .ne 21, 3) := by decide +kernel
theorem dX9_readTest_30 : decode cX9_readTest 30 = .ok (.aload_n 0, 1) := by decide +kernel
theorem dX9_readTest_31 : decode cX9_readTest 31 = .ok (.invokevirtual 70, 3) := by decide +kernel
theorem dX9_readTest_34 : decode cX9_readTest 34 = .ok (.ifCond .eq 12, 3) := by decide +kernel
theorem dX9_readTest_37 : decode cX9_readTest 37 = .ok (.aload_n 0, 1) := by decide +kernel
theorem dX9_readTest_38 : decode cX9_readTest 38 = .ok (.ldc 98, 2) := by decide +kernel
theorem dX9_readTest_40 : decode cX9_readTest 40 = .ok (.invokevirtual 63, 3) := by decide +kernel
theorem dX9_readTest_43 : decode cX9_readTest 43 = .ok (.goto 4, 3) := by decide +kernel
theorem dX9_readTest_46 : decode cX9_readTest 46 = .ok (.iconst (-1), 1) := by decide +kernel
theorem dX9_readTest_47 : decode cX9_readTest 47 = .ok (.istore_n 3, 1) := by decide +kernel
theorem dX9_readTest_48 : decode cX9_readTest 48 = .ok (.iload_n 3, 1) := by decide +kernel
theorem dX9_readTest_49 : decode cX9_readTest 49 = .ok (.ifCond .ge 5, 3) := by decide +kernel
theorem dX9_readTest_52 : decode cX9_readTest 52 = .ok (.iconst 0, 1) := by decide +kernel
theorem dX9_readTest_53 : decode cX9_readTest 53 = .ok (.ireturn, 1) := by decide +kernel
theorem dX9_readTest_54 : decode cX9_readTest 54 = .ok (.aload_n 1, 1) := by decide +kernel
theorem dX9_readTest_55 : decode cX9_readTest 55 = .ok (.getfield 100, 3) := by decide +kernel
theorem dX9_readTest_58 : decode cX9_readTest 58 = .ok (.iload_n 2, 1) := by decide +kernel
theorem dX9_readTest_59 : decode cX9_readTest 59 = .ok (.iload_n 3, 1) := by decide +kernel
theorem dX9_readTest_60 : decode cX9_readTest 60 = .ok (.iastore, 1) := by decide +kernel
theorem dX9_readTest_61 : decode cX9_readTest 61 = .ok (.aload_n 1, 1) := by decide +kernel
theorem dX9_readTest_62 : decode cX9_readTest 62 = .ok (.getfield 103, 3) := by decide +kernel
theorem dX9_readTest_65 : decode cX9_readTest 65 = .ok (.iload_n 2, 1) := by decide +kernel
theorem dX9_readTest_66 : decode cX9_readTest 66 = .ok (.aload_n 0, 1) := by decide +kernel
theorem dX9_readTest_67 : decode cX9_readTest 67 = .ok (.ldc 106, 2) := by decide +kernel
theorem dX9_readTest_69 : decode cX9_readTest 69 = .ok (.invokevirtual 63, 3) := by decide +kernel
theorem dX9_readTest_72 : decode cX9_readTest 72 = .ok (.iastore, 1) := by decide +kernel
theorem dX9_readTest_73 : decode cX9_readTest 73 = .ok (.aload_n 1, 1) := by decide +kernel
theorem dX9_readTest_74 : decode cX9_readTest 74 = .ok (.getfield 103, 3) := by decide +kernel
theorem dX9_readTest_77 : decode cX9_readTest 77 = .ok (.iload_n 2, 1) := by decide +kernel
theorem dX9_readTest_78 : decode cX9_readTest 78 = .ok (.iaload, 1) := by decide +kernel
theorem dX9_readTest_79 : decode cX9_readTest 79 = .ok (.ifCond .ge 5, 3) := by decide +kernel
theorem dX9_readTest_82 : decode cX9_readTest 82 = .ok (.iconst 0, 1) := by decide +kernel
theorem dX9_readTest_83 : decode cX9_readTest 83 = .ok (.ireturn, 1) := by decide +kernel
theorem dX9_readTest_84 : decode cX9_readTest 84 = .ok (.aload_n 1, 1) := by decide +kernel
theorem dX9_readTest_85 : decode cX9_readTest 85 = .ok (.getfield 108, 3) := by decide +kernel
theorem dX9_readTest_88 : decode cX9_readTest 88 = .ok (.iload_n 2, 1) := by decide +kernel
theorem dX9_readTest_89 : decode cX9_readTest 89 = .ok (.aload_n 0, 1) := by decide +kernel
theorem dX9_readTest_90 : decode cX9_readTest 90 = .ok (.invokevirtual 74, 3) := by decide +kernel
theorem dX9_readTest_93 : decode cX9_readTest 93 = .ok (.iastore, 1) := by decide +kernel
theorem dX9_readTest_94 : decode cX9_readTest 94 = .ok (.aload_n 1, 1) := by decide +kernel
theorem dX9_readTest_95 : decode cX9_readTest 95 = .ok (.getfield 108, 3) := by decide +kernel
theorem dX9_readTest_98 : decode cX9_readTest 98 = .ok (.iload_n 2, 1) := by decide +kernel
theorem dX9_readTest_99 : decode cX9_readTest 99 = .ok (.iaload, 1) := by decide +kernel
theorem dX9_readTest_100 : decode cX9_readTest 100 = .ok (.ifCond .lt 7, 3) := by decide +kernel
theorem dX9_readTest_103 : decode cX9_readTest 103 = .ok (.iconst 1, 1) := by decide +kernel
theorem dX9_readTest_104 : decode cX9_readTest 104 = .ok (.goto 4, 3) := by decide +kernel
theorem dX9_readTest_107 : decode cX9_readTest 107 = .ok (.iconst 0, 1) := by decide +kernel
theorem dX9_readTest_108 : decode cX9_readTest 108 = .ok (.ireturn, 1) := by decide +kernel
theorem dX9_readBlank_0 : decode cX9_readBlank 0 = .ok (.aload_n 0, 1) := by decide +kernel
theorem dX9_readBlank_1 : decode cX9_readBlank 1 = .ok (.getfield 47, 3) := by decide +kernel
theorem dX9_readBlank_4 : decode cX9_readBlank 4 = .ok (.aload_n 0, 1) := by decide +kernel
theorem dX9_readBlank_5 : decode cX9_readBlank 5 = .ok (.getfield 26, 3) := by decide +kernel
theorem dX9_readBlank_8 : decode cX9_readBlank 8 = .ok (.if_icmp .ge 17, 3) := by decide +kernel
theorem dX9_readBlank_11 : decode cX9_readBlank 11 = .ok (.aload_n 0, 1) := by decide +kernel
theorem dX9_readBlank_12 : decode cX9_readBlank 12 = .ok (.getfield 17, 3) := by decide +kernel
theorem dX9_readBlank_15 : decode cX9_readBlank 15 = .ok (.aload_n 0, 1) := by decide +kernel
theorem dX9_readBlank_16 : decode cX9_readBlank 16 = .ok (.getfield 47, 3) := by decide +kernel
theorem dX9_readBlank_19 : decode cX9_readBlank 19 = .ok (.baload, 1) := by decide +kernel
theorem dX9_readBlank_20 : decode cX9_readBlank 20 = .ok (.bipush 32, 2) := by decide +kernel
theorem dX9_readBlank_22 : decode cX9_readBlank 22 = .ok (.if_icmp .eq 5, 3) := by decide +kernel
theorem dX9_readBlank_25 : decode cX9_readBlank 25 = .ok (.iconst 0, 1) := by decide +kernel
theorem dX9_readBlank_26 : decode cX9_readBlank 26 = .ok (.ireturn, 1) := by decide +kernel
theorem dX9_readBlank_27 : decode cX9_readBlank 27 = .ok (.aload_n 0, 1) := by decide +kernel
theorem dX9_readBlank_28 : decode cX9_readBlank 28 = .ok (.dup, 1) := by decide +kernel
theorem dX9_readBlank_29 : decode cX9_readBlank 29 = .ok (.getfield 47, 3) := by decide +kernel
theorem dX9_readBlank_32 : decode cX9_readBlank 32 = .ok (.iconst 1, 1) := by decide +kernel
theorem dX9_readBlank_33 : decode cX9_readBlank 33 = .ok (.iadd, 1) := by decide +kernel
theorem dX9_readBlank_34 : decode cX9_readBlank 34 = .ok (.putfield 47, 3) := by decide +kernel
theorem dX9_readBlank_37 : decode cX9_readBlank 37 = .ok (.iconst 1, 1) := by decide +kernel
theorem dX9_readBlank_38 : decode cX9_readBlank 38 = .ok (.ireturn, 1) := by decide +kernel
theorem dX9_readNumber_0 : decode cX9_readNumber 0 = .ok (.iconst (-1), 1) := by decide +kernel
theorem dX9_readNumber_1 : decode cX9_readNumber 1 = .ok (.istore_n 1, 1) := by decide +kernel
theorem dX9_readNumber_2 : decode cX9_readNumber 2 = .ok (.iconst 0, 1) := by decide +kernel
theorem dX9_readNumber_3 : decode cX9_readNumber 3 = .ok (.istore_n 2, 1) := by decide +kernel
theorem dX9_readNumber_4 : decode cX9_readNumber 4 = .ok (.iload_n 2, 1) := by decide +kernel
theorem dX9_readNumber_5 : decode cX9_readNumber 5 = .ok (.iconst 5, 1) := by decide +kernel
theorem dX9_readNumber_6 : decode cX9_readNumber 6 = .ok (.if_icmp .ge 66, 3) := by decide +kernel
theorem dX9_readNumber_9 : decode cX9_readNumber 9 = .ok (.aload_n 0, 1) := by decide +kernel
theorem dX9_readNumber_10 : decode cX9_readNumber 10 = .ok (.getfield 47, 3) := by decide +kernel
theorem dX9_readNumber_13 : decode cX9_readNumber 13 = .ok (.aload_n 0, 1) := by decide +kernel
theorem dX9_readNumber_14 : decode cX9_readNumber 14 = .ok (.getfield 26, 3) := by decide +kernel
theorem dX9_readNumber_17 : decode cX9_readNumber 17 = .ok (.if_icmp .ge 55, 3) := by decide +kernel
theorem dX9_readNumber_20 : decode cX9_readNumber 20 = .ok (.aload_n 0, 1) := by decide +kernel
theorem dX9_readNumber_21 : decode cX9_readNumber 21 = .ok (.getfield 17, 3) := by decide +kernel
theorem dX9_readNumber_24 : decode cX9_readNumber 24 = .ok (.aload_n 0, 1) := by decide +kernel
theorem dX9_readNumber_25 : decode cX9_readNumber 25 = .ok (.getfield 47, 3) := by decide +kernel
theorem dX9_readNumber_28 : decode cX9_readNumber 28 = .ok (.baload, 1) := by decide +kernel
theorem dX9_readNumber_29 : decode cX9_readNumber 29 = .ok (.bipush 48, 2) := by decide +kernel
theorem dX9_readNumber_31 : decode cX9_readNumber 31 = .ok (.isub, 1) := by decide +kernel
theorem dX9_readNumber_32 : decode cX9_readNumber 32 = .ok (.istore_n 3, 1) := by decide +kernel
theorem dX9_readNumber_33 : decode cX9_readNumber 33 = .ok (.iload_n 3, 1) := by decide +kernel
theorem dX9_readNumber_34 : decode cX9_readNumber 34 = .ok (.ifCond .lt 9, 3) := by decide +kernel
theorem dX9_readNumber_37 : decode cX9_readNumber 37 = .ok (.iload_n 3, 1) := by decide +kernel
theorem dX9_readNumber_38 : decode cX9_readNumber 38 = .ok (.bipush 9, 2) := by decide +kernel
theorem dX9_readNumber_40 : decode cX9_readNumber 40 = .ok (.if_icmp .le 5, 3) := by decide +kernel
theorem dX9_readNumber_43 : decode cX9_readNumber 43 = .ok (.iload_n 1, 1) := by decide +kernel
theorem dX9_readNumber_44 : decode cX9_readNumber 44 = .ok (.ireturn, 1) := by decide +kernel
theorem dX9_readNumber_45 : decode cX9_readNumber 45 = .ok (.iload_n 1, 1) := by decide +kernel
theorem dX9_readNumber_46 : decode cX9_readNumber 46 = .ok (.iconst 0, 1) := by decide +kernel
theorem dX9_readNumber_47 : decode cX9_readNumber 47 = .ok (.invokestatic 111, 3) := by decide +kernel
theorem dX9_readNumber_50 : decode cX9_readNumber 50 = .ok (.bipush 10, 2) := by decide +kernel
theorem dX9_readNumber_52 : decode cX9_readNumber 52 = .ok (.imul, 1) := by decide +kernel
theorem dX9_readNumber_53 : decode cX9_readNumber 53 = .ok (.iload_n 3, 1) := by decide +kernel
theorem dX9_readNumber_54 : decode cX9_readNumber 54 = .ok (.iadd, 1) := by decide +kernel
theorem dX9_readNumber_55 : decode cX9_readNumber 55 = .ok (.istore_n 1, 1) := by decide +kernel
theorem dX9_readNumber_56 : decode cX9_readNumber 56 = .ok (.aload_n 0, 1) := by decide +kernel
theorem dX9_readNumber_57 : decode cX9_readNumber 57 = .ok (.dup, 1) := by decide +kernel
theorem dX9_readNumber_58 : decode cX9_readNumber 58 = .ok (.getfield 47, 3) := by decide +kernel
theorem dX9_readNumber_61 : decode cX9_readNumber 61 = .ok (.iconst 1, 1) := by decide +kernel
theorem dX9_readNumber_62 : decode cX9_readNumber 62 = .ok (.iadd, 1) := by decide +kernel
theorem dX9_readNumber_63 : decode cX9_readNumber 63 = .ok (.putfield 47, 3) := by decide +kernel
theorem dX9_readNumber_66 : decode cX9_readNumber 66 = .ok (.iinc 2 1, 3) := by decide +kernel
theorem dX9_readNumber_69 : decode cX9_readNumber 69 = .ok (.goto (-65), 3) := by decide +kernel
theorem dX9_readNumber_72 : decode cX9_readNumber 72 = .ok (.iload_n 1, 1) := by decide +kernel
theorem dX9_readNumber_73 : decode cX9_readNumber 73 = .ok (.ireturn, 1) := by decide +kernel
theorem dX9_readName_0 : decode cX9_readName 0 = .ok (.iconst 0, 1) := by decide +kernel
theorem dX9_readName_1 : decode cX9_readName 1 = .ok (.istore_n 2, 1) := by decide +kernel
theorem dX9_readName_2 : decode cX9_readName 2 = .ok (.iconst 0, 1) := by decide +kernel
theorem dX9_readName_3 : decode cX9_readName 3 = .ok (.istore_n 3, 1) := by decide +kernel
theorem dX9_readName_4 : decode cX9_readName 4 = .ok (.iconst 0, 1) := by decide +kernel
theorem dX9_readName_5 : decode cX9_readName 5 = .ok (.istore 4, 2) := by decide +kernel
theorem dX9_readName_7 : decode cX9_readName 7 = .ok (.iconst 1, 1) := by decide +kernel
theorem dX9_readName_8 : decode cX9_readName 8 = .ok (.istore 5, 2) := by decide +kernel
theorem dX9_readName_10 : decode cX9_readName 10 = .ok (.iconst 0, 1) := by decide +kernel
theorem dX9_readName_11 : decode cX9_readName 11 = .ok (.istore 6, 2) := by decide +kernel
theorem dX9_readName_13 : decode cX9_readName 13 = .ok (.iload 6, 2) := by decide +kernel
theorem dX9_readName_15 : decode cX9_readName 15 = .ok (.aload_n 1, 1) := by decide +kernel
theorem dX9_readName_16 : decode cX9_readName 16 = .ok (.invokevirtual 117, 3) := by decide +kernel
theorem dX9_readName_19 : decode cX9_readName 19 = .ok (.if_icmp .ge 109, 3) := by decide +kernel
theorem dX9_readName_22 : decode cX9_readName 22 = .ok (.aload_n 1, 1) := by decide +kernel
theorem dX9_readName_23 : decode cX9_readName 23 = .ok (.iload 6, 2) := by decide +kernel
theorem dX9_readName_25 : decode cX9_readName 25 = .ok (.invokevirtual 121, 3) := by decide +kernel
theorem dX9_readName_28 : decode cX9_readName 28 = .ok (.istore 7, 2) := by decide +kernel
theorem dX9_readName_30 : decode cX9_readName 30 = .ok (.iload 7, 2) := by decide +kernel
theorem dX9_readName_32 : decode cX9_readName 32 = .ok (.bipush 32, 2) := by decide +kernel
theorem dX9_readName_34 : decode cX9_readName 34 = .ok (.if_icmp .ne 31, 3) := by decide +kernel
theorem dX9_readName_37 : decode cX9_readName 37 = .ok (.iload 5, 2) := by decide +kernel
theorem dX9_readName_39 : decode cX9_readName 39 = .ok (.ifCond .eq 15, 3) := by decide +kernel
theorem dX9_readName_42 : decode cX9_readName 42 = .ok (.aload_n 0, 1) := by decide +kernel
theorem dX9_readName_43 : decode cX9_readName 43 = .ok (.dup, 1) := by decide +kernel
theorem dX9_readName_44 : decode cX9_readName 44 = .ok (.getfield 47, 3) := by decide +kernel
theorem dX9_readName_47 : decode cX9_readName 47 = .ok (.iload_n 3, 1) := by decide +kernel
theorem dX9_readName_48 : decode cX9_readName 48 = .ok (.iadd, 1) := by decide +kernel
theorem dX9_readName_49 : decode cX9_readName 49 = .ok (.putfield 47, 3) := by decide +kernel
theorem dX9_readName_52 : decode cX9_readName 52 = .ok (.iload_n 2, 1) := by decide +kernel
theorem dX9_readName_53 : decode cX9_readName 53 = .ok (.ireturn, 1) := by decide +kernel
theorem dX9_readName_54 : decode cX9_readName 54 = .ok (.iinc 2 1, 3) := by decide +kernel
theorem dX9_readName_57 : decode cX9_readName 57 = .ok (.iconst 0, 1) := by decide +kernel
theorem dX9_readName_58 : decode cX9_readName 58 = .ok (.istore_n 3, 1) := by decide +kernel
theorem dX9_readName_59 : decode cX9_readName 59 = .ok (.iconst 1, 1) := by decide +kernel
theorem dX9_readName_60 : decode cX9_readName 60 = .ok (.istore 5, 2) := by decide +kernel
theorem dX9_readName_62 : decode cX9_readName 62 = .ok (.goto 60, 3) := by decide +kernel
theorem dX9_readName_65 : decode cX9_readName 65 = .ok (.iload 5, 2) := by decide +kernel
theorem dX9_readName_67 : decode cX9_readName 67 = .ok (.ifCond .eq 55, 3) := by decide +kernel
theorem dX9_readName_70 : decode cX9_readName 70 = .ok (.aload_n 0, 1) := by decide +kernel
theorem dX9_readName_71 : decode cX9_readName 71 = .ok (.getfield 47, 3) := by decide +kernel
theorem dX9_readName_74 : decode cX9_readName 74 = .ok (.iload_n 3, 1) := by decide +kernel
theorem dX9_readName_75 : decode cX9_readName 75 = .ok (.iadd, 1) := by decide +kernel
theorem dX9_readName_76 : decode cX9_readName 76 = .ok (.aload_n 0, 1) := by decide +kernel
theorem dX9_readName_77 : decode cX9_readName 77 = .ok (.getfield 26, 3) := by decide +kernel
theorem dX9_readName_80 : decode cX9_readName 80 = .ok (.if_icmp .ge 23, 3) := by decide +kernel
theorem dX9_readName_83 : decode cX9_readName 83 = .ok (.aload_n 0, 1) := by decide +kernel
theorem dX9_readName_84 : decode cX9_readName 84 = .ok (.getfield 17, 3) := by decide +kernel
theorem dX9_readName_87 : decode cX9_readName 87 = .ok (.aload_n 0, 1) := by decide +kernel
theorem dX9_readName_88 : decode cX9_readName 88 = .ok (.getfield 47, 3) := by decide +kernel
theorem dX9_readName_91 : decode cX9_readName 91 = .ok (.iload_n 3, 1) := by decide +kernel
theorem dX9_readName_92 : decode cX9_readName 92 = .ok (.iadd, 1) := by decide +kernel
theorem dX9_readName_93 : decode cX9_readName 93 = .ok (.baload, 1) := by decide +kernel
theorem dX9_readName_94 : decode cX9_readName 94 = .ok (.iload 7, 2) := by decide +kernel
theorem dX9_readName_96 : decode cX9_readName 96 = .ok (.if_icmp .ne 7, 3) := by decide +kernel
theorem dX9_readName_99 : decode cX9_readName 99 = .ok (.iconst 1, 1) := by decide +kernel
theorem dX9_readName_100 : decode cX9_readName 100 = .ok (.goto 4, 3) := by decide +kernel
theorem dX9_readName_103 : decode cX9_readName 103 = .ok (.iconst 0, 1) := by decide +kernel
theorem dX9_readName_104 : decode cX9_readName 104 = .ok (.istore 5, 2) := by decide +kernel
theorem dX9_readName_106 : decode cX9_readName 106 = .ok (.iload 5, 2) := by decide +kernel
theorem dX9_readName_108 : decode cX9_readName 108 = .ok (.ifCond .eq 6, 3) := by decide +kernel
theorem dX9_readName_111 : decode cX9_readName 111 = .ok (.iinc 3 1, 3) := by decide +kernel
theorem dX9_readName_114 : decode cX9_readName 114 = .ok (.iload 4, 2) := by decide +kernel
theorem dX9_readName_116 : decode cX9_readName 116 = .ok (.iload_n 3, 1) := by decide +kernel
theorem dX9_readName_117 : decode cX9_readName 117 = .ok (.invokestatic 111, 3) := by decide +kernel
theorem dX9_readName_120 : decode cX9_readName 120 = .ok (.istore 4, 2) := by decide +kernel
theorem dX9_readName_122 : decode cX9_readName 122 = .ok (.iinc 6 1, 3) := by decide +kernel
theorem dX9_readName_125 : decode cX9_readName 125 = .ok (.goto (-112), 3) := by decide +kernel
theorem dX9_readName_128 : decode cX9_readName 128 = .ok (.aload_n 0, 1) := by decide +kernel
theorem dX9_readName_129 : decode cX9_readName 129 = .ok (.dup, 1) := by decide +kernel
theorem dX9_readName_130 : decode cX9_readName 130 = .ok (.getfield 47, 3) := by decide +kernel
theorem dX9_readName_133 : decode cX9_readName 133 = .ok (.iload 4, 2) := by decide +kernel
theorem dX9_readName_135 : decode cX9_readName 135 = .ok (.iadd, 1) := by decide +kernel
theorem dX9_readName_136 : decode cX9_readName 136 = .ok (.putfield 47, 3) := by decide +kernel
theorem dX9_readName_139 : decode cX9_readName 139 = .ok (.iconst (-1), 1) := by decide +kernel
theorem dX9_readName_140 : decode cX9_readName 140 = .ok (.ireturn, 1) := by decide +kernel
theorem dJ6_bitCount_0f7a4_0 : decode cJ6_bitCount_0f7a4 0 = .ok (.iload_n 0, 1) := by decide +kernel
theorem dJ6_bitCount_0f7a4_1 : decode cJ6_bitCount_0f7a4 1 = .ok (.iload_n 0, 1) := by decide +kernel
theorem dJ6_bitCount_0f7a4_2 : decode cJ6_bitCount_0f7a4 2 = .ok (.iconst 1, 1) := by decide +kernel
theorem dJ6_bitCount_0f7a4_3 : decode cJ6_bitCount_0f7a4 3 = .ok (.iushr, 1) := by decide +kernel
theorem dJ6_bitCount_0f7a4_4 : decode cJ6_bitCount_0f7a4 4 = .ok (.ldc_w 265, 3) := by decide +kernel
theorem dJ6_bitCount_0f7a4_7 : decode cJ6_bitCount_0f7a4 7 = .ok (.iand, 1) := by decide +kernel
theorem dJ6_bitCount_0f7a4_8 : decode cJ6_bitCount_0f7a4 8 = .ok (.isub, 1) := by decide +kernel
theorem dJ6_bitCount_0f7a4_9 : decode cJ6_bitCount_0f7a4 9 = .ok (.istore_n 0, 1) := by decide +kernel
theorem dJ6_bitCount_0f7a4_10 : decode cJ6_bitCount_0f7a4 10 = .ok (.iload_n 0, 1) := by decide +kernel
theorem dJ6_bitCount_0f7a4_11 : decode cJ6_bitCount_0f7a4 11 = .ok (.ldc_w 266, 3) := by decide +kernel
theorem dJ6_bitCount_0f7a4_14 : decode cJ6_bitCount_0f7a4 14 = .ok (.iand, 1) := by decide +kernel
theorem dJ6_bitCount_0f7a4_15 : decode cJ6_bitCount_0f7a4 15 = .ok (.iload_n 0, 1) := by decide +kernel
theorem dJ6_bitCount_0f7a4_16 : decode cJ6_bitCount_0f7a4 16 = .ok (.iconst 2, 1) := by decide +kernel
theorem dJ6_bitCount_0f7a4_17 : decode cJ6_bitCount_0f7a4 17 = .ok (.iushr, 1) := by decide +kernel
theorem dJ6_bitCount_0f7a4_18 : decode cJ6_bitCount_0f7a4 18 = .ok (.ldc_w 266, 3) := by decide +kernel
theorem dJ6_bitCount_0f7a4_21 : decode cJ6_bitCount_0f7a4 21 = .ok (.iand, 1) := by decide +kernel
theorem dJ6_bitCount_0f7a4_22 : decode cJ6_bitCount_0f7a4 22 = .ok (.iadd, 1) := by decide +kernel
theorem dJ6_bitCount_0f7a4_23 : decode cJ6_bitCount_0f7a4 23 = .ok (.istore_n 0, 1) := by decide +kernel
theorem dJ6_bitCount_0f7a4_24 : decode cJ6_bitCount_0f7a4 24 = .ok (.iload_n 0, 1) := by decide +kernel
theorem dJ6_bitCount_0f7a4_25 : decode cJ6_bitCount_0f7a4 25 = .ok (.iload_n 0, 1) := by decide +kernel
theorem dJ6_bitCount_0f7a4_26 : decode cJ6_bitCount_0f7a4 26 = .ok (.iconst 4, 1) := by decide +kernel
theorem dJ6_bitCount_0f7a4_27 : decode cJ6_bitCount_0f7a4 27 = .ok (.iushr, 1) := by decide +kernel
theorem dJ6_bitCount_0f7a4_28 : decode cJ6_bitCount_0f7a4 28 = .ok (.iadd, 1) := by decide +kernel
theorem dJ6_bitCount_0f7a4_29 : decode cJ6_bitCount_0f7a4 29 = .ok (.ldc_w 267, 3) := by decide +kernel
theorem dJ6_bitCount_0f7a4_32 : decode cJ6_bitCount_0f7a4 32 = .ok (.iand, 1) := by decide +kernel
theorem dJ6_bitCount_0f7a4_33 : decode cJ6_bitCount_0f7a4 33 = .ok (.istore_n 0, 1) := by decide +kernel
theorem dJ6_bitCount_0f7a4_34 : decode cJ6_bitCount_0f7a4 34 = .ok (.iload_n 0, 1) := by decide +kernel
theorem dJ6_bitCount_0f7a4_35 : decode cJ6_bitCount_0f7a4 35 = .ok (.iload_n 0, 1) := by decide +kernel
theorem dJ6_bitCount_0f7a4_36 : decode cJ6_bitCount_0f7a4 36 = .ok (.bipush 8, 2) := by decide +kernel
theorem dJ6_bitCount_0f7a4_38 : decode cJ6_bitCount_0f7a4 38 = .ok (.iushr, 1) := by decide +kernel
theorem dJ6_bitCount_0f7a4_39 : decode cJ6_bitCount_0f7a4 39 = .ok (.iadd, 1) := by decide +kernel
theorem dJ6_bitCount_0f7a4_40 : decode cJ6_bitCount_0f7a4 40 = .ok (.istore_n 0, 1) := by decide +kernel
theorem dJ6_bitCount_0f7a4_41 : decode cJ6_bitCount_0f7a4 41 = .ok (.iload_n 0, 1) := by decide +kernel
theorem dJ6_bitCount_0f7a4_42 : decode cJ6_bitCount_0f7a4 42 = .ok (.iload_n 0, 1) := by decide +kernel
theorem dJ6_bitCount_0f7a4_43 : decode cJ6_bitCount_0f7a4 43 = .ok (.bipush 16, 2) := by decide +kernel
theorem dJ6_bitCount_0f7a4_45 : decode cJ6_bitCount_0f7a4 45 = .ok (.iushr, 1) := by decide +kernel
theorem dJ6_bitCount_0f7a4_46 : decode cJ6_bitCount_0f7a4 46 = .ok (.iadd, 1) := by decide +kernel
theorem dJ6_bitCount_0f7a4_47 : decode cJ6_bitCount_0f7a4 47 = .ok (.istore_n 0, 1) := by decide +kernel
theorem dJ6_bitCount_0f7a4_48 : decode cJ6_bitCount_0f7a4 48 = .ok (.iload_n 0, 1) := by decide +kernel
theorem dJ6_bitCount_0f7a4_49 : decode cJ6_bitCount_0f7a4 49 = .ok (.bipush 63, 2) := by decide +kernel
theorem dJ6_bitCount_0f7a4_51 : decode cJ6_bitCount_0f7a4 51 = .ok (.iand, 1) := by decide +kernel
theorem dJ6_bitCount_0f7a4_52 : decode cJ6_bitCount_0f7a4 52 = .ok (.ireturn, 1) := by decide +kernel
theorem dJ9_max_7cf53_0 : decode cJ9_max_7cf53 0 = .ok (.iload_n 0, 1) := by decide +kernel
theorem dJ9_max_7cf53_1 : decode cJ9_max_7cf53 1 = .ok (.iload_n 1, 1) := by decide +kernel
theorem dJ9_max_7cf53_2 : decode cJ9_max_7cf53 2 = .ok (.if_icmp .lt 7, 3) := by decide +kernel
theorem dJ9_max_7cf53_5 : decode cJ9_max_7cf53 5 = .ok (.iload_n 0, 1) := by decide +kernel
theorem dJ9_max_7cf53_6 : decode cJ9_max_7cf53 6 = .ok (.goto 4, 3) := by decide +kernel
theorem dJ9_max_7cf53_9 : decode cJ9_max_7cf53 9 = .ok (.iload_n 1, 1) := by decide +kernel
theorem dJ9_max_7cf53_10 : decode cJ9_max_7cf53 10 = .ok (.ireturn, 1) := by decide +kernel
theorem dJ9_min_7cf53_0 : decode cJ9_min_7cf53 0 = .ok (.iload_n 0, 1) := by decide +kernel
theorem dJ9_min_7cf53_1 : decode cJ9_min_7cf53 1 = .ok (.iload_n 1, 1) := by decide +kernel
theorem dJ9_min_7cf53_2 : decode cJ9_min_7cf53 2 = .ok (.if_icmp .gt 7, 3) := by decide +kernel
theorem dJ9_min_7cf53_5 : decode cJ9_min_7cf53 5 = .ok (.iload_n 0, 1) := by decide +kernel
theorem dJ9_min_7cf53_6 : decode cJ9_min_7cf53 6 = .ok (.goto 4, 3) := by decide +kernel
theorem dJ9_min_7cf53_9 : decode cJ9_min_7cf53 9 = .ok (.iload_n 1, 1) := by decide +kernel
theorem dJ9_min_7cf53_10 : decode cJ9_min_7cf53 10 = .ok (.ireturn, 1) := by decide +kernel
theorem dJ9_min_f86c9_0 : decode cJ9_min_f86c9 0 = .ok (.lload_n 0, 1) := by decide +kernel
theorem dJ9_min_f86c9_1 : decode cJ9_min_f86c9 1 = .ok (.lload_n 2, 1) := by decide +kernel
theorem dJ9_min_f86c9_2 : decode cJ9_min_f86c9 2 = .ok (.lcmp, 1) := by decide +kernel
theorem dJ9_min_f86c9_3 : decode cJ9_min_f86c9 3 = .ok (.ifCond .gt 7, 3) := by decide +kernel
theorem dJ9_min_f86c9_6 : decode cJ9_min_f86c9 6 = .ok (.lload_n 0, 1) := by decide +kernel
theorem dJ9_min_f86c9_7 : decode cJ9_min_f86c9 7 = .ok (.goto 4, 3) := by decide +kernel
theorem dJ9_min_f86c9_10 : decode cJ9_min_f86c9 10 = .ok (.lload_n 2, 1) := by decide +kernel
theorem dJ9_min_f86c9_11 : decode cJ9_min_f86c9 11 = .ok (.lreturn, 1) := by decide +kernel
theorem dJ0_length_8abf5_0 : decode cJ0_length_8abf5 0 = .ok (.aload_n 0, 1) := by decide +kernel
theorem dJ0_length_8abf5_1 : decode cJ0_length_8abf5 1 = .ok (.getfield 9, 3) := by decide +kernel
theorem dJ0_length_8abf5_4 : decode cJ0_length_8abf5 4 = .ok (.arraylength, 1) := by decide +kernel
theorem dJ0_length_8abf5_5 : decode cJ0_length_8abf5 5 = .ok (.aload_n 0, 1) := by decide +kernel
theorem dJ0_length_8abf5_6 : decode cJ0_length_8abf5 6 = .ok (.invokevirtual 335, 3) := by decide +kernel
theorem dJ0_length_8abf5_9 : decode cJ0_length_8abf5 9 = .ok (.ishr, 1) := by decide +kernel
theorem dJ0_length_8abf5_10 : decode cJ0_length_8abf5 10 = .ok (.ireturn, 1) := by decide +kernel
theorem dJ0_charAt_5068e_0 : decode cJ0_charAt_5068e 0 = .ok (.aload_n 0, 1) := by decide +kernel
theorem dJ0_charAt_5068e_1 : decode cJ0_charAt_5068e 1 = .ok (.invokevirtual 492, 3) := by decide +kernel
theorem dJ0_charAt_5068e_4 : decode cJ0_charAt_5068e 4 = .ok (.ifCond .eq 12, 3) := by decide +kernel
theorem dJ0_charAt_5068e_7 : decode cJ0_charAt_5068e 7 = .ok (.aload_n 0, 1) := by decide +kernel
theorem dJ0_charAt_5068e_8 : decode cJ0_charAt_5068e 8 = .ok (.getfield 9, 3) := by decide +kernel
theorem dJ0_charAt_5068e_11 : decode cJ0_charAt_5068e 11 = .ok (.iload_n 1, 1) := by decide +kernel
theorem dJ0_charAt_5068e_12 : decode cJ0_charAt_5068e 12 = .ok (.invokestatic 495, 3) := by decide +kernel
theorem dJ0_charAt_5068e_15 : decode cJ0_charAt_5068e 15 = .ok (.ireturn, 1) := by decide +kernel
theorem dJ0_charAt_5068e_16 : decode cJ0_charAt_5068e 16 = .ok (.aload_n 0, 1) := by decide +kernel
theorem dJ0_charAt_5068e_17 : decode cJ0_charAt_5068e 17 = .ok (.getfield 9, 3) := by decide +kernel
theorem dJ0_charAt_5068e_20 : decode cJ0_charAt_5068e 20 = .ok (.iload_n 1, 1) := by decide +kernel
theorem dJ0_charAt_5068e_21 : decode cJ0_charAt_5068e 21 = .ok (.invokestatic 498, 3) := by decide +kernel
theorem dJ0_charAt_5068e_24 : decode cJ0_charAt_5068e 24 = .ok (.ireturn, 1) := by decide +kernel
theorem dJ0_coder_7d493_0 : decode cJ0_coder_7d493 0 = .ok (.getstatic 38, 3) := by decide +kernel
theorem dJ0_coder_7d493_3 : decode cJ0_coder_7d493 3 = .ok (.ifCond .eq 10, 3) := by decide +kernel
theorem dJ0_coder_7d493_6 : decode cJ0_coder_7d493 6 = .ok (.aload_n 0, 1) := by decide +kernel
theorem dJ0_coder_7d493_7 : decode cJ0_coder_7d493 7 = .ok (.getfield 15, 3) := by decide +kernel
theorem dJ0_coder_7d493_10 : decode cJ0_coder_7d493 10 = .ok (.goto 4, 3) := by decide +kernel
theorem dJ0_coder_7d493_13 : decode cJ0_coder_7d493 13 = .ok (.iconst 1, 1) := by decide +kernel
theorem dJ0_coder_7d493_14 : decode cJ0_coder_7d493 14 = .ok (.ireturn, 1) := by decide +kernel
theorem dJ0_isLatin1_aae02_0 : decode cJ0_isLatin1_aae02 0 = .ok (.getstatic 38, 3) := by decide +kernel
theorem dJ0_isLatin1_aae02_3 : decode cJ0_isLatin1_aae02 3 = .ok (.ifCond .eq 14, 3) := by decide +kernel
theorem dJ0_isLatin1_aae02_6 : decode cJ0_isLatin1_aae02 6 = .ok (.aload_n 0, 1) := by decide +kernel
theorem dJ0_isLatin1_aae02_7 : decode cJ0_isLatin1_aae02 7 = .ok (.getfield 15, 3) := by decide +kernel
theorem dJ0_isLatin1_aae02_10 : decode cJ0_isLatin1_aae02 10 = .ok (.ifCond .ne 7, 3) := by decide +kernel
theorem dJ0_isLatin1_aae02_13 : decode cJ0_isLatin1_aae02 13 = .ok (.iconst 1, 1) := by decide +kernel
theorem dJ0_isLatin1_aae02_14 : decode cJ0_isLatin1_aae02 14 = .ok (.goto 4, 3) := by decide +kernel
theorem dJ0_isLatin1_aae02_17 : decode cJ0_isLatin1_aae02 17 = .ok (.iconst 0, 1) := by decide +kernel
theorem dJ0_isLatin1_aae02_18 : decode cJ0_isLatin1_aae02 18 = .ok (.ireturn, 1) := by decide +kernel
theorem dJ0_checkIndex_df160_0 : decode cJ0_checkIndex_df160 0 = .ok (.iload_n 0, 1) := by decide +kernel
theorem dJ0_checkIndex_df160_1 : decode cJ0_checkIndex_df160 1 = .ok (.iload_n 1, 1) := by decide +kernel
theorem dJ0_checkIndex_df160_2 : decode cJ0_checkIndex_df160 2 = .ok (.getstatic 1053, 3) := by decide +kernel
theorem dJ0_checkIndex_df160_5 : decode cJ0_checkIndex_df160 5 = .ok (.invokestatic 1059, 3) := by decide +kernel
theorem dJ0_checkIndex_df160_8 : decode cJ0_checkIndex_df160 8 = .ok (.pop, 1) := by decide +kernel
theorem dJ0_checkIndex_df160_9 : decode cJ0_checkIndex_df160 9 = .ok (.return_, 1) := by decide +kernel
theorem dJ1_charAt_3b067_0 : decode cJ1_charAt_3b067 0 = .ok (.iload_n 1, 1) := by decide +kernel
theorem dJ1_charAt_3b067_1 : decode cJ1_charAt_3b067 1 = .ok (.aload_n 0, 1) := by decide +kernel
theorem dJ1_charAt_3b067_2 : decode cJ1_charAt_3b067 2 = .ok (.arraylength, 1) := by decide +kernel
theorem dJ1_charAt_3b067_3 : decode cJ1_charAt_3b067 3 = .ok (.invokestatic 9, 3) := by decide +kernel
theorem dJ1_charAt_3b067_6 : decode cJ1_charAt_3b067 6 = .ok (.aload_n 0, 1) := by decide +kernel
theorem dJ1_charAt_3b067_7 : decode cJ1_charAt_3b067 7 = .ok (.iload_n 1, 1) := by decide +kernel
theorem dJ1_charAt_3b067_8 : decode cJ1_charAt_3b067 8 = .ok (.baload, 1) := by decide +kernel
theorem dJ1_charAt_3b067_9 : decode cJ1_charAt_3b067 9 = .ok (.sipush 255, 3) := by decide +kernel
theorem dJ1_charAt_3b067_12 : decode cJ1_charAt_3b067 12 = .ok (.iand, 1) := by decide +kernel
theorem dJ1_charAt_3b067_13 : decode cJ1_charAt_3b067 13 = .ok (.i2c, 1) := by decide +kernel
theorem dJ1_charAt_3b067_14 : decode cJ1_charAt_3b067 14 = .ok (.ireturn, 1) := by decide +kernel
theorem dJ2_getChar_3b067_0 : decode cJ2_getChar_3b067 0 = .ok (.getstatic 44, 3) := by decide +kernel
theorem dJ2_getChar_3b067_3 : decode cJ2_getChar_3b067 3 = .ok (.ifCond .ne 25, 3) := by decide +kernel
theorem dJ2_getChar_3b067_6 : decode cJ2_getChar_3b067 6 = .ok (.iload_n 1, 1) := by decide +kernel
theorem dJ2_getChar_3b067_7 : decode cJ2_getChar_3b067 7 = .ok (.ifCond .lt 11, 3) := by decide +kernel
theorem dJ2_getChar_3b067_10 : decode cJ2_getChar_3b067 10 = .ok (.iload_n 1, 1) := by decide +kernel
theorem dJ2_getChar_3b067_11 : decode cJ2_getChar_3b067 11 = .ok (.aload_n 0, 1) := by decide +kernel
theorem dJ2_getChar_3b067_12 : decode cJ2_getChar_3b067 12 = .ok (.invokestatic 48, 3) := by decide +kernel
theorem dJ2_getChar_3b067_15 : decode cJ2_getChar_3b067 15 = .ok (.if_icmp .lt 13, 3) := by decide +kernel
theorem dJ2_getChar_3b067_18 : decode cJ2_getChar_3b067 18 = .ok (.new 52, 3) := by decide +kernel
theorem dJ2_getChar_3b067_21 : decode cJ2_getChar_3b067 21 = .ok (.dup, 1) := by decide +kernel
theorem dJ2_getChar_3b067_22 : decode cJ2_getChar_3b067 22 = .ok (.ldc 54, 2) := by decide +kernel
theorem dJ2_getChar_3b067_24 : decode cJ2_getChar_3b067 24 = .ok (.invokespecial 56, 3) := by decide +kernel
theorem dJ2_getChar_3b067_27 : decode cJ2_getChar_3b067 27 = .ok (.athrow, 1) := by decide +kernel
theorem dJ2_getChar_3b067_28 : decode cJ2_getChar_3b067 28 = .ok (.iload_n 1, 1) := by decide +kernel
theorem dJ2_getChar_3b067_29 : decode cJ2_getChar_3b067 29 = .ok (.iconst 1, 1) := by decide +kernel
theorem dJ2_getChar_3b067_30 : decode cJ2_getChar_3b067 30 = .ok (.ishl, 1) := by decide +kernel
theorem dJ2_getChar_3b067_31 : decode cJ2_getChar_3b067 31 = .ok (.istore_n 1, 1) := by decide +kernel
theorem dJ2_getChar_3b067_32 : decode cJ2_getChar_3b067 32 = .ok (.aload_n 0, 1) := by decide +kernel
theorem dJ2_getChar_3b067_33 : decode cJ2_getChar_3b067 33 = .ok (.iload_n 1, 1) := by decide +kernel
theorem dJ2_getChar_3b067_34 : decode cJ2_getChar_3b067 34 = .ok (.iinc 1 1, 3) := by decide +kernel
theorem dJ2_getChar_3b067_37 : decode cJ2_getChar_3b067 37 = .ok (.baload, 1) := by decide +kernel
theorem dJ2_getChar_3b067_38 : decode cJ2_getChar_3b067 38 = .ok (.sipush 255, 3) := by decide +kernel
theorem dJ2_getChar_3b067_41 : decode cJ2_getChar_3b067 41 = .ok (.iand, 1) := by decide +kernel
theorem dJ2_getChar_3b067_42 : decode cJ2_getChar_3b067 42 = .ok (.getstatic 59, 3) := by decide +kernel
theorem dJ2_getChar_3b067_45 : decode cJ2_getChar_3b067 45 = .ok (.ishl, 1) := by decide +kernel
theorem dJ2_getChar_3b067_46 : decode cJ2_getChar_3b067 46 = .ok (.aload_n 0, 1) := by decide +kernel
theorem dJ2_getChar_3b067_47 : decode cJ2_getChar_3b067 47 = .ok (.iload_n 1, 1) := by decide +kernel
theorem dJ2_getChar_3b067_48 : decode cJ2_getChar_3b067 48 = .ok (.baload, 1) := by decide +kernel
theorem dJ2_getChar_3b067_49 : decode cJ2_getChar_3b067 49 = .ok (.sipush 255, 3) := by decide +kernel
theorem dJ2_getChar_3b067_52 : decode cJ2_getChar_3b067 52 = .ok (.iand, 1) := by decide +kernel
theorem dJ2_getChar_3b067_53 : decode cJ2_getChar_3b067 53 = .ok (.getstatic 63, 3) := by decide +kernel
theorem dJ2_getChar_3b067_56 : decode cJ2_getChar_3b067 56 = .ok (.ishl, 1) := by decide +kernel
theorem dJ2_getChar_3b067_57 : decode cJ2_getChar_3b067 57 = .ok (.ior, 1) := by decide +kernel
theorem dJ2_getChar_3b067_58 : decode cJ2_getChar_3b067 58 = .ok (.i2c, 1) := by decide +kernel
theorem dJ2_getChar_3b067_59 : decode cJ2_getChar_3b067 59 = .ok (.ireturn, 1) := by decide +kernel
theorem dJ2_length_9d52b_0 : decode cJ2_length_9d52b 0 = .ok (.aload_n 0, 1) := by decide +kernel
theorem dJ2_length_9d52b_1 : decode cJ2_length_9d52b 1 = .ok (.arraylength, 1) := by decide +kernel
theorem dJ2_length_9d52b_2 : decode cJ2_length_9d52b 2 = .ok (.iconst 1, 1) := by decide +kernel
theorem dJ2_length_9d52b_3 : decode cJ2_length_9d52b 3 = .ok (.ishr, 1) := by decide +kernel
theorem dJ2_length_9d52b_4 : decode cJ2_length_9d52b 4 = .ok (.ireturn, 1) := by decide +kernel
theorem dJ2_charAt_3b067_0 : decode cJ2_charAt_3b067 0 = .ok (.iload_n 1, 1) := by decide +kernel
theorem dJ2_charAt_3b067_1 : decode cJ2_charAt_3b067 1 = .ok (.aload_n 0, 1) := by decide +kernel
theorem dJ2_charAt_3b067_2 : decode cJ2_charAt_3b067 2 = .ok (.invokestatic 67, 3) := by decide +kernel
theorem dJ2_charAt_3b067_5 : decode cJ2_charAt_3b067 5 = .ok (.aload_n 0, 1) := by decide +kernel
theorem dJ2_charAt_3b067_6 : decode cJ2_charAt_3b067 6 = .ok (.iload_n 1, 1) := by decide +kernel
theorem dJ2_charAt_3b067_7 : decode cJ2_charAt_3b067 7 = .ok (.invokestatic 71, 3) := by decide +kernel
theorem dJ2_charAt_3b067_10 : decode cJ2_charAt_3b067 10 = .ok (.ireturn, 1) := by decide +kernel
theorem dJ2_checkIndex_2214a_0 : decode cJ2_checkIndex_2214a 0 = .ok (.iload_n 0, 1) := by decide +kernel
theorem dJ2_checkIndex_2214a_1 : decode cJ2_checkIndex_2214a 1 = .ok (.aload_n 1, 1) := by decide +kernel
theorem dJ2_checkIndex_2214a_2 : decode cJ2_checkIndex_2214a 2 = .ok (.invokestatic 48, 3) := by decide +kernel
theorem dJ2_checkIndex_2214a_5 : decode cJ2_checkIndex_2214a 5 = .ok (.invokestatic 414, 3) := by decide +kernel
theorem dJ2_checkIndex_2214a_8 : decode cJ2_checkIndex_2214a 8 = .ok (.return_, 1) := by decide +kernel
theorem dJ3_checkIndex_8e157_0 : decode cJ3_checkIndex_8e157 0 = .ok (.iload_n 0, 1) := by decide +kernel
theorem dJ3_checkIndex_8e157_1 : decode cJ3_checkIndex_8e157 1 = .ok (.ifCond .lt 8, 3) := by decide +kernel
theorem dJ3_checkIndex_8e157_4 : decode cJ3_checkIndex_8e157 4 = .ok (.iload_n 0, 1) := by decide +kernel
theorem dJ3_checkIndex_8e157_5 : decode cJ3_checkIndex_8e157 5 = .ok (.iload_n 1, 1) := by decide +kernel
theorem dJ3_checkIndex_8e157_6 : decode cJ3_checkIndex_8e157 6 = .ok (.if_icmp .lt 10, 3) := by decide +kernel
theorem dJ3_checkIndex_8e157_9 : decode cJ3_checkIndex_8e157 9 = .ok (.aload_n 2, 1) := by decide +kernel
theorem dJ3_checkIndex_8e157_10 : decode cJ3_checkIndex_8e157 10 = .ok (.iload_n 0, 1) := by decide +kernel
theorem dJ3_checkIndex_8e157_11 : decode cJ3_checkIndex_8e157 11 = .ok (.iload_n 1, 1) := by decide +kernel
theorem dJ3_checkIndex_8e157_12 : decode cJ3_checkIndex_8e157 12 = .ok (.invokestatic 95, 3) := by decide +kernel
theorem dJ3_checkIndex_8e157_15 : decode cJ3_checkIndex_8e157 15 = .ok (.athrow, 1) := by decide +kernel
theorem dJ3_checkIndex_8e157_16 : decode cJ3_checkIndex_8e157 16 = .ok (.iload_n 0, 1) := by decide +kernel
theorem dJ3_checkIndex_8e157_17 : decode cJ3_checkIndex_8e157 17 = .ok (.ireturn, 1) := by decide +kernel
