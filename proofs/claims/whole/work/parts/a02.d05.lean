theorem dX11_see_48 : decode cX11_see 48 = .ok (.iload_n 2, 1) := by decide +kernel
theorem dX11_see_49 : decode cX11_see 49 = .ok (.bastore, 1) := by decide +kernel
theorem dX11_see_50 : decode cX11_see 50 = .ok (.aload_n 0, 1) := by decide +kernel
theorem dX11_see_51 : decode cX11_see 51 = .ok (.getfield 116, 3) := by decide +kernel
theorem dX11_see_54 : decode cX11_see 54 = .ok (.iconst 0, 1) := by decide +kernel
theorem dX11_see_55 : decode cX11_see 55 = .ok (.dup2, 1) := by decide +kernel
theorem dX11_see_56 : decode cX11_see 56 = .ok (.iaload, 1) := by decide +kernel
theorem dX11_see_57 : decode cX11_see 57 = .ok (.iconst 1, 1) := by decide +kernel
theorem dX11_see_58 : decode cX11_see 58 = .ok (.iadd, 1) := by decide +kernel
theorem dX11_see_59 : decode cX11_see 59 = .ok (.iastore, 1) := by decide +kernel
theorem dX11_see_60 : decode cX11_see 60 = .ok (.iconst 1, 1) := by decide +kernel
theorem dX11_see_61 : decode cX11_see 61 = .ok (.ireturn, 1) := by decide +kernel
theorem dX11_isAsSeen_0 : decode cX11_isAsSeen 0 = .ok (.iconst 0, 1) := by decide +kernel
theorem dX11_isAsSeen_1 : decode cX11_isAsSeen 1 = .ok (.istore_n 2, 1) := by decide +kernel
theorem dX11_isAsSeen_2 : decode cX11_isAsSeen 2 = .ok (.iload_n 2, 1) := by decide +kernel
theorem dX11_isAsSeen_3 : decode cX11_isAsSeen 3 = .ok (.aload_n 0, 1) := by decide +kernel
theorem dX11_isAsSeen_4 : decode cX11_isAsSeen 4 = .ok (.getfield 116, 3) := by decide +kernel
theorem dX11_isAsSeen_7 : decode cX11_isAsSeen 7 = .ok (.iconst 0, 1) := by decide +kernel
theorem dX11_isAsSeen_8 : decode cX11_isAsSeen 8 = .ok (.iaload, 1) := by decide +kernel
theorem dX11_isAsSeen_9 : decode cX11_isAsSeen 9 = .ok (.if_icmp .ge 37, 3) := by decide +kernel
theorem dX11_isAsSeen_12 : decode cX11_isAsSeen 12 = .ok (.aload_n 0, 1) := by decide +kernel
theorem dX11_isAsSeen_13 : decode cX11_isAsSeen 13 = .ok (.getfield 146, 3) := by decide +kernel
theorem dX11_isAsSeen_16 : decode cX11_isAsSeen 16 = .ok (.sipush 160, 3) := by decide +kernel
theorem dX11_isAsSeen_19 : decode cX11_isAsSeen 19 = .ok (.iload_n 1, 1) := by decide +kernel
theorem dX11_isAsSeen_20 : decode cX11_isAsSeen 20 = .ok (.imul, 1) := by decide +kernel
theorem dX11_isAsSeen_21 : decode cX11_isAsSeen 21 = .ok (.aload_n 0, 1) := by decide +kernel
theorem dX11_isAsSeen_22 : decode cX11_isAsSeen 22 = .ok (.getfield 119, 3) := by decide +kernel
theorem dX11_isAsSeen_25 : decode cX11_isAsSeen 25 = .ok (.iload_n 2, 1) := by decide +kernel
theorem dX11_isAsSeen_26 : decode cX11_isAsSeen 26 = .ok (.iaload, 1) := by decide +kernel
theorem dX11_isAsSeen_27 : decode cX11_isAsSeen 27 = .ok (.iadd, 1) := by decide +kernel
theorem dX11_isAsSeen_28 : decode cX11_isAsSeen 28 = .ok (.baload, 1) := by decide +kernel
theorem dX11_isAsSeen_29 : decode cX11_isAsSeen 29 = .ok (.aload_n 0, 1) := by decide +kernel
theorem dX11_isAsSeen_30 : decode cX11_isAsSeen 30 = .ok (.getfield 122, 3) := by decide +kernel
theorem dX11_isAsSeen_33 : decode cX11_isAsSeen 33 = .ok (.iload_n 2, 1) := by decide +kernel
theorem dX11_isAsSeen_34 : decode cX11_isAsSeen 34 = .ok (.baload, 1) := by decide +kernel
theorem dX11_isAsSeen_35 : decode cX11_isAsSeen 35 = .ok (.if_icmp .eq 5, 3) := by decide +kernel
theorem dX11_isAsSeen_38 : decode cX11_isAsSeen 38 = .ok (.iconst 0, 1) := by decide +kernel
theorem dX11_isAsSeen_39 : decode cX11_isAsSeen 39 = .ok (.ireturn, 1) := by decide +kernel
theorem dX11_isAsSeen_40 : decode cX11_isAsSeen 40 = .ok (.iinc 2 1, 3) := by decide +kernel
theorem dX11_isAsSeen_43 : decode cX11_isAsSeen 43 = .ok (.goto (-41), 3) := by decide +kernel
theorem dX11_isAsSeen_46 : decode cX11_isAsSeen 46 = .ok (.iconst 1, 1) := by decide +kernel
theorem dX11_isAsSeen_47 : decode cX11_isAsSeen 47 = .ok (.ireturn, 1) := by decide +kernel
theorem dX11_who_0 : decode cX11_who 0 = .ok (.aload_n 0, 1) := by decide +kernel
theorem dX11_who_1 : decode cX11_who 1 = .ok (.iconst 0, 1) := by decide +kernel
theorem dX11_who_2 : decode cX11_who 2 = .ok (.putfield 152, 3) := by decide +kernel
theorem dX11_who_5 : decode cX11_who 5 = .ok (.aload_n 0, 1) := by decide +kernel
theorem dX11_who_6 : decode cX11_who 6 = .ok (.invokevirtual 472, 3) := by decide +kernel
theorem dX11_who_9 : decode cX11_who 9 = .ok (.iconst 0, 1) := by decide +kernel
theorem dX11_who_10 : decode cX11_who 10 = .ok (.istore_n 1, 1) := by decide +kernel
theorem dX11_who_11 : decode cX11_who 11 = .ok (.iconst 0, 1) := by decide +kernel
theorem dX11_who_12 : decode cX11_who 12 = .ok (.istore_n 2, 1) := by decide +kernel
theorem dX11_who_13 : decode cX11_who 13 = .ok (.iload_n 2, 1) := by decide +kernel
theorem dX11_who_14 : decode cX11_who 14 = .ok (.aload_n 0, 1) := by decide +kernel
theorem dX11_who_15 : decode cX11_who 15 = .ok (.getfield 13, 3) := by decide +kernel
theorem dX11_who_18 : decode cX11_who 18 = .ok (.iconst 0, 1) := by decide +kernel
theorem dX11_who_19 : decode cX11_who 19 = .ok (.iaload, 1) := by decide +kernel
theorem dX11_who_20 : decode cX11_who 20 = .ok (.if_icmp .ge 35, 3) := by decide +kernel
theorem dX11_who_23 : decode cX11_who 23 = .ok (.iload_n 1, 1) := by decide +kernel
theorem dX11_who_24 : decode cX11_who 24 = .ok (.aload_n 0, 1) := by decide +kernel
theorem dX11_who_25 : decode cX11_who 25 = .ok (.iload_n 2, 1) := by decide +kernel
theorem dX11_who_26 : decode cX11_who 26 = .ok (.invokevirtual 373, 3) := by decide +kernel
theorem dX11_who_29 : decode cX11_who 29 = .ok (.ifCond .eq 17, 3) := by decide +kernel
theorem dX11_who_32 : decode cX11_who 32 = .ok (.aload_n 0, 1) := by decide +kernel
theorem dX11_who_33 : decode cX11_who 33 = .ok (.iload_n 2, 1) := by decide +kernel
theorem dX11_who_34 : decode cX11_who 34 = .ok (.invokevirtual 475, 3) := by decide +kernel
theorem dX11_who_37 : decode cX11_who 37 = .ok (.ifCond .eq 9, 3) := by decide +kernel
theorem dX11_who_40 : decode cX11_who 40 = .ok (.iconst 1, 1) := by decide +kernel
theorem dX11_who_41 : decode cX11_who 41 = .ok (.iload_n 2, 1) := by decide +kernel
theorem dX11_who_42 : decode cX11_who 42 = .ok (.ishl, 1) := by decide +kernel
theorem dX11_who_43 : decode cX11_who 43 = .ok (.goto 4, 3) := by decide +kernel
theorem dX11_who_46 : decode cX11_who 46 = .ok (.iconst 0, 1) := by decide +kernel
theorem dX11_who_47 : decode cX11_who 47 = .ok (.ior, 1) := by decide +kernel
theorem dX11_who_48 : decode cX11_who 48 = .ok (.istore_n 1, 1) := by decide +kernel
theorem dX11_who_49 : decode cX11_who 49 = .ok (.iinc 2 1, 3) := by decide +kernel
theorem dX11_who_52 : decode cX11_who 52 = .ok (.goto (-39), 3) := by decide +kernel
theorem dX11_who_55 : decode cX11_who 55 = .ok (.iload_n 1, 1) := by decide +kernel
theorem dX11_who_56 : decode cX11_who 56 = .ok (.ireturn, 1) := by decide +kernel
theorem dX11_ask_0 : decode cX11_ask 0 = .ok (.aload_n 0, 1) := by decide +kernel
theorem dX11_ask_1 : decode cX11_ask 1 = .ok (.iconst 0, 1) := by decide +kernel
theorem dX11_ask_2 : decode cX11_ask 2 = .ok (.putfield 152, 3) := by decide +kernel
theorem dX11_ask_5 : decode cX11_ask 5 = .ok (.aload_n 0, 1) := by decide +kernel
theorem dX11_ask_6 : decode cX11_ask 6 = .ok (.invokevirtual 478, 3) := by decide +kernel
theorem dX11_ask_9 : decode cX11_ask 9 = .ok (.istore_n 1, 1) := by decide +kernel
theorem dX11_ask_10 : decode cX11_ask 10 = .ok (.iload_n 1, 1) := by decide +kernel
theorem dX11_ask_11 : decode cX11_ask 11 = .ok (.invokestatic 481, 3) := by decide +kernel
theorem dX11_ask_14 : decode cX11_ask 14 = .ok (.istore_n 2, 1) := by decide +kernel
theorem dX11_ask_15 : decode cX11_ask 15 = .ok (.iload_n 2, 1) := by decide +kernel
theorem dX11_ask_16 : decode cX11_ask 16 = .ok (.istore_n 3, 1) := by decide +kernel
theorem dX11_ask_17 : decode cX11_ask 17 = .ok (.iconst (-1), 1) := by decide +kernel
theorem dX11_ask_18 : decode cX11_ask 18 = .ok (.istore 4, 2) := by decide +kernel
theorem dX11_ask_20 : decode cX11_ask 20 = .ok (.iconst 0, 1) := by decide +kernel
theorem dX11_ask_21 : decode cX11_ask 21 = .ok (.istore 5, 2) := by decide +kernel
theorem dX11_ask_23 : decode cX11_ask 23 = .ok (.iload 5, 2) := by decide +kernel
theorem dX11_ask_25 : decode cX11_ask 25 = .ok (.aload_n 0, 1) := by decide +kernel
theorem dX11_ask_26 : decode cX11_ask 26 = .ok (.getfield 98, 3) := by decide +kernel
theorem dX11_ask_29 : decode cX11_ask 29 = .ok (.iconst 0, 1) := by decide +kernel
theorem dX11_ask_30 : decode cX11_ask 30 = .ok (.iaload, 1) := by decide +kernel
theorem dX11_ask_31 : decode cX11_ask 31 = .ok (.if_icmp .ge 95, 3) := by decide +kernel
theorem dX11_ask_34 : decode cX11_ask 34 = .ok (.iconst 0, 1) := by decide +kernel
theorem dX11_ask_35 : decode cX11_ask 35 = .ok (.istore 6, 2) := by decide +kernel
theorem dX11_ask_37 : decode cX11_ask 37 = .ok (.iconst 0, 1) := by decide +kernel
theorem dX11_ask_38 : decode cX11_ask 38 = .ok (.istore 7, 2) := by decide +kernel
theorem dX11_ask_40 : decode cX11_ask 40 = .ok (.iload 7, 2) := by decide +kernel
theorem dX11_ask_42 : decode cX11_ask 42 = .ok (.aload_n 0, 1) := by decide +kernel
theorem dX11_ask_43 : decode cX11_ask 43 = .ok (.getfield 13, 3) := by decide +kernel
theorem dX11_ask_46 : decode cX11_ask 46 = .ok (.iconst 0, 1) := by decide +kernel
theorem dX11_ask_47 : decode cX11_ask 47 = .ok (.iaload, 1) := by decide +kernel
theorem dX11_ask_48 : decode cX11_ask 48 = .ok (.if_icmp .ge 45, 3) := by decide +kernel
theorem dX11_ask_51 : decode cX11_ask 51 = .ok (.iload 6, 2) := by decide +kernel
theorem dX11_ask_53 : decode cX11_ask 53 = .ok (.iload_n 1, 1) := by decide +kernel
theorem dX11_ask_54 : decode cX11_ask 54 = .ok (.iload 7, 2) := by decide +kernel
theorem dX11_ask_56 : decode cX11_ask 56 = .ok (.invokestatic 273, 3) := by decide +kernel
theorem dX11_ask_59 : decode cX11_ask 59 = .ok (.ifCond .eq 24, 3) := by decide +kernel
theorem dX11_ask_62 : decode cX11_ask 62 = .ok (.aload_n 0, 1) := by decide +kernel
theorem dX11_ask_63 : decode cX11_ask 63 = .ok (.getfield 146, 3) := by decide +kernel
theorem dX11_ask_66 : decode cX11_ask 66 = .ok (.sipush 160, 3) := by decide +kernel
theorem dX11_ask_69 : decode cX11_ask 69 = .ok (.iload 7, 2) := by decide +kernel
theorem dX11_ask_71 : decode cX11_ask 71 = .ok (.imul, 1) := by decide +kernel
theorem dX11_ask_72 : decode cX11_ask 72 = .ok (.iload 5, 2) := by decide +kernel
theorem dX11_ask_74 : decode cX11_ask 74 = .ok (.iadd, 1) := by decide +kernel
theorem dX11_ask_75 : decode cX11_ask 75 = .ok (.baload, 1) := by decide +kernel
theorem dX11_ask_76 : decode cX11_ask 76 = .ok (.ifCond .eq 7, 3) := by decide +kernel
theorem dX11_ask_79 : decode cX11_ask 79 = .ok (.iconst 1, 1) := by decide +kernel
theorem dX11_ask_80 : decode cX11_ask 80 = .ok (.goto 4, 3) := by decide +kernel
theorem dX11_ask_83 : decode cX11_ask 83 = .ok (.iconst 0, 1) := by decide +kernel
theorem dX11_ask_84 : decode cX11_ask 84 = .ok (.iadd, 1) := by decide +kernel
theorem dX11_ask_85 : decode cX11_ask 85 = .ok (.istore 6, 2) := by decide +kernel
theorem dX11_ask_87 : decode cX11_ask 87 = .ok (.iinc 7 1, 3) := by decide +kernel
theorem dX11_ask_90 : decode cX11_ask 90 = .ok (.goto (-50), 3) := by decide +kernel
theorem dX11_ask_93 : decode cX11_ask 93 = .ok (.iload 6, 2) := by decide +kernel
theorem dX11_ask_95 : decode cX11_ask 95 = .ok (.iload_n 2, 1) := by decide +kernel
theorem dX11_ask_96 : decode cX11_ask 96 = .ok (.iload 6, 2) := by decide +kernel
theorem dX11_ask_98 : decode cX11_ask 98 = .ok (.isub, 1) := by decide +kernel
theorem dX11_ask_99 : decode cX11_ask 99 = .ok (.invokestatic 434, 3) := by decide +kernel
theorem dX11_ask_102 : decode cX11_ask 102 = .ok (.istore 6, 2) := by decide +kernel
theorem dX11_ask_104 : decode cX11_ask 104 = .ok (.iload 6, 2) := by decide +kernel
theorem dX11_ask_106 : decode cX11_ask 106 = .ok (.iload_n 3, 1) := by decide +kernel
theorem dX11_ask_107 : decode cX11_ask 107 = .ok (.if_icmp .lt 6, 3) := by decide +kernel
theorem dX11_ask_110 : decode cX11_ask 110 = .ok (.goto 10, 3) := by decide +kernel
theorem dX11_ask_113 : decode cX11_ask 113 = .ok (.iload 6, 2) := by decide +kernel
theorem dX11_ask_115 : decode cX11_ask 115 = .ok (.istore_n 3, 1) := by decide +kernel
theorem dX11_ask_116 : decode cX11_ask 116 = .ok (.iload 5, 2) := by decide +kernel
theorem dX11_ask_118 : decode cX11_ask 118 = .ok (.istore 4, 2) := by decide +kernel
theorem dX11_ask_120 : decode cX11_ask 120 = .ok (.iinc 5 1, 3) := by decide +kernel
theorem dX11_ask_123 : decode cX11_ask 123 = .ok (.goto (-100), 3) := by decide +kernel
theorem dX11_ask_126 : decode cX11_ask 126 = .ok (.iload 4, 2) := by decide +kernel
theorem dX11_ask_128 : decode cX11_ask 128 = .ok (.ireturn, 1) := by decide +kernel
theorem dX11_draws_0 : decode cX11_draws 0 = .ok (.aload_n 0, 1) := by decide +kernel
theorem dX11_draws_1 : decode cX11_draws 1 = .ok (.aload_n 0, 1) := by decide +kernel
theorem dX11_draws_2 : decode cX11_draws 2 = .ok (.getfield 484, 3) := by decide +kernel
theorem dX11_draws_5 : decode cX11_draws 5 = .ok (.ldc2_w 487, 3) := by decide +kernel
theorem dX11_draws_8 : decode cX11_draws 8 = .ok (.lmul, 1) := by decide +kernel
theorem dX11_draws_9 : decode cX11_draws 9 = .ok (.ldc2_w 489, 3) := by decide +kernel
theorem dX11_draws_12 : decode cX11_draws 12 = .ok (.ladd, 1) := by decide +kernel
theorem dX11_draws_13 : decode cX11_draws 13 = .ok (.ldc2_w 491, 3) := by decide +kernel
theorem dX11_draws_16 : decode cX11_draws 16 = .ok (.lrem, 1) := by decide +kernel
theorem dX11_draws_17 : decode cX11_draws 17 = .ok (.putfield 484, 3) := by decide +kernel
theorem dX11_draws_20 : decode cX11_draws 20 = .ok (.aload_n 0, 1) := by decide +kernel
theorem dX11_draws_21 : decode cX11_draws 21 = .ok (.getfield 484, 3) := by decide +kernel
theorem dX11_draws_24 : decode cX11_draws 24 = .ok (.ldc2_w 493, 3) := by decide +kernel
theorem dX11_draws_27 : decode cX11_draws 27 = .ok (.ldiv, 1) := by decide +kernel
theorem dX11_draws_28 : decode cX11_draws 28 = .ok (.iload_n 1, 1) := by decide +kernel
theorem dX11_draws_29 : decode cX11_draws 29 = .ok (.i2l, 1) := by decide +kernel
theorem dX11_draws_30 : decode cX11_draws 30 = .ok (.lrem, 1) := by decide +kernel
theorem dX11_draws_31 : decode cX11_draws 31 = .ok (.l2i, 1) := by decide +kernel
theorem dX11_draws_32 : decode cX11_draws 32 = .ok (.ireturn, 1) := by decide +kernel
theorem dX11_lives_0 : decode cX11_lives 0 = .ok (.aload_n 0, 1) := by decide +kernel
theorem dX11_lives_1 : decode cX11_lives 1 = .ok (.bipush 8, 2) := by decide +kernel
theorem dX11_lives_3 : decode cX11_lives 3 = .ok (.invokevirtual 495, 3) := by decide +kernel
theorem dX11_lives_6 : decode cX11_lives 6 = .ok (.istore_n 1, 1) := by decide +kernel
theorem dX11_lives_7 : decode cX11_lives 7 = .ok (.iload_n 1, 1) := by decide +kernel
theorem dX11_lives_8 : decode cX11_lives 8 = .ok (.iconst 5, 1) := by decide +kernel
theorem dX11_lives_9 : decode cX11_lives 9 = .ok (.if_icmp .ge 40, 3) := by decide +kernel
theorem dX11_lives_12 : decode cX11_lives 12 = .ok (.aload_n 0, 1) := by decide +kernel
theorem dX11_lives_13 : decode cX11_lives 13 = .ok (.aload_n 0, 1) := by decide +kernel
theorem dX11_lives_14 : decode cX11_lives 14 = .ok (.getfield 98, 3) := by decide +kernel
theorem dX11_lives_17 : decode cX11_lives 17 = .ok (.iconst 0, 1) := by decide +kernel
theorem dX11_lives_18 : decode cX11_lives 18 = .ok (.iaload, 1) := by decide +kernel
theorem dX11_lives_19 : decode cX11_lives 19 = .ok (.invokevirtual 495, 3) := by decide +kernel
theorem dX11_lives_22 : decode cX11_lives 22 = .ok (.istore_n 2, 1) := by decide +kernel
theorem dX11_lives_23 : decode cX11_lives 23 = .ok (.aload_n 0, 1) := by decide +kernel
theorem dX11_lives_24 : decode cX11_lives 24 = .ok (.iload_n 1, 1) := by decide +kernel
theorem dX11_lives_25 : decode cX11_lives 25 = .ok (.iconst 3, 1) := by decide +kernel
theorem dX11_lives_26 : decode cX11_lives 26 = .ok (.if_icmp .ge 7, 3) := by decide +kernel
theorem dX11_lives_29 : decode cX11_lives 29 = .ok (.iconst 0, 1) := by decide +kernel
theorem dX11_lives_30 : decode cX11_lives 30 = .ok (.goto 4, 3) := by decide +kernel
theorem dX11_lives_33 : decode cX11_lives 33 = .ok (.iconst 1, 1) := by decide +kernel
theorem dX11_lives_34 : decode cX11_lives 34 = .ok (.iload_n 2, 1) := by decide +kernel
theorem dX11_lives_35 : decode cX11_lives 35 = .ok (.aload_n 0, 1) := by decide +kernel
theorem dX11_lives_36 : decode cX11_lives 36 = .ok (.sipush 256, 3) := by decide +kernel
theorem dX11_lives_39 : decode cX11_lives 39 = .ok (.invokevirtual 495, 3) := by decide +kernel
theorem dX11_lives_42 : decode cX11_lives 42 = .ok (.invokevirtual 422, 3) := by decide +kernel
theorem dX11_lives_45 : decode cX11_lives 45 = .ok (.pop, 1) := by decide +kernel
theorem dX11_lives_46 : decode cX11_lives 46 = .ok (.goto 50, 3) := by decide +kernel
theorem dX11_lives_49 : decode cX11_lives 49 = .ok (.iload_n 1, 1) := by decide +kernel
theorem dX11_lives_50 : decode cX11_lives 50 = .ok (.bipush 7, 2) := by decide +kernel
theorem dX11_lives_52 : decode cX11_lives 52 = .ok (.if_icmp .ge 32, 3) := by decide +kernel
theorem dX11_lives_55 : decode cX11_lives 55 = .ok (.aload_n 0, 1) := by decide +kernel
theorem dX11_lives_56 : decode cX11_lives 56 = .ok (.iload_n 1, 1) := by decide +kernel
theorem dX11_lives_57 : decode cX11_lives 57 = .ok (.iconst 5, 1) := by decide +kernel
theorem dX11_lives_58 : decode cX11_lives 58 = .ok (.if_icmp .ne 7, 3) := by decide +kernel
theorem dX11_lives_61 : decode cX11_lives 61 = .ok (.iconst 2, 1) := by decide +kernel
theorem dX11_lives_62 : decode cX11_lives 62 = .ok (.goto 4, 3) := by decide +kernel
theorem dX11_lives_65 : decode cX11_lives 65 = .ok (.iconst 3, 1) := by decide +kernel
theorem dX11_lives_66 : decode cX11_lives 66 = .ok (.aload_n 0, 1) := by decide +kernel
theorem dX11_lives_67 : decode cX11_lives 67 = .ok (.aload_n 0, 1) := by decide +kernel
theorem dX11_lives_68 : decode cX11_lives 68 = .ok (.getfield 13, 3) := by decide +kernel
theorem dX11_lives_71 : decode cX11_lives 71 = .ok (.iconst 0, 1) := by decide +kernel
theorem dX11_lives_72 : decode cX11_lives 72 = .ok (.iaload, 1) := by decide +kernel
theorem dX11_lives_73 : decode cX11_lives 73 = .ok (.invokevirtual 495, 3) := by decide +kernel
theorem dX11_lives_76 : decode cX11_lives 76 = .ok (.iconst 0, 1) := by decide +kernel
theorem dX11_lives_77 : decode cX11_lives 77 = .ok (.invokevirtual 422, 3) := by decide +kernel
theorem dX11_lives_80 : decode cX11_lives 80 = .ok (.pop, 1) := by decide +kernel
theorem dX11_lives_81 : decode cX11_lives 81 = .ok (.goto 15, 3) := by decide +kernel
theorem dX11_lives_84 : decode cX11_lives 84 = .ok (.aload_n 0, 1) := by decide +kernel
theorem dX11_lives_85 : decode cX11_lives 85 = .ok (.aload_n 0, 1) := by decide +kernel
theorem dX11_lives_86 : decode cX11_lives 86 = .ok (.iconst 4, 1) := by decide +kernel
theorem dX11_lives_87 : decode cX11_lives 87 = .ok (.invokevirtual 495, 3) := by decide +kernel
theorem dX11_lives_90 : decode cX11_lives 90 = .ok (.iconst 1, 1) := by decide +kernel
theorem dX11_lives_91 : decode cX11_lives 91 = .ok (.iadd, 1) := by decide +kernel
theorem dX11_lives_92 : decode cX11_lives 92 = .ok (.invokevirtual 412, 3) := by decide +kernel
theorem dX11_lives_95 : decode cX11_lives 95 = .ok (.pop, 1) := by decide +kernel
theorem dX11_lives_96 : decode cX11_lives 96 = .ok (.return_, 1) := by decide +kernel
theorem dX11_loads_0 : decode cX11_loads 0 = .ok (.aload_n 0, 1) := by decide +kernel
theorem dX11_loads_1 : decode cX11_loads 1 = .ok (.iconst 0, 1) := by decide +kernel
theorem dX11_loads_2 : decode cX11_loads 2 = .ok (.putfield 152, 3) := by decide +kernel
theorem dX11_loads_5 : decode cX11_loads 5 = .ok (.iload_n 1, 1) := by decide +kernel
theorem dX11_loads_6 : decode cX11_loads 6 = .ok (.iconst 0, 1) := by decide +kernel
theorem dX11_loads_7 : decode cX11_loads 7 = .ok (.sipush 9999, 3) := by decide +kernel
theorem dX11_loads_10 : decode cX11_loads 10 = .ok (.invokestatic 239, 3) := by decide +kernel
theorem dX11_loads_13 : decode cX11_loads 13 = .ok (.ifCond .eq 22, 3) := by decide +kernel
theorem dX11_loads_16 : decode cX11_loads 16 = .ok (.iload_n 2, 1) := by decide +kernel
theorem dX11_loads_17 : decode cX11_loads 17 = .ok (.iconst 1, 1) := by decide +kernel
theorem dX11_loads_18 : decode cX11_loads 18 = .ok (.bipush 99, 2) := by decide +kernel
theorem dX11_loads_20 : decode cX11_loads 20 = .ok (.invokestatic 239, 3) := by decide +kernel
theorem dX11_loads_23 : decode cX11_loads 23 = .ok (.ifCond .eq 12, 3) := by decide +kernel
theorem dX11_loads_26 : decode cX11_loads 26 = .ok (.iload_n 3, 1) := by decide +kernel
theorem dX11_loads_27 : decode cX11_loads 27 = .ok (.iconst 0, 1) := by decide +kernel
theorem dX11_loads_28 : decode cX11_loads 28 = .ok (.iconst 2, 1) := by decide +kernel
theorem dX11_loads_29 : decode cX11_loads 29 = .ok (.invokestatic 239, 3) := by decide +kernel
theorem dX11_loads_32 : decode cX11_loads 32 = .ok (.ifCond .ne 5, 3) := by decide +kernel
theorem dX11_loads_35 : decode cX11_loads 35 = .ok (.iconst (-1), 1) := by decide +kernel
theorem dX11_loads_36 : decode cX11_loads 36 = .ok (.ireturn, 1) := by decide +kernel
theorem dX11_loads_37 : decode cX11_loads 37 = .ok (.aload_n 0, 1) := by decide +kernel
theorem dX11_loads_38 : decode cX11_loads 38 = .ok (.iload_n 1, 1) := by decide +kernel
theorem dX11_loads_39 : decode cX11_loads 39 = .ok (.i2l, 1) := by decide +kernel
theorem dX11_loads_40 : decode cX11_loads 40 = .ok (.putfield 484, 3) := by decide +kernel
theorem dX11_loads_43 : decode cX11_loads 43 = .ok (.aload_n 0, 1) := by decide +kernel
theorem dX11_loads_44 : decode cX11_loads 44 = .ok (.getfield 125, 3) := by decide +kernel
theorem dX11_loads_47 : decode cX11_loads 47 = .ok (.iconst 0, 1) := by decide +kernel
theorem dX11_loads_48 : decode cX11_loads 48 = .ok (.aload_n 0, 1) := by decide +kernel
theorem dX11_loads_49 : decode cX11_loads 49 = .ok (.getfield 128, 3) := by decide +kernel
theorem dX11_loads_52 : decode cX11_loads 52 = .ok (.iconst 0, 1) := by decide +kernel
theorem dX11_loads_53 : decode cX11_loads 53 = .ok (.invokestatic 418, 3) := by decide +kernel
theorem dX11_loads_56 : decode cX11_loads 56 = .ok (.aload_n 0, 1) := by decide +kernel
theorem dX11_loads_57 : decode cX11_loads 57 = .ok (.invokevirtual 425, 3) := by decide +kernel
theorem dX11_loads_60 : decode cX11_loads 60 = .ok (.istore 4, 2) := by decide +kernel
theorem dX11_loads_62 : decode cX11_loads 62 = .ok (.iconst 0, 1) := by decide +kernel
theorem dX11_loads_63 : decode cX11_loads 63 = .ok (.istore 5, 2) := by decide +kernel
theorem dX11_loads_65 : decode cX11_loads 65 = .ok (.iload 5, 2) := by decide +kernel
theorem dX11_loads_67 : decode cX11_loads 67 = .ok (.iload_n 2, 1) := by decide +kernel
theorem dX11_loads_68 : decode cX11_loads 68 = .ok (.if_icmp .ge 22, 3) := by decide +kernel
theorem dX11_loads_71 : decode cX11_loads 71 = .ok (.aload_n 0, 1) := by decide +kernel
theorem dX11_loads_72 : decode cX11_loads 72 = .ok (.getfield 98, 3) := by decide +kernel
theorem dX11_loads_75 : decode cX11_loads 75 = .ok (.iconst 0, 1) := by decide +kernel
theorem dX11_loads_76 : decode cX11_loads 76 = .ok (.iaload, 1) := by decide +kernel
theorem dX11_loads_77 : decode cX11_loads 77 = .ok (.ifCond .le 13, 3) := by decide +kernel
theorem dX11_loads_80 : decode cX11_loads 80 = .ok (.aload_n 0, 1) := by decide +kernel
theorem dX11_loads_81 : decode cX11_loads 81 = .ok (.invokevirtual 498, 3) := by decide +kernel
theorem dX11_loads_84 : decode cX11_loads 84 = .ok (.iinc 5 1, 3) := by decide +kernel
theorem dX11_loads_87 : decode cX11_loads 87 = .ok (.goto (-22), 3) := by decide +kernel
theorem dX11_loads_90 : decode cX11_loads 90 = .ok (.aload_n 0, 1) := by decide +kernel
theorem dX11_loads_91 : decode cX11_loads 91 = .ok (.invokevirtual 425, 3) := by decide +kernel
theorem dX11_loads_94 : decode cX11_loads 94 = .ok (.iload 4, 2) := by decide +kernel
theorem dX11_loads_96 : decode cX11_loads 96 = .ok (.isub, 1) := by decide +kernel
theorem dX11_loads_97 : decode cX11_loads 97 = .ok (.istore 5, 2) := by decide +kernel
theorem dX11_loads_99 : decode cX11_loads 99 = .ok (.aload_n 0, 1) := by decide +kernel
theorem dX11_loads_100 : decode cX11_loads 100 = .ok (.invokevirtual 428, 3) := by decide +kernel
theorem dX11_loads_103 : decode cX11_loads 103 = .ok (.istore 6, 2) := by decide +kernel
theorem dX11_loads_105 : decode cX11_loads 105 = .ok (.iconst 0, 1) := by decide +kernel
theorem dX11_loads_106 : decode cX11_loads 106 = .ok (.istore 7, 2) := by decide +kernel
theorem dX11_loads_108 : decode cX11_loads 108 = .ok (.ldc_w 501, 3) := by decide +kernel
theorem dX11_loads_111 : decode cX11_loads 111 = .ok (.istore 8, 2) := by decide +kernel
theorem dX11_loads_113 : decode cX11_loads 113 = .ok (.iconst 0, 1) := by decide +kernel
theorem dX11_loads_114 : decode cX11_loads 114 = .ok (.istore 9, 2) := by decide +kernel
theorem dX11_loads_116 : decode cX11_loads 116 = .ok (.iload 9, 2) := by decide +kernel
theorem dX11_loads_118 : decode cX11_loads 118 = .ok (.aload_n 0, 1) := by decide +kernel
theorem dX11_loads_119 : decode cX11_loads 119 = .ok (.getfield 13, 3) := by decide +kernel
theorem dX11_loads_122 : decode cX11_loads 122 = .ok (.iconst 0, 1) := by decide +kernel
theorem dX11_loads_123 : decode cX11_loads 123 = .ok (.iaload, 1) := by decide +kernel
theorem dX11_loads_124 : decode cX11_loads 124 = .ok (.if_icmp .ge 41, 3) := by decide +kernel
theorem dX11_loads_127 : decode cX11_loads 127 = .ok (.iload 7, 2) := by decide +kernel
theorem dX11_loads_129 : decode cX11_loads 129 = .ok (.aload_n 0, 1) := by decide +kernel
theorem dX11_loads_130 : decode cX11_loads 130 = .ok (.getfield 125, 3) := by decide +kernel
theorem dX11_loads_133 : decode cX11_loads 133 = .ok (.iconst 1, 1) := by decide +kernel
theorem dX11_loads_134 : decode cX11_loads 134 = .ok (.iload 9, 2) := by decide +kernel
theorem dX11_loads_136 : decode cX11_loads 136 = .ok (.iadd, 1) := by decide +kernel
theorem dX11_loads_137 : decode cX11_loads 137 = .ok (.iaload, 1) := by decide +kernel
theorem dX11_loads_138 : decode cX11_loads 138 = .ok (.invokestatic 434, 3) := by decide +kernel
theorem dX11_loads_141 : decode cX11_loads 141 = .ok (.istore 7, 2) := by decide +kernel
theorem dX11_loads_143 : decode cX11_loads 143 = .ok (.iload 8, 2) := by decide +kernel
theorem dX11_loads_145 : decode cX11_loads 145 = .ok (.aload_n 0, 1) := by decide +kernel
theorem dX11_loads_146 : decode cX11_loads 146 = .ok (.getfield 125, 3) := by decide +kernel
theorem dX11_loads_149 : decode cX11_loads 149 = .ok (.iconst 1, 1) := by decide +kernel
theorem dX11_loads_150 : decode cX11_loads 150 = .ok (.iload 9, 2) := by decide +kernel
theorem dX11_loads_152 : decode cX11_loads 152 = .ok (.iadd, 1) := by decide +kernel
theorem dX11_loads_153 : decode cX11_loads 153 = .ok (.iaload, 1) := by decide +kernel
theorem dX11_loads_154 : decode cX11_loads 154 = .ok (.invokestatic 439, 3) := by decide +kernel
theorem dX11_loads_157 : decode cX11_loads 157 = .ok (.istore 8, 2) := by decide +kernel
theorem dX11_loads_159 : decode cX11_loads 159 = .ok (.iinc 9 1, 3) := by decide +kernel
theorem dX11_loads_162 : decode cX11_loads 162 = .ok (.goto (-46), 3) := by decide +kernel
theorem dX11_loads_165 : decode cX11_loads 165 = .ok (.aload_n 0, 1) := by decide +kernel
theorem dX11_loads_166 : decode cX11_loads 166 = .ok (.getfield 128, 3) := by decide +kernel
theorem dX11_loads_169 : decode cX11_loads 169 = .ok (.iconst 0, 1) := by decide +kernel
theorem dX11_loads_170 : decode cX11_loads 170 = .ok (.aload_n 0, 1) := by decide +kernel
theorem dX11_loads_171 : decode cX11_loads 171 = .ok (.getfield 125, 3) := by decide +kernel
theorem dX11_loads_174 : decode cX11_loads 174 = .ok (.iconst 0, 1) := by decide +kernel
theorem dX11_loads_175 : decode cX11_loads 175 = .ok (.invokestatic 418, 3) := by decide +kernel
theorem dX11_loads_178 : decode cX11_loads 178 = .ok (.iload_n 3, 1) := by decide +kernel
theorem dX11_loads_179 : decode cX11_loads 179 = .ok (.ifCond .ne 8, 3) := by decide +kernel
theorem dX11_loads_182 : decode cX11_loads 182 = .ok (.iload 5, 2) := by decide +kernel
theorem dX11_loads_184 : decode cX11_loads 184 = .ok (.goto 22, 3) := by decide +kernel
theorem dX11_loads_187 : decode cX11_loads 187 = .ok (.iload_n 3, 1) := by decide +kernel
theorem dX11_loads_188 : decode cX11_loads 188 = .ok (.iconst 1, 1) := by decide +kernel
theorem dX11_loads_189 : decode cX11_loads 189 = .ok (.if_icmp .ne 8, 3) := by decide +kernel
theorem dX11_loads_192 : decode cX11_loads 192 = .ok (.iload 6, 2) := by decide +kernel
theorem dX11_loads_194 : decode cX11_loads 194 = .ok (.goto 12, 3) := by decide +kernel
theorem dX11_loads_197 : decode cX11_loads 197 = .ok (.iconst 0, 1) := by decide +kernel
theorem dX11_loads_198 : decode cX11_loads 198 = .ok (.iload 7, 2) := by decide +kernel
theorem dX11_loads_200 : decode cX11_loads 200 = .ok (.iload 8, 2) := by decide +kernel
theorem dX11_loads_202 : decode cX11_loads 202 = .ok (.isub, 1) := by decide +kernel
theorem dX11_loads_203 : decode cX11_loads 203 = .ok (.invokestatic 434, 3) := by decide +kernel
theorem dX11_loads_206 : decode cX11_loads 206 = .ok (.ireturn, 1) := by decide +kernel
theorem dX11_mark_0 : decode cX11_mark 0 = .ok (.aload_n 0, 1) := by decide +kernel
theorem dX11_mark_1 : decode cX11_mark 1 = .ok (.iconst 0, 1) := by decide +kernel
theorem dX11_mark_2 : decode cX11_mark 2 = .ok (.putfield 152, 3) := by decide +kernel
theorem dX11_mark_5 : decode cX11_mark 5 = .ok (.iload_n 1, 1) := by decide +kernel
theorem dX11_mark_6 : decode cX11_mark 6 = .ok (.iconst 0, 1) := by decide +kernel
theorem dX11_mark_7 : decode cX11_mark 7 = .ok (.iconst 1, 1) := by decide +kernel
theorem dX11_mark_8 : decode cX11_mark 8 = .ok (.invokestatic 239, 3) := by decide +kernel
theorem dX11_mark_11 : decode cX11_mark 11 = .ok (.ifCond .eq 16, 3) := by decide +kernel
theorem dX11_mark_14 : decode cX11_mark 14 = .ok (.iload_n 2, 1) := by decide +kernel
theorem dX11_mark_15 : decode cX11_mark 15 = .ok (.ifCond .eq 14, 3) := by decide +kernel
theorem dX11_mark_18 : decode cX11_mark 18 = .ok (.aload_n 0, 1) := by decide +kernel
theorem dX11_mark_19 : decode cX11_mark 19 = .ok (.getfield 137, 3) := by decide +kernel
theorem dX11_mark_22 : decode cX11_mark 22 = .ok (.iload_n 1, 1) := by decide +kernel
theorem dX11_mark_23 : decode cX11_mark 23 = .ok (.baload, 1) := by decide +kernel
theorem dX11_mark_24 : decode cX11_mark 24 = .ok (.ifCond .ne 5, 3) := by decide +kernel
theorem dX11_mark_27 : decode cX11_mark 27 = .ok (.iconst 0, 1) := by decide +kernel
theorem dX11_mark_28 : decode cX11_mark 28 = .ok (.ireturn, 1) := by decide +kernel
theorem dX11_mark_29 : decode cX11_mark 29 = .ok (.aload_n 0, 1) := by decide +kernel
theorem dX11_mark_30 : decode cX11_mark 30 = .ok (.getfield 137, 3) := by decide +kernel
theorem dX11_mark_33 : decode cX11_mark 33 = .ok (.iload_n 1, 1) := by decide +kernel
theorem dX11_mark_34 : decode cX11_mark 34 = .ok (.iconst 1, 1) := by decide +kernel
theorem dX11_mark_35 : decode cX11_mark 35 = .ok (.bastore, 1) := by decide +kernel
theorem dX11_mark_36 : decode cX11_mark 36 = .ok (.iload_n 2, 1) := by decide +kernel
theorem dX11_mark_37 : decode cX11_mark 37 = .ok (.ifCond .eq 9, 3) := by decide +kernel
theorem dX11_mark_40 : decode cX11_mark 40 = .ok (.iconst 1, 1) := by decide +kernel
theorem dX11_mark_41 : decode cX11_mark 41 = .ok (.iload_n 1, 1) := by decide +kernel
theorem dX11_mark_42 : decode cX11_mark 42 = .ok (.iadd, 1) := by decide +kernel
theorem dX11_mark_43 : decode cX11_mark 43 = .ok (.goto 4, 3) := by decide +kernel
theorem dX11_mark_46 : decode cX11_mark 46 = .ok (.iconst 0, 1) := by decide +kernel
theorem dX11_mark_47 : decode cX11_mark 47 = .ok (.istore_n 3, 1) := by decide +kernel
theorem dX11_mark_48 : decode cX11_mark 48 = .ok (.iload_n 2, 1) := by decide +kernel
theorem dX11_mark_49 : decode cX11_mark 49 = .ok (.ifCond .eq 7, 3) := by decide +kernel
theorem dX11_mark_52 : decode cX11_mark 52 = .ok (.iconst 0, 1) := by decide +kernel
theorem dX11_mark_53 : decode cX11_mark 53 = .ok (.goto 6, 3) := by decide +kernel
theorem dX11_mark_56 : decode cX11_mark 56 = .ok (.iconst 1, 1) := by decide +kernel
theorem dX11_mark_57 : decode cX11_mark 57 = .ok (.iload_n 1, 1) := by decide +kernel
theorem dX11_mark_58 : decode cX11_mark 58 = .ok (.iadd, 1) := by decide +kernel
theorem dX11_mark_59 : decode cX11_mark 59 = .ok (.istore 4, 2) := by decide +kernel
theorem dX11_mark_61 : decode cX11_mark 61 = .ok (.aload_n 0, 1) := by decide +kernel
theorem dX11_mark_62 : decode cX11_mark 62 = .ok (.iload_n 3, 1) := by decide +kernel
theorem dX11_mark_63 : decode cX11_mark 63 = .ok (.iload 4, 2) := by decide +kernel
theorem dX11_mark_65 : decode cX11_mark 65 = .ok (.invokevirtual 502, 3) := by decide +kernel
theorem dX11_mark_68 : decode cX11_mark 68 = .ok (.iload_n 2, 1) := by decide +kernel
theorem dX11_mark_69 : decode cX11_mark 69 = .ok (.ifCond .eq 23, 3) := by decide +kernel
theorem dX11_mark_72 : decode cX11_mark 72 = .ok (.aload_n 0, 1) := by decide +kernel
theorem dX11_mark_73 : decode cX11_mark 73 = .ok (.getfield 134, 3) := by decide +kernel
theorem dX11_mark_76 : decode cX11_mark 76 = .ok (.sipush 374, 3) := by decide +kernel
theorem dX11_mark_79 : decode cX11_mark 79 = .ok (.iload_n 1, 1) := by decide +kernel
theorem dX11_mark_80 : decode cX11_mark 80 = .ok (.imul, 1) := by decide +kernel
theorem dX11_mark_81 : decode cX11_mark 81 = .ok (.aload_n 0, 1) := by decide +kernel
theorem dX11_mark_82 : decode cX11_mark 82 = .ok (.getfield 125, 3) := by decide +kernel
theorem dX11_mark_85 : decode cX11_mark 85 = .ok (.iconst 0, 1) := by decide +kernel
theorem dX11_mark_86 : decode cX11_mark 86 = .ok (.invokestatic 418, 3) := by decide +kernel
theorem dX11_mark_89 : decode cX11_mark 89 = .ok (.goto 20, 3) := by decide +kernel
theorem dX11_mark_92 : decode cX11_mark 92 = .ok (.aload_n 0, 1) := by decide +kernel
theorem dX11_mark_93 : decode cX11_mark 93 = .ok (.getfield 125, 3) := by decide +kernel
theorem dX11_mark_96 : decode cX11_mark 96 = .ok (.iconst 0, 1) := by decide +kernel
theorem dX11_mark_97 : decode cX11_mark 97 = .ok (.aload_n 0, 1) := by decide +kernel
theorem dX11_mark_98 : decode cX11_mark 98 = .ok (.getfield 134, 3) := by decide +kernel
theorem dX11_mark_101 : decode cX11_mark 101 = .ok (.sipush 374, 3) := by decide +kernel
theorem dX11_mark_104 : decode cX11_mark 104 = .ok (.iload_n 1, 1) := by decide +kernel
theorem dX11_mark_105 : decode cX11_mark 105 = .ok (.imul, 1) := by decide +kernel
theorem dX11_mark_106 : decode cX11_mark 106 = .ok (.invokestatic 418, 3) := by decide +kernel
theorem dX11_mark_109 : decode cX11_mark 109 = .ok (.iconst 1, 1) := by decide +kernel
theorem dX11_mark_110 : decode cX11_mark 110 = .ok (.ireturn, 1) := by decide +kernel
theorem dX11_withStatus_0 : decode cX11_withStatus 0 = .ok (.iconst 0, 1) := by decide +kernel
theorem dX11_withStatus_1 : decode cX11_withStatus 1 = .ok (.istore_n 2, 1) := by decide +kernel
theorem dX11_withStatus_2 : decode cX11_withStatus 2 = .ok (.iconst 0, 1) := by decide +kernel
theorem dX11_withStatus_3 : decode cX11_withStatus 3 = .ok (.istore_n 3, 1) := by decide +kernel
theorem dX11_withStatus_4 : decode cX11_withStatus 4 = .ok (.iload_n 3, 1) := by decide +kernel
theorem dX11_withStatus_5 : decode cX11_withStatus 5 = .ok (.aload_n 0, 1) := by decide +kernel
theorem dX11_withStatus_6 : decode cX11_withStatus 6 = .ok (.getfield 71, 3) := by decide +kernel
theorem dX11_withStatus_9 : decode cX11_withStatus 9 = .ok (.iconst 0, 1) := by decide +kernel
theorem dX11_withStatus_10 : decode cX11_withStatus 10 = .ok (.iaload, 1) := by decide +kernel
theorem dX11_withStatus_11 : decode cX11_withStatus 11 = .ok (.if_icmp .ge 55, 3) := by decide +kernel
theorem dX11_withStatus_14 : decode cX11_withStatus 14 = .ok (.iconst 0, 1) := by decide +kernel
theorem dX11_withStatus_15 : decode cX11_withStatus 15 = .ok (.istore 4, 2) := by decide +kernel
theorem dX11_withStatus_17 : decode cX11_withStatus 17 = .ok (.iload 4, 2) := by decide +kernel
theorem dX11_withStatus_19 : decode cX11_withStatus 19 = .ok (.aload_n 0, 1) := by decide +kernel
theorem dX11_withStatus_20 : decode cX11_withStatus 20 = .ok (.getfield 74, 3) := by decide +kernel
theorem dX11_withStatus_23 : decode cX11_withStatus 23 = .ok (.iload_n 3, 1) := by decide +kernel
theorem dX11_withStatus_24 : decode cX11_withStatus 24 = .ok (.iaload, 1) := by decide +kernel
theorem dX11_withStatus_25 : decode cX11_withStatus 25 = .ok (.if_icmp .ge 35, 3) := by decide +kernel
theorem dX11_withStatus_28 : decode cX11_withStatus 28 = .ok (.iload_n 2, 1) := by decide +kernel
theorem dX11_withStatus_29 : decode cX11_withStatus 29 = .ok (.aload_n 0, 1) := by decide +kernel
theorem dX11_withStatus_30 : decode cX11_withStatus 30 = .ok (.getfield 125, 3) := by decide +kernel
theorem dX11_withStatus_33 : decode cX11_withStatus 33 = .ok (.bipush 14, 2) := by decide +kernel
theorem dX11_withStatus_35 : decode cX11_withStatus 35 = .ok (.iconst 5, 1) := by decide +kernel
theorem dX11_withStatus_36 : decode cX11_withStatus 36 = .ok (.iload_n 3, 1) := by decide +kernel
theorem dX11_withStatus_37 : decode cX11_withStatus 37 = .ok (.imul, 1) := by decide +kernel
theorem dX11_withStatus_38 : decode cX11_withStatus 38 = .ok (.iadd, 1) := by decide +kernel
theorem dX11_withStatus_39 : decode cX11_withStatus 39 = .ok (.iload 4, 2) := by decide +kernel
theorem dX11_withStatus_41 : decode cX11_withStatus 41 = .ok (.iadd, 1) := by decide +kernel
theorem dX11_withStatus_42 : decode cX11_withStatus 42 = .ok (.iaload, 1) := by decide +kernel
theorem dX11_withStatus_43 : decode cX11_withStatus 43 = .ok (.iload_n 1, 1) := by decide +kernel
theorem dX11_withStatus_44 : decode cX11_withStatus 44 = .ok (.if_icmp .ne 7, 3) := by decide +kernel
theorem dX11_withStatus_47 : decode cX11_withStatus 47 = .ok (.iconst 1, 1) := by decide +kernel
theorem dX11_withStatus_48 : decode cX11_withStatus 48 = .ok (.goto 4, 3) := by decide +kernel
theorem dX11_withStatus_51 : decode cX11_withStatus 51 = .ok (.iconst 0, 1) := by decide +kernel
theorem dX11_withStatus_52 : decode cX11_withStatus 52 = .ok (.iadd, 1) := by decide +kernel
theorem dX11_withStatus_53 : decode cX11_withStatus 53 = .ok (.istore_n 2, 1) := by decide +kernel
theorem dX11_withStatus_54 : decode cX11_withStatus 54 = .ok (.iinc 4 1, 3) := by decide +kernel
theorem dX11_withStatus_57 : decode cX11_withStatus 57 = .ok (.goto (-40), 3) := by decide +kernel
theorem dX11_withStatus_60 : decode cX11_withStatus 60 = .ok (.iinc 3 1, 3) := by decide +kernel
theorem dX11_withStatus_63 : decode cX11_withStatus 63 = .ok (.goto (-59), 3) := by decide +kernel
theorem dX11_withStatus_66 : decode cX11_withStatus 66 = .ok (.iload_n 2, 1) := by decide +kernel
theorem dX11_withStatus_67 : decode cX11_withStatus 67 = .ok (.ireturn, 1) := by decide +kernel
theorem dX11_count_0 : decode cX11_count 0 = .ok (.aload_n 0, 1) := by decide +kernel
theorem dX11_count_1 : decode cX11_count 1 = .ok (.iconst 0, 1) := by decide +kernel
theorem dX11_count_2 : decode cX11_count 2 = .ok (.putfield 152, 3) := by decide +kernel
theorem dX11_count_5 : decode cX11_count 5 = .ok (.iload_n 1, 1) := by decide +kernel
theorem dX11_count_6 : decode cX11_count 6 = .ok (.iconst 0, 1) := by decide +kernel
theorem dX11_count_7 : decode cX11_count 7 = .ok (.bipush 12, 2) := by decide +kernel
theorem dX11_count_9 : decode cX11_count 9 = .ok (.invokestatic 239, 3) := by decide +kernel
theorem dX11_count_12 : decode cX11_count 12 = .ok (.ifCond .ne 5, 3) := by decide +kernel
theorem dX11_count_15 : decode cX11_count 15 = .ok (.iconst (-1), 1) := by decide +kernel
theorem dX11_count_16 : decode cX11_count 16 = .ok (.ireturn, 1) := by decide +kernel
theorem dX11_count_17 : decode cX11_count 17 = .ok (.iload_n 1, 1) := by decide +kernel
theorem dX11_count_18 : decode cX11_count 18 = .ok (.iconst 4, 1) := by decide +kernel
theorem dX11_count_19 : decode cX11_count 19 = .ok (.if_icmp .ge 38, 3) := by decide +kernel
theorem dX11_count_22 : decode cX11_count 22 = .ok (.iload_n 1, 1) := by decide +kernel
theorem dX11_count_23 : decode cX11_count 23 = .ok (.iconst 2, 1) := by decide +kernel
theorem dX11_count_24 : decode cX11_count 24 = .ok (.if_icmp .ge 12, 3) := by decide +kernel
theorem dX11_count_27 : decode cX11_count 27 = .ok (.aload_n 0, 1) := by decide +kernel
theorem dX11_count_28 : decode cX11_count 28 = .ok (.getfield 13, 3) := by decide +kernel
theorem dX11_count_31 : decode cX11_count 31 = .ok (.iload_n 1, 1) := by decide +kernel
theorem dX11_count_32 : decode cX11_count 32 = .ok (.iaload, 1) := by decide +kernel
theorem dX11_count_33 : decode cX11_count 33 = .ok (.goto 23, 3) := by decide +kernel
theorem dX11_count_36 : decode cX11_count 36 = .ok (.iload_n 1, 1) := by decide +kernel
theorem dX11_count_37 : decode cX11_count 37 = .ok (.iconst 2, 1) := by decide +kernel
theorem dX11_count_38 : decode cX11_count 38 = .ok (.if_icmp .ne 12, 3) := by decide +kernel
theorem dX11_count_41 : decode cX11_count 41 = .ok (.aload_n 0, 1) := by decide +kernel
theorem dX11_count_42 : decode cX11_count 42 = .ok (.getfield 71, 3) := by decide +kernel
theorem dX11_count_45 : decode cX11_count 45 = .ok (.iconst 0, 1) := by decide +kernel
theorem dX11_count_46 : decode cX11_count 46 = .ok (.iaload, 1) := by decide +kernel
theorem dX11_count_47 : decode cX11_count 47 = .ok (.goto 9, 3) := by decide +kernel
theorem dX11_count_50 : decode cX11_count 50 = .ok (.aload_n 0, 1) := by decide +kernel
theorem dX11_count_51 : decode cX11_count 51 = .ok (.getfield 98, 3) := by decide +kernel
theorem dX11_count_54 : decode cX11_count 54 = .ok (.iconst 0, 1) := by decide +kernel
theorem dX11_count_55 : decode cX11_count 55 = .ok (.iaload, 1) := by decide +kernel
theorem dX11_count_56 : decode cX11_count 56 = .ok (.ireturn, 1) := by decide +kernel
theorem dX11_count_57 : decode cX11_count 57 = .ok (.iload_n 1, 1) := by decide +kernel
theorem dX11_count_58 : decode cX11_count 58 = .ok (.bipush 7, 2) := by decide +kernel
theorem dX11_count_60 : decode cX11_count 60 = .ok (.if_icmp .ge 32, 3) := by decide +kernel
theorem dX11_count_63 : decode cX11_count 63 = .ok (.iload_n 1, 1) := by decide +kernel
theorem dX11_count_64 : decode cX11_count 64 = .ok (.iconst 4, 1) := by decide +kernel
theorem dX11_count_65 : decode cX11_count 65 = .ok (.if_icmp .ne 12, 3) := by decide +kernel
theorem dX11_count_68 : decode cX11_count 68 = .ok (.aload_n 0, 1) := by decide +kernel
theorem dX11_count_69 : decode cX11_count 69 = .ok (.getfield 125, 3) := by decide +kernel
theorem dX11_count_72 : decode cX11_count 72 = .ok (.iconst 0, 1) := by decide +kernel
theorem dX11_count_73 : decode cX11_count 73 = .ok (.iaload, 1) := by decide +kernel
theorem dX11_count_74 : decode cX11_count 74 = .ok (.goto 17, 3) := by decide +kernel
theorem dX11_count_77 : decode cX11_count 77 = .ok (.aload_n 0, 1) := by decide +kernel
theorem dX11_count_78 : decode cX11_count 78 = .ok (.iload_n 1, 1) := by decide +kernel
theorem dX11_count_79 : decode cX11_count 79 = .ok (.iconst 5, 1) := by decide +kernel
theorem dX11_count_80 : decode cX11_count 80 = .ok (.if_icmp .ne 7, 3) := by decide +kernel
theorem dX11_count_83 : decode cX11_count 83 = .ok (.iconst 2, 1) := by decide +kernel
theorem dX11_count_84 : decode cX11_count 84 = .ok (.goto 4, 3) := by decide +kernel
theorem dX11_count_87 : decode cX11_count 87 = .ok (.iconst 1, 1) := by decide +kernel
theorem dX11_count_88 : decode cX11_count 88 = .ok (.invokevirtual 505, 3) := by decide +kernel
theorem dX11_count_91 : decode cX11_count 91 = .ok (.ireturn, 1) := by decide +kernel
theorem dX11_count_92 : decode cX11_count 92 = .ok (.iload_n 1, 1) := by decide +kernel
theorem dX11_count_93 : decode cX11_count 93 = .ok (.bipush 10, 2) := by decide +kernel
theorem dX11_count_95 : decode cX11_count 95 = .ok (.if_icmp .ge 36, 3) := by decide +kernel
theorem dX11_count_98 : decode cX11_count 98 = .ok (.iload_n 1, 1) := by decide +kernel
theorem dX11_count_99 : decode cX11_count 99 = .ok (.bipush 7, 2) := by decide +kernel
theorem dX11_count_101 : decode cX11_count 101 = .ok (.if_icmp .ne 10, 3) := by decide +kernel
theorem dX11_count_104 : decode cX11_count 104 = .ok (.aload_n 0, 1) := by decide +kernel
theorem dX11_count_105 : decode cX11_count 105 = .ok (.invokevirtual 428, 3) := by decide +kernel
theorem dX11_count_108 : decode cX11_count 108 = .ok (.goto 22, 3) := by decide +kernel
theorem dX11_count_111 : decode cX11_count 111 = .ok (.iload_n 1, 1) := by decide +kernel
theorem dX11_count_112 : decode cX11_count 112 = .ok (.bipush 8, 2) := by decide +kernel
theorem dX11_count_114 : decode cX11_count 114 = .ok (.if_icmp .ne 10, 3) := by decide +kernel
theorem dX11_count_117 : decode cX11_count 117 = .ok (.aload_n 0, 1) := by decide +kernel
theorem dX11_count_118 : decode cX11_count 118 = .ok (.invokevirtual 425, 3) := by decide +kernel
theorem dX11_count_121 : decode cX11_count 121 = .ok (.goto 9, 3) := by decide +kernel
theorem dX11_count_124 : decode cX11_count 124 = .ok (.aload_n 0, 1) := by decide +kernel
theorem dX11_count_125 : decode cX11_count 125 = .ok (.getfield 13, 3) := by decide +kernel
theorem dX11_count_128 : decode cX11_count 128 = .ok (.iconst 2, 1) := by decide +kernel
theorem dX11_count_129 : decode cX11_count 129 = .ok (.iaload, 1) := by decide +kernel
theorem dX11_count_130 : decode cX11_count 130 = .ok (.ireturn, 1) := by decide +kernel
theorem dX11_count_131 : decode cX11_count 131 = .ok (.iload_n 1, 1) := by decide +kernel
theorem dX11_count_132 : decode cX11_count 132 = .ok (.bipush 10, 2) := by decide +kernel
theorem dX11_count_134 : decode cX11_count 134 = .ok (.if_icmp .ne 12, 3) := by decide +kernel
theorem dX11_count_137 : decode cX11_count 137 = .ok (.aload_n 0, 1) := by decide +kernel
theorem dX11_count_138 : decode cX11_count 138 = .ok (.getfield 104, 3) := by decide +kernel
theorem dX11_count_141 : decode cX11_count 141 = .ok (.iconst 0, 1) := by decide +kernel
theorem dX11_count_142 : decode cX11_count 142 = .ok (.iaload, 1) := by decide +kernel
theorem dX11_count_143 : decode cX11_count 143 = .ok (.goto 22, 3) := by decide +kernel
theorem dX11_count_146 : decode cX11_count 146 = .ok (.iload_n 1, 1) := by decide +kernel
theorem dX11_count_147 : decode cX11_count 147 = .ok (.bipush 11, 2) := by decide +kernel
theorem dX11_count_149 : decode cX11_count 149 = .ok (.if_icmp .ne 12, 3) := by decide +kernel
theorem dX11_count_152 : decode cX11_count 152 = .ok (.aload_n 0, 1) := by decide +kernel
theorem dX11_count_153 : decode cX11_count 153 = .ok (.getfield 116, 3) := by decide +kernel
theorem dX11_count_156 : decode cX11_count 156 = .ok (.iconst 0, 1) := by decide +kernel
theorem dX11_count_157 : decode cX11_count 157 = .ok (.iaload, 1) := by decide +kernel
theorem dX11_count_158 : decode cX11_count 158 = .ok (.goto 7, 3) := by decide +kernel
theorem dX11_count_161 : decode cX11_count 161 = .ok (.aload_n 0, 1) := by decide +kernel
theorem dX11_count_162 : decode cX11_count 162 = .ok (.getfield 158, 3) := by decide +kernel
theorem dX11_count_165 : decode cX11_count 165 = .ok (.ireturn, 1) := by decide +kernel
theorem dJ11_isValidCodePoint_9a6ad_0 : decode cJ11_isValidCodePoint_9a6ad 0 = .ok (.iload_n 0, 1) := by decide +kernel
theorem dJ11_isValidCodePoint_9a6ad_1 : decode cJ11_isValidCodePoint_9a6ad 1 = .ok (.bipush 16, 2) := by decide +kernel
theorem dJ11_isValidCodePoint_9a6ad_3 : decode cJ11_isValidCodePoint_9a6ad 3 = .ok (.iushr, 1) := by decide +kernel
theorem dJ11_isValidCodePoint_9a6ad_4 : decode cJ11_isValidCodePoint_9a6ad 4 = .ok (.istore_n 1, 1) := by decide +kernel
theorem dJ11_isValidCodePoint_9a6ad_5 : decode cJ11_isValidCodePoint_9a6ad 5 = .ok (.iload_n 1, 1) := by decide +kernel
theorem dJ11_isValidCodePoint_9a6ad_6 : decode cJ11_isValidCodePoint_9a6ad 6 = .ok (.bipush 17, 2) := by decide +kernel
theorem dJ11_isValidCodePoint_9a6ad_8 : decode cJ11_isValidCodePoint_9a6ad 8 = .ok (.if_icmp .ge 7, 3) := by decide +kernel
theorem dJ11_isValidCodePoint_9a6ad_11 : decode cJ11_isValidCodePoint_9a6ad 11 = .ok (.iconst 1, 1) := by decide +kernel
theorem dJ11_isValidCodePoint_9a6ad_12 : decode cJ11_isValidCodePoint_9a6ad 12 = .ok (.goto 4, 3) := by decide +kernel
theorem dJ11_isValidCodePoint_9a6ad_15 : decode cJ11_isValidCodePoint_9a6ad 15 = .ok (.iconst 0, 1) := by decide +kernel
theorem dJ11_isValidCodePoint_9a6ad_16 : decode cJ11_isValidCodePoint_9a6ad 16 = .ok (.ireturn, 1) := by decide +kernel
theorem dJ11_highSurrogate_5068e_0 : decode cJ11_highSurrogate_5068e 0 = .ok (.iload_n 0, 1) := by decide +kernel
theorem dJ11_highSurrogate_5068e_1 : decode cJ11_highSurrogate_5068e 1 = .ok (.bipush 10, 2) := by decide +kernel
theorem dJ11_highSurrogate_5068e_3 : decode cJ11_highSurrogate_5068e 3 = .ok (.iushr, 1) := by decide +kernel
theorem dJ11_highSurrogate_5068e_4 : decode cJ11_highSurrogate_5068e 4 = .ok (.ldc 110, 2) := by decide +kernel
theorem dJ11_highSurrogate_5068e_6 : decode cJ11_highSurrogate_5068e 6 = .ok (.iadd, 1) := by decide +kernel
theorem dJ11_highSurrogate_5068e_7 : decode cJ11_highSurrogate_5068e 7 = .ok (.i2c, 1) := by decide +kernel
theorem dJ11_highSurrogate_5068e_8 : decode cJ11_highSurrogate_5068e 8 = .ok (.ireturn, 1) := by decide +kernel
theorem dJ11_lowSurrogate_5068e_0 : decode cJ11_lowSurrogate_5068e 0 = .ok (.iload_n 0, 1) := by decide +kernel
theorem dJ11_lowSurrogate_5068e_1 : decode cJ11_lowSurrogate_5068e 1 = .ok (.sipush 1023, 3) := by decide +kernel
theorem dJ11_lowSurrogate_5068e_4 : decode cJ11_lowSurrogate_5068e 4 = .ok (.iand, 1) := by decide +kernel
theorem dJ11_lowSurrogate_5068e_5 : decode cJ11_lowSurrogate_5068e 5 = .ok (.ldc 76, 2) := by decide +kernel
theorem dJ11_lowSurrogate_5068e_7 : decode cJ11_lowSurrogate_5068e 7 = .ok (.iadd, 1) := by decide +kernel
theorem dJ11_lowSurrogate_5068e_8 : decode cJ11_lowSurrogate_5068e 8 = .ok (.i2c, 1) := by decide +kernel
theorem dJ11_lowSurrogate_5068e_9 : decode cJ11_lowSurrogate_5068e 9 = .ok (.ireturn, 1) := by decide +kernel
theorem dJ6_bitCount_0f7a4_0 : decode cJ6_bitCount_0f7a4 0 = .ok (.iload_n 0, 1) := by decide +kernel
theorem dJ6_bitCount_0f7a4_1 : decode cJ6_bitCount_0f7a4 1 = .ok (.iload_n 0, 1) := by decide +kernel
theorem dJ6_bitCount_0f7a4_2 : decode cJ6_bitCount_0f7a4 2 = .ok (.iconst 1, 1) := by decide +kernel
theorem dJ6_bitCount_0f7a4_3 : decode cJ6_bitCount_0f7a4 3 = .ok (.iushr, 1) := by decide +kernel
theorem dJ6_bitCount_0f7a4_4 : decode cJ6_bitCount_0f7a4 4 = .ok (.ldc_w 265, 3) := by decide +kernel
theorem dJ6_bitCount_0f7a4_7 : decode cJ6_bitCount_0f7a4 7 = .ok (.iand, 1) := by decide +kernel
theorem dJ6_bitCount_0f7a4_8 : decode cJ6_bitCount_0f7a4 8 = .ok (.isub, 1) := by decide +kernel
theorem dJ6_bitCount_0f7a4_9 : decode cJ6_bitCount_0f7a4 9 = .ok (.istore_n 0, 1) := by decide +kernel
theorem dJ6_bitCount_0f7a4_10 : decode cJ6_bitCount_0f7a4 10 = .ok (.iload_n 0, 1) := by decide +kernel
theorem dJ6_bitCount_0f7a4_11 : decode cJ6_bitCount_0f7a4 11 = .ok (.ldc_w 266, 3) := by decide +kernel
theorem dJ6_bitCount_0f7a4_14 : decode cJ6_bitCount_0f7a4 14 = .ok (.iand, 1) := by decide +kernel
theorem dJ6_bitCount_0f7a4_15 : decode cJ6_bitCount_0f7a4 15 = .ok (.iload_n 0, 1) := by decide +kernel
theorem dJ6_bitCount_0f7a4_16 : decode cJ6_bitCount_0f7a4 16 = .ok (.iconst 2, 1) := by decide +kernel
theorem dJ6_bitCount_0f7a4_17 : decode cJ6_bitCount_0f7a4 17 = .ok (.iushr, 1) := by decide +kernel
theorem dJ6_bitCount_0f7a4_18 : decode cJ6_bitCount_0f7a4 18 = .ok (.ldc_w 266, 3) := by decide +kernel
theorem dJ6_bitCount_0f7a4_21 : decode cJ6_bitCount_0f7a4 21 = .ok (.iand, 1) := by decide +kernel
theorem dJ6_bitCount_0f7a4_22 : decode cJ6_bitCount_0f7a4 22 = .ok (.iadd, 1) := by decide +kernel
theorem dJ6_bitCount_0f7a4_23 : decode cJ6_bitCount_0f7a4 23 = .ok (.istore_n 0, 1) := by decide +kernel
theorem dJ6_bitCount_0f7a4_24 : decode cJ6_bitCount_0f7a4 24 = .ok (.iload_n 0, 1) := by decide +kernel
theorem dJ6_bitCount_0f7a4_25 : decode cJ6_bitCount_0f7a4 25 = .ok (.iload_n 0, 1) := by decide +kernel
theorem dJ6_bitCount_0f7a4_26 : decode cJ6_bitCount_0f7a4 26 = .ok (.iconst 4, 1) := by decide +kernel
theorem dJ6_bitCount_0f7a4_27 : decode cJ6_bitCount_0f7a4 27 = .ok (.iushr, 1) := by decide +kernel
theorem dJ6_bitCount_0f7a4_28 : decode cJ6_bitCount_0f7a4 28 = .ok (.iadd, 1) := by decide +kernel
theorem dJ6_bitCount_0f7a4_29 : decode cJ6_bitCount_0f7a4 29 = .ok (.ldc_w 267, 3) := by decide +kernel
theorem dJ6_bitCount_0f7a4_32 : decode cJ6_bitCount_0f7a4 32 = .ok (.iand, 1) := by decide +kernel
theorem dJ6_bitCount_0f7a4_33 : decode cJ6_bitCount_0f7a4 33 = .ok (.istore_n 0, 1) := by decide +kernel
theorem dJ6_bitCount_0f7a4_34 : decode cJ6_bitCount_0f7a4 34 = .ok (.iload_n 0, 1) := by decide +kernel
theorem dJ6_bitCount_0f7a4_35 : decode cJ6_bitCount_0f7a4 35 = .ok (.iload_n 0, 1) := by decide +kernel
theorem dJ6_bitCount_0f7a4_36 : decode cJ6_bitCount_0f7a4 36 = .ok (.bipush 8, 2) := by decide +kernel
theorem dJ6_bitCount_0f7a4_38 : decode cJ6_bitCount_0f7a4 38 = .ok (.iushr, 1) := by decide +kernel
theorem dJ6_bitCount_0f7a4_39 : decode cJ6_bitCount_0f7a4 39 = .ok (.iadd, 1) := by decide +kernel
theorem dJ6_bitCount_0f7a4_40 : decode cJ6_bitCount_0f7a4 40 = .ok (.istore_n 0, 1) := by decide +kernel
theorem dJ6_bitCount_0f7a4_41 : decode cJ6_bitCount_0f7a4 41 = .ok (.iload_n 0, 1) := by decide +kernel
theorem dJ6_bitCount_0f7a4_42 : decode cJ6_bitCount_0f7a4 42 = .ok (.iload_n 0, 1) := by decide +kernel
theorem dJ6_bitCount_0f7a4_43 : decode cJ6_bitCount_0f7a4 43 = .ok (.bipush 16, 2) := by decide +kernel
theorem dJ6_bitCount_0f7a4_45 : decode cJ6_bitCount_0f7a4 45 = .ok (.iushr, 1) := by decide +kernel
theorem dJ6_bitCount_0f7a4_46 : decode cJ6_bitCount_0f7a4 46 = .ok (.iadd, 1) := by decide +kernel
theorem dJ6_bitCount_0f7a4_47 : decode cJ6_bitCount_0f7a4 47 = .ok (.istore_n 0, 1) := by decide +kernel
theorem dJ6_bitCount_0f7a4_48 : decode cJ6_bitCount_0f7a4 48 = .ok (.iload_n 0, 1) := by decide +kernel
theorem dJ6_bitCount_0f7a4_49 : decode cJ6_bitCount_0f7a4 49 = .ok (.bipush 63, 2) := by decide +kernel
theorem dJ6_bitCount_0f7a4_51 : decode cJ6_bitCount_0f7a4 51 = .ok (.iand, 1) := by decide +kernel
theorem dJ6_bitCount_0f7a4_52 : decode cJ6_bitCount_0f7a4 52 = .ok (.ireturn, 1) := by decide +kernel
theorem dJ9_floorMod_7cf53_0 : decode cJ9_floorMod_7cf53 0 = .ok (.iload_n 0, 1) := by decide +kernel
theorem dJ9_floorMod_7cf53_1 : decode cJ9_floorMod_7cf53 1 = .ok (.iload_n 1, 1) := by decide +kernel
theorem dJ9_floorMod_7cf53_2 : decode cJ9_floorMod_7cf53 2 = .ok (.irem, 1) := by decide +kernel
theorem dJ9_floorMod_7cf53_3 : decode cJ9_floorMod_7cf53 3 = .ok (.istore_n 2, 1) := by decide +kernel
theorem dJ9_floorMod_7cf53_4 : decode cJ9_floorMod_7cf53 4 = .ok (.iload_n 0, 1) := by decide +kernel
theorem dJ9_floorMod_7cf53_5 : decode cJ9_floorMod_7cf53 5 = .ok (.iload_n 1, 1) := by decide +kernel
theorem dJ9_floorMod_7cf53_6 : decode cJ9_floorMod_7cf53 6 = .ok (.ixor, 1) := by decide +kernel
theorem dJ9_floorMod_7cf53_7 : decode cJ9_floorMod_7cf53 7 = .ok (.ifCond .ge 11, 3) := by decide +kernel
theorem dJ9_floorMod_7cf53_10 : decode cJ9_floorMod_7cf53 10 = .ok (.iload_n 2, 1) := by decide +kernel
theorem dJ9_floorMod_7cf53_11 : decode cJ9_floorMod_7cf53 11 = .ok (.ifCond .eq 7, 3) := by decide +kernel
theorem dJ9_floorMod_7cf53_14 : decode cJ9_floorMod_7cf53 14 = .ok (.iload_n 2, 1) := by decide +kernel
theorem dJ9_floorMod_7cf53_15 : decode cJ9_floorMod_7cf53 15 = .ok (.iload_n 1, 1) := by decide +kernel
theorem dJ9_floorMod_7cf53_16 : decode cJ9_floorMod_7cf53 16 = .ok (.iadd, 1) := by decide +kernel
theorem dJ9_floorMod_7cf53_17 : decode cJ9_floorMod_7cf53 17 = .ok (.ireturn, 1) := by decide +kernel
theorem dJ9_floorMod_7cf53_18 : decode cJ9_floorMod_7cf53 18 = .ok (.iload_n 2, 1) := by decide +kernel
theorem dJ9_floorMod_7cf53_19 : decode cJ9_floorMod_7cf53 19 = .ok (.ireturn, 1) := by decide +kernel
theorem dJ9_max_7cf53_0 : decode cJ9_max_7cf53 0 = .ok (.iload_n 0, 1) := by decide +kernel
theorem dJ9_max_7cf53_1 : decode cJ9_max_7cf53 1 = .ok (.iload_n 1, 1) := by decide +kernel
theorem dJ9_max_7cf53_2 : decode cJ9_max_7cf53 2 = .ok (.if_icmp .lt 7, 3) := by decide +kernel
theorem dJ9_max_7cf53_5 : decode cJ9_max_7cf53 5 = .ok (.iload_n 0, 1) := by decide +kernel
theorem dJ9_max_7cf53_6 : decode cJ9_max_7cf53 6 = .ok (.goto 4, 3) := by decide +kernel
theorem dJ9_max_7cf53_9 : decode cJ9_max_7cf53 9 = .ok (.iload_n 1, 1) := by decide +kernel
theorem dJ9_max_7cf53_10 : decode cJ9_max_7cf53 10 = .ok (.ireturn, 1) := by decide +kernel
theorem dJ9_min_7cf53_0 : decode cJ9_min_7cf53 0 = .ok (.iload_n 0, 1) := by decide +kernel
theorem dJ9_min_7cf53_1 : decode cJ9_min_7cf53 1 = .ok (.iload_n 1, 1) := by decide +kernel
theorem dJ9_min_7cf53_2 : decode cJ9_min_7cf53 2 = .ok (.if_icmp .gt 7, 3) := by decide +kernel
theorem dJ9_min_7cf53_5 : decode cJ9_min_7cf53 5 = .ok (.iload_n 0, 1) := by decide +kernel
theorem dJ9_min_7cf53_6 : decode cJ9_min_7cf53 6 = .ok (.goto 4, 3) := by decide +kernel
theorem dJ9_min_7cf53_9 : decode cJ9_min_7cf53 9 = .ok (.iload_n 1, 1) := by decide +kernel
theorem dJ9_min_7cf53_10 : decode cJ9_min_7cf53 10 = .ok (.ireturn, 1) := by decide +kernel
theorem dJ0_length_8abf5_0 : decode cJ0_length_8abf5 0 = .ok (.aload_n 0, 1) := by decide +kernel
theorem dJ0_length_8abf5_1 : decode cJ0_length_8abf5 1 = .ok (.getfield 9, 3) := by decide +kernel
theorem dJ0_length_8abf5_4 : decode cJ0_length_8abf5 4 = .ok (.arraylength, 1) := by decide +kernel
theorem dJ0_length_8abf5_5 : decode cJ0_length_8abf5 5 = .ok (.aload_n 0, 1) := by decide +kernel
theorem dJ0_length_8abf5_6 : decode cJ0_length_8abf5 6 = .ok (.invokevirtual 335, 3) := by decide +kernel
theorem dJ0_length_8abf5_9 : decode cJ0_length_8abf5 9 = .ok (.ishr, 1) := by decide +kernel
theorem dJ0_length_8abf5_10 : decode cJ0_length_8abf5 10 = .ok (.ireturn, 1) := by decide +kernel
theorem dJ0_charAt_5068e_0 : decode cJ0_charAt_5068e 0 = .ok (.aload_n 0, 1) := by decide +kernel
theorem dJ0_charAt_5068e_1 : decode cJ0_charAt_5068e 1 = .ok (.invokevirtual 492, 3) := by decide +kernel
theorem dJ0_charAt_5068e_4 : decode cJ0_charAt_5068e 4 = .ok (.ifCond .eq 12, 3) := by decide +kernel
theorem dJ0_charAt_5068e_7 : decode cJ0_charAt_5068e 7 = .ok (.aload_n 0, 1) := by decide +kernel
theorem dJ0_charAt_5068e_8 : decode cJ0_charAt_5068e 8 = .ok (.getfield 9, 3) := by decide +kernel
theorem dJ0_charAt_5068e_11 : decode cJ0_charAt_5068e 11 = .ok (.iload_n 1, 1) := by decide +kernel
theorem dJ0_charAt_5068e_12 : decode cJ0_charAt_5068e 12 = .ok (.invokestatic 495, 3) := by decide +kernel
theorem dJ0_charAt_5068e_15 : decode cJ0_charAt_5068e 15 = .ok (.ireturn, 1) := by decide +kernel
theorem dJ0_charAt_5068e_16 : decode cJ0_charAt_5068e 16 = .ok (.aload_n 0, 1) := by decide +kernel
theorem dJ0_charAt_5068e_17 : decode cJ0_charAt_5068e 17 = .ok (.getfield 9, 3) := by decide +kernel
theorem dJ0_charAt_5068e_20 : decode cJ0_charAt_5068e 20 = .ok (.iload_n 1, 1) := by decide +kernel
theorem dJ0_charAt_5068e_21 : decode cJ0_charAt_5068e 21 = .ok (.invokestatic 498, 3) := by decide +kernel
theorem dJ0_charAt_5068e_24 : decode cJ0_charAt_5068e 24 = .ok (.ireturn, 1) := by decide +kernel
theorem dJ0_indexOf_0f7a4_0 : decode cJ0_indexOf_0f7a4 0 = .ok (.aload_n 0, 1) := by decide +kernel
theorem dJ0_indexOf_0f7a4_1 : decode cJ0_indexOf_0f7a4 1 = .ok (.iload_n 1, 1) := by decide +kernel
theorem dJ0_indexOf_0f7a4_2 : decode cJ0_indexOf_0f7a4 2 = .ok (.iconst 0, 1) := by decide +kernel
theorem dJ0_indexOf_0f7a4_3 : decode cJ0_indexOf_0f7a4 3 = .ok (.invokevirtual 633, 3) := by decide +kernel
theorem dJ0_indexOf_0f7a4_6 : decode cJ0_indexOf_0f7a4 6 = .ok (.ireturn, 1) := by decide +kernel
theorem dJ0_indexOf_7cf53_0 : decode cJ0_indexOf_7cf53 0 = .ok (.aload_n 0, 1) := by decide +kernel
theorem dJ0_indexOf_7cf53_1 : decode cJ0_indexOf_7cf53 1 = .ok (.invokevirtual 492, 3) := by decide +kernel
theorem dJ0_indexOf_7cf53_4 : decode cJ0_indexOf_7cf53 4 = .ok (.ifCond .eq 19, 3) := by decide +kernel
theorem dJ0_indexOf_7cf53_7 : decode cJ0_indexOf_7cf53 7 = .ok (.aload_n 0, 1) := by decide +kernel
theorem dJ0_indexOf_7cf53_8 : decode cJ0_indexOf_7cf53 8 = .ok (.getfield 9, 3) := by decide +kernel
theorem dJ0_indexOf_7cf53_11 : decode cJ0_indexOf_7cf53 11 = .ok (.iload_n 1, 1) := by decide +kernel
theorem dJ0_indexOf_7cf53_12 : decode cJ0_indexOf_7cf53 12 = .ok (.iload_n 2, 1) := by decide +kernel
theorem dJ0_indexOf_7cf53_13 : decode cJ0_indexOf_7cf53 13 = .ok (.aload_n 0, 1) := by decide +kernel
theorem dJ0_indexOf_7cf53_14 : decode cJ0_indexOf_7cf53 14 = .ok (.invokevirtual 505, 3) := by decide +kernel
theorem dJ0_indexOf_7cf53_17 : decode cJ0_indexOf_7cf53 17 = .ok (.invokestatic 637, 3) := by decide +kernel
theorem dJ0_indexOf_7cf53_20 : decode cJ0_indexOf_7cf53 20 = .ok (.goto 16, 3) := by decide +kernel
theorem dJ0_indexOf_7cf53_23 : decode cJ0_indexOf_7cf53 23 = .ok (.aload_n 0, 1) := by decide +kernel
theorem dJ0_indexOf_7cf53_24 : decode cJ0_indexOf_7cf53 24 = .ok (.getfield 9, 3) := by decide +kernel
theorem dJ0_indexOf_7cf53_27 : decode cJ0_indexOf_7cf53 27 = .ok (.iload_n 1, 1) := by decide +kernel
theorem dJ0_indexOf_7cf53_28 : decode cJ0_indexOf_7cf53 28 = .ok (.iload_n 2, 1) := by decide +kernel
theorem dJ0_indexOf_7cf53_29 : decode cJ0_indexOf_7cf53 29 = .ok (.aload_n 0, 1) := by decide +kernel
theorem dJ0_indexOf_7cf53_30 : decode cJ0_indexOf_7cf53 30 = .ok (.invokevirtual 505, 3) := by decide +kernel
theorem dJ0_indexOf_7cf53_33 : decode cJ0_indexOf_7cf53 33 = .ok (.invokestatic 640, 3) := by decide +kernel
theorem dJ0_indexOf_7cf53_36 : decode cJ0_indexOf_7cf53 36 = .ok (.ireturn, 1) := by decide +kernel
theorem dJ0_coder_7d493_0 : decode cJ0_coder_7d493 0 = .ok (.getstatic 38, 3) := by decide +kernel
theorem dJ0_coder_7d493_3 : decode cJ0_coder_7d493 3 = .ok (.ifCond .eq 10, 3) := by decide +kernel
theorem dJ0_coder_7d493_6 : decode cJ0_coder_7d493 6 = .ok (.aload_n 0, 1) := by decide +kernel
theorem dJ0_coder_7d493_7 : decode cJ0_coder_7d493 7 = .ok (.getfield 15, 3) := by decide +kernel
theorem dJ0_coder_7d493_10 : decode cJ0_coder_7d493 10 = .ok (.goto 4, 3) := by decide +kernel
theorem dJ0_coder_7d493_13 : decode cJ0_coder_7d493 13 = .ok (.iconst 1, 1) := by decide +kernel
theorem dJ0_coder_7d493_14 : decode cJ0_coder_7d493 14 = .ok (.ireturn, 1) := by decide +kernel
theorem dJ0_isLatin1_aae02_0 : decode cJ0_isLatin1_aae02 0 = .ok (.getstatic 38, 3) := by decide +kernel
theorem dJ0_isLatin1_aae02_3 : decode cJ0_isLatin1_aae02 3 = .ok (.ifCond .eq 14, 3) := by decide +kernel
theorem dJ0_isLatin1_aae02_6 : decode cJ0_isLatin1_aae02 6 = .ok (.aload_n 0, 1) := by decide +kernel
theorem dJ0_isLatin1_aae02_7 : decode cJ0_isLatin1_aae02 7 = .ok (.getfield 15, 3) := by decide +kernel
theorem dJ0_isLatin1_aae02_10 : decode cJ0_isLatin1_aae02 10 = .ok (.ifCond .ne 7, 3) := by decide +kernel
theorem dJ0_isLatin1_aae02_13 : decode cJ0_isLatin1_aae02 13 = .ok (.iconst 1, 1) := by decide +kernel
theorem dJ0_isLatin1_aae02_14 : decode cJ0_isLatin1_aae02 14 = .ok (.goto 4, 3) := by decide +kernel
theorem dJ0_isLatin1_aae02_17 : decode cJ0_isLatin1_aae02 17 = .ok (.iconst 0, 1) := by decide +kernel
theorem dJ0_isLatin1_aae02_18 : decode cJ0_isLatin1_aae02 18 = .ok (.ireturn, 1) := by decide +kernel
theorem dJ0_checkIndex_df160_0 : decode cJ0_checkIndex_df160 0 = .ok (.iload_n 0, 1) := by decide +kernel
theorem dJ0_checkIndex_df160_1 : decode cJ0_checkIndex_df160 1 = .ok (.iload_n 1, 1) := by decide +kernel
theorem dJ0_checkIndex_df160_2 : decode cJ0_checkIndex_df160 2 = .ok (.getstatic 1053, 3) := by decide +kernel
theorem dJ0_checkIndex_df160_5 : decode cJ0_checkIndex_df160 5 = .ok (.invokestatic 1059, 3) := by decide +kernel
theorem dJ0_checkIndex_df160_8 : decode cJ0_checkIndex_df160 8 = .ok (.pop, 1) := by decide +kernel
theorem dJ0_checkIndex_df160_9 : decode cJ0_checkIndex_df160 9 = .ok (.return_, 1) := by decide +kernel
theorem dJ0_checkBoundsBeginEnd_23922_0 : decode cJ0_checkBoundsBeginEnd_23922 0 = .ok (.iload_n 0, 1) := by decide +kernel
theorem dJ0_checkBoundsBeginEnd_23922_1 : decode cJ0_checkBoundsBeginEnd_23922 1 = .ok (.iload_n 1, 1) := by decide +kernel
theorem dJ0_checkBoundsBeginEnd_23922_2 : decode cJ0_checkBoundsBeginEnd_23922 2 = .ok (.iload_n 2, 1) := by decide +kernel
theorem dJ0_checkBoundsBeginEnd_23922_3 : decode cJ0_checkBoundsBeginEnd_23922 3 = .ok (.getstatic 1053, 3) := by decide +kernel
theorem dJ0_checkBoundsBeginEnd_23922_6 : decode cJ0_checkBoundsBeginEnd_23922 6 = .ok (.invokestatic 1062, 3) := by decide +kernel
theorem dJ0_checkBoundsBeginEnd_23922_9 : decode cJ0_checkBoundsBeginEnd_23922 9 = .ok (.pop, 1) := by decide +kernel
theorem dJ0_checkBoundsBeginEnd_23922_10 : decode cJ0_checkBoundsBeginEnd_23922 10 = .ok (.return_, 1) := by decide +kernel
theorem dJ1_charAt_3b067_0 : decode cJ1_charAt_3b067 0 = .ok (.iload_n 1, 1) := by decide +kernel
theorem dJ1_charAt_3b067_1 : decode cJ1_charAt_3b067 1 = .ok (.aload_n 0, 1) := by decide +kernel
theorem dJ1_charAt_3b067_2 : decode cJ1_charAt_3b067 2 = .ok (.arraylength, 1) := by decide +kernel
theorem dJ1_charAt_3b067_3 : decode cJ1_charAt_3b067 3 = .ok (.invokestatic 9, 3) := by decide +kernel
theorem dJ1_charAt_3b067_6 : decode cJ1_charAt_3b067 6 = .ok (.aload_n 0, 1) := by decide +kernel
theorem dJ1_charAt_3b067_7 : decode cJ1_charAt_3b067 7 = .ok (.iload_n 1, 1) := by decide +kernel
theorem dJ1_charAt_3b067_8 : decode cJ1_charAt_3b067 8 = .ok (.baload, 1) := by decide +kernel
theorem dJ1_charAt_3b067_9 : decode cJ1_charAt_3b067 9 = .ok (.sipush 255, 3) := by decide +kernel
theorem dJ1_charAt_3b067_12 : decode cJ1_charAt_3b067 12 = .ok (.iand, 1) := by decide +kernel
theorem dJ1_charAt_3b067_13 : decode cJ1_charAt_3b067 13 = .ok (.i2c, 1) := by decide +kernel
theorem dJ1_charAt_3b067_14 : decode cJ1_charAt_3b067 14 = .ok (.ireturn, 1) := by decide +kernel
theorem dJ1_canEncode_9a6ad_0 : decode cJ1_canEncode_9a6ad 0 = .ok (.iload_n 0, 1) := by decide +kernel
theorem dJ1_canEncode_9a6ad_1 : decode cJ1_canEncode_9a6ad 1 = .ok (.ifCond .lt 14, 3) := by decide +kernel
theorem dJ1_canEncode_9a6ad_4 : decode cJ1_canEncode_9a6ad 4 = .ok (.iload_n 0, 1) := by decide +kernel
theorem dJ1_canEncode_9a6ad_5 : decode cJ1_canEncode_9a6ad 5 = .ok (.sipush 255, 3) := by decide +kernel
theorem dJ1_canEncode_9a6ad_8 : decode cJ1_canEncode_9a6ad 8 = .ok (.if_icmp .gt 7, 3) := by decide +kernel
theorem dJ1_canEncode_9a6ad_11 : decode cJ1_canEncode_9a6ad 11 = .ok (.iconst 1, 1) := by decide +kernel
theorem dJ1_canEncode_9a6ad_12 : decode cJ1_canEncode_9a6ad 12 = .ok (.goto 4, 3) := by decide +kernel
theorem dJ1_canEncode_9a6ad_15 : decode cJ1_canEncode_9a6ad 15 = .ok (.iconst 0, 1) := by decide +kernel
theorem dJ1_canEncode_9a6ad_16 : decode cJ1_canEncode_9a6ad 16 = .ok (.ireturn, 1) := by decide +kernel
theorem dJ1_indexOf_4cfef_0 : decode cJ1_indexOf_4cfef 0 = .ok (.iload_n 1, 1) := by decide +kernel
theorem dJ1_indexOf_4cfef_1 : decode cJ1_indexOf_4cfef 1 = .ok (.invokestatic 88, 3) := by decide +kernel
theorem dJ1_indexOf_4cfef_4 : decode cJ1_indexOf_4cfef 4 = .ok (.ifCond .ne 5, 3) := by decide +kernel
theorem dJ1_indexOf_4cfef_7 : decode cJ1_indexOf_4cfef 7 = .ok (.iconst (-1), 1) := by decide +kernel
theorem dJ1_indexOf_4cfef_8 : decode cJ1_indexOf_4cfef 8 = .ok (.ireturn, 1) := by decide +kernel
theorem dJ1_indexOf_4cfef_9 : decode cJ1_indexOf_4cfef 9 = .ok (.iload_n 2, 1) := by decide +kernel
theorem dJ1_indexOf_4cfef_10 : decode cJ1_indexOf_4cfef 10 = .ok (.iconst 0, 1) := by decide +kernel
theorem dJ1_indexOf_4cfef_11 : decode cJ1_indexOf_4cfef 11 = .ok (.invokestatic 92, 3) := by decide +kernel
theorem dJ1_indexOf_4cfef_14 : decode cJ1_indexOf_4cfef 14 = .ok (.istore_n 2, 1) := by decide +kernel
theorem dJ1_indexOf_4cfef_15 : decode cJ1_indexOf_4cfef 15 = .ok (.iload_n 3, 1) := by decide +kernel
theorem dJ1_indexOf_4cfef_16 : decode cJ1_indexOf_4cfef 16 = .ok (.aload_n 0, 1) := by decide +kernel
theorem dJ1_indexOf_4cfef_17 : decode cJ1_indexOf_4cfef 17 = .ok (.arraylength, 1) := by decide +kernel
theorem dJ1_indexOf_4cfef_18 : decode cJ1_indexOf_4cfef 18 = .ok (.invokestatic 38, 3) := by decide +kernel
theorem dJ1_indexOf_4cfef_21 : decode cJ1_indexOf_4cfef 21 = .ok (.istore_n 3, 1) := by decide +kernel
theorem dJ1_indexOf_4cfef_22 : decode cJ1_indexOf_4cfef 22 = .ok (.iload_n 2, 1) := by decide +kernel
theorem dJ1_indexOf_4cfef_23 : decode cJ1_indexOf_4cfef 23 = .ok (.iload_n 3, 1) := by decide +kernel
theorem dJ1_indexOf_4cfef_24 : decode cJ1_indexOf_4cfef 24 = .ok (.if_icmp .lt 5, 3) := by decide +kernel
theorem dJ1_indexOf_4cfef_27 : decode cJ1_indexOf_4cfef 27 = .ok (.iconst (-1), 1) := by decide +kernel
theorem dJ1_indexOf_4cfef_28 : decode cJ1_indexOf_4cfef 28 = .ok (.ireturn, 1) := by decide +kernel
theorem dJ1_indexOf_4cfef_29 : decode cJ1_indexOf_4cfef 29 = .ok (.aload_n 0, 1) := by decide +kernel
theorem dJ1_indexOf_4cfef_30 : decode cJ1_indexOf_4cfef 30 = .ok (.iload_n 1, 1) := by decide +kernel
theorem dJ1_indexOf_4cfef_31 : decode cJ1_indexOf_4cfef 31 = .ok (.iload_n 2, 1) := by decide +kernel
theorem dJ1_indexOf_4cfef_32 : decode cJ1_indexOf_4cfef 32 = .ok (.iload_n 3, 1) := by decide +kernel
theorem dJ1_indexOf_4cfef_33 : decode cJ1_indexOf_4cfef 33 = .ok (.invokestatic 95, 3) := by decide +kernel
theorem dJ1_indexOf_4cfef_36 : decode cJ1_indexOf_4cfef 36 = .ok (.ireturn, 1) := by decide +kernel
theorem dJ1_indexOfChar_4cfef_0 : decode cJ1_indexOfChar_4cfef 0 = .ok (.iload_n 1, 1) := by decide +kernel
theorem dJ1_indexOfChar_4cfef_1 : decode cJ1_indexOfChar_4cfef 1 = .ok (.i2b, 1) := by decide +kernel
theorem dJ1_indexOfChar_4cfef_2 : decode cJ1_indexOfChar_4cfef 2 = .ok (.istore 4, 2) := by decide +kernel
theorem dJ1_indexOfChar_4cfef_4 : decode cJ1_indexOfChar_4cfef 4 = .ok (.iload_n 2, 1) := by decide +kernel
theorem dJ1_indexOfChar_4cfef_5 : decode cJ1_indexOfChar_4cfef 5 = .ok (.istore 5, 2) := by decide +kernel
theorem dJ1_indexOfChar_4cfef_7 : decode cJ1_indexOfChar_4cfef 7 = .ok (.iload 5, 2) := by decide +kernel
theorem dJ1_indexOfChar_4cfef_9 : decode cJ1_indexOfChar_4cfef 9 = .ok (.iload_n 3, 1) := by decide +kernel
theorem dJ1_indexOfChar_4cfef_10 : decode cJ1_indexOfChar_4cfef 10 = .ok (.if_icmp .ge 21, 3) := by decide +kernel
theorem dJ1_indexOfChar_4cfef_13 : decode cJ1_indexOfChar_4cfef 13 = .ok (.aload_n 0, 1) := by decide +kernel
theorem dJ1_indexOfChar_4cfef_14 : decode cJ1_indexOfChar_4cfef 14 = .ok (.iload 5, 2) := by decide +kernel
theorem dJ1_indexOfChar_4cfef_16 : decode cJ1_indexOfChar_4cfef 16 = .ok (.baload, 1) := by decide +kernel
theorem dJ1_indexOfChar_4cfef_17 : decode cJ1_indexOfChar_4cfef 17 = .ok (.iload 4, 2) := by decide +kernel
theorem dJ1_indexOfChar_4cfef_19 : decode cJ1_indexOfChar_4cfef 19 = .ok (.if_icmp .ne 6, 3) := by decide +kernel
theorem dJ1_indexOfChar_4cfef_22 : decode cJ1_indexOfChar_4cfef 22 = .ok (.iload 5, 2) := by decide +kernel
theorem dJ1_indexOfChar_4cfef_24 : decode cJ1_indexOfChar_4cfef 24 = .ok (.ireturn, 1) := by decide +kernel
theorem dJ1_indexOfChar_4cfef_25 : decode cJ1_indexOfChar_4cfef 25 = .ok (.iinc 5 1, 3) := by decide +kernel
theorem dJ1_indexOfChar_4cfef_28 : decode cJ1_indexOfChar_4cfef 28 = .ok (.goto (-21), 3) := by decide +kernel
theorem dJ1_indexOfChar_4cfef_31 : decode cJ1_indexOfChar_4cfef 31 = .ok (.iconst (-1), 1) := by decide +kernel
theorem dJ1_indexOfChar_4cfef_32 : decode cJ1_indexOfChar_4cfef 32 = .ok (.ireturn, 1) := by decide +kernel
theorem dJ2_getChar_3b067_0 : decode cJ2_getChar_3b067 0 = .ok (.getstatic 44, 3) := by decide +kernel
theorem dJ2_getChar_3b067_3 : decode cJ2_getChar_3b067 3 = .ok (.ifCond .ne 25, 3) := by decide +kernel
theorem dJ2_getChar_3b067_6 : decode cJ2_getChar_3b067 6 = .ok (.iload_n 1, 1) := by decide +kernel
theorem dJ2_getChar_3b067_7 : decode cJ2_getChar_3b067 7 = .ok (.ifCond .lt 11, 3) := by decide +kernel
theorem dJ2_getChar_3b067_10 : decode cJ2_getChar_3b067 10 = .ok (.iload_n 1, 1) := by decide +kernel
theorem dJ2_getChar_3b067_11 : decode cJ2_getChar_3b067 11 = .ok (.aload_n 0, 1) := by decide +kernel
theorem dJ2_getChar_3b067_12 : decode cJ2_getChar_3b067 12 = .ok (.invokestatic 48, 3) := by decide +kernel
theorem dJ2_getChar_3b067_15 : decode cJ2_getChar_3b067 15 = .ok (.if_icmp .lt 13, 3) := by decide +kernel
theorem dJ2_getChar_3b067_18 : decode cJ2_getChar_3b067 18 = .ok (.new 52, 3) := by decide +kernel
theorem dJ2_getChar_3b067_21 : decode cJ2_getChar_3b067 21 = .ok (.dup, 1) := by decide +kernel
theorem dJ2_getChar_3b067_22 : decode cJ2_getChar_3b067 22 = .ok (.ldc 54, 2) := by decide +kernel
theorem dJ2_getChar_3b067_24 : decode cJ2_getChar_3b067 24 = .ok (.invokespecial 56, 3) := by decide +kernel
theorem dJ2_getChar_3b067_27 : decode cJ2_getChar_3b067 27 = .ok (.athrow, 1) := by decide +kernel
theorem dJ2_getChar_3b067_28 : decode cJ2_getChar_3b067 28 = .ok (.iload_n 1, 1) := by decide +kernel
theorem dJ2_getChar_3b067_29 : decode cJ2_getChar_3b067 29 = .ok (.iconst 1, 1) := by decide +kernel
theorem dJ2_getChar_3b067_30 : decode cJ2_getChar_3b067 30 = .ok (.ishl, 1) := by decide +kernel
theorem dJ2_getChar_3b067_31 : decode cJ2_getChar_3b067 31 = .ok (.istore_n 1, 1) := by decide +kernel
theorem dJ2_getChar_3b067_32 : decode cJ2_getChar_3b067 32 = .ok (.aload_n 0, 1) := by decide +kernel
theorem dJ2_getChar_3b067_33 : decode cJ2_getChar_3b067 33 = .ok (.iload_n 1, 1) := by decide +kernel
theorem dJ2_getChar_3b067_34 : decode cJ2_getChar_3b067 34 = .ok (.iinc 1 1, 3) := by decide +kernel
theorem dJ2_getChar_3b067_37 : decode cJ2_getChar_3b067 37 = .ok (.baload, 1) := by decide +kernel
theorem dJ2_getChar_3b067_38 : decode cJ2_getChar_3b067 38 = .ok (.sipush 255, 3) := by decide +kernel
theorem dJ2_getChar_3b067_41 : decode cJ2_getChar_3b067 41 = .ok (.iand, 1) := by decide +kernel
theorem dJ2_getChar_3b067_42 : decode cJ2_getChar_3b067 42 = .ok (.getstatic 59, 3) := by decide +kernel
theorem dJ2_getChar_3b067_45 : decode cJ2_getChar_3b067 45 = .ok (.ishl, 1) := by decide +kernel
theorem dJ2_getChar_3b067_46 : decode cJ2_getChar_3b067 46 = .ok (.aload_n 0, 1) := by decide +kernel
theorem dJ2_getChar_3b067_47 : decode cJ2_getChar_3b067 47 = .ok (.iload_n 1, 1) := by decide +kernel
theorem dJ2_getChar_3b067_48 : decode cJ2_getChar_3b067 48 = .ok (.baload, 1) := by decide +kernel
theorem dJ2_getChar_3b067_49 : decode cJ2_getChar_3b067 49 = .ok (.sipush 255, 3) := by decide +kernel
theorem dJ2_getChar_3b067_52 : decode cJ2_getChar_3b067 52 = .ok (.iand, 1) := by decide +kernel
theorem dJ2_getChar_3b067_53 : decode cJ2_getChar_3b067 53 = .ok (.getstatic 63, 3) := by decide +kernel
theorem dJ2_getChar_3b067_56 : decode cJ2_getChar_3b067 56 = .ok (.ishl, 1) := by decide +kernel
theorem dJ2_getChar_3b067_57 : decode cJ2_getChar_3b067 57 = .ok (.ior, 1) := by decide +kernel
theorem dJ2_getChar_3b067_58 : decode cJ2_getChar_3b067 58 = .ok (.i2c, 1) := by decide +kernel
theorem dJ2_getChar_3b067_59 : decode cJ2_getChar_3b067 59 = .ok (.ireturn, 1) := by decide +kernel
theorem dJ2_length_9d52b_0 : decode cJ2_length_9d52b 0 = .ok (.aload_n 0, 1) := by decide +kernel
theorem dJ2_length_9d52b_1 : decode cJ2_length_9d52b 1 = .ok (.arraylength, 1) := by decide +kernel
theorem dJ2_length_9d52b_2 : decode cJ2_length_9d52b 2 = .ok (.iconst 1, 1) := by decide +kernel
theorem dJ2_length_9d52b_3 : decode cJ2_length_9d52b 3 = .ok (.ishr, 1) := by decide +kernel
theorem dJ2_length_9d52b_4 : decode cJ2_length_9d52b 4 = .ok (.ireturn, 1) := by decide +kernel
theorem dJ2_indexOf_4cfef_0 : decode cJ2_indexOf_4cfef 0 = .ok (.iload_n 2, 1) := by decide +kernel
theorem dJ2_indexOf_4cfef_1 : decode cJ2_indexOf_4cfef 1 = .ok (.iconst 0, 1) := by decide +kernel
theorem dJ2_indexOf_4cfef_2 : decode cJ2_indexOf_4cfef 2 = .ok (.invokestatic 224, 3) := by decide +kernel
theorem dJ2_indexOf_4cfef_5 : decode cJ2_indexOf_4cfef 5 = .ok (.istore_n 2, 1) := by decide +kernel
theorem dJ2_indexOf_4cfef_6 : decode cJ2_indexOf_4cfef 6 = .ok (.iload_n 3, 1) := by decide +kernel
theorem dJ2_indexOf_4cfef_7 : decode cJ2_indexOf_4cfef 7 = .ok (.aload_n 0, 1) := by decide +kernel
theorem dJ2_indexOf_4cfef_8 : decode cJ2_indexOf_4cfef 8 = .ok (.arraylength, 1) := by decide +kernel
theorem dJ2_indexOf_4cfef_9 : decode cJ2_indexOf_4cfef 9 = .ok (.iconst 1, 1) := by decide +kernel
theorem dJ2_indexOf_4cfef_10 : decode cJ2_indexOf_4cfef 10 = .ok (.ishr, 1) := by decide +kernel
theorem dJ2_indexOf_4cfef_11 : decode cJ2_indexOf_4cfef 11 = .ok (.invokestatic 183, 3) := by decide +kernel
theorem dJ2_indexOf_4cfef_14 : decode cJ2_indexOf_4cfef 14 = .ok (.istore_n 3, 1) := by decide +kernel
theorem dJ2_indexOf_4cfef_15 : decode cJ2_indexOf_4cfef 15 = .ok (.iload_n 2, 1) := by decide +kernel
theorem dJ2_indexOf_4cfef_16 : decode cJ2_indexOf_4cfef 16 = .ok (.iload_n 3, 1) := by decide +kernel
theorem dJ2_indexOf_4cfef_17 : decode cJ2_indexOf_4cfef 17 = .ok (.if_icmp .lt 5, 3) := by decide +kernel
theorem dJ2_indexOf_4cfef_20 : decode cJ2_indexOf_4cfef 20 = .ok (.iconst (-1), 1) := by decide +kernel
theorem dJ2_indexOf_4cfef_21 : decode cJ2_indexOf_4cfef 21 = .ok (.ireturn, 1) := by decide +kernel
theorem dJ2_indexOf_4cfef_22 : decode cJ2_indexOf_4cfef 22 = .ok (.iload_n 1, 1) := by decide +kernel
theorem dJ2_indexOf_4cfef_23 : decode cJ2_indexOf_4cfef 23 = .ok (.ldc 227, 2) := by decide +kernel
theorem dJ2_indexOf_4cfef_25 : decode cJ2_indexOf_4cfef 25 = .ok (.if_icmp .ge 11, 3) := by decide +kernel
theorem dJ2_indexOf_4cfef_28 : decode cJ2_indexOf_4cfef 28 = .ok (.aload_n 0, 1) := by decide +kernel
theorem dJ2_indexOf_4cfef_29 : decode cJ2_indexOf_4cfef 29 = .ok (.iload_n 1, 1) := by decide +kernel
theorem dJ2_indexOf_4cfef_30 : decode cJ2_indexOf_4cfef 30 = .ok (.iload_n 2, 1) := by decide +kernel
theorem dJ2_indexOf_4cfef_31 : decode cJ2_indexOf_4cfef 31 = .ok (.iload_n 3, 1) := by decide +kernel
theorem dJ2_indexOf_4cfef_32 : decode cJ2_indexOf_4cfef 32 = .ok (.invokestatic 228, 3) := by decide +kernel
theorem dJ2_indexOf_4cfef_35 : decode cJ2_indexOf_4cfef 35 = .ok (.ireturn, 1) := by decide +kernel
theorem dJ2_indexOf_4cfef_36 : decode cJ2_indexOf_4cfef 36 = .ok (.aload_n 0, 1) := by decide +kernel
theorem dJ2_indexOf_4cfef_37 : decode cJ2_indexOf_4cfef 37 = .ok (.iload_n 1, 1) := by decide +kernel
theorem dJ2_indexOf_4cfef_38 : decode cJ2_indexOf_4cfef 38 = .ok (.iload_n 2, 1) := by decide +kernel
theorem dJ2_indexOf_4cfef_39 : decode cJ2_indexOf_4cfef 39 = .ok (.iload_n 3, 1) := by decide +kernel
theorem dJ2_indexOf_4cfef_40 : decode cJ2_indexOf_4cfef 40 = .ok (.invokestatic 232, 3) := by decide +kernel
theorem dJ2_indexOf_4cfef_43 : decode cJ2_indexOf_4cfef 43 = .ok (.ireturn, 1) := by decide +kernel
theorem dJ2_indexOfChar_4cfef_0 : decode cJ2_indexOfChar_4cfef 0 = .ok (.iload_n 2, 1) := by decide +kernel
theorem dJ2_indexOfChar_4cfef_1 : decode cJ2_indexOfChar_4cfef 1 = .ok (.iload_n 3, 1) := by decide +kernel
theorem dJ2_indexOfChar_4cfef_2 : decode cJ2_indexOfChar_4cfef 2 = .ok (.aload_n 0, 1) := by decide +kernel
theorem dJ2_indexOfChar_4cfef_3 : decode cJ2_indexOfChar_4cfef 3 = .ok (.invokestatic 96, 3) := by decide +kernel
theorem dJ2_indexOfChar_4cfef_6 : decode cJ2_indexOfChar_4cfef 6 = .ok (.aload_n 0, 1) := by decide +kernel
theorem dJ2_indexOfChar_4cfef_7 : decode cJ2_indexOfChar_4cfef 7 = .ok (.iload_n 1, 1) := by decide +kernel
theorem dJ2_indexOfChar_4cfef_8 : decode cJ2_indexOfChar_4cfef 8 = .ok (.iload_n 2, 1) := by decide +kernel
theorem dJ2_indexOfChar_4cfef_9 : decode cJ2_indexOfChar_4cfef 9 = .ok (.iload_n 3, 1) := by decide +kernel
theorem dJ2_indexOfChar_4cfef_10 : decode cJ2_indexOfChar_4cfef 10 = .ok (.invokestatic 244, 3) := by decide +kernel
theorem dJ2_indexOfChar_4cfef_13 : decode cJ2_indexOfChar_4cfef 13 = .ok (.ireturn, 1) := by decide +kernel
theorem dJ2_indexOfCharUnsafe_4cfef_0 : decode cJ2_indexOfCharUnsafe_4cfef 0 = .ok (.iload_n 2, 1) := by decide +kernel
theorem dJ2_indexOfCharUnsafe_4cfef_1 : decode cJ2_indexOfCharUnsafe_4cfef 1 = .ok (.istore 4, 2) := by decide +kernel
theorem dJ2_indexOfCharUnsafe_4cfef_3 : decode cJ2_indexOfCharUnsafe_4cfef 3 = .ok (.iload 4, 2) := by decide +kernel
theorem dJ2_indexOfCharUnsafe_4cfef_5 : decode cJ2_indexOfCharUnsafe_4cfef 5 = .ok (.iload_n 3, 1) := by decide +kernel
theorem dJ2_indexOfCharUnsafe_4cfef_6 : decode cJ2_indexOfCharUnsafe_4cfef 6 = .ok (.if_icmp .ge 22, 3) := by decide +kernel
theorem dJ2_indexOfCharUnsafe_4cfef_9 : decode cJ2_indexOfCharUnsafe_4cfef 9 = .ok (.aload_n 0, 1) := by decide +kernel
theorem dJ2_indexOfCharUnsafe_4cfef_10 : decode cJ2_indexOfCharUnsafe_4cfef 10 = .ok (.iload 4, 2) := by decide +kernel
theorem dJ2_indexOfCharUnsafe_4cfef_12 : decode cJ2_indexOfCharUnsafe_4cfef 12 = .ok (.invokestatic 71, 3) := by decide +kernel
theorem dJ2_indexOfCharUnsafe_4cfef_15 : decode cJ2_indexOfCharUnsafe_4cfef 15 = .ok (.iload_n 1, 1) := by decide +kernel
theorem dJ2_indexOfCharUnsafe_4cfef_16 : decode cJ2_indexOfCharUnsafe_4cfef 16 = .ok (.if_icmp .ne 6, 3) := by decide +kernel
theorem dJ2_indexOfCharUnsafe_4cfef_19 : decode cJ2_indexOfCharUnsafe_4cfef 19 = .ok (.iload 4, 2) := by decide +kernel
theorem dJ2_indexOfCharUnsafe_4cfef_21 : decode cJ2_indexOfCharUnsafe_4cfef 21 = .ok (.ireturn, 1) := by decide +kernel
theorem dJ2_indexOfCharUnsafe_4cfef_22 : decode cJ2_indexOfCharUnsafe_4cfef 22 = .ok (.iinc 4 1, 3) := by decide +kernel
theorem dJ2_indexOfCharUnsafe_4cfef_25 : decode cJ2_indexOfCharUnsafe_4cfef 25 = .ok (.goto (-22), 3) := by decide +kernel
theorem dJ2_indexOfCharUnsafe_4cfef_28 : decode cJ2_indexOfCharUnsafe_4cfef 28 = .ok (.iconst (-1), 1) := by decide +kernel
theorem dJ2_indexOfCharUnsafe_4cfef_29 : decode cJ2_indexOfCharUnsafe_4cfef 29 = .ok (.ireturn, 1) := by decide +kernel
theorem dJ2_indexOfSupplementary_4cfef_0 : decode cJ2_indexOfSupplementary_4cfef 0 = .ok (.iload_n 1, 1) := by decide +kernel
theorem dJ2_indexOfSupplementary_4cfef_1 : decode cJ2_indexOfSupplementary_4cfef 1 = .ok (.invokestatic 164, 3) := by decide +kernel
theorem dJ2_indexOfSupplementary_4cfef_4 : decode cJ2_indexOfSupplementary_4cfef 4 = .ok (.ifCond .eq 65, 3) := by decide +kernel
theorem dJ2_indexOfSupplementary_4cfef_7 : decode cJ2_indexOfSupplementary_4cfef 7 = .ok (.iload_n 1, 1) := by decide +kernel
theorem dJ2_indexOfSupplementary_4cfef_8 : decode cJ2_indexOfSupplementary_4cfef 8 = .ok (.invokestatic 157, 3) := by decide +kernel
theorem dJ2_indexOfSupplementary_4cfef_11 : decode cJ2_indexOfSupplementary_4cfef 11 = .ok (.istore 4, 2) := by decide +kernel
theorem dJ2_indexOfSupplementary_4cfef_13 : decode cJ2_indexOfSupplementary_4cfef 13 = .ok (.iload_n 1, 1) := by decide +kernel
theorem dJ2_indexOfSupplementary_4cfef_14 : decode cJ2_indexOfSupplementary_4cfef 14 = .ok (.invokestatic 161, 3) := by decide +kernel
theorem dJ2_indexOfSupplementary_4cfef_17 : decode cJ2_indexOfSupplementary_4cfef 17 = .ok (.istore 5, 2) := by decide +kernel
theorem dJ2_indexOfSupplementary_4cfef_19 : decode cJ2_indexOfSupplementary_4cfef 19 = .ok (.iload_n 2, 1) := by decide +kernel
theorem dJ2_indexOfSupplementary_4cfef_20 : decode cJ2_indexOfSupplementary_4cfef 20 = .ok (.iload_n 3, 1) := by decide +kernel
theorem dJ2_indexOfSupplementary_4cfef_21 : decode cJ2_indexOfSupplementary_4cfef 21 = .ok (.aload_n 0, 1) := by decide +kernel
theorem dJ2_indexOfSupplementary_4cfef_22 : decode cJ2_indexOfSupplementary_4cfef 22 = .ok (.invokestatic 96, 3) := by decide +kernel
theorem dJ2_indexOfSupplementary_4cfef_25 : decode cJ2_indexOfSupplementary_4cfef 25 = .ok (.iload_n 2, 1) := by decide +kernel
theorem dJ2_indexOfSupplementary_4cfef_26 : decode cJ2_indexOfSupplementary_4cfef 26 = .ok (.istore 6, 2) := by decide +kernel
theorem dJ2_indexOfSupplementary_4cfef_28 : decode cJ2_indexOfSupplementary_4cfef 28 = .ok (.iload 6, 2) := by decide +kernel
theorem dJ2_indexOfSupplementary_4cfef_30 : decode cJ2_indexOfSupplementary_4cfef 30 = .ok (.iload_n 3, 1) := by decide +kernel
theorem dJ2_indexOfSupplementary_4cfef_31 : decode cJ2_indexOfSupplementary_4cfef 31 = .ok (.iconst 1, 1) := by decide +kernel
theorem dJ2_indexOfSupplementary_4cfef_32 : decode cJ2_indexOfSupplementary_4cfef 32 = .ok (.isub, 1) := by decide +kernel
theorem dJ2_indexOfSupplementary_4cfef_33 : decode cJ2_indexOfSupplementary_4cfef 33 = .ok (.if_icmp .ge 36, 3) := by decide +kernel
theorem dJ2_indexOfSupplementary_4cfef_36 : decode cJ2_indexOfSupplementary_4cfef 36 = .ok (.aload_n 0, 1) := by decide +kernel
theorem dJ2_indexOfSupplementary_4cfef_37 : decode cJ2_indexOfSupplementary_4cfef 37 = .ok (.iload 6, 2) := by decide +kernel
theorem dJ2_indexOfSupplementary_4cfef_39 : decode cJ2_indexOfSupplementary_4cfef 39 = .ok (.invokestatic 71, 3) := by decide +kernel
theorem dJ2_indexOfSupplementary_4cfef_42 : decode cJ2_indexOfSupplementary_4cfef 42 = .ok (.iload 4, 2) := by decide +kernel
theorem dJ2_indexOfSupplementary_4cfef_44 : decode cJ2_indexOfSupplementary_4cfef 44 = .ok (.if_icmp .ne 19, 3) := by decide +kernel
theorem dJ2_indexOfSupplementary_4cfef_47 : decode cJ2_indexOfSupplementary_4cfef 47 = .ok (.aload_n 0, 1) := by decide +kernel
theorem dJ2_indexOfSupplementary_4cfef_48 : decode cJ2_indexOfSupplementary_4cfef 48 = .ok (.iload 6, 2) := by decide +kernel
theorem dJ2_indexOfSupplementary_4cfef_50 : decode cJ2_indexOfSupplementary_4cfef 50 = .ok (.iconst 1, 1) := by decide +kernel
theorem dJ2_indexOfSupplementary_4cfef_51 : decode cJ2_indexOfSupplementary_4cfef 51 = .ok (.iadd, 1) := by decide +kernel
theorem dJ2_indexOfSupplementary_4cfef_52 : decode cJ2_indexOfSupplementary_4cfef 52 = .ok (.invokestatic 71, 3) := by decide +kernel
theorem dJ2_indexOfSupplementary_4cfef_55 : decode cJ2_indexOfSupplementary_4cfef 55 = .ok (.iload 5, 2) := by decide +kernel
theorem dJ2_indexOfSupplementary_4cfef_57 : decode cJ2_indexOfSupplementary_4cfef 57 = .ok (.if_icmp .ne 6, 3) := by decide +kernel
theorem dJ2_indexOfSupplementary_4cfef_60 : decode cJ2_indexOfSupplementary_4cfef 60 = .ok (.iload 6, 2) := by decide +kernel
theorem dJ2_indexOfSupplementary_4cfef_62 : decode cJ2_indexOfSupplementary_4cfef 62 = .ok (.ireturn, 1) := by decide +kernel
theorem dJ2_indexOfSupplementary_4cfef_63 : decode cJ2_indexOfSupplementary_4cfef 63 = .ok (.iinc 6 1, 3) := by decide +kernel
theorem dJ2_indexOfSupplementary_4cfef_66 : decode cJ2_indexOfSupplementary_4cfef 66 = .ok (.goto (-38), 3) := by decide +kernel
theorem dJ2_indexOfSupplementary_4cfef_69 : decode cJ2_indexOfSupplementary_4cfef 69 = .ok (.iconst (-1), 1) := by decide +kernel
theorem dJ2_indexOfSupplementary_4cfef_70 : decode cJ2_indexOfSupplementary_4cfef 70 = .ok (.ireturn, 1) := by decide +kernel
theorem dJ2_charAt_3b067_0 : decode cJ2_charAt_3b067 0 = .ok (.iload_n 1, 1) := by decide +kernel
theorem dJ2_charAt_3b067_1 : decode cJ2_charAt_3b067 1 = .ok (.aload_n 0, 1) := by decide +kernel
theorem dJ2_charAt_3b067_2 : decode cJ2_charAt_3b067 2 = .ok (.invokestatic 67, 3) := by decide +kernel
theorem dJ2_charAt_3b067_5 : decode cJ2_charAt_3b067 5 = .ok (.aload_n 0, 1) := by decide +kernel
theorem dJ2_charAt_3b067_6 : decode cJ2_charAt_3b067 6 = .ok (.iload_n 1, 1) := by decide +kernel
theorem dJ2_charAt_3b067_7 : decode cJ2_charAt_3b067 7 = .ok (.invokestatic 71, 3) := by decide +kernel
theorem dJ2_charAt_3b067_10 : decode cJ2_charAt_3b067 10 = .ok (.ireturn, 1) := by decide +kernel
theorem dJ2_checkIndex_2214a_0 : decode cJ2_checkIndex_2214a 0 = .ok (.iload_n 0, 1) := by decide +kernel
theorem dJ2_checkIndex_2214a_1 : decode cJ2_checkIndex_2214a 1 = .ok (.aload_n 1, 1) := by decide +kernel
theorem dJ2_checkIndex_2214a_2 : decode cJ2_checkIndex_2214a 2 = .ok (.invokestatic 48, 3) := by decide +kernel
theorem dJ2_checkIndex_2214a_5 : decode cJ2_checkIndex_2214a 5 = .ok (.invokestatic 414, 3) := by decide +kernel
theorem dJ2_checkIndex_2214a_8 : decode cJ2_checkIndex_2214a 8 = .ok (.return_, 1) := by decide +kernel
theorem dJ2_checkBoundsBeginEnd_d044e_0 : decode cJ2_checkBoundsBeginEnd_d044e 0 = .ok (.iload_n 0, 1) := by decide +kernel
theorem dJ2_checkBoundsBeginEnd_d044e_1 : decode cJ2_checkBoundsBeginEnd_d044e 1 = .ok (.iload_n 1, 1) := by decide +kernel
theorem dJ2_checkBoundsBeginEnd_d044e_2 : decode cJ2_checkBoundsBeginEnd_d044e 2 = .ok (.aload_n 2, 1) := by decide +kernel
theorem dJ2_checkBoundsBeginEnd_d044e_3 : decode cJ2_checkBoundsBeginEnd_d044e 3 = .ok (.invokestatic 48, 3) := by decide +kernel
theorem dJ2_checkBoundsBeginEnd_d044e_6 : decode cJ2_checkBoundsBeginEnd_d044e 6 = .ok (.invokestatic 241, 3) := by decide +kernel
theorem dJ2_checkBoundsBeginEnd_d044e_9 : decode cJ2_checkBoundsBeginEnd_d044e 9 = .ok (.return_, 1) := by decide +kernel
theorem dJ3_checkIndex_8e157_0 : decode cJ3_checkIndex_8e157 0 = .ok (.iload_n 0, 1) := by decide +kernel
theorem dJ3_checkIndex_8e157_1 : decode cJ3_checkIndex_8e157 1 = .ok (.ifCond .lt 8, 3) := by decide +kernel
theorem dJ3_checkIndex_8e157_4 : decode cJ3_checkIndex_8e157 4 = .ok (.iload_n 0, 1) := by decide +kernel
theorem dJ3_checkIndex_8e157_5 : decode cJ3_checkIndex_8e157 5 = .ok (.iload_n 1, 1) := by decide +kernel
theorem dJ3_checkIndex_8e157_6 : decode cJ3_checkIndex_8e157 6 = .ok (.if_icmp .lt 10, 3) := by decide +kernel
theorem dJ3_checkIndex_8e157_9 : decode cJ3_checkIndex_8e157 9 = .ok (.aload_n 2, 1) := by decide +kernel
theorem dJ3_checkIndex_8e157_10 : decode cJ3_checkIndex_8e157 10 = .ok (.iload_n 0, 1) := by decide +kernel
theorem dJ3_checkIndex_8e157_11 : decode cJ3_checkIndex_8e157 11 = .ok (.iload_n 1, 1) := by decide +kernel
theorem dJ3_checkIndex_8e157_12 : decode cJ3_checkIndex_8e157 12 = .ok (.invokestatic 95, 3) := by decide +kernel
theorem dJ3_checkIndex_8e157_15 : decode cJ3_checkIndex_8e157 15 = .ok (.athrow, 1) := by decide +kernel
theorem dJ3_checkIndex_8e157_16 : decode cJ3_checkIndex_8e157 16 = .ok (.iload_n 0, 1) := by decide +kernel
theorem dJ3_checkIndex_8e157_17 : decode cJ3_checkIndex_8e157 17 = .ok (.ireturn, 1) := by decide +kernel
theorem dJ3_checkFromToIndex_8c36e_0 : decode cJ3_checkFromToIndex_8c36e 0 = .ok (.iload_n 0, 1) := by decide +kernel
theorem dJ3_checkFromToIndex_8c36e_1 : decode cJ3_checkFromToIndex_8c36e 1 = .ok (.ifCond .lt 13, 3) := by decide +kernel
theorem dJ3_checkFromToIndex_8c36e_4 : decode cJ3_checkFromToIndex_8c36e 4 = .ok (.iload_n 0, 1) := by decide +kernel
theorem dJ3_checkFromToIndex_8c36e_5 : decode cJ3_checkFromToIndex_8c36e 5 = .ok (.iload_n 1, 1) := by decide +kernel
theorem dJ3_checkFromToIndex_8c36e_6 : decode cJ3_checkFromToIndex_8c36e 6 = .ok (.if_icmp .gt 8, 3) := by decide +kernel
theorem dJ3_checkFromToIndex_8c36e_9 : decode cJ3_checkFromToIndex_8c36e 9 = .ok (.iload_n 1, 1) := by decide +kernel
theorem dJ3_checkFromToIndex_8c36e_10 : decode cJ3_checkFromToIndex_8c36e 10 = .ok (.iload_n 2, 1) := by decide +kernel
theorem dJ3_checkFromToIndex_8c36e_11 : decode cJ3_checkFromToIndex_8c36e 11 = .ok (.if_icmp .le 11, 3) := by decide +kernel
theorem dJ3_checkFromToIndex_8c36e_14 : decode cJ3_checkFromToIndex_8c36e 14 = .ok (.aload_n 3, 1) := by decide +kernel
theorem dJ3_checkFromToIndex_8c36e_15 : decode cJ3_checkFromToIndex_8c36e 15 = .ok (.iload_n 0, 1) := by decide +kernel
theorem dJ3_checkFromToIndex_8c36e_16 : decode cJ3_checkFromToIndex_8c36e 16 = .ok (.iload_n 1, 1) := by decide +kernel
theorem dJ3_checkFromToIndex_8c36e_17 : decode cJ3_checkFromToIndex_8c36e 17 = .ok (.iload_n 2, 1) := by decide +kernel
theorem dJ3_checkFromToIndex_8c36e_18 : decode cJ3_checkFromToIndex_8c36e 18 = .ok (.invokestatic 99, 3) := by decide +kernel
theorem dJ3_checkFromToIndex_8c36e_21 : decode cJ3_checkFromToIndex_8c36e 21 = .ok (.athrow, 1) := by decide +kernel
theorem dJ3_checkFromToIndex_8c36e_22 : decode cJ3_checkFromToIndex_8c36e 22 = .ok (.iload_n 0, 1) := by decide +kernel
theorem dJ3_checkFromToIndex_8c36e_23 : decode cJ3_checkFromToIndex_8c36e 23 = .ok (.ireturn, 1) := by decide +kernel
theorem dL_lost_0 : decode cL_lost 0 = .ok (.aload_n 2, 1) := by decide +kernel
theorem dL_lost_1 : decode cL_lost 1 = .ok (.iconst 0, 1) := by decide +kernel
theorem dL_lost_2 : decode cL_lost 2 = .ok (.aload_n 0, 1) := by decide +kernel
theorem dL_lost_3 : decode cL_lost 3 = .ok (.iload_n 1, 1) := by decide +kernel
theorem dL_lost_4 : decode cL_lost 4 = .ok (.invokevirtual 7, 3) := by decide +kernel
theorem dL_lost_7 : decode cL_lost 7 = .ok (.i2l, 1) := by decide +kernel
theorem dL_lost_8 : decode cL_lost 8 = .ok (.lastore, 1) := by decide +kernel
theorem dL_lost_9 : decode cL_lost 9 = .ok (.goto 6, 3) := by decide +kernel
theorem dL_lost_12 : decode cL_lost 12 = .ok (.astore_n 3, 1) := by decide +kernel
theorem dL_lost_13 : decode cL_lost 13 = .ok (.iconst 1, 1) := by decide +kernel
theorem dL_lost_14 : decode cL_lost 14 = .ok (.ireturn, 1) := by decide +kernel
theorem dL_lost_15 : decode cL_lost 15 = .ok (.iconst 0, 1) := by decide +kernel
theorem dL_lost_16 : decode cL_lost 16 = .ok (.ireturn, 1) := by decide +kernel
theorem dL_law_0 : decode cL_law 0 = .ok (.new 8, 3) := by decide +kernel
theorem dL_law_3 : decode cL_law 3 = .ok (.dup, 1) := by decide +kernel
theorem dL_law_4 : decode cL_law 4 = .ok (.invokespecial 15, 3) := by decide +kernel
theorem dL_law_7 : decode cL_law 7 = .ok (.astore_n 1, 1) := by decide +kernel
theorem dL_law_8 : decode cL_law 8 = .ok (.new 16, 3) := by decide +kernel
theorem dL_law_11 : decode cL_law 11 = .ok (.dup, 1) := by decide +kernel
theorem dL_law_12 : decode cL_law 12 = .ok (.invokespecial 18, 3) := by decide +kernel
theorem dL_law_15 : decode cL_law 15 = .ok (.astore_n 2, 1) := by decide +kernel
theorem dL_law_16 : decode cL_law 16 = .ok (.iconst 1, 1) := by decide +kernel
theorem dL_law_17 : decode cL_law 17 = .ok (.newarray .long, 2) := by decide +kernel
theorem dL_law_19 : decode cL_law 19 = .ok (.astore_n 3, 1) := by decide +kernel
theorem dL_law_20 : decode cL_law 20 = .ok (.iconst 0, 1) := by decide +kernel
theorem dL_law_21 : decode cL_law 21 = .ok (.istore 4, 2) := by decide +kernel
theorem dL_law_23 : decode cL_law 23 = .ok (.iload 4, 2) := by decide +kernel
theorem dL_law_25 : decode cL_law 25 = .ok (.aload_n 0, 1) := by decide +kernel
theorem dL_law_26 : decode cL_law 26 = .ok (.arraylength, 1) := by decide +kernel
theorem dL_law_27 : decode cL_law 27 = .ok (.bipush 7, 2) := by decide +kernel
theorem dL_law_29 : decode cL_law 29 = .ok (.isub, 1) := by decide +kernel
theorem dL_law_30 : decode cL_law 30 = .ok (.if_icmp .gt 1369, 3) := by decide +kernel
theorem dL_law_33 : decode cL_law 33 = .ok (.aload_n 0, 1) := by decide +kernel
theorem dL_law_34 : decode cL_law 34 = .ok (.iload 4, 2) := by decide +kernel
theorem dL_law_36 : decode cL_law 36 = .ok (.iaload, 1) := by decide +kernel
theorem dL_law_37 : decode cL_law 37 = .ok (.bipush 63, 2) := by decide +kernel
theorem dL_law_39 : decode cL_law 39 = .ok (.iand, 1) := by decide +kernel
theorem dL_law_40 : decode cL_law 40 = .ok (.tableswitch 1353 0 35 #[160, 307, 320, 333, 370, 419, 456, 493, 530, 555, 592, 617, 642, 667, 692, 717, 754, 767, 792, 817, 854, 867, 892, 917, 942, 979, 1016, 1041, 1054, 1091, 1147, 1200, 1213, 1226, 1275, 1328], 160) := by decide +kernel
theorem dL_law_200 : decode cL_law 200 = .ok (.aload_n 1, 1) := by decide +kernel
theorem dL_law_201 : decode cL_law 201 = .ok (.aload_n 0, 1) := by decide +kernel
theorem dL_law_202 : decode cL_law 202 = .ok (.iload 4, 2) := by decide +kernel
theorem dL_law_204 : decode cL_law 204 = .ok (.iconst 1, 1) := by decide +kernel
theorem dL_law_205 : decode cL_law 205 = .ok (.iadd, 1) := by decide +kernel
theorem dL_law_206 : decode cL_law 206 = .ok (.iaload, 1) := by decide +kernel
theorem dL_law_207 : decode cL_law 207 = .ok (.i2l, 1) := by decide +kernel
theorem dL_law_208 : decode cL_law 208 = .ok (.bipush 32, 2) := by decide +kernel
theorem dL_law_210 : decode cL_law 210 = .ok (.lshl, 1) := by decide +kernel
theorem dL_law_211 : decode cL_law 211 = .ok (.aload_n 0, 1) := by decide +kernel
theorem dL_law_212 : decode cL_law 212 = .ok (.iload 4, 2) := by decide +kernel
theorem dL_law_214 : decode cL_law 214 = .ok (.iconst 2, 1) := by decide +kernel
theorem dL_law_215 : decode cL_law 215 = .ok (.iadd, 1) := by decide +kernel
theorem dL_law_216 : decode cL_law 216 = .ok (.iaload, 1) := by decide +kernel
theorem dL_law_217 : decode cL_law 217 = .ok (.i2l, 1) := by decide +kernel
theorem dL_law_218 : decode cL_law 218 = .ok (.ldc2_w 19, 3) := by decide +kernel
theorem dL_law_221 : decode cL_law 221 = .ok (.land, 1) := by decide +kernel
theorem dL_law_222 : decode cL_law 222 = .ok (.lor, 1) := by decide +kernel
theorem dL_law_223 : decode cL_law 223 = .ok (.aload_n 0, 1) := by decide +kernel
theorem dL_law_224 : decode cL_law 224 = .ok (.iload 4, 2) := by decide +kernel
theorem dL_law_226 : decode cL_law 226 = .ok (.iconst 3, 1) := by decide +kernel
theorem dL_law_227 : decode cL_law 227 = .ok (.iadd, 1) := by decide +kernel
theorem dL_law_228 : decode cL_law 228 = .ok (.iaload, 1) := by decide +kernel
theorem dL_law_229 : decode cL_law 229 = .ok (.i2l, 1) := by decide +kernel
theorem dL_law_230 : decode cL_law 230 = .ok (.bipush 32, 2) := by decide +kernel
theorem dL_law_232 : decode cL_law 232 = .ok (.lshl, 1) := by decide +kernel
theorem dL_law_233 : decode cL_law 233 = .ok (.aload_n 0, 1) := by decide +kernel
theorem dL_law_234 : decode cL_law 234 = .ok (.iload 4, 2) := by decide +kernel
theorem dL_law_236 : decode cL_law 236 = .ok (.iconst 4, 1) := by decide +kernel
theorem dL_law_237 : decode cL_law 237 = .ok (.iadd, 1) := by decide +kernel
theorem dL_law_238 : decode cL_law 238 = .ok (.iaload, 1) := by decide +kernel
theorem dL_law_239 : decode cL_law 239 = .ok (.i2l, 1) := by decide +kernel
theorem dL_law_240 : decode cL_law 240 = .ok (.ldc2_w 19, 3) := by decide +kernel
theorem dL_law_243 : decode cL_law 243 = .ok (.land, 1) := by decide +kernel
theorem dL_law_244 : decode cL_law 244 = .ok (.lor, 1) := by decide +kernel
theorem dL_law_245 : decode cL_law 245 = .ok (.aload_n 0, 1) := by decide +kernel
theorem dL_law_246 : decode cL_law 246 = .ok (.iload 4, 2) := by decide +kernel
theorem dL_law_248 : decode cL_law 248 = .ok (.iconst 5, 1) := by decide +kernel
theorem dL_law_249 : decode cL_law 249 = .ok (.iadd, 1) := by decide +kernel
theorem dL_law_250 : decode cL_law 250 = .ok (.iaload, 1) := by decide +kernel
theorem dL_law_251 : decode cL_law 251 = .ok (.i2l, 1) := by decide +kernel
theorem dL_law_252 : decode cL_law 252 = .ok (.bipush 32, 2) := by decide +kernel
theorem dL_law_254 : decode cL_law 254 = .ok (.lshl, 1) := by decide +kernel
theorem dL_law_255 : decode cL_law 255 = .ok (.aload_n 0, 1) := by decide +kernel
theorem dL_law_256 : decode cL_law 256 = .ok (.iload 4, 2) := by decide +kernel
theorem dL_law_258 : decode cL_law 258 = .ok (.bipush 6, 2) := by decide +kernel
theorem dL_law_260 : decode cL_law 260 = .ok (.iadd, 1) := by decide +kernel
theorem dL_law_261 : decode cL_law 261 = .ok (.iaload, 1) := by decide +kernel
theorem dL_law_262 : decode cL_law 262 = .ok (.i2l, 1) := by decide +kernel
theorem dL_law_263 : decode cL_law 263 = .ok (.ldc2_w 19, 3) := by decide +kernel
theorem dL_law_266 : decode cL_law 266 = .ok (.land, 1) := by decide +kernel
theorem dL_law_267 : decode cL_law 267 = .ok (.lor, 1) := by decide +kernel
theorem dL_law_268 : decode cL_law 268 = .ok (.invokevirtual 21, 3) := by decide +kernel
theorem dL_law_271 : decode cL_law 271 = .ok (.aload_n 2, 1) := by decide +kernel
theorem dL_law_272 : decode cL_law 272 = .ok (.aload_n 0, 1) := by decide +kernel
theorem dL_law_273 : decode cL_law 273 = .ok (.iload 4, 2) := by decide +kernel
theorem dL_law_275 : decode cL_law 275 = .ok (.iconst 1, 1) := by decide +kernel
theorem dL_law_276 : decode cL_law 276 = .ok (.iadd, 1) := by decide +kernel
theorem dL_law_277 : decode cL_law 277 = .ok (.iaload, 1) := by decide +kernel
theorem dL_law_278 : decode cL_law 278 = .ok (.i2l, 1) := by decide +kernel
theorem dL_law_279 : decode cL_law 279 = .ok (.bipush 32, 2) := by decide +kernel
theorem dL_law_281 : decode cL_law 281 = .ok (.lshl, 1) := by decide +kernel
theorem dL_law_282 : decode cL_law 282 = .ok (.aload_n 0, 1) := by decide +kernel
theorem dL_law_283 : decode cL_law 283 = .ok (.iload 4, 2) := by decide +kernel
theorem dL_law_285 : decode cL_law 285 = .ok (.iconst 2, 1) := by decide +kernel
theorem dL_law_286 : decode cL_law 286 = .ok (.iadd, 1) := by decide +kernel
theorem dL_law_287 : decode cL_law 287 = .ok (.iaload, 1) := by decide +kernel
theorem dL_law_288 : decode cL_law 288 = .ok (.i2l, 1) := by decide +kernel
theorem dL_law_289 : decode cL_law 289 = .ok (.ldc2_w 19, 3) := by decide +kernel
theorem dL_law_292 : decode cL_law 292 = .ok (.land, 1) := by decide +kernel
theorem dL_law_293 : decode cL_law 293 = .ok (.lor, 1) := by decide +kernel
theorem dL_law_294 : decode cL_law 294 = .ok (.aload_n 0, 1) := by decide +kernel
theorem dL_law_295 : decode cL_law 295 = .ok (.iload 4, 2) := by decide +kernel
theorem dL_law_297 : decode cL_law 297 = .ok (.iconst 3, 1) := by decide +kernel
theorem dL_law_298 : decode cL_law 298 = .ok (.iadd, 1) := by decide +kernel
theorem dL_law_299 : decode cL_law 299 = .ok (.iaload, 1) := by decide +kernel
theorem dL_law_300 : decode cL_law 300 = .ok (.i2l, 1) := by decide +kernel
theorem dL_law_301 : decode cL_law 301 = .ok (.bipush 32, 2) := by decide +kernel
theorem dL_law_303 : decode cL_law 303 = .ok (.lshl, 1) := by decide +kernel
theorem dL_law_304 : decode cL_law 304 = .ok (.aload_n 0, 1) := by decide +kernel
theorem dL_law_305 : decode cL_law 305 = .ok (.iload 4, 2) := by decide +kernel
theorem dL_law_307 : decode cL_law 307 = .ok (.iconst 4, 1) := by decide +kernel
theorem dL_law_308 : decode cL_law 308 = .ok (.iadd, 1) := by decide +kernel
theorem dL_law_309 : decode cL_law 309 = .ok (.iaload, 1) := by decide +kernel
theorem dL_law_310 : decode cL_law 310 = .ok (.i2l, 1) := by decide +kernel
theorem dL_law_311 : decode cL_law 311 = .ok (.ldc2_w 19, 3) := by decide +kernel
theorem dL_law_314 : decode cL_law 314 = .ok (.land, 1) := by decide +kernel
theorem dL_law_315 : decode cL_law 315 = .ok (.lor, 1) := by decide +kernel
theorem dL_law_316 : decode cL_law 316 = .ok (.aload_n 0, 1) := by decide +kernel
theorem dL_law_317 : decode cL_law 317 = .ok (.iload 4, 2) := by decide +kernel
theorem dL_law_319 : decode cL_law 319 = .ok (.iconst 5, 1) := by decide +kernel
theorem dL_law_320 : decode cL_law 320 = .ok (.iadd, 1) := by decide +kernel
theorem dL_law_321 : decode cL_law 321 = .ok (.iaload, 1) := by decide +kernel
theorem dL_law_322 : decode cL_law 322 = .ok (.i2l, 1) := by decide +kernel
theorem dL_law_323 : decode cL_law 323 = .ok (.bipush 32, 2) := by decide +kernel
theorem dL_law_325 : decode cL_law 325 = .ok (.lshl, 1) := by decide +kernel
theorem dL_law_326 : decode cL_law 326 = .ok (.aload_n 0, 1) := by decide +kernel
theorem dL_law_327 : decode cL_law 327 = .ok (.iload 4, 2) := by decide +kernel
theorem dL_law_329 : decode cL_law 329 = .ok (.bipush 6, 2) := by decide +kernel
theorem dL_law_331 : decode cL_law 331 = .ok (.iadd, 1) := by decide +kernel
theorem dL_law_332 : decode cL_law 332 = .ok (.iaload, 1) := by decide +kernel
theorem dL_law_333 : decode cL_law 333 = .ok (.i2l, 1) := by decide +kernel
theorem dL_law_334 : decode cL_law 334 = .ok (.ldc2_w 19, 3) := by decide +kernel
theorem dL_law_337 : decode cL_law 337 = .ok (.land, 1) := by decide +kernel
theorem dL_law_338 : decode cL_law 338 = .ok (.lor, 1) := by decide +kernel
theorem dL_law_339 : decode cL_law 339 = .ok (.invokevirtual 25, 3) := by decide +kernel
theorem dL_law_342 : decode cL_law 342 = .ok (.if_icmp .eq 1051, 3) := by decide +kernel
theorem dL_law_345 : decode cL_law 345 = .ok (.iconst 0, 1) := by decide +kernel
theorem dL_law_346 : decode cL_law 346 = .ok (.ireturn, 1) := by decide +kernel
theorem dL_law_347 : decode cL_law 347 = .ok (.aload_n 1, 1) := by decide +kernel
theorem dL_law_348 : decode cL_law 348 = .ok (.invokevirtual 26, 3) := by decide +kernel
theorem dL_law_351 : decode cL_law 351 = .ok (.aload_n 2, 1) := by decide +kernel
theorem dL_law_352 : decode cL_law 352 = .ok (.invokevirtual 30, 3) := by decide +kernel
theorem dL_law_355 : decode cL_law 355 = .ok (.if_icmp .eq 1038, 3) := by decide +kernel
theorem dL_law_358 : decode cL_law 358 = .ok (.iconst 0, 1) := by decide +kernel
theorem dL_law_359 : decode cL_law 359 = .ok (.ireturn, 1) := by decide +kernel
theorem dL_law_360 : decode cL_law 360 = .ok (.aload_n 1, 1) := by decide +kernel
theorem dL_law_361 : decode cL_law 361 = .ok (.invokevirtual 31, 3) := by decide +kernel
theorem dL_law_364 : decode cL_law 364 = .ok (.aload_n 2, 1) := by decide +kernel
theorem dL_law_365 : decode cL_law 365 = .ok (.invokevirtual 34, 3) := by decide +kernel
theorem dL_law_368 : decode cL_law 368 = .ok (.if_icmp .eq 1025, 3) := by decide +kernel
theorem dL_law_371 : decode cL_law 371 = .ok (.iconst 0, 1) := by decide +kernel
theorem dL_law_372 : decode cL_law 372 = .ok (.ireturn, 1) := by decide +kernel
theorem dL_law_373 : decode cL_law 373 = .ok (.aload_n 1, 1) := by decide +kernel
theorem dL_law_374 : decode cL_law 374 = .ok (.aload_n 0, 1) := by decide +kernel
theorem dL_law_375 : decode cL_law 375 = .ok (.iload 4, 2) := by decide +kernel
theorem dL_law_377 : decode cL_law 377 = .ok (.iconst 1, 1) := by decide +kernel
theorem dL_law_378 : decode cL_law 378 = .ok (.iadd, 1) := by decide +kernel
theorem dL_law_379 : decode cL_law 379 = .ok (.iaload, 1) := by decide +kernel
theorem dL_law_380 : decode cL_law 380 = .ok (.aload_n 0, 1) := by decide +kernel
theorem dL_law_381 : decode cL_law 381 = .ok (.iload 4, 2) := by decide +kernel
theorem dL_law_383 : decode cL_law 383 = .ok (.iconst 2, 1) := by decide +kernel
theorem dL_law_384 : decode cL_law 384 = .ok (.iadd, 1) := by decide +kernel
theorem dL_law_385 : decode cL_law 385 = .ok (.iaload, 1) := by decide +kernel
theorem dL_law_386 : decode cL_law 386 = .ok (.invokevirtual 35, 3) := by decide +kernel
theorem dL_law_389 : decode cL_law 389 = .ok (.aload_n 2, 1) := by decide +kernel
theorem dL_law_390 : decode cL_law 390 = .ok (.aload_n 0, 1) := by decide +kernel
theorem dL_law_391 : decode cL_law 391 = .ok (.iload 4, 2) := by decide +kernel
theorem dL_law_393 : decode cL_law 393 = .ok (.iconst 1, 1) := by decide +kernel
theorem dL_law_394 : decode cL_law 394 = .ok (.iadd, 1) := by decide +kernel
theorem dL_law_395 : decode cL_law 395 = .ok (.iaload, 1) := by decide +kernel
theorem dL_law_396 : decode cL_law 396 = .ok (.aload_n 0, 1) := by decide +kernel
theorem dL_law_397 : decode cL_law 397 = .ok (.iload 4, 2) := by decide +kernel
theorem dL_law_399 : decode cL_law 399 = .ok (.iconst 2, 1) := by decide +kernel
theorem dL_law_400 : decode cL_law 400 = .ok (.iadd, 1) := by decide +kernel
theorem dL_law_401 : decode cL_law 401 = .ok (.iaload, 1) := by decide +kernel
theorem dL_law_402 : decode cL_law 402 = .ok (.invokevirtual 39, 3) := by decide +kernel
theorem dL_law_405 : decode cL_law 405 = .ok (.if_icmp .eq 988, 3) := by decide +kernel
theorem dL_law_408 : decode cL_law 408 = .ok (.iconst 0, 1) := by decide +kernel
theorem dL_law_409 : decode cL_law 409 = .ok (.ireturn, 1) := by decide +kernel
theorem dL_law_410 : decode cL_law 410 = .ok (.aload_n 1, 1) := by decide +kernel
theorem dL_law_411 : decode cL_law 411 = .ok (.aload_n 0, 1) := by decide +kernel
theorem dL_law_412 : decode cL_law 412 = .ok (.iload 4, 2) := by decide +kernel
theorem dL_law_414 : decode cL_law 414 = .ok (.iconst 1, 1) := by decide +kernel
theorem dL_law_415 : decode cL_law 415 = .ok (.iadd, 1) := by decide +kernel
theorem dL_law_416 : decode cL_law 416 = .ok (.iaload, 1) := by decide +kernel
theorem dL_law_417 : decode cL_law 417 = .ok (.aload_n 0, 1) := by decide +kernel
theorem dL_law_418 : decode cL_law 418 = .ok (.iload 4, 2) := by decide +kernel
theorem dL_law_420 : decode cL_law 420 = .ok (.iconst 2, 1) := by decide +kernel
theorem dL_law_421 : decode cL_law 421 = .ok (.iadd, 1) := by decide +kernel
theorem dL_law_422 : decode cL_law 422 = .ok (.iaload, 1) := by decide +kernel
theorem dL_law_423 : decode cL_law 423 = .ok (.aload_n 0, 1) := by decide +kernel
theorem dL_law_424 : decode cL_law 424 = .ok (.iload 4, 2) := by decide +kernel
theorem dL_law_426 : decode cL_law 426 = .ok (.iconst 3, 1) := by decide +kernel
theorem dL_law_427 : decode cL_law 427 = .ok (.iadd, 1) := by decide +kernel
theorem dL_law_428 : decode cL_law 428 = .ok (.iaload, 1) := by decide +kernel
theorem dL_law_429 : decode cL_law 429 = .ok (.invokevirtual 40, 3) := by decide +kernel
theorem dL_law_432 : decode cL_law 432 = .ok (.aload_n 2, 1) := by decide +kernel
theorem dL_law_433 : decode cL_law 433 = .ok (.aload_n 0, 1) := by decide +kernel
theorem dL_law_434 : decode cL_law 434 = .ok (.iload 4, 2) := by decide +kernel
theorem dL_law_436 : decode cL_law 436 = .ok (.iconst 1, 1) := by decide +kernel
theorem dL_law_437 : decode cL_law 437 = .ok (.iadd, 1) := by decide +kernel
theorem dL_law_438 : decode cL_law 438 = .ok (.iaload, 1) := by decide +kernel
theorem dL_law_439 : decode cL_law 439 = .ok (.aload_n 0, 1) := by decide +kernel
theorem dL_law_440 : decode cL_law 440 = .ok (.iload 4, 2) := by decide +kernel
theorem dL_law_442 : decode cL_law 442 = .ok (.iconst 2, 1) := by decide +kernel
theorem dL_law_443 : decode cL_law 443 = .ok (.iadd, 1) := by decide +kernel
theorem dL_law_444 : decode cL_law 444 = .ok (.iaload, 1) := by decide +kernel
theorem dL_law_445 : decode cL_law 445 = .ok (.aload_n 0, 1) := by decide +kernel
theorem dL_law_446 : decode cL_law 446 = .ok (.iload 4, 2) := by decide +kernel
theorem dL_law_448 : decode cL_law 448 = .ok (.iconst 3, 1) := by decide +kernel
theorem dL_law_449 : decode cL_law 449 = .ok (.iadd, 1) := by decide +kernel
theorem dL_law_450 : decode cL_law 450 = .ok (.iaload, 1) := by decide +kernel
theorem dL_law_451 : decode cL_law 451 = .ok (.invokevirtual 44, 3) := by decide +kernel
theorem dL_law_454 : decode cL_law 454 = .ok (.if_icmp .eq 939, 3) := by decide +kernel
theorem dL_law_457 : decode cL_law 457 = .ok (.iconst 0, 1) := by decide +kernel
theorem dL_law_458 : decode cL_law 458 = .ok (.ireturn, 1) := by decide +kernel
theorem dL_law_459 : decode cL_law 459 = .ok (.aload_n 1, 1) := by decide +kernel
theorem dL_law_460 : decode cL_law 460 = .ok (.aload_n 0, 1) := by decide +kernel
theorem dL_law_461 : decode cL_law 461 = .ok (.iload 4, 2) := by decide +kernel
theorem dL_law_463 : decode cL_law 463 = .ok (.iconst 1, 1) := by decide +kernel
theorem dL_law_464 : decode cL_law 464 = .ok (.iadd, 1) := by decide +kernel
theorem dL_law_465 : decode cL_law 465 = .ok (.iaload, 1) := by decide +kernel
theorem dL_law_466 : decode cL_law 466 = .ok (.aload_n 0, 1) := by decide +kernel
theorem dL_law_467 : decode cL_law 467 = .ok (.iload 4, 2) := by decide +kernel
theorem dL_law_469 : decode cL_law 469 = .ok (.iconst 2, 1) := by decide +kernel
theorem dL_law_470 : decode cL_law 470 = .ok (.iadd, 1) := by decide +kernel
theorem dL_law_471 : decode cL_law 471 = .ok (.iaload, 1) := by decide +kernel
theorem dL_law_472 : decode cL_law 472 = .ok (.invokevirtual 45, 3) := by decide +kernel
theorem dL_law_475 : decode cL_law 475 = .ok (.aload_n 2, 1) := by decide +kernel
theorem dL_law_476 : decode cL_law 476 = .ok (.aload_n 0, 1) := by decide +kernel
theorem dL_law_477 : decode cL_law 477 = .ok (.iload 4, 2) := by decide +kernel
theorem dL_law_479 : decode cL_law 479 = .ok (.iconst 1, 1) := by decide +kernel
theorem dL_law_480 : decode cL_law 480 = .ok (.iadd, 1) := by decide +kernel
theorem dL_law_481 : decode cL_law 481 = .ok (.iaload, 1) := by decide +kernel
theorem dL_law_482 : decode cL_law 482 = .ok (.aload_n 0, 1) := by decide +kernel
theorem dL_law_483 : decode cL_law 483 = .ok (.iload 4, 2) := by decide +kernel
theorem dL_law_485 : decode cL_law 485 = .ok (.iconst 2, 1) := by decide +kernel
theorem dL_law_486 : decode cL_law 486 = .ok (.iadd, 1) := by decide +kernel
theorem dL_law_487 : decode cL_law 487 = .ok (.iaload, 1) := by decide +kernel
theorem dL_law_488 : decode cL_law 488 = .ok (.invokevirtual 48, 3) := by decide +kernel
theorem dL_law_491 : decode cL_law 491 = .ok (.if_icmp .eq 902, 3) := by decide +kernel
theorem dL_law_494 : decode cL_law 494 = .ok (.iconst 0, 1) := by decide +kernel
theorem dL_law_495 : decode cL_law 495 = .ok (.ireturn, 1) := by decide +kernel
theorem dL_law_496 : decode cL_law 496 = .ok (.aload_n 1, 1) := by decide +kernel
theorem dL_law_497 : decode cL_law 497 = .ok (.aload_n 0, 1) := by decide +kernel
theorem dL_law_498 : decode cL_law 498 = .ok (.iload 4, 2) := by decide +kernel
theorem dL_law_500 : decode cL_law 500 = .ok (.iconst 1, 1) := by decide +kernel
theorem dL_law_501 : decode cL_law 501 = .ok (.iadd, 1) := by decide +kernel
theorem dL_law_502 : decode cL_law 502 = .ok (.iaload, 1) := by decide +kernel
theorem dL_law_503 : decode cL_law 503 = .ok (.aload_n 0, 1) := by decide +kernel
theorem dL_law_504 : decode cL_law 504 = .ok (.iload 4, 2) := by decide +kernel
theorem dL_law_506 : decode cL_law 506 = .ok (.iconst 2, 1) := by decide +kernel
theorem dL_law_507 : decode cL_law 507 = .ok (.iadd, 1) := by decide +kernel
theorem dL_law_508 : decode cL_law 508 = .ok (.iaload, 1) := by decide +kernel
theorem dL_law_509 : decode cL_law 509 = .ok (.invokevirtual 49, 3) := by decide +kernel
theorem dL_law_512 : decode cL_law 512 = .ok (.aload_n 2, 1) := by decide +kernel
theorem dL_law_513 : decode cL_law 513 = .ok (.aload_n 0, 1) := by decide +kernel
theorem dL_law_514 : decode cL_law 514 = .ok (.iload 4, 2) := by decide +kernel
theorem dL_law_516 : decode cL_law 516 = .ok (.iconst 1, 1) := by decide +kernel
theorem dL_law_517 : decode cL_law 517 = .ok (.iadd, 1) := by decide +kernel
theorem dL_law_518 : decode cL_law 518 = .ok (.iaload, 1) := by decide +kernel
theorem dL_law_519 : decode cL_law 519 = .ok (.aload_n 0, 1) := by decide +kernel
theorem dL_law_520 : decode cL_law 520 = .ok (.iload 4, 2) := by decide +kernel
theorem dL_law_522 : decode cL_law 522 = .ok (.iconst 2, 1) := by decide +kernel
theorem dL_law_523 : decode cL_law 523 = .ok (.iadd, 1) := by decide +kernel
theorem dL_law_524 : decode cL_law 524 = .ok (.iaload, 1) := by decide +kernel
theorem dL_law_525 : decode cL_law 525 = .ok (.invokevirtual 52, 3) := by decide +kernel
theorem dL_law_528 : decode cL_law 528 = .ok (.if_icmp .eq 865, 3) := by decide +kernel
theorem dL_law_531 : decode cL_law 531 = .ok (.iconst 0, 1) := by decide +kernel
theorem dL_law_532 : decode cL_law 532 = .ok (.ireturn, 1) := by decide +kernel
theorem dL_law_533 : decode cL_law 533 = .ok (.aload_n 1, 1) := by decide +kernel
theorem dL_law_534 : decode cL_law 534 = .ok (.aload_n 0, 1) := by decide +kernel
theorem dL_law_535 : decode cL_law 535 = .ok (.iload 4, 2) := by decide +kernel
theorem dL_law_537 : decode cL_law 537 = .ok (.iconst 1, 1) := by decide +kernel
theorem dL_law_538 : decode cL_law 538 = .ok (.iadd, 1) := by decide +kernel
theorem dL_law_539 : decode cL_law 539 = .ok (.iaload, 1) := by decide +kernel
theorem dL_law_540 : decode cL_law 540 = .ok (.aload_n 0, 1) := by decide +kernel
theorem dL_law_541 : decode cL_law 541 = .ok (.iload 4, 2) := by decide +kernel
theorem dL_law_543 : decode cL_law 543 = .ok (.iconst 2, 1) := by decide +kernel
theorem dL_law_544 : decode cL_law 544 = .ok (.iadd, 1) := by decide +kernel
theorem dL_law_545 : decode cL_law 545 = .ok (.iaload, 1) := by decide +kernel
theorem dL_law_546 : decode cL_law 546 = .ok (.invokevirtual 53, 3) := by decide +kernel
theorem dL_law_549 : decode cL_law 549 = .ok (.aload_n 2, 1) := by decide +kernel
theorem dL_law_550 : decode cL_law 550 = .ok (.aload_n 0, 1) := by decide +kernel
theorem dL_law_551 : decode cL_law 551 = .ok (.iload 4, 2) := by decide +kernel
theorem dL_law_553 : decode cL_law 553 = .ok (.iconst 1, 1) := by decide +kernel
theorem dL_law_554 : decode cL_law 554 = .ok (.iadd, 1) := by decide +kernel
theorem dL_law_555 : decode cL_law 555 = .ok (.iaload, 1) := by decide +kernel
theorem dL_law_556 : decode cL_law 556 = .ok (.aload_n 0, 1) := by decide +kernel
theorem dL_law_557 : decode cL_law 557 = .ok (.iload 4, 2) := by decide +kernel
theorem dL_law_559 : decode cL_law 559 = .ok (.iconst 2, 1) := by decide +kernel
theorem dL_law_560 : decode cL_law 560 = .ok (.iadd, 1) := by decide +kernel
theorem dL_law_561 : decode cL_law 561 = .ok (.iaload, 1) := by decide +kernel
theorem dL_law_562 : decode cL_law 562 = .ok (.invokevirtual 56, 3) := by decide +kernel
theorem dL_law_565 : decode cL_law 565 = .ok (.if_icmp .eq 828, 3) := by decide +kernel
theorem dL_law_568 : decode cL_law 568 = .ok (.iconst 0, 1) := by decide +kernel
theorem dL_law_569 : decode cL_law 569 = .ok (.ireturn, 1) := by decide +kernel
theorem dL_law_570 : decode cL_law 570 = .ok (.aload_n 1, 1) := by decide +kernel
theorem dL_law_571 : decode cL_law 571 = .ok (.aload_n 0, 1) := by decide +kernel
theorem dL_law_572 : decode cL_law 572 = .ok (.iload 4, 2) := by decide +kernel
theorem dL_law_574 : decode cL_law 574 = .ok (.iconst 1, 1) := by decide +kernel
theorem dL_law_575 : decode cL_law 575 = .ok (.iadd, 1) := by decide +kernel
theorem dL_law_576 : decode cL_law 576 = .ok (.iaload, 1) := by decide +kernel
theorem dL_law_577 : decode cL_law 577 = .ok (.invokevirtual 57, 3) := by decide +kernel
theorem dL_law_580 : decode cL_law 580 = .ok (.aload_n 2, 1) := by decide +kernel
theorem dL_law_581 : decode cL_law 581 = .ok (.aload_n 0, 1) := by decide +kernel
theorem dL_law_582 : decode cL_law 582 = .ok (.iload 4, 2) := by decide +kernel
theorem dL_law_584 : decode cL_law 584 = .ok (.iconst 1, 1) := by decide +kernel
theorem dL_law_585 : decode cL_law 585 = .ok (.iadd, 1) := by decide +kernel
theorem dL_law_586 : decode cL_law 586 = .ok (.iaload, 1) := by decide +kernel
theorem dL_law_587 : decode cL_law 587 = .ok (.invokevirtual 60, 3) := by decide +kernel
theorem dL_law_590 : decode cL_law 590 = .ok (.if_icmp .eq 803, 3) := by decide +kernel
theorem dL_law_593 : decode cL_law 593 = .ok (.iconst 0, 1) := by decide +kernel
theorem dL_law_594 : decode cL_law 594 = .ok (.ireturn, 1) := by decide +kernel
theorem dL_law_595 : decode cL_law 595 = .ok (.aload_n 1, 1) := by decide +kernel
theorem dL_law_596 : decode cL_law 596 = .ok (.aload_n 0, 1) := by decide +kernel
theorem dL_law_597 : decode cL_law 597 = .ok (.iload 4, 2) := by decide +kernel
theorem dL_law_599 : decode cL_law 599 = .ok (.iconst 1, 1) := by decide +kernel
theorem dL_law_600 : decode cL_law 600 = .ok (.iadd, 1) := by decide +kernel
theorem dL_law_601 : decode cL_law 601 = .ok (.iaload, 1) := by decide +kernel
theorem dL_law_602 : decode cL_law 602 = .ok (.aload_n 0, 1) := by decide +kernel
theorem dL_law_603 : decode cL_law 603 = .ok (.iload 4, 2) := by decide +kernel
theorem dL_law_605 : decode cL_law 605 = .ok (.iconst 2, 1) := by decide +kernel
theorem dL_law_606 : decode cL_law 606 = .ok (.iadd, 1) := by decide +kernel
theorem dL_law_607 : decode cL_law 607 = .ok (.iaload, 1) := by decide +kernel
theorem dL_law_608 : decode cL_law 608 = .ok (.invokevirtual 61, 3) := by decide +kernel
theorem dL_law_611 : decode cL_law 611 = .ok (.aload_n 2, 1) := by decide +kernel
theorem dL_law_612 : decode cL_law 612 = .ok (.aload_n 0, 1) := by decide +kernel
theorem dL_law_613 : decode cL_law 613 = .ok (.iload 4, 2) := by decide +kernel
theorem dL_law_615 : decode cL_law 615 = .ok (.iconst 1, 1) := by decide +kernel
theorem dL_law_616 : decode cL_law 616 = .ok (.iadd, 1) := by decide +kernel
theorem dL_law_617 : decode cL_law 617 = .ok (.iaload, 1) := by decide +kernel
theorem dL_law_618 : decode cL_law 618 = .ok (.aload_n 0, 1) := by decide +kernel
theorem dL_law_619 : decode cL_law 619 = .ok (.iload 4, 2) := by decide +kernel
theorem dL_law_621 : decode cL_law 621 = .ok (.iconst 2, 1) := by decide +kernel
theorem dL_law_622 : decode cL_law 622 = .ok (.iadd, 1) := by decide +kernel
theorem dL_law_623 : decode cL_law 623 = .ok (.iaload, 1) := by decide +kernel
theorem dL_law_624 : decode cL_law 624 = .ok (.invokevirtual 64, 3) := by decide +kernel
theorem dL_law_627 : decode cL_law 627 = .ok (.if_icmp .eq 766, 3) := by decide +kernel
theorem dL_law_630 : decode cL_law 630 = .ok (.iconst 0, 1) := by decide +kernel
theorem dL_law_631 : decode cL_law 631 = .ok (.ireturn, 1) := by decide +kernel
theorem dL_law_632 : decode cL_law 632 = .ok (.aload_n 1, 1) := by decide +kernel
theorem dL_law_633 : decode cL_law 633 = .ok (.aload_n 0, 1) := by decide +kernel
theorem dL_law_634 : decode cL_law 634 = .ok (.iload 4, 2) := by decide +kernel
theorem dL_law_636 : decode cL_law 636 = .ok (.iconst 1, 1) := by decide +kernel
theorem dL_law_637 : decode cL_law 637 = .ok (.iadd, 1) := by decide +kernel
theorem dL_law_638 : decode cL_law 638 = .ok (.iaload, 1) := by decide +kernel
theorem dL_law_639 : decode cL_law 639 = .ok (.invokevirtual 65, 3) := by decide +kernel
theorem dL_law_642 : decode cL_law 642 = .ok (.aload_n 2, 1) := by decide +kernel
theorem dL_law_643 : decode cL_law 643 = .ok (.aload_n 0, 1) := by decide +kernel
theorem dL_law_644 : decode cL_law 644 = .ok (.iload 4, 2) := by decide +kernel
theorem dL_law_646 : decode cL_law 646 = .ok (.iconst 1, 1) := by decide +kernel
theorem dL_law_647 : decode cL_law 647 = .ok (.iadd, 1) := by decide +kernel
theorem dL_law_648 : decode cL_law 648 = .ok (.iaload, 1) := by decide +kernel
theorem dL_law_649 : decode cL_law 649 = .ok (.invokevirtual 68, 3) := by decide +kernel
theorem dL_law_652 : decode cL_law 652 = .ok (.if_icmp .eq 741, 3) := by decide +kernel
theorem dL_law_655 : decode cL_law 655 = .ok (.iconst 0, 1) := by decide +kernel
theorem dL_law_656 : decode cL_law 656 = .ok (.ireturn, 1) := by decide +kernel
theorem dL_law_657 : decode cL_law 657 = .ok (.aload_n 1, 1) := by decide +kernel
theorem dL_law_658 : decode cL_law 658 = .ok (.aload_n 0, 1) := by decide +kernel
theorem dL_law_659 : decode cL_law 659 = .ok (.iload 4, 2) := by decide +kernel
theorem dL_law_661 : decode cL_law 661 = .ok (.iconst 1, 1) := by decide +kernel
theorem dL_law_662 : decode cL_law 662 = .ok (.iadd, 1) := by decide +kernel
theorem dL_law_663 : decode cL_law 663 = .ok (.iaload, 1) := by decide +kernel
theorem dL_law_664 : decode cL_law 664 = .ok (.invokevirtual 69, 3) := by decide +kernel
theorem dL_law_667 : decode cL_law 667 = .ok (.aload_n 2, 1) := by decide +kernel
theorem dL_law_668 : decode cL_law 668 = .ok (.aload_n 0, 1) := by decide +kernel
theorem dL_law_669 : decode cL_law 669 = .ok (.iload 4, 2) := by decide +kernel
theorem dL_law_671 : decode cL_law 671 = .ok (.iconst 1, 1) := by decide +kernel
theorem dL_law_672 : decode cL_law 672 = .ok (.iadd, 1) := by decide +kernel
theorem dL_law_673 : decode cL_law 673 = .ok (.iaload, 1) := by decide +kernel
theorem dL_law_674 : decode cL_law 674 = .ok (.invokevirtual 73, 3) := by decide +kernel
theorem dL_law_677 : decode cL_law 677 = .ok (.if_icmp .eq 716, 3) := by decide +kernel
theorem dL_law_680 : decode cL_law 680 = .ok (.iconst 0, 1) := by decide +kernel
theorem dL_law_681 : decode cL_law 681 = .ok (.ireturn, 1) := by decide +kernel
theorem dL_law_682 : decode cL_law 682 = .ok (.aload_n 1, 1) := by decide +kernel
theorem dL_law_683 : decode cL_law 683 = .ok (.aload_n 0, 1) := by decide +kernel
theorem dL_law_684 : decode cL_law 684 = .ok (.iload 4, 2) := by decide +kernel
theorem dL_law_686 : decode cL_law 686 = .ok (.iconst 1, 1) := by decide +kernel
theorem dL_law_687 : decode cL_law 687 = .ok (.iadd, 1) := by decide +kernel
theorem dL_law_688 : decode cL_law 688 = .ok (.iaload, 1) := by decide +kernel
theorem dL_law_689 : decode cL_law 689 = .ok (.invokevirtual 74, 3) := by decide +kernel
theorem dL_law_692 : decode cL_law 692 = .ok (.aload_n 2, 1) := by decide +kernel
theorem dL_law_693 : decode cL_law 693 = .ok (.aload_n 0, 1) := by decide +kernel
theorem dL_law_694 : decode cL_law 694 = .ok (.iload 4, 2) := by decide +kernel
theorem dL_law_696 : decode cL_law 696 = .ok (.iconst 1, 1) := by decide +kernel
theorem dL_law_697 : decode cL_law 697 = .ok (.iadd, 1) := by decide +kernel
theorem dL_law_698 : decode cL_law 698 = .ok (.iaload, 1) := by decide +kernel
theorem dL_law_699 : decode cL_law 699 = .ok (.invokevirtual 77, 3) := by decide +kernel
theorem dL_law_702 : decode cL_law 702 = .ok (.if_icmp .eq 691, 3) := by decide +kernel
theorem dL_law_705 : decode cL_law 705 = .ok (.iconst 0, 1) := by decide +kernel
theorem dL_law_706 : decode cL_law 706 = .ok (.ireturn, 1) := by decide +kernel
theorem dL_law_707 : decode cL_law 707 = .ok (.aload_n 1, 1) := by decide +kernel
theorem dL_law_708 : decode cL_law 708 = .ok (.aload_n 0, 1) := by decide +kernel
theorem dL_law_709 : decode cL_law 709 = .ok (.iload 4, 2) := by decide +kernel
theorem dL_law_711 : decode cL_law 711 = .ok (.iconst 1, 1) := by decide +kernel
theorem dL_law_712 : decode cL_law 712 = .ok (.iadd, 1) := by decide +kernel
theorem dL_law_713 : decode cL_law 713 = .ok (.iaload, 1) := by decide +kernel
theorem dL_law_714 : decode cL_law 714 = .ok (.invokevirtual 78, 3) := by decide +kernel
theorem dL_law_717 : decode cL_law 717 = .ok (.aload_n 2, 1) := by decide +kernel
theorem dL_law_718 : decode cL_law 718 = .ok (.aload_n 0, 1) := by decide +kernel
theorem dL_law_719 : decode cL_law 719 = .ok (.iload 4, 2) := by decide +kernel
theorem dL_law_721 : decode cL_law 721 = .ok (.iconst 1, 1) := by decide +kernel
theorem dL_law_722 : decode cL_law 722 = .ok (.iadd, 1) := by decide +kernel
theorem dL_law_723 : decode cL_law 723 = .ok (.iaload, 1) := by decide +kernel
theorem dL_law_724 : decode cL_law 724 = .ok (.invokevirtual 81, 3) := by decide +kernel
theorem dL_law_727 : decode cL_law 727 = .ok (.if_icmp .eq 666, 3) := by decide +kernel
theorem dL_law_730 : decode cL_law 730 = .ok (.iconst 0, 1) := by decide +kernel
theorem dL_law_731 : decode cL_law 731 = .ok (.ireturn, 1) := by decide +kernel
theorem dL_law_732 : decode cL_law 732 = .ok (.aload_n 1, 1) := by decide +kernel
theorem dL_law_733 : decode cL_law 733 = .ok (.aload_n 0, 1) := by decide +kernel
theorem dL_law_734 : decode cL_law 734 = .ok (.iload 4, 2) := by decide +kernel
theorem dL_law_736 : decode cL_law 736 = .ok (.iconst 1, 1) := by decide +kernel
theorem dL_law_737 : decode cL_law 737 = .ok (.iadd, 1) := by decide +kernel
theorem dL_law_738 : decode cL_law 738 = .ok (.iaload, 1) := by decide +kernel
theorem dL_law_739 : decode cL_law 739 = .ok (.invokevirtual 82, 3) := by decide +kernel
theorem dL_law_742 : decode cL_law 742 = .ok (.aload_n 2, 1) := by decide +kernel
theorem dL_law_743 : decode cL_law 743 = .ok (.aload_n 0, 1) := by decide +kernel
theorem dL_law_744 : decode cL_law 744 = .ok (.iload 4, 2) := by decide +kernel
theorem dL_law_746 : decode cL_law 746 = .ok (.iconst 1, 1) := by decide +kernel
theorem dL_law_747 : decode cL_law 747 = .ok (.iadd, 1) := by decide +kernel
theorem dL_law_748 : decode cL_law 748 = .ok (.iaload, 1) := by decide +kernel
theorem dL_law_749 : decode cL_law 749 = .ok (.invokevirtual 85, 3) := by decide +kernel
theorem dL_law_752 : decode cL_law 752 = .ok (.if_icmp .eq 641, 3) := by decide +kernel
theorem dL_law_755 : decode cL_law 755 = .ok (.iconst 0, 1) := by decide +kernel
theorem dL_law_756 : decode cL_law 756 = .ok (.ireturn, 1) := by decide +kernel
theorem dL_law_757 : decode cL_law 757 = .ok (.aload_n 1, 1) := by decide +kernel
theorem dL_law_758 : decode cL_law 758 = .ok (.aload_n 0, 1) := by decide +kernel
theorem dL_law_759 : decode cL_law 759 = .ok (.iload 4, 2) := by decide +kernel
theorem dL_law_761 : decode cL_law 761 = .ok (.iconst 1, 1) := by decide +kernel
theorem dL_law_762 : decode cL_law 762 = .ok (.iadd, 1) := by decide +kernel
theorem dL_law_763 : decode cL_law 763 = .ok (.iaload, 1) := by decide +kernel
theorem dL_law_764 : decode cL_law 764 = .ok (.aload_n 0, 1) := by decide +kernel
theorem dL_law_765 : decode cL_law 765 = .ok (.iload 4, 2) := by decide +kernel
theorem dL_law_767 : decode cL_law 767 = .ok (.iconst 2, 1) := by decide +kernel
theorem dL_law_768 : decode cL_law 768 = .ok (.iadd, 1) := by decide +kernel
theorem dL_law_769 : decode cL_law 769 = .ok (.iaload, 1) := by decide +kernel
theorem dL_law_770 : decode cL_law 770 = .ok (.invokevirtual 86, 3) := by decide +kernel
theorem dL_law_773 : decode cL_law 773 = .ok (.aload_n 2, 1) := by decide +kernel
theorem dL_law_774 : decode cL_law 774 = .ok (.aload_n 0, 1) := by decide +kernel
theorem dL_law_775 : decode cL_law 775 = .ok (.iload 4, 2) := by decide +kernel
theorem dL_law_777 : decode cL_law 777 = .ok (.iconst 1, 1) := by decide +kernel
theorem dL_law_778 : decode cL_law 778 = .ok (.iadd, 1) := by decide +kernel
theorem dL_law_779 : decode cL_law 779 = .ok (.iaload, 1) := by decide +kernel
theorem dL_law_780 : decode cL_law 780 = .ok (.aload_n 0, 1) := by decide +kernel
theorem dL_law_781 : decode cL_law 781 = .ok (.iload 4, 2) := by decide +kernel
theorem dL_law_783 : decode cL_law 783 = .ok (.iconst 2, 1) := by decide +kernel
theorem dL_law_784 : decode cL_law 784 = .ok (.iadd, 1) := by decide +kernel
theorem dL_law_785 : decode cL_law 785 = .ok (.iaload, 1) := by decide +kernel
theorem dL_law_786 : decode cL_law 786 = .ok (.invokevirtual 89, 3) := by decide +kernel
theorem dL_law_789 : decode cL_law 789 = .ok (.if_icmp .eq 604, 3) := by decide +kernel
theorem dL_law_792 : decode cL_law 792 = .ok (.iconst 0, 1) := by decide +kernel
theorem dL_law_793 : decode cL_law 793 = .ok (.ireturn, 1) := by decide +kernel
theorem dL_law_794 : decode cL_law 794 = .ok (.aload_n 1, 1) := by decide +kernel
theorem dL_law_795 : decode cL_law 795 = .ok (.invokevirtual 90, 3) := by decide +kernel
theorem dL_law_798 : decode cL_law 798 = .ok (.aload_n 2, 1) := by decide +kernel
theorem dL_law_799 : decode cL_law 799 = .ok (.invokevirtual 93, 3) := by decide +kernel
theorem dL_law_802 : decode cL_law 802 = .ok (.if_icmp .eq 591, 3) := by decide +kernel
theorem dL_law_805 : decode cL_law 805 = .ok (.iconst 0, 1) := by decide +kernel
theorem dL_law_806 : decode cL_law 806 = .ok (.ireturn, 1) := by decide +kernel
theorem dL_law_807 : decode cL_law 807 = .ok (.aload_n 1, 1) := by decide +kernel
theorem dL_law_808 : decode cL_law 808 = .ok (.aload_n 0, 1) := by decide +kernel
theorem dL_law_809 : decode cL_law 809 = .ok (.iload 4, 2) := by decide +kernel
theorem dL_law_811 : decode cL_law 811 = .ok (.iconst 1, 1) := by decide +kernel
theorem dL_law_812 : decode cL_law 812 = .ok (.iadd, 1) := by decide +kernel
theorem dL_law_813 : decode cL_law 813 = .ok (.iaload, 1) := by decide +kernel
theorem dL_law_814 : decode cL_law 814 = .ok (.invokevirtual 94, 3) := by decide +kernel
theorem dL_law_817 : decode cL_law 817 = .ok (.aload_n 2, 1) := by decide +kernel
theorem dL_law_818 : decode cL_law 818 = .ok (.aload_n 0, 1) := by decide +kernel
theorem dL_law_819 : decode cL_law 819 = .ok (.iload 4, 2) := by decide +kernel
theorem dL_law_821 : decode cL_law 821 = .ok (.iconst 1, 1) := by decide +kernel
theorem dL_law_822 : decode cL_law 822 = .ok (.iadd, 1) := by decide +kernel
theorem dL_law_823 : decode cL_law 823 = .ok (.iaload, 1) := by decide +kernel
theorem dL_law_824 : decode cL_law 824 = .ok (.invokevirtual 97, 3) := by decide +kernel
theorem dL_law_827 : decode cL_law 827 = .ok (.if_icmp .eq 566, 3) := by decide +kernel
theorem dL_law_830 : decode cL_law 830 = .ok (.iconst 0, 1) := by decide +kernel
theorem dL_law_831 : decode cL_law 831 = .ok (.ireturn, 1) := by decide +kernel
theorem dL_law_832 : decode cL_law 832 = .ok (.aload_n 1, 1) := by decide +kernel
theorem dL_law_833 : decode cL_law 833 = .ok (.aload_n 0, 1) := by decide +kernel
theorem dL_law_834 : decode cL_law 834 = .ok (.iload 4, 2) := by decide +kernel
theorem dL_law_836 : decode cL_law 836 = .ok (.iconst 1, 1) := by decide +kernel
theorem dL_law_837 : decode cL_law 837 = .ok (.iadd, 1) := by decide +kernel
theorem dL_law_838 : decode cL_law 838 = .ok (.iaload, 1) := by decide +kernel
theorem dL_law_839 : decode cL_law 839 = .ok (.invokevirtual 98, 3) := by decide +kernel
theorem dL_law_842 : decode cL_law 842 = .ok (.aload_n 2, 1) := by decide +kernel
theorem dL_law_843 : decode cL_law 843 = .ok (.aload_n 0, 1) := by decide +kernel
theorem dL_law_844 : decode cL_law 844 = .ok (.iload 4, 2) := by decide +kernel
theorem dL_law_846 : decode cL_law 846 = .ok (.iconst 1, 1) := by decide +kernel
theorem dL_law_847 : decode cL_law 847 = .ok (.iadd, 1) := by decide +kernel
theorem dL_law_848 : decode cL_law 848 = .ok (.iaload, 1) := by decide +kernel
theorem dL_law_849 : decode cL_law 849 = .ok (.invokevirtual 101, 3) := by decide +kernel
theorem dL_law_852 : decode cL_law 852 = .ok (.if_icmp .eq 541, 3) := by decide +kernel
theorem dL_law_855 : decode cL_law 855 = .ok (.iconst 0, 1) := by decide +kernel
theorem dL_law_856 : decode cL_law 856 = .ok (.ireturn, 1) := by decide +kernel
theorem dL_law_857 : decode cL_law 857 = .ok (.aload_n 1, 1) := by decide +kernel
theorem dL_law_858 : decode cL_law 858 = .ok (.aload_n 0, 1) := by decide +kernel
theorem dL_law_859 : decode cL_law 859 = .ok (.iload 4, 2) := by decide +kernel
theorem dL_law_861 : decode cL_law 861 = .ok (.iconst 1, 1) := by decide +kernel
theorem dL_law_862 : decode cL_law 862 = .ok (.iadd, 1) := by decide +kernel
theorem dL_law_863 : decode cL_law 863 = .ok (.iaload, 1) := by decide +kernel
theorem dL_law_864 : decode cL_law 864 = .ok (.aload_n 0, 1) := by decide +kernel
theorem dL_law_865 : decode cL_law 865 = .ok (.iload 4, 2) := by decide +kernel
theorem dL_law_867 : decode cL_law 867 = .ok (.iconst 2, 1) := by decide +kernel
theorem dL_law_868 : decode cL_law 868 = .ok (.iadd, 1) := by decide +kernel
theorem dL_law_869 : decode cL_law 869 = .ok (.iaload, 1) := by decide +kernel
theorem dL_law_870 : decode cL_law 870 = .ok (.invokevirtual 102, 3) := by decide +kernel
theorem dL_law_873 : decode cL_law 873 = .ok (.aload_n 2, 1) := by decide +kernel
theorem dL_law_874 : decode cL_law 874 = .ok (.aload_n 0, 1) := by decide +kernel
theorem dL_law_875 : decode cL_law 875 = .ok (.iload 4, 2) := by decide +kernel
theorem dL_law_877 : decode cL_law 877 = .ok (.iconst 1, 1) := by decide +kernel
theorem dL_law_878 : decode cL_law 878 = .ok (.iadd, 1) := by decide +kernel
theorem dL_law_879 : decode cL_law 879 = .ok (.iaload, 1) := by decide +kernel
theorem dL_law_880 : decode cL_law 880 = .ok (.aload_n 0, 1) := by decide +kernel
theorem dL_law_881 : decode cL_law 881 = .ok (.iload 4, 2) := by decide +kernel
theorem dL_law_883 : decode cL_law 883 = .ok (.iconst 2, 1) := by decide +kernel
theorem dL_law_884 : decode cL_law 884 = .ok (.iadd, 1) := by decide +kernel
theorem dL_law_885 : decode cL_law 885 = .ok (.iaload, 1) := by decide +kernel
theorem dL_law_886 : decode cL_law 886 = .ok (.invokevirtual 105, 3) := by decide +kernel
theorem dL_law_889 : decode cL_law 889 = .ok (.if_icmp .eq 504, 3) := by decide +kernel
theorem dL_law_892 : decode cL_law 892 = .ok (.iconst 0, 1) := by decide +kernel
theorem dL_law_893 : decode cL_law 893 = .ok (.ireturn, 1) := by decide +kernel
theorem dL_law_894 : decode cL_law 894 = .ok (.aload_n 1, 1) := by decide +kernel
theorem dL_law_895 : decode cL_law 895 = .ok (.invokevirtual 106, 3) := by decide +kernel
theorem dL_law_898 : decode cL_law 898 = .ok (.aload_n 2, 1) := by decide +kernel
theorem dL_law_899 : decode cL_law 899 = .ok (.invokevirtual 109, 3) := by decide +kernel
theorem dL_law_902 : decode cL_law 902 = .ok (.if_icmp .eq 491, 3) := by decide +kernel
theorem dL_law_905 : decode cL_law 905 = .ok (.iconst 0, 1) := by decide +kernel
theorem dL_law_906 : decode cL_law 906 = .ok (.ireturn, 1) := by decide +kernel
theorem dL_law_907 : decode cL_law 907 = .ok (.aload_n 1, 1) := by decide +kernel
theorem dL_law_908 : decode cL_law 908 = .ok (.aload_n 0, 1) := by decide +kernel
theorem dL_law_909 : decode cL_law 909 = .ok (.iload 4, 2) := by decide +kernel
theorem dL_law_911 : decode cL_law 911 = .ok (.iconst 1, 1) := by decide +kernel
theorem dL_law_912 : decode cL_law 912 = .ok (.iadd, 1) := by decide +kernel
theorem dL_law_913 : decode cL_law 913 = .ok (.iaload, 1) := by decide +kernel
theorem dL_law_914 : decode cL_law 914 = .ok (.invokevirtual 110, 3) := by decide +kernel
theorem dL_law_917 : decode cL_law 917 = .ok (.aload_n 2, 1) := by decide +kernel
theorem dL_law_918 : decode cL_law 918 = .ok (.aload_n 0, 1) := by decide +kernel
theorem dL_law_919 : decode cL_law 919 = .ok (.iload 4, 2) := by decide +kernel
theorem dL_law_921 : decode cL_law 921 = .ok (.iconst 1, 1) := by decide +kernel
theorem dL_law_922 : decode cL_law 922 = .ok (.iadd, 1) := by decide +kernel
theorem dL_law_923 : decode cL_law 923 = .ok (.iaload, 1) := by decide +kernel
theorem dL_law_924 : decode cL_law 924 = .ok (.invokevirtual 113, 3) := by decide +kernel
theorem dL_law_927 : decode cL_law 927 = .ok (.if_icmp .eq 466, 3) := by decide +kernel
theorem dL_law_930 : decode cL_law 930 = .ok (.iconst 0, 1) := by decide +kernel
theorem dL_law_931 : decode cL_law 931 = .ok (.ireturn, 1) := by decide +kernel
theorem dL_law_932 : decode cL_law 932 = .ok (.aload_n 1, 1) := by decide +kernel
theorem dL_law_933 : decode cL_law 933 = .ok (.aload_n 0, 1) := by decide +kernel
theorem dL_law_934 : decode cL_law 934 = .ok (.iload 4, 2) := by decide +kernel
theorem dL_law_936 : decode cL_law 936 = .ok (.iconst 1, 1) := by decide +kernel
theorem dL_law_937 : decode cL_law 937 = .ok (.iadd, 1) := by decide +kernel
theorem dL_law_938 : decode cL_law 938 = .ok (.iaload, 1) := by decide +kernel
theorem dL_law_939 : decode cL_law 939 = .ok (.invokevirtual 114, 3) := by decide +kernel
theorem dL_law_942 : decode cL_law 942 = .ok (.aload_n 2, 1) := by decide +kernel
theorem dL_law_943 : decode cL_law 943 = .ok (.aload_n 0, 1) := by decide +kernel
theorem dL_law_944 : decode cL_law 944 = .ok (.iload 4, 2) := by decide +kernel
theorem dL_law_946 : decode cL_law 946 = .ok (.iconst 1, 1) := by decide +kernel
theorem dL_law_947 : decode cL_law 947 = .ok (.iadd, 1) := by decide +kernel
theorem dL_law_948 : decode cL_law 948 = .ok (.iaload, 1) := by decide +kernel
theorem dL_law_949 : decode cL_law 949 = .ok (.invokevirtual 117, 3) := by decide +kernel
theorem dL_law_952 : decode cL_law 952 = .ok (.if_icmp .eq 441, 3) := by decide +kernel
theorem dL_law_955 : decode cL_law 955 = .ok (.iconst 0, 1) := by decide +kernel
theorem dL_law_956 : decode cL_law 956 = .ok (.ireturn, 1) := by decide +kernel
theorem dL_law_957 : decode cL_law 957 = .ok (.aload_n 1, 1) := by decide +kernel
theorem dL_law_958 : decode cL_law 958 = .ok (.aload_n 0, 1) := by decide +kernel
theorem dL_law_959 : decode cL_law 959 = .ok (.iload 4, 2) := by decide +kernel
theorem dL_law_961 : decode cL_law 961 = .ok (.iconst 1, 1) := by decide +kernel
theorem dL_law_962 : decode cL_law 962 = .ok (.iadd, 1) := by decide +kernel
theorem dL_law_963 : decode cL_law 963 = .ok (.iaload, 1) := by decide +kernel
theorem dL_law_964 : decode cL_law 964 = .ok (.invokevirtual 118, 3) := by decide +kernel
theorem dL_law_967 : decode cL_law 967 = .ok (.aload_n 2, 1) := by decide +kernel
theorem dL_law_968 : decode cL_law 968 = .ok (.aload_n 0, 1) := by decide +kernel
theorem dL_law_969 : decode cL_law 969 = .ok (.iload 4, 2) := by decide +kernel
theorem dL_law_971 : decode cL_law 971 = .ok (.iconst 1, 1) := by decide +kernel
theorem dL_law_972 : decode cL_law 972 = .ok (.iadd, 1) := by decide +kernel
theorem dL_law_973 : decode cL_law 973 = .ok (.iaload, 1) := by decide +kernel
theorem dL_law_974 : decode cL_law 974 = .ok (.invokevirtual 121, 3) := by decide +kernel
theorem dL_law_977 : decode cL_law 977 = .ok (.if_icmp .eq 416, 3) := by decide +kernel
theorem dL_law_980 : decode cL_law 980 = .ok (.iconst 0, 1) := by decide +kernel
theorem dL_law_981 : decode cL_law 981 = .ok (.ireturn, 1) := by decide +kernel
theorem dL_law_982 : decode cL_law 982 = .ok (.aload_n 1, 1) := by decide +kernel
theorem dL_law_983 : decode cL_law 983 = .ok (.aload_n 0, 1) := by decide +kernel
theorem dL_law_984 : decode cL_law 984 = .ok (.iload 4, 2) := by decide +kernel
theorem dL_law_986 : decode cL_law 986 = .ok (.iconst 1, 1) := by decide +kernel
theorem dL_law_987 : decode cL_law 987 = .ok (.iadd, 1) := by decide +kernel
theorem dL_law_988 : decode cL_law 988 = .ok (.iaload, 1) := by decide +kernel
theorem dL_law_989 : decode cL_law 989 = .ok (.aload_n 0, 1) := by decide +kernel
theorem dL_law_990 : decode cL_law 990 = .ok (.iload 4, 2) := by decide +kernel
theorem dL_law_992 : decode cL_law 992 = .ok (.iconst 2, 1) := by decide +kernel
theorem dL_law_993 : decode cL_law 993 = .ok (.iadd, 1) := by decide +kernel
theorem dL_law_994 : decode cL_law 994 = .ok (.iaload, 1) := by decide +kernel
theorem dL_law_995 : decode cL_law 995 = .ok (.invokevirtual 122, 3) := by decide +kernel
theorem dL_law_998 : decode cL_law 998 = .ok (.aload_n 2, 1) := by decide +kernel
theorem dL_law_999 : decode cL_law 999 = .ok (.aload_n 0, 1) := by decide +kernel
theorem dL_law_1000 : decode cL_law 1000 = .ok (.iload 4, 2) := by decide +kernel
theorem dL_law_1002 : decode cL_law 1002 = .ok (.iconst 1, 1) := by decide +kernel
theorem dL_law_1003 : decode cL_law 1003 = .ok (.iadd, 1) := by decide +kernel
theorem dL_law_1004 : decode cL_law 1004 = .ok (.iaload, 1) := by decide +kernel
theorem dL_law_1005 : decode cL_law 1005 = .ok (.aload_n 0, 1) := by decide +kernel
theorem dL_law_1006 : decode cL_law 1006 = .ok (.iload 4, 2) := by decide +kernel
theorem dL_law_1008 : decode cL_law 1008 = .ok (.iconst 2, 1) := by decide +kernel
theorem dL_law_1009 : decode cL_law 1009 = .ok (.iadd, 1) := by decide +kernel
theorem dL_law_1010 : decode cL_law 1010 = .ok (.iaload, 1) := by decide +kernel
theorem dL_law_1011 : decode cL_law 1011 = .ok (.invokevirtual 125, 3) := by decide +kernel
theorem dL_law_1014 : decode cL_law 1014 = .ok (.if_icmp .eq 379, 3) := by decide +kernel
theorem dL_law_1017 : decode cL_law 1017 = .ok (.iconst 0, 1) := by decide +kernel
theorem dL_law_1018 : decode cL_law 1018 = .ok (.ireturn, 1) := by decide +kernel
theorem dL_law_1019 : decode cL_law 1019 = .ok (.aload_n 1, 1) := by decide +kernel
theorem dL_law_1020 : decode cL_law 1020 = .ok (.aload_n 0, 1) := by decide +kernel
theorem dL_law_1021 : decode cL_law 1021 = .ok (.iload 4, 2) := by decide +kernel
theorem dL_law_1023 : decode cL_law 1023 = .ok (.iconst 1, 1) := by decide +kernel
theorem dL_law_1024 : decode cL_law 1024 = .ok (.iadd, 1) := by decide +kernel
theorem dL_law_1025 : decode cL_law 1025 = .ok (.iaload, 1) := by decide +kernel
theorem dL_law_1026 : decode cL_law 1026 = .ok (.aload_n 0, 1) := by decide +kernel
theorem dL_law_1027 : decode cL_law 1027 = .ok (.iload 4, 2) := by decide +kernel
theorem dL_law_1029 : decode cL_law 1029 = .ok (.iconst 2, 1) := by decide +kernel
theorem dL_law_1030 : decode cL_law 1030 = .ok (.iadd, 1) := by decide +kernel
theorem dL_law_1031 : decode cL_law 1031 = .ok (.iaload, 1) := by decide +kernel
theorem dL_law_1032 : decode cL_law 1032 = .ok (.invokevirtual 126, 3) := by decide +kernel
theorem dL_law_1035 : decode cL_law 1035 = .ok (.aload_n 2, 1) := by decide +kernel
theorem dL_law_1036 : decode cL_law 1036 = .ok (.aload_n 0, 1) := by decide +kernel
theorem dL_law_1037 : decode cL_law 1037 = .ok (.iload 4, 2) := by decide +kernel
theorem dL_law_1039 : decode cL_law 1039 = .ok (.iconst 1, 1) := by decide +kernel
theorem dL_law_1040 : decode cL_law 1040 = .ok (.iadd, 1) := by decide +kernel
theorem dL_law_1041 : decode cL_law 1041 = .ok (.iaload, 1) := by decide +kernel
theorem dL_law_1042 : decode cL_law 1042 = .ok (.aload_n 0, 1) := by decide +kernel
theorem dL_law_1043 : decode cL_law 1043 = .ok (.iload 4, 2) := by decide +kernel
theorem dL_law_1045 : decode cL_law 1045 = .ok (.iconst 2, 1) := by decide +kernel
theorem dL_law_1046 : decode cL_law 1046 = .ok (.iadd, 1) := by decide +kernel
theorem dL_law_1047 : decode cL_law 1047 = .ok (.iaload, 1) := by decide +kernel
theorem dL_law_1048 : decode cL_law 1048 = .ok (.invokevirtual 129, 3) := by decide +kernel
theorem dL_law_1051 : decode cL_law 1051 = .ok (.if_icmp .eq 342, 3) := by decide +kernel
theorem dL_law_1054 : decode cL_law 1054 = .ok (.iconst 0, 1) := by decide +kernel
theorem dL_law_1055 : decode cL_law 1055 = .ok (.ireturn, 1) := by decide +kernel
theorem dL_law_1056 : decode cL_law 1056 = .ok (.aload_n 1, 1) := by decide +kernel
theorem dL_law_1057 : decode cL_law 1057 = .ok (.aload_n 0, 1) := by decide +kernel
theorem dL_law_1058 : decode cL_law 1058 = .ok (.iload 4, 2) := by decide +kernel
theorem dL_law_1060 : decode cL_law 1060 = .ok (.iconst 1, 1) := by decide +kernel
theorem dL_law_1061 : decode cL_law 1061 = .ok (.iadd, 1) := by decide +kernel
theorem dL_law_1062 : decode cL_law 1062 = .ok (.iaload, 1) := by decide +kernel
theorem dL_law_1063 : decode cL_law 1063 = .ok (.invokevirtual 130, 3) := by decide +kernel
theorem dL_law_1066 : decode cL_law 1066 = .ok (.aload_n 2, 1) := by decide +kernel
theorem dL_law_1067 : decode cL_law 1067 = .ok (.aload_n 0, 1) := by decide +kernel
theorem dL_law_1068 : decode cL_law 1068 = .ok (.iload 4, 2) := by decide +kernel
theorem dL_law_1070 : decode cL_law 1070 = .ok (.iconst 1, 1) := by decide +kernel
theorem dL_law_1071 : decode cL_law 1071 = .ok (.iadd, 1) := by decide +kernel
theorem dL_law_1072 : decode cL_law 1072 = .ok (.iaload, 1) := by decide +kernel
theorem dL_law_1073 : decode cL_law 1073 = .ok (.invokevirtual 133, 3) := by decide +kernel
theorem dL_law_1076 : decode cL_law 1076 = .ok (.if_icmp .eq 317, 3) := by decide +kernel
theorem dL_law_1079 : decode cL_law 1079 = .ok (.iconst 0, 1) := by decide +kernel
theorem dL_law_1080 : decode cL_law 1080 = .ok (.ireturn, 1) := by decide +kernel
theorem dL_law_1081 : decode cL_law 1081 = .ok (.aload_n 1, 1) := by decide +kernel
theorem dL_law_1082 : decode cL_law 1082 = .ok (.invokevirtual 134, 3) := by decide +kernel
theorem dL_law_1085 : decode cL_law 1085 = .ok (.aload_n 2, 1) := by decide +kernel
theorem dL_law_1086 : decode cL_law 1086 = .ok (.invokevirtual 137, 3) := by decide +kernel
theorem dL_law_1089 : decode cL_law 1089 = .ok (.if_icmp .eq 304, 3) := by decide +kernel
theorem dL_law_1092 : decode cL_law 1092 = .ok (.iconst 0, 1) := by decide +kernel
theorem dL_law_1093 : decode cL_law 1093 = .ok (.ireturn, 1) := by decide +kernel
theorem dL_law_1094 : decode cL_law 1094 = .ok (.aload_n 1, 1) := by decide +kernel
theorem dL_law_1095 : decode cL_law 1095 = .ok (.aload_n 0, 1) := by decide +kernel
theorem dL_law_1096 : decode cL_law 1096 = .ok (.iload 4, 2) := by decide +kernel
theorem dL_law_1098 : decode cL_law 1098 = .ok (.iconst 1, 1) := by decide +kernel
theorem dL_law_1099 : decode cL_law 1099 = .ok (.iadd, 1) := by decide +kernel
theorem dL_law_1100 : decode cL_law 1100 = .ok (.iaload, 1) := by decide +kernel
theorem dL_law_1101 : decode cL_law 1101 = .ok (.aload_n 0, 1) := by decide +kernel
theorem dL_law_1102 : decode cL_law 1102 = .ok (.iload 4, 2) := by decide +kernel
theorem dL_law_1104 : decode cL_law 1104 = .ok (.iconst 2, 1) := by decide +kernel
theorem dL_law_1105 : decode cL_law 1105 = .ok (.iadd, 1) := by decide +kernel
theorem dL_law_1106 : decode cL_law 1106 = .ok (.iaload, 1) := by decide +kernel
theorem dL_law_1107 : decode cL_law 1107 = .ok (.invokevirtual 138, 3) := by decide +kernel
theorem dL_law_1110 : decode cL_law 1110 = .ok (.aload_n 2, 1) := by decide +kernel
theorem dL_law_1111 : decode cL_law 1111 = .ok (.aload_n 0, 1) := by decide +kernel
theorem dL_law_1112 : decode cL_law 1112 = .ok (.iload 4, 2) := by decide +kernel
theorem dL_law_1114 : decode cL_law 1114 = .ok (.iconst 1, 1) := by decide +kernel
theorem dL_law_1115 : decode cL_law 1115 = .ok (.iadd, 1) := by decide +kernel
theorem dL_law_1116 : decode cL_law 1116 = .ok (.iaload, 1) := by decide +kernel
theorem dL_law_1117 : decode cL_law 1117 = .ok (.aload_n 0, 1) := by decide +kernel
theorem dL_law_1118 : decode cL_law 1118 = .ok (.iload 4, 2) := by decide +kernel
theorem dL_law_1120 : decode cL_law 1120 = .ok (.iconst 2, 1) := by decide +kernel
theorem dL_law_1121 : decode cL_law 1121 = .ok (.iadd, 1) := by decide +kernel
theorem dL_law_1122 : decode cL_law 1122 = .ok (.iaload, 1) := by decide +kernel
theorem dL_law_1123 : decode cL_law 1123 = .ok (.invokevirtual 141, 3) := by decide +kernel
theorem dL_law_1126 : decode cL_law 1126 = .ok (.if_icmp .eq 267, 3) := by decide +kernel
theorem dL_law_1129 : decode cL_law 1129 = .ok (.iconst 0, 1) := by decide +kernel
theorem dL_law_1130 : decode cL_law 1130 = .ok (.ireturn, 1) := by decide +kernel
theorem dL_law_1131 : decode cL_law 1131 = .ok (.aload_n 1, 1) := by decide +kernel
theorem dL_law_1132 : decode cL_law 1132 = .ok (.aload_n 0, 1) := by decide +kernel
theorem dL_law_1133 : decode cL_law 1133 = .ok (.iload 4, 2) := by decide +kernel
theorem dL_law_1135 : decode cL_law 1135 = .ok (.iconst 1, 1) := by decide +kernel
theorem dL_law_1136 : decode cL_law 1136 = .ok (.iadd, 1) := by decide +kernel
theorem dL_law_1137 : decode cL_law 1137 = .ok (.iaload, 1) := by decide +kernel
theorem dL_law_1138 : decode cL_law 1138 = .ok (.aload_n 3, 1) := by decide +kernel
theorem dL_law_1139 : decode cL_law 1139 = .ok (.invokestatic 142, 3) := by decide +kernel
theorem dL_law_1142 : decode cL_law 1142 = .ok (.istore 5, 2) := by decide +kernel
theorem dL_law_1144 : decode cL_law 1144 = .ok (.aload_n 2, 1) := by decide +kernel
theorem dL_law_1145 : decode cL_law 1145 = .ok (.aload_n 0, 1) := by decide +kernel
theorem dL_law_1146 : decode cL_law 1146 = .ok (.iload 4, 2) := by decide +kernel
theorem dL_law_1148 : decode cL_law 1148 = .ok (.iconst 1, 1) := by decide +kernel
theorem dL_law_1149 : decode cL_law 1149 = .ok (.iadd, 1) := by decide +kernel
theorem dL_law_1150 : decode cL_law 1150 = .ok (.iaload, 1) := by decide +kernel
theorem dL_law_1151 : decode cL_law 1151 = .ok (.invokevirtual 147, 3) := by decide +kernel
theorem dL_law_1154 : decode cL_law 1154 = .ok (.istore 6, 2) := by decide +kernel
theorem dL_law_1156 : decode cL_law 1156 = .ok (.aload_n 2, 1) := by decide +kernel
theorem dL_law_1157 : decode cL_law 1157 = .ok (.invokevirtual 148, 3) := by decide +kernel
theorem dL_law_1160 : decode cL_law 1160 = .ok (.iload 5, 2) := by decide +kernel
theorem dL_law_1162 : decode cL_law 1162 = .ok (.if_icmp .eq 5, 3) := by decide +kernel
theorem dL_law_1165 : decode cL_law 1165 = .ok (.iconst 0, 1) := by decide +kernel
theorem dL_law_1166 : decode cL_law 1166 = .ok (.ireturn, 1) := by decide +kernel
theorem dL_law_1167 : decode cL_law 1167 = .ok (.iload 5, 2) := by decide +kernel
theorem dL_law_1169 : decode cL_law 1169 = .ok (.ifCond .ne 15, 3) := by decide +kernel
theorem dL_law_1172 : decode cL_law 1172 = .ok (.aload_n 3, 1) := by decide +kernel
theorem dL_law_1173 : decode cL_law 1173 = .ok (.iconst 0, 1) := by decide +kernel
theorem dL_law_1174 : decode cL_law 1174 = .ok (.laload, 1) := by decide +kernel
theorem dL_law_1175 : decode cL_law 1175 = .ok (.iload 6, 2) := by decide +kernel
theorem dL_law_1177 : decode cL_law 1177 = .ok (.i2l, 1) := by decide +kernel
theorem dL_law_1178 : decode cL_law 1178 = .ok (.lcmp, 1) := by decide +kernel
theorem dL_law_1179 : decode cL_law 1179 = .ok (.ifCond .eq 5, 3) := by decide +kernel
theorem dL_law_1182 : decode cL_law 1182 = .ok (.iconst 0, 1) := by decide +kernel
theorem dL_law_1183 : decode cL_law 1183 = .ok (.ireturn, 1) := by decide +kernel
theorem dL_law_1184 : decode cL_law 1184 = .ok (.goto 209, 3) := by decide +kernel
theorem dL_law_1187 : decode cL_law 1187 = .ok (.aload_n 1, 1) := by decide +kernel
theorem dL_law_1188 : decode cL_law 1188 = .ok (.aload_n 0, 1) := by decide +kernel
theorem dL_law_1189 : decode cL_law 1189 = .ok (.iload 4, 2) := by decide +kernel
theorem dL_law_1191 : decode cL_law 1191 = .ok (.iconst 1, 1) := by decide +kernel
theorem dL_law_1192 : decode cL_law 1192 = .ok (.iadd, 1) := by decide +kernel
theorem dL_law_1193 : decode cL_law 1193 = .ok (.iaload, 1) := by decide +kernel
theorem dL_law_1194 : decode cL_law 1194 = .ok (.aload_n 0, 1) := by decide +kernel
theorem dL_law_1195 : decode cL_law 1195 = .ok (.iload 4, 2) := by decide +kernel
theorem dL_law_1197 : decode cL_law 1197 = .ok (.iconst 2, 1) := by decide +kernel
theorem dL_law_1198 : decode cL_law 1198 = .ok (.iadd, 1) := by decide +kernel
theorem dL_law_1199 : decode cL_law 1199 = .ok (.iaload, 1) := by decide +kernel
theorem dL_law_1200 : decode cL_law 1200 = .ok (.ifCond .eq 7, 3) := by decide +kernel
theorem dL_law_1203 : decode cL_law 1203 = .ok (.iconst 1, 1) := by decide +kernel
theorem dL_law_1204 : decode cL_law 1204 = .ok (.goto 4, 3) := by decide +kernel
theorem dL_law_1207 : decode cL_law 1207 = .ok (.iconst 0, 1) := by decide +kernel
theorem dL_law_1208 : decode cL_law 1208 = .ok (.invokevirtual 151, 3) := by decide +kernel
theorem dL_law_1211 : decode cL_law 1211 = .ok (.aload_n 2, 1) := by decide +kernel
theorem dL_law_1212 : decode cL_law 1212 = .ok (.aload_n 0, 1) := by decide +kernel
theorem dL_law_1213 : decode cL_law 1213 = .ok (.iload 4, 2) := by decide +kernel
theorem dL_law_1215 : decode cL_law 1215 = .ok (.iconst 1, 1) := by decide +kernel
theorem dL_law_1216 : decode cL_law 1216 = .ok (.iadd, 1) := by decide +kernel
theorem dL_law_1217 : decode cL_law 1217 = .ok (.iaload, 1) := by decide +kernel
theorem dL_law_1218 : decode cL_law 1218 = .ok (.aload_n 0, 1) := by decide +kernel
theorem dL_law_1219 : decode cL_law 1219 = .ok (.iload 4, 2) := by decide +kernel
theorem dL_law_1221 : decode cL_law 1221 = .ok (.iconst 2, 1) := by decide +kernel
theorem dL_law_1222 : decode cL_law 1222 = .ok (.iadd, 1) := by decide +kernel
theorem dL_law_1223 : decode cL_law 1223 = .ok (.iaload, 1) := by decide +kernel
theorem dL_law_1224 : decode cL_law 1224 = .ok (.ifCond .eq 7, 3) := by decide +kernel
theorem dL_law_1227 : decode cL_law 1227 = .ok (.iconst 1, 1) := by decide +kernel
theorem dL_law_1228 : decode cL_law 1228 = .ok (.goto 4, 3) := by decide +kernel
theorem dL_law_1231 : decode cL_law 1231 = .ok (.iconst 0, 1) := by decide +kernel
theorem dL_law_1232 : decode cL_law 1232 = .ok (.invokevirtual 155, 3) := by decide +kernel
theorem dL_law_1235 : decode cL_law 1235 = .ok (.if_icmp .eq 158, 3) := by decide +kernel
theorem dL_law_1238 : decode cL_law 1238 = .ok (.iconst 0, 1) := by decide +kernel
theorem dL_law_1239 : decode cL_law 1239 = .ok (.ireturn, 1) := by decide +kernel
theorem dL_law_1240 : decode cL_law 1240 = .ok (.aload_n 1, 1) := by decide +kernel
theorem dL_law_1241 : decode cL_law 1241 = .ok (.invokevirtual 156, 3) := by decide +kernel
theorem dL_law_1244 : decode cL_law 1244 = .ok (.aload_n 2, 1) := by decide +kernel
theorem dL_law_1245 : decode cL_law 1245 = .ok (.invokevirtual 159, 3) := by decide +kernel
theorem dL_law_1248 : decode cL_law 1248 = .ok (.if_icmp .eq 145, 3) := by decide +kernel
theorem dL_law_1251 : decode cL_law 1251 = .ok (.iconst 0, 1) := by decide +kernel
theorem dL_law_1252 : decode cL_law 1252 = .ok (.ireturn, 1) := by decide +kernel
theorem dL_law_1253 : decode cL_law 1253 = .ok (.aload_n 1, 1) := by decide +kernel
theorem dL_law_1254 : decode cL_law 1254 = .ok (.invokevirtual 160, 3) := by decide +kernel
theorem dL_law_1257 : decode cL_law 1257 = .ok (.aload_n 2, 1) := by decide +kernel
theorem dL_law_1258 : decode cL_law 1258 = .ok (.invokevirtual 163, 3) := by decide +kernel
theorem dL_law_1261 : decode cL_law 1261 = .ok (.if_icmp .eq 132, 3) := by decide +kernel
theorem dL_law_1264 : decode cL_law 1264 = .ok (.iconst 0, 1) := by decide +kernel
theorem dL_law_1265 : decode cL_law 1265 = .ok (.ireturn, 1) := by decide +kernel
theorem dL_law_1266 : decode cL_law 1266 = .ok (.aload_n 1, 1) := by decide +kernel
theorem dL_law_1267 : decode cL_law 1267 = .ok (.aload_n 0, 1) := by decide +kernel
theorem dL_law_1268 : decode cL_law 1268 = .ok (.iload 4, 2) := by decide +kernel
theorem dL_law_1270 : decode cL_law 1270 = .ok (.iconst 1, 1) := by decide +kernel
theorem dL_law_1271 : decode cL_law 1271 = .ok (.iadd, 1) := by decide +kernel
theorem dL_law_1272 : decode cL_law 1272 = .ok (.iaload, 1) := by decide +kernel
theorem dL_law_1273 : decode cL_law 1273 = .ok (.aload_n 0, 1) := by decide +kernel
theorem dL_law_1274 : decode cL_law 1274 = .ok (.iload 4, 2) := by decide +kernel
theorem dL_law_1276 : decode cL_law 1276 = .ok (.iconst 2, 1) := by decide +kernel
theorem dL_law_1277 : decode cL_law 1277 = .ok (.iadd, 1) := by decide +kernel
theorem dL_law_1278 : decode cL_law 1278 = .ok (.iaload, 1) := by decide +kernel
theorem dL_law_1279 : decode cL_law 1279 = .ok (.aload_n 0, 1) := by decide +kernel
theorem dL_law_1280 : decode cL_law 1280 = .ok (.iload 4, 2) := by decide +kernel
theorem dL_law_1282 : decode cL_law 1282 = .ok (.iconst 3, 1) := by decide +kernel
theorem dL_law_1283 : decode cL_law 1283 = .ok (.iadd, 1) := by decide +kernel
theorem dL_law_1284 : decode cL_law 1284 = .ok (.iaload, 1) := by decide +kernel
theorem dL_law_1285 : decode cL_law 1285 = .ok (.invokevirtual 164, 3) := by decide +kernel
theorem dL_law_1288 : decode cL_law 1288 = .ok (.aload_n 2, 1) := by decide +kernel
theorem dL_law_1289 : decode cL_law 1289 = .ok (.aload_n 0, 1) := by decide +kernel
theorem dL_law_1290 : decode cL_law 1290 = .ok (.iload 4, 2) := by decide +kernel
theorem dL_law_1292 : decode cL_law 1292 = .ok (.iconst 1, 1) := by decide +kernel
theorem dL_law_1293 : decode cL_law 1293 = .ok (.iadd, 1) := by decide +kernel
theorem dL_law_1294 : decode cL_law 1294 = .ok (.iaload, 1) := by decide +kernel
theorem dL_law_1295 : decode cL_law 1295 = .ok (.aload_n 0, 1) := by decide +kernel
theorem dL_law_1296 : decode cL_law 1296 = .ok (.iload 4, 2) := by decide +kernel
theorem dL_law_1298 : decode cL_law 1298 = .ok (.iconst 2, 1) := by decide +kernel
theorem dL_law_1299 : decode cL_law 1299 = .ok (.iadd, 1) := by decide +kernel
theorem dL_law_1300 : decode cL_law 1300 = .ok (.iaload, 1) := by decide +kernel
theorem dL_law_1301 : decode cL_law 1301 = .ok (.aload_n 0, 1) := by decide +kernel
theorem dL_law_1302 : decode cL_law 1302 = .ok (.iload 4, 2) := by decide +kernel
theorem dL_law_1304 : decode cL_law 1304 = .ok (.iconst 3, 1) := by decide +kernel
theorem dL_law_1305 : decode cL_law 1305 = .ok (.iadd, 1) := by decide +kernel
theorem dL_law_1306 : decode cL_law 1306 = .ok (.iaload, 1) := by decide +kernel
theorem dL_law_1307 : decode cL_law 1307 = .ok (.invokevirtual 167, 3) := by decide +kernel
theorem dL_law_1310 : decode cL_law 1310 = .ok (.if_icmp .eq 83, 3) := by decide +kernel
theorem dL_law_1313 : decode cL_law 1313 = .ok (.iconst 0, 1) := by decide +kernel
theorem dL_law_1314 : decode cL_law 1314 = .ok (.ireturn, 1) := by decide +kernel
theorem dL_law_1315 : decode cL_law 1315 = .ok (.aload_n 1, 1) := by decide +kernel
theorem dL_law_1316 : decode cL_law 1316 = .ok (.aload_n 0, 1) := by decide +kernel
theorem dL_law_1317 : decode cL_law 1317 = .ok (.iload 4, 2) := by decide +kernel
theorem dL_law_1319 : decode cL_law 1319 = .ok (.iconst 1, 1) := by decide +kernel
theorem dL_law_1320 : decode cL_law 1320 = .ok (.iadd, 1) := by decide +kernel
theorem dL_law_1321 : decode cL_law 1321 = .ok (.iaload, 1) := by decide +kernel
theorem dL_law_1322 : decode cL_law 1322 = .ok (.aload_n 0, 1) := by decide +kernel
theorem dL_law_1323 : decode cL_law 1323 = .ok (.iload 4, 2) := by decide +kernel
theorem dL_law_1325 : decode cL_law 1325 = .ok (.iconst 2, 1) := by decide +kernel
theorem dL_law_1326 : decode cL_law 1326 = .ok (.iadd, 1) := by decide +kernel
theorem dL_law_1327 : decode cL_law 1327 = .ok (.iaload, 1) := by decide +kernel
theorem dL_law_1328 : decode cL_law 1328 = .ok (.ifCond .eq 7, 3) := by decide +kernel
theorem dL_law_1331 : decode cL_law 1331 = .ok (.iconst 1, 1) := by decide +kernel
theorem dL_law_1332 : decode cL_law 1332 = .ok (.goto 4, 3) := by decide +kernel
theorem dL_law_1335 : decode cL_law 1335 = .ok (.iconst 0, 1) := by decide +kernel
theorem dL_law_1336 : decode cL_law 1336 = .ok (.invokevirtual 168, 3) := by decide +kernel
theorem dL_law_1339 : decode cL_law 1339 = .ok (.aload_n 2, 1) := by decide +kernel
theorem dL_law_1340 : decode cL_law 1340 = .ok (.aload_n 0, 1) := by decide +kernel
theorem dL_law_1341 : decode cL_law 1341 = .ok (.iload 4, 2) := by decide +kernel
theorem dL_law_1343 : decode cL_law 1343 = .ok (.iconst 1, 1) := by decide +kernel
theorem dL_law_1344 : decode cL_law 1344 = .ok (.iadd, 1) := by decide +kernel
theorem dL_law_1345 : decode cL_law 1345 = .ok (.iaload, 1) := by decide +kernel
theorem dL_law_1346 : decode cL_law 1346 = .ok (.aload_n 0, 1) := by decide +kernel
theorem dL_law_1347 : decode cL_law 1347 = .ok (.iload 4, 2) := by decide +kernel
theorem dL_law_1349 : decode cL_law 1349 = .ok (.iconst 2, 1) := by decide +kernel
theorem dL_law_1350 : decode cL_law 1350 = .ok (.iadd, 1) := by decide +kernel
theorem dL_law_1351 : decode cL_law 1351 = .ok (.iaload, 1) := by decide +kernel
theorem dL_law_1352 : decode cL_law 1352 = .ok (.ifCond .eq 7, 3) := by decide +kernel
theorem dL_law_1355 : decode cL_law 1355 = .ok (.iconst 1, 1) := by decide +kernel
theorem dL_law_1356 : decode cL_law 1356 = .ok (.goto 4, 3) := by decide +kernel
theorem dL_law_1359 : decode cL_law 1359 = .ok (.iconst 0, 1) := by decide +kernel
theorem dL_law_1360 : decode cL_law 1360 = .ok (.invokevirtual 171, 3) := by decide +kernel
theorem dL_law_1363 : decode cL_law 1363 = .ok (.if_icmp .eq 30, 3) := by decide +kernel
theorem dL_law_1366 : decode cL_law 1366 = .ok (.iconst 0, 1) := by decide +kernel
theorem dL_law_1367 : decode cL_law 1367 = .ok (.ireturn, 1) := by decide +kernel
theorem dL_law_1368 : decode cL_law 1368 = .ok (.aload_n 1, 1) := by decide +kernel
theorem dL_law_1369 : decode cL_law 1369 = .ok (.aload_n 0, 1) := by decide +kernel
theorem dL_law_1370 : decode cL_law 1370 = .ok (.iload 4, 2) := by decide +kernel
theorem dL_law_1372 : decode cL_law 1372 = .ok (.iconst 1, 1) := by decide +kernel
theorem dL_law_1373 : decode cL_law 1373 = .ok (.iadd, 1) := by decide +kernel
theorem dL_law_1374 : decode cL_law 1374 = .ok (.iaload, 1) := by decide +kernel
theorem dL_law_1375 : decode cL_law 1375 = .ok (.invokevirtual 172, 3) := by decide +kernel
theorem dL_law_1378 : decode cL_law 1378 = .ok (.aload_n 2, 1) := by decide +kernel
theorem dL_law_1379 : decode cL_law 1379 = .ok (.aload_n 0, 1) := by decide +kernel
theorem dL_law_1380 : decode cL_law 1380 = .ok (.iload 4, 2) := by decide +kernel
theorem dL_law_1382 : decode cL_law 1382 = .ok (.iconst 1, 1) := by decide +kernel
theorem dL_law_1383 : decode cL_law 1383 = .ok (.iadd, 1) := by decide +kernel
theorem dL_law_1384 : decode cL_law 1384 = .ok (.iaload, 1) := by decide +kernel
theorem dL_law_1385 : decode cL_law 1385 = .ok (.invokevirtual 175, 3) := by decide +kernel
theorem dL_law_1388 : decode cL_law 1388 = .ok (.if_icmp .eq 5, 3) := by decide +kernel
theorem dL_law_1391 : decode cL_law 1391 = .ok (.iconst 0, 1) := by decide +kernel
theorem dL_law_1392 : decode cL_law 1392 = .ok (.ireturn, 1) := by decide +kernel
theorem dL_law_1393 : decode cL_law 1393 = .ok (.iinc 4 7, 3) := by decide +kernel
theorem dL_law_1396 : decode cL_law 1396 = .ok (.goto (-1373), 3) := by decide +kernel
theorem dL_law_1399 : decode cL_law 1399 = .ok (.iconst 1, 1) := by decide +kernel
theorem dL_law_1400 : decode cL_law 1400 = .ok (.ireturn, 1) := by decide +kernel
