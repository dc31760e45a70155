theorem dX0_init_0 : decode cX0_init 0 = .ok (.aload_n 0, 1) := by decide +kernel
theorem dX0_init_1 : decode cX0_init 1 = .ok (.invokespecial 3, 3) := by decide +kernel
theorem dX0_init_4 : decode cX0_init 4 = .ok (.aload_n 0, 1) := by decide +kernel
theorem dX0_init_5 : decode cX0_init 5 = .ok (.aload_n 1, 1) := by decide +kernel
theorem dX0_init_6 : decode cX0_init 6 = .ok (.putfield 9, 3) := by decide +kernel
theorem dX0_init_9 : decode cX0_init 9 = .ok (.aload_n 0, 1) := by decide +kernel
theorem dX0_init_10 : decode cX0_init 10 = .ok (.aload_n 2, 1) := by decide +kernel
theorem dX0_init_11 : decode cX0_init 11 = .ok (.putfield 15, 3) := by decide +kernel
theorem dX0_init_14 : decode cX0_init 14 = .ok (.return_, 1) := by decide +kernel
theorem dX0_fill_0 : decode cX0_fill 0 = .ok (.aload_n 0, 1) := by decide +kernel
theorem dX0_fill_1 : decode cX0_fill 1 = .ok (.aload_n 1, 1) := by decide +kernel
theorem dX0_fill_2 : decode cX0_fill 2 = .ok (.putfield 15, 3) := by decide +kernel
theorem dX0_fill_5 : decode cX0_fill 5 = .ok (.aload_n 0, 1) := by decide +kernel
theorem dX0_fill_6 : decode cX0_fill 6 = .ok (.getfield 15, 3) := by decide +kernel
theorem dX0_fill_9 : decode cX0_fill 9 = .ok (.invokevirtual 19, 3) := by decide +kernel
theorem dX0_fill_12 : decode cX0_fill 12 = .ok (.aload_n 0, 1) := by decide +kernel
theorem dX0_fill_13 : decode cX0_fill 13 = .ok (.getfield 9, 3) := by decide +kernel
theorem dX0_fill_16 : decode cX0_fill 16 = .ok (.invokevirtual 24, 3) := by decide +kernel
theorem dX0_fill_19 : decode cX0_fill 19 = .ok (.iconst 0, 1) := by decide +kernel
theorem dX0_fill_20 : decode cX0_fill 20 = .ok (.istore_n 2, 1) := by decide +kernel
theorem dX0_fill_21 : decode cX0_fill 21 = .ok (.iload_n 2, 1) := by decide +kernel
theorem dX0_fill_22 : decode cX0_fill 22 = .ok (.sipush 1000, 3) := by decide +kernel
theorem dX0_fill_25 : decode cX0_fill 25 = .ok (.if_icmp .ge 113, 3) := by decide +kernel
theorem dX0_fill_28 : decode cX0_fill 28 = .ok (.aload_n 0, 1) := by decide +kernel
theorem dX0_fill_29 : decode cX0_fill 29 = .ok (.getfield 9, 3) := by decide +kernel
theorem dX0_fill_32 : decode cX0_fill 32 = .ok (.getfield 29, 3) := by decide +kernel
theorem dX0_fill_35 : decode cX0_fill 35 = .ok (.ifCond .ne 103, 3) := by decide +kernel
theorem dX0_fill_38 : decode cX0_fill 38 = .ok (.aload_n 0, 1) := by decide +kernel
theorem dX0_fill_39 : decode cX0_fill 39 = .ok (.getfield 9, 3) := by decide +kernel
theorem dX0_fill_42 : decode cX0_fill 42 = .ok (.getfield 33, 3) := by decide +kernel
theorem dX0_fill_45 : decode cX0_fill 45 = .ok (.ifCond .eq 93, 3) := by decide +kernel
theorem dX0_fill_48 : decode cX0_fill 48 = .ok (.aload_n 0, 1) := by decide +kernel
theorem dX0_fill_49 : decode cX0_fill 49 = .ok (.getfield 9, 3) := by decide +kernel
theorem dX0_fill_52 : decode cX0_fill 52 = .ok (.ldc 36, 2) := by decide +kernel
theorem dX0_fill_54 : decode cX0_fill 54 = .ok (.invokevirtual 38, 3) := by decide +kernel
theorem dX0_fill_57 : decode cX0_fill 57 = .ok (.ifCond .eq 10, 3) := by decide +kernel
theorem dX0_fill_60 : decode cX0_fill 60 = .ok (.aload_n 0, 1) := by decide +kernel
theorem dX0_fill_61 : decode cX0_fill 61 = .ok (.invokevirtual 42, 3) := by decide +kernel
theorem dX0_fill_64 : decode cX0_fill 64 = .ok (.goto 68, 3) := by decide +kernel
theorem dX0_fill_67 : decode cX0_fill 67 = .ok (.aload_n 0, 1) := by decide +kernel
theorem dX0_fill_68 : decode cX0_fill 68 = .ok (.getfield 9, 3) := by decide +kernel
theorem dX0_fill_71 : decode cX0_fill 71 = .ok (.ldc 45, 2) := by decide +kernel
theorem dX0_fill_73 : decode cX0_fill 73 = .ok (.invokevirtual 38, 3) := by decide +kernel
theorem dX0_fill_76 : decode cX0_fill 76 = .ok (.ifCond .eq 10, 3) := by decide +kernel
theorem dX0_fill_79 : decode cX0_fill 79 = .ok (.aload_n 0, 1) := by decide +kernel
theorem dX0_fill_80 : decode cX0_fill 80 = .ok (.invokevirtual 47, 3) := by decide +kernel
theorem dX0_fill_83 : decode cX0_fill 83 = .ok (.goto 49, 3) := by decide +kernel
theorem dX0_fill_86 : decode cX0_fill 86 = .ok (.aload_n 0, 1) := by decide +kernel
theorem dX0_fill_87 : decode cX0_fill 87 = .ok (.getfield 9, 3) := by decide +kernel
theorem dX0_fill_90 : decode cX0_fill 90 = .ok (.ldc 50, 2) := by decide +kernel
theorem dX0_fill_92 : decode cX0_fill 92 = .ok (.invokevirtual 38, 3) := by decide +kernel
theorem dX0_fill_95 : decode cX0_fill 95 = .ok (.ifCond .eq 10, 3) := by decide +kernel
theorem dX0_fill_98 : decode cX0_fill 98 = .ok (.aload_n 0, 1) := by decide +kernel
theorem dX0_fill_99 : decode cX0_fill 99 = .ok (.invokevirtual 52, 3) := by decide +kernel
theorem dX0_fill_102 : decode cX0_fill 102 = .ok (.goto 30, 3) := by decide +kernel
theorem dX0_fill_105 : decode cX0_fill 105 = .ok (.aload_n 0, 1) := by decide +kernel
theorem dX0_fill_106 : decode cX0_fill 106 = .ok (.getfield 9, 3) := by decide +kernel
theorem dX0_fill_109 : decode cX0_fill 109 = .ok (.ldc 55, 2) := by decide +kernel
theorem dX0_fill_111 : decode cX0_fill 111 = .ok (.invokevirtual 38, 3) := by decide +kernel
theorem dX0_fill_114 : decode cX0_fill 114 = .ok (.ifCond .eq 10, 3) := by decide +kernel
theorem dX0_fill_117 : decode cX0_fill 117 = .ok (.aload_n 0, 1) := by decide +kernel
theorem dX0_fill_118 : decode cX0_fill 118 = .ok (.invokevirtual 57, 3) := by decide +kernel
theorem dX0_fill_121 : decode cX0_fill 121 = .ok (.goto 11, 3) := by decide +kernel
theorem dX0_fill_124 : decode cX0_fill 124 = .ok (.aload_n 0, 1) := by decide +kernel
theorem dX0_fill_125 : decode cX0_fill 125 = .ok (.getfield 9, 3) := by decide +kernel
theorem dX0_fill_128 : decode cX0_fill 128 = .ok (.iconst 1, 1) := by decide +kernel
theorem dX0_fill_129 : decode cX0_fill 129 = .ok (.invokevirtual 60, 3) := by decide +kernel
theorem dX0_fill_132 : decode cX0_fill 132 = .ok (.iinc 2 1, 3) := by decide +kernel
theorem dX0_fill_135 : decode cX0_fill 135 = .ok (.goto (-114), 3) := by decide +kernel
theorem dX0_fill_138 : decode cX0_fill 138 = .ok (.aload_n 0, 1) := by decide +kernel
theorem dX0_fill_139 : decode cX0_fill 139 = .ok (.getfield 9, 3) := by decide +kernel
theorem dX0_fill_142 : decode cX0_fill 142 = .ok (.getfield 29, 3) := by decide +kernel
theorem dX0_fill_145 : decode cX0_fill 145 = .ok (.ireturn, 1) := by decide +kernel
theorem dX0_disksLine_0 : decode cX0_disksLine 0 = .ok (.aload_n 0, 1) := by decide +kernel
theorem dX0_disksLine_1 : decode cX0_disksLine 1 = .ok (.getfield 15, 3) := by decide +kernel
theorem dX0_disksLine_4 : decode cX0_disksLine 4 = .ok (.getfield 64, 3) := by decide +kernel
theorem dX0_disksLine_7 : decode cX0_disksLine 7 = .ok (.ifCond .eq 12, 3) := by decide +kernel
theorem dX0_disksLine_10 : decode cX0_disksLine 10 = .ok (.aload_n 0, 1) := by decide +kernel
theorem dX0_disksLine_11 : decode cX0_disksLine 11 = .ok (.getfield 9, 3) := by decide +kernel
theorem dX0_disksLine_14 : decode cX0_disksLine 14 = .ok (.iconst 3, 1) := by decide +kernel
theorem dX0_disksLine_15 : decode cX0_disksLine 15 = .ok (.invokevirtual 60, 3) := by decide +kernel
theorem dX0_disksLine_18 : decode cX0_disksLine 18 = .ok (.return_, 1) := by decide +kernel
theorem dX0_disksLine_19 : decode cX0_disksLine 19 = .ok (.aload_n 0, 1) := by decide +kernel
theorem dX0_disksLine_20 : decode cX0_disksLine 20 = .ok (.getfield 9, 3) := by decide +kernel
theorem dX0_disksLine_23 : decode cX0_disksLine 23 = .ok (.invokevirtual 66, 3) := by decide +kernel
theorem dX0_disksLine_26 : decode cX0_disksLine 26 = .ok (.aload_n 0, 1) := by decide +kernel
theorem dX0_disksLine_27 : decode cX0_disksLine 27 = .ok (.getfield 15, 3) := by decide +kernel
theorem dX0_disksLine_30 : decode cX0_disksLine 30 = .ok (.aload_n 0, 1) := by decide +kernel
theorem dX0_disksLine_31 : decode cX0_disksLine 31 = .ok (.getfield 9, 3) := by decide +kernel
theorem dX0_disksLine_34 : decode cX0_disksLine 34 = .ok (.iconst 2, 1) := by decide +kernel
theorem dX0_disksLine_35 : decode cX0_disksLine 35 = .ok (.bipush 13, 2) := by decide +kernel
theorem dX0_disksLine_37 : decode cX0_disksLine 37 = .ok (.invokevirtual 69, 3) := by decide +kernel
theorem dX0_disksLine_40 : decode cX0_disksLine 40 = .ok (.putfield 64, 3) := by decide +kernel
theorem dX0_disksLine_43 : decode cX0_disksLine 43 = .ok (.aload_n 0, 1) := by decide +kernel
theorem dX0_disksLine_44 : decode cX0_disksLine 44 = .ok (.getfield 9, 3) := by decide +kernel
theorem dX0_disksLine_47 : decode cX0_disksLine 47 = .ok (.bipush 59, 2) := by decide +kernel
theorem dX0_disksLine_49 : decode cX0_disksLine 49 = .ok (.invokevirtual 73, 3) := by decide +kernel
theorem dX0_disksLine_52 : decode cX0_disksLine 52 = .ok (.return_, 1) := by decide +kernel
theorem dX0_speedLine_0 : decode cX0_speedLine 0 = .ok (.aload_n 0, 1) := by decide +kernel
theorem dX0_speedLine_1 : decode cX0_speedLine 1 = .ok (.getfield 15, 3) := by decide +kernel
theorem dX0_speedLine_4 : decode cX0_speedLine 4 = .ok (.getfield 77, 3) := by decide +kernel
theorem dX0_speedLine_7 : decode cX0_speedLine 7 = .ok (.ifCond .eq 12, 3) := by decide +kernel
theorem dX0_speedLine_10 : decode cX0_speedLine 10 = .ok (.aload_n 0, 1) := by decide +kernel
theorem dX0_speedLine_11 : decode cX0_speedLine 11 = .ok (.getfield 9, 3) := by decide +kernel
theorem dX0_speedLine_14 : decode cX0_speedLine 14 = .ok (.iconst 3, 1) := by decide +kernel
theorem dX0_speedLine_15 : decode cX0_speedLine 15 = .ok (.invokevirtual 60, 3) := by decide +kernel
theorem dX0_speedLine_18 : decode cX0_speedLine 18 = .ok (.return_, 1) := by decide +kernel
theorem dX0_speedLine_19 : decode cX0_speedLine 19 = .ok (.aload_n 0, 1) := by decide +kernel
theorem dX0_speedLine_20 : decode cX0_speedLine 20 = .ok (.getfield 9, 3) := by decide +kernel
theorem dX0_speedLine_23 : decode cX0_speedLine 23 = .ok (.invokevirtual 66, 3) := by decide +kernel
theorem dX0_speedLine_26 : decode cX0_speedLine 26 = .ok (.aload_n 0, 1) := by decide +kernel
theorem dX0_speedLine_27 : decode cX0_speedLine 27 = .ok (.getfield 15, 3) := by decide +kernel
theorem dX0_speedLine_30 : decode cX0_speedLine 30 = .ok (.aload_n 0, 1) := by decide +kernel
theorem dX0_speedLine_31 : decode cX0_speedLine 31 = .ok (.getfield 9, 3) := by decide +kernel
theorem dX0_speedLine_34 : decode cX0_speedLine 34 = .ok (.iconst 1, 1) := by decide +kernel
theorem dX0_speedLine_35 : decode cX0_speedLine 35 = .ok (.bipush 9, 2) := by decide +kernel
theorem dX0_speedLine_37 : decode cX0_speedLine 37 = .ok (.invokevirtual 69, 3) := by decide +kernel
theorem dX0_speedLine_40 : decode cX0_speedLine 40 = .ok (.putfield 77, 3) := by decide +kernel
theorem dX0_speedLine_43 : decode cX0_speedLine 43 = .ok (.aload_n 0, 1) := by decide +kernel
theorem dX0_speedLine_44 : decode cX0_speedLine 44 = .ok (.getfield 9, 3) := by decide +kernel
theorem dX0_speedLine_47 : decode cX0_speedLine 47 = .ok (.bipush 59, 2) := by decide +kernel
theorem dX0_speedLine_49 : decode cX0_speedLine 49 = .ok (.invokevirtual 73, 3) := by decide +kernel
theorem dX0_speedLine_52 : decode cX0_speedLine 52 = .ok (.return_, 1) := by decide +kernel
theorem dX0_parityLine_0 : decode cX0_parityLine 0 = .ok (.aload_n 0, 1) := by decide +kernel
theorem dX0_parityLine_1 : decode cX0_parityLine 1 = .ok (.getfield 15, 3) := by decide +kernel
theorem dX0_parityLine_4 : decode cX0_parityLine 4 = .ok (.getfield 79, 3) := by decide +kernel
theorem dX0_parityLine_7 : decode cX0_parityLine 7 = .ok (.getfield 83, 3) := by decide +kernel
theorem dX0_parityLine_10 : decode cX0_parityLine 10 = .ok (.ifCond .eq 12, 3) := by decide +kernel
theorem dX0_parityLine_13 : decode cX0_parityLine 13 = .ok (.aload_n 0, 1) := by decide +kernel
theorem dX0_parityLine_14 : decode cX0_parityLine 14 = .ok (.getfield 9, 3) := by decide +kernel
theorem dX0_parityLine_17 : decode cX0_parityLine 17 = .ok (.iconst 3, 1) := by decide +kernel
theorem dX0_parityLine_18 : decode cX0_parityLine 18 = .ok (.invokevirtual 60, 3) := by decide +kernel
theorem dX0_parityLine_21 : decode cX0_parityLine 21 = .ok (.return_, 1) := by decide +kernel
theorem dX0_parityLine_22 : decode cX0_parityLine 22 = .ok (.aload_n 0, 1) := by decide +kernel
theorem dX0_parityLine_23 : decode cX0_parityLine 23 = .ok (.getfield 9, 3) := by decide +kernel
theorem dX0_parityLine_26 : decode cX0_parityLine 26 = .ok (.invokevirtual 66, 3) := by decide +kernel
theorem dX0_parityLine_29 : decode cX0_parityLine 29 = .ok (.aload_n 0, 1) := by decide +kernel
theorem dX0_parityLine_30 : decode cX0_parityLine 30 = .ok (.iconst 0, 1) := by decide +kernel
theorem dX0_parityLine_31 : decode cX0_parityLine 31 = .ok (.iconst 0, 1) := by decide +kernel
theorem dX0_parityLine_32 : decode cX0_parityLine 32 = .ok (.invokevirtual 88, 3) := by decide +kernel
theorem dX0_parityLine_35 : decode cX0_parityLine 35 = .ok (.aload_n 0, 1) := by decide +kernel
theorem dX0_parityLine_36 : decode cX0_parityLine 36 = .ok (.getfield 9, 3) := by decide +kernel
theorem dX0_parityLine_39 : decode cX0_parityLine 39 = .ok (.bipush 59, 2) := by decide +kernel
theorem dX0_parityLine_41 : decode cX0_parityLine 41 = .ok (.invokevirtual 73, 3) := by decide +kernel
theorem dX0_parityLine_44 : decode cX0_parityLine 44 = .ok (.return_, 1) := by decide +kernel
theorem dX0_blockLine_0 : decode cX0_blockLine 0 = .ok (.aload_n 0, 1) := by decide +kernel
theorem dX0_blockLine_1 : decode cX0_blockLine 1 = .ok (.getfield 15, 3) := by decide +kernel
theorem dX0_blockLine_4 : decode cX0_blockLine 4 = .ok (.getfield 92, 3) := by decide +kernel
theorem dX0_blockLine_7 : decode cX0_blockLine 7 = .ok (.bipush 6, 2) := by decide +kernel
theorem dX0_blockLine_9 : decode cX0_blockLine 9 = .ok (.if_icmp .lt 12, 3) := by decide +kernel
theorem dX0_blockLine_12 : decode cX0_blockLine 12 = .ok (.aload_n 0, 1) := by decide +kernel
theorem dX0_blockLine_13 : decode cX0_blockLine 13 = .ok (.getfield 9, 3) := by decide +kernel
theorem dX0_blockLine_16 : decode cX0_blockLine 16 = .ok (.iconst 5, 1) := by decide +kernel
theorem dX0_blockLine_17 : decode cX0_blockLine 17 = .ok (.invokevirtual 60, 3) := by decide +kernel
theorem dX0_blockLine_20 : decode cX0_blockLine 20 = .ok (.return_, 1) := by decide +kernel
theorem dX0_blockLine_21 : decode cX0_blockLine 21 = .ok (.aload_n 0, 1) := by decide +kernel
theorem dX0_blockLine_22 : decode cX0_blockLine 22 = .ok (.getfield 9, 3) := by decide +kernel
theorem dX0_blockLine_25 : decode cX0_blockLine 25 = .ok (.invokevirtual 66, 3) := by decide +kernel
theorem dX0_blockLine_28 : decode cX0_blockLine 28 = .ok (.aload_n 0, 1) := by decide +kernel
theorem dX0_blockLine_29 : decode cX0_blockLine 29 = .ok (.invokevirtual 95, 3) := by decide +kernel
theorem dX0_blockLine_32 : decode cX0_blockLine 32 = .ok (.istore_n 1, 1) := by decide +kernel
theorem dX0_blockLine_33 : decode cX0_blockLine 33 = .ok (.iload_n 1, 1) := by decide +kernel
theorem dX0_blockLine_34 : decode cX0_blockLine 34 = .ok (.iconst (-1), 1) := by decide +kernel
theorem dX0_blockLine_35 : decode cX0_blockLine 35 = .ok (.if_icmp .ne 12, 3) := by decide +kernel
theorem dX0_blockLine_38 : decode cX0_blockLine 38 = .ok (.aload_n 0, 1) := by decide +kernel
theorem dX0_blockLine_39 : decode cX0_blockLine 39 = .ok (.getfield 9, 3) := by decide +kernel
theorem dX0_blockLine_42 : decode cX0_blockLine 42 = .ok (.iconst 1, 1) := by decide +kernel
theorem dX0_blockLine_43 : decode cX0_blockLine 43 = .ok (.invokevirtual 60, 3) := by decide +kernel
theorem dX0_blockLine_46 : decode cX0_blockLine 46 = .ok (.return_, 1) := by decide +kernel
theorem dX0_blockLine_47 : decode cX0_blockLine 47 = .ok (.aload_n 0, 1) := by decide +kernel
theorem dX0_blockLine_48 : decode cX0_blockLine 48 = .ok (.getfield 9, 3) := by decide +kernel
theorem dX0_blockLine_51 : decode cX0_blockLine 51 = .ok (.invokevirtual 66, 3) := by decide +kernel
theorem dX0_blockLine_54 : decode cX0_blockLine 54 = .ok (.aload_n 0, 1) := by decide +kernel
theorem dX0_blockLine_55 : decode cX0_blockLine 55 = .ok (.getfield 15, 3) := by decide +kernel
theorem dX0_blockLine_58 : decode cX0_blockLine 58 = .ok (.getfield 99, 3) := by decide +kernel
theorem dX0_blockLine_61 : decode cX0_blockLine 61 = .ok (.aload_n 0, 1) := by decide +kernel
theorem dX0_blockLine_62 : decode cX0_blockLine 62 = .ok (.getfield 15, 3) := by decide +kernel
theorem dX0_blockLine_65 : decode cX0_blockLine 65 = .ok (.getfield 92, 3) := by decide +kernel
theorem dX0_blockLine_68 : decode cX0_blockLine 68 = .ok (.iload_n 1, 1) := by decide +kernel
theorem dX0_blockLine_69 : decode cX0_blockLine 69 = .ok (.iastore, 1) := by decide +kernel
theorem dX0_blockLine_70 : decode cX0_blockLine 70 = .ok (.aload_n 0, 1) := by decide +kernel
theorem dX0_blockLine_71 : decode cX0_blockLine 71 = .ok (.getfield 15, 3) := by decide +kernel
theorem dX0_blockLine_74 : decode cX0_blockLine 74 = .ok (.getfield 103, 3) := by decide +kernel
theorem dX0_blockLine_77 : decode cX0_blockLine 77 = .ok (.aload_n 0, 1) := by decide +kernel
theorem dX0_blockLine_78 : decode cX0_blockLine 78 = .ok (.getfield 15, 3) := by decide +kernel
theorem dX0_blockLine_81 : decode cX0_blockLine 81 = .ok (.getfield 92, 3) := by decide +kernel
theorem dX0_blockLine_84 : decode cX0_blockLine 84 = .ok (.iconst 0, 1) := by decide +kernel
theorem dX0_blockLine_85 : decode cX0_blockLine 85 = .ok (.iastore, 1) := by decide +kernel
theorem dX0_blockLine_86 : decode cX0_blockLine 86 = .ok (.iconst 0, 1) := by decide +kernel
theorem dX0_blockLine_87 : decode cX0_blockLine 87 = .ok (.istore_n 2, 1) := by decide +kernel
theorem dX0_blockLine_88 : decode cX0_blockLine 88 = .ok (.iload_n 2, 1) := by decide +kernel
theorem dX0_blockLine_89 : decode cX0_blockLine 89 = .ok (.iconst 5, 1) := by decide +kernel
theorem dX0_blockLine_90 : decode cX0_blockLine 90 = .ok (.if_icmp .gt 34, 3) := by decide +kernel
theorem dX0_blockLine_93 : decode cX0_blockLine 93 = .ok (.aload_n 0, 1) := by decide +kernel
theorem dX0_blockLine_94 : decode cX0_blockLine 94 = .ok (.getfield 9, 3) := by decide +kernel
theorem dX0_blockLine_97 : decode cX0_blockLine 97 = .ok (.getfield 29, 3) := by decide +kernel
theorem dX0_blockLine_100 : decode cX0_blockLine 100 = .ok (.ifCond .ne 24, 3) := by decide +kernel
theorem dX0_blockLine_103 : decode cX0_blockLine 103 = .ok (.aload_n 0, 1) := by decide +kernel
theorem dX0_blockLine_104 : decode cX0_blockLine 104 = .ok (.getfield 9, 3) := by decide +kernel
theorem dX0_blockLine_107 : decode cX0_blockLine 107 = .ok (.getfield 33, 3) := by decide +kernel
theorem dX0_blockLine_110 : decode cX0_blockLine 110 = .ok (.iconst 3, 1) := by decide +kernel
theorem dX0_blockLine_111 : decode cX0_blockLine 111 = .ok (.if_icmp .ne 13, 3) := by decide +kernel
theorem dX0_blockLine_114 : decode cX0_blockLine 114 = .ok (.aload_n 0, 1) := by decide +kernel
theorem dX0_blockLine_115 : decode cX0_blockLine 115 = .ok (.invokevirtual 106, 3) := by decide +kernel
theorem dX0_blockLine_118 : decode cX0_blockLine 118 = .ok (.iinc 2 1, 3) := by decide +kernel
theorem dX0_blockLine_121 : decode cX0_blockLine 121 = .ok (.goto (-33), 3) := by decide +kernel
theorem dX0_blockLine_124 : decode cX0_blockLine 124 = .ok (.aload_n 0, 1) := by decide +kernel
theorem dX0_blockLine_125 : decode cX0_blockLine 125 = .ok (.invokevirtual 109, 3) := by decide +kernel
theorem dX0_blockLine_128 : decode cX0_blockLine 128 = .ok (.return_, 1) := by decide +kernel
theorem dX0_kindInHand_0 : decode cX0_kindInHand 0 = .ok (.aload_n 0, 1) := by decide +kernel
theorem dX0_kindInHand_1 : decode cX0_kindInHand 1 = .ok (.getfield 9, 3) := by decide +kernel
theorem dX0_kindInHand_4 : decode cX0_kindInHand 4 = .ok (.ldc 112, 2) := by decide +kernel
theorem dX0_kindInHand_6 : decode cX0_kindInHand 6 = .ok (.invokevirtual 38, 3) := by decide +kernel
theorem dX0_kindInHand_9 : decode cX0_kindInHand 9 = .ok (.ifCond .eq 5, 3) := by decide +kernel
theorem dX0_kindInHand_12 : decode cX0_kindInHand 12 = .ok (.iconst 0, 1) := by decide +kernel
theorem dX0_kindInHand_13 : decode cX0_kindInHand 13 = .ok (.ireturn, 1) := by decide +kernel
theorem dX0_kindInHand_14 : decode cX0_kindInHand 14 = .ok (.aload_n 0, 1) := by decide +kernel
theorem dX0_kindInHand_15 : decode cX0_kindInHand 15 = .ok (.getfield 9, 3) := by decide +kernel
theorem dX0_kindInHand_18 : decode cX0_kindInHand 18 = .ok (.ldc 114, 2) := by decide +kernel
theorem dX0_kindInHand_20 : decode cX0_kindInHand 20 = .ok (.invokevirtual 38, 3) := by decide +kernel
theorem dX0_kindInHand_23 : decode cX0_kindInHand 23 = .ok (.ifCond .eq 5, 3) := by decide +kernel
theorem dX0_kindInHand_26 : decode cX0_kindInHand 26 = .ok (.iconst 1, 1) := by decide +kernel
theorem dX0_kindInHand_27 : decode cX0_kindInHand 27 = .ok (.ireturn, 1) := by decide +kernel
theorem dX0_kindInHand_28 : decode cX0_kindInHand 28 = .ok (.aload_n 0, 1) := by decide +kernel
theorem dX0_kindInHand_29 : decode cX0_kindInHand 29 = .ok (.getfield 9, 3) := by decide +kernel
theorem dX0_kindInHand_32 : decode cX0_kindInHand 32 = .ok (.ldc 116, 2) := by decide +kernel
theorem dX0_kindInHand_34 : decode cX0_kindInHand 34 = .ok (.invokevirtual 38, 3) := by decide +kernel
theorem dX0_kindInHand_37 : decode cX0_kindInHand 37 = .ok (.ifCond .eq 5, 3) := by decide +kernel
theorem dX0_kindInHand_40 : decode cX0_kindInHand 40 = .ok (.iconst 2, 1) := by decide +kernel
theorem dX0_kindInHand_41 : decode cX0_kindInHand 41 = .ok (.ireturn, 1) := by decide +kernel
theorem dX0_kindInHand_42 : decode cX0_kindInHand 42 = .ok (.aload_n 0, 1) := by decide +kernel
theorem dX0_kindInHand_43 : decode cX0_kindInHand 43 = .ok (.getfield 9, 3) := by decide +kernel
theorem dX0_kindInHand_46 : decode cX0_kindInHand 46 = .ok (.ldc 118, 2) := by decide +kernel
theorem dX0_kindInHand_48 : decode cX0_kindInHand 48 = .ok (.invokevirtual 38, 3) := by decide +kernel
theorem dX0_kindInHand_51 : decode cX0_kindInHand 51 = .ok (.ifCond .eq 7, 3) := by decide +kernel
theorem dX0_kindInHand_54 : decode cX0_kindInHand 54 = .ok (.iconst 3, 1) := by decide +kernel
theorem dX0_kindInHand_55 : decode cX0_kindInHand 55 = .ok (.goto 4, 3) := by decide +kernel
theorem dX0_kindInHand_58 : decode cX0_kindInHand 58 = .ok (.iconst (-1), 1) := by decide +kernel
theorem dX0_kindInHand_59 : decode cX0_kindInHand 59 = .ok (.ireturn, 1) := by decide +kernel
theorem dX0_blockDisk_0 : decode cX0_blockDisk 0 = .ok (.aload_n 0, 1) := by decide +kernel
theorem dX0_blockDisk_1 : decode cX0_blockDisk 1 = .ok (.getfield 15, 3) := by decide +kernel
theorem dX0_blockDisk_4 : decode cX0_blockDisk 4 = .ok (.getfield 92, 3) := by decide +kernel
theorem dX0_blockDisk_7 : decode cX0_blockDisk 7 = .ok (.istore_n 1, 1) := by decide +kernel
theorem dX0_blockDisk_8 : decode cX0_blockDisk 8 = .ok (.aload_n 0, 1) := by decide +kernel
theorem dX0_blockDisk_9 : decode cX0_blockDisk 9 = .ok (.getfield 15, 3) := by decide +kernel
theorem dX0_blockDisk_12 : decode cX0_blockDisk 12 = .ok (.getfield 103, 3) := by decide +kernel
theorem dX0_blockDisk_15 : decode cX0_blockDisk 15 = .ok (.iload_n 1, 1) := by decide +kernel
theorem dX0_blockDisk_16 : decode cX0_blockDisk 16 = .ok (.iaload, 1) := by decide +kernel
theorem dX0_blockDisk_17 : decode cX0_blockDisk 17 = .ok (.istore_n 2, 1) := by decide +kernel
theorem dX0_blockDisk_18 : decode cX0_blockDisk 18 = .ok (.aload_n 0, 1) := by decide +kernel
theorem dX0_blockDisk_19 : decode cX0_blockDisk 19 = .ok (.getfield 9, 3) := by decide +kernel
theorem dX0_blockDisk_22 : decode cX0_blockDisk 22 = .ok (.getfield 120, 3) := by decide +kernel
theorem dX0_blockDisk_25 : decode cX0_blockDisk 25 = .ok (.aload_n 0, 1) := by decide +kernel
theorem dX0_blockDisk_26 : decode cX0_blockDisk 26 = .ok (.getfield 15, 3) := by decide +kernel
theorem dX0_blockDisk_29 : decode cX0_blockDisk 29 = .ok (.getfield 64, 3) := by decide +kernel
theorem dX0_blockDisk_32 : decode cX0_blockDisk 32 = .ok (.if_icmp .lt 14, 3) := by decide +kernel
theorem dX0_blockDisk_35 : decode cX0_blockDisk 35 = .ok (.aload_n 0, 1) := by decide +kernel
theorem dX0_blockDisk_36 : decode cX0_blockDisk 36 = .ok (.getfield 9, 3) := by decide +kernel
theorem dX0_blockDisk_39 : decode cX0_blockDisk 39 = .ok (.iconst 4, 1) := by decide +kernel
theorem dX0_blockDisk_40 : decode cX0_blockDisk 40 = .ok (.invokevirtual 60, 3) := by decide +kernel
theorem dX0_blockDisk_43 : decode cX0_blockDisk 43 = .ok (.goto 90, 3) := by decide +kernel
theorem dX0_blockDisk_46 : decode cX0_blockDisk 46 = .ok (.aload_n 0, 1) := by decide +kernel
theorem dX0_blockDisk_47 : decode cX0_blockDisk 47 = .ok (.getfield 15, 3) := by decide +kernel
theorem dX0_blockDisk_50 : decode cX0_blockDisk 50 = .ok (.iload_n 1, 1) := by decide +kernel
theorem dX0_blockDisk_51 : decode cX0_blockDisk 51 = .ok (.invokevirtual 123, 3) := by decide +kernel
theorem dX0_blockDisk_54 : decode cX0_blockDisk 54 = .ok (.aload_n 0, 1) := by decide +kernel
theorem dX0_blockDisk_55 : decode cX0_blockDisk 55 = .ok (.getfield 9, 3) := by decide +kernel
theorem dX0_blockDisk_58 : decode cX0_blockDisk 58 = .ok (.getfield 120, 3) := by decide +kernel
theorem dX0_blockDisk_61 : decode cX0_blockDisk 61 = .ok (.ishr, 1) := by decide +kernel
theorem dX0_blockDisk_62 : decode cX0_blockDisk 62 = .ok (.iconst 1, 1) := by decide +kernel
theorem dX0_blockDisk_63 : decode cX0_blockDisk 63 = .ok (.iand, 1) := by decide +kernel
theorem dX0_blockDisk_64 : decode cX0_blockDisk 64 = .ok (.ifCond .eq 14, 3) := by decide +kernel
theorem dX0_blockDisk_67 : decode cX0_blockDisk 67 = .ok (.aload_n 0, 1) := by decide +kernel
theorem dX0_blockDisk_68 : decode cX0_blockDisk 68 = .ok (.getfield 9, 3) := by decide +kernel
theorem dX0_blockDisk_71 : decode cX0_blockDisk 71 = .ok (.iconst 3, 1) := by decide +kernel
theorem dX0_blockDisk_72 : decode cX0_blockDisk 72 = .ok (.invokevirtual 60, 3) := by decide +kernel
theorem dX0_blockDisk_75 : decode cX0_blockDisk 75 = .ok (.goto 58, 3) := by decide +kernel
theorem dX0_blockDisk_78 : decode cX0_blockDisk 78 = .ok (.iload_n 2, 1) := by decide +kernel
theorem dX0_blockDisk_79 : decode cX0_blockDisk 79 = .ok (.iconst 5, 1) := by decide +kernel
theorem dX0_blockDisk_80 : decode cX0_blockDisk 80 = .ok (.if_icmp .lt 14, 3) := by decide +kernel
theorem dX0_blockDisk_83 : decode cX0_blockDisk 83 = .ok (.aload_n 0, 1) := by decide +kernel
theorem dX0_blockDisk_84 : decode cX0_blockDisk 84 = .ok (.getfield 9, 3) := by decide +kernel
theorem dX0_blockDisk_87 : decode cX0_blockDisk 87 = .ok (.iconst 5, 1) := by decide +kernel
theorem dX0_blockDisk_88 : decode cX0_blockDisk 88 = .ok (.invokevirtual 60, 3) := by decide +kernel
theorem dX0_blockDisk_91 : decode cX0_blockDisk 91 = .ok (.goto 42, 3) := by decide +kernel
theorem dX0_blockDisk_94 : decode cX0_blockDisk 94 = .ok (.aload_n 0, 1) := by decide +kernel
theorem dX0_blockDisk_95 : decode cX0_blockDisk 95 = .ok (.getfield 15, 3) := by decide +kernel
theorem dX0_blockDisk_98 : decode cX0_blockDisk 98 = .ok (.getfield 127, 3) := by decide +kernel
theorem dX0_blockDisk_101 : decode cX0_blockDisk 101 = .ok (.iload_n 1, 1) := by decide +kernel
theorem dX0_blockDisk_102 : decode cX0_blockDisk 102 = .ok (.iconst 5, 1) := by decide +kernel
theorem dX0_blockDisk_103 : decode cX0_blockDisk 103 = .ok (.imul, 1) := by decide +kernel
theorem dX0_blockDisk_104 : decode cX0_blockDisk 104 = .ok (.iload_n 2, 1) := by decide +kernel
theorem dX0_blockDisk_105 : decode cX0_blockDisk 105 = .ok (.iadd, 1) := by decide +kernel
theorem dX0_blockDisk_106 : decode cX0_blockDisk 106 = .ok (.aload_n 0, 1) := by decide +kernel
theorem dX0_blockDisk_107 : decode cX0_blockDisk 107 = .ok (.getfield 9, 3) := by decide +kernel
theorem dX0_blockDisk_110 : decode cX0_blockDisk 110 = .ok (.getfield 120, 3) := by decide +kernel
theorem dX0_blockDisk_113 : decode cX0_blockDisk 113 = .ok (.iastore, 1) := by decide +kernel
theorem dX0_blockDisk_114 : decode cX0_blockDisk 114 = .ok (.aload_n 0, 1) := by decide +kernel
theorem dX0_blockDisk_115 : decode cX0_blockDisk 115 = .ok (.getfield 15, 3) := by decide +kernel
theorem dX0_blockDisk_118 : decode cX0_blockDisk 118 = .ok (.getfield 103, 3) := by decide +kernel
theorem dX0_blockDisk_121 : decode cX0_blockDisk 121 = .ok (.iload_n 1, 1) := by decide +kernel
theorem dX0_blockDisk_122 : decode cX0_blockDisk 122 = .ok (.iload_n 2, 1) := by decide +kernel
theorem dX0_blockDisk_123 : decode cX0_blockDisk 123 = .ok (.iconst 1, 1) := by decide +kernel
theorem dX0_blockDisk_124 : decode cX0_blockDisk 124 = .ok (.iadd, 1) := by decide +kernel
theorem dX0_blockDisk_125 : decode cX0_blockDisk 125 = .ok (.iastore, 1) := by decide +kernel
theorem dX0_blockDisk_126 : decode cX0_blockDisk 126 = .ok (.aload_n 0, 1) := by decide +kernel
theorem dX0_blockDisk_127 : decode cX0_blockDisk 127 = .ok (.getfield 9, 3) := by decide +kernel
theorem dX0_blockDisk_130 : decode cX0_blockDisk 130 = .ok (.invokevirtual 66, 3) := by decide +kernel
theorem dX0_blockDisk_133 : decode cX0_blockDisk 133 = .ok (.return_, 1) := by decide +kernel
theorem dX0_closeBlock_0 : decode cX0_closeBlock 0 = .ok (.aload_n 0, 1) := by decide +kernel
theorem dX0_closeBlock_1 : decode cX0_closeBlock 1 = .ok (.getfield 9, 3) := by decide +kernel
theorem dX0_closeBlock_4 : decode cX0_closeBlock 4 = .ok (.getfield 29, 3) := by decide +kernel
theorem dX0_closeBlock_7 : decode cX0_closeBlock 7 = .ok (.ifCond .eq 4, 3) := by decide +kernel
theorem dX0_closeBlock_10 : decode cX0_closeBlock 10 = .ok (.return_, 1) := by decide +kernel
theorem dX0_closeBlock_11 : decode cX0_closeBlock 11 = .ok (.aload_n 0, 1) := by decide +kernel
theorem dX0_closeBlock_12 : decode cX0_closeBlock 12 = .ok (.getfield 15, 3) := by decide +kernel
theorem dX0_closeBlock_15 : decode cX0_closeBlock 15 = .ok (.getfield 103, 3) := by decide +kernel
theorem dX0_closeBlock_18 : decode cX0_closeBlock 18 = .ok (.aload_n 0, 1) := by decide +kernel
theorem dX0_closeBlock_19 : decode cX0_closeBlock 19 = .ok (.getfield 15, 3) := by decide +kernel
theorem dX0_closeBlock_22 : decode cX0_closeBlock 22 = .ok (.getfield 92, 3) := by decide +kernel
theorem dX0_closeBlock_25 : decode cX0_closeBlock 25 = .ok (.iaload, 1) := by decide +kernel
theorem dX0_closeBlock_26 : decode cX0_closeBlock 26 = .ok (.iconst 2, 1) := by decide +kernel
theorem dX0_closeBlock_27 : decode cX0_closeBlock 27 = .ok (.if_icmp .lt 15, 3) := by decide +kernel
theorem dX0_closeBlock_30 : decode cX0_closeBlock 30 = .ok (.aload_n 0, 1) := by decide +kernel
theorem dX0_closeBlock_31 : decode cX0_closeBlock 31 = .ok (.getfield 9, 3) := by decide +kernel
theorem dX0_closeBlock_34 : decode cX0_closeBlock 34 = .ok (.bipush 59, 2) := by decide +kernel
theorem dX0_closeBlock_36 : decode cX0_closeBlock 36 = .ok (.invokevirtual 130, 3) := by decide +kernel
theorem dX0_closeBlock_39 : decode cX0_closeBlock 39 = .ok (.ifCond .ne 14, 3) := by decide +kernel
theorem dX0_closeBlock_42 : decode cX0_closeBlock 42 = .ok (.aload_n 0, 1) := by decide +kernel
theorem dX0_closeBlock_43 : decode cX0_closeBlock 43 = .ok (.getfield 9, 3) := by decide +kernel
theorem dX0_closeBlock_46 : decode cX0_closeBlock 46 = .ok (.iconst 1, 1) := by decide +kernel
theorem dX0_closeBlock_47 : decode cX0_closeBlock 47 = .ok (.invokevirtual 60, 3) := by decide +kernel
theorem dX0_closeBlock_50 : decode cX0_closeBlock 50 = .ok (.goto 62, 3) := by decide +kernel
theorem dX0_closeBlock_53 : decode cX0_closeBlock 53 = .ok (.aload_n 0, 1) := by decide +kernel
theorem dX0_closeBlock_54 : decode cX0_closeBlock 54 = .ok (.getfield 15, 3) := by decide +kernel
theorem dX0_closeBlock_57 : decode cX0_closeBlock 57 = .ok (.aload_n 0, 1) := by decide +kernel
theorem dX0_closeBlock_58 : decode cX0_closeBlock 58 = .ok (.getfield 15, 3) := by decide +kernel
theorem dX0_closeBlock_61 : decode cX0_closeBlock 61 = .ok (.getfield 92, 3) := by decide +kernel
theorem dX0_closeBlock_64 : decode cX0_closeBlock 64 = .ok (.iconst 1, 1) := by decide +kernel
theorem dX0_closeBlock_65 : decode cX0_closeBlock 65 = .ok (.iadd, 1) := by decide +kernel
theorem dX0_closeBlock_66 : decode cX0_closeBlock 66 = .ok (.aload_n 0, 1) := by decide +kernel
theorem dX0_closeBlock_67 : decode cX0_closeBlock 67 = .ok (.getfield 15, 3) := by decide +kernel
theorem dX0_closeBlock_70 : decode cX0_closeBlock 70 = .ok (.getfield 64, 3) := by decide +kernel
theorem dX0_closeBlock_73 : decode cX0_closeBlock 73 = .ok (.invokevirtual 134, 3) := by decide +kernel
theorem dX0_closeBlock_76 : decode cX0_closeBlock 76 = .ok (.bipush 40, 2) := by decide +kernel
theorem dX0_closeBlock_78 : decode cX0_closeBlock 78 = .ok (.if_icmp .le 14, 3) := by decide +kernel
theorem dX0_closeBlock_81 : decode cX0_closeBlock 81 = .ok (.aload_n 0, 1) := by decide +kernel
theorem dX0_closeBlock_82 : decode cX0_closeBlock 82 = .ok (.getfield 9, 3) := by decide +kernel
theorem dX0_closeBlock_85 : decode cX0_closeBlock 85 = .ok (.iconst 5, 1) := by decide +kernel
theorem dX0_closeBlock_86 : decode cX0_closeBlock 86 = .ok (.invokevirtual 60, 3) := by decide +kernel
theorem dX0_closeBlock_89 : decode cX0_closeBlock 89 = .ok (.goto 23, 3) := by decide +kernel
theorem dX0_closeBlock_92 : decode cX0_closeBlock 92 = .ok (.aload_n 0, 1) := by decide +kernel
theorem dX0_closeBlock_93 : decode cX0_closeBlock 93 = .ok (.getfield 15, 3) := by decide +kernel
theorem dX0_closeBlock_96 : decode cX0_closeBlock 96 = .ok (.dup, 1) := by decide +kernel
theorem dX0_closeBlock_97 : decode cX0_closeBlock 97 = .ok (.getfield 92, 3) := by decide +kernel
theorem dX0_closeBlock_100 : decode cX0_closeBlock 100 = .ok (.iconst 1, 1) := by decide +kernel
theorem dX0_closeBlock_101 : decode cX0_closeBlock 101 = .ok (.iadd, 1) := by decide +kernel
theorem dX0_closeBlock_102 : decode cX0_closeBlock 102 = .ok (.putfield 92, 3) := by decide +kernel
theorem dX0_closeBlock_105 : decode cX0_closeBlock 105 = .ok (.aload_n 0, 1) := by decide +kernel
theorem dX0_closeBlock_106 : decode cX0_closeBlock 106 = .ok (.getfield 9, 3) := by decide +kernel
theorem dX0_closeBlock_109 : decode cX0_closeBlock 109 = .ok (.invokevirtual 66, 3) := by decide +kernel
theorem dX0_closeBlock_112 : decode cX0_closeBlock 112 = .ok (.return_, 1) := by decide +kernel
theorem dX0_chain_0 : decode cX0_chain 0 = .ok (.iload_n 1, 1) := by decide +kernel
theorem dX0_chain_1 : decode cX0_chain 1 = .ok (.iconst 4, 1) := by decide +kernel
theorem dX0_chain_2 : decode cX0_chain 2 = .ok (.if_icmp .lt 9, 3) := by decide +kernel
theorem dX0_chain_5 : decode cX0_chain 5 = .ok (.aload_n 0, 1) := by decide +kernel
theorem dX0_chain_6 : decode cX0_chain 6 = .ok (.iload_n 2, 1) := by decide +kernel
theorem dX0_chain_7 : decode cX0_chain 7 = .ok (.invokevirtual 137, 3) := by decide +kernel
theorem dX0_chain_10 : decode cX0_chain 10 = .ok (.return_, 1) := by decide +kernel
theorem dX0_chain_11 : decode cX0_chain 11 = .ok (.aload_n 0, 1) := by decide +kernel
theorem dX0_chain_12 : decode cX0_chain 12 = .ok (.iload_n 1, 1) := by decide +kernel
theorem dX0_chain_13 : decode cX0_chain 13 = .ok (.iconst 1, 1) := by decide +kernel
theorem dX0_chain_14 : decode cX0_chain 14 = .ok (.iadd, 1) := by decide +kernel
theorem dX0_chain_15 : decode cX0_chain 15 = .ok (.iload_n 2, 1) := by decide +kernel
theorem dX0_chain_16 : decode cX0_chain 16 = .ok (.invokevirtual 88, 3) := by decide +kernel
theorem dX0_chain_19 : decode cX0_chain 19 = .ok (.iload_n 1, 1) := by decide +kernel
theorem dX0_chain_20 : decode cX0_chain 20 = .ok (.iconst 1, 1) := by decide +kernel
theorem dX0_chain_21 : decode cX0_chain 21 = .ok (.if_icmp .ne 7, 3) := by decide +kernel
theorem dX0_chain_24 : decode cX0_chain 24 = .ok (.iconst 1, 1) := by decide +kernel
theorem dX0_chain_25 : decode cX0_chain 25 = .ok (.goto 6, 3) := by decide +kernel
theorem dX0_chain_28 : decode cX0_chain 28 = .ok (.sipush 1000, 3) := by decide +kernel
theorem dX0_chain_31 : decode cX0_chain 31 = .ok (.istore_n 3, 1) := by decide +kernel
theorem dX0_chain_32 : decode cX0_chain 32 = .ok (.iconst 0, 1) := by decide +kernel
theorem dX0_chain_33 : decode cX0_chain 33 = .ok (.istore 4, 2) := by decide +kernel
theorem dX0_chain_35 : decode cX0_chain 35 = .ok (.iload 4, 2) := by decide +kernel
theorem dX0_chain_37 : decode cX0_chain 37 = .ok (.iload_n 3, 1) := by decide +kernel
theorem dX0_chain_38 : decode cX0_chain 38 = .ok (.if_icmp .ge 60, 3) := by decide +kernel
theorem dX0_chain_41 : decode cX0_chain 41 = .ok (.aload_n 0, 1) := by decide +kernel
theorem dX0_chain_42 : decode cX0_chain 42 = .ok (.getfield 9, 3) := by decide +kernel
theorem dX0_chain_45 : decode cX0_chain 45 = .ok (.getfield 29, 3) := by decide +kernel
theorem dX0_chain_48 : decode cX0_chain 48 = .ok (.ifCond .ne 50, 3) := by decide +kernel
theorem dX0_chain_51 : decode cX0_chain 51 = .ok (.aload_n 0, 1) := by decide +kernel
theorem dX0_chain_52 : decode cX0_chain 52 = .ok (.iload_n 1, 1) := by decide +kernel
theorem dX0_chain_53 : decode cX0_chain 53 = .ok (.invokevirtual 140, 3) := by decide +kernel
theorem dX0_chain_56 : decode cX0_chain 56 = .ok (.istore 5, 2) := by decide +kernel
theorem dX0_chain_58 : decode cX0_chain 58 = .ok (.iload 5, 2) := by decide +kernel
theorem dX0_chain_60 : decode cX0_chain 60 = .ok (.iconst (-1), 1) := by decide +kernel
theorem dX0_chain_61 : decode cX0_chain 61 = .ok (.if_icmp .ne 4, 3) := by decide +kernel
theorem dX0_chain_64 : decode cX0_chain 64 = .ok (.return_, 1) := by decide +kernel
theorem dX0_chain_65 : decode cX0_chain 65 = .ok (.aload_n 0, 1) := by decide +kernel
theorem dX0_chain_66 : decode cX0_chain 66 = .ok (.getfield 9, 3) := by decide +kernel
theorem dX0_chain_69 : decode cX0_chain 69 = .ok (.invokevirtual 66, 3) := by decide +kernel
theorem dX0_chain_72 : decode cX0_chain 72 = .ok (.aload_n 0, 1) := by decide +kernel
theorem dX0_chain_73 : decode cX0_chain 73 = .ok (.iload_n 1, 1) := by decide +kernel
theorem dX0_chain_74 : decode cX0_chain 74 = .ok (.iconst 1, 1) := by decide +kernel
theorem dX0_chain_75 : decode cX0_chain 75 = .ok (.iadd, 1) := by decide +kernel
theorem dX0_chain_76 : decode cX0_chain 76 = .ok (.iload_n 2, 1) := by decide +kernel
theorem dX0_chain_77 : decode cX0_chain 77 = .ok (.invokevirtual 88, 3) := by decide +kernel
theorem dX0_chain_80 : decode cX0_chain 80 = .ok (.aload_n 0, 1) := by decide +kernel
theorem dX0_chain_81 : decode cX0_chain 81 = .ok (.getfield 15, 3) := by decide +kernel
theorem dX0_chain_84 : decode cX0_chain 84 = .ok (.getfield 79, 3) := by decide +kernel
theorem dX0_chain_87 : decode cX0_chain 87 = .ok (.iload 5, 2) := by decide +kernel
theorem dX0_chain_89 : decode cX0_chain 89 = .ok (.invokevirtual 143, 3) := by decide +kernel
theorem dX0_chain_92 : decode cX0_chain 92 = .ok (.iinc 4 1, 3) := by decide +kernel
theorem dX0_chain_95 : decode cX0_chain 95 = .ok (.goto (-60), 3) := by decide +kernel
theorem dX0_chain_98 : decode cX0_chain 98 = .ok (.return_, 1) := by decide +kernel
theorem dX0_operatorInHand_0 : decode cX0_operatorInHand 0 = .ok (.iload_n 1, 1) := by decide +kernel
theorem dX0_operatorInHand_1 : decode cX0_operatorInHand 1 = .ok (.tableswitch 135 0 2 #[27, 63, 99], 27) := by decide +kernel
theorem dX0_operatorInHand_28 : decode cX0_operatorInHand 28 = .ok (.aload_n 0, 1) := by decide +kernel
theorem dX0_operatorInHand_29 : decode cX0_operatorInHand 29 = .ok (.getfield 9, 3) := by decide +kernel
theorem dX0_operatorInHand_32 : decode cX0_operatorInHand 32 = .ok (.ldc 146, 2) := by decide +kernel
theorem dX0_operatorInHand_34 : decode cX0_operatorInHand 34 = .ok (.invokevirtual 38, 3) := by decide +kernel
theorem dX0_operatorInHand_37 : decode cX0_operatorInHand 37 = .ok (.ifCond .eq 8, 3) := by decide +kernel
theorem dX0_operatorInHand_40 : decode cX0_operatorInHand 40 = .ok (.bipush (-7), 2) := by decide +kernel
theorem dX0_operatorInHand_42 : decode cX0_operatorInHand 42 = .ok (.goto 21, 3) := by decide +kernel
theorem dX0_operatorInHand_45 : decode cX0_operatorInHand 45 = .ok (.aload_n 0, 1) := by decide +kernel
theorem dX0_operatorInHand_46 : decode cX0_operatorInHand 46 = .ok (.getfield 9, 3) := by decide +kernel
theorem dX0_operatorInHand_49 : decode cX0_operatorInHand 49 = .ok (.ldc 148, 2) := by decide +kernel
theorem dX0_operatorInHand_51 : decode cX0_operatorInHand 51 = .ok (.invokevirtual 38, 3) := by decide +kernel
theorem dX0_operatorInHand_54 : decode cX0_operatorInHand 54 = .ok (.ifCond .eq 8, 3) := by decide +kernel
theorem dX0_operatorInHand_57 : decode cX0_operatorInHand 57 = .ok (.bipush (-8), 2) := by decide +kernel
theorem dX0_operatorInHand_59 : decode cX0_operatorInHand 59 = .ok (.goto 4, 3) := by decide +kernel
theorem dX0_operatorInHand_62 : decode cX0_operatorInHand 62 = .ok (.iconst (-1), 1) := by decide +kernel
theorem dX0_operatorInHand_63 : decode cX0_operatorInHand 63 = .ok (.ireturn, 1) := by decide +kernel
theorem dX0_operatorInHand_64 : decode cX0_operatorInHand 64 = .ok (.aload_n 0, 1) := by decide +kernel
theorem dX0_operatorInHand_65 : decode cX0_operatorInHand 65 = .ok (.getfield 9, 3) := by decide +kernel
theorem dX0_operatorInHand_68 : decode cX0_operatorInHand 68 = .ok (.bipush 60, 2) := by decide +kernel
theorem dX0_operatorInHand_70 : decode cX0_operatorInHand 70 = .ok (.invokevirtual 130, 3) := by decide +kernel
theorem dX0_operatorInHand_73 : decode cX0_operatorInHand 73 = .ok (.ifCond .eq 8, 3) := by decide +kernel
theorem dX0_operatorInHand_76 : decode cX0_operatorInHand 76 = .ok (.bipush (-9), 2) := by decide +kernel
theorem dX0_operatorInHand_78 : decode cX0_operatorInHand 78 = .ok (.goto 21, 3) := by decide +kernel
theorem dX0_operatorInHand_81 : decode cX0_operatorInHand 81 = .ok (.aload_n 0, 1) := by decide +kernel
theorem dX0_operatorInHand_82 : decode cX0_operatorInHand 82 = .ok (.getfield 9, 3) := by decide +kernel
theorem dX0_operatorInHand_85 : decode cX0_operatorInHand 85 = .ok (.bipush 61, 2) := by decide +kernel
theorem dX0_operatorInHand_87 : decode cX0_operatorInHand 87 = .ok (.invokevirtual 130, 3) := by decide +kernel
theorem dX0_operatorInHand_90 : decode cX0_operatorInHand 90 = .ok (.ifCond .eq 8, 3) := by decide +kernel
theorem dX0_operatorInHand_93 : decode cX0_operatorInHand 93 = .ok (.bipush (-10), 2) := by decide +kernel
theorem dX0_operatorInHand_95 : decode cX0_operatorInHand 95 = .ok (.goto 4, 3) := by decide +kernel
theorem dX0_operatorInHand_98 : decode cX0_operatorInHand 98 = .ok (.iconst (-1), 1) := by decide +kernel
theorem dX0_operatorInHand_99 : decode cX0_operatorInHand 99 = .ok (.ireturn, 1) := by decide +kernel
theorem dX0_operatorInHand_100 : decode cX0_operatorInHand 100 = .ok (.aload_n 0, 1) := by decide +kernel
theorem dX0_operatorInHand_101 : decode cX0_operatorInHand 101 = .ok (.getfield 9, 3) := by decide +kernel
theorem dX0_operatorInHand_104 : decode cX0_operatorInHand 104 = .ok (.bipush 43, 2) := by decide +kernel
theorem dX0_operatorInHand_106 : decode cX0_operatorInHand 106 = .ok (.invokevirtual 130, 3) := by decide +kernel
theorem dX0_operatorInHand_109 : decode cX0_operatorInHand 109 = .ok (.ifCond .eq 8, 3) := by decide +kernel
theorem dX0_operatorInHand_112 : decode cX0_operatorInHand 112 = .ok (.bipush (-11), 2) := by decide +kernel
theorem dX0_operatorInHand_114 : decode cX0_operatorInHand 114 = .ok (.goto 21, 3) := by decide +kernel
theorem dX0_operatorInHand_117 : decode cX0_operatorInHand 117 = .ok (.aload_n 0, 1) := by decide +kernel
theorem dX0_operatorInHand_118 : decode cX0_operatorInHand 118 = .ok (.getfield 9, 3) := by decide +kernel
theorem dX0_operatorInHand_121 : decode cX0_operatorInHand 121 = .ok (.bipush 45, 2) := by decide +kernel
theorem dX0_operatorInHand_123 : decode cX0_operatorInHand 123 = .ok (.invokevirtual 130, 3) := by decide +kernel
theorem dX0_operatorInHand_126 : decode cX0_operatorInHand 126 = .ok (.ifCond .eq 8, 3) := by decide +kernel
theorem dX0_operatorInHand_129 : decode cX0_operatorInHand 129 = .ok (.bipush (-12), 2) := by decide +kernel
theorem dX0_operatorInHand_131 : decode cX0_operatorInHand 131 = .ok (.goto 4, 3) := by decide +kernel
theorem dX0_operatorInHand_134 : decode cX0_operatorInHand 134 = .ok (.iconst (-1), 1) := by decide +kernel
theorem dX0_operatorInHand_135 : decode cX0_operatorInHand 135 = .ok (.ireturn, 1) := by decide +kernel
theorem dX0_operatorInHand_136 : decode cX0_operatorInHand 136 = .ok (.aload_n 0, 1) := by decide +kernel
theorem dX0_operatorInHand_137 : decode cX0_operatorInHand 137 = .ok (.getfield 9, 3) := by decide +kernel
theorem dX0_operatorInHand_140 : decode cX0_operatorInHand 140 = .ok (.bipush 42, 2) := by decide +kernel
theorem dX0_operatorInHand_142 : decode cX0_operatorInHand 142 = .ok (.invokevirtual 130, 3) := by decide +kernel
theorem dX0_operatorInHand_145 : decode cX0_operatorInHand 145 = .ok (.ifCond .eq 8, 3) := by decide +kernel
theorem dX0_operatorInHand_148 : decode cX0_operatorInHand 148 = .ok (.bipush (-13), 2) := by decide +kernel
theorem dX0_operatorInHand_150 : decode cX0_operatorInHand 150 = .ok (.goto 4, 3) := by decide +kernel
theorem dX0_operatorInHand_153 : decode cX0_operatorInHand 153 = .ok (.iconst (-1), 1) := by decide +kernel
theorem dX0_operatorInHand_154 : decode cX0_operatorInHand 154 = .ok (.ireturn, 1) := by decide +kernel
theorem dX0_part_0 : decode cX0_part 0 = .ok (.aload_n 0, 1) := by decide +kernel
theorem dX0_part_1 : decode cX0_part 1 = .ok (.getfield 9, 3) := by decide +kernel
theorem dX0_part_4 : decode cX0_part 4 = .ok (.getfield 29, 3) := by decide +kernel
theorem dX0_part_7 : decode cX0_part 7 = .ok (.ifCond .eq 4, 3) := by decide +kernel
theorem dX0_part_10 : decode cX0_part 10 = .ok (.return_, 1) := by decide +kernel
theorem dX0_part_11 : decode cX0_part 11 = .ok (.aload_n 0, 1) := by decide +kernel
theorem dX0_part_12 : decode cX0_part 12 = .ok (.invokevirtual 150, 3) := by decide +kernel
theorem dX0_part_15 : decode cX0_part 15 = .ok (.istore_n 2, 1) := by decide +kernel
theorem dX0_part_16 : decode cX0_part 16 = .ok (.aload_n 0, 1) := by decide +kernel
theorem dX0_part_17 : decode cX0_part 17 = .ok (.getfield 9, 3) := by decide +kernel
theorem dX0_part_20 : decode cX0_part 20 = .ok (.ldc 153, 2) := by decide +kernel
theorem dX0_part_22 : decode cX0_part 22 = .ok (.invokevirtual 38, 3) := by decide +kernel
theorem dX0_part_25 : decode cX0_part 25 = .ok (.istore_n 3, 1) := by decide +kernel
theorem dX0_part_26 : decode cX0_part 26 = .ok (.iload_n 2, 1) := by decide +kernel
theorem dX0_part_27 : decode cX0_part 27 = .ok (.iconst (-1), 1) := by decide +kernel
theorem dX0_part_28 : decode cX0_part 28 = .ok (.if_icmp .ne 30, 3) := by decide +kernel
theorem dX0_part_31 : decode cX0_part 31 = .ok (.iload_n 3, 1) := by decide +kernel
theorem dX0_part_32 : decode cX0_part 32 = .ok (.ifCond .ne 26, 3) := by decide +kernel
theorem dX0_part_35 : decode cX0_part 35 = .ok (.aload_n 0, 1) := by decide +kernel
theorem dX0_part_36 : decode cX0_part 36 = .ok (.getfield 9, 3) := by decide +kernel
theorem dX0_part_39 : decode cX0_part 39 = .ok (.bipush 40, 2) := by decide +kernel
theorem dX0_part_41 : decode cX0_part 41 = .ok (.invokevirtual 130, 3) := by decide +kernel
theorem dX0_part_44 : decode cX0_part 44 = .ok (.ifCond .ne 14, 3) := by decide +kernel
theorem dX0_part_47 : decode cX0_part 47 = .ok (.aload_n 0, 1) := by decide +kernel
theorem dX0_part_48 : decode cX0_part 48 = .ok (.getfield 9, 3) := by decide +kernel
theorem dX0_part_51 : decode cX0_part 51 = .ok (.iconst 1, 1) := by decide +kernel
theorem dX0_part_52 : decode cX0_part 52 = .ok (.invokevirtual 60, 3) := by decide +kernel
theorem dX0_part_55 : decode cX0_part 55 = .ok (.goto 102, 3) := by decide +kernel
theorem dX0_part_58 : decode cX0_part 58 = .ok (.iload_n 1, 1) := by decide +kernel
theorem dX0_part_59 : decode cX0_part 59 = .ok (.iconst 5, 1) := by decide +kernel
theorem dX0_part_60 : decode cX0_part 60 = .ok (.if_icmp .lt 14, 3) := by decide +kernel
theorem dX0_part_63 : decode cX0_part 63 = .ok (.aload_n 0, 1) := by decide +kernel
theorem dX0_part_64 : decode cX0_part 64 = .ok (.getfield 9, 3) := by decide +kernel
theorem dX0_part_67 : decode cX0_part 67 = .ok (.iconst 5, 1) := by decide +kernel
theorem dX0_part_68 : decode cX0_part 68 = .ok (.invokevirtual 60, 3) := by decide +kernel
theorem dX0_part_71 : decode cX0_part 71 = .ok (.goto 86, 3) := by decide +kernel
theorem dX0_part_74 : decode cX0_part 74 = .ok (.iload_n 3, 1) := by decide +kernel
theorem dX0_part_75 : decode cX0_part 75 = .ok (.ifCond .eq 32, 3) := by decide +kernel
theorem dX0_part_78 : decode cX0_part 78 = .ok (.aload_n 0, 1) := by decide +kernel
theorem dX0_part_79 : decode cX0_part 79 = .ok (.getfield 9, 3) := by decide +kernel
theorem dX0_part_82 : decode cX0_part 82 = .ok (.invokevirtual 66, 3) := by decide +kernel
theorem dX0_part_85 : decode cX0_part 85 = .ok (.aload_n 0, 1) := by decide +kernel
theorem dX0_part_86 : decode cX0_part 86 = .ok (.iload_n 1, 1) := by decide +kernel
theorem dX0_part_87 : decode cX0_part 87 = .ok (.iconst 1, 1) := by decide +kernel
theorem dX0_part_88 : decode cX0_part 88 = .ok (.iadd, 1) := by decide +kernel
theorem dX0_part_89 : decode cX0_part 89 = .ok (.invokevirtual 137, 3) := by decide +kernel
theorem dX0_part_92 : decode cX0_part 92 = .ok (.aload_n 0, 1) := by decide +kernel
theorem dX0_part_93 : decode cX0_part 93 = .ok (.getfield 15, 3) := by decide +kernel
theorem dX0_part_96 : decode cX0_part 96 = .ok (.getfield 79, 3) := by decide +kernel
theorem dX0_part_99 : decode cX0_part 99 = .ok (.bipush (-6), 2) := by decide +kernel
theorem dX0_part_101 : decode cX0_part 101 = .ok (.invokevirtual 143, 3) := by decide +kernel
theorem dX0_part_104 : decode cX0_part 104 = .ok (.goto 53, 3) := by decide +kernel
theorem dX0_part_107 : decode cX0_part 107 = .ok (.iload_n 2, 1) := by decide +kernel
theorem dX0_part_108 : decode cX0_part 108 = .ok (.iconst (-1), 1) := by decide +kernel
theorem dX0_part_109 : decode cX0_part 109 = .ok (.if_icmp .ne 30, 3) := by decide +kernel
theorem dX0_part_112 : decode cX0_part 112 = .ok (.aload_n 0, 1) := by decide +kernel
theorem dX0_part_113 : decode cX0_part 113 = .ok (.getfield 9, 3) := by decide +kernel
theorem dX0_part_116 : decode cX0_part 116 = .ok (.invokevirtual 66, 3) := by decide +kernel
theorem dX0_part_119 : decode cX0_part 119 = .ok (.aload_n 0, 1) := by decide +kernel
theorem dX0_part_120 : decode cX0_part 120 = .ok (.iconst 0, 1) := by decide +kernel
theorem dX0_part_121 : decode cX0_part 121 = .ok (.iload_n 1, 1) := by decide +kernel
theorem dX0_part_122 : decode cX0_part 122 = .ok (.iconst 1, 1) := by decide +kernel
theorem dX0_part_123 : decode cX0_part 123 = .ok (.iadd, 1) := by decide +kernel
theorem dX0_part_124 : decode cX0_part 124 = .ok (.invokevirtual 88, 3) := by decide +kernel
theorem dX0_part_127 : decode cX0_part 127 = .ok (.aload_n 0, 1) := by decide +kernel
theorem dX0_part_128 : decode cX0_part 128 = .ok (.getfield 9, 3) := by decide +kernel
theorem dX0_part_131 : decode cX0_part 131 = .ok (.bipush 41, 2) := by decide +kernel
theorem dX0_part_133 : decode cX0_part 133 = .ok (.invokevirtual 73, 3) := by decide +kernel
theorem dX0_part_136 : decode cX0_part 136 = .ok (.goto 21, 3) := by decide +kernel
theorem dX0_part_139 : decode cX0_part 139 = .ok (.aload_n 0, 1) := by decide +kernel
theorem dX0_part_140 : decode cX0_part 140 = .ok (.getfield 15, 3) := by decide +kernel
theorem dX0_part_143 : decode cX0_part 143 = .ok (.getfield 79, 3) := by decide +kernel
theorem dX0_part_146 : decode cX0_part 146 = .ok (.iload_n 2, 1) := by decide +kernel
theorem dX0_part_147 : decode cX0_part 147 = .ok (.invokevirtual 143, 3) := by decide +kernel
theorem dX0_part_150 : decode cX0_part 150 = .ok (.aload_n 0, 1) := by decide +kernel
theorem dX0_part_151 : decode cX0_part 151 = .ok (.getfield 9, 3) := by decide +kernel
theorem dX0_part_154 : decode cX0_part 154 = .ok (.invokevirtual 66, 3) := by decide +kernel
theorem dX0_part_157 : decode cX0_part 157 = .ok (.return_, 1) := by decide +kernel
theorem dX0_leafInHand_0 : decode cX0_leafInHand 0 = .ok (.aload_n 0, 1) := by decide +kernel
theorem dX0_leafInHand_1 : decode cX0_leafInHand 1 = .ok (.getfield 9, 3) := by decide +kernel
theorem dX0_leafInHand_4 : decode cX0_leafInHand 4 = .ok (.getfield 33, 3) := by decide +kernel
theorem dX0_leafInHand_7 : decode cX0_leafInHand 7 = .ok (.iconst 3, 1) := by decide +kernel
theorem dX0_leafInHand_8 : decode cX0_leafInHand 8 = .ok (.if_icmp .ne 11, 3) := by decide +kernel
theorem dX0_leafInHand_11 : decode cX0_leafInHand 11 = .ok (.aload_n 0, 1) := by decide +kernel
theorem dX0_leafInHand_12 : decode cX0_leafInHand 12 = .ok (.getfield 9, 3) := by decide +kernel
theorem dX0_leafInHand_15 : decode cX0_leafInHand 15 = .ok (.getfield 120, 3) := by decide +kernel
theorem dX0_leafInHand_18 : decode cX0_leafInHand 18 = .ok (.ireturn, 1) := by decide +kernel
theorem dX0_leafInHand_19 : decode cX0_leafInHand 19 = .ok (.aload_n 0, 1) := by decide +kernel
theorem dX0_leafInHand_20 : decode cX0_leafInHand 20 = .ok (.getfield 9, 3) := by decide +kernel
theorem dX0_leafInHand_23 : decode cX0_leafInHand 23 = .ok (.ldc 155, 2) := by decide +kernel
theorem dX0_leafInHand_25 : decode cX0_leafInHand 25 = .ok (.invokevirtual 38, 3) := by decide +kernel
theorem dX0_leafInHand_28 : decode cX0_leafInHand 28 = .ok (.ifCond .eq 6, 3) := by decide +kernel
theorem dX0_leafInHand_31 : decode cX0_leafInHand 31 = .ok (.bipush (-2), 2) := by decide +kernel
theorem dX0_leafInHand_33 : decode cX0_leafInHand 33 = .ok (.ireturn, 1) := by decide +kernel
theorem dX0_leafInHand_34 : decode cX0_leafInHand 34 = .ok (.aload_n 0, 1) := by decide +kernel
theorem dX0_leafInHand_35 : decode cX0_leafInHand 35 = .ok (.getfield 9, 3) := by decide +kernel
theorem dX0_leafInHand_38 : decode cX0_leafInHand 38 = .ok (.ldc 157, 2) := by decide +kernel
theorem dX0_leafInHand_40 : decode cX0_leafInHand 40 = .ok (.invokevirtual 38, 3) := by decide +kernel
theorem dX0_leafInHand_43 : decode cX0_leafInHand 43 = .ok (.ifCond .eq 6, 3) := by decide +kernel
theorem dX0_leafInHand_46 : decode cX0_leafInHand 46 = .ok (.bipush (-3), 2) := by decide +kernel
theorem dX0_leafInHand_48 : decode cX0_leafInHand 48 = .ok (.ireturn, 1) := by decide +kernel
theorem dX0_leafInHand_49 : decode cX0_leafInHand 49 = .ok (.aload_n 0, 1) := by decide +kernel
theorem dX0_leafInHand_50 : decode cX0_leafInHand 50 = .ok (.getfield 9, 3) := by decide +kernel
theorem dX0_leafInHand_53 : decode cX0_leafInHand 53 = .ok (.ldc 158, 2) := by decide +kernel
theorem dX0_leafInHand_55 : decode cX0_leafInHand 55 = .ok (.invokevirtual 38, 3) := by decide +kernel
theorem dX0_leafInHand_58 : decode cX0_leafInHand 58 = .ok (.ifCond .eq 6, 3) := by decide +kernel
theorem dX0_leafInHand_61 : decode cX0_leafInHand 61 = .ok (.bipush (-4), 2) := by decide +kernel
theorem dX0_leafInHand_63 : decode cX0_leafInHand 63 = .ok (.ireturn, 1) := by decide +kernel
theorem dX0_leafInHand_64 : decode cX0_leafInHand 64 = .ok (.aload_n 0, 1) := by decide +kernel
theorem dX0_leafInHand_65 : decode cX0_leafInHand 65 = .ok (.getfield 9, 3) := by decide +kernel
theorem dX0_leafInHand_68 : decode cX0_leafInHand 68 = .ok (.ldc 160, 2) := by decide +kernel
theorem dX0_leafInHand_70 : decode cX0_leafInHand 70 = .ok (.invokevirtual 38, 3) := by decide +kernel
theorem dX0_leafInHand_73 : decode cX0_leafInHand 73 = .ok (.ifCond .eq 8, 3) := by decide +kernel
theorem dX0_leafInHand_76 : decode cX0_leafInHand 76 = .ok (.bipush (-5), 2) := by decide +kernel
theorem dX0_leafInHand_78 : decode cX0_leafInHand 78 = .ok (.goto 4, 3) := by decide +kernel
theorem dX0_leafInHand_81 : decode cX0_leafInHand 81 = .ok (.iconst (-1), 1) := by decide +kernel
theorem dX0_leafInHand_82 : decode cX0_leafInHand 82 = .ok (.ireturn, 1) := by decide +kernel
theorem dX1_ofSet_0 : decode cX1_ofSet 0 = .ok (.iload_n 0, 1) := by decide +kernel
theorem dX1_ofSet_1 : decode cX1_ofSet 1 = .ok (.iload_n 1, 1) := by decide +kernel
theorem dX1_ofSet_2 : decode cX1_ofSet 2 = .ok (.ishl, 1) := by decide +kernel
theorem dX1_ofSet_3 : decode cX1_ofSet 3 = .ok (.iload_n 0, 1) := by decide +kernel
theorem dX1_ofSet_4 : decode cX1_ofSet 4 = .ok (.iload_n 2, 1) := by decide +kernel
theorem dX1_ofSet_5 : decode cX1_ofSet 5 = .ok (.iload_n 1, 1) := by decide +kernel
theorem dX1_ofSet_6 : decode cX1_ofSet 6 = .ok (.isub, 1) := by decide +kernel
theorem dX1_ofSet_7 : decode cX1_ofSet 7 = .ok (.ishr, 1) := by decide +kernel
theorem dX1_ofSet_8 : decode cX1_ofSet 8 = .ok (.ior, 1) := by decide +kernel
theorem dX1_ofSet_9 : decode cX1_ofSet 9 = .ok (.iconst 1, 1) := by decide +kernel
theorem dX1_ofSet_10 : decode cX1_ofSet 10 = .ok (.iload_n 2, 1) := by decide +kernel
theorem dX1_ofSet_11 : decode cX1_ofSet 11 = .ok (.ishl, 1) := by decide +kernel
theorem dX1_ofSet_12 : decode cX1_ofSet 12 = .ok (.iconst 1, 1) := by decide +kernel
theorem dX1_ofSet_13 : decode cX1_ofSet 13 = .ok (.isub, 1) := by decide +kernel
theorem dX1_ofSet_14 : decode cX1_ofSet 14 = .ok (.iand, 1) := by decide +kernel
theorem dX1_ofSet_15 : decode cX1_ofSet 15 = .ok (.istore_n 3, 1) := by decide +kernel
theorem dX1_ofSet_16 : decode cX1_ofSet 16 = .ok (.iload_n 0, 1) := by decide +kernel
theorem dX1_ofSet_17 : decode cX1_ofSet 17 = .ok (.iload_n 3, 1) := by decide +kernel
theorem dX1_ofSet_18 : decode cX1_ofSet 18 = .ok (.iand, 1) := by decide +kernel
theorem dX1_ofSet_19 : decode cX1_ofSet 19 = .ok (.invokestatic 9, 3) := by decide +kernel
theorem dX1_ofSet_22 : decode cX1_ofSet 22 = .ok (.ireturn, 1) := by decide +kernel
theorem dX1_ofFamily_0 : decode cX1_ofFamily 0 = .ok (.iconst (-1), 1) := by decide +kernel
theorem dX1_ofFamily_1 : decode cX1_ofFamily 1 = .ok (.istore_n 1, 1) := by decide +kernel
theorem dX1_ofFamily_2 : decode cX1_ofFamily 2 = .ok (.iconst 1, 1) := by decide +kernel
theorem dX1_ofFamily_3 : decode cX1_ofFamily 3 = .ok (.istore_n 2, 1) := by decide +kernel
theorem dX1_ofFamily_4 : decode cX1_ofFamily 4 = .ok (.iload_n 2, 1) := by decide +kernel
theorem dX1_ofFamily_5 : decode cX1_ofFamily 5 = .ok (.aload_n 0, 1) := by decide +kernel
theorem dX1_ofFamily_6 : decode cX1_ofFamily 6 = .ok (.getfield 15, 3) := by decide +kernel
theorem dX1_ofFamily_9 : decode cX1_ofFamily 9 = .ok (.if_icmp .ge 34, 3) := by decide +kernel
theorem dX1_ofFamily_12 : decode cX1_ofFamily 12 = .ok (.aload_n 0, 1) := by decide +kernel
theorem dX1_ofFamily_13 : decode cX1_ofFamily 13 = .ok (.iload_n 2, 1) := by decide +kernel
theorem dX1_ofFamily_14 : decode cX1_ofFamily 14 = .ok (.invokestatic 21, 3) := by decide +kernel
theorem dX1_ofFamily_17 : decode cX1_ofFamily 17 = .ok (.istore_n 3, 1) := by decide +kernel
theorem dX1_ofFamily_18 : decode cX1_ofFamily 18 = .ok (.iload_n 3, 1) := by decide +kernel
theorem dX1_ofFamily_19 : decode cX1_ofFamily 19 = .ok (.iconst (-1), 1) := by decide +kernel
theorem dX1_ofFamily_20 : decode cX1_ofFamily 20 = .ok (.if_icmp .eq 13, 3) := by decide +kernel
theorem dX1_ofFamily_23 : decode cX1_ofFamily 23 = .ok (.iload_n 2, 1) := by decide +kernel
theorem dX1_ofFamily_24 : decode cX1_ofFamily 24 = .ok (.iconst 1, 1) := by decide +kernel
theorem dX1_ofFamily_25 : decode cX1_ofFamily 25 = .ok (.if_icmp .le 10, 3) := by decide +kernel
theorem dX1_ofFamily_28 : decode cX1_ofFamily 28 = .ok (.iload_n 3, 1) := by decide +kernel
theorem dX1_ofFamily_29 : decode cX1_ofFamily 29 = .ok (.iload_n 1, 1) := by decide +kernel
theorem dX1_ofFamily_30 : decode cX1_ofFamily 30 = .ok (.if_icmp .eq 5, 3) := by decide +kernel
theorem dX1_ofFamily_33 : decode cX1_ofFamily 33 = .ok (.iconst (-1), 1) := by decide +kernel
theorem dX1_ofFamily_34 : decode cX1_ofFamily 34 = .ok (.ireturn, 1) := by decide +kernel
theorem dX1_ofFamily_35 : decode cX1_ofFamily 35 = .ok (.iload_n 3, 1) := by decide +kernel
theorem dX1_ofFamily_36 : decode cX1_ofFamily 36 = .ok (.istore_n 1, 1) := by decide +kernel
theorem dX1_ofFamily_37 : decode cX1_ofFamily 37 = .ok (.iinc 2 1, 3) := by decide +kernel
theorem dX1_ofFamily_40 : decode cX1_ofFamily 40 = .ok (.goto (-36), 3) := by decide +kernel
theorem dX1_ofFamily_43 : decode cX1_ofFamily 43 = .ok (.iload_n 1, 1) := by decide +kernel
theorem dX1_ofFamily_44 : decode cX1_ofFamily 44 = .ok (.ireturn, 1) := by decide +kernel
theorem dX1_ofCycles_0 : decode cX1_ofCycles 0 = .ok (.iconst (-1), 1) := by decide +kernel
theorem dX1_ofCycles_1 : decode cX1_ofCycles 1 = .ok (.istore_n 2, 1) := by decide +kernel
theorem dX1_ofCycles_2 : decode cX1_ofCycles 2 = .ok (.iconst 0, 1) := by decide +kernel
theorem dX1_ofCycles_3 : decode cX1_ofCycles 3 = .ok (.istore_n 3, 1) := by decide +kernel
theorem dX1_ofCycles_4 : decode cX1_ofCycles 4 = .ok (.iload_n 3, 1) := by decide +kernel
theorem dX1_ofCycles_5 : decode cX1_ofCycles 5 = .ok (.aload_n 0, 1) := by decide +kernel
theorem dX1_ofCycles_6 : decode cX1_ofCycles 6 = .ok (.getfield 27, 3) := by decide +kernel
theorem dX1_ofCycles_9 : decode cX1_ofCycles 9 = .ok (.if_icmp .ge 39, 3) := by decide +kernel
theorem dX1_ofCycles_12 : decode cX1_ofCycles 12 = .ok (.aload_n 0, 1) := by decide +kernel
theorem dX1_ofCycles_13 : decode cX1_ofCycles 13 = .ok (.getfield 30, 3) := by decide +kernel
theorem dX1_ofCycles_16 : decode cX1_ofCycles 16 = .ok (.iload_n 3, 1) := by decide +kernel
theorem dX1_ofCycles_17 : decode cX1_ofCycles 17 = .ok (.iaload, 1) := by decide +kernel
theorem dX1_ofCycles_18 : decode cX1_ofCycles 18 = .ok (.iconst 1, 1) := by decide +kernel
theorem dX1_ofCycles_19 : decode cX1_ofCycles 19 = .ok (.if_icmp .ne 23, 3) := by decide +kernel
theorem dX1_ofCycles_22 : decode cX1_ofCycles 22 = .ok (.iload_n 2, 1) := by decide +kernel
theorem dX1_ofCycles_23 : decode cX1_ofCycles 23 = .ok (.iconst 0, 1) := by decide +kernel
theorem dX1_ofCycles_24 : decode cX1_ofCycles 24 = .ok (.invokestatic 34, 3) := by decide +kernel
theorem dX1_ofCycles_27 : decode cX1_ofCycles 27 = .ok (.aload_n 0, 1) := by decide +kernel
theorem dX1_ofCycles_28 : decode cX1_ofCycles 28 = .ok (.iload_n 3, 1) := by decide +kernel
theorem dX1_ofCycles_29 : decode cX1_ofCycles 29 = .ok (.invokevirtual 40, 3) := by decide +kernel
theorem dX1_ofCycles_32 : decode cX1_ofCycles 32 = .ok (.iload_n 1, 1) := by decide +kernel
theorem dX1_ofCycles_33 : decode cX1_ofCycles 33 = .ok (.aload_n 0, 1) := by decide +kernel
theorem dX1_ofCycles_34 : decode cX1_ofCycles 34 = .ok (.getfield 15, 3) := by decide +kernel
theorem dX1_ofCycles_37 : decode cX1_ofCycles 37 = .ok (.invokestatic 43, 3) := by decide +kernel
theorem dX1_ofCycles_40 : decode cX1_ofCycles 40 = .ok (.iadd, 1) := by decide +kernel
theorem dX1_ofCycles_41 : decode cX1_ofCycles 41 = .ok (.istore_n 2, 1) := by decide +kernel
theorem dX1_ofCycles_42 : decode cX1_ofCycles 42 = .ok (.iinc 3 1, 3) := by decide +kernel
theorem dX1_ofCycles_45 : decode cX1_ofCycles 45 = .ok (.goto (-41), 3) := by decide +kernel
theorem dX1_ofCycles_48 : decode cX1_ofCycles 48 = .ok (.iload_n 2, 1) := by decide +kernel
theorem dX1_ofCycles_49 : decode cX1_ofCycles 49 = .ok (.ireturn, 1) := by decide +kernel
theorem dX1_areAlike_0 : decode cX1_areAlike 0 = .ok (.iload_n 0, 1) := by decide +kernel
theorem dX1_areAlike_1 : decode cX1_areAlike 1 = .ok (.iconst 1, 1) := by decide +kernel
theorem dX1_areAlike_2 : decode cX1_areAlike 2 = .ok (.iload_n 1, 1) := by decide +kernel
theorem dX1_areAlike_3 : decode cX1_areAlike 3 = .ok (.invokestatic 43, 3) := by decide +kernel
theorem dX1_areAlike_6 : decode cX1_areAlike 6 = .ok (.istore_n 2, 1) := by decide +kernel
theorem dX1_areAlike_7 : decode cX1_areAlike 7 = .ok (.iconst 2, 1) := by decide +kernel
theorem dX1_areAlike_8 : decode cX1_areAlike 8 = .ok (.istore_n 3, 1) := by decide +kernel
theorem dX1_areAlike_9 : decode cX1_areAlike 9 = .ok (.iload_n 3, 1) := by decide +kernel
theorem dX1_areAlike_10 : decode cX1_areAlike 10 = .ok (.iload_n 1, 1) := by decide +kernel
theorem dX1_areAlike_11 : decode cX1_areAlike 11 = .ok (.if_icmp .ge 21, 3) := by decide +kernel
theorem dX1_areAlike_14 : decode cX1_areAlike 14 = .ok (.iload_n 0, 1) := by decide +kernel
theorem dX1_areAlike_15 : decode cX1_areAlike 15 = .ok (.iload_n 3, 1) := by decide +kernel
theorem dX1_areAlike_16 : decode cX1_areAlike 16 = .ok (.iload_n 1, 1) := by decide +kernel
theorem dX1_areAlike_17 : decode cX1_areAlike 17 = .ok (.invokestatic 43, 3) := by decide +kernel
theorem dX1_areAlike_20 : decode cX1_areAlike 20 = .ok (.iload_n 2, 1) := by decide +kernel
theorem dX1_areAlike_21 : decode cX1_areAlike 21 = .ok (.if_icmp .eq 5, 3) := by decide +kernel
theorem dX1_areAlike_24 : decode cX1_areAlike 24 = .ok (.iconst 0, 1) := by decide +kernel
theorem dX1_areAlike_25 : decode cX1_areAlike 25 = .ok (.ireturn, 1) := by decide +kernel
theorem dX1_areAlike_26 : decode cX1_areAlike 26 = .ok (.iinc 3 1, 3) := by decide +kernel
theorem dX1_areAlike_29 : decode cX1_areAlike 29 = .ok (.goto (-20), 3) := by decide +kernel
theorem dX1_areAlike_32 : decode cX1_areAlike 32 = .ok (.iconst 1, 1) := by decide +kernel
theorem dX1_areAlike_33 : decode cX1_areAlike 33 = .ok (.ireturn, 1) := by decide +kernel
theorem dX1_firstAlike_0 : decode cX1_firstAlike 0 = .ok (.iload_n 1, 1) := by decide +kernel
theorem dX1_firstAlike_1 : decode cX1_firstAlike 1 = .ok (.iconst 2, 1) := by decide +kernel
theorem dX1_firstAlike_2 : decode cX1_firstAlike 2 = .ok (.if_icmp .lt 8, 3) := by decide +kernel
theorem dX1_firstAlike_5 : decode cX1_firstAlike 5 = .ok (.iload_n 0, 1) := by decide +kernel
theorem dX1_firstAlike_6 : decode cX1_firstAlike 6 = .ok (.iload_n 1, 1) := by decide +kernel
theorem dX1_firstAlike_7 : decode cX1_firstAlike 7 = .ok (.if_icmp .le 7, 3) := by decide +kernel
theorem dX1_firstAlike_10 : decode cX1_firstAlike 10 = .ok (.iconst (-1), 1) := by decide +kernel
theorem dX1_firstAlike_11 : decode cX1_firstAlike 11 = .ok (.goto 12, 3) := by decide +kernel
theorem dX1_firstAlike_14 : decode cX1_firstAlike 14 = .ok (.iconst 1, 1) := by decide +kernel
theorem dX1_firstAlike_15 : decode cX1_firstAlike 15 = .ok (.iconst 1, 1) := by decide +kernel
theorem dX1_firstAlike_16 : decode cX1_firstAlike 16 = .ok (.iload_n 0, 1) := by decide +kernel
theorem dX1_firstAlike_17 : decode cX1_firstAlike 17 = .ok (.iconst 1, 1) := by decide +kernel
theorem dX1_firstAlike_18 : decode cX1_firstAlike 18 = .ok (.isub, 1) := by decide +kernel
theorem dX1_firstAlike_19 : decode cX1_firstAlike 19 = .ok (.iload_n 1, 1) := by decide +kernel
theorem dX1_firstAlike_20 : decode cX1_firstAlike 20 = .ok (.invokestatic 47, 3) := by decide +kernel
theorem dX1_firstAlike_23 : decode cX1_firstAlike 23 = .ok (.ireturn, 1) := by decide +kernel
theorem dX1_firstAlikeFrom_0 : decode cX1_firstAlikeFrom 0 = .ok (.iload_n 2, 1) := by decide +kernel
theorem dX1_firstAlikeFrom_1 : decode cX1_firstAlikeFrom 1 = .ok (.ifCond .gt 17, 3) := by decide +kernel
theorem dX1_firstAlikeFrom_4 : decode cX1_firstAlikeFrom 4 = .ok (.iload_n 0, 1) := by decide +kernel
theorem dX1_firstAlikeFrom_5 : decode cX1_firstAlikeFrom 5 = .ok (.iload_n 3, 1) := by decide +kernel
theorem dX1_firstAlikeFrom_6 : decode cX1_firstAlikeFrom 6 = .ok (.invokestatic 51, 3) := by decide +kernel
theorem dX1_firstAlikeFrom_9 : decode cX1_firstAlikeFrom 9 = .ok (.ifCond .eq 7, 3) := by decide +kernel
theorem dX1_firstAlikeFrom_12 : decode cX1_firstAlikeFrom 12 = .ok (.iload_n 0, 1) := by decide +kernel
theorem dX1_firstAlikeFrom_13 : decode cX1_firstAlikeFrom 13 = .ok (.goto 4, 3) := by decide +kernel
theorem dX1_firstAlikeFrom_16 : decode cX1_firstAlikeFrom 16 = .ok (.iconst (-1), 1) := by decide +kernel
theorem dX1_firstAlikeFrom_17 : decode cX1_firstAlikeFrom 17 = .ok (.ireturn, 1) := by decide +kernel
theorem dX1_firstAlikeFrom_18 : decode cX1_firstAlikeFrom 18 = .ok (.iload_n 1, 1) := by decide +kernel
theorem dX1_firstAlikeFrom_19 : decode cX1_firstAlikeFrom 19 = .ok (.istore 4, 2) := by decide +kernel
theorem dX1_firstAlikeFrom_21 : decode cX1_firstAlikeFrom 21 = .ok (.iload 4, 2) := by decide +kernel
theorem dX1_firstAlikeFrom_23 : decode cX1_firstAlikeFrom 23 = .ok (.iload_n 2, 1) := by decide +kernel
theorem dX1_firstAlikeFrom_24 : decode cX1_firstAlikeFrom 24 = .ok (.iadd, 1) := by decide +kernel
theorem dX1_firstAlikeFrom_25 : decode cX1_firstAlikeFrom 25 = .ok (.iload_n 3, 1) := by decide +kernel
theorem dX1_firstAlikeFrom_26 : decode cX1_firstAlikeFrom 26 = .ok (.if_icmp .gt 37, 3) := by decide +kernel
theorem dX1_firstAlikeFrom_29 : decode cX1_firstAlikeFrom 29 = .ok (.iload_n 0, 1) := by decide +kernel
theorem dX1_firstAlikeFrom_30 : decode cX1_firstAlikeFrom 30 = .ok (.iconst 1, 1) := by decide +kernel
theorem dX1_firstAlikeFrom_31 : decode cX1_firstAlikeFrom 31 = .ok (.iload 4, 2) := by decide +kernel
theorem dX1_firstAlikeFrom_33 : decode cX1_firstAlikeFrom 33 = .ok (.ishl, 1) := by decide +kernel
theorem dX1_firstAlikeFrom_34 : decode cX1_firstAlikeFrom 34 = .ok (.ior, 1) := by decide +kernel
theorem dX1_firstAlikeFrom_35 : decode cX1_firstAlikeFrom 35 = .ok (.iload 4, 2) := by decide +kernel
theorem dX1_firstAlikeFrom_37 : decode cX1_firstAlikeFrom 37 = .ok (.iconst 1, 1) := by decide +kernel
theorem dX1_firstAlikeFrom_38 : decode cX1_firstAlikeFrom 38 = .ok (.iadd, 1) := by decide +kernel
theorem dX1_firstAlikeFrom_39 : decode cX1_firstAlikeFrom 39 = .ok (.iload_n 2, 1) := by decide +kernel
theorem dX1_firstAlikeFrom_40 : decode cX1_firstAlikeFrom 40 = .ok (.iconst 1, 1) := by decide +kernel
theorem dX1_firstAlikeFrom_41 : decode cX1_firstAlikeFrom 41 = .ok (.isub, 1) := by decide +kernel
theorem dX1_firstAlikeFrom_42 : decode cX1_firstAlikeFrom 42 = .ok (.iload_n 3, 1) := by decide +kernel
theorem dX1_firstAlikeFrom_43 : decode cX1_firstAlikeFrom 43 = .ok (.invokestatic 47, 3) := by decide +kernel
theorem dX1_firstAlikeFrom_46 : decode cX1_firstAlikeFrom 46 = .ok (.istore 5, 2) := by decide +kernel
theorem dX1_firstAlikeFrom_48 : decode cX1_firstAlikeFrom 48 = .ok (.iload 5, 2) := by decide +kernel
theorem dX1_firstAlikeFrom_50 : decode cX1_firstAlikeFrom 50 = .ok (.iconst (-1), 1) := by decide +kernel
theorem dX1_firstAlikeFrom_51 : decode cX1_firstAlikeFrom 51 = .ok (.if_icmp .eq 6, 3) := by decide +kernel
theorem dX1_firstAlikeFrom_54 : decode cX1_firstAlikeFrom 54 = .ok (.iload 5, 2) := by decide +kernel
theorem dX1_firstAlikeFrom_56 : decode cX1_firstAlikeFrom 56 = .ok (.ireturn, 1) := by decide +kernel
theorem dX1_firstAlikeFrom_57 : decode cX1_firstAlikeFrom 57 = .ok (.iinc 4 1, 3) := by decide +kernel
theorem dX1_firstAlikeFrom_60 : decode cX1_firstAlikeFrom 60 = .ok (.goto (-39), 3) := by decide +kernel
theorem dX1_firstAlikeFrom_63 : decode cX1_firstAlikeFrom 63 = .ok (.iconst (-1), 1) := by decide +kernel
theorem dX1_firstAlikeFrom_64 : decode cX1_firstAlikeFrom 64 = .ok (.ireturn, 1) := by decide +kernel
theorem dX2_init_0 : decode cX2_init 0 = .ok (.aload_n 0, 1) := by decide +kernel
theorem dX2_init_1 : decode cX2_init 1 = .ok (.invokespecial 1, 3) := by decide +kernel
theorem dX2_init_4 : decode cX2_init 4 = .ok (.aload_n 0, 1) := by decide +kernel
theorem dX2_init_5 : decode cX2_init 5 = .ok (.iload_n 1, 1) := by decide +kernel
theorem dX2_init_6 : decode cX2_init 6 = .ok (.i2l, 1) := by decide +kernel
theorem dX2_init_7 : decode cX2_init 7 = .ok (.putfield 7, 3) := by decide +kernel
theorem dX2_init_10 : decode cX2_init 10 = .ok (.return_, 1) := by decide +kernel
theorem dX2_below_0 : decode cX2_below 0 = .ok (.aload_n 0, 1) := by decide +kernel
theorem dX2_below_1 : decode cX2_below 1 = .ok (.aload_n 0, 1) := by decide +kernel
theorem dX2_below_2 : decode cX2_below 2 = .ok (.getfield 7, 3) := by decide +kernel
theorem dX2_below_5 : decode cX2_below 5 = .ok (.ldc2_w 13, 3) := by decide +kernel
theorem dX2_below_8 : decode cX2_below 8 = .ok (.lmul, 1) := by decide +kernel
theorem dX2_below_9 : decode cX2_below 9 = .ok (.ldc2_w 15, 3) := by decide +kernel
theorem dX2_below_12 : decode cX2_below 12 = .ok (.ladd, 1) := by decide +kernel
theorem dX2_below_13 : decode cX2_below 13 = .ok (.ldc2_w 17, 3) := by decide +kernel
theorem dX2_below_16 : decode cX2_below 16 = .ok (.lrem, 1) := by decide +kernel
theorem dX2_below_17 : decode cX2_below 17 = .ok (.putfield 7, 3) := by decide +kernel
theorem dX2_below_20 : decode cX2_below 20 = .ok (.iload_n 1, 1) := by decide +kernel
theorem dX2_below_21 : decode cX2_below 21 = .ok (.ifCond .le 18, 3) := by decide +kernel
theorem dX2_below_24 : decode cX2_below 24 = .ok (.aload_n 0, 1) := by decide +kernel
theorem dX2_below_25 : decode cX2_below 25 = .ok (.getfield 7, 3) := by decide +kernel
theorem dX2_below_28 : decode cX2_below 28 = .ok (.ldc2_w 19, 3) := by decide +kernel
theorem dX2_below_31 : decode cX2_below 31 = .ok (.ldiv, 1) := by decide +kernel
theorem dX2_below_32 : decode cX2_below 32 = .ok (.iload_n 1, 1) := by decide +kernel
theorem dX2_below_33 : decode cX2_below 33 = .ok (.i2l, 1) := by decide +kernel
theorem dX2_below_34 : decode cX2_below 34 = .ok (.lrem, 1) := by decide +kernel
theorem dX2_below_35 : decode cX2_below 35 = .ok (.l2i, 1) := by decide +kernel
theorem dX2_below_36 : decode cX2_below 36 = .ok (.goto 4, 3) := by decide +kernel
theorem dX2_below_39 : decode cX2_below 39 = .ok (.iconst 0, 1) := by decide +kernel
theorem dX2_below_40 : decode cX2_below 40 = .ok (.ireturn, 1) := by decide +kernel
theorem dX3_init_0 : decode cX3_init 0 = .ok (.aload_n 0, 1) := by decide +kernel
theorem dX3_init_1 : decode cX3_init 1 = .ok (.invokespecial 3, 3) := by decide +kernel
theorem dX3_init_4 : decode cX3_init 4 = .ok (.aload_n 0, 1) := by decide +kernel
theorem dX3_init_5 : decode cX3_init 5 = .ok (.sipush 1000, 3) := by decide +kernel
theorem dX3_init_8 : decode cX3_init 8 = .ok (.newarray .int, 2) := by decide +kernel
theorem dX3_init_10 : decode cX3_init 10 = .ok (.putfield 9, 3) := by decide +kernel
theorem dX3_init_13 : decode cX3_init 13 = .ok (.aload_n 0, 1) := by decide +kernel
theorem dX3_init_14 : decode cX3_init 14 = .ok (.bipush 24, 2) := by decide +kernel
theorem dX3_init_16 : decode cX3_init 16 = .ok (.newarray .int, 2) := by decide +kernel
theorem dX3_init_18 : decode cX3_init 18 = .ok (.putfield 15, 3) := by decide +kernel
theorem dX3_init_21 : decode cX3_init 21 = .ok (.return_, 1) := by decide +kernel
theorem dX3_add_0 : decode cX3_add 0 = .ok (.aload_n 0, 1) := by decide +kernel
theorem dX3_add_1 : decode cX3_add 1 = .ok (.getfield 18, 3) := by decide +kernel
theorem dX3_add_4 : decode cX3_add 4 = .ok (.aload_n 0, 1) := by decide +kernel
theorem dX3_add_5 : decode cX3_add 5 = .ok (.getfield 9, 3) := by decide +kernel
theorem dX3_add_8 : decode cX3_add 8 = .ok (.arraylength, 1) := by decide +kernel
theorem dX3_add_9 : decode cX3_add 9 = .ok (.if_icmp .ge 23, 3) := by decide +kernel
theorem dX3_add_12 : decode cX3_add 12 = .ok (.aload_n 0, 1) := by decide +kernel
theorem dX3_add_13 : decode cX3_add 13 = .ok (.getfield 9, 3) := by decide +kernel
theorem dX3_add_16 : decode cX3_add 16 = .ok (.aload_n 0, 1) := by decide +kernel
theorem dX3_add_17 : decode cX3_add 17 = .ok (.getfield 18, 3) := by decide +kernel
theorem dX3_add_20 : decode cX3_add 20 = .ok (.iload_n 1, 1) := by decide +kernel
theorem dX3_add_21 : decode cX3_add 21 = .ok (.iastore, 1) := by decide +kernel
theorem dX3_add_22 : decode cX3_add 22 = .ok (.aload_n 0, 1) := by decide +kernel
theorem dX3_add_23 : decode cX3_add 23 = .ok (.dup, 1) := by decide +kernel
theorem dX3_add_24 : decode cX3_add 24 = .ok (.getfield 18, 3) := by decide +kernel
theorem dX3_add_27 : decode cX3_add 27 = .ok (.iconst 1, 1) := by decide +kernel
theorem dX3_add_28 : decode cX3_add 28 = .ok (.iadd, 1) := by decide +kernel
theorem dX3_add_29 : decode cX3_add 29 = .ok (.putfield 18, 3) := by decide +kernel
theorem dX3_add_32 : decode cX3_add 32 = .ok (.return_, 1) := by decide +kernel
theorem dX3_parityOf_0 : decode cX3_parityOf 0 = .ok (.iload_n 2, 1) := by decide +kernel
theorem dX3_parityOf_1 : decode cX3_parityOf 1 = .ok (.iconst 1, 1) := by decide +kernel
theorem dX3_parityOf_2 : decode cX3_parityOf 2 = .ok (.if_icmp .ge 5, 3) := by decide +kernel
theorem dX3_parityOf_5 : decode cX3_parityOf 5 = .ok (.iconst 0, 1) := by decide +kernel
theorem dX3_parityOf_6 : decode cX3_parityOf 6 = .ok (.ireturn, 1) := by decide +kernel
theorem dX3_parityOf_7 : decode cX3_parityOf 7 = .ok (.aload_n 0, 1) := by decide +kernel
theorem dX3_parityOf_8 : decode cX3_parityOf 8 = .ok (.iconst 0, 1) := by decide +kernel
theorem dX3_parityOf_9 : decode cX3_parityOf 9 = .ok (.putfield 22, 3) := by decide +kernel
theorem dX3_parityOf_12 : decode cX3_parityOf 12 = .ok (.iconst 0, 1) := by decide +kernel
theorem dX3_parityOf_13 : decode cX3_parityOf 13 = .ok (.istore 5, 2) := by decide +kernel
theorem dX3_parityOf_15 : decode cX3_parityOf 15 = .ok (.iload 5, 2) := by decide +kernel
theorem dX3_parityOf_17 : decode cX3_parityOf 17 = .ok (.aload_n 0, 1) := by decide +kernel
theorem dX3_parityOf_18 : decode cX3_parityOf 18 = .ok (.getfield 18, 3) := by decide +kernel
theorem dX3_parityOf_21 : decode cX3_parityOf 21 = .ok (.if_icmp .ge 112, 3) := by decide +kernel
theorem dX3_parityOf_24 : decode cX3_parityOf 24 = .ok (.aload_n 0, 1) := by decide +kernel
theorem dX3_parityOf_25 : decode cX3_parityOf 25 = .ok (.getfield 9, 3) := by decide +kernel
theorem dX3_parityOf_28 : decode cX3_parityOf 28 = .ok (.iload 5, 2) := by decide +kernel
theorem dX3_parityOf_30 : decode cX3_parityOf 30 = .ok (.iaload, 1) := by decide +kernel
theorem dX3_parityOf_31 : decode cX3_parityOf 31 = .ok (.tableswitch 85 (-6) (-2) #[66, 57, 49, 41, 33], 33) := by decide +kernel
theorem dX3_parityOf_64 : decode cX3_parityOf 64 = .ok (.aload_n 0, 1) := by decide +kernel
theorem dX3_parityOf_65 : decode cX3_parityOf 65 = .ok (.iload_n 1, 1) := by decide +kernel
theorem dX3_parityOf_66 : decode cX3_parityOf 66 = .ok (.invokevirtual 25, 3) := by decide +kernel
theorem dX3_parityOf_69 : decode cX3_parityOf 69 = .ok (.goto 58, 3) := by decide +kernel
theorem dX3_parityOf_72 : decode cX3_parityOf 72 = .ok (.aload_n 0, 1) := by decide +kernel
theorem dX3_parityOf_73 : decode cX3_parityOf 73 = .ok (.iload_n 2, 1) := by decide +kernel
theorem dX3_parityOf_74 : decode cX3_parityOf 74 = .ok (.invokevirtual 25, 3) := by decide +kernel
theorem dX3_parityOf_77 : decode cX3_parityOf 77 = .ok (.goto 50, 3) := by decide +kernel
theorem dX3_parityOf_80 : decode cX3_parityOf 80 = .ok (.aload_n 0, 1) := by decide +kernel
theorem dX3_parityOf_81 : decode cX3_parityOf 81 = .ok (.iload_n 3, 1) := by decide +kernel
theorem dX3_parityOf_82 : decode cX3_parityOf 82 = .ok (.invokevirtual 25, 3) := by decide +kernel
theorem dX3_parityOf_85 : decode cX3_parityOf 85 = .ok (.goto 42, 3) := by decide +kernel
theorem dX3_parityOf_88 : decode cX3_parityOf 88 = .ok (.aload_n 0, 1) := by decide +kernel
theorem dX3_parityOf_89 : decode cX3_parityOf 89 = .ok (.iload 4, 2) := by decide +kernel
theorem dX3_parityOf_91 : decode cX3_parityOf 91 = .ok (.invokevirtual 25, 3) := by decide +kernel
theorem dX3_parityOf_94 : decode cX3_parityOf 94 = .ok (.goto 33, 3) := by decide +kernel
theorem dX3_parityOf_97 : decode cX3_parityOf 97 = .ok (.aload_n 0, 1) := by decide +kernel
theorem dX3_parityOf_98 : decode cX3_parityOf 98 = .ok (.aload_n 0, 1) := by decide +kernel
theorem dX3_parityOf_99 : decode cX3_parityOf 99 = .ok (.invokevirtual 29, 3) := by decide +kernel
theorem dX3_parityOf_102 : decode cX3_parityOf 102 = .ok (.ifCond .ne 7, 3) := by decide +kernel
theorem dX3_parityOf_105 : decode cX3_parityOf 105 = .ok (.iconst 1, 1) := by decide +kernel
theorem dX3_parityOf_106 : decode cX3_parityOf 106 = .ok (.goto 4, 3) := by decide +kernel
theorem dX3_parityOf_109 : decode cX3_parityOf 109 = .ok (.iconst 0, 1) := by decide +kernel
theorem dX3_parityOf_110 : decode cX3_parityOf 110 = .ok (.invokevirtual 25, 3) := by decide +kernel
theorem dX3_parityOf_113 : decode cX3_parityOf 113 = .ok (.goto 14, 3) := by decide +kernel
theorem dX3_parityOf_116 : decode cX3_parityOf 116 = .ok (.aload_n 0, 1) := by decide +kernel
theorem dX3_parityOf_117 : decode cX3_parityOf 117 = .ok (.aload_n 0, 1) := by decide +kernel
theorem dX3_parityOf_118 : decode cX3_parityOf 118 = .ok (.getfield 9, 3) := by decide +kernel
theorem dX3_parityOf_121 : decode cX3_parityOf 121 = .ok (.iload 5, 2) := by decide +kernel
theorem dX3_parityOf_123 : decode cX3_parityOf 123 = .ok (.iaload, 1) := by decide +kernel
theorem dX3_parityOf_124 : decode cX3_parityOf 124 = .ok (.invokevirtual 33, 3) := by decide +kernel
theorem dX3_parityOf_127 : decode cX3_parityOf 127 = .ok (.iinc 5 1, 3) := by decide +kernel
theorem dX3_parityOf_130 : decode cX3_parityOf 130 = .ok (.goto (-115), 3) := by decide +kernel
theorem dX3_parityOf_133 : decode cX3_parityOf 133 = .ok (.aload_n 0, 1) := by decide +kernel
theorem dX3_parityOf_134 : decode cX3_parityOf 134 = .ok (.getfield 18, 3) := by decide +kernel
theorem dX3_parityOf_137 : decode cX3_parityOf 137 = .ok (.ifCond .ne 7, 3) := by decide +kernel
theorem dX3_parityOf_140 : decode cX3_parityOf 140 = .ok (.iload_n 1, 1) := by decide +kernel
theorem dX3_parityOf_141 : decode cX3_parityOf 141 = .ok (.goto 7, 3) := by decide +kernel
theorem dX3_parityOf_144 : decode cX3_parityOf 144 = .ok (.aload_n 0, 1) := by decide +kernel
theorem dX3_parityOf_145 : decode cX3_parityOf 145 = .ok (.invokevirtual 29, 3) := by decide +kernel
theorem dX3_parityOf_148 : decode cX3_parityOf 148 = .ok (.iload_n 2, 1) := by decide +kernel
theorem dX3_parityOf_149 : decode cX3_parityOf 149 = .ok (.invokestatic 36, 3) := by decide +kernel
theorem dX3_parityOf_152 : decode cX3_parityOf 152 = .ok (.ireturn, 1) := by decide +kernel
theorem dX3_pushOther_0 : decode cX3_pushOther 0 = .ok (.iload_n 1, 1) := by decide +kernel
theorem dX3_pushOther_1 : decode cX3_pushOther 1 = .ok (.ifCond .lt 11, 3) := by decide +kernel
theorem dX3_pushOther_4 : decode cX3_pushOther 4 = .ok (.aload_n 0, 1) := by decide +kernel
theorem dX3_pushOther_5 : decode cX3_pushOther 5 = .ok (.iload_n 1, 1) := by decide +kernel
theorem dX3_pushOther_6 : decode cX3_pushOther 6 = .ok (.invokevirtual 25, 3) := by decide +kernel
theorem dX3_pushOther_9 : decode cX3_pushOther 9 = .ok (.goto 23, 3) := by decide +kernel
theorem dX3_pushOther_12 : decode cX3_pushOther 12 = .ok (.aload_n 0, 1) := by decide +kernel
theorem dX3_pushOther_13 : decode cX3_pushOther 13 = .ok (.invokevirtual 29, 3) := by decide +kernel
theorem dX3_pushOther_16 : decode cX3_pushOther 16 = .ok (.istore_n 2, 1) := by decide +kernel
theorem dX3_pushOther_17 : decode cX3_pushOther 17 = .ok (.aload_n 0, 1) := by decide +kernel
theorem dX3_pushOther_18 : decode cX3_pushOther 18 = .ok (.invokevirtual 29, 3) := by decide +kernel
theorem dX3_pushOther_21 : decode cX3_pushOther 21 = .ok (.istore_n 3, 1) := by decide +kernel
theorem dX3_pushOther_22 : decode cX3_pushOther 22 = .ok (.aload_n 0, 1) := by decide +kernel
theorem dX3_pushOther_23 : decode cX3_pushOther 23 = .ok (.iload_n 1, 1) := by decide +kernel
theorem dX3_pushOther_24 : decode cX3_pushOther 24 = .ok (.iload_n 3, 1) := by decide +kernel
theorem dX3_pushOther_25 : decode cX3_pushOther 25 = .ok (.iload_n 2, 1) := by decide +kernel
theorem dX3_pushOther_26 : decode cX3_pushOther 26 = .ok (.invokestatic 42, 3) := by decide +kernel
theorem dX3_pushOther_29 : decode cX3_pushOther 29 = .ok (.invokevirtual 25, 3) := by decide +kernel
theorem dX3_pushOther_32 : decode cX3_pushOther 32 = .ok (.return_, 1) := by decide +kernel
theorem dX3_joined_0 : decode cX3_joined 0 = .ok (.iload_n 0, 1) := by decide +kernel
theorem dX3_joined_1 : decode cX3_joined 1 = .ok (.tableswitch 97 (-12) (-7) #[93, 89, 78, 67, 53, 39], 39) := by decide +kernel
theorem dX3_joined_40 : decode cX3_joined 40 = .ok (.iload_n 1, 1) := by decide +kernel
theorem dX3_joined_41 : decode cX3_joined 41 = .ok (.ifCond .eq 11, 3) := by decide +kernel
theorem dX3_joined_44 : decode cX3_joined 44 = .ok (.iload_n 2, 1) := by decide +kernel
theorem dX3_joined_45 : decode cX3_joined 45 = .ok (.ifCond .eq 7, 3) := by decide +kernel
theorem dX3_joined_48 : decode cX3_joined 48 = .ok (.iconst 1, 1) := by decide +kernel
theorem dX3_joined_49 : decode cX3_joined 49 = .ok (.goto 4, 3) := by decide +kernel
theorem dX3_joined_52 : decode cX3_joined 52 = .ok (.iconst 0, 1) := by decide +kernel
theorem dX3_joined_53 : decode cX3_joined 53 = .ok (.ireturn, 1) := by decide +kernel
theorem dX3_joined_54 : decode cX3_joined 54 = .ok (.iload_n 1, 1) := by decide +kernel
theorem dX3_joined_55 : decode cX3_joined 55 = .ok (.ifCond .ne 7, 3) := by decide +kernel
theorem dX3_joined_58 : decode cX3_joined 58 = .ok (.iload_n 2, 1) := by decide +kernel
theorem dX3_joined_59 : decode cX3_joined 59 = .ok (.ifCond .eq 7, 3) := by decide +kernel
theorem dX3_joined_62 : decode cX3_joined 62 = .ok (.iconst 1, 1) := by decide +kernel
theorem dX3_joined_63 : decode cX3_joined 63 = .ok (.goto 4, 3) := by decide +kernel
theorem dX3_joined_66 : decode cX3_joined 66 = .ok (.iconst 0, 1) := by decide +kernel
theorem dX3_joined_67 : decode cX3_joined 67 = .ok (.ireturn, 1) := by decide +kernel
theorem dX3_joined_68 : decode cX3_joined 68 = .ok (.iload_n 1, 1) := by decide +kernel
theorem dX3_joined_69 : decode cX3_joined 69 = .ok (.iload_n 2, 1) := by decide +kernel
theorem dX3_joined_70 : decode cX3_joined 70 = .ok (.if_icmp .ge 7, 3) := by decide +kernel
theorem dX3_joined_73 : decode cX3_joined 73 = .ok (.iconst 1, 1) := by decide +kernel
theorem dX3_joined_74 : decode cX3_joined 74 = .ok (.goto 4, 3) := by decide +kernel
theorem dX3_joined_77 : decode cX3_joined 77 = .ok (.iconst 0, 1) := by decide +kernel
theorem dX3_joined_78 : decode cX3_joined 78 = .ok (.ireturn, 1) := by decide +kernel
theorem dX3_joined_79 : decode cX3_joined 79 = .ok (.iload_n 1, 1) := by decide +kernel
theorem dX3_joined_80 : decode cX3_joined 80 = .ok (.iload_n 2, 1) := by decide +kernel
theorem dX3_joined_81 : decode cX3_joined 81 = .ok (.if_icmp .ne 7, 3) := by decide +kernel
theorem dX3_joined_84 : decode cX3_joined 84 = .ok (.iconst 1, 1) := by decide +kernel
theorem dX3_joined_85 : decode cX3_joined 85 = .ok (.goto 4, 3) := by decide +kernel
theorem dX3_joined_88 : decode cX3_joined 88 = .ok (.iconst 0, 1) := by decide +kernel
theorem dX3_joined_89 : decode cX3_joined 89 = .ok (.ireturn, 1) := by decide +kernel
theorem dX3_joined_90 : decode cX3_joined 90 = .ok (.iload_n 1, 1) := by decide +kernel
theorem dX3_joined_91 : decode cX3_joined 91 = .ok (.iload_n 2, 1) := by decide +kernel
theorem dX3_joined_92 : decode cX3_joined 92 = .ok (.iadd, 1) := by decide +kernel
theorem dX3_joined_93 : decode cX3_joined 93 = .ok (.ireturn, 1) := by decide +kernel
theorem dX3_joined_94 : decode cX3_joined 94 = .ok (.iload_n 1, 1) := by decide +kernel
theorem dX3_joined_95 : decode cX3_joined 95 = .ok (.iload_n 2, 1) := by decide +kernel
theorem dX3_joined_96 : decode cX3_joined 96 = .ok (.isub, 1) := by decide +kernel
theorem dX3_joined_97 : decode cX3_joined 97 = .ok (.ireturn, 1) := by decide +kernel
theorem dX3_joined_98 : decode cX3_joined 98 = .ok (.iload_n 1, 1) := by decide +kernel
theorem dX3_joined_99 : decode cX3_joined 99 = .ok (.iload_n 2, 1) := by decide +kernel
theorem dX3_joined_100 : decode cX3_joined 100 = .ok (.imul, 1) := by decide +kernel
theorem dX3_joined_101 : decode cX3_joined 101 = .ok (.ireturn, 1) := by decide +kernel
theorem dX3_push_0 : decode cX3_push 0 = .ok (.aload_n 0, 1) := by decide +kernel
theorem dX3_push_1 : decode cX3_push 1 = .ok (.getfield 22, 3) := by decide +kernel
theorem dX3_push_4 : decode cX3_push 4 = .ok (.aload_n 0, 1) := by decide +kernel
theorem dX3_push_5 : decode cX3_push 5 = .ok (.getfield 15, 3) := by decide +kernel
theorem dX3_push_8 : decode cX3_push 8 = .ok (.arraylength, 1) := by decide +kernel
theorem dX3_push_9 : decode cX3_push 9 = .ok (.if_icmp .ge 23, 3) := by decide +kernel
theorem dX3_push_12 : decode cX3_push 12 = .ok (.aload_n 0, 1) := by decide +kernel
theorem dX3_push_13 : decode cX3_push 13 = .ok (.getfield 15, 3) := by decide +kernel
theorem dX3_push_16 : decode cX3_push 16 = .ok (.aload_n 0, 1) := by decide +kernel
theorem dX3_push_17 : decode cX3_push 17 = .ok (.getfield 22, 3) := by decide +kernel
theorem dX3_push_20 : decode cX3_push 20 = .ok (.iload_n 1, 1) := by decide +kernel
theorem dX3_push_21 : decode cX3_push 21 = .ok (.iastore, 1) := by decide +kernel
theorem dX3_push_22 : decode cX3_push 22 = .ok (.aload_n 0, 1) := by decide +kernel
theorem dX3_push_23 : decode cX3_push 23 = .ok (.dup, 1) := by decide +kernel
theorem dX3_push_24 : decode cX3_push 24 = .ok (.getfield 22, 3) := by decide +kernel
theorem dX3_push_27 : decode cX3_push 27 = .ok (.iconst 1, 1) := by decide +kernel
theorem dX3_push_28 : decode cX3_push 28 = .ok (.iadd, 1) := by decide +kernel
theorem dX3_push_29 : decode cX3_push 29 = .ok (.putfield 22, 3) := by decide +kernel
theorem dX3_push_32 : decode cX3_push 32 = .ok (.return_, 1) := by decide +kernel
theorem dX3_pop_0 : decode cX3_pop 0 = .ok (.aload_n 0, 1) := by decide +kernel
theorem dX3_pop_1 : decode cX3_pop 1 = .ok (.getfield 22, 3) := by decide +kernel
theorem dX3_pop_4 : decode cX3_pop 4 = .ok (.iconst 1, 1) := by decide +kernel
theorem dX3_pop_5 : decode cX3_pop 5 = .ok (.if_icmp .ge 5, 3) := by decide +kernel
theorem dX3_pop_8 : decode cX3_pop 8 = .ok (.iconst 0, 1) := by decide +kernel
theorem dX3_pop_9 : decode cX3_pop 9 = .ok (.ireturn, 1) := by decide +kernel
theorem dX3_pop_10 : decode cX3_pop 10 = .ok (.aload_n 0, 1) := by decide +kernel
theorem dX3_pop_11 : decode cX3_pop 11 = .ok (.dup, 1) := by decide +kernel
theorem dX3_pop_12 : decode cX3_pop 12 = .ok (.getfield 22, 3) := by decide +kernel
theorem dX3_pop_15 : decode cX3_pop 15 = .ok (.iconst 1, 1) := by decide +kernel
theorem dX3_pop_16 : decode cX3_pop 16 = .ok (.isub, 1) := by decide +kernel
theorem dX3_pop_17 : decode cX3_pop 17 = .ok (.putfield 22, 3) := by decide +kernel
theorem dX3_pop_20 : decode cX3_pop 20 = .ok (.aload_n 0, 1) := by decide +kernel
theorem dX3_pop_21 : decode cX3_pop 21 = .ok (.getfield 15, 3) := by decide +kernel
theorem dX3_pop_24 : decode cX3_pop 24 = .ok (.aload_n 0, 1) := by decide +kernel
theorem dX3_pop_25 : decode cX3_pop 25 = .ok (.getfield 22, 3) := by decide +kernel
theorem dX3_pop_28 : decode cX3_pop 28 = .ok (.iaload, 1) := by decide +kernel
theorem dX3_pop_29 : decode cX3_pop 29 = .ok (.ireturn, 1) := by decide +kernel
theorem dX4_init_0 : decode cX4_init 0 = .ok (.aload_n 0, 1) := by decide +kernel
theorem dX4_init_1 : decode cX4_init 1 = .ok (.invokespecial 3, 3) := by decide +kernel
theorem dX4_init_4 : decode cX4_init 4 = .ok (.aload_n 0, 1) := by decide +kernel
theorem dX4_init_5 : decode cX4_init 5 = .ok (.bipush 40, 2) := by decide +kernel
theorem dX4_init_7 : decode cX4_init 7 = .ok (.newarray .int, 2) := by decide +kernel
theorem dX4_init_9 : decode cX4_init 9 = .ok (.putfield 9, 3) := by decide +kernel
theorem dX4_init_12 : decode cX4_init 12 = .ok (.aload_n 0, 1) := by decide +kernel
theorem dX4_init_13 : decode cX4_init 13 = .ok (.bipush 40, 2) := by decide +kernel
theorem dX4_init_15 : decode cX4_init 15 = .ok (.newarray .int, 2) := by decide +kernel
theorem dX4_init_17 : decode cX4_init 17 = .ok (.putfield 15, 3) := by decide +kernel
theorem dX4_init_20 : decode cX4_init 20 = .ok (.aload_n 0, 1) := by decide +kernel
theorem dX4_init_21 : decode cX4_init 21 = .ok (.bipush 40, 2) := by decide +kernel
theorem dX4_init_23 : decode cX4_init 23 = .ok (.newarray .int, 2) := by decide +kernel
theorem dX4_init_25 : decode cX4_init 25 = .ok (.putfield 18, 3) := by decide +kernel
theorem dX4_init_28 : decode cX4_init 28 = .ok (.aload_n 0, 1) := by decide +kernel
theorem dX4_init_29 : decode cX4_init 29 = .ok (.bipush 40, 2) := by decide +kernel
theorem dX4_init_31 : decode cX4_init 31 = .ok (.newarray .int, 2) := by decide +kernel
theorem dX4_init_33 : decode cX4_init 33 = .ok (.putfield 21, 3) := by decide +kernel
theorem dX4_init_36 : decode cX4_init 36 = .ok (.aload_n 0, 1) := by decide +kernel
theorem dX4_init_37 : decode cX4_init 37 = .ok (.bipush 40, 2) := by decide +kernel
theorem dX4_init_39 : decode cX4_init 39 = .ok (.newarray .int, 2) := by decide +kernel
theorem dX4_init_41 : decode cX4_init 41 = .ok (.putfield 24, 3) := by decide +kernel
theorem dX4_init_44 : decode cX4_init 44 = .ok (.aload_n 0, 1) := by decide +kernel
theorem dX4_init_45 : decode cX4_init 45 = .ok (.bipush 40, 2) := by decide +kernel
theorem dX4_init_47 : decode cX4_init 47 = .ok (.newarray .int, 2) := by decide +kernel
theorem dX4_init_49 : decode cX4_init 49 = .ok (.putfield 27, 3) := by decide +kernel
theorem dX4_init_52 : decode cX4_init 52 = .ok (.aload_n 0, 1) := by decide +kernel
theorem dX4_init_53 : decode cX4_init 53 = .ok (.sipush 200, 3) := by decide +kernel
theorem dX4_init_56 : decode cX4_init 56 = .ok (.newarray .int, 2) := by decide +kernel
theorem dX4_init_58 : decode cX4_init 58 = .ok (.putfield 30, 3) := by decide +kernel
theorem dX4_init_61 : decode cX4_init 61 = .ok (.aload_n 0, 1) := by decide +kernel
theorem dX4_init_62 : decode cX4_init 62 = .ok (.sipush 200, 3) := by decide +kernel
theorem dX4_init_65 : decode cX4_init 65 = .ok (.newarray .int, 2) := by decide +kernel
theorem dX4_init_67 : decode cX4_init 67 = .ok (.putfield 33, 3) := by decide +kernel
theorem dX4_init_70 : decode cX4_init 70 = .ok (.aload_n 0, 1) := by decide +kernel
theorem dX4_init_71 : decode cX4_init 71 = .ok (.sipush 200, 3) := by decide +kernel
theorem dX4_init_74 : decode cX4_init 74 = .ok (.newarray .int, 2) := by decide +kernel
theorem dX4_init_76 : decode cX4_init 76 = .ok (.putfield 36, 3) := by decide +kernel
theorem dX4_init_79 : decode cX4_init 79 = .ok (.aload_n 0, 1) := by decide +kernel
theorem dX4_init_80 : decode cX4_init 80 = .ok (.sipush 160, 3) := by decide +kernel
theorem dX4_init_83 : decode cX4_init 83 = .ok (.newarray .int, 2) := by decide +kernel
theorem dX4_init_85 : decode cX4_init 85 = .ok (.putfield 39, 3) := by decide +kernel
theorem dX4_init_88 : decode cX4_init 88 = .ok (.aload_n 0, 1) := by decide +kernel
theorem dX4_init_89 : decode cX4_init 89 = .ok (.bipush 13, 2) := by decide +kernel
theorem dX4_init_91 : decode cX4_init 91 = .ok (.newarray .int, 2) := by decide +kernel
theorem dX4_init_93 : decode cX4_init 93 = .ok (.putfield 42, 3) := by decide +kernel
theorem dX4_init_96 : decode cX4_init 96 = .ok (.aload_n 0, 1) := by decide +kernel
theorem dX4_init_97 : decode cX4_init 97 = .ok (.bipush 13, 2) := by decide +kernel
theorem dX4_init_99 : decode cX4_init 99 = .ok (.newarray .int, 2) := by decide +kernel
theorem dX4_init_101 : decode cX4_init 101 = .ok (.putfield 45, 3) := by decide +kernel
theorem dX4_init_104 : decode cX4_init 104 = .ok (.aload_n 0, 1) := by decide +kernel
theorem dX4_init_105 : decode cX4_init 105 = .ok (.bipush 13, 2) := by decide +kernel
theorem dX4_init_107 : decode cX4_init 107 = .ok (.newarray .int, 2) := by decide +kernel
theorem dX4_init_109 : decode cX4_init 109 = .ok (.putfield 48, 3) := by decide +kernel
theorem dX4_init_112 : decode cX4_init 112 = .ok (.return_, 1) := by decide +kernel
theorem dX4_build_0 : decode cX4_build 0 = .ok (.aload_n 0, 1) := by decide +kernel
theorem dX4_build_1 : decode cX4_build 1 = .ok (.iload_n 2, 1) := by decide +kernel
theorem dX4_build_2 : decode cX4_build 2 = .ok (.invokevirtual 51, 3) := by decide +kernel
theorem dX4_build_5 : decode cX4_build 5 = .ok (.aload_n 1, 1) := by decide +kernel
theorem dX4_build_6 : decode cX4_build 6 = .ok (.aload_n 1, 1) := by decide +kernel
theorem dX4_build_7 : decode cX4_build 7 = .ok (.getfield 55, 3) := by decide +kernel
theorem dX4_build_10 : decode cX4_build 10 = .ok (.iload_n 2, 1) := by decide +kernel
theorem dX4_build_11 : decode cX4_build 11 = .ok (.invokevirtual 61, 3) := by decide +kernel
theorem dX4_build_14 : decode cX4_build 14 = .ok (.bipush 40, 2) := by decide +kernel
theorem dX4_build_16 : decode cX4_build 16 = .ok (.if_icmp .le 5, 3) := by decide +kernel
theorem dX4_build_19 : decode cX4_build 19 = .ok (.iconst 0, 1) := by decide +kernel
theorem dX4_build_20 : decode cX4_build 20 = .ok (.ireturn, 1) := by decide +kernel
theorem dX4_build_21 : decode cX4_build 21 = .ok (.iconst 0, 1) := by decide +kernel
theorem dX4_build_22 : decode cX4_build 22 = .ok (.istore_n 3, 1) := by decide +kernel
theorem dX4_build_23 : decode cX4_build 23 = .ok (.iload_n 3, 1) := by decide +kernel
theorem dX4_build_24 : decode cX4_build 24 = .ok (.aload_n 1, 1) := by decide +kernel
theorem dX4_build_25 : decode cX4_build 25 = .ok (.getfield 55, 3) := by decide +kernel
theorem dX4_build_28 : decode cX4_build 28 = .ok (.if_icmp .ge 41, 3) := by decide +kernel
theorem dX4_build_31 : decode cX4_build 31 = .ok (.aload_n 1, 1) := by decide +kernel
theorem dX4_build_32 : decode cX4_build 32 = .ok (.iload_n 3, 1) := by decide +kernel
theorem dX4_build_33 : decode cX4_build 33 = .ok (.iload_n 2, 1) := by decide +kernel
theorem dX4_build_34 : decode cX4_build 34 = .ok (.invokevirtual 65, 3) := by decide +kernel
theorem dX4_build_37 : decode cX4_build 37 = .ok (.istore 4, 2) := by decide +kernel
theorem dX4_build_39 : decode cX4_build 39 = .ok (.iconst 0, 1) := by decide +kernel
theorem dX4_build_40 : decode cX4_build 40 = .ok (.istore 5, 2) := by decide +kernel
theorem dX4_build_42 : decode cX4_build 42 = .ok (.iload 5, 2) := by decide +kernel
theorem dX4_build_44 : decode cX4_build 44 = .ok (.iload 4, 2) := by decide +kernel
theorem dX4_build_46 : decode cX4_build 46 = .ok (.if_icmp .ge 17, 3) := by decide +kernel
theorem dX4_build_49 : decode cX4_build 49 = .ok (.aload_n 0, 1) := by decide +kernel
theorem dX4_build_50 : decode cX4_build 50 = .ok (.aload_n 1, 1) := by decide +kernel
theorem dX4_build_51 : decode cX4_build 51 = .ok (.iload_n 3, 1) := by decide +kernel
theorem dX4_build_52 : decode cX4_build 52 = .ok (.iload 5, 2) := by decide +kernel
theorem dX4_build_54 : decode cX4_build 54 = .ok (.invokevirtual 68, 3) := by decide +kernel
theorem dX4_build_57 : decode cX4_build 57 = .ok (.iinc 5 1, 3) := by decide +kernel
theorem dX4_build_60 : decode cX4_build 60 = .ok (.goto (-18), 3) := by decide +kernel
theorem dX4_build_63 : decode cX4_build 63 = .ok (.iinc 3 1, 3) := by decide +kernel
theorem dX4_build_66 : decode cX4_build 66 = .ok (.goto (-43), 3) := by decide +kernel
theorem dX4_build_69 : decode cX4_build 69 = .ok (.iconst 0, 1) := by decide +kernel
theorem dX4_build_70 : decode cX4_build 70 = .ok (.istore_n 3, 1) := by decide +kernel
theorem dX4_build_71 : decode cX4_build 71 = .ok (.iload_n 3, 1) := by decide +kernel
theorem dX4_build_72 : decode cX4_build 72 = .ok (.aload_n 0, 1) := by decide +kernel
theorem dX4_build_73 : decode cX4_build 73 = .ok (.getfield 72, 3) := by decide +kernel
theorem dX4_build_76 : decode cX4_build 76 = .ok (.if_icmp .ge 14, 3) := by decide +kernel
theorem dX4_build_79 : decode cX4_build 79 = .ok (.aload_n 0, 1) := by decide +kernel
theorem dX4_build_80 : decode cX4_build 80 = .ok (.iload_n 3, 1) := by decide +kernel
theorem dX4_build_81 : decode cX4_build 81 = .ok (.invokevirtual 75, 3) := by decide +kernel
theorem dX4_build_84 : decode cX4_build 84 = .ok (.iinc 3 1, 3) := by decide +kernel
theorem dX4_build_87 : decode cX4_build 87 = .ok (.goto (-16), 3) := by decide +kernel
theorem dX4_build_90 : decode cX4_build 90 = .ok (.iconst 1, 1) := by decide +kernel
theorem dX4_build_91 : decode cX4_build 91 = .ok (.ireturn, 1) := by decide +kernel
theorem dX4_clear_0 : decode cX4_clear 0 = .ok (.aload_n 0, 1) := by decide +kernel
theorem dX4_clear_1 : decode cX4_clear 1 = .ok (.iload_n 1, 1) := by decide +kernel
theorem dX4_clear_2 : decode cX4_clear 2 = .ok (.putfield 78, 3) := by decide +kernel
theorem dX4_clear_5 : decode cX4_clear 5 = .ok (.aload_n 0, 1) := by decide +kernel
theorem dX4_clear_6 : decode cX4_clear 6 = .ok (.iconst 0, 1) := by decide +kernel
theorem dX4_clear_7 : decode cX4_clear 7 = .ok (.putfield 72, 3) := by decide +kernel
theorem dX4_clear_10 : decode cX4_clear 10 = .ok (.aload_n 0, 1) := by decide +kernel
theorem dX4_clear_11 : decode cX4_clear 11 = .ok (.iconst 0, 1) := by decide +kernel
theorem dX4_clear_12 : decode cX4_clear 12 = .ok (.putfield 81, 3) := by decide +kernel
theorem dX4_clear_15 : decode cX4_clear 15 = .ok (.iconst 0, 1) := by decide +kernel
theorem dX4_clear_16 : decode cX4_clear 16 = .ok (.istore_n 2, 1) := by decide +kernel
theorem dX4_clear_17 : decode cX4_clear 17 = .ok (.iload_n 2, 1) := by decide +kernel
theorem dX4_clear_18 : decode cX4_clear 18 = .ok (.bipush 13, 2) := by decide +kernel
theorem dX4_clear_20 : decode cX4_clear 20 = .ok (.if_icmp .ge 30, 3) := by decide +kernel
theorem dX4_clear_23 : decode cX4_clear 23 = .ok (.aload_n 0, 1) := by decide +kernel
theorem dX4_clear_24 : decode cX4_clear 24 = .ok (.getfield 42, 3) := by decide +kernel
theorem dX4_clear_27 : decode cX4_clear 27 = .ok (.iload_n 2, 1) := by decide +kernel
theorem dX4_clear_28 : decode cX4_clear 28 = .ok (.iconst 0, 1) := by decide +kernel
theorem dX4_clear_29 : decode cX4_clear 29 = .ok (.iastore, 1) := by decide +kernel
theorem dX4_clear_30 : decode cX4_clear 30 = .ok (.aload_n 0, 1) := by decide +kernel
theorem dX4_clear_31 : decode cX4_clear 31 = .ok (.getfield 45, 3) := by decide +kernel
theorem dX4_clear_34 : decode cX4_clear 34 = .ok (.iload_n 2, 1) := by decide +kernel
theorem dX4_clear_35 : decode cX4_clear 35 = .ok (.iconst 0, 1) := by decide +kernel
theorem dX4_clear_36 : decode cX4_clear 36 = .ok (.iastore, 1) := by decide +kernel
theorem dX4_clear_37 : decode cX4_clear 37 = .ok (.aload_n 0, 1) := by decide +kernel
theorem dX4_clear_38 : decode cX4_clear 38 = .ok (.getfield 48, 3) := by decide +kernel
theorem dX4_clear_41 : decode cX4_clear 41 = .ok (.iload_n 2, 1) := by decide +kernel
theorem dX4_clear_42 : decode cX4_clear 42 = .ok (.iconst 0, 1) := by decide +kernel
theorem dX4_clear_43 : decode cX4_clear 43 = .ok (.iastore, 1) := by decide +kernel
theorem dX4_clear_44 : decode cX4_clear 44 = .ok (.iinc 2 1, 3) := by decide +kernel
theorem dX4_clear_47 : decode cX4_clear 47 = .ok (.goto (-30), 3) := by decide +kernel
theorem dX4_clear_50 : decode cX4_clear 50 = .ok (.return_, 1) := by decide +kernel
theorem dX4_addStripe_0 : decode cX4_addStripe 0 = .ok (.aload_n 0, 1) := by decide +kernel
theorem dX4_addStripe_1 : decode cX4_addStripe 1 = .ok (.getfield 72, 3) := by decide +kernel
theorem dX4_addStripe_4 : decode cX4_addStripe 4 = .ok (.istore 4, 2) := by decide +kernel
theorem dX4_addStripe_6 : decode cX4_addStripe 6 = .ok (.aload_n 0, 1) := by decide +kernel
theorem dX4_addStripe_7 : decode cX4_addStripe 7 = .ok (.dup, 1) := by decide +kernel
theorem dX4_addStripe_8 : decode cX4_addStripe 8 = .ok (.getfield 72, 3) := by decide +kernel
theorem dX4_addStripe_11 : decode cX4_addStripe 11 = .ok (.iconst 1, 1) := by decide +kernel
theorem dX4_addStripe_12 : decode cX4_addStripe 12 = .ok (.iadd, 1) := by decide +kernel
theorem dX4_addStripe_13 : decode cX4_addStripe 13 = .ok (.putfield 72, 3) := by decide +kernel
theorem dX4_addStripe_16 : decode cX4_addStripe 16 = .ok (.aload_n 0, 1) := by decide +kernel
theorem dX4_addStripe_17 : decode cX4_addStripe 17 = .ok (.getfield 18, 3) := by decide +kernel
theorem dX4_addStripe_20 : decode cX4_addStripe 20 = .ok (.iload 4, 2) := by decide +kernel
theorem dX4_addStripe_22 : decode cX4_addStripe 22 = .ok (.iload_n 2, 1) := by decide +kernel
theorem dX4_addStripe_23 : decode cX4_addStripe 23 = .ok (.iastore, 1) := by decide +kernel
theorem dX4_addStripe_24 : decode cX4_addStripe 24 = .ok (.aload_n 0, 1) := by decide +kernel
theorem dX4_addStripe_25 : decode cX4_addStripe 25 = .ok (.getfield 9, 3) := by decide +kernel
theorem dX4_addStripe_28 : decode cX4_addStripe 28 = .ok (.iload 4, 2) := by decide +kernel
theorem dX4_addStripe_30 : decode cX4_addStripe 30 = .ok (.aload_n 1, 1) := by decide +kernel
theorem dX4_addStripe_31 : decode cX4_addStripe 31 = .ok (.getfield 84, 3) := by decide +kernel
theorem dX4_addStripe_34 : decode cX4_addStripe 34 = .ok (.iload_n 2, 1) := by decide +kernel
theorem dX4_addStripe_35 : decode cX4_addStripe 35 = .ok (.iaload, 1) := by decide +kernel
theorem dX4_addStripe_36 : decode cX4_addStripe 36 = .ok (.iastore, 1) := by decide +kernel
theorem dX4_addStripe_37 : decode cX4_addStripe 37 = .ok (.aload_n 0, 1) := by decide +kernel
theorem dX4_addStripe_38 : decode cX4_addStripe 38 = .ok (.getfield 27, 3) := by decide +kernel
theorem dX4_addStripe_41 : decode cX4_addStripe 41 = .ok (.iload 4, 2) := by decide +kernel
theorem dX4_addStripe_43 : decode cX4_addStripe 43 = .ok (.iconst 0, 1) := by decide +kernel
theorem dX4_addStripe_44 : decode cX4_addStripe 44 = .ok (.iastore, 1) := by decide +kernel
theorem dX4_addStripe_45 : decode cX4_addStripe 45 = .ok (.iload 4, 2) := by decide +kernel
theorem dX4_addStripe_47 : decode cX4_addStripe 47 = .ok (.iconst 5, 1) := by decide +kernel
theorem dX4_addStripe_48 : decode cX4_addStripe 48 = .ok (.imul, 1) := by decide +kernel
theorem dX4_addStripe_49 : decode cX4_addStripe 49 = .ok (.istore 5, 2) := by decide +kernel
theorem dX4_addStripe_51 : decode cX4_addStripe 51 = .ok (.iconst 0, 1) := by decide +kernel
theorem dX4_addStripe_52 : decode cX4_addStripe 52 = .ok (.istore 6, 2) := by decide +kernel
theorem dX4_addStripe_54 : decode cX4_addStripe 54 = .ok (.iload 6, 2) := by decide +kernel
theorem dX4_addStripe_56 : decode cX4_addStripe 56 = .ok (.aload_n 0, 1) := by decide +kernel
theorem dX4_addStripe_57 : decode cX4_addStripe 57 = .ok (.getfield 9, 3) := by decide +kernel
theorem dX4_addStripe_60 : decode cX4_addStripe 60 = .ok (.iload 4, 2) := by decide +kernel
theorem dX4_addStripe_62 : decode cX4_addStripe 62 = .ok (.iaload, 1) := by decide +kernel
theorem dX4_addStripe_63 : decode cX4_addStripe 63 = .ok (.if_icmp .ge 77, 3) := by decide +kernel
theorem dX4_addStripe_66 : decode cX4_addStripe 66 = .ok (.aload_n 1, 1) := by decide +kernel
theorem dX4_addStripe_67 : decode cX4_addStripe 67 = .ok (.iload_n 2, 1) := by decide +kernel
theorem dX4_addStripe_68 : decode cX4_addStripe 68 = .ok (.iload 6, 2) := by decide +kernel
theorem dX4_addStripe_70 : decode cX4_addStripe 70 = .ok (.iload_n 3, 1) := by decide +kernel
theorem dX4_addStripe_71 : decode cX4_addStripe 71 = .ok (.aload_n 0, 1) := by decide +kernel
theorem dX4_addStripe_72 : decode cX4_addStripe 72 = .ok (.getfield 78, 3) := by decide +kernel
theorem dX4_addStripe_75 : decode cX4_addStripe 75 = .ok (.invokevirtual 85, 3) := by decide +kernel
theorem dX4_addStripe_78 : decode cX4_addStripe 78 = .ok (.istore 7, 2) := by decide +kernel
theorem dX4_addStripe_80 : decode cX4_addStripe 80 = .ok (.aload_n 0, 1) := by decide +kernel
theorem dX4_addStripe_81 : decode cX4_addStripe 81 = .ok (.getfield 30, 3) := by decide +kernel
theorem dX4_addStripe_84 : decode cX4_addStripe 84 = .ok (.iload 5, 2) := by decide +kernel
theorem dX4_addStripe_86 : decode cX4_addStripe 86 = .ok (.iload 6, 2) := by decide +kernel
theorem dX4_addStripe_88 : decode cX4_addStripe 88 = .ok (.iadd, 1) := by decide +kernel
theorem dX4_addStripe_89 : decode cX4_addStripe 89 = .ok (.iload 7, 2) := by decide +kernel
theorem dX4_addStripe_91 : decode cX4_addStripe 91 = .ok (.iastore, 1) := by decide +kernel
theorem dX4_addStripe_92 : decode cX4_addStripe 92 = .ok (.aload_n 0, 1) := by decide +kernel
theorem dX4_addStripe_93 : decode cX4_addStripe 93 = .ok (.getfield 33, 3) := by decide +kernel
theorem dX4_addStripe_96 : decode cX4_addStripe 96 = .ok (.iload 5, 2) := by decide +kernel
theorem dX4_addStripe_98 : decode cX4_addStripe 98 = .ok (.iload 6, 2) := by decide +kernel
theorem dX4_addStripe_100 : decode cX4_addStripe 100 = .ok (.iadd, 1) := by decide +kernel
theorem dX4_addStripe_101 : decode cX4_addStripe 101 = .ok (.aload_n 0, 1) := by decide +kernel
theorem dX4_addStripe_102 : decode cX4_addStripe 102 = .ok (.getfield 42, 3) := by decide +kernel
theorem dX4_addStripe_105 : decode cX4_addStripe 105 = .ok (.iload 7, 2) := by decide +kernel
theorem dX4_addStripe_107 : decode cX4_addStripe 107 = .ok (.iaload, 1) := by decide +kernel
theorem dX4_addStripe_108 : decode cX4_addStripe 108 = .ok (.iastore, 1) := by decide +kernel
theorem dX4_addStripe_109 : decode cX4_addStripe 109 = .ok (.aload_n 0, 1) := by decide +kernel
theorem dX4_addStripe_110 : decode cX4_addStripe 110 = .ok (.getfield 42, 3) := by decide +kernel
theorem dX4_addStripe_113 : decode cX4_addStripe 113 = .ok (.iload 7, 2) := by decide +kernel
theorem dX4_addStripe_115 : decode cX4_addStripe 115 = .ok (.dup2, 1) := by decide +kernel
theorem dX4_addStripe_116 : decode cX4_addStripe 116 = .ok (.iaload, 1) := by decide +kernel
theorem dX4_addStripe_117 : decode cX4_addStripe 117 = .ok (.iconst 1, 1) := by decide +kernel
theorem dX4_addStripe_118 : decode cX4_addStripe 118 = .ok (.iadd, 1) := by decide +kernel
theorem dX4_addStripe_119 : decode cX4_addStripe 119 = .ok (.iastore, 1) := by decide +kernel
theorem dX4_addStripe_120 : decode cX4_addStripe 120 = .ok (.aload_n 0, 1) := by decide +kernel
theorem dX4_addStripe_121 : decode cX4_addStripe 121 = .ok (.getfield 27, 3) := by decide +kernel
theorem dX4_addStripe_124 : decode cX4_addStripe 124 = .ok (.iload 4, 2) := by decide +kernel
theorem dX4_addStripe_126 : decode cX4_addStripe 126 = .ok (.dup2, 1) := by decide +kernel
theorem dX4_addStripe_127 : decode cX4_addStripe 127 = .ok (.iaload, 1) := by decide +kernel
theorem dX4_addStripe_128 : decode cX4_addStripe 128 = .ok (.iconst 1, 1) := by decide +kernel
theorem dX4_addStripe_129 : decode cX4_addStripe 129 = .ok (.iload 7, 2) := by decide +kernel
theorem dX4_addStripe_131 : decode cX4_addStripe 131 = .ok (.ishl, 1) := by decide +kernel
theorem dX4_addStripe_132 : decode cX4_addStripe 132 = .ok (.ior, 1) := by decide +kernel
theorem dX4_addStripe_133 : decode cX4_addStripe 133 = .ok (.iastore, 1) := by decide +kernel
theorem dX4_addStripe_134 : decode cX4_addStripe 134 = .ok (.iinc 6 1, 3) := by decide +kernel
theorem dX4_addStripe_137 : decode cX4_addStripe 137 = .ok (.goto (-83), 3) := by decide +kernel
theorem dX4_addStripe_140 : decode cX4_addStripe 140 = .ok (.aload_n 0, 1) := by decide +kernel
theorem dX4_addStripe_141 : decode cX4_addStripe 141 = .ok (.getfield 15, 3) := by decide +kernel
theorem dX4_addStripe_144 : decode cX4_addStripe 144 = .ok (.iload 4, 2) := by decide +kernel
theorem dX4_addStripe_146 : decode cX4_addStripe 146 = .ok (.aload_n 1, 1) := by decide +kernel
theorem dX4_addStripe_147 : decode cX4_addStripe 147 = .ok (.getfield 89, 3) := by decide +kernel
theorem dX4_addStripe_150 : decode cX4_addStripe 150 = .ok (.iload 4, 2) := by decide +kernel
theorem dX4_addStripe_152 : decode cX4_addStripe 152 = .ok (.aload_n 0, 1) := by decide +kernel
theorem dX4_addStripe_153 : decode cX4_addStripe 153 = .ok (.getfield 9, 3) := by decide +kernel
theorem dX4_addStripe_156 : decode cX4_addStripe 156 = .ok (.iload 4, 2) := by decide +kernel
theorem dX4_addStripe_158 : decode cX4_addStripe 158 = .ok (.iaload, 1) := by decide +kernel
theorem dX4_addStripe_159 : decode cX4_addStripe 159 = .ok (.aload_n 0, 1) := by decide +kernel
theorem dX4_addStripe_160 : decode cX4_addStripe 160 = .ok (.getfield 30, 3) := by decide +kernel
theorem dX4_addStripe_163 : decode cX4_addStripe 163 = .ok (.iload 5, 2) := by decide +kernel
theorem dX4_addStripe_165 : decode cX4_addStripe 165 = .ok (.iaload, 1) := by decide +kernel
theorem dX4_addStripe_166 : decode cX4_addStripe 166 = .ok (.iload_n 2, 1) := by decide +kernel
theorem dX4_addStripe_167 : decode cX4_addStripe 167 = .ok (.invokevirtual 93, 3) := by decide +kernel
theorem dX4_addStripe_170 : decode cX4_addStripe 170 = .ok (.iastore, 1) := by decide +kernel
theorem dX4_addStripe_171 : decode cX4_addStripe 171 = .ok (.aload_n 0, 1) := by decide +kernel
theorem dX4_addStripe_172 : decode cX4_addStripe 172 = .ok (.getfield 45, 3) := by decide +kernel
theorem dX4_addStripe_175 : decode cX4_addStripe 175 = .ok (.aload_n 0, 1) := by decide +kernel
theorem dX4_addStripe_176 : decode cX4_addStripe 176 = .ok (.getfield 30, 3) := by decide +kernel
theorem dX4_addStripe_179 : decode cX4_addStripe 179 = .ok (.iload 5, 2) := by decide +kernel
theorem dX4_addStripe_181 : decode cX4_addStripe 181 = .ok (.aload_n 0, 1) := by decide +kernel
theorem dX4_addStripe_182 : decode cX4_addStripe 182 = .ok (.getfield 15, 3) := by decide +kernel
theorem dX4_addStripe_185 : decode cX4_addStripe 185 = .ok (.iload 4, 2) := by decide +kernel
theorem dX4_addStripe_187 : decode cX4_addStripe 187 = .ok (.iaload, 1) := by decide +kernel
theorem dX4_addStripe_188 : decode cX4_addStripe 188 = .ok (.iadd, 1) := by decide +kernel
theorem dX4_addStripe_189 : decode cX4_addStripe 189 = .ok (.iaload, 1) := by decide +kernel
theorem dX4_addStripe_190 : decode cX4_addStripe 190 = .ok (.dup2, 1) := by decide +kernel
theorem dX4_addStripe_191 : decode cX4_addStripe 191 = .ok (.iaload, 1) := by decide +kernel
theorem dX4_addStripe_192 : decode cX4_addStripe 192 = .ok (.iconst 1, 1) := by decide +kernel
theorem dX4_addStripe_193 : decode cX4_addStripe 193 = .ok (.iadd, 1) := by decide +kernel
theorem dX4_addStripe_194 : decode cX4_addStripe 194 = .ok (.iastore, 1) := by decide +kernel
theorem dX4_addStripe_195 : decode cX4_addStripe 195 = .ok (.aload_n 0, 1) := by decide +kernel
theorem dX4_addStripe_196 : decode cX4_addStripe 196 = .ok (.iload 4, 2) := by decide +kernel
theorem dX4_addStripe_198 : decode cX4_addStripe 198 = .ok (.invokevirtual 98, 3) := by decide +kernel
theorem dX4_addStripe_201 : decode cX4_addStripe 201 = .ok (.return_, 1) := by decide +kernel
theorem dX4_numberData_0 : decode cX4_numberData 0 = .ok (.iconst 0, 1) := by decide +kernel
theorem dX4_numberData_1 : decode cX4_numberData 1 = .ok (.istore_n 2, 1) := by decide +kernel
theorem dX4_numberData_2 : decode cX4_numberData 2 = .ok (.iload_n 2, 1) := by decide +kernel
theorem dX4_numberData_3 : decode cX4_numberData 3 = .ok (.aload_n 0, 1) := by decide +kernel
theorem dX4_numberData_4 : decode cX4_numberData 4 = .ok (.getfield 9, 3) := by decide +kernel
theorem dX4_numberData_7 : decode cX4_numberData 7 = .ok (.iload_n 1, 1) := by decide +kernel
theorem dX4_numberData_8 : decode cX4_numberData 8 = .ok (.iaload, 1) := by decide +kernel
theorem dX4_numberData_9 : decode cX4_numberData 9 = .ok (.if_icmp .ge 62, 3) := by decide +kernel
theorem dX4_numberData_12 : decode cX4_numberData 12 = .ok (.iload_n 1, 1) := by decide +kernel
theorem dX4_numberData_13 : decode cX4_numberData 13 = .ok (.iconst 5, 1) := by decide +kernel
theorem dX4_numberData_14 : decode cX4_numberData 14 = .ok (.imul, 1) := by decide +kernel
theorem dX4_numberData_15 : decode cX4_numberData 15 = .ok (.iload_n 2, 1) := by decide +kernel
theorem dX4_numberData_16 : decode cX4_numberData 16 = .ok (.iadd, 1) := by decide +kernel
theorem dX4_numberData_17 : decode cX4_numberData 17 = .ok (.istore_n 3, 1) := by decide +kernel
theorem dX4_numberData_18 : decode cX4_numberData 18 = .ok (.aload_n 0, 1) := by decide +kernel
theorem dX4_numberData_19 : decode cX4_numberData 19 = .ok (.getfield 36, 3) := by decide +kernel
theorem dX4_numberData_22 : decode cX4_numberData 22 = .ok (.iload_n 3, 1) := by decide +kernel
theorem dX4_numberData_23 : decode cX4_numberData 23 = .ok (.iconst (-1), 1) := by decide +kernel
theorem dX4_numberData_24 : decode cX4_numberData 24 = .ok (.iastore, 1) := by decide +kernel
theorem dX4_numberData_25 : decode cX4_numberData 25 = .ok (.iload_n 2, 1) := by decide +kernel
theorem dX4_numberData_26 : decode cX4_numberData 26 = .ok (.aload_n 0, 1) := by decide +kernel
theorem dX4_numberData_27 : decode cX4_numberData 27 = .ok (.getfield 15, 3) := by decide +kernel
theorem dX4_numberData_30 : decode cX4_numberData 30 = .ok (.iload_n 1, 1) := by decide +kernel
theorem dX4_numberData_31 : decode cX4_numberData 31 = .ok (.iaload, 1) := by decide +kernel
theorem dX4_numberData_32 : decode cX4_numberData 32 = .ok (.if_icmp .eq 33, 3) := by decide +kernel
theorem dX4_numberData_35 : decode cX4_numberData 35 = .ok (.aload_n 0, 1) := by decide +kernel
theorem dX4_numberData_36 : decode cX4_numberData 36 = .ok (.getfield 36, 3) := by decide +kernel
theorem dX4_numberData_39 : decode cX4_numberData 39 = .ok (.iload_n 3, 1) := by decide +kernel
theorem dX4_numberData_40 : decode cX4_numberData 40 = .ok (.aload_n 0, 1) := by decide +kernel
theorem dX4_numberData_41 : decode cX4_numberData 41 = .ok (.getfield 81, 3) := by decide +kernel
theorem dX4_numberData_44 : decode cX4_numberData 44 = .ok (.iastore, 1) := by decide +kernel
theorem dX4_numberData_45 : decode cX4_numberData 45 = .ok (.aload_n 0, 1) := by decide +kernel
theorem dX4_numberData_46 : decode cX4_numberData 46 = .ok (.getfield 39, 3) := by decide +kernel
theorem dX4_numberData_49 : decode cX4_numberData 49 = .ok (.aload_n 0, 1) := by decide +kernel
theorem dX4_numberData_50 : decode cX4_numberData 50 = .ok (.getfield 81, 3) := by decide +kernel
theorem dX4_numberData_53 : decode cX4_numberData 53 = .ok (.iload_n 3, 1) := by decide +kernel
theorem dX4_numberData_54 : decode cX4_numberData 54 = .ok (.iastore, 1) := by decide +kernel
theorem dX4_numberData_55 : decode cX4_numberData 55 = .ok (.aload_n 0, 1) := by decide +kernel
theorem dX4_numberData_56 : decode cX4_numberData 56 = .ok (.dup, 1) := by decide +kernel
theorem dX4_numberData_57 : decode cX4_numberData 57 = .ok (.getfield 81, 3) := by decide +kernel
theorem dX4_numberData_60 : decode cX4_numberData 60 = .ok (.iconst 1, 1) := by decide +kernel
theorem dX4_numberData_61 : decode cX4_numberData 61 = .ok (.iadd, 1) := by decide +kernel
theorem dX4_numberData_62 : decode cX4_numberData 62 = .ok (.putfield 81, 3) := by decide +kernel
theorem dX4_numberData_65 : decode cX4_numberData 65 = .ok (.iinc 2 1, 3) := by decide +kernel
theorem dX4_numberData_68 : decode cX4_numberData 68 = .ok (.goto (-66), 3) := by decide +kernel
theorem dX4_numberData_71 : decode cX4_numberData 71 = .ok (.return_, 1) := by decide +kernel
theorem dX4_addSpare_0 : decode cX4_addSpare 0 = .ok (.iconst (-1), 1) := by decide +kernel
theorem dX4_addSpare_1 : decode cX4_addSpare 1 = .ok (.istore_n 2, 1) := by decide +kernel
theorem dX4_addSpare_2 : decode cX4_addSpare 2 = .ok (.iconst 0, 1) := by decide +kernel
theorem dX4_addSpare_3 : decode cX4_addSpare 3 = .ok (.istore_n 3, 1) := by decide +kernel
theorem dX4_addSpare_4 : decode cX4_addSpare 4 = .ok (.iload_n 3, 1) := by decide +kernel
theorem dX4_addSpare_5 : decode cX4_addSpare 5 = .ok (.aload_n 0, 1) := by decide +kernel
theorem dX4_addSpare_6 : decode cX4_addSpare 6 = .ok (.getfield 78, 3) := by decide +kernel
theorem dX4_addSpare_9 : decode cX4_addSpare 9 = .ok (.if_icmp .ge 56, 3) := by decide +kernel
theorem dX4_addSpare_12 : decode cX4_addSpare 12 = .ok (.aload_n 0, 1) := by decide +kernel
theorem dX4_addSpare_13 : decode cX4_addSpare 13 = .ok (.getfield 27, 3) := by decide +kernel
theorem dX4_addSpare_16 : decode cX4_addSpare 16 = .ok (.iload_n 1, 1) := by decide +kernel
theorem dX4_addSpare_17 : decode cX4_addSpare 17 = .ok (.iaload, 1) := by decide +kernel
theorem dX4_addSpare_18 : decode cX4_addSpare 18 = .ok (.iload_n 3, 1) := by decide +kernel
theorem dX4_addSpare_19 : decode cX4_addSpare 19 = .ok (.ishr, 1) := by decide +kernel
theorem dX4_addSpare_20 : decode cX4_addSpare 20 = .ok (.iconst 1, 1) := by decide +kernel
theorem dX4_addSpare_21 : decode cX4_addSpare 21 = .ok (.iand, 1) := by decide +kernel
theorem dX4_addSpare_22 : decode cX4_addSpare 22 = .ok (.ifCond .ne 7, 3) := by decide +kernel
theorem dX4_addSpare_25 : decode cX4_addSpare 25 = .ok (.iconst 1, 1) := by decide +kernel
theorem dX4_addSpare_26 : decode cX4_addSpare 26 = .ok (.goto 4, 3) := by decide +kernel
theorem dX4_addSpare_29 : decode cX4_addSpare 29 = .ok (.iconst 0, 1) := by decide +kernel
theorem dX4_addSpare_30 : decode cX4_addSpare 30 = .ok (.istore 4, 2) := by decide +kernel
theorem dX4_addSpare_32 : decode cX4_addSpare 32 = .ok (.iload 4, 2) := by decide +kernel
theorem dX4_addSpare_34 : decode cX4_addSpare 34 = .ok (.ifCond .eq 25, 3) := by decide +kernel
theorem dX4_addSpare_37 : decode cX4_addSpare 37 = .ok (.iload_n 2, 1) := by decide +kernel
theorem dX4_addSpare_38 : decode cX4_addSpare 38 = .ok (.iconst (-1), 1) := by decide +kernel
theorem dX4_addSpare_39 : decode cX4_addSpare 39 = .ok (.if_icmp .eq 18, 3) := by decide +kernel
theorem dX4_addSpare_42 : decode cX4_addSpare 42 = .ok (.aload_n 0, 1) := by decide +kernel
theorem dX4_addSpare_43 : decode cX4_addSpare 43 = .ok (.getfield 48, 3) := by decide +kernel
theorem dX4_addSpare_46 : decode cX4_addSpare 46 = .ok (.iload_n 3, 1) := by decide +kernel
theorem dX4_addSpare_47 : decode cX4_addSpare 47 = .ok (.iaload, 1) := by decide +kernel
theorem dX4_addSpare_48 : decode cX4_addSpare 48 = .ok (.aload_n 0, 1) := by decide +kernel
theorem dX4_addSpare_49 : decode cX4_addSpare 49 = .ok (.getfield 48, 3) := by decide +kernel
theorem dX4_addSpare_52 : decode cX4_addSpare 52 = .ok (.iload_n 2, 1) := by decide +kernel
theorem dX4_addSpare_53 : decode cX4_addSpare 53 = .ok (.iaload, 1) := by decide +kernel
theorem dX4_addSpare_54 : decode cX4_addSpare 54 = .ok (.if_icmp .ge 5, 3) := by decide +kernel
theorem dX4_addSpare_57 : decode cX4_addSpare 57 = .ok (.iload_n 3, 1) := by decide +kernel
theorem dX4_addSpare_58 : decode cX4_addSpare 58 = .ok (.istore_n 2, 1) := by decide +kernel
theorem dX4_addSpare_59 : decode cX4_addSpare 59 = .ok (.iinc 3 1, 3) := by decide +kernel
theorem dX4_addSpare_62 : decode cX4_addSpare 62 = .ok (.goto (-58), 3) := by decide +kernel
theorem dX4_addSpare_65 : decode cX4_addSpare 65 = .ok (.aload_n 0, 1) := by decide +kernel
theorem dX4_addSpare_66 : decode cX4_addSpare 66 = .ok (.getfield 21, 3) := by decide +kernel
theorem dX4_addSpare_69 : decode cX4_addSpare 69 = .ok (.iload_n 1, 1) := by decide +kernel
theorem dX4_addSpare_70 : decode cX4_addSpare 70 = .ok (.iload_n 2, 1) := by decide +kernel
theorem dX4_addSpare_71 : decode cX4_addSpare 71 = .ok (.iastore, 1) := by decide +kernel
theorem dX4_addSpare_72 : decode cX4_addSpare 72 = .ok (.aload_n 0, 1) := by decide +kernel
theorem dX4_addSpare_73 : decode cX4_addSpare 73 = .ok (.getfield 24, 3) := by decide +kernel
theorem dX4_addSpare_76 : decode cX4_addSpare 76 = .ok (.iload_n 1, 1) := by decide +kernel
theorem dX4_addSpare_77 : decode cX4_addSpare 77 = .ok (.iconst (-1), 1) := by decide +kernel
theorem dX4_addSpare_78 : decode cX4_addSpare 78 = .ok (.iastore, 1) := by decide +kernel
theorem dX4_addSpare_79 : decode cX4_addSpare 79 = .ok (.iload_n 2, 1) := by decide +kernel
theorem dX4_addSpare_80 : decode cX4_addSpare 80 = .ok (.iconst (-1), 1) := by decide +kernel
theorem dX4_addSpare_81 : decode cX4_addSpare 81 = .ok (.if_icmp .eq 32, 3) := by decide +kernel
theorem dX4_addSpare_84 : decode cX4_addSpare 84 = .ok (.aload_n 0, 1) := by decide +kernel
theorem dX4_addSpare_85 : decode cX4_addSpare 85 = .ok (.getfield 24, 3) := by decide +kernel
theorem dX4_addSpare_88 : decode cX4_addSpare 88 = .ok (.iload_n 1, 1) := by decide +kernel
theorem dX4_addSpare_89 : decode cX4_addSpare 89 = .ok (.aload_n 0, 1) := by decide +kernel
theorem dX4_addSpare_90 : decode cX4_addSpare 90 = .ok (.getfield 42, 3) := by decide +kernel
theorem dX4_addSpare_93 : decode cX4_addSpare 93 = .ok (.iload_n 2, 1) := by decide +kernel
theorem dX4_addSpare_94 : decode cX4_addSpare 94 = .ok (.iaload, 1) := by decide +kernel
theorem dX4_addSpare_95 : decode cX4_addSpare 95 = .ok (.aload_n 0, 1) := by decide +kernel
theorem dX4_addSpare_96 : decode cX4_addSpare 96 = .ok (.getfield 48, 3) := by decide +kernel
theorem dX4_addSpare_99 : decode cX4_addSpare 99 = .ok (.iload_n 2, 1) := by decide +kernel
theorem dX4_addSpare_100 : decode cX4_addSpare 100 = .ok (.iaload, 1) := by decide +kernel
theorem dX4_addSpare_101 : decode cX4_addSpare 101 = .ok (.iadd, 1) := by decide +kernel
theorem dX4_addSpare_102 : decode cX4_addSpare 102 = .ok (.iastore, 1) := by decide +kernel
theorem dX4_addSpare_103 : decode cX4_addSpare 103 = .ok (.aload_n 0, 1) := by decide +kernel
theorem dX4_addSpare_104 : decode cX4_addSpare 104 = .ok (.getfield 48, 3) := by decide +kernel
theorem dX4_addSpare_107 : decode cX4_addSpare 107 = .ok (.iload_n 2, 1) := by decide +kernel
theorem dX4_addSpare_108 : decode cX4_addSpare 108 = .ok (.dup2, 1) := by decide +kernel
theorem dX4_addSpare_109 : decode cX4_addSpare 109 = .ok (.iaload, 1) := by decide +kernel
theorem dX4_addSpare_110 : decode cX4_addSpare 110 = .ok (.iconst 1, 1) := by decide +kernel
theorem dX4_addSpare_111 : decode cX4_addSpare 111 = .ok (.iadd, 1) := by decide +kernel
theorem dX4_addSpare_112 : decode cX4_addSpare 112 = .ok (.iastore, 1) := by decide +kernel
theorem dX4_addSpare_113 : decode cX4_addSpare 113 = .ok (.return_, 1) := by decide +kernel
theorem dX4_allUnits_0 : decode cX4_allUnits 0 = .ok (.iconst 0, 1) := by decide +kernel
theorem dX4_allUnits_1 : decode cX4_allUnits 1 = .ok (.istore_n 1, 1) := by decide +kernel
theorem dX4_allUnits_2 : decode cX4_allUnits 2 = .ok (.iconst 0, 1) := by decide +kernel
theorem dX4_allUnits_3 : decode cX4_allUnits 3 = .ok (.istore_n 2, 1) := by decide +kernel
theorem dX4_allUnits_4 : decode cX4_allUnits 4 = .ok (.iload_n 2, 1) := by decide +kernel
theorem dX4_allUnits_5 : decode cX4_allUnits 5 = .ok (.aload_n 0, 1) := by decide +kernel
theorem dX4_allUnits_6 : decode cX4_allUnits 6 = .ok (.getfield 72, 3) := by decide +kernel
theorem dX4_allUnits_9 : decode cX4_allUnits 9 = .ok (.if_icmp .ge 18, 3) := by decide +kernel
theorem dX4_allUnits_12 : decode cX4_allUnits 12 = .ok (.iload_n 1, 1) := by decide +kernel
theorem dX4_allUnits_13 : decode cX4_allUnits 13 = .ok (.aload_n 0, 1) := by decide +kernel
theorem dX4_allUnits_14 : decode cX4_allUnits 14 = .ok (.getfield 9, 3) := by decide +kernel
theorem dX4_allUnits_17 : decode cX4_allUnits 17 = .ok (.iload_n 2, 1) := by decide +kernel
theorem dX4_allUnits_18 : decode cX4_allUnits 18 = .ok (.iaload, 1) := by decide +kernel
theorem dX4_allUnits_19 : decode cX4_allUnits 19 = .ok (.iadd, 1) := by decide +kernel
theorem dX4_allUnits_20 : decode cX4_allUnits 20 = .ok (.istore_n 1, 1) := by decide +kernel
theorem dX4_allUnits_21 : decode cX4_allUnits 21 = .ok (.iinc 2 1, 3) := by decide +kernel
theorem dX4_allUnits_24 : decode cX4_allUnits 24 = .ok (.goto (-20), 3) := by decide +kernel
theorem dX4_allUnits_27 : decode cX4_allUnits 27 = .ok (.iload_n 1, 1) := by decide +kernel
theorem dX4_allUnits_28 : decode cX4_allUnits 28 = .ok (.ireturn, 1) := by decide +kernel
theorem dX4_heldAt_0 : decode cX4_heldAt 0 = .ok (.iconst 0, 1) := by decide +kernel
theorem dX4_heldAt_1 : decode cX4_heldAt 1 = .ok (.istore_n 3, 1) := by decide +kernel
theorem dX4_heldAt_2 : decode cX4_heldAt 2 = .ok (.iload_n 3, 1) := by decide +kernel
theorem dX4_heldAt_3 : decode cX4_heldAt 3 = .ok (.aload_n 0, 1) := by decide +kernel
theorem dX4_heldAt_4 : decode cX4_heldAt 4 = .ok (.getfield 72, 3) := by decide +kernel
theorem dX4_heldAt_7 : decode cX4_heldAt 7 = .ok (.if_icmp .ge 95, 3) := by decide +kernel
theorem dX4_heldAt_10 : decode cX4_heldAt 10 = .ok (.aload_n 0, 1) := by decide +kernel
theorem dX4_heldAt_11 : decode cX4_heldAt 11 = .ok (.getfield 21, 3) := by decide +kernel
theorem dX4_heldAt_14 : decode cX4_heldAt 14 = .ok (.iload_n 3, 1) := by decide +kernel
theorem dX4_heldAt_15 : decode cX4_heldAt 15 = .ok (.iaload, 1) := by decide +kernel
theorem dX4_heldAt_16 : decode cX4_heldAt 16 = .ok (.iload_n 1, 1) := by decide +kernel
theorem dX4_heldAt_17 : decode cX4_heldAt 17 = .ok (.if_icmp .ne 21, 3) := by decide +kernel
theorem dX4_heldAt_20 : decode cX4_heldAt 20 = .ok (.aload_n 0, 1) := by decide +kernel
theorem dX4_heldAt_21 : decode cX4_heldAt 21 = .ok (.getfield 24, 3) := by decide +kernel
theorem dX4_heldAt_24 : decode cX4_heldAt 24 = .ok (.iload_n 3, 1) := by decide +kernel
theorem dX4_heldAt_25 : decode cX4_heldAt 25 = .ok (.iaload, 1) := by decide +kernel
theorem dX4_heldAt_26 : decode cX4_heldAt 26 = .ok (.iload_n 2, 1) := by decide +kernel
theorem dX4_heldAt_27 : decode cX4_heldAt 27 = .ok (.if_icmp .ne 11, 3) := by decide +kernel
theorem dX4_heldAt_30 : decode cX4_heldAt 30 = .ok (.iload_n 3, 1) := by decide +kernel
theorem dX4_heldAt_31 : decode cX4_heldAt 31 = .ok (.bipush 8, 2) := by decide +kernel
theorem dX4_heldAt_33 : decode cX4_heldAt 33 = .ok (.imul, 1) := by decide +kernel
theorem dX4_heldAt_34 : decode cX4_heldAt 34 = .ok (.bipush 7, 2) := by decide +kernel
theorem dX4_heldAt_36 : decode cX4_heldAt 36 = .ok (.iadd, 1) := by decide +kernel
theorem dX4_heldAt_37 : decode cX4_heldAt 37 = .ok (.ireturn, 1) := by decide +kernel
theorem dX4_heldAt_38 : decode cX4_heldAt 38 = .ok (.iconst 0, 1) := by decide +kernel
theorem dX4_heldAt_39 : decode cX4_heldAt 39 = .ok (.istore 4, 2) := by decide +kernel
theorem dX4_heldAt_41 : decode cX4_heldAt 41 = .ok (.iload 4, 2) := by decide +kernel
theorem dX4_heldAt_43 : decode cX4_heldAt 43 = .ok (.aload_n 0, 1) := by decide +kernel
theorem dX4_heldAt_44 : decode cX4_heldAt 44 = .ok (.getfield 9, 3) := by decide +kernel
theorem dX4_heldAt_47 : decode cX4_heldAt 47 = .ok (.iload_n 3, 1) := by decide +kernel
theorem dX4_heldAt_48 : decode cX4_heldAt 48 = .ok (.iaload, 1) := by decide +kernel
theorem dX4_heldAt_49 : decode cX4_heldAt 49 = .ok (.if_icmp .ge 47, 3) := by decide +kernel
theorem dX4_heldAt_52 : decode cX4_heldAt 52 = .ok (.iload_n 3, 1) := by decide +kernel
theorem dX4_heldAt_53 : decode cX4_heldAt 53 = .ok (.iconst 5, 1) := by decide +kernel
theorem dX4_heldAt_54 : decode cX4_heldAt 54 = .ok (.imul, 1) := by decide +kernel
theorem dX4_heldAt_55 : decode cX4_heldAt 55 = .ok (.iload 4, 2) := by decide +kernel
theorem dX4_heldAt_57 : decode cX4_heldAt 57 = .ok (.iadd, 1) := by decide +kernel
theorem dX4_heldAt_58 : decode cX4_heldAt 58 = .ok (.istore 5, 2) := by decide +kernel
theorem dX4_heldAt_60 : decode cX4_heldAt 60 = .ok (.aload_n 0, 1) := by decide +kernel
theorem dX4_heldAt_61 : decode cX4_heldAt 61 = .ok (.getfield 30, 3) := by decide +kernel
theorem dX4_heldAt_64 : decode cX4_heldAt 64 = .ok (.iload 5, 2) := by decide +kernel
theorem dX4_heldAt_66 : decode cX4_heldAt 66 = .ok (.iaload, 1) := by decide +kernel
theorem dX4_heldAt_67 : decode cX4_heldAt 67 = .ok (.iload_n 1, 1) := by decide +kernel
theorem dX4_heldAt_68 : decode cX4_heldAt 68 = .ok (.if_icmp .ne 22, 3) := by decide +kernel
theorem dX4_heldAt_71 : decode cX4_heldAt 71 = .ok (.aload_n 0, 1) := by decide +kernel
theorem dX4_heldAt_72 : decode cX4_heldAt 72 = .ok (.getfield 33, 3) := by decide +kernel
theorem dX4_heldAt_75 : decode cX4_heldAt 75 = .ok (.iload 5, 2) := by decide +kernel
theorem dX4_heldAt_77 : decode cX4_heldAt 77 = .ok (.iaload, 1) := by decide +kernel
theorem dX4_heldAt_78 : decode cX4_heldAt 78 = .ok (.iload_n 2, 1) := by decide +kernel
theorem dX4_heldAt_79 : decode cX4_heldAt 79 = .ok (.if_icmp .ne 11, 3) := by decide +kernel
theorem dX4_heldAt_82 : decode cX4_heldAt 82 = .ok (.iload_n 3, 1) := by decide +kernel
theorem dX4_heldAt_83 : decode cX4_heldAt 83 = .ok (.bipush 8, 2) := by decide +kernel
theorem dX4_heldAt_85 : decode cX4_heldAt 85 = .ok (.imul, 1) := by decide +kernel
theorem dX4_heldAt_86 : decode cX4_heldAt 86 = .ok (.iload 4, 2) := by decide +kernel
theorem dX4_heldAt_88 : decode cX4_heldAt 88 = .ok (.iadd, 1) := by decide +kernel
theorem dX4_heldAt_89 : decode cX4_heldAt 89 = .ok (.ireturn, 1) := by decide +kernel
theorem dX4_heldAt_90 : decode cX4_heldAt 90 = .ok (.iinc 4 1, 3) := by decide +kernel
theorem dX4_heldAt_93 : decode cX4_heldAt 93 = .ok (.goto (-52), 3) := by decide +kernel
theorem dX4_heldAt_96 : decode cX4_heldAt 96 = .ok (.iinc 3 1, 3) := by decide +kernel
theorem dX4_heldAt_99 : decode cX4_heldAt 99 = .ok (.goto (-97), 3) := by decide +kernel
theorem dX4_heldAt_102 : decode cX4_heldAt 102 = .ok (.iconst (-1), 1) := by decide +kernel
theorem dX4_heldAt_103 : decode cX4_heldAt 103 = .ok (.ireturn, 1) := by decide +kernel
theorem dX4_shared_0 : decode cX4_shared 0 = .ok (.iconst 1, 1) := by decide +kernel
theorem dX4_shared_1 : decode cX4_shared 1 = .ok (.iload_n 1, 1) := by decide +kernel
theorem dX4_shared_2 : decode cX4_shared 2 = .ok (.ishl, 1) := by decide +kernel
theorem dX4_shared_3 : decode cX4_shared 3 = .ok (.iconst 1, 1) := by decide +kernel
theorem dX4_shared_4 : decode cX4_shared 4 = .ok (.iload_n 2, 1) := by decide +kernel
theorem dX4_shared_5 : decode cX4_shared 5 = .ok (.ishl, 1) := by decide +kernel
theorem dX4_shared_6 : decode cX4_shared 6 = .ok (.ior, 1) := by decide +kernel
theorem dX4_shared_7 : decode cX4_shared 7 = .ok (.istore_n 3, 1) := by decide +kernel
theorem dX4_shared_8 : decode cX4_shared 8 = .ok (.iconst 0, 1) := by decide +kernel
theorem dX4_shared_9 : decode cX4_shared 9 = .ok (.istore 4, 2) := by decide +kernel
theorem dX4_shared_11 : decode cX4_shared 11 = .ok (.iconst 0, 1) := by decide +kernel
theorem dX4_shared_12 : decode cX4_shared 12 = .ok (.istore 5, 2) := by decide +kernel
theorem dX4_shared_14 : decode cX4_shared 14 = .ok (.iload 5, 2) := by decide +kernel
theorem dX4_shared_16 : decode cX4_shared 16 = .ok (.aload_n 0, 1) := by decide +kernel
theorem dX4_shared_17 : decode cX4_shared 17 = .ok (.getfield 72, 3) := by decide +kernel
theorem dX4_shared_20 : decode cX4_shared 20 = .ok (.if_icmp .ge 25, 3) := by decide +kernel
theorem dX4_shared_23 : decode cX4_shared 23 = .ok (.aload_n 0, 1) := by decide +kernel
theorem dX4_shared_24 : decode cX4_shared 24 = .ok (.getfield 27, 3) := by decide +kernel
theorem dX4_shared_27 : decode cX4_shared 27 = .ok (.iload 5, 2) := by decide +kernel
theorem dX4_shared_29 : decode cX4_shared 29 = .ok (.iaload, 1) := by decide +kernel
theorem dX4_shared_30 : decode cX4_shared 30 = .ok (.iload_n 3, 1) := by decide +kernel
theorem dX4_shared_31 : decode cX4_shared 31 = .ok (.iand, 1) := by decide +kernel
theorem dX4_shared_32 : decode cX4_shared 32 = .ok (.iload_n 3, 1) := by decide +kernel
theorem dX4_shared_33 : decode cX4_shared 33 = .ok (.if_icmp .ne 6, 3) := by decide +kernel
theorem dX4_shared_36 : decode cX4_shared 36 = .ok (.iinc 4 1, 3) := by decide +kernel
theorem dX4_shared_39 : decode cX4_shared 39 = .ok (.iinc 5 1, 3) := by decide +kernel
theorem dX4_shared_42 : decode cX4_shared 42 = .ok (.goto (-28), 3) := by decide +kernel
theorem dX4_shared_45 : decode cX4_shared 45 = .ok (.iload 4, 2) := by decide +kernel
theorem dX4_shared_47 : decode cX4_shared 47 = .ok (.ireturn, 1) := by decide +kernel
theorem dX4_sharedByAny_0 : decode cX4_sharedByAny 0 = .ok (.aload_n 0, 1) := by decide +kernel
theorem dX4_sharedByAny_1 : decode cX4_sharedByAny 1 = .ok (.getfield 78, 3) := by decide +kernel
theorem dX4_sharedByAny_4 : decode cX4_sharedByAny 4 = .ok (.iconst 2, 1) := by decide +kernel
theorem dX4_sharedByAny_5 : decode cX4_sharedByAny 5 = .ok (.if_icmp .ge 5, 3) := by decide +kernel
theorem dX4_sharedByAny_8 : decode cX4_sharedByAny 8 = .ok (.iconst (-1), 1) := by decide +kernel
theorem dX4_sharedByAny_9 : decode cX4_sharedByAny 9 = .ok (.ireturn, 1) := by decide +kernel
theorem dX4_sharedByAny_10 : decode cX4_sharedByAny 10 = .ok (.aload_n 0, 1) := by decide +kernel
theorem dX4_sharedByAny_11 : decode cX4_sharedByAny 11 = .ok (.iconst 0, 1) := by decide +kernel
theorem dX4_sharedByAny_12 : decode cX4_sharedByAny 12 = .ok (.iconst 1, 1) := by decide +kernel
theorem dX4_sharedByAny_13 : decode cX4_sharedByAny 13 = .ok (.invokevirtual 101, 3) := by decide +kernel
theorem dX4_sharedByAny_16 : decode cX4_sharedByAny 16 = .ok (.istore_n 1, 1) := by decide +kernel
theorem dX4_sharedByAny_17 : decode cX4_sharedByAny 17 = .ok (.iconst 0, 1) := by decide +kernel
theorem dX4_sharedByAny_18 : decode cX4_sharedByAny 18 = .ok (.istore_n 2, 1) := by decide +kernel
theorem dX4_sharedByAny_19 : decode cX4_sharedByAny 19 = .ok (.iload_n 2, 1) := by decide +kernel
theorem dX4_sharedByAny_20 : decode cX4_sharedByAny 20 = .ok (.aload_n 0, 1) := by decide +kernel
theorem dX4_sharedByAny_21 : decode cX4_sharedByAny 21 = .ok (.getfield 78, 3) := by decide +kernel
theorem dX4_sharedByAny_24 : decode cX4_sharedByAny 24 = .ok (.if_icmp .ge 39, 3) := by decide +kernel
theorem dX4_sharedByAny_27 : decode cX4_sharedByAny 27 = .ok (.iload_n 2, 1) := by decide +kernel
theorem dX4_sharedByAny_28 : decode cX4_sharedByAny 28 = .ok (.iconst 1, 1) := by decide +kernel
theorem dX4_sharedByAny_29 : decode cX4_sharedByAny 29 = .ok (.iadd, 1) := by decide +kernel
theorem dX4_sharedByAny_30 : decode cX4_sharedByAny 30 = .ok (.istore_n 3, 1) := by decide +kernel
theorem dX4_sharedByAny_31 : decode cX4_sharedByAny 31 = .ok (.iload_n 3, 1) := by decide +kernel
theorem dX4_sharedByAny_32 : decode cX4_sharedByAny 32 = .ok (.aload_n 0, 1) := by decide +kernel
theorem dX4_sharedByAny_33 : decode cX4_sharedByAny 33 = .ok (.getfield 78, 3) := by decide +kernel
theorem dX4_sharedByAny_36 : decode cX4_sharedByAny 36 = .ok (.if_icmp .ge 21, 3) := by decide +kernel
theorem dX4_sharedByAny_39 : decode cX4_sharedByAny 39 = .ok (.aload_n 0, 1) := by decide +kernel
theorem dX4_sharedByAny_40 : decode cX4_sharedByAny 40 = .ok (.iload_n 2, 1) := by decide +kernel
theorem dX4_sharedByAny_41 : decode cX4_sharedByAny 41 = .ok (.iload_n 3, 1) := by decide +kernel
theorem dX4_sharedByAny_42 : decode cX4_sharedByAny 42 = .ok (.invokevirtual 101, 3) := by decide +kernel
theorem dX4_sharedByAny_45 : decode cX4_sharedByAny 45 = .ok (.iload_n 1, 1) := by decide +kernel
theorem dX4_sharedByAny_46 : decode cX4_sharedByAny 46 = .ok (.if_icmp .eq 5, 3) := by decide +kernel
theorem dX4_sharedByAny_49 : decode cX4_sharedByAny 49 = .ok (.iconst (-1), 1) := by decide +kernel
theorem dX4_sharedByAny_50 : decode cX4_sharedByAny 50 = .ok (.ireturn, 1) := by decide +kernel
theorem dX4_sharedByAny_51 : decode cX4_sharedByAny 51 = .ok (.iinc 3 1, 3) := by decide +kernel
theorem dX4_sharedByAny_54 : decode cX4_sharedByAny 54 = .ok (.goto (-23), 3) := by decide +kernel
theorem dX4_sharedByAny_57 : decode cX4_sharedByAny 57 = .ok (.iinc 2 1, 3) := by decide +kernel
theorem dX4_sharedByAny_60 : decode cX4_sharedByAny 60 = .ok (.goto (-41), 3) := by decide +kernel
theorem dX4_sharedByAny_63 : decode cX4_sharedByAny 63 = .ok (.iload_n 1, 1) := by decide +kernel
theorem dX4_sharedByAny_64 : decode cX4_sharedByAny 64 = .ok (.ireturn, 1) := by decide +kernel
theorem dX4_mostShared_0 : decode cX4_mostShared 0 = .ok (.iconst 0, 1) := by decide +kernel
theorem dX4_mostShared_1 : decode cX4_mostShared 1 = .ok (.istore_n 2, 1) := by decide +kernel
theorem dX4_mostShared_2 : decode cX4_mostShared 2 = .ok (.iconst 0, 1) := by decide +kernel
theorem dX4_mostShared_3 : decode cX4_mostShared 3 = .ok (.istore_n 3, 1) := by decide +kernel
theorem dX4_mostShared_4 : decode cX4_mostShared 4 = .ok (.iload_n 3, 1) := by decide +kernel
theorem dX4_mostShared_5 : decode cX4_mostShared 5 = .ok (.aload_n 0, 1) := by decide +kernel
theorem dX4_mostShared_6 : decode cX4_mostShared 6 = .ok (.getfield 78, 3) := by decide +kernel
theorem dX4_mostShared_9 : decode cX4_mostShared 9 = .ok (.if_icmp .ge 25, 3) := by decide +kernel
theorem dX4_mostShared_12 : decode cX4_mostShared 12 = .ok (.iload_n 3, 1) := by decide +kernel
theorem dX4_mostShared_13 : decode cX4_mostShared 13 = .ok (.iload_n 1, 1) := by decide +kernel
theorem dX4_mostShared_14 : decode cX4_mostShared 14 = .ok (.if_icmp .eq 14, 3) := by decide +kernel
theorem dX4_mostShared_17 : decode cX4_mostShared 17 = .ok (.iload_n 2, 1) := by decide +kernel
theorem dX4_mostShared_18 : decode cX4_mostShared 18 = .ok (.aload_n 0, 1) := by decide +kernel
theorem dX4_mostShared_19 : decode cX4_mostShared 19 = .ok (.iload_n 1, 1) := by decide +kernel
theorem dX4_mostShared_20 : decode cX4_mostShared 20 = .ok (.iload_n 3, 1) := by decide +kernel
theorem dX4_mostShared_21 : decode cX4_mostShared 21 = .ok (.invokevirtual 101, 3) := by decide +kernel
theorem dX4_mostShared_24 : decode cX4_mostShared 24 = .ok (.invokestatic 104, 3) := by decide +kernel
theorem dX4_mostShared_27 : decode cX4_mostShared 27 = .ok (.istore_n 2, 1) := by decide +kernel
theorem dX4_mostShared_28 : decode cX4_mostShared 28 = .ok (.iinc 3 1, 3) := by decide +kernel
theorem dX4_mostShared_31 : decode cX4_mostShared 31 = .ok (.goto (-27), 3) := by decide +kernel
theorem dX4_mostShared_34 : decode cX4_mostShared 34 = .ok (.iload_n 2, 1) := by decide +kernel
theorem dX4_mostShared_35 : decode cX4_mostShared 35 = .ok (.ireturn, 1) := by decide +kernel
theorem dX4_movedIn_0 : decode cX4_movedIn 0 = .ok (.iconst 0, 1) := by decide +kernel
theorem dX4_movedIn_1 : decode cX4_movedIn 1 = .ok (.istore_n 2, 1) := by decide +kernel
theorem dX4_movedIn_2 : decode cX4_movedIn 2 = .ok (.aload_n 0, 1) := by decide +kernel
theorem dX4_movedIn_3 : decode cX4_movedIn 3 = .ok (.getfield 81, 3) := by decide +kernel
theorem dX4_movedIn_6 : decode cX4_movedIn 6 = .ok (.aload_n 1, 1) := by decide +kernel
theorem dX4_movedIn_7 : decode cX4_movedIn 7 = .ok (.getfield 81, 3) := by decide +kernel
theorem dX4_movedIn_10 : decode cX4_movedIn 10 = .ok (.invokestatic 109, 3) := by decide +kernel
theorem dX4_movedIn_13 : decode cX4_movedIn 13 = .ok (.istore_n 3, 1) := by decide +kernel
theorem dX4_movedIn_14 : decode cX4_movedIn 14 = .ok (.iconst 0, 1) := by decide +kernel
theorem dX4_movedIn_15 : decode cX4_movedIn 15 = .ok (.istore 4, 2) := by decide +kernel
theorem dX4_movedIn_17 : decode cX4_movedIn 17 = .ok (.iload 4, 2) := by decide +kernel
theorem dX4_movedIn_19 : decode cX4_movedIn 19 = .ok (.iload_n 3, 1) := by decide +kernel
theorem dX4_movedIn_20 : decode cX4_movedIn 20 = .ok (.if_icmp .ge 64, 3) := by decide +kernel
theorem dX4_movedIn_23 : decode cX4_movedIn 23 = .ok (.aload_n 0, 1) := by decide +kernel
theorem dX4_movedIn_24 : decode cX4_movedIn 24 = .ok (.getfield 39, 3) := by decide +kernel
theorem dX4_movedIn_27 : decode cX4_movedIn 27 = .ok (.iload 4, 2) := by decide +kernel
theorem dX4_movedIn_29 : decode cX4_movedIn 29 = .ok (.iaload, 1) := by decide +kernel
theorem dX4_movedIn_30 : decode cX4_movedIn 30 = .ok (.istore 5, 2) := by decide +kernel
theorem dX4_movedIn_32 : decode cX4_movedIn 32 = .ok (.aload_n 1, 1) := by decide +kernel
theorem dX4_movedIn_33 : decode cX4_movedIn 33 = .ok (.getfield 39, 3) := by decide +kernel
theorem dX4_movedIn_36 : decode cX4_movedIn 36 = .ok (.iload 4, 2) := by decide +kernel
theorem dX4_movedIn_38 : decode cX4_movedIn 38 = .ok (.iaload, 1) := by decide +kernel
theorem dX4_movedIn_39 : decode cX4_movedIn 39 = .ok (.istore 6, 2) := by decide +kernel
theorem dX4_movedIn_41 : decode cX4_movedIn 41 = .ok (.aload_n 0, 1) := by decide +kernel
theorem dX4_movedIn_42 : decode cX4_movedIn 42 = .ok (.getfield 30, 3) := by decide +kernel
theorem dX4_movedIn_45 : decode cX4_movedIn 45 = .ok (.iload 5, 2) := by decide +kernel
theorem dX4_movedIn_47 : decode cX4_movedIn 47 = .ok (.iaload, 1) := by decide +kernel
theorem dX4_movedIn_48 : decode cX4_movedIn 48 = .ok (.aload_n 1, 1) := by decide +kernel
theorem dX4_movedIn_49 : decode cX4_movedIn 49 = .ok (.getfield 30, 3) := by decide +kernel
theorem dX4_movedIn_52 : decode cX4_movedIn 52 = .ok (.iload 6, 2) := by decide +kernel
theorem dX4_movedIn_54 : decode cX4_movedIn 54 = .ok (.iaload, 1) := by decide +kernel
theorem dX4_movedIn_55 : decode cX4_movedIn 55 = .ok (.if_icmp .ne 20, 3) := by decide +kernel
theorem dX4_movedIn_58 : decode cX4_movedIn 58 = .ok (.aload_n 0, 1) := by decide +kernel
theorem dX4_movedIn_59 : decode cX4_movedIn 59 = .ok (.getfield 33, 3) := by decide +kernel
theorem dX4_movedIn_62 : decode cX4_movedIn 62 = .ok (.iload 5, 2) := by decide +kernel
theorem dX4_movedIn_64 : decode cX4_movedIn 64 = .ok (.iaload, 1) := by decide +kernel
theorem dX4_movedIn_65 : decode cX4_movedIn 65 = .ok (.aload_n 1, 1) := by decide +kernel
theorem dX4_movedIn_66 : decode cX4_movedIn 66 = .ok (.getfield 33, 3) := by decide +kernel
theorem dX4_movedIn_69 : decode cX4_movedIn 69 = .ok (.iload 6, 2) := by decide +kernel
theorem dX4_movedIn_71 : decode cX4_movedIn 71 = .ok (.iaload, 1) := by decide +kernel
theorem dX4_movedIn_72 : decode cX4_movedIn 72 = .ok (.if_icmp .eq 6, 3) := by decide +kernel
theorem dX4_movedIn_75 : decode cX4_movedIn 75 = .ok (.iinc 2 1, 3) := by decide +kernel
theorem dX4_movedIn_78 : decode cX4_movedIn 78 = .ok (.iinc 4 1, 3) := by decide +kernel
theorem dX4_movedIn_81 : decode cX4_movedIn 81 = .ok (.goto (-64), 3) := by decide +kernel
theorem dX4_movedIn_84 : decode cX4_movedIn 84 = .ok (.iload_n 2, 1) := by decide +kernel
theorem dX4_movedIn_85 : decode cX4_movedIn 85 = .ok (.ireturn, 1) := by decide +kernel
theorem dX5_init_0 : decode cX5_init 0 = .ok (.aload_n 0, 1) := by decide +kernel
theorem dX5_init_1 : decode cX5_init 1 = .ok (.invokespecial 3, 3) := by decide +kernel
theorem dX5_init_4 : decode cX5_init 4 = .ok (.aload_n 0, 1) := by decide +kernel
theorem dX5_init_5 : decode cX5_init 5 = .ok (.bipush 13, 2) := by decide +kernel
theorem dX5_init_7 : decode cX5_init 7 = .ok (.newarray .int, 2) := by decide +kernel
theorem dX5_init_9 : decode cX5_init 9 = .ok (.putfield 9, 3) := by decide +kernel
theorem dX5_init_12 : decode cX5_init 12 = .ok (.aload_n 0, 1) := by decide +kernel
theorem dX5_init_13 : decode cX5_init 13 = .ok (.aload_n 1, 1) := by decide +kernel
theorem dX5_init_14 : decode cX5_init 14 = .ok (.putfield 15, 3) := by decide +kernel
theorem dX5_init_17 : decode cX5_init 17 = .ok (.aload_n 0, 1) := by decide +kernel
theorem dX5_init_18 : decode cX5_init 18 = .ok (.aload_n 2, 1) := by decide +kernel
theorem dX5_init_19 : decode cX5_init 19 = .ok (.putfield 19, 3) := by decide +kernel
theorem dX5_init_22 : decode cX5_init 22 = .ok (.return_, 1) := by decide +kernel
theorem dX5_readsFrom_0 : decode cX5_readsFrom 0 = .ok (.iconst 1, 1) := by decide +kernel
theorem dX5_readsFrom_1 : decode cX5_readsFrom 1 = .ok (.iload_n 2, 1) := by decide +kernel
theorem dX5_readsFrom_2 : decode cX5_readsFrom 2 = .ok (.ishl, 1) := by decide +kernel
theorem dX5_readsFrom_3 : decode cX5_readsFrom 3 = .ok (.iconst 1, 1) := by decide +kernel
theorem dX5_readsFrom_4 : decode cX5_readsFrom 4 = .ok (.iload_n 1, 1) := by decide +kernel
theorem dX5_readsFrom_5 : decode cX5_readsFrom 5 = .ok (.ishl, 1) := by decide +kernel
theorem dX5_readsFrom_6 : decode cX5_readsFrom 6 = .ok (.ior, 1) := by decide +kernel
theorem dX5_readsFrom_7 : decode cX5_readsFrom 7 = .ok (.istore_n 3, 1) := by decide +kernel
theorem dX5_readsFrom_8 : decode cX5_readsFrom 8 = .ok (.iconst 0, 1) := by decide +kernel
theorem dX5_readsFrom_9 : decode cX5_readsFrom 9 = .ok (.istore 4, 2) := by decide +kernel
theorem dX5_readsFrom_11 : decode cX5_readsFrom 11 = .ok (.iconst 0, 1) := by decide +kernel
theorem dX5_readsFrom_12 : decode cX5_readsFrom 12 = .ok (.istore 5, 2) := by decide +kernel
theorem dX5_readsFrom_14 : decode cX5_readsFrom 14 = .ok (.iload 5, 2) := by decide +kernel
theorem dX5_readsFrom_16 : decode cX5_readsFrom 16 = .ok (.aload_n 0, 1) := by decide +kernel
theorem dX5_readsFrom_17 : decode cX5_readsFrom 17 = .ok (.getfield 19, 3) := by decide +kernel
theorem dX5_readsFrom_20 : decode cX5_readsFrom 20 = .ok (.getfield 23, 3) := by decide +kernel
theorem dX5_readsFrom_23 : decode cX5_readsFrom 23 = .ok (.if_icmp .ge 39, 3) := by decide +kernel
theorem dX5_readsFrom_26 : decode cX5_readsFrom 26 = .ok (.aload_n 0, 1) := by decide +kernel
theorem dX5_readsFrom_27 : decode cX5_readsFrom 27 = .ok (.getfield 15, 3) := by decide +kernel
theorem dX5_readsFrom_30 : decode cX5_readsFrom 30 = .ok (.iload 5, 2) := by decide +kernel
theorem dX5_readsFrom_32 : decode cX5_readsFrom 32 = .ok (.invokevirtual 29, 3) := by decide +kernel
theorem dX5_readsFrom_35 : decode cX5_readsFrom 35 = .ok (.ifCond .ne 21, 3) := by decide +kernel
theorem dX5_readsFrom_38 : decode cX5_readsFrom 38 = .ok (.aload_n 0, 1) := by decide +kernel
theorem dX5_readsFrom_39 : decode cX5_readsFrom 39 = .ok (.getfield 15, 3) := by decide +kernel
theorem dX5_readsFrom_42 : decode cX5_readsFrom 42 = .ok (.iload 5, 2) := by decide +kernel
theorem dX5_readsFrom_44 : decode cX5_readsFrom 44 = .ok (.invokevirtual 35, 3) := by decide +kernel
theorem dX5_readsFrom_47 : decode cX5_readsFrom 47 = .ok (.iload_n 3, 1) := by decide +kernel
theorem dX5_readsFrom_48 : decode cX5_readsFrom 48 = .ok (.iand, 1) := by decide +kernel
theorem dX5_readsFrom_49 : decode cX5_readsFrom 49 = .ok (.iload_n 3, 1) := by decide +kernel
theorem dX5_readsFrom_50 : decode cX5_readsFrom 50 = .ok (.if_icmp .ne 6, 3) := by decide +kernel
theorem dX5_readsFrom_53 : decode cX5_readsFrom 53 = .ok (.iinc 4 1, 3) := by decide +kernel
theorem dX5_readsFrom_56 : decode cX5_readsFrom 56 = .ok (.iinc 5 1, 3) := by decide +kernel
theorem dX5_readsFrom_59 : decode cX5_readsFrom 59 = .ok (.goto (-45), 3) := by decide +kernel
theorem dX5_readsFrom_62 : decode cX5_readsFrom 62 = .ok (.iload 4, 2) := by decide +kernel
theorem dX5_readsFrom_64 : decode cX5_readsFrom 64 = .ok (.ireturn, 1) := by decide +kernel
theorem dX5_ticks_0 : decode cX5_ticks 0 = .ok (.aload_n 0, 1) := by decide +kernel
theorem dX5_ticks_1 : decode cX5_ticks 1 = .ok (.iload_n 1, 1) := by decide +kernel
theorem dX5_ticks_2 : decode cX5_ticks 2 = .ok (.invokevirtual 38, 3) := by decide +kernel
theorem dX5_ticks_5 : decode cX5_ticks 5 = .ok (.lstore_n 3, 1) := by decide +kernel
theorem dX5_ticks_6 : decode cX5_ticks 6 = .ok (.iconst 0, 1) := by decide +kernel
theorem dX5_ticks_7 : decode cX5_ticks 7 = .ok (.istore 5, 2) := by decide +kernel
theorem dX5_ticks_9 : decode cX5_ticks 9 = .ok (.iload 5, 2) := by decide +kernel
theorem dX5_ticks_11 : decode cX5_ticks 11 = .ok (.bipush 40, 2) := by decide +kernel
theorem dX5_ticks_13 : decode cX5_ticks 13 = .ok (.if_icmp .ge 46, 3) := by decide +kernel
theorem dX5_ticks_16 : decode cX5_ticks 16 = .ok (.lload_n 3, 1) := by decide +kernel
theorem dX5_ticks_17 : decode cX5_ticks 17 = .ok (.lconst 0, 1) := by decide +kernel
theorem dX5_ticks_18 : decode cX5_ticks 18 = .ok (.lcmp, 1) := by decide +kernel
theorem dX5_ticks_19 : decode cX5_ticks 19 = .ok (.ifCond .eq 40, 3) := by decide +kernel
theorem dX5_ticks_22 : decode cX5_ticks 22 = .ok (.iconst 0, 1) := by decide +kernel
theorem dX5_ticks_23 : decode cX5_ticks 23 = .ok (.istore 6, 2) := by decide +kernel
theorem dX5_ticks_25 : decode cX5_ticks 25 = .ok (.iload 6, 2) := by decide +kernel
theorem dX5_ticks_27 : decode cX5_ticks 27 = .ok (.bipush 13, 2) := by decide +kernel
theorem dX5_ticks_29 : decode cX5_ticks 29 = .ok (.if_icmp .ge 17, 3) := by decide +kernel
theorem dX5_ticks_32 : decode cX5_ticks 32 = .ok (.aload_n 0, 1) := by decide +kernel
theorem dX5_ticks_33 : decode cX5_ticks 33 = .ok (.getfield 9, 3) := by decide +kernel
theorem dX5_ticks_36 : decode cX5_ticks 36 = .ok (.iload 6, 2) := by decide +kernel
theorem dX5_ticks_38 : decode cX5_ticks 38 = .ok (.iload_n 2, 1) := by decide +kernel
theorem dX5_ticks_39 : decode cX5_ticks 39 = .ok (.iastore, 1) := by decide +kernel
theorem dX5_ticks_40 : decode cX5_ticks 40 = .ok (.iinc 6 1, 3) := by decide +kernel
theorem dX5_ticks_43 : decode cX5_ticks 43 = .ok (.goto (-18), 3) := by decide +kernel
theorem dX5_ticks_46 : decode cX5_ticks 46 = .ok (.aload_n 0, 1) := by decide +kernel
theorem dX5_ticks_47 : decode cX5_ticks 47 = .ok (.lload_n 3, 1) := by decide +kernel
theorem dX5_ticks_48 : decode cX5_ticks 48 = .ok (.iload_n 1, 1) := by decide +kernel
theorem dX5_ticks_49 : decode cX5_ticks 49 = .ok (.invokevirtual 42, 3) := by decide +kernel
theorem dX5_ticks_52 : decode cX5_ticks 52 = .ok (.lstore_n 3, 1) := by decide +kernel
theorem dX5_ticks_53 : decode cX5_ticks 53 = .ok (.iinc 5 1, 3) := by decide +kernel
theorem dX5_ticks_56 : decode cX5_ticks 56 = .ok (.goto (-47), 3) := by decide +kernel
theorem dX5_ticks_59 : decode cX5_ticks 59 = .ok (.iload 5, 2) := by decide +kernel
theorem dX5_ticks_61 : decode cX5_ticks 61 = .ok (.ireturn, 1) := by decide +kernel
theorem dX5_rebuiltIntoSpares_0 : decode cX5_rebuiltIntoSpares 0 = .ok (.lconst 0, 1) := by decide +kernel
theorem dX5_rebuiltIntoSpares_1 : decode cX5_rebuiltIntoSpares 1 = .ok (.lstore_n 2, 1) := by decide +kernel
theorem dX5_rebuiltIntoSpares_2 : decode cX5_rebuiltIntoSpares 2 = .ok (.iconst 0, 1) := by decide +kernel
theorem dX5_rebuiltIntoSpares_3 : decode cX5_rebuiltIntoSpares 3 = .ok (.istore 4, 2) := by decide +kernel
theorem dX5_rebuiltIntoSpares_5 : decode cX5_rebuiltIntoSpares 5 = .ok (.iload 4, 2) := by decide +kernel
theorem dX5_rebuiltIntoSpares_7 : decode cX5_rebuiltIntoSpares 7 = .ok (.aload_n 0, 1) := by decide +kernel
theorem dX5_rebuiltIntoSpares_8 : decode cX5_rebuiltIntoSpares 8 = .ok (.getfield 19, 3) := by decide +kernel
theorem dX5_rebuiltIntoSpares_11 : decode cX5_rebuiltIntoSpares 11 = .ok (.getfield 23, 3) := by decide +kernel
theorem dX5_rebuiltIntoSpares_14 : decode cX5_rebuiltIntoSpares 14 = .ok (.if_icmp .ge 101, 3) := by decide +kernel
theorem dX5_rebuiltIntoSpares_17 : decode cX5_rebuiltIntoSpares 17 = .ok (.aload_n 0, 1) := by decide +kernel
theorem dX5_rebuiltIntoSpares_18 : decode cX5_rebuiltIntoSpares 18 = .ok (.getfield 15, 3) := by decide +kernel
theorem dX5_rebuiltIntoSpares_21 : decode cX5_rebuiltIntoSpares 21 = .ok (.iload 4, 2) := by decide +kernel
theorem dX5_rebuiltIntoSpares_23 : decode cX5_rebuiltIntoSpares 23 = .ok (.invokevirtual 35, 3) := by decide +kernel
theorem dX5_rebuiltIntoSpares_26 : decode cX5_rebuiltIntoSpares 26 = .ok (.iload_n 1, 1) := by decide +kernel
theorem dX5_rebuiltIntoSpares_27 : decode cX5_rebuiltIntoSpares 27 = .ok (.ishr, 1) := by decide +kernel
theorem dX5_rebuiltIntoSpares_28 : decode cX5_rebuiltIntoSpares 28 = .ok (.iconst 1, 1) := by decide +kernel
theorem dX5_rebuiltIntoSpares_29 : decode cX5_rebuiltIntoSpares 29 = .ok (.iand, 1) := by decide +kernel
theorem dX5_rebuiltIntoSpares_30 : decode cX5_rebuiltIntoSpares 30 = .ok (.ifCond .eq 7, 3) := by decide +kernel
theorem dX5_rebuiltIntoSpares_33 : decode cX5_rebuiltIntoSpares 33 = .ok (.iconst 1, 1) := by decide +kernel
theorem dX5_rebuiltIntoSpares_34 : decode cX5_rebuiltIntoSpares 34 = .ok (.goto 4, 3) := by decide +kernel
theorem dX5_rebuiltIntoSpares_37 : decode cX5_rebuiltIntoSpares 37 = .ok (.iconst 0, 1) := by decide +kernel
theorem dX5_rebuiltIntoSpares_38 : decode cX5_rebuiltIntoSpares 38 = .ok (.istore 5, 2) := by decide +kernel
theorem dX5_rebuiltIntoSpares_40 : decode cX5_rebuiltIntoSpares 40 = .ok (.aload_n 0, 1) := by decide +kernel
theorem dX5_rebuiltIntoSpares_41 : decode cX5_rebuiltIntoSpares 41 = .ok (.getfield 15, 3) := by decide +kernel
theorem dX5_rebuiltIntoSpares_44 : decode cX5_rebuiltIntoSpares 44 = .ok (.iload 4, 2) := by decide +kernel
theorem dX5_rebuiltIntoSpares_46 : decode cX5_rebuiltIntoSpares 46 = .ok (.invokevirtual 29, 3) := by decide +kernel
theorem dX5_rebuiltIntoSpares_49 : decode cX5_rebuiltIntoSpares 49 = .ok (.ifCond .ne 20, 3) := by decide +kernel
theorem dX5_rebuiltIntoSpares_52 : decode cX5_rebuiltIntoSpares 52 = .ok (.aload_n 0, 1) := by decide +kernel
theorem dX5_rebuiltIntoSpares_53 : decode cX5_rebuiltIntoSpares 53 = .ok (.getfield 15, 3) := by decide +kernel
theorem dX5_rebuiltIntoSpares_56 : decode cX5_rebuiltIntoSpares 56 = .ok (.iload 4, 2) := by decide +kernel
theorem dX5_rebuiltIntoSpares_58 : decode cX5_rebuiltIntoSpares 58 = .ok (.invokevirtual 46, 3) := by decide +kernel
theorem dX5_rebuiltIntoSpares_61 : decode cX5_rebuiltIntoSpares 61 = .ok (.iconst (-1), 1) := by decide +kernel
theorem dX5_rebuiltIntoSpares_62 : decode cX5_rebuiltIntoSpares 62 = .ok (.if_icmp .ne 7, 3) := by decide +kernel
theorem dX5_rebuiltIntoSpares_65 : decode cX5_rebuiltIntoSpares 65 = .ok (.iconst 1, 1) := by decide +kernel
theorem dX5_rebuiltIntoSpares_66 : decode cX5_rebuiltIntoSpares 66 = .ok (.goto 4, 3) := by decide +kernel
theorem dX5_rebuiltIntoSpares_69 : decode cX5_rebuiltIntoSpares 69 = .ok (.iconst 0, 1) := by decide +kernel
theorem dX5_rebuiltIntoSpares_70 : decode cX5_rebuiltIntoSpares 70 = .ok (.istore 6, 2) := by decide +kernel
theorem dX5_rebuiltIntoSpares_72 : decode cX5_rebuiltIntoSpares 72 = .ok (.iload 5, 2) := by decide +kernel
theorem dX5_rebuiltIntoSpares_74 : decode cX5_rebuiltIntoSpares 74 = .ok (.ifCond .eq 35, 3) := by decide +kernel
theorem dX5_rebuiltIntoSpares_77 : decode cX5_rebuiltIntoSpares 77 = .ok (.iload 6, 2) := by decide +kernel
theorem dX5_rebuiltIntoSpares_79 : decode cX5_rebuiltIntoSpares 79 = .ok (.ifCond .eq 30, 3) := by decide +kernel
theorem dX5_rebuiltIntoSpares_82 : decode cX5_rebuiltIntoSpares 82 = .ok (.aload_n 0, 1) := by decide +kernel
theorem dX5_rebuiltIntoSpares_83 : decode cX5_rebuiltIntoSpares 83 = .ok (.getfield 15, 3) := by decide +kernel
theorem dX5_rebuiltIntoSpares_86 : decode cX5_rebuiltIntoSpares 86 = .ok (.aload_n 0, 1) := by decide +kernel
theorem dX5_rebuiltIntoSpares_87 : decode cX5_rebuiltIntoSpares 87 = .ok (.getfield 19, 3) := by decide +kernel
theorem dX5_rebuiltIntoSpares_90 : decode cX5_rebuiltIntoSpares 90 = .ok (.getfield 49, 3) := by decide +kernel
theorem dX5_rebuiltIntoSpares_93 : decode cX5_rebuiltIntoSpares 93 = .ok (.iload 4, 2) := by decide +kernel
theorem dX5_rebuiltIntoSpares_95 : decode cX5_rebuiltIntoSpares 95 = .ok (.iaload, 1) := by decide +kernel
theorem dX5_rebuiltIntoSpares_96 : decode cX5_rebuiltIntoSpares 96 = .ok (.invokevirtual 52, 3) := by decide +kernel
theorem dX5_rebuiltIntoSpares_99 : decode cX5_rebuiltIntoSpares 99 = .ok (.ifCond .eq 10, 3) := by decide +kernel
theorem dX5_rebuiltIntoSpares_102 : decode cX5_rebuiltIntoSpares 102 = .ok (.lload_n 2, 1) := by decide +kernel
theorem dX5_rebuiltIntoSpares_103 : decode cX5_rebuiltIntoSpares 103 = .ok (.lconst 1, 1) := by decide +kernel
theorem dX5_rebuiltIntoSpares_104 : decode cX5_rebuiltIntoSpares 104 = .ok (.iload 4, 2) := by decide +kernel
theorem dX5_rebuiltIntoSpares_106 : decode cX5_rebuiltIntoSpares 106 = .ok (.lshl, 1) := by decide +kernel
theorem dX5_rebuiltIntoSpares_107 : decode cX5_rebuiltIntoSpares 107 = .ok (.lor, 1) := by decide +kernel
theorem dX5_rebuiltIntoSpares_108 : decode cX5_rebuiltIntoSpares 108 = .ok (.lstore_n 2, 1) := by decide +kernel
theorem dX5_rebuiltIntoSpares_109 : decode cX5_rebuiltIntoSpares 109 = .ok (.iinc 4 1, 3) := by decide +kernel
theorem dX5_rebuiltIntoSpares_112 : decode cX5_rebuiltIntoSpares 112 = .ok (.goto (-107), 3) := by decide +kernel
theorem dX5_rebuiltIntoSpares_115 : decode cX5_rebuiltIntoSpares 115 = .ok (.lload_n 2, 1) := by decide +kernel
theorem dX5_rebuiltIntoSpares_116 : decode cX5_rebuiltIntoSpares 116 = .ok (.lreturn, 1) := by decide +kernel
theorem dX5_afterTick_0 : decode cX5_afterTick 0 = .ok (.lload_n 1, 1) := by decide +kernel
theorem dX5_afterTick_1 : decode cX5_afterTick 1 = .ok (.lstore 4, 2) := by decide +kernel
theorem dX5_afterTick_3 : decode cX5_afterTick 3 = .ok (.iconst 0, 1) := by decide +kernel
theorem dX5_afterTick_4 : decode cX5_afterTick 4 = .ok (.istore 6, 2) := by decide +kernel
theorem dX5_afterTick_6 : decode cX5_afterTick 6 = .ok (.iload 6, 2) := by decide +kernel
theorem dX5_afterTick_8 : decode cX5_afterTick 8 = .ok (.aload_n 0, 1) := by decide +kernel
theorem dX5_afterTick_9 : decode cX5_afterTick 9 = .ok (.getfield 19, 3) := by decide +kernel
theorem dX5_afterTick_12 : decode cX5_afterTick 12 = .ok (.getfield 23, 3) := by decide +kernel
theorem dX5_afterTick_15 : decode cX5_afterTick 15 = .ok (.if_icmp .ge 79, 3) := by decide +kernel
theorem dX5_afterTick_18 : decode cX5_afterTick 18 = .ok (.lload_n 1, 1) := by decide +kernel
theorem dX5_afterTick_19 : decode cX5_afterTick 19 = .ok (.iload 6, 2) := by decide +kernel
theorem dX5_afterTick_21 : decode cX5_afterTick 21 = .ok (.lshr, 1) := by decide +kernel
theorem dX5_afterTick_22 : decode cX5_afterTick 22 = .ok (.lconst 1, 1) := by decide +kernel
theorem dX5_afterTick_23 : decode cX5_afterTick 23 = .ok (.land, 1) := by decide +kernel
theorem dX5_afterTick_24 : decode cX5_afterTick 24 = .ok (.lconst 0, 1) := by decide +kernel
theorem dX5_afterTick_25 : decode cX5_afterTick 25 = .ok (.lcmp, 1) := by decide +kernel
theorem dX5_afterTick_26 : decode cX5_afterTick 26 = .ok (.ifCond .eq 62, 3) := by decide +kernel
theorem dX5_afterTick_29 : decode cX5_afterTick 29 = .ok (.aload_n 0, 1) := by decide +kernel
theorem dX5_afterTick_30 : decode cX5_afterTick 30 = .ok (.getfield 19, 3) := by decide +kernel
theorem dX5_afterTick_33 : decode cX5_afterTick 33 = .ok (.getfield 56, 3) := by decide +kernel
theorem dX5_afterTick_36 : decode cX5_afterTick 36 = .ok (.iload 6, 2) := by decide +kernel
theorem dX5_afterTick_38 : decode cX5_afterTick 38 = .ok (.iaload, 1) := by decide +kernel
theorem dX5_afterTick_39 : decode cX5_afterTick 39 = .ok (.iconst 1, 1) := by decide +kernel
theorem dX5_afterTick_40 : decode cX5_afterTick 40 = .ok (.iload_n 3, 1) := by decide +kernel
theorem dX5_afterTick_41 : decode cX5_afterTick 41 = .ok (.ishl, 1) := by decide +kernel
theorem dX5_afterTick_42 : decode cX5_afterTick 42 = .ok (.iconst (-1), 1) := by decide +kernel
theorem dX5_afterTick_43 : decode cX5_afterTick 43 = .ok (.ixor, 1) := by decide +kernel
theorem dX5_afterTick_44 : decode cX5_afterTick 44 = .ok (.iand, 1) := by decide +kernel
theorem dX5_afterTick_45 : decode cX5_afterTick 45 = .ok (.iconst 1, 1) := by decide +kernel
theorem dX5_afterTick_46 : decode cX5_afterTick 46 = .ok (.aload_n 0, 1) := by decide +kernel
theorem dX5_afterTick_47 : decode cX5_afterTick 47 = .ok (.getfield 19, 3) := by decide +kernel
theorem dX5_afterTick_50 : decode cX5_afterTick 50 = .ok (.getfield 49, 3) := by decide +kernel
theorem dX5_afterTick_53 : decode cX5_afterTick 53 = .ok (.iload 6, 2) := by decide +kernel
theorem dX5_afterTick_55 : decode cX5_afterTick 55 = .ok (.iaload, 1) := by decide +kernel
theorem dX5_afterTick_56 : decode cX5_afterTick 56 = .ok (.ishl, 1) := by decide +kernel
theorem dX5_afterTick_57 : decode cX5_afterTick 57 = .ok (.ior, 1) := by decide +kernel
theorem dX5_afterTick_58 : decode cX5_afterTick 58 = .ok (.istore 7, 2) := by decide +kernel
theorem dX5_afterTick_60 : decode cX5_afterTick 60 = .ok (.aload_n 0, 1) := by decide +kernel
theorem dX5_afterTick_61 : decode cX5_afterTick 61 = .ok (.iload 7, 2) := by decide +kernel
theorem dX5_afterTick_63 : decode cX5_afterTick 63 = .ok (.invokevirtual 59, 3) := by decide +kernel
theorem dX5_afterTick_66 : decode cX5_afterTick 66 = .ok (.ifCond .eq 22, 3) := by decide +kernel
theorem dX5_afterTick_69 : decode cX5_afterTick 69 = .ok (.aload_n 0, 1) := by decide +kernel
theorem dX5_afterTick_70 : decode cX5_afterTick 70 = .ok (.iload 7, 2) := by decide +kernel
theorem dX5_afterTick_72 : decode cX5_afterTick 72 = .ok (.invokevirtual 62, 3) := by decide +kernel
theorem dX5_afterTick_75 : decode cX5_afterTick 75 = .ok (.lload 4, 2) := by decide +kernel
theorem dX5_afterTick_77 : decode cX5_afterTick 77 = .ok (.lconst 1, 1) := by decide +kernel
theorem dX5_afterTick_78 : decode cX5_afterTick 78 = .ok (.iload 6, 2) := by decide +kernel
theorem dX5_afterTick_80 : decode cX5_afterTick 80 = .ok (.lshl, 1) := by decide +kernel
theorem dX5_afterTick_81 : decode cX5_afterTick 81 = .ok (.ldc2_w 66, 3) := by decide +kernel
theorem dX5_afterTick_84 : decode cX5_afterTick 84 = .ok (.lxor, 1) := by decide +kernel
theorem dX5_afterTick_85 : decode cX5_afterTick 85 = .ok (.land, 1) := by decide +kernel
theorem dX5_afterTick_86 : decode cX5_afterTick 86 = .ok (.lstore 4, 2) := by decide +kernel
theorem dX5_afterTick_88 : decode cX5_afterTick 88 = .ok (.iinc 6 1, 3) := by decide +kernel
theorem dX5_afterTick_91 : decode cX5_afterTick 91 = .ok (.goto (-85), 3) := by decide +kernel
theorem dX5_afterTick_94 : decode cX5_afterTick 94 = .ok (.lload 4, 2) := by decide +kernel
theorem dX5_afterTick_96 : decode cX5_afterTick 96 = .ok (.lreturn, 1) := by decide +kernel
theorem dX5_canTake_0 : decode cX5_canTake 0 = .ok (.iconst 0, 1) := by decide +kernel
theorem dX5_canTake_1 : decode cX5_canTake 1 = .ok (.istore_n 2, 1) := by decide +kernel
theorem dX5_canTake_2 : decode cX5_canTake 2 = .ok (.iload_n 2, 1) := by decide +kernel
theorem dX5_canTake_3 : decode cX5_canTake 3 = .ok (.bipush 13, 2) := by decide +kernel
theorem dX5_canTake_5 : decode cX5_canTake 5 = .ok (.if_icmp .ge 29, 3) := by decide +kernel
theorem dX5_canTake_8 : decode cX5_canTake 8 = .ok (.iload_n 1, 1) := by decide +kernel
theorem dX5_canTake_9 : decode cX5_canTake 9 = .ok (.iload_n 2, 1) := by decide +kernel
theorem dX5_canTake_10 : decode cX5_canTake 10 = .ok (.ishr, 1) := by decide +kernel
theorem dX5_canTake_11 : decode cX5_canTake 11 = .ok (.iconst 1, 1) := by decide +kernel
theorem dX5_canTake_12 : decode cX5_canTake 12 = .ok (.iand, 1) := by decide +kernel
theorem dX5_canTake_13 : decode cX5_canTake 13 = .ok (.ifCond .eq 15, 3) := by decide +kernel
theorem dX5_canTake_16 : decode cX5_canTake 16 = .ok (.aload_n 0, 1) := by decide +kernel
theorem dX5_canTake_17 : decode cX5_canTake 17 = .ok (.getfield 9, 3) := by decide +kernel
theorem dX5_canTake_20 : decode cX5_canTake 20 = .ok (.iload_n 2, 1) := by decide +kernel
theorem dX5_canTake_21 : decode cX5_canTake 21 = .ok (.iaload, 1) := by decide +kernel
theorem dX5_canTake_22 : decode cX5_canTake 22 = .ok (.iconst 1, 1) := by decide +kernel
theorem dX5_canTake_23 : decode cX5_canTake 23 = .ok (.if_icmp .ge 5, 3) := by decide +kernel
theorem dX5_canTake_26 : decode cX5_canTake 26 = .ok (.iconst 0, 1) := by decide +kernel
theorem dX5_canTake_27 : decode cX5_canTake 27 = .ok (.ireturn, 1) := by decide +kernel
theorem dX5_canTake_28 : decode cX5_canTake 28 = .ok (.iinc 2 1, 3) := by decide +kernel
theorem dX5_canTake_31 : decode cX5_canTake 31 = .ok (.goto (-29), 3) := by decide +kernel
theorem dX5_canTake_34 : decode cX5_canTake 34 = .ok (.iconst 1, 1) := by decide +kernel
theorem dX5_canTake_35 : decode cX5_canTake 35 = .ok (.ireturn, 1) := by decide +kernel
theorem dX5_take_0 : decode cX5_take 0 = .ok (.iconst 0, 1) := by decide +kernel
theorem dX5_take_1 : decode cX5_take 1 = .ok (.istore_n 2, 1) := by decide +kernel
theorem dX5_take_2 : decode cX5_take 2 = .ok (.iload_n 2, 1) := by decide +kernel
theorem dX5_take_3 : decode cX5_take 3 = .ok (.bipush 13, 2) := by decide +kernel
theorem dX5_take_5 : decode cX5_take 5 = .ok (.if_icmp .ge 23, 3) := by decide +kernel
theorem dX5_take_8 : decode cX5_take 8 = .ok (.aload_n 0, 1) := by decide +kernel
theorem dX5_take_9 : decode cX5_take 9 = .ok (.getfield 9, 3) := by decide +kernel
theorem dX5_take_12 : decode cX5_take 12 = .ok (.iload_n 2, 1) := by decide +kernel
theorem dX5_take_13 : decode cX5_take 13 = .ok (.dup2, 1) := by decide +kernel
theorem dX5_take_14 : decode cX5_take 14 = .ok (.iaload, 1) := by decide +kernel
theorem dX5_take_15 : decode cX5_take 15 = .ok (.iload_n 1, 1) := by decide +kernel
theorem dX5_take_16 : decode cX5_take 16 = .ok (.iload_n 2, 1) := by decide +kernel
theorem dX5_take_17 : decode cX5_take 17 = .ok (.ishr, 1) := by decide +kernel
theorem dX5_take_18 : decode cX5_take 18 = .ok (.iconst 1, 1) := by decide +kernel
theorem dX5_take_19 : decode cX5_take 19 = .ok (.iand, 1) := by decide +kernel
theorem dX5_take_20 : decode cX5_take 20 = .ok (.isub, 1) := by decide +kernel
theorem dX5_take_21 : decode cX5_take 21 = .ok (.iastore, 1) := by decide +kernel
theorem dX5_take_22 : decode cX5_take 22 = .ok (.iinc 2 1, 3) := by decide +kernel
theorem dX5_take_25 : decode cX5_take 25 = .ok (.goto (-23), 3) := by decide +kernel
theorem dX5_take_28 : decode cX5_take 28 = .ok (.return_, 1) := by decide +kernel
theorem dX5_kills_0 : decode cX5_kills 0 = .ok (.iconst 0, 1) := by decide +kernel
theorem dX5_kills_1 : decode cX5_kills 1 = .ok (.istore_n 2, 1) := by decide +kernel
theorem dX5_kills_2 : decode cX5_kills 2 = .ok (.iload_n 2, 1) := by decide +kernel
theorem dX5_kills_3 : decode cX5_kills 3 = .ok (.aload_n 0, 1) := by decide +kernel
theorem dX5_kills_4 : decode cX5_kills 4 = .ok (.getfield 19, 3) := by decide +kernel
theorem dX5_kills_7 : decode cX5_kills 7 = .ok (.getfield 23, 3) := by decide +kernel
theorem dX5_kills_10 : decode cX5_kills 10 = .ok (.if_icmp .ge 44, 3) := by decide +kernel
theorem dX5_kills_13 : decode cX5_kills 13 = .ok (.aload_n 0, 1) := by decide +kernel
theorem dX5_kills_14 : decode cX5_kills 14 = .ok (.getfield 15, 3) := by decide +kernel
theorem dX5_kills_17 : decode cX5_kills 17 = .ok (.iload_n 2, 1) := by decide +kernel
theorem dX5_kills_18 : decode cX5_kills 18 = .ok (.invokevirtual 68, 3) := by decide +kernel
theorem dX5_kills_21 : decode cX5_kills 21 = .ok (.istore_n 3, 1) := by decide +kernel
theorem dX5_kills_22 : decode cX5_kills 22 = .ok (.iload_n 3, 1) := by decide +kernel
theorem dX5_kills_23 : decode cX5_kills 23 = .ok (.iconst 2, 1) := by decide +kernel
theorem dX5_kills_24 : decode cX5_kills 24 = .ok (.if_icmp .ge 24, 3) := by decide +kernel
theorem dX5_kills_27 : decode cX5_kills 27 = .ok (.iload_n 3, 1) := by decide +kernel
theorem dX5_kills_28 : decode cX5_kills 28 = .ok (.aload_n 0, 1) := by decide +kernel
theorem dX5_kills_29 : decode cX5_kills 29 = .ok (.getfield 15, 3) := by decide +kernel
theorem dX5_kills_32 : decode cX5_kills 32 = .ok (.iload_n 2, 1) := by decide +kernel
theorem dX5_kills_33 : decode cX5_kills 33 = .ok (.invokevirtual 35, 3) := by decide +kernel
theorem dX5_kills_36 : decode cX5_kills 36 = .ok (.iload_n 1, 1) := by decide +kernel
theorem dX5_kills_37 : decode cX5_kills 37 = .ok (.iand, 1) := by decide +kernel
theorem dX5_kills_38 : decode cX5_kills 38 = .ok (.invokestatic 71, 3) := by decide +kernel
theorem dX5_kills_41 : decode cX5_kills 41 = .ok (.iadd, 1) := by decide +kernel
theorem dX5_kills_42 : decode cX5_kills 42 = .ok (.iconst 2, 1) := by decide +kernel
theorem dX5_kills_43 : decode cX5_kills 43 = .ok (.if_icmp .lt 5, 3) := by decide +kernel
theorem dX5_kills_46 : decode cX5_kills 46 = .ok (.iconst 1, 1) := by decide +kernel
theorem dX5_kills_47 : decode cX5_kills 47 = .ok (.ireturn, 1) := by decide +kernel
theorem dX5_kills_48 : decode cX5_kills 48 = .ok (.iinc 2 1, 3) := by decide +kernel
theorem dX5_kills_51 : decode cX5_kills 51 = .ok (.goto (-49), 3) := by decide +kernel
theorem dX5_kills_54 : decode cX5_kills 54 = .ok (.iconst 0, 1) := by decide +kernel
theorem dX5_kills_55 : decode cX5_kills 55 = .ok (.ireturn, 1) := by decide +kernel
theorem dX5_deadlyPairs_0 : decode cX5_deadlyPairs 0 = .ok (.iconst 0, 1) := by decide +kernel
theorem dX5_deadlyPairs_1 : decode cX5_deadlyPairs 1 = .ok (.istore_n 1, 1) := by decide +kernel
theorem dX5_deadlyPairs_2 : decode cX5_deadlyPairs 2 = .ok (.iconst 0, 1) := by decide +kernel
theorem dX5_deadlyPairs_3 : decode cX5_deadlyPairs 3 = .ok (.istore_n 2, 1) := by decide +kernel
theorem dX5_deadlyPairs_4 : decode cX5_deadlyPairs 4 = .ok (.iload_n 2, 1) := by decide +kernel
theorem dX5_deadlyPairs_5 : decode cX5_deadlyPairs 5 = .ok (.aload_n 0, 1) := by decide +kernel
theorem dX5_deadlyPairs_6 : decode cX5_deadlyPairs 6 = .ok (.getfield 19, 3) := by decide +kernel
theorem dX5_deadlyPairs_9 : decode cX5_deadlyPairs 9 = .ok (.getfield 76, 3) := by decide +kernel
theorem dX5_deadlyPairs_12 : decode cX5_deadlyPairs 12 = .ok (.if_icmp .ge 69, 3) := by decide +kernel
theorem dX5_deadlyPairs_15 : decode cX5_deadlyPairs 15 = .ok (.iload_n 2, 1) := by decide +kernel
theorem dX5_deadlyPairs_16 : decode cX5_deadlyPairs 16 = .ok (.iconst 1, 1) := by decide +kernel
theorem dX5_deadlyPairs_17 : decode cX5_deadlyPairs 17 = .ok (.iadd, 1) := by decide +kernel
theorem dX5_deadlyPairs_18 : decode cX5_deadlyPairs 18 = .ok (.istore_n 3, 1) := by decide +kernel
theorem dX5_deadlyPairs_19 : decode cX5_deadlyPairs 19 = .ok (.iload_n 3, 1) := by decide +kernel
theorem dX5_deadlyPairs_20 : decode cX5_deadlyPairs 20 = .ok (.aload_n 0, 1) := by decide +kernel
theorem dX5_deadlyPairs_21 : decode cX5_deadlyPairs 21 = .ok (.getfield 19, 3) := by decide +kernel
theorem dX5_deadlyPairs_24 : decode cX5_deadlyPairs 24 = .ok (.getfield 76, 3) := by decide +kernel
theorem dX5_deadlyPairs_27 : decode cX5_deadlyPairs 27 = .ok (.if_icmp .ge 48, 3) := by decide +kernel
theorem dX5_deadlyPairs_30 : decode cX5_deadlyPairs 30 = .ok (.aload_n 0, 1) := by decide +kernel
theorem dX5_deadlyPairs_31 : decode cX5_deadlyPairs 31 = .ok (.getfield 15, 3) := by decide +kernel
theorem dX5_deadlyPairs_34 : decode cX5_deadlyPairs 34 = .ok (.iload_n 2, 1) := by decide +kernel
theorem dX5_deadlyPairs_35 : decode cX5_deadlyPairs 35 = .ok (.invokevirtual 52, 3) := by decide +kernel
theorem dX5_deadlyPairs_38 : decode cX5_deadlyPairs 38 = .ok (.ifCond .eq 31, 3) := by decide +kernel
theorem dX5_deadlyPairs_41 : decode cX5_deadlyPairs 41 = .ok (.aload_n 0, 1) := by decide +kernel
theorem dX5_deadlyPairs_42 : decode cX5_deadlyPairs 42 = .ok (.getfield 15, 3) := by decide +kernel
theorem dX5_deadlyPairs_45 : decode cX5_deadlyPairs 45 = .ok (.iload_n 3, 1) := by decide +kernel
theorem dX5_deadlyPairs_46 : decode cX5_deadlyPairs 46 = .ok (.invokevirtual 52, 3) := by decide +kernel
theorem dX5_deadlyPairs_49 : decode cX5_deadlyPairs 49 = .ok (.ifCond .eq 20, 3) := by decide +kernel
theorem dX5_deadlyPairs_52 : decode cX5_deadlyPairs 52 = .ok (.aload_n 0, 1) := by decide +kernel
theorem dX5_deadlyPairs_53 : decode cX5_deadlyPairs 53 = .ok (.iconst 1, 1) := by decide +kernel
theorem dX5_deadlyPairs_54 : decode cX5_deadlyPairs 54 = .ok (.iload_n 2, 1) := by decide +kernel
theorem dX5_deadlyPairs_55 : decode cX5_deadlyPairs 55 = .ok (.ishl, 1) := by decide +kernel
theorem dX5_deadlyPairs_56 : decode cX5_deadlyPairs 56 = .ok (.iconst 1, 1) := by decide +kernel
theorem dX5_deadlyPairs_57 : decode cX5_deadlyPairs 57 = .ok (.iload_n 3, 1) := by decide +kernel
theorem dX5_deadlyPairs_58 : decode cX5_deadlyPairs 58 = .ok (.ishl, 1) := by decide +kernel
theorem dX5_deadlyPairs_59 : decode cX5_deadlyPairs 59 = .ok (.ior, 1) := by decide +kernel
theorem dX5_deadlyPairs_60 : decode cX5_deadlyPairs 60 = .ok (.invokevirtual 79, 3) := by decide +kernel
theorem dX5_deadlyPairs_63 : decode cX5_deadlyPairs 63 = .ok (.ifCond .eq 6, 3) := by decide +kernel
theorem dX5_deadlyPairs_66 : decode cX5_deadlyPairs 66 = .ok (.iinc 1 1, 3) := by decide +kernel
theorem dX5_deadlyPairs_69 : decode cX5_deadlyPairs 69 = .ok (.iinc 3 1, 3) := by decide +kernel
theorem dX5_deadlyPairs_72 : decode cX5_deadlyPairs 72 = .ok (.goto (-53), 3) := by decide +kernel
theorem dX5_deadlyPairs_75 : decode cX5_deadlyPairs 75 = .ok (.iinc 2 1, 3) := by decide +kernel
theorem dX5_deadlyPairs_78 : decode cX5_deadlyPairs 78 = .ok (.goto (-74), 3) := by decide +kernel
theorem dX5_deadlyPairs_81 : decode cX5_deadlyPairs 81 = .ok (.iload_n 1, 1) := by decide +kernel
theorem dX5_deadlyPairs_82 : decode cX5_deadlyPairs 82 = .ok (.ireturn, 1) := by decide +kernel
theorem dX5_dearerWithout_0 : decode cX5_dearerWithout 0 = .ok (.aload_n 0, 1) := by decide +kernel
theorem dX5_dearerWithout_1 : decode cX5_dearerWithout 1 = .ok (.getfield 19, 3) := by decide +kernel
theorem dX5_dearerWithout_4 : decode cX5_dearerWithout 4 = .ok (.getfield 82, 3) := by decide +kernel
theorem dX5_dearerWithout_7 : decode cX5_dearerWithout 7 = .ok (.iload_n 2, 1) := by decide +kernel
theorem dX5_dearerWithout_8 : decode cX5_dearerWithout 8 = .ok (.iaload, 1) := by decide +kernel
theorem dX5_dearerWithout_9 : decode cX5_dearerWithout 9 = .ok (.istore_n 3, 1) := by decide +kernel
theorem dX5_dearerWithout_10 : decode cX5_dearerWithout 10 = .ok (.iload_n 3, 1) := by decide +kernel
theorem dX5_dearerWithout_11 : decode cX5_dearerWithout 11 = .ok (.iconst 5, 1) := by decide +kernel
theorem dX5_dearerWithout_12 : decode cX5_dearerWithout 12 = .ok (.idiv, 1) := by decide +kernel
theorem dX5_dearerWithout_13 : decode cX5_dearerWithout 13 = .ok (.istore 4, 2) := by decide +kernel
theorem dX5_dearerWithout_15 : decode cX5_dearerWithout 15 = .ok (.aload_n 0, 1) := by decide +kernel
theorem dX5_dearerWithout_16 : decode cX5_dearerWithout 16 = .ok (.getfield 15, 3) := by decide +kernel
theorem dX5_dearerWithout_19 : decode cX5_dearerWithout 19 = .ok (.getfield 85, 3) := by decide +kernel
theorem dX5_dearerWithout_22 : decode cX5_dearerWithout 22 = .ok (.iload_n 3, 1) := by decide +kernel
theorem dX5_dearerWithout_23 : decode cX5_dearerWithout 23 = .ok (.iaload, 1) := by decide +kernel
theorem dX5_dearerWithout_24 : decode cX5_dearerWithout 24 = .ok (.iconst 2, 1) := by decide +kernel
theorem dX5_dearerWithout_25 : decode cX5_dearerWithout 25 = .ok (.if_icmp .ne 7, 3) := by decide +kernel
theorem dX5_dearerWithout_28 : decode cX5_dearerWithout 28 = .ok (.iconst 1, 1) := by decide +kernel
theorem dX5_dearerWithout_29 : decode cX5_dearerWithout 29 = .ok (.goto 4, 3) := by decide +kernel
theorem dX5_dearerWithout_32 : decode cX5_dearerWithout 32 = .ok (.iconst 0, 1) := by decide +kernel
theorem dX5_dearerWithout_33 : decode cX5_dearerWithout 33 = .ok (.istore 5, 2) := by decide +kernel
theorem dX5_dearerWithout_35 : decode cX5_dearerWithout 35 = .ok (.iload 5, 2) := by decide +kernel
theorem dX5_dearerWithout_37 : decode cX5_dearerWithout 37 = .ok (.ifCond .ne 17, 3) := by decide +kernel
theorem dX5_dearerWithout_40 : decode cX5_dearerWithout 40 = .ok (.aload_n 0, 1) := by decide +kernel
theorem dX5_dearerWithout_41 : decode cX5_dearerWithout 41 = .ok (.getfield 15, 3) := by decide +kernel
theorem dX5_dearerWithout_44 : decode cX5_dearerWithout 44 = .ok (.iload_n 3, 1) := by decide +kernel
theorem dX5_dearerWithout_45 : decode cX5_dearerWithout 45 = .ok (.invokevirtual 88, 3) := by decide +kernel
theorem dX5_dearerWithout_48 : decode cX5_dearerWithout 48 = .ok (.iload_n 1, 1) := by decide +kernel
theorem dX5_dearerWithout_49 : decode cX5_dearerWithout 49 = .ok (.if_icmp .eq 5, 3) := by decide +kernel
theorem dX5_dearerWithout_52 : decode cX5_dearerWithout 52 = .ok (.iconst 0, 1) := by decide +kernel
theorem dX5_dearerWithout_53 : decode cX5_dearerWithout 53 = .ok (.ireturn, 1) := by decide +kernel
theorem dX5_dearerWithout_54 : decode cX5_dearerWithout 54 = .ok (.aload_n 0, 1) := by decide +kernel
theorem dX5_dearerWithout_55 : decode cX5_dearerWithout 55 = .ok (.getfield 15, 3) := by decide +kernel
theorem dX5_dearerWithout_58 : decode cX5_dearerWithout 58 = .ok (.iload 4, 2) := by decide +kernel
theorem dX5_dearerWithout_60 : decode cX5_dearerWithout 60 = .ok (.invokevirtual 68, 3) := by decide +kernel
theorem dX5_dearerWithout_63 : decode cX5_dearerWithout 63 = .ok (.aload_n 0, 1) := by decide +kernel
theorem dX5_dearerWithout_64 : decode cX5_dearerWithout 64 = .ok (.getfield 15, 3) := by decide +kernel
theorem dX5_dearerWithout_67 : decode cX5_dearerWithout 67 = .ok (.iload 4, 2) := by decide +kernel
theorem dX5_dearerWithout_69 : decode cX5_dearerWithout 69 = .ok (.invokevirtual 35, 3) := by decide +kernel
theorem dX5_dearerWithout_72 : decode cX5_dearerWithout 72 = .ok (.iload_n 1, 1) := by decide +kernel
theorem dX5_dearerWithout_73 : decode cX5_dearerWithout 73 = .ok (.ishr, 1) := by decide +kernel
theorem dX5_dearerWithout_74 : decode cX5_dearerWithout 74 = .ok (.iconst 1, 1) := by decide +kernel
theorem dX5_dearerWithout_75 : decode cX5_dearerWithout 75 = .ok (.iand, 1) := by decide +kernel
theorem dX5_dearerWithout_76 : decode cX5_dearerWithout 76 = .ok (.iadd, 1) := by decide +kernel
theorem dX5_dearerWithout_77 : decode cX5_dearerWithout 77 = .ok (.istore 6, 2) := by decide +kernel
theorem dX5_dearerWithout_79 : decode cX5_dearerWithout 79 = .ok (.iload 6, 2) := by decide +kernel
theorem dX5_dearerWithout_81 : decode cX5_dearerWithout 81 = .ok (.iconst 2, 1) := by decide +kernel
theorem dX5_dearerWithout_82 : decode cX5_dearerWithout 82 = .ok (.if_icmp .lt 5, 3) := by decide +kernel
theorem dX5_dearerWithout_85 : decode cX5_dearerWithout 85 = .ok (.iconst 1, 1) := by decide +kernel
theorem dX5_dearerWithout_86 : decode cX5_dearerWithout 86 = .ok (.ireturn, 1) := by decide +kernel
theorem dX5_dearerWithout_87 : decode cX5_dearerWithout 87 = .ok (.iload 5, 2) := by decide +kernel
theorem dX5_dearerWithout_89 : decode cX5_dearerWithout 89 = .ok (.ifCond .ne 23, 3) := by decide +kernel
theorem dX5_dearerWithout_92 : decode cX5_dearerWithout 92 = .ok (.aload_n 0, 1) := by decide +kernel
theorem dX5_dearerWithout_93 : decode cX5_dearerWithout 93 = .ok (.getfield 19, 3) := by decide +kernel
theorem dX5_dearerWithout_96 : decode cX5_dearerWithout 96 = .ok (.getfield 91, 3) := by decide +kernel
theorem dX5_dearerWithout_99 : decode cX5_dearerWithout 99 = .ok (.iload 4, 2) := by decide +kernel
theorem dX5_dearerWithout_101 : decode cX5_dearerWithout 101 = .ok (.iaload, 1) := by decide +kernel
theorem dX5_dearerWithout_102 : decode cX5_dearerWithout 102 = .ok (.iconst 1, 1) := by decide +kernel
theorem dX5_dearerWithout_103 : decode cX5_dearerWithout 103 = .ok (.isub, 1) := by decide +kernel
theorem dX5_dearerWithout_104 : decode cX5_dearerWithout 104 = .ok (.iconst 1, 1) := by decide +kernel
theorem dX5_dearerWithout_105 : decode cX5_dearerWithout 105 = .ok (.if_icmp .le 7, 3) := by decide +kernel
theorem dX5_dearerWithout_108 : decode cX5_dearerWithout 108 = .ok (.iconst 1, 1) := by decide +kernel
theorem dX5_dearerWithout_109 : decode cX5_dearerWithout 109 = .ok (.goto 4, 3) := by decide +kernel
theorem dX5_dearerWithout_112 : decode cX5_dearerWithout 112 = .ok (.iconst 0, 1) := by decide +kernel
theorem dX5_dearerWithout_113 : decode cX5_dearerWithout 113 = .ok (.ireturn, 1) := by decide +kernel
theorem dX5_suspects_0 : decode cX5_suspects 0 = .ok (.iconst 0, 1) := by decide +kernel
theorem dX5_suspects_1 : decode cX5_suspects 1 = .ok (.istore_n 1, 1) := by decide +kernel
theorem dX5_suspects_2 : decode cX5_suspects 2 = .ok (.iconst 0, 1) := by decide +kernel
theorem dX5_suspects_3 : decode cX5_suspects 3 = .ok (.istore_n 2, 1) := by decide +kernel
theorem dX5_suspects_4 : decode cX5_suspects 4 = .ok (.iload_n 2, 1) := by decide +kernel
theorem dX5_suspects_5 : decode cX5_suspects 5 = .ok (.aload_n 0, 1) := by decide +kernel
theorem dX5_suspects_6 : decode cX5_suspects 6 = .ok (.getfield 19, 3) := by decide +kernel
theorem dX5_suspects_9 : decode cX5_suspects 9 = .ok (.getfield 76, 3) := by decide +kernel
theorem dX5_suspects_12 : decode cX5_suspects 12 = .ok (.if_icmp .ge 34, 3) := by decide +kernel
theorem dX5_suspects_15 : decode cX5_suspects 15 = .ok (.aload_n 0, 1) := by decide +kernel
theorem dX5_suspects_16 : decode cX5_suspects 16 = .ok (.getfield 15, 3) := by decide +kernel
theorem dX5_suspects_19 : decode cX5_suspects 19 = .ok (.iload_n 2, 1) := by decide +kernel
theorem dX5_suspects_20 : decode cX5_suspects 20 = .ok (.invokevirtual 52, 3) := by decide +kernel
theorem dX5_suspects_23 : decode cX5_suspects 23 = .ok (.ifCond .eq 17, 3) := by decide +kernel
theorem dX5_suspects_26 : decode cX5_suspects 26 = .ok (.aload_n 0, 1) := by decide +kernel
theorem dX5_suspects_27 : decode cX5_suspects 27 = .ok (.iload_n 2, 1) := by decide +kernel
theorem dX5_suspects_28 : decode cX5_suspects 28 = .ok (.invokevirtual 94, 3) := by decide +kernel
theorem dX5_suspects_31 : decode cX5_suspects 31 = .ok (.ifCond .eq 9, 3) := by decide +kernel
theorem dX5_suspects_34 : decode cX5_suspects 34 = .ok (.iload_n 1, 1) := by decide +kernel
theorem dX5_suspects_35 : decode cX5_suspects 35 = .ok (.iconst 1, 1) := by decide +kernel
theorem dX5_suspects_36 : decode cX5_suspects 36 = .ok (.iload_n 2, 1) := by decide +kernel
theorem dX5_suspects_37 : decode cX5_suspects 37 = .ok (.ishl, 1) := by decide +kernel
theorem dX5_suspects_38 : decode cX5_suspects 38 = .ok (.ior, 1) := by decide +kernel
theorem dX5_suspects_39 : decode cX5_suspects 39 = .ok (.istore_n 1, 1) := by decide +kernel
theorem dX5_suspects_40 : decode cX5_suspects 40 = .ok (.iinc 2 1, 3) := by decide +kernel
theorem dX5_suspects_43 : decode cX5_suspects 43 = .ok (.goto (-39), 3) := by decide +kernel
theorem dX5_suspects_46 : decode cX5_suspects 46 = .ok (.iload_n 1, 1) := by decide +kernel
theorem dX5_suspects_47 : decode cX5_suspects 47 = .ok (.ireturn, 1) := by decide +kernel
theorem dX5_fitsSeen_0 : decode cX5_fitsSeen 0 = .ok (.iconst 0, 1) := by decide +kernel
theorem dX5_fitsSeen_1 : decode cX5_fitsSeen 1 = .ok (.istore_n 2, 1) := by decide +kernel
theorem dX5_fitsSeen_2 : decode cX5_fitsSeen 2 = .ok (.iload_n 2, 1) := by decide +kernel
theorem dX5_fitsSeen_3 : decode cX5_fitsSeen 3 = .ok (.aload_n 0, 1) := by decide +kernel
theorem dX5_fitsSeen_4 : decode cX5_fitsSeen 4 = .ok (.getfield 15, 3) := by decide +kernel
theorem dX5_fitsSeen_7 : decode cX5_fitsSeen 7 = .ok (.getfield 97, 3) := by decide +kernel
theorem dX5_fitsSeen_10 : decode cX5_fitsSeen 10 = .ok (.if_icmp .ge 49, 3) := by decide +kernel
theorem dX5_fitsSeen_13 : decode cX5_fitsSeen 13 = .ok (.aload_n 0, 1) := by decide +kernel
theorem dX5_fitsSeen_14 : decode cX5_fitsSeen 14 = .ok (.getfield 15, 3) := by decide +kernel
theorem dX5_fitsSeen_17 : decode cX5_fitsSeen 17 = .ok (.getfield 100, 3) := by decide +kernel
theorem dX5_fitsSeen_20 : decode cX5_fitsSeen 20 = .ok (.iload_n 2, 1) := by decide +kernel
theorem dX5_fitsSeen_21 : decode cX5_fitsSeen 21 = .ok (.ishr, 1) := by decide +kernel
theorem dX5_fitsSeen_22 : decode cX5_fitsSeen 22 = .ok (.iconst 1, 1) := by decide +kernel
theorem dX5_fitsSeen_23 : decode cX5_fitsSeen 23 = .ok (.iand, 1) := by decide +kernel
theorem dX5_fitsSeen_24 : decode cX5_fitsSeen 24 = .ok (.ifCond .eq 7, 3) := by decide +kernel
theorem dX5_fitsSeen_27 : decode cX5_fitsSeen 27 = .ok (.iconst 1, 1) := by decide +kernel
theorem dX5_fitsSeen_28 : decode cX5_fitsSeen 28 = .ok (.goto 4, 3) := by decide +kernel
theorem dX5_fitsSeen_31 : decode cX5_fitsSeen 31 = .ok (.iconst 0, 1) := by decide +kernel
theorem dX5_fitsSeen_32 : decode cX5_fitsSeen 32 = .ok (.istore_n 3, 1) := by decide +kernel
theorem dX5_fitsSeen_33 : decode cX5_fitsSeen 33 = .ok (.aload_n 0, 1) := by decide +kernel
theorem dX5_fitsSeen_34 : decode cX5_fitsSeen 34 = .ok (.iload_n 1, 1) := by decide +kernel
theorem dX5_fitsSeen_35 : decode cX5_fitsSeen 35 = .ok (.aload_n 0, 1) := by decide +kernel
theorem dX5_fitsSeen_36 : decode cX5_fitsSeen 36 = .ok (.getfield 15, 3) := by decide +kernel
theorem dX5_fitsSeen_39 : decode cX5_fitsSeen 39 = .ok (.getfield 103, 3) := by decide +kernel
theorem dX5_fitsSeen_42 : decode cX5_fitsSeen 42 = .ok (.iload_n 2, 1) := by decide +kernel
theorem dX5_fitsSeen_43 : decode cX5_fitsSeen 43 = .ok (.iaload, 1) := by decide +kernel
theorem dX5_fitsSeen_44 : decode cX5_fitsSeen 44 = .ok (.invokevirtual 106, 3) := by decide +kernel
theorem dX5_fitsSeen_47 : decode cX5_fitsSeen 47 = .ok (.iload_n 3, 1) := by decide +kernel
theorem dX5_fitsSeen_48 : decode cX5_fitsSeen 48 = .ok (.if_icmp .eq 5, 3) := by decide +kernel
theorem dX5_fitsSeen_51 : decode cX5_fitsSeen 51 = .ok (.iconst 0, 1) := by decide +kernel
theorem dX5_fitsSeen_52 : decode cX5_fitsSeen 52 = .ok (.ireturn, 1) := by decide +kernel
theorem dX5_fitsSeen_53 : decode cX5_fitsSeen 53 = .ok (.iinc 2 1, 3) := by decide +kernel
theorem dX5_fitsSeen_56 : decode cX5_fitsSeen 56 = .ok (.goto (-54), 3) := by decide +kernel
theorem dX5_fitsSeen_59 : decode cX5_fitsSeen 59 = .ok (.iconst 1, 1) := by decide +kernel
theorem dX5_fitsSeen_60 : decode cX5_fitsSeen 60 = .ok (.ireturn, 1) := by decide +kernel
theorem dX5_bestQuestion_0 : decode cX5_bestQuestion 0 = .ok (.aload_n 0, 1) := by decide +kernel
theorem dX5_bestQuestion_1 : decode cX5_bestQuestion 1 = .ok (.invokevirtual 110, 3) := by decide +kernel
theorem dX5_bestQuestion_4 : decode cX5_bestQuestion 4 = .ok (.istore_n 1, 1) := by decide +kernel
theorem dX5_bestQuestion_5 : decode cX5_bestQuestion 5 = .ok (.iload_n 1, 1) := by decide +kernel
theorem dX5_bestQuestion_6 : decode cX5_bestQuestion 6 = .ok (.invokestatic 71, 3) := by decide +kernel
theorem dX5_bestQuestion_9 : decode cX5_bestQuestion 9 = .ok (.istore_n 2, 1) := by decide +kernel
theorem dX5_bestQuestion_10 : decode cX5_bestQuestion 10 = .ok (.iconst (-1), 1) := by decide +kernel
theorem dX5_bestQuestion_11 : decode cX5_bestQuestion 11 = .ok (.istore_n 3, 1) := by decide +kernel
theorem dX5_bestQuestion_12 : decode cX5_bestQuestion 12 = .ok (.iconst 0, 1) := by decide +kernel
theorem dX5_bestQuestion_13 : decode cX5_bestQuestion 13 = .ok (.istore 4, 2) := by decide +kernel
theorem dX5_bestQuestion_15 : decode cX5_bestQuestion 15 = .ok (.iload 4, 2) := by decide +kernel
theorem dX5_bestQuestion_17 : decode cX5_bestQuestion 17 = .ok (.aload_n 0, 1) := by decide +kernel
theorem dX5_bestQuestion_18 : decode cX5_bestQuestion 18 = .ok (.getfield 19, 3) := by decide +kernel
theorem dX5_bestQuestion_21 : decode cX5_bestQuestion 21 = .ok (.getfield 114, 3) := by decide +kernel
theorem dX5_bestQuestion_24 : decode cX5_bestQuestion 24 = .ok (.if_icmp .ge 30, 3) := by decide +kernel
theorem dX5_bestQuestion_27 : decode cX5_bestQuestion 27 = .ok (.aload_n 0, 1) := by decide +kernel
theorem dX5_bestQuestion_28 : decode cX5_bestQuestion 28 = .ok (.iload 4, 2) := by decide +kernel
theorem dX5_bestQuestion_30 : decode cX5_bestQuestion 30 = .ok (.iload_n 1, 1) := by decide +kernel
theorem dX5_bestQuestion_31 : decode cX5_bestQuestion 31 = .ok (.invokevirtual 117, 3) := by decide +kernel
theorem dX5_bestQuestion_34 : decode cX5_bestQuestion 34 = .ok (.istore 5, 2) := by decide +kernel
theorem dX5_bestQuestion_36 : decode cX5_bestQuestion 36 = .ok (.iload 5, 2) := by decide +kernel
theorem dX5_bestQuestion_38 : decode cX5_bestQuestion 38 = .ok (.iload_n 2, 1) := by decide +kernel
theorem dX5_bestQuestion_39 : decode cX5_bestQuestion 39 = .ok (.if_icmp .ge 9, 3) := by decide +kernel
theorem dX5_bestQuestion_42 : decode cX5_bestQuestion 42 = .ok (.iload 5, 2) := by decide +kernel
theorem dX5_bestQuestion_44 : decode cX5_bestQuestion 44 = .ok (.istore_n 2, 1) := by decide +kernel
theorem dX5_bestQuestion_45 : decode cX5_bestQuestion 45 = .ok (.iload 4, 2) := by decide +kernel
theorem dX5_bestQuestion_47 : decode cX5_bestQuestion 47 = .ok (.istore_n 3, 1) := by decide +kernel
theorem dX5_bestQuestion_48 : decode cX5_bestQuestion 48 = .ok (.iinc 4 1, 3) := by decide +kernel
theorem dX5_bestQuestion_51 : decode cX5_bestQuestion 51 = .ok (.goto (-36), 3) := by decide +kernel
theorem dX5_bestQuestion_54 : decode cX5_bestQuestion 54 = .ok (.iload_n 3, 1) := by decide +kernel
theorem dX5_bestQuestion_55 : decode cX5_bestQuestion 55 = .ok (.ireturn, 1) := by decide +kernel
theorem dX5_leftBy_0 : decode cX5_leftBy 0 = .ok (.iconst 0, 1) := by decide +kernel
theorem dX5_leftBy_1 : decode cX5_leftBy 1 = .ok (.istore_n 3, 1) := by decide +kernel
theorem dX5_leftBy_2 : decode cX5_leftBy 2 = .ok (.iconst 0, 1) := by decide +kernel
theorem dX5_leftBy_3 : decode cX5_leftBy 3 = .ok (.istore 4, 2) := by decide +kernel
theorem dX5_leftBy_5 : decode cX5_leftBy 5 = .ok (.iload 4, 2) := by decide +kernel
theorem dX5_leftBy_7 : decode cX5_leftBy 7 = .ok (.aload_n 0, 1) := by decide +kernel
theorem dX5_leftBy_8 : decode cX5_leftBy 8 = .ok (.getfield 19, 3) := by decide +kernel
theorem dX5_leftBy_11 : decode cX5_leftBy 11 = .ok (.getfield 76, 3) := by decide +kernel
theorem dX5_leftBy_14 : decode cX5_leftBy 14 = .ok (.if_icmp .ge 31, 3) := by decide +kernel
theorem dX5_leftBy_17 : decode cX5_leftBy 17 = .ok (.iload_n 2, 1) := by decide +kernel
theorem dX5_leftBy_18 : decode cX5_leftBy 18 = .ok (.iload 4, 2) := by decide +kernel
theorem dX5_leftBy_20 : decode cX5_leftBy 20 = .ok (.ishr, 1) := by decide +kernel
theorem dX5_leftBy_21 : decode cX5_leftBy 21 = .ok (.iconst 1, 1) := by decide +kernel
theorem dX5_leftBy_22 : decode cX5_leftBy 22 = .ok (.iand, 1) := by decide +kernel
theorem dX5_leftBy_23 : decode cX5_leftBy 23 = .ok (.ifCond .eq 16, 3) := by decide +kernel
theorem dX5_leftBy_26 : decode cX5_leftBy 26 = .ok (.aload_n 0, 1) := by decide +kernel
theorem dX5_leftBy_27 : decode cX5_leftBy 27 = .ok (.iload 4, 2) := by decide +kernel
theorem dX5_leftBy_29 : decode cX5_leftBy 29 = .ok (.iload_n 1, 1) := by decide +kernel
theorem dX5_leftBy_30 : decode cX5_leftBy 30 = .ok (.invokevirtual 106, 3) := by decide +kernel
theorem dX5_leftBy_33 : decode cX5_leftBy 33 = .ok (.ifCond .eq 6, 3) := by decide +kernel
theorem dX5_leftBy_36 : decode cX5_leftBy 36 = .ok (.iinc 3 1, 3) := by decide +kernel
theorem dX5_leftBy_39 : decode cX5_leftBy 39 = .ok (.iinc 4 1, 3) := by decide +kernel
theorem dX5_leftBy_42 : decode cX5_leftBy 42 = .ok (.goto (-37), 3) := by decide +kernel
theorem dX5_leftBy_45 : decode cX5_leftBy 45 = .ok (.iload_n 3, 1) := by decide +kernel
theorem dX5_leftBy_46 : decode cX5_leftBy 46 = .ok (.iload_n 2, 1) := by decide +kernel
theorem dX5_leftBy_47 : decode cX5_leftBy 47 = .ok (.invokestatic 71, 3) := by decide +kernel
theorem dX5_leftBy_50 : decode cX5_leftBy 50 = .ok (.iload_n 3, 1) := by decide +kernel
theorem dX5_leftBy_51 : decode cX5_leftBy 51 = .ok (.isub, 1) := by decide +kernel
theorem dX5_leftBy_52 : decode cX5_leftBy 52 = .ok (.invokestatic 121, 3) := by decide +kernel
theorem dX5_leftBy_55 : decode cX5_leftBy 55 = .ok (.ireturn, 1) := by decide +kernel
theorem dX6_init_0 : decode cX6_init 0 = .ok (.aload_n 0, 1) := by decide +kernel
theorem dX6_init_1 : decode cX6_init 1 = .ok (.invokespecial 3, 3) := by decide +kernel
theorem dX6_init_4 : decode cX6_init 4 = .ok (.aload_n 0, 1) := by decide +kernel
theorem dX6_init_5 : decode cX6_init 5 = .ok (.sipush 200, 3) := by decide +kernel
theorem dX6_init_8 : decode cX6_init 8 = .ok (.newarray .int, 2) := by decide +kernel
theorem dX6_init_10 : decode cX6_init 10 = .ok (.putfield 9, 3) := by decide +kernel
theorem dX6_init_13 : decode cX6_init 13 = .ok (.aload_n 0, 1) := by decide +kernel
theorem dX6_init_14 : decode cX6_init 14 = .ok (.sipush 200, 3) := by decide +kernel
theorem dX6_init_17 : decode cX6_init 17 = .ok (.newarray .int, 2) := by decide +kernel
theorem dX6_init_19 : decode cX6_init 19 = .ok (.putfield 15, 3) := by decide +kernel
theorem dX6_init_22 : decode cX6_init 22 = .ok (.aload_n 0, 1) := by decide +kernel
theorem dX6_init_23 : decode cX6_init 23 = .ok (.bipush 13, 2) := by decide +kernel
theorem dX6_init_25 : decode cX6_init 25 = .ok (.newarray .int, 2) := by decide +kernel
theorem dX6_init_27 : decode cX6_init 27 = .ok (.putfield 18, 3) := by decide +kernel
theorem dX6_init_30 : decode cX6_init 30 = .ok (.aload_n 0, 1) := by decide +kernel
theorem dX6_init_31 : decode cX6_init 31 = .ok (.bipush 8, 2) := by decide +kernel
theorem dX6_init_33 : decode cX6_init 33 = .ok (.newarray .int, 2) := by decide +kernel
theorem dX6_init_35 : decode cX6_init 35 = .ok (.putfield 21, 3) := by decide +kernel
theorem dX6_init_38 : decode cX6_init 38 = .ok (.aload_n 0, 1) := by decide +kernel
theorem dX6_init_39 : decode cX6_init 39 = .ok (.aload_n 1, 1) := by decide +kernel
theorem dX6_init_40 : decode cX6_init 40 = .ok (.putfield 24, 3) := by decide +kernel
theorem dX6_init_43 : decode cX6_init 43 = .ok (.return_, 1) := by decide +kernel
theorem dX6_begin_0 : decode cX6_begin 0 = .ok (.aload_n 0, 1) := by decide +kernel
theorem dX6_begin_1 : decode cX6_begin 1 = .ok (.iconst 1, 1) := by decide +kernel
theorem dX6_begin_2 : decode cX6_begin 2 = .ok (.aload_n 0, 1) := by decide +kernel
theorem dX6_begin_3 : decode cX6_begin 3 = .ok (.getfield 24, 3) := by decide +kernel
theorem dX6_begin_6 : decode cX6_begin 6 = .ok (.getfield 28, 3) := by decide +kernel
theorem dX6_begin_9 : decode cX6_begin 9 = .ok (.ishl, 1) := by decide +kernel
theorem dX6_begin_10 : decode cX6_begin 10 = .ok (.iconst 1, 1) := by decide +kernel
theorem dX6_begin_11 : decode cX6_begin 11 = .ok (.isub, 1) := by decide +kernel
theorem dX6_begin_12 : decode cX6_begin 12 = .ok (.putfield 34, 3) := by decide +kernel
theorem dX6_begin_15 : decode cX6_begin 15 = .ok (.aload_n 0, 1) := by decide +kernel
theorem dX6_begin_16 : decode cX6_begin 16 = .ok (.iconst 0, 1) := by decide +kernel
theorem dX6_begin_17 : decode cX6_begin 17 = .ok (.putfield 37, 3) := by decide +kernel
theorem dX6_begin_20 : decode cX6_begin 20 = .ok (.aload_n 0, 1) := by decide +kernel
theorem dX6_begin_21 : decode cX6_begin 21 = .ok (.iconst 0, 1) := by decide +kernel
theorem dX6_begin_22 : decode cX6_begin 22 = .ok (.putfield 40, 3) := by decide +kernel
theorem dX6_begin_25 : decode cX6_begin 25 = .ok (.iconst 0, 1) := by decide +kernel
theorem dX6_begin_26 : decode cX6_begin 26 = .ok (.istore_n 1, 1) := by decide +kernel
theorem dX6_begin_27 : decode cX6_begin 27 = .ok (.iload_n 1, 1) := by decide +kernel
theorem dX6_begin_28 : decode cX6_begin 28 = .ok (.sipush 200, 3) := by decide +kernel
theorem dX6_begin_31 : decode cX6_begin 31 = .ok (.if_icmp .ge 23, 3) := by decide +kernel
theorem dX6_begin_34 : decode cX6_begin 34 = .ok (.aload_n 0, 1) := by decide +kernel
theorem dX6_begin_35 : decode cX6_begin 35 = .ok (.getfield 9, 3) := by decide +kernel
theorem dX6_begin_38 : decode cX6_begin 38 = .ok (.iload_n 1, 1) := by decide +kernel
theorem dX6_begin_39 : decode cX6_begin 39 = .ok (.iconst 0, 1) := by decide +kernel
theorem dX6_begin_40 : decode cX6_begin 40 = .ok (.iastore, 1) := by decide +kernel
theorem dX6_begin_41 : decode cX6_begin 41 = .ok (.aload_n 0, 1) := by decide +kernel
theorem dX6_begin_42 : decode cX6_begin 42 = .ok (.getfield 15, 3) := by decide +kernel
theorem dX6_begin_45 : decode cX6_begin 45 = .ok (.iload_n 1, 1) := by decide +kernel
theorem dX6_begin_46 : decode cX6_begin 46 = .ok (.iconst 0, 1) := by decide +kernel
theorem dX6_begin_47 : decode cX6_begin 47 = .ok (.iastore, 1) := by decide +kernel
theorem dX6_begin_48 : decode cX6_begin 48 = .ok (.iinc 1 1, 3) := by decide +kernel
theorem dX6_begin_51 : decode cX6_begin 51 = .ok (.goto (-24), 3) := by decide +kernel
theorem dX6_begin_54 : decode cX6_begin 54 = .ok (.iconst 0, 1) := by decide +kernel
theorem dX6_begin_55 : decode cX6_begin 55 = .ok (.istore_n 1, 1) := by decide +kernel
theorem dX6_begin_56 : decode cX6_begin 56 = .ok (.iload_n 1, 1) := by decide +kernel
theorem dX6_begin_57 : decode cX6_begin 57 = .ok (.bipush 13, 2) := by decide +kernel
theorem dX6_begin_59 : decode cX6_begin 59 = .ok (.if_icmp .ge 16, 3) := by decide +kernel
theorem dX6_begin_62 : decode cX6_begin 62 = .ok (.aload_n 0, 1) := by decide +kernel
theorem dX6_begin_63 : decode cX6_begin 63 = .ok (.getfield 18, 3) := by decide +kernel
theorem dX6_begin_66 : decode cX6_begin 66 = .ok (.iload_n 1, 1) := by decide +kernel
theorem dX6_begin_67 : decode cX6_begin 67 = .ok (.iconst 0, 1) := by decide +kernel
theorem dX6_begin_68 : decode cX6_begin 68 = .ok (.iastore, 1) := by decide +kernel
theorem dX6_begin_69 : decode cX6_begin 69 = .ok (.iinc 1 1, 3) := by decide +kernel
theorem dX6_begin_72 : decode cX6_begin 72 = .ok (.goto (-16), 3) := by decide +kernel
theorem dX6_begin_75 : decode cX6_begin 75 = .ok (.return_, 1) := by decide +kernel
theorem dX6_copy_0 : decode cX6_copy 0 = .ok (.aload_n 0, 1) := by decide +kernel
theorem dX6_copy_1 : decode cX6_copy 1 = .ok (.aload_n 1, 1) := by decide +kernel
theorem dX6_copy_2 : decode cX6_copy 2 = .ok (.getfield 34, 3) := by decide +kernel
theorem dX6_copy_5 : decode cX6_copy 5 = .ok (.putfield 34, 3) := by decide +kernel
theorem dX6_copy_8 : decode cX6_copy 8 = .ok (.aload_n 0, 1) := by decide +kernel
theorem dX6_copy_9 : decode cX6_copy 9 = .ok (.aload_n 1, 1) := by decide +kernel
theorem dX6_copy_10 : decode cX6_copy 10 = .ok (.getfield 37, 3) := by decide +kernel
theorem dX6_copy_13 : decode cX6_copy 13 = .ok (.putfield 37, 3) := by decide +kernel
theorem dX6_copy_16 : decode cX6_copy 16 = .ok (.aload_n 0, 1) := by decide +kernel
theorem dX6_copy_17 : decode cX6_copy 17 = .ok (.aload_n 1, 1) := by decide +kernel
theorem dX6_copy_18 : decode cX6_copy 18 = .ok (.getfield 40, 3) := by decide +kernel
theorem dX6_copy_21 : decode cX6_copy 21 = .ok (.putfield 40, 3) := by decide +kernel
theorem dX6_copy_24 : decode cX6_copy 24 = .ok (.aload_n 1, 1) := by decide +kernel
theorem dX6_copy_25 : decode cX6_copy 25 = .ok (.getfield 9, 3) := by decide +kernel
theorem dX6_copy_28 : decode cX6_copy 28 = .ok (.iconst 0, 1) := by decide +kernel
theorem dX6_copy_29 : decode cX6_copy 29 = .ok (.aload_n 0, 1) := by decide +kernel
theorem dX6_copy_30 : decode cX6_copy 30 = .ok (.getfield 9, 3) := by decide +kernel
theorem dX6_copy_33 : decode cX6_copy 33 = .ok (.iconst 0, 1) := by decide +kernel
theorem dX6_copy_34 : decode cX6_copy 34 = .ok (.sipush 200, 3) := by decide +kernel
theorem dX6_copy_37 : decode cX6_copy 37 = .ok (.invokestatic 43, 3) := by decide +kernel
theorem dX6_copy_40 : decode cX6_copy 40 = .ok (.aload_n 1, 1) := by decide +kernel
theorem dX6_copy_41 : decode cX6_copy 41 = .ok (.getfield 15, 3) := by decide +kernel
theorem dX6_copy_44 : decode cX6_copy 44 = .ok (.iconst 0, 1) := by decide +kernel
theorem dX6_copy_45 : decode cX6_copy 45 = .ok (.aload_n 0, 1) := by decide +kernel
theorem dX6_copy_46 : decode cX6_copy 46 = .ok (.getfield 15, 3) := by decide +kernel
theorem dX6_copy_49 : decode cX6_copy 49 = .ok (.iconst 0, 1) := by decide +kernel
theorem dX6_copy_50 : decode cX6_copy 50 = .ok (.sipush 200, 3) := by decide +kernel
theorem dX6_copy_53 : decode cX6_copy 53 = .ok (.invokestatic 43, 3) := by decide +kernel
theorem dX6_copy_56 : decode cX6_copy 56 = .ok (.aload_n 1, 1) := by decide +kernel
theorem dX6_copy_57 : decode cX6_copy 57 = .ok (.getfield 18, 3) := by decide +kernel
theorem dX6_copy_60 : decode cX6_copy 60 = .ok (.iconst 0, 1) := by decide +kernel
theorem dX6_copy_61 : decode cX6_copy 61 = .ok (.aload_n 0, 1) := by decide +kernel
theorem dX6_copy_62 : decode cX6_copy 62 = .ok (.getfield 18, 3) := by decide +kernel
theorem dX6_copy_65 : decode cX6_copy 65 = .ok (.iconst 0, 1) := by decide +kernel
theorem dX6_copy_66 : decode cX6_copy 66 = .ok (.bipush 13, 2) := by decide +kernel
theorem dX6_copy_68 : decode cX6_copy 68 = .ok (.invokestatic 43, 3) := by decide +kernel
theorem dX6_copy_71 : decode cX6_copy 71 = .ok (.aload_n 1, 1) := by decide +kernel
theorem dX6_copy_72 : decode cX6_copy 72 = .ok (.getfield 21, 3) := by decide +kernel
theorem dX6_copy_75 : decode cX6_copy 75 = .ok (.iconst 0, 1) := by decide +kernel
theorem dX6_copy_76 : decode cX6_copy 76 = .ok (.aload_n 0, 1) := by decide +kernel
theorem dX6_copy_77 : decode cX6_copy 77 = .ok (.getfield 21, 3) := by decide +kernel
theorem dX6_copy_80 : decode cX6_copy 80 = .ok (.iconst 0, 1) := by decide +kernel
theorem dX6_copy_81 : decode cX6_copy 81 = .ok (.bipush 8, 2) := by decide +kernel
theorem dX6_copy_83 : decode cX6_copy 83 = .ok (.invokestatic 43, 3) := by decide +kernel
theorem dX6_copy_86 : decode cX6_copy 86 = .ok (.return_, 1) := by decide +kernel
theorem dX6_isUp_0 : decode cX6_isUp 0 = .ok (.iload_n 1, 1) := by decide +kernel
theorem dX6_isUp_1 : decode cX6_isUp 1 = .ok (.ifCond .lt 18, 3) := by decide +kernel
theorem dX6_isUp_4 : decode cX6_isUp 4 = .ok (.aload_n 0, 1) := by decide +kernel
theorem dX6_isUp_5 : decode cX6_isUp 5 = .ok (.getfield 34, 3) := by decide +kernel
theorem dX6_isUp_8 : decode cX6_isUp 8 = .ok (.iload_n 1, 1) := by decide +kernel
theorem dX6_isUp_9 : decode cX6_isUp 9 = .ok (.ishr, 1) := by decide +kernel
theorem dX6_isUp_10 : decode cX6_isUp 10 = .ok (.iconst 1, 1) := by decide +kernel
theorem dX6_isUp_11 : decode cX6_isUp 11 = .ok (.iand, 1) := by decide +kernel
theorem dX6_isUp_12 : decode cX6_isUp 12 = .ok (.ifCond .eq 7, 3) := by decide +kernel
theorem dX6_isUp_15 : decode cX6_isUp 15 = .ok (.iconst 1, 1) := by decide +kernel
theorem dX6_isUp_16 : decode cX6_isUp 16 = .ok (.goto 4, 3) := by decide +kernel
theorem dX6_isUp_19 : decode cX6_isUp 19 = .ok (.iconst 0, 1) := by decide +kernel
theorem dX6_isUp_20 : decode cX6_isUp 20 = .ok (.ireturn, 1) := by decide +kernel
theorem dX6_diskNow_0 : decode cX6_diskNow 0 = .ok (.aload_n 0, 1) := by decide +kernel
theorem dX6_diskNow_1 : decode cX6_diskNow 1 = .ok (.getfield 9, 3) := by decide +kernel
theorem dX6_diskNow_4 : decode cX6_diskNow 4 = .ok (.iload_n 1, 1) := by decide +kernel
theorem dX6_diskNow_5 : decode cX6_diskNow 5 = .ok (.iaload, 1) := by decide +kernel
theorem dX6_diskNow_6 : decode cX6_diskNow 6 = .ok (.iconst 2, 1) := by decide +kernel
theorem dX6_diskNow_7 : decode cX6_diskNow 7 = .ok (.if_icmp .ne 5, 3) := by decide +kernel
theorem dX6_diskNow_10 : decode cX6_diskNow 10 = .ok (.iconst (-1), 1) := by decide +kernel
theorem dX6_diskNow_11 : decode cX6_diskNow 11 = .ok (.ireturn, 1) := by decide +kernel
theorem dX6_diskNow_12 : decode cX6_diskNow 12 = .ok (.aload_n 0, 1) := by decide +kernel
theorem dX6_diskNow_13 : decode cX6_diskNow 13 = .ok (.getfield 9, 3) := by decide +kernel
theorem dX6_diskNow_16 : decode cX6_diskNow 16 = .ok (.iload_n 1, 1) := by decide +kernel
theorem dX6_diskNow_17 : decode cX6_diskNow 17 = .ok (.iaload, 1) := by decide +kernel
theorem dX6_diskNow_18 : decode cX6_diskNow 18 = .ok (.ifCond .ne 15, 3) := by decide +kernel
theorem dX6_diskNow_21 : decode cX6_diskNow 21 = .ok (.aload_n 0, 1) := by decide +kernel
theorem dX6_diskNow_22 : decode cX6_diskNow 22 = .ok (.getfield 24, 3) := by decide +kernel
theorem dX6_diskNow_25 : decode cX6_diskNow 25 = .ok (.getfield 49, 3) := by decide +kernel
theorem dX6_diskNow_28 : decode cX6_diskNow 28 = .ok (.iload_n 1, 1) := by decide +kernel
theorem dX6_diskNow_29 : decode cX6_diskNow 29 = .ok (.iaload, 1) := by decide +kernel
theorem dX6_diskNow_30 : decode cX6_diskNow 30 = .ok (.goto 14, 3) := by decide +kernel
theorem dX6_diskNow_33 : decode cX6_diskNow 33 = .ok (.aload_n 0, 1) := by decide +kernel
theorem dX6_diskNow_34 : decode cX6_diskNow 34 = .ok (.getfield 24, 3) := by decide +kernel
theorem dX6_diskNow_37 : decode cX6_diskNow 37 = .ok (.getfield 52, 3) := by decide +kernel
theorem dX6_diskNow_40 : decode cX6_diskNow 40 = .ok (.iload_n 1, 1) := by decide +kernel
theorem dX6_diskNow_41 : decode cX6_diskNow 41 = .ok (.iconst 5, 1) := by decide +kernel
theorem dX6_diskNow_42 : decode cX6_diskNow 42 = .ok (.idiv, 1) := by decide +kernel
theorem dX6_diskNow_43 : decode cX6_diskNow 43 = .ok (.iaload, 1) := by decide +kernel
theorem dX6_diskNow_44 : decode cX6_diskNow 44 = .ok (.ireturn, 1) := by decide +kernel
theorem dX6_placeNow_0 : decode cX6_placeNow 0 = .ok (.aload_n 0, 1) := by decide +kernel
theorem dX6_placeNow_1 : decode cX6_placeNow 1 = .ok (.getfield 9, 3) := by decide +kernel
theorem dX6_placeNow_4 : decode cX6_placeNow 4 = .ok (.iload_n 1, 1) := by decide +kernel
theorem dX6_placeNow_5 : decode cX6_placeNow 5 = .ok (.iaload, 1) := by decide +kernel
theorem dX6_placeNow_6 : decode cX6_placeNow 6 = .ok (.iconst 2, 1) := by decide +kernel
theorem dX6_placeNow_7 : decode cX6_placeNow 7 = .ok (.if_icmp .ne 5, 3) := by decide +kernel
theorem dX6_placeNow_10 : decode cX6_placeNow 10 = .ok (.iconst (-1), 1) := by decide +kernel
theorem dX6_placeNow_11 : decode cX6_placeNow 11 = .ok (.ireturn, 1) := by decide +kernel
theorem dX6_placeNow_12 : decode cX6_placeNow 12 = .ok (.aload_n 0, 1) := by decide +kernel
theorem dX6_placeNow_13 : decode cX6_placeNow 13 = .ok (.getfield 9, 3) := by decide +kernel
theorem dX6_placeNow_16 : decode cX6_placeNow 16 = .ok (.iload_n 1, 1) := by decide +kernel
theorem dX6_placeNow_17 : decode cX6_placeNow 17 = .ok (.iaload, 1) := by decide +kernel
theorem dX6_placeNow_18 : decode cX6_placeNow 18 = .ok (.ifCond .ne 15, 3) := by decide +kernel
theorem dX6_placeNow_21 : decode cX6_placeNow 21 = .ok (.aload_n 0, 1) := by decide +kernel
theorem dX6_placeNow_22 : decode cX6_placeNow 22 = .ok (.getfield 24, 3) := by decide +kernel
theorem dX6_placeNow_25 : decode cX6_placeNow 25 = .ok (.getfield 55, 3) := by decide +kernel
theorem dX6_placeNow_28 : decode cX6_placeNow 28 = .ok (.iload_n 1, 1) := by decide +kernel
theorem dX6_placeNow_29 : decode cX6_placeNow 29 = .ok (.iaload, 1) := by decide +kernel
theorem dX6_placeNow_30 : decode cX6_placeNow 30 = .ok (.goto 14, 3) := by decide +kernel
theorem dX6_placeNow_33 : decode cX6_placeNow 33 = .ok (.aload_n 0, 1) := by decide +kernel
theorem dX6_placeNow_34 : decode cX6_placeNow 34 = .ok (.getfield 24, 3) := by decide +kernel
theorem dX6_placeNow_37 : decode cX6_placeNow 37 = .ok (.getfield 58, 3) := by decide +kernel
theorem dX6_placeNow_40 : decode cX6_placeNow 40 = .ok (.iload_n 1, 1) := by decide +kernel
theorem dX6_placeNow_41 : decode cX6_placeNow 41 = .ok (.iconst 5, 1) := by decide +kernel
theorem dX6_placeNow_42 : decode cX6_placeNow 42 = .ok (.idiv, 1) := by decide +kernel
theorem dX6_placeNow_43 : decode cX6_placeNow 43 = .ok (.iaload, 1) := by decide +kernel
theorem dX6_placeNow_44 : decode cX6_placeNow 44 = .ok (.ireturn, 1) := by decide +kernel
theorem dX6_lostBits_0 : decode cX6_lostBits 0 = .ok (.iconst 0, 1) := by decide +kernel
theorem dX6_lostBits_1 : decode cX6_lostBits 1 = .ok (.istore_n 2, 1) := by decide +kernel
theorem dX6_lostBits_2 : decode cX6_lostBits 2 = .ok (.iconst 0, 1) := by decide +kernel
theorem dX6_lostBits_3 : decode cX6_lostBits 3 = .ok (.istore_n 3, 1) := by decide +kernel
theorem dX6_lostBits_4 : decode cX6_lostBits 4 = .ok (.iload_n 3, 1) := by decide +kernel
theorem dX6_lostBits_5 : decode cX6_lostBits 5 = .ok (.aload_n 0, 1) := by decide +kernel
theorem dX6_lostBits_6 : decode cX6_lostBits 6 = .ok (.getfield 24, 3) := by decide +kernel
theorem dX6_lostBits_9 : decode cX6_lostBits 9 = .ok (.getfield 61, 3) := by decide +kernel
theorem dX6_lostBits_12 : decode cX6_lostBits 12 = .ok (.iload_n 1, 1) := by decide +kernel
theorem dX6_lostBits_13 : decode cX6_lostBits 13 = .ok (.iaload, 1) := by decide +kernel
theorem dX6_lostBits_14 : decode cX6_lostBits 14 = .ok (.if_icmp .ge 29, 3) := by decide +kernel
theorem dX6_lostBits_17 : decode cX6_lostBits 17 = .ok (.aload_n 0, 1) := by decide +kernel
theorem dX6_lostBits_18 : decode cX6_lostBits 18 = .ok (.getfield 9, 3) := by decide +kernel
theorem dX6_lostBits_21 : decode cX6_lostBits 21 = .ok (.iload_n 1, 1) := by decide +kernel
theorem dX6_lostBits_22 : decode cX6_lostBits 22 = .ok (.iconst 5, 1) := by decide +kernel
theorem dX6_lostBits_23 : decode cX6_lostBits 23 = .ok (.imul, 1) := by decide +kernel
theorem dX6_lostBits_24 : decode cX6_lostBits 24 = .ok (.iload_n 3, 1) := by decide +kernel
theorem dX6_lostBits_25 : decode cX6_lostBits 25 = .ok (.iadd, 1) := by decide +kernel
theorem dX6_lostBits_26 : decode cX6_lostBits 26 = .ok (.iaload, 1) := by decide +kernel
theorem dX6_lostBits_27 : decode cX6_lostBits 27 = .ok (.iconst 2, 1) := by decide +kernel
theorem dX6_lostBits_28 : decode cX6_lostBits 28 = .ok (.if_icmp .ne 9, 3) := by decide +kernel
theorem dX6_lostBits_31 : decode cX6_lostBits 31 = .ok (.iload_n 2, 1) := by decide +kernel
theorem dX6_lostBits_32 : decode cX6_lostBits 32 = .ok (.iconst 1, 1) := by decide +kernel
theorem dX6_lostBits_33 : decode cX6_lostBits 33 = .ok (.iload_n 3, 1) := by decide +kernel
theorem dX6_lostBits_34 : decode cX6_lostBits 34 = .ok (.ishl, 1) := by decide +kernel
theorem dX6_lostBits_35 : decode cX6_lostBits 35 = .ok (.ior, 1) := by decide +kernel
theorem dX6_lostBits_36 : decode cX6_lostBits 36 = .ok (.istore_n 2, 1) := by decide +kernel
theorem dX6_lostBits_37 : decode cX6_lostBits 37 = .ok (.iinc 3 1, 3) := by decide +kernel
theorem dX6_lostBits_40 : decode cX6_lostBits 40 = .ok (.goto (-36), 3) := by decide +kernel
theorem dX6_lostBits_43 : decode cX6_lostBits 43 = .ok (.iload_n 2, 1) := by decide +kernel
theorem dX6_lostBits_44 : decode cX6_lostBits 44 = .ok (.ireturn, 1) := by decide +kernel
theorem dX6_lostMany_0 : decode cX6_lostMany 0 = .ok (.aload_n 0, 1) := by decide +kernel
theorem dX6_lostMany_1 : decode cX6_lostMany 1 = .ok (.iload_n 1, 1) := by decide +kernel
theorem dX6_lostMany_2 : decode cX6_lostMany 2 = .ok (.invokevirtual 64, 3) := by decide +kernel
theorem dX6_lostMany_5 : decode cX6_lostMany 5 = .ok (.invokestatic 68, 3) := by decide +kernel
theorem dX6_lostMany_8 : decode cX6_lostMany 8 = .ok (.ireturn, 1) := by decide +kernel
theorem dX6_isDead_0 : decode cX6_isDead 0 = .ok (.aload_n 0, 1) := by decide +kernel
theorem dX6_isDead_1 : decode cX6_isDead 1 = .ok (.iload_n 1, 1) := by decide +kernel
theorem dX6_isDead_2 : decode cX6_isDead 2 = .ok (.invokevirtual 64, 3) := by decide +kernel
theorem dX6_isDead_5 : decode cX6_isDead 5 = .ok (.istore_n 2, 1) := by decide +kernel
theorem dX6_isDead_6 : decode cX6_isDead 6 = .ok (.iload_n 2, 1) := by decide +kernel
theorem dX6_isDead_7 : decode cX6_isDead 7 = .ok (.iload_n 2, 1) := by decide +kernel
theorem dX6_isDead_8 : decode cX6_isDead 8 = .ok (.iconst 1, 1) := by decide +kernel
theorem dX6_isDead_9 : decode cX6_isDead 9 = .ok (.isub, 1) := by decide +kernel
theorem dX6_isDead_10 : decode cX6_isDead 10 = .ok (.iand, 1) := by decide +kernel
theorem dX6_isDead_11 : decode cX6_isDead 11 = .ok (.ifCond .eq 7, 3) := by decide +kernel
theorem dX6_isDead_14 : decode cX6_isDead 14 = .ok (.iconst 1, 1) := by decide +kernel
theorem dX6_isDead_15 : decode cX6_isDead 15 = .ok (.goto 4, 3) := by decide +kernel
theorem dX6_isDead_18 : decode cX6_isDead 18 = .ok (.iconst 0, 1) := by decide +kernel
theorem dX6_isDead_19 : decode cX6_isDead 19 = .ok (.ireturn, 1) := by decide +kernel
theorem dX6_awayUnit_0 : decode cX6_awayUnit 0 = .ok (.iconst 0, 1) := by decide +kernel
theorem dX6_awayUnit_1 : decode cX6_awayUnit 1 = .ok (.istore_n 2, 1) := by decide +kernel
theorem dX6_awayUnit_2 : decode cX6_awayUnit 2 = .ok (.iload_n 2, 1) := by decide +kernel
theorem dX6_awayUnit_3 : decode cX6_awayUnit 3 = .ok (.aload_n 0, 1) := by decide +kernel
theorem dX6_awayUnit_4 : decode cX6_awayUnit 4 = .ok (.getfield 24, 3) := by decide +kernel
theorem dX6_awayUnit_7 : decode cX6_awayUnit 7 = .ok (.getfield 61, 3) := by decide +kernel
theorem dX6_awayUnit_10 : decode cX6_awayUnit 10 = .ok (.iload_n 1, 1) := by decide +kernel
theorem dX6_awayUnit_11 : decode cX6_awayUnit 11 = .ok (.iaload, 1) := by decide +kernel
theorem dX6_awayUnit_12 : decode cX6_awayUnit 12 = .ok (.if_icmp .ge 25, 3) := by decide +kernel
theorem dX6_awayUnit_15 : decode cX6_awayUnit 15 = .ok (.aload_n 0, 1) := by decide +kernel
theorem dX6_awayUnit_16 : decode cX6_awayUnit 16 = .ok (.getfield 9, 3) := by decide +kernel
theorem dX6_awayUnit_19 : decode cX6_awayUnit 19 = .ok (.iload_n 1, 1) := by decide +kernel
theorem dX6_awayUnit_20 : decode cX6_awayUnit 20 = .ok (.iconst 5, 1) := by decide +kernel
theorem dX6_awayUnit_21 : decode cX6_awayUnit 21 = .ok (.imul, 1) := by decide +kernel
theorem dX6_awayUnit_22 : decode cX6_awayUnit 22 = .ok (.iload_n 2, 1) := by decide +kernel
theorem dX6_awayUnit_23 : decode cX6_awayUnit 23 = .ok (.iadd, 1) := by decide +kernel
theorem dX6_awayUnit_24 : decode cX6_awayUnit 24 = .ok (.iaload, 1) := by decide +kernel
theorem dX6_awayUnit_25 : decode cX6_awayUnit 25 = .ok (.iconst 1, 1) := by decide +kernel
theorem dX6_awayUnit_26 : decode cX6_awayUnit 26 = .ok (.if_icmp .ne 5, 3) := by decide +kernel
theorem dX6_awayUnit_29 : decode cX6_awayUnit 29 = .ok (.iload_n 2, 1) := by decide +kernel
theorem dX6_awayUnit_30 : decode cX6_awayUnit 30 = .ok (.ireturn, 1) := by decide +kernel
theorem dX6_awayUnit_31 : decode cX6_awayUnit 31 = .ok (.iinc 2 1, 3) := by decide +kernel
theorem dX6_awayUnit_34 : decode cX6_awayUnit 34 = .ok (.goto (-32), 3) := by decide +kernel
theorem dX6_awayUnit_37 : decode cX6_awayUnit 37 = .ok (.iconst (-1), 1) := by decide +kernel
theorem dX6_awayUnit_38 : decode cX6_awayUnit 38 = .ok (.ireturn, 1) := by decide +kernel
theorem dX6_disksNow_0 : decode cX6_disksNow 0 = .ok (.iconst 0, 1) := by decide +kernel
theorem dX6_disksNow_1 : decode cX6_disksNow 1 = .ok (.istore_n 2, 1) := by decide +kernel
theorem dX6_disksNow_2 : decode cX6_disksNow 2 = .ok (.iconst 0, 1) := by decide +kernel
theorem dX6_disksNow_3 : decode cX6_disksNow 3 = .ok (.istore_n 3, 1) := by decide +kernel
theorem dX6_disksNow_4 : decode cX6_disksNow 4 = .ok (.iload_n 3, 1) := by decide +kernel
theorem dX6_disksNow_5 : decode cX6_disksNow 5 = .ok (.aload_n 0, 1) := by decide +kernel
theorem dX6_disksNow_6 : decode cX6_disksNow 6 = .ok (.getfield 24, 3) := by decide +kernel
theorem dX6_disksNow_9 : decode cX6_disksNow 9 = .ok (.getfield 61, 3) := by decide +kernel
theorem dX6_disksNow_12 : decode cX6_disksNow 12 = .ok (.iload_n 1, 1) := by decide +kernel
theorem dX6_disksNow_13 : decode cX6_disksNow 13 = .ok (.iaload, 1) := by decide +kernel
theorem dX6_disksNow_14 : decode cX6_disksNow 14 = .ok (.if_icmp .ge 33, 3) := by decide +kernel
theorem dX6_disksNow_17 : decode cX6_disksNow 17 = .ok (.aload_n 0, 1) := by decide +kernel
theorem dX6_disksNow_18 : decode cX6_disksNow 18 = .ok (.iload_n 1, 1) := by decide +kernel
theorem dX6_disksNow_19 : decode cX6_disksNow 19 = .ok (.iconst 5, 1) := by decide +kernel
theorem dX6_disksNow_20 : decode cX6_disksNow 20 = .ok (.imul, 1) := by decide +kernel
theorem dX6_disksNow_21 : decode cX6_disksNow 21 = .ok (.iload_n 3, 1) := by decide +kernel
theorem dX6_disksNow_22 : decode cX6_disksNow 22 = .ok (.iadd, 1) := by decide +kernel
theorem dX6_disksNow_23 : decode cX6_disksNow 23 = .ok (.invokevirtual 73, 3) := by decide +kernel
theorem dX6_disksNow_26 : decode cX6_disksNow 26 = .ok (.istore 4, 2) := by decide +kernel
theorem dX6_disksNow_28 : decode cX6_disksNow 28 = .ok (.iload 4, 2) := by decide +kernel
theorem dX6_disksNow_30 : decode cX6_disksNow 30 = .ok (.iconst (-1), 1) := by decide +kernel
theorem dX6_disksNow_31 : decode cX6_disksNow 31 = .ok (.if_icmp .eq 10, 3) := by decide +kernel
theorem dX6_disksNow_34 : decode cX6_disksNow 34 = .ok (.iload_n 2, 1) := by decide +kernel
theorem dX6_disksNow_35 : decode cX6_disksNow 35 = .ok (.iconst 1, 1) := by decide +kernel
theorem dX6_disksNow_36 : decode cX6_disksNow 36 = .ok (.iload 4, 2) := by decide +kernel
theorem dX6_disksNow_38 : decode cX6_disksNow 38 = .ok (.ishl, 1) := by decide +kernel
theorem dX6_disksNow_39 : decode cX6_disksNow 39 = .ok (.ior, 1) := by decide +kernel
theorem dX6_disksNow_40 : decode cX6_disksNow 40 = .ok (.istore_n 2, 1) := by decide +kernel
theorem dX6_disksNow_41 : decode cX6_disksNow 41 = .ok (.iinc 3 1, 3) := by decide +kernel
theorem dX6_disksNow_44 : decode cX6_disksNow 44 = .ok (.goto (-40), 3) := by decide +kernel
theorem dX6_disksNow_47 : decode cX6_disksNow 47 = .ok (.iload_n 2, 1) := by decide +kernel
theorem dX6_disksNow_48 : decode cX6_disksNow 48 = .ok (.ireturn, 1) := by decide +kernel
theorem dX6_unitsNow_0 : decode cX6_unitsNow 0 = .ok (.iconst 0, 1) := by decide +kernel
theorem dX6_unitsNow_1 : decode cX6_unitsNow 1 = .ok (.istore_n 2, 1) := by decide +kernel
theorem dX6_unitsNow_2 : decode cX6_unitsNow 2 = .ok (.iconst 0, 1) := by decide +kernel
theorem dX6_unitsNow_3 : decode cX6_unitsNow 3 = .ok (.istore_n 3, 1) := by decide +kernel
theorem dX6_unitsNow_4 : decode cX6_unitsNow 4 = .ok (.iload_n 3, 1) := by decide +kernel
theorem dX6_unitsNow_5 : decode cX6_unitsNow 5 = .ok (.aload_n 0, 1) := by decide +kernel
theorem dX6_unitsNow_6 : decode cX6_unitsNow 6 = .ok (.getfield 24, 3) := by decide +kernel
theorem dX6_unitsNow_9 : decode cX6_unitsNow 9 = .ok (.getfield 76, 3) := by decide +kernel
theorem dX6_unitsNow_12 : decode cX6_unitsNow 12 = .ok (.if_icmp .ge 21, 3) := by decide +kernel
theorem dX6_unitsNow_15 : decode cX6_unitsNow 15 = .ok (.iload_n 2, 1) := by decide +kernel
theorem dX6_unitsNow_16 : decode cX6_unitsNow 16 = .ok (.aload_n 0, 1) := by decide +kernel
theorem dX6_unitsNow_17 : decode cX6_unitsNow 17 = .ok (.iload_n 3, 1) := by decide +kernel
theorem dX6_unitsNow_18 : decode cX6_unitsNow 18 = .ok (.invokevirtual 79, 3) := by decide +kernel
theorem dX6_unitsNow_21 : decode cX6_unitsNow 21 = .ok (.iload_n 1, 1) := by decide +kernel
theorem dX6_unitsNow_22 : decode cX6_unitsNow 22 = .ok (.ishr, 1) := by decide +kernel
theorem dX6_unitsNow_23 : decode cX6_unitsNow 23 = .ok (.iconst 1, 1) := by decide +kernel
theorem dX6_unitsNow_24 : decode cX6_unitsNow 24 = .ok (.iand, 1) := by decide +kernel
theorem dX6_unitsNow_25 : decode cX6_unitsNow 25 = .ok (.iadd, 1) := by decide +kernel
theorem dX6_unitsNow_26 : decode cX6_unitsNow 26 = .ok (.istore_n 2, 1) := by decide +kernel
theorem dX6_unitsNow_27 : decode cX6_unitsNow 27 = .ok (.iinc 3 1, 3) := by decide +kernel
theorem dX6_unitsNow_30 : decode cX6_unitsNow 30 = .ok (.goto (-26), 3) := by decide +kernel
theorem dX6_unitsNow_33 : decode cX6_unitsNow 33 = .ok (.iload_n 2, 1) := by decide +kernel
theorem dX6_unitsNow_34 : decode cX6_unitsNow 34 = .ok (.ireturn, 1) := by decide +kernel
theorem dX6_byteOf_0 : decode cX6_byteOf 0 = .ok (.iload_n 1, 1) := by decide +kernel
theorem dX6_byteOf_1 : decode cX6_byteOf 1 = .ok (.iconst 5, 1) := by decide +kernel
theorem dX6_byteOf_2 : decode cX6_byteOf 2 = .ok (.idiv, 1) := by decide +kernel
theorem dX6_byteOf_3 : decode cX6_byteOf 3 = .ok (.istore_n 2, 1) := by decide +kernel
theorem dX6_byteOf_4 : decode cX6_byteOf 4 = .ok (.iload_n 1, 1) := by decide +kernel
theorem dX6_byteOf_5 : decode cX6_byteOf 5 = .ok (.iconst 5, 1) := by decide +kernel
theorem dX6_byteOf_6 : decode cX6_byteOf 6 = .ok (.irem, 1) := by decide +kernel
theorem dX6_byteOf_7 : decode cX6_byteOf 7 = .ok (.aload_n 0, 1) := by decide +kernel
theorem dX6_byteOf_8 : decode cX6_byteOf 8 = .ok (.getfield 24, 3) := by decide +kernel
theorem dX6_byteOf_11 : decode cX6_byteOf 11 = .ok (.getfield 82, 3) := by decide +kernel
theorem dX6_byteOf_14 : decode cX6_byteOf 14 = .ok (.iload_n 2, 1) := by decide +kernel
theorem dX6_byteOf_15 : decode cX6_byteOf 15 = .ok (.iaload, 1) := by decide +kernel
theorem dX6_byteOf_16 : decode cX6_byteOf 16 = .ok (.if_icmp .eq 10, 3) := by decide +kernel
theorem dX6_byteOf_19 : decode cX6_byteOf 19 = .ok (.aload_n 0, 1) := by decide +kernel
theorem dX6_byteOf_20 : decode cX6_byteOf 20 = .ok (.getfield 15, 3) := by decide +kernel
theorem dX6_byteOf_23 : decode cX6_byteOf 23 = .ok (.iload_n 1, 1) := by decide +kernel
theorem dX6_byteOf_24 : decode cX6_byteOf 24 = .ok (.iaload, 1) := by decide +kernel
theorem dX6_byteOf_25 : decode cX6_byteOf 25 = .ok (.ireturn, 1) := by decide +kernel
theorem dX6_byteOf_26 : decode cX6_byteOf 26 = .ok (.iconst 0, 1) := by decide +kernel
theorem dX6_byteOf_27 : decode cX6_byteOf 27 = .ok (.istore_n 3, 1) := by decide +kernel
theorem dX6_byteOf_28 : decode cX6_byteOf 28 = .ok (.iconst 0, 1) := by decide +kernel
theorem dX6_byteOf_29 : decode cX6_byteOf 29 = .ok (.istore 4, 2) := by decide +kernel
theorem dX6_byteOf_31 : decode cX6_byteOf 31 = .ok (.iload 4, 2) := by decide +kernel
theorem dX6_byteOf_33 : decode cX6_byteOf 33 = .ok (.aload_n 0, 1) := by decide +kernel
theorem dX6_byteOf_34 : decode cX6_byteOf 34 = .ok (.getfield 24, 3) := by decide +kernel
theorem dX6_byteOf_37 : decode cX6_byteOf 37 = .ok (.getfield 61, 3) := by decide +kernel
theorem dX6_byteOf_40 : decode cX6_byteOf 40 = .ok (.iload_n 2, 1) := by decide +kernel
theorem dX6_byteOf_41 : decode cX6_byteOf 41 = .ok (.iaload, 1) := by decide +kernel
theorem dX6_byteOf_42 : decode cX6_byteOf 42 = .ok (.if_icmp .ge 37, 3) := by decide +kernel
theorem dX6_byteOf_45 : decode cX6_byteOf 45 = .ok (.iload 4, 2) := by decide +kernel
theorem dX6_byteOf_47 : decode cX6_byteOf 47 = .ok (.aload_n 0, 1) := by decide +kernel
theorem dX6_byteOf_48 : decode cX6_byteOf 48 = .ok (.getfield 24, 3) := by decide +kernel
theorem dX6_byteOf_51 : decode cX6_byteOf 51 = .ok (.getfield 82, 3) := by decide +kernel
theorem dX6_byteOf_54 : decode cX6_byteOf 54 = .ok (.iload_n 2, 1) := by decide +kernel
theorem dX6_byteOf_55 : decode cX6_byteOf 55 = .ok (.iaload, 1) := by decide +kernel
theorem dX6_byteOf_56 : decode cX6_byteOf 56 = .ok (.if_icmp .eq 17, 3) := by decide +kernel
theorem dX6_byteOf_59 : decode cX6_byteOf 59 = .ok (.iload_n 3, 1) := by decide +kernel
theorem dX6_byteOf_60 : decode cX6_byteOf 60 = .ok (.aload_n 0, 1) := by decide +kernel
theorem dX6_byteOf_61 : decode cX6_byteOf 61 = .ok (.getfield 15, 3) := by decide +kernel
theorem dX6_byteOf_64 : decode cX6_byteOf 64 = .ok (.iload_n 2, 1) := by decide +kernel
theorem dX6_byteOf_65 : decode cX6_byteOf 65 = .ok (.iconst 5, 1) := by decide +kernel
theorem dX6_byteOf_66 : decode cX6_byteOf 66 = .ok (.imul, 1) := by decide +kernel
theorem dX6_byteOf_67 : decode cX6_byteOf 67 = .ok (.iload 4, 2) := by decide +kernel
theorem dX6_byteOf_69 : decode cX6_byteOf 69 = .ok (.iadd, 1) := by decide +kernel
theorem dX6_byteOf_70 : decode cX6_byteOf 70 = .ok (.iaload, 1) := by decide +kernel
theorem dX6_byteOf_71 : decode cX6_byteOf 71 = .ok (.ixor, 1) := by decide +kernel
theorem dX6_byteOf_72 : decode cX6_byteOf 72 = .ok (.istore_n 3, 1) := by decide +kernel
theorem dX6_byteOf_73 : decode cX6_byteOf 73 = .ok (.iinc 4 1, 3) := by decide +kernel
theorem dX6_byteOf_76 : decode cX6_byteOf 76 = .ok (.goto (-45), 3) := by decide +kernel
theorem dX6_byteOf_79 : decode cX6_byteOf 79 = .ok (.iload_n 3, 1) := by decide +kernel
theorem dX6_byteOf_80 : decode cX6_byteOf 80 = .ok (.ireturn, 1) := by decide +kernel
theorem dX6_costOf_0 : decode cX6_costOf 0 = .ok (.aload_n 0, 1) := by decide +kernel
theorem dX6_costOf_1 : decode cX6_costOf 1 = .ok (.getfield 9, 3) := by decide +kernel
theorem dX6_costOf_4 : decode cX6_costOf 4 = .ok (.iload_n 1, 1) := by decide +kernel
theorem dX6_costOf_5 : decode cX6_costOf 5 = .ok (.iaload, 1) := by decide +kernel
theorem dX6_costOf_6 : decode cX6_costOf 6 = .ok (.iconst 2, 1) := by decide +kernel
theorem dX6_costOf_7 : decode cX6_costOf 7 = .ok (.if_icmp .eq 5, 3) := by decide +kernel
theorem dX6_costOf_10 : decode cX6_costOf 10 = .ok (.iconst 1, 1) := by decide +kernel
theorem dX6_costOf_11 : decode cX6_costOf 11 = .ok (.ireturn, 1) := by decide +kernel
theorem dX6_costOf_12 : decode cX6_costOf 12 = .ok (.aload_n 0, 1) := by decide +kernel
theorem dX6_costOf_13 : decode cX6_costOf 13 = .ok (.iload_n 1, 1) := by decide +kernel
theorem dX6_costOf_14 : decode cX6_costOf 14 = .ok (.iconst 5, 1) := by decide +kernel
theorem dX6_costOf_15 : decode cX6_costOf 15 = .ok (.idiv, 1) := by decide +kernel
theorem dX6_costOf_16 : decode cX6_costOf 16 = .ok (.invokevirtual 85, 3) := by decide +kernel
theorem dX6_costOf_19 : decode cX6_costOf 19 = .ok (.ifCond .eq 7, 3) := by decide +kernel
theorem dX6_costOf_22 : decode cX6_costOf 22 = .ok (.iconst (-1), 1) := by decide +kernel
theorem dX6_costOf_23 : decode cX6_costOf 23 = .ok (.goto 16, 3) := by decide +kernel
theorem dX6_costOf_26 : decode cX6_costOf 26 = .ok (.aload_n 0, 1) := by decide +kernel
theorem dX6_costOf_27 : decode cX6_costOf 27 = .ok (.getfield 24, 3) := by decide +kernel
theorem dX6_costOf_30 : decode cX6_costOf 30 = .ok (.getfield 61, 3) := by decide +kernel
theorem dX6_costOf_33 : decode cX6_costOf 33 = .ok (.iload_n 1, 1) := by decide +kernel
theorem dX6_costOf_34 : decode cX6_costOf 34 = .ok (.iconst 5, 1) := by decide +kernel
theorem dX6_costOf_35 : decode cX6_costOf 35 = .ok (.idiv, 1) := by decide +kernel
theorem dX6_costOf_36 : decode cX6_costOf 36 = .ok (.iaload, 1) := by decide +kernel
theorem dX6_costOf_37 : decode cX6_costOf 37 = .ok (.iconst 1, 1) := by decide +kernel
theorem dX6_costOf_38 : decode cX6_costOf 38 = .ok (.isub, 1) := by decide +kernel
theorem dX6_costOf_39 : decode cX6_costOf 39 = .ok (.ireturn, 1) := by decide +kernel
theorem dX6_priceOf_0 : decode cX6_priceOf 0 = .ok (.iload_n 1, 1) := by decide +kernel
theorem dX6_priceOf_1 : decode cX6_priceOf 1 = .ok (.iconst 5, 1) := by decide +kernel
theorem dX6_priceOf_2 : decode cX6_priceOf 2 = .ok (.idiv, 1) := by decide +kernel
theorem dX6_priceOf_3 : decode cX6_priceOf 3 = .ok (.istore_n 2, 1) := by decide +kernel
theorem dX6_priceOf_4 : decode cX6_priceOf 4 = .ok (.aload_n 0, 1) := by decide +kernel
theorem dX6_priceOf_5 : decode cX6_priceOf 5 = .ok (.iload_n 2, 1) := by decide +kernel
theorem dX6_priceOf_6 : decode cX6_priceOf 6 = .ok (.invokevirtual 85, 3) := by decide +kernel
theorem dX6_priceOf_9 : decode cX6_priceOf 9 = .ok (.ifCond .eq 5, 3) := by decide +kernel
theorem dX6_priceOf_12 : decode cX6_priceOf 12 = .ok (.iconst (-1), 1) := by decide +kernel
theorem dX6_priceOf_13 : decode cX6_priceOf 13 = .ok (.ireturn, 1) := by decide +kernel
theorem dX6_priceOf_14 : decode cX6_priceOf 14 = .ok (.aload_n 0, 1) := by decide +kernel
theorem dX6_priceOf_15 : decode cX6_priceOf 15 = .ok (.getfield 9, 3) := by decide +kernel
theorem dX6_priceOf_18 : decode cX6_priceOf 18 = .ok (.iload_n 1, 1) := by decide +kernel
theorem dX6_priceOf_19 : decode cX6_priceOf 19 = .ok (.iaload, 1) := by decide +kernel
theorem dX6_priceOf_20 : decode cX6_priceOf 20 = .ok (.iconst 2, 1) := by decide +kernel
theorem dX6_priceOf_21 : decode cX6_priceOf 21 = .ok (.if_icmp .ne 15, 3) := by decide +kernel
theorem dX6_priceOf_24 : decode cX6_priceOf 24 = .ok (.aload_n 0, 1) := by decide +kernel
theorem dX6_priceOf_25 : decode cX6_priceOf 25 = .ok (.getfield 24, 3) := by decide +kernel
theorem dX6_priceOf_28 : decode cX6_priceOf 28 = .ok (.getfield 61, 3) := by decide +kernel
theorem dX6_priceOf_31 : decode cX6_priceOf 31 = .ok (.iload_n 2, 1) := by decide +kernel
theorem dX6_priceOf_32 : decode cX6_priceOf 32 = .ok (.iaload, 1) := by decide +kernel
theorem dX6_priceOf_33 : decode cX6_priceOf 33 = .ok (.iconst 1, 1) := by decide +kernel
theorem dX6_priceOf_34 : decode cX6_priceOf 34 = .ok (.isub, 1) := by decide +kernel
theorem dX6_priceOf_35 : decode cX6_priceOf 35 = .ok (.ireturn, 1) := by decide +kernel
theorem dX6_priceOf_36 : decode cX6_priceOf 36 = .ok (.aload_n 0, 1) := by decide +kernel
theorem dX6_priceOf_37 : decode cX6_priceOf 37 = .ok (.getfield 9, 3) := by decide +kernel
theorem dX6_priceOf_40 : decode cX6_priceOf 40 = .ok (.iload_n 2, 1) := by decide +kernel
theorem dX6_priceOf_41 : decode cX6_priceOf 41 = .ok (.iconst 5, 1) := by decide +kernel
theorem dX6_priceOf_42 : decode cX6_priceOf 42 = .ok (.imul, 1) := by decide +kernel
theorem dX6_priceOf_43 : decode cX6_priceOf 43 = .ok (.aload_n 0, 1) := by decide +kernel
theorem dX6_priceOf_44 : decode cX6_priceOf 44 = .ok (.getfield 24, 3) := by decide +kernel
theorem dX6_priceOf_47 : decode cX6_priceOf 47 = .ok (.getfield 82, 3) := by decide +kernel
theorem dX6_priceOf_50 : decode cX6_priceOf 50 = .ok (.iload_n 2, 1) := by decide +kernel
theorem dX6_priceOf_51 : decode cX6_priceOf 51 = .ok (.iaload, 1) := by decide +kernel
theorem dX6_priceOf_52 : decode cX6_priceOf 52 = .ok (.iadd, 1) := by decide +kernel
theorem dX6_priceOf_53 : decode cX6_priceOf 53 = .ok (.iaload, 1) := by decide +kernel
theorem dX6_priceOf_54 : decode cX6_priceOf 54 = .ok (.iconst 2, 1) := by decide +kernel
theorem dX6_priceOf_55 : decode cX6_priceOf 55 = .ok (.if_icmp .ne 7, 3) := by decide +kernel
theorem dX6_priceOf_58 : decode cX6_priceOf 58 = .ok (.iconst 1, 1) := by decide +kernel
theorem dX6_priceOf_59 : decode cX6_priceOf 59 = .ok (.goto 4, 3) := by decide +kernel
