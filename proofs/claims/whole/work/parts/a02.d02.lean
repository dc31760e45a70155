theorem dX6_priceOf_62 : decode cX6_priceOf 62 = .ok (.iconst 4, 1) := by decide +kernel
theorem dX6_priceOf_63 : decode cX6_priceOf 63 = .ok (.ireturn, 1) := by decide +kernel
theorem dX6_load_0 : decode cX6_load 0 = .ok (.aload_n 0, 1) := by decide +kernel
theorem dX6_load_1 : decode cX6_load 1 = .ok (.iload_n 1, 1) := by decide +kernel
theorem dX6_load_2 : decode cX6_load 2 = .ok (.invokevirtual 73, 3) := by decide +kernel
theorem dX6_load_5 : decode cX6_load 5 = .ok (.istore_n 3, 1) := by decide +kernel
theorem dX6_load_6 : decode cX6_load 6 = .ok (.iload_n 3, 1) := by decide +kernel
theorem dX6_load_7 : decode cX6_load 7 = .ok (.iconst (-1), 1) := by decide +kernel
theorem dX6_load_8 : decode cX6_load 8 = .ok (.if_icmp .eq 13, 3) := by decide +kernel
theorem dX6_load_11 : decode cX6_load 11 = .ok (.aload_n 0, 1) := by decide +kernel
theorem dX6_load_12 : decode cX6_load 12 = .ok (.getfield 18, 3) := by decide +kernel
theorem dX6_load_15 : decode cX6_load 15 = .ok (.iload_n 3, 1) := by decide +kernel
theorem dX6_load_16 : decode cX6_load 16 = .ok (.dup2, 1) := by decide +kernel
theorem dX6_load_17 : decode cX6_load 17 = .ok (.iaload, 1) := by decide +kernel
theorem dX6_load_18 : decode cX6_load 18 = .ok (.iload_n 2, 1) := by decide +kernel
theorem dX6_load_19 : decode cX6_load 19 = .ok (.iadd, 1) := by decide +kernel
theorem dX6_load_20 : decode cX6_load 20 = .ok (.iastore, 1) := by decide +kernel
theorem dX6_load_21 : decode cX6_load 21 = .ok (.return_, 1) := by decide +kernel
theorem dX6_loadThere_0 : decode cX6_loadThere 0 = .ok (.iconst 0, 1) := by decide +kernel
theorem dX6_loadThere_1 : decode cX6_loadThere 1 = .ok (.istore_n 2, 1) := by decide +kernel
theorem dX6_loadThere_2 : decode cX6_loadThere 2 = .ok (.iload_n 2, 1) := by decide +kernel
theorem dX6_loadThere_3 : decode cX6_loadThere 3 = .ok (.aload_n 0, 1) := by decide +kernel
theorem dX6_loadThere_4 : decode cX6_loadThere 4 = .ok (.getfield 24, 3) := by decide +kernel
theorem dX6_loadThere_7 : decode cX6_loadThere 7 = .ok (.getfield 61, 3) := by decide +kernel
theorem dX6_loadThere_10 : decode cX6_loadThere 10 = .ok (.iload_n 1, 1) := by decide +kernel
theorem dX6_loadThere_11 : decode cX6_loadThere 11 = .ok (.iaload, 1) := by decide +kernel
theorem dX6_loadThere_12 : decode cX6_loadThere 12 = .ok (.if_icmp .ge 19, 3) := by decide +kernel
theorem dX6_loadThere_15 : decode cX6_loadThere 15 = .ok (.aload_n 0, 1) := by decide +kernel
theorem dX6_loadThere_16 : decode cX6_loadThere 16 = .ok (.iload_n 1, 1) := by decide +kernel
theorem dX6_loadThere_17 : decode cX6_loadThere 17 = .ok (.iconst 5, 1) := by decide +kernel
theorem dX6_loadThere_18 : decode cX6_loadThere 18 = .ok (.imul, 1) := by decide +kernel
theorem dX6_loadThere_19 : decode cX6_loadThere 19 = .ok (.iload_n 2, 1) := by decide +kernel
theorem dX6_loadThere_20 : decode cX6_loadThere 20 = .ok (.iadd, 1) := by decide +kernel
theorem dX6_loadThere_21 : decode cX6_loadThere 21 = .ok (.iconst 1, 1) := by decide +kernel
theorem dX6_loadThere_22 : decode cX6_loadThere 22 = .ok (.invokevirtual 89, 3) := by decide +kernel
theorem dX6_loadThere_25 : decode cX6_loadThere 25 = .ok (.iinc 2 1, 3) := by decide +kernel
theorem dX6_loadThere_28 : decode cX6_loadThere 28 = .ok (.goto (-26), 3) := by decide +kernel
theorem dX6_loadThere_31 : decode cX6_loadThere 31 = .ok (.return_, 1) := by decide +kernel
theorem dX6_readDatum_0 : decode cX6_readDatum 0 = .ok (.aload_n 0, 1) := by decide +kernel
theorem dX6_readDatum_1 : decode cX6_readDatum 1 = .ok (.getfield 24, 3) := by decide +kernel
theorem dX6_readDatum_4 : decode cX6_readDatum 4 = .ok (.getfield 93, 3) := by decide +kernel
theorem dX6_readDatum_7 : decode cX6_readDatum 7 = .ok (.iload_n 1, 1) := by decide +kernel
theorem dX6_readDatum_8 : decode cX6_readDatum 8 = .ok (.iaload, 1) := by decide +kernel
theorem dX6_readDatum_9 : decode cX6_readDatum 9 = .ok (.istore_n 2, 1) := by decide +kernel
theorem dX6_readDatum_10 : decode cX6_readDatum 10 = .ok (.aload_n 0, 1) := by decide +kernel
theorem dX6_readDatum_11 : decode cX6_readDatum 11 = .ok (.iload_n 2, 1) := by decide +kernel
theorem dX6_readDatum_12 : decode cX6_readDatum 12 = .ok (.invokevirtual 96, 3) := by decide +kernel
theorem dX6_readDatum_15 : decode cX6_readDatum 15 = .ok (.iconst (-1), 1) := by decide +kernel
theorem dX6_readDatum_16 : decode cX6_readDatum 16 = .ok (.if_icmp .ne 5, 3) := by decide +kernel
theorem dX6_readDatum_19 : decode cX6_readDatum 19 = .ok (.iconst 0, 1) := by decide +kernel
theorem dX6_readDatum_20 : decode cX6_readDatum 20 = .ok (.ireturn, 1) := by decide +kernel
theorem dX6_readDatum_21 : decode cX6_readDatum 21 = .ok (.aload_n 0, 1) := by decide +kernel
theorem dX6_readDatum_22 : decode cX6_readDatum 22 = .ok (.getfield 9, 3) := by decide +kernel
theorem dX6_readDatum_25 : decode cX6_readDatum 25 = .ok (.iload_n 2, 1) := by decide +kernel
theorem dX6_readDatum_26 : decode cX6_readDatum 26 = .ok (.iaload, 1) := by decide +kernel
theorem dX6_readDatum_27 : decode cX6_readDatum 27 = .ok (.iconst 2, 1) := by decide +kernel
theorem dX6_readDatum_28 : decode cX6_readDatum 28 = .ok (.if_icmp .ne 13, 3) := by decide +kernel
theorem dX6_readDatum_31 : decode cX6_readDatum 31 = .ok (.aload_n 0, 1) := by decide +kernel
theorem dX6_readDatum_32 : decode cX6_readDatum 32 = .ok (.iload_n 2, 1) := by decide +kernel
theorem dX6_readDatum_33 : decode cX6_readDatum 33 = .ok (.iconst 5, 1) := by decide +kernel
theorem dX6_readDatum_34 : decode cX6_readDatum 34 = .ok (.idiv, 1) := by decide +kernel
theorem dX6_readDatum_35 : decode cX6_readDatum 35 = .ok (.invokevirtual 99, 3) := by decide +kernel
theorem dX6_readDatum_38 : decode cX6_readDatum 38 = .ok (.goto 9, 3) := by decide +kernel
theorem dX6_readDatum_41 : decode cX6_readDatum 41 = .ok (.aload_n 0, 1) := by decide +kernel
theorem dX6_readDatum_42 : decode cX6_readDatum 42 = .ok (.iload_n 2, 1) := by decide +kernel
theorem dX6_readDatum_43 : decode cX6_readDatum 43 = .ok (.iconst 1, 1) := by decide +kernel
theorem dX6_readDatum_44 : decode cX6_readDatum 44 = .ok (.invokevirtual 89, 3) := by decide +kernel
theorem dX6_readDatum_47 : decode cX6_readDatum 47 = .ok (.iconst 1, 1) := by decide +kernel
theorem dX6_readDatum_48 : decode cX6_readDatum 48 = .ok (.ireturn, 1) := by decide +kernel
theorem dX6_writeDatum_0 : decode cX6_writeDatum 0 = .ok (.aload_n 0, 1) := by decide +kernel
theorem dX6_writeDatum_1 : decode cX6_writeDatum 1 = .ok (.getfield 24, 3) := by decide +kernel
theorem dX6_writeDatum_4 : decode cX6_writeDatum 4 = .ok (.getfield 93, 3) := by decide +kernel
theorem dX6_writeDatum_7 : decode cX6_writeDatum 7 = .ok (.iload_n 1, 1) := by decide +kernel
theorem dX6_writeDatum_8 : decode cX6_writeDatum 8 = .ok (.iaload, 1) := by decide +kernel
theorem dX6_writeDatum_9 : decode cX6_writeDatum 9 = .ok (.istore_n 3, 1) := by decide +kernel
theorem dX6_writeDatum_10 : decode cX6_writeDatum 10 = .ok (.iload_n 3, 1) := by decide +kernel
theorem dX6_writeDatum_11 : decode cX6_writeDatum 11 = .ok (.iconst 5, 1) := by decide +kernel
theorem dX6_writeDatum_12 : decode cX6_writeDatum 12 = .ok (.idiv, 1) := by decide +kernel
theorem dX6_writeDatum_13 : decode cX6_writeDatum 13 = .ok (.istore 4, 2) := by decide +kernel
theorem dX6_writeDatum_15 : decode cX6_writeDatum 15 = .ok (.aload_n 0, 1) := by decide +kernel
theorem dX6_writeDatum_16 : decode cX6_writeDatum 16 = .ok (.iload_n 3, 1) := by decide +kernel
theorem dX6_writeDatum_17 : decode cX6_writeDatum 17 = .ok (.invokevirtual 103, 3) := by decide +kernel
theorem dX6_writeDatum_20 : decode cX6_writeDatum 20 = .ok (.istore 5, 2) := by decide +kernel
theorem dX6_writeDatum_22 : decode cX6_writeDatum 22 = .ok (.iload 5, 2) := by decide +kernel
theorem dX6_writeDatum_24 : decode cX6_writeDatum 24 = .ok (.iconst (-1), 1) := by decide +kernel
theorem dX6_writeDatum_25 : decode cX6_writeDatum 25 = .ok (.if_icmp .ne 5, 3) := by decide +kernel
theorem dX6_writeDatum_28 : decode cX6_writeDatum 28 = .ok (.iconst (-1), 1) := by decide +kernel
theorem dX6_writeDatum_29 : decode cX6_writeDatum 29 = .ok (.ireturn, 1) := by decide +kernel
theorem dX6_writeDatum_30 : decode cX6_writeDatum 30 = .ok (.iload 4, 2) := by decide +kernel
theorem dX6_writeDatum_32 : decode cX6_writeDatum 32 = .ok (.iconst 5, 1) := by decide +kernel
theorem dX6_writeDatum_33 : decode cX6_writeDatum 33 = .ok (.imul, 1) := by decide +kernel
theorem dX6_writeDatum_34 : decode cX6_writeDatum 34 = .ok (.aload_n 0, 1) := by decide +kernel
theorem dX6_writeDatum_35 : decode cX6_writeDatum 35 = .ok (.getfield 24, 3) := by decide +kernel
theorem dX6_writeDatum_38 : decode cX6_writeDatum 38 = .ok (.getfield 82, 3) := by decide +kernel
theorem dX6_writeDatum_41 : decode cX6_writeDatum 41 = .ok (.iload 4, 2) := by decide +kernel
theorem dX6_writeDatum_43 : decode cX6_writeDatum 43 = .ok (.iaload, 1) := by decide +kernel
theorem dX6_writeDatum_44 : decode cX6_writeDatum 44 = .ok (.iadd, 1) := by decide +kernel
theorem dX6_writeDatum_45 : decode cX6_writeDatum 45 = .ok (.istore 6, 2) := by decide +kernel
theorem dX6_writeDatum_47 : decode cX6_writeDatum 47 = .ok (.aload_n 0, 1) := by decide +kernel
theorem dX6_writeDatum_48 : decode cX6_writeDatum 48 = .ok (.getfield 9, 3) := by decide +kernel
theorem dX6_writeDatum_51 : decode cX6_writeDatum 51 = .ok (.iload_n 3, 1) := by decide +kernel
theorem dX6_writeDatum_52 : decode cX6_writeDatum 52 = .ok (.iaload, 1) := by decide +kernel
theorem dX6_writeDatum_53 : decode cX6_writeDatum 53 = .ok (.iconst 2, 1) := by decide +kernel
theorem dX6_writeDatum_54 : decode cX6_writeDatum 54 = .ok (.if_icmp .ne 12, 3) := by decide +kernel
theorem dX6_writeDatum_57 : decode cX6_writeDatum 57 = .ok (.aload_n 0, 1) := by decide +kernel
theorem dX6_writeDatum_58 : decode cX6_writeDatum 58 = .ok (.iload 4, 2) := by decide +kernel
theorem dX6_writeDatum_60 : decode cX6_writeDatum 60 = .ok (.invokevirtual 99, 3) := by decide +kernel
theorem dX6_writeDatum_63 : decode cX6_writeDatum 63 = .ok (.goto 36, 3) := by decide +kernel
theorem dX6_writeDatum_66 : decode cX6_writeDatum 66 = .ok (.aload_n 0, 1) := by decide +kernel
theorem dX6_writeDatum_67 : decode cX6_writeDatum 67 = .ok (.getfield 9, 3) := by decide +kernel
theorem dX6_writeDatum_70 : decode cX6_writeDatum 70 = .ok (.iload 6, 2) := by decide +kernel
theorem dX6_writeDatum_72 : decode cX6_writeDatum 72 = .ok (.iaload, 1) := by decide +kernel
theorem dX6_writeDatum_73 : decode cX6_writeDatum 73 = .ok (.iconst 2, 1) := by decide +kernel
theorem dX6_writeDatum_74 : decode cX6_writeDatum 74 = .ok (.if_icmp .ne 12, 3) := by decide +kernel
theorem dX6_writeDatum_77 : decode cX6_writeDatum 77 = .ok (.aload_n 0, 1) := by decide +kernel
theorem dX6_writeDatum_78 : decode cX6_writeDatum 78 = .ok (.iload_n 3, 1) := by decide +kernel
theorem dX6_writeDatum_79 : decode cX6_writeDatum 79 = .ok (.iconst 1, 1) := by decide +kernel
theorem dX6_writeDatum_80 : decode cX6_writeDatum 80 = .ok (.invokevirtual 89, 3) := by decide +kernel
theorem dX6_writeDatum_83 : decode cX6_writeDatum 83 = .ok (.goto 16, 3) := by decide +kernel
theorem dX6_writeDatum_86 : decode cX6_writeDatum 86 = .ok (.aload_n 0, 1) := by decide +kernel
theorem dX6_writeDatum_87 : decode cX6_writeDatum 87 = .ok (.iload_n 3, 1) := by decide +kernel
theorem dX6_writeDatum_88 : decode cX6_writeDatum 88 = .ok (.iconst 2, 1) := by decide +kernel
theorem dX6_writeDatum_89 : decode cX6_writeDatum 89 = .ok (.invokevirtual 89, 3) := by decide +kernel
theorem dX6_writeDatum_92 : decode cX6_writeDatum 92 = .ok (.aload_n 0, 1) := by decide +kernel
theorem dX6_writeDatum_93 : decode cX6_writeDatum 93 = .ok (.iload 6, 2) := by decide +kernel
theorem dX6_writeDatum_95 : decode cX6_writeDatum 95 = .ok (.iconst 2, 1) := by decide +kernel
theorem dX6_writeDatum_96 : decode cX6_writeDatum 96 = .ok (.invokevirtual 89, 3) := by decide +kernel
theorem dX6_writeDatum_99 : decode cX6_writeDatum 99 = .ok (.aload_n 0, 1) := by decide +kernel
theorem dX6_writeDatum_100 : decode cX6_writeDatum 100 = .ok (.getfield 15, 3) := by decide +kernel
theorem dX6_writeDatum_103 : decode cX6_writeDatum 103 = .ok (.iload_n 3, 1) := by decide +kernel
theorem dX6_writeDatum_104 : decode cX6_writeDatum 104 = .ok (.iload_n 2, 1) := by decide +kernel
theorem dX6_writeDatum_105 : decode cX6_writeDatum 105 = .ok (.iastore, 1) := by decide +kernel
theorem dX6_writeDatum_106 : decode cX6_writeDatum 106 = .ok (.iload 5, 2) := by decide +kernel
theorem dX6_writeDatum_108 : decode cX6_writeDatum 108 = .ok (.ireturn, 1) := by decide +kernel
theorem dX6_loseDisk_0 : decode cX6_loseDisk 0 = .ok (.aload_n 0, 1) := by decide +kernel
theorem dX6_loseDisk_1 : decode cX6_loseDisk 1 = .ok (.iload_n 1, 1) := by decide +kernel
theorem dX6_loseDisk_2 : decode cX6_loseDisk 2 = .ok (.invokevirtual 106, 3) := by decide +kernel
theorem dX6_loseDisk_5 : decode cX6_loseDisk 5 = .ok (.ifCond .ne 5, 3) := by decide +kernel
theorem dX6_loseDisk_8 : decode cX6_loseDisk 8 = .ok (.iconst (-1), 1) := by decide +kernel
theorem dX6_loseDisk_9 : decode cX6_loseDisk 9 = .ok (.ireturn, 1) := by decide +kernel
theorem dX6_loseDisk_10 : decode cX6_loseDisk 10 = .ok (.iconst 0, 1) := by decide +kernel
theorem dX6_loseDisk_11 : decode cX6_loseDisk 11 = .ok (.istore_n 2, 1) := by decide +kernel
theorem dX6_loseDisk_12 : decode cX6_loseDisk 12 = .ok (.iconst 0, 1) := by decide +kernel
theorem dX6_loseDisk_13 : decode cX6_loseDisk 13 = .ok (.istore_n 3, 1) := by decide +kernel
theorem dX6_loseDisk_14 : decode cX6_loseDisk 14 = .ok (.iload_n 3, 1) := by decide +kernel
theorem dX6_loseDisk_15 : decode cX6_loseDisk 15 = .ok (.aload_n 0, 1) := by decide +kernel
theorem dX6_loseDisk_16 : decode cX6_loseDisk 16 = .ok (.getfield 24, 3) := by decide +kernel
theorem dX6_loseDisk_19 : decode cX6_loseDisk 19 = .ok (.getfield 76, 3) := by decide +kernel
theorem dX6_loseDisk_22 : decode cX6_loseDisk 22 = .ok (.if_icmp .ge 61, 3) := by decide +kernel
theorem dX6_loseDisk_25 : decode cX6_loseDisk 25 = .ok (.iconst 0, 1) := by decide +kernel
theorem dX6_loseDisk_26 : decode cX6_loseDisk 26 = .ok (.istore 4, 2) := by decide +kernel
theorem dX6_loseDisk_28 : decode cX6_loseDisk 28 = .ok (.iload 4, 2) := by decide +kernel
theorem dX6_loseDisk_30 : decode cX6_loseDisk 30 = .ok (.aload_n 0, 1) := by decide +kernel
theorem dX6_loseDisk_31 : decode cX6_loseDisk 31 = .ok (.getfield 24, 3) := by decide +kernel
theorem dX6_loseDisk_34 : decode cX6_loseDisk 34 = .ok (.getfield 61, 3) := by decide +kernel
theorem dX6_loseDisk_37 : decode cX6_loseDisk 37 = .ok (.iload_n 3, 1) := by decide +kernel
theorem dX6_loseDisk_38 : decode cX6_loseDisk 38 = .ok (.iaload, 1) := by decide +kernel
theorem dX6_loseDisk_39 : decode cX6_loseDisk 39 = .ok (.if_icmp .ge 38, 3) := by decide +kernel
theorem dX6_loseDisk_42 : decode cX6_loseDisk 42 = .ok (.aload_n 0, 1) := by decide +kernel
theorem dX6_loseDisk_43 : decode cX6_loseDisk 43 = .ok (.iload_n 3, 1) := by decide +kernel
theorem dX6_loseDisk_44 : decode cX6_loseDisk 44 = .ok (.iconst 5, 1) := by decide +kernel
theorem dX6_loseDisk_45 : decode cX6_loseDisk 45 = .ok (.imul, 1) := by decide +kernel
theorem dX6_loseDisk_46 : decode cX6_loseDisk 46 = .ok (.iload 4, 2) := by decide +kernel
theorem dX6_loseDisk_48 : decode cX6_loseDisk 48 = .ok (.iadd, 1) := by decide +kernel
theorem dX6_loseDisk_49 : decode cX6_loseDisk 49 = .ok (.invokevirtual 73, 3) := by decide +kernel
theorem dX6_loseDisk_52 : decode cX6_loseDisk 52 = .ok (.iload_n 1, 1) := by decide +kernel
theorem dX6_loseDisk_53 : decode cX6_loseDisk 53 = .ok (.if_icmp .ne 18, 3) := by decide +kernel
theorem dX6_loseDisk_56 : decode cX6_loseDisk 56 = .ok (.aload_n 0, 1) := by decide +kernel
theorem dX6_loseDisk_57 : decode cX6_loseDisk 57 = .ok (.getfield 9, 3) := by decide +kernel
theorem dX6_loseDisk_60 : decode cX6_loseDisk 60 = .ok (.iload_n 3, 1) := by decide +kernel
theorem dX6_loseDisk_61 : decode cX6_loseDisk 61 = .ok (.iconst 5, 1) := by decide +kernel
theorem dX6_loseDisk_62 : decode cX6_loseDisk 62 = .ok (.imul, 1) := by decide +kernel
theorem dX6_loseDisk_63 : decode cX6_loseDisk 63 = .ok (.iload 4, 2) := by decide +kernel
theorem dX6_loseDisk_65 : decode cX6_loseDisk 65 = .ok (.iadd, 1) := by decide +kernel
theorem dX6_loseDisk_66 : decode cX6_loseDisk 66 = .ok (.iconst 2, 1) := by decide +kernel
theorem dX6_loseDisk_67 : decode cX6_loseDisk 67 = .ok (.iastore, 1) := by decide +kernel
theorem dX6_loseDisk_68 : decode cX6_loseDisk 68 = .ok (.iinc 2 1, 3) := by decide +kernel
theorem dX6_loseDisk_71 : decode cX6_loseDisk 71 = .ok (.iinc 4 1, 3) := by decide +kernel
theorem dX6_loseDisk_74 : decode cX6_loseDisk 74 = .ok (.goto (-46), 3) := by decide +kernel
theorem dX6_loseDisk_77 : decode cX6_loseDisk 77 = .ok (.iinc 3 1, 3) := by decide +kernel
theorem dX6_loseDisk_80 : decode cX6_loseDisk 80 = .ok (.goto (-66), 3) := by decide +kernel
theorem dX6_loseDisk_83 : decode cX6_loseDisk 83 = .ok (.aload_n 0, 1) := by decide +kernel
theorem dX6_loseDisk_84 : decode cX6_loseDisk 84 = .ok (.dup, 1) := by decide +kernel
theorem dX6_loseDisk_85 : decode cX6_loseDisk 85 = .ok (.getfield 34, 3) := by decide +kernel
theorem dX6_loseDisk_88 : decode cX6_loseDisk 88 = .ok (.iconst 1, 1) := by decide +kernel
theorem dX6_loseDisk_89 : decode cX6_loseDisk 89 = .ok (.iload_n 1, 1) := by decide +kernel
theorem dX6_loseDisk_90 : decode cX6_loseDisk 90 = .ok (.ishl, 1) := by decide +kernel
theorem dX6_loseDisk_91 : decode cX6_loseDisk 91 = .ok (.iconst (-1), 1) := by decide +kernel
theorem dX6_loseDisk_92 : decode cX6_loseDisk 92 = .ok (.ixor, 1) := by decide +kernel
theorem dX6_loseDisk_93 : decode cX6_loseDisk 93 = .ok (.iand, 1) := by decide +kernel
theorem dX6_loseDisk_94 : decode cX6_loseDisk 94 = .ok (.putfield 34, 3) := by decide +kernel
theorem dX6_loseDisk_97 : decode cX6_loseDisk 97 = .ok (.iload_n 2, 1) := by decide +kernel
theorem dX6_loseDisk_98 : decode cX6_loseDisk 98 = .ok (.ireturn, 1) := by decide +kernel
theorem dX6_replaceDisk_0 : decode cX6_replaceDisk 0 = .ok (.aload_n 0, 1) := by decide +kernel
theorem dX6_replaceDisk_1 : decode cX6_replaceDisk 1 = .ok (.iload_n 1, 1) := by decide +kernel
theorem dX6_replaceDisk_2 : decode cX6_replaceDisk 2 = .ok (.invokevirtual 106, 3) := by decide +kernel
theorem dX6_replaceDisk_5 : decode cX6_replaceDisk 5 = .ok (.ifCond .eq 5, 3) := by decide +kernel
theorem dX6_replaceDisk_8 : decode cX6_replaceDisk 8 = .ok (.iconst 0, 1) := by decide +kernel
theorem dX6_replaceDisk_9 : decode cX6_replaceDisk 9 = .ok (.ireturn, 1) := by decide +kernel
theorem dX6_replaceDisk_10 : decode cX6_replaceDisk 10 = .ok (.aload_n 0, 1) := by decide +kernel
theorem dX6_replaceDisk_11 : decode cX6_replaceDisk 11 = .ok (.dup, 1) := by decide +kernel
theorem dX6_replaceDisk_12 : decode cX6_replaceDisk 12 = .ok (.getfield 34, 3) := by decide +kernel
theorem dX6_replaceDisk_15 : decode cX6_replaceDisk 15 = .ok (.iconst 1, 1) := by decide +kernel
theorem dX6_replaceDisk_16 : decode cX6_replaceDisk 16 = .ok (.iload_n 1, 1) := by decide +kernel
theorem dX6_replaceDisk_17 : decode cX6_replaceDisk 17 = .ok (.ishl, 1) := by decide +kernel
theorem dX6_replaceDisk_18 : decode cX6_replaceDisk 18 = .ok (.ior, 1) := by decide +kernel
theorem dX6_replaceDisk_19 : decode cX6_replaceDisk 19 = .ok (.putfield 34, 3) := by decide +kernel
theorem dX6_replaceDisk_22 : decode cX6_replaceDisk 22 = .ok (.iconst 1, 1) := by decide +kernel
theorem dX6_replaceDisk_23 : decode cX6_replaceDisk 23 = .ok (.ireturn, 1) := by decide +kernel
theorem dX6_rebuildUnits_0 : decode cX6_rebuildUnits 0 = .ok (.iconst 0, 1) := by decide +kernel
theorem dX6_rebuildUnits_1 : decode cX6_rebuildUnits 1 = .ok (.istore_n 2, 1) := by decide +kernel
theorem dX6_rebuildUnits_2 : decode cX6_rebuildUnits 2 = .ok (.iconst 0, 1) := by decide +kernel
theorem dX6_rebuildUnits_3 : decode cX6_rebuildUnits 3 = .ok (.istore_n 3, 1) := by decide +kernel
theorem dX6_rebuildUnits_4 : decode cX6_rebuildUnits 4 = .ok (.iload_n 3, 1) := by decide +kernel
theorem dX6_rebuildUnits_5 : decode cX6_rebuildUnits 5 = .ok (.aload_n 0, 1) := by decide +kernel
theorem dX6_rebuildUnits_6 : decode cX6_rebuildUnits 6 = .ok (.getfield 24, 3) := by decide +kernel
theorem dX6_rebuildUnits_9 : decode cX6_rebuildUnits 9 = .ok (.getfield 76, 3) := by decide +kernel
theorem dX6_rebuildUnits_12 : decode cX6_rebuildUnits 12 = .ok (.if_icmp .ge 62, 3) := by decide +kernel
theorem dX6_rebuildUnits_15 : decode cX6_rebuildUnits 15 = .ok (.iload_n 2, 1) := by decide +kernel
theorem dX6_rebuildUnits_16 : decode cX6_rebuildUnits 16 = .ok (.iload_n 1, 1) := by decide +kernel
theorem dX6_rebuildUnits_17 : decode cX6_rebuildUnits 17 = .ok (.if_icmp .ge 57, 3) := by decide +kernel
theorem dX6_rebuildUnits_20 : decode cX6_rebuildUnits 20 = .ok (.aload_n 0, 1) := by decide +kernel
theorem dX6_rebuildUnits_21 : decode cX6_rebuildUnits 21 = .ok (.iload_n 3, 1) := by decide +kernel
theorem dX6_rebuildUnits_22 : decode cX6_rebuildUnits 22 = .ok (.invokevirtual 109, 3) := by decide +kernel
theorem dX6_rebuildUnits_25 : decode cX6_rebuildUnits 25 = .ok (.istore 4, 2) := by decide +kernel
theorem dX6_rebuildUnits_27 : decode cX6_rebuildUnits 27 = .ok (.iload 4, 2) := by decide +kernel
theorem dX6_rebuildUnits_29 : decode cX6_rebuildUnits 29 = .ok (.iconst (-1), 1) := by decide +kernel
theorem dX6_rebuildUnits_30 : decode cX6_rebuildUnits 30 = .ok (.if_icmp .ne 7, 3) := by decide +kernel
theorem dX6_rebuildUnits_33 : decode cX6_rebuildUnits 33 = .ok (.iconst 2, 1) := by decide +kernel
theorem dX6_rebuildUnits_34 : decode cX6_rebuildUnits 34 = .ok (.goto 9, 3) := by decide +kernel
theorem dX6_rebuildUnits_37 : decode cX6_rebuildUnits 37 = .ok (.aload_n 0, 1) := by decide +kernel
theorem dX6_rebuildUnits_38 : decode cX6_rebuildUnits 38 = .ok (.iload 4, 2) := by decide +kernel
theorem dX6_rebuildUnits_40 : decode cX6_rebuildUnits 40 = .ok (.invokevirtual 112, 3) := by decide +kernel
theorem dX6_rebuildUnits_43 : decode cX6_rebuildUnits 43 = .ok (.istore 5, 2) := by decide +kernel
theorem dX6_rebuildUnits_45 : decode cX6_rebuildUnits 45 = .ok (.iload 5, 2) := by decide +kernel
theorem dX6_rebuildUnits_47 : decode cX6_rebuildUnits 47 = .ok (.iconst 2, 1) := by decide +kernel
theorem dX6_rebuildUnits_48 : decode cX6_rebuildUnits 48 = .ok (.if_icmp .eq 20, 3) := by decide +kernel
theorem dX6_rebuildUnits_51 : decode cX6_rebuildUnits 51 = .ok (.aload_n 0, 1) := by decide +kernel
theorem dX6_rebuildUnits_52 : decode cX6_rebuildUnits 52 = .ok (.getfield 9, 3) := by decide +kernel
theorem dX6_rebuildUnits_55 : decode cX6_rebuildUnits 55 = .ok (.iload 4, 2) := by decide +kernel
theorem dX6_rebuildUnits_57 : decode cX6_rebuildUnits 57 = .ok (.iload 5, 2) := by decide +kernel
theorem dX6_rebuildUnits_59 : decode cX6_rebuildUnits 59 = .ok (.iastore, 1) := by decide +kernel
theorem dX6_rebuildUnits_60 : decode cX6_rebuildUnits 60 = .ok (.aload_n 0, 1) := by decide +kernel
theorem dX6_rebuildUnits_61 : decode cX6_rebuildUnits 61 = .ok (.iload_n 3, 1) := by decide +kernel
theorem dX6_rebuildUnits_62 : decode cX6_rebuildUnits 62 = .ok (.invokevirtual 99, 3) := by decide +kernel
theorem dX6_rebuildUnits_65 : decode cX6_rebuildUnits 65 = .ok (.iinc 2 1, 3) := by decide +kernel
theorem dX6_rebuildUnits_68 : decode cX6_rebuildUnits 68 = .ok (.iinc 3 1, 3) := by decide +kernel
theorem dX6_rebuildUnits_71 : decode cX6_rebuildUnits 71 = .ok (.goto (-67), 3) := by decide +kernel
theorem dX6_rebuildUnits_74 : decode cX6_rebuildUnits 74 = .ok (.iload_n 2, 1) := by decide +kernel
theorem dX6_rebuildUnits_75 : decode cX6_rebuildUnits 75 = .ok (.ireturn, 1) := by decide +kernel
theorem dX6_onlyLost_0 : decode cX6_onlyLost 0 = .ok (.aload_n 0, 1) := by decide +kernel
theorem dX6_onlyLost_1 : decode cX6_onlyLost 1 = .ok (.iload_n 1, 1) := by decide +kernel
theorem dX6_onlyLost_2 : decode cX6_onlyLost 2 = .ok (.invokevirtual 64, 3) := by decide +kernel
theorem dX6_onlyLost_5 : decode cX6_onlyLost 5 = .ok (.istore_n 2, 1) := by decide +kernel
theorem dX6_onlyLost_6 : decode cX6_onlyLost 6 = .ok (.iconst 0, 1) := by decide +kernel
theorem dX6_onlyLost_7 : decode cX6_onlyLost 7 = .ok (.istore_n 3, 1) := by decide +kernel
theorem dX6_onlyLost_8 : decode cX6_onlyLost 8 = .ok (.iload_n 3, 1) := by decide +kernel
theorem dX6_onlyLost_9 : decode cX6_onlyLost 9 = .ok (.iconst 5, 1) := by decide +kernel
theorem dX6_onlyLost_10 : decode cX6_onlyLost 10 = .ok (.if_icmp .ge 22, 3) := by decide +kernel
theorem dX6_onlyLost_13 : decode cX6_onlyLost 13 = .ok (.iload_n 2, 1) := by decide +kernel
theorem dX6_onlyLost_14 : decode cX6_onlyLost 14 = .ok (.iconst 1, 1) := by decide +kernel
theorem dX6_onlyLost_15 : decode cX6_onlyLost 15 = .ok (.iload_n 3, 1) := by decide +kernel
theorem dX6_onlyLost_16 : decode cX6_onlyLost 16 = .ok (.ishl, 1) := by decide +kernel
theorem dX6_onlyLost_17 : decode cX6_onlyLost 17 = .ok (.if_icmp .ne 9, 3) := by decide +kernel
theorem dX6_onlyLost_20 : decode cX6_onlyLost 20 = .ok (.iload_n 1, 1) := by decide +kernel
theorem dX6_onlyLost_21 : decode cX6_onlyLost 21 = .ok (.iconst 5, 1) := by decide +kernel
theorem dX6_onlyLost_22 : decode cX6_onlyLost 22 = .ok (.imul, 1) := by decide +kernel
theorem dX6_onlyLost_23 : decode cX6_onlyLost 23 = .ok (.iload_n 3, 1) := by decide +kernel
theorem dX6_onlyLost_24 : decode cX6_onlyLost 24 = .ok (.iadd, 1) := by decide +kernel
theorem dX6_onlyLost_25 : decode cX6_onlyLost 25 = .ok (.ireturn, 1) := by decide +kernel
theorem dX6_onlyLost_26 : decode cX6_onlyLost 26 = .ok (.iinc 3 1, 3) := by decide +kernel
theorem dX6_onlyLost_29 : decode cX6_onlyLost 29 = .ok (.goto (-21), 3) := by decide +kernel
theorem dX6_onlyLost_32 : decode cX6_onlyLost 32 = .ok (.iconst (-1), 1) := by decide +kernel
theorem dX6_onlyLost_33 : decode cX6_onlyLost 33 = .ok (.ireturn, 1) := by decide +kernel
theorem dX6_rebuiltTo_0 : decode cX6_rebuiltTo 0 = .ok (.aload_n 0, 1) := by decide +kernel
theorem dX6_rebuiltTo_1 : decode cX6_rebuiltTo 1 = .ok (.aload_n 0, 1) := by decide +kernel
theorem dX6_rebuiltTo_2 : decode cX6_rebuiltTo 2 = .ok (.getfield 24, 3) := by decide +kernel
theorem dX6_rebuiltTo_5 : decode cX6_rebuiltTo 5 = .ok (.getfield 49, 3) := by decide +kernel
theorem dX6_rebuiltTo_8 : decode cX6_rebuiltTo 8 = .ok (.iload_n 1, 1) := by decide +kernel
theorem dX6_rebuiltTo_9 : decode cX6_rebuiltTo 9 = .ok (.iaload, 1) := by decide +kernel
theorem dX6_rebuiltTo_10 : decode cX6_rebuiltTo 10 = .ok (.invokevirtual 106, 3) := by decide +kernel
theorem dX6_rebuiltTo_13 : decode cX6_rebuiltTo 13 = .ok (.ifCond .eq 5, 3) := by decide +kernel
theorem dX6_rebuiltTo_16 : decode cX6_rebuiltTo 16 = .ok (.iconst 0, 1) := by decide +kernel
theorem dX6_rebuiltTo_17 : decode cX6_rebuiltTo 17 = .ok (.ireturn, 1) := by decide +kernel
theorem dX6_rebuiltTo_18 : decode cX6_rebuiltTo 18 = .ok (.iload_n 1, 1) := by decide +kernel
theorem dX6_rebuiltTo_19 : decode cX6_rebuiltTo 19 = .ok (.iconst 5, 1) := by decide +kernel
theorem dX6_rebuiltTo_20 : decode cX6_rebuiltTo 20 = .ok (.idiv, 1) := by decide +kernel
theorem dX6_rebuiltTo_21 : decode cX6_rebuiltTo 21 = .ok (.istore_n 2, 1) := by decide +kernel
theorem dX6_rebuiltTo_22 : decode cX6_rebuiltTo 22 = .ok (.aload_n 0, 1) := by decide +kernel
theorem dX6_rebuiltTo_23 : decode cX6_rebuiltTo 23 = .ok (.aload_n 0, 1) := by decide +kernel
theorem dX6_rebuiltTo_24 : decode cX6_rebuiltTo 24 = .ok (.getfield 24, 3) := by decide +kernel
theorem dX6_rebuiltTo_27 : decode cX6_rebuiltTo 27 = .ok (.getfield 52, 3) := by decide +kernel
theorem dX6_rebuiltTo_30 : decode cX6_rebuiltTo 30 = .ok (.iload_n 2, 1) := by decide +kernel
theorem dX6_rebuiltTo_31 : decode cX6_rebuiltTo 31 = .ok (.iaload, 1) := by decide +kernel
theorem dX6_rebuiltTo_32 : decode cX6_rebuiltTo 32 = .ok (.invokevirtual 106, 3) := by decide +kernel
theorem dX6_rebuiltTo_35 : decode cX6_rebuiltTo 35 = .ok (.ifCond .eq 16, 3) := by decide +kernel
theorem dX6_rebuiltTo_38 : decode cX6_rebuiltTo 38 = .ok (.aload_n 0, 1) := by decide +kernel
theorem dX6_rebuiltTo_39 : decode cX6_rebuiltTo 39 = .ok (.iload_n 2, 1) := by decide +kernel
theorem dX6_rebuiltTo_40 : decode cX6_rebuiltTo 40 = .ok (.invokevirtual 115, 3) := by decide +kernel
theorem dX6_rebuiltTo_43 : decode cX6_rebuiltTo 43 = .ok (.iconst (-1), 1) := by decide +kernel
theorem dX6_rebuiltTo_44 : decode cX6_rebuiltTo 44 = .ok (.if_icmp .ne 7, 3) := by decide +kernel
theorem dX6_rebuiltTo_47 : decode cX6_rebuiltTo 47 = .ok (.iconst 1, 1) := by decide +kernel
theorem dX6_rebuiltTo_48 : decode cX6_rebuiltTo 48 = .ok (.goto 4, 3) := by decide +kernel
theorem dX6_rebuiltTo_51 : decode cX6_rebuiltTo 51 = .ok (.iconst 2, 1) := by decide +kernel
theorem dX6_rebuiltTo_52 : decode cX6_rebuiltTo 52 = .ok (.ireturn, 1) := by decide +kernel
theorem dX6_bringHome_0 : decode cX6_bringHome 0 = .ok (.iconst 0, 1) := by decide +kernel
theorem dX6_bringHome_1 : decode cX6_bringHome 1 = .ok (.istore_n 2, 1) := by decide +kernel
theorem dX6_bringHome_2 : decode cX6_bringHome 2 = .ok (.iconst 0, 1) := by decide +kernel
theorem dX6_bringHome_3 : decode cX6_bringHome 3 = .ok (.istore_n 3, 1) := by decide +kernel
theorem dX6_bringHome_4 : decode cX6_bringHome 4 = .ok (.iload_n 3, 1) := by decide +kernel
theorem dX6_bringHome_5 : decode cX6_bringHome 5 = .ok (.aload_n 0, 1) := by decide +kernel
theorem dX6_bringHome_6 : decode cX6_bringHome 6 = .ok (.getfield 24, 3) := by decide +kernel
theorem dX6_bringHome_9 : decode cX6_bringHome 9 = .ok (.getfield 76, 3) := by decide +kernel
theorem dX6_bringHome_12 : decode cX6_bringHome 12 = .ok (.if_icmp .ge 81, 3) := by decide +kernel
theorem dX6_bringHome_15 : decode cX6_bringHome 15 = .ok (.iload_n 2, 1) := by decide +kernel
theorem dX6_bringHome_16 : decode cX6_bringHome 16 = .ok (.iload_n 1, 1) := by decide +kernel
theorem dX6_bringHome_17 : decode cX6_bringHome 17 = .ok (.if_icmp .ge 76, 3) := by decide +kernel
theorem dX6_bringHome_20 : decode cX6_bringHome 20 = .ok (.aload_n 0, 1) := by decide +kernel
theorem dX6_bringHome_21 : decode cX6_bringHome 21 = .ok (.iload_n 3, 1) := by decide +kernel
theorem dX6_bringHome_22 : decode cX6_bringHome 22 = .ok (.invokevirtual 115, 3) := by decide +kernel
theorem dX6_bringHome_25 : decode cX6_bringHome 25 = .ok (.istore 4, 2) := by decide +kernel
theorem dX6_bringHome_27 : decode cX6_bringHome 27 = .ok (.iload 4, 2) := by decide +kernel
theorem dX6_bringHome_29 : decode cX6_bringHome 29 = .ok (.iconst (-1), 1) := by decide +kernel
theorem dX6_bringHome_30 : decode cX6_bringHome 30 = .ok (.if_icmp .eq 57, 3) := by decide +kernel
theorem dX6_bringHome_33 : decode cX6_bringHome 33 = .ok (.aload_n 0, 1) := by decide +kernel
theorem dX6_bringHome_34 : decode cX6_bringHome 34 = .ok (.aload_n 0, 1) := by decide +kernel
theorem dX6_bringHome_35 : decode cX6_bringHome 35 = .ok (.getfield 24, 3) := by decide +kernel
theorem dX6_bringHome_38 : decode cX6_bringHome 38 = .ok (.getfield 49, 3) := by decide +kernel
theorem dX6_bringHome_41 : decode cX6_bringHome 41 = .ok (.iload_n 3, 1) := by decide +kernel
theorem dX6_bringHome_42 : decode cX6_bringHome 42 = .ok (.iconst 5, 1) := by decide +kernel
theorem dX6_bringHome_43 : decode cX6_bringHome 43 = .ok (.imul, 1) := by decide +kernel
theorem dX6_bringHome_44 : decode cX6_bringHome 44 = .ok (.iload 4, 2) := by decide +kernel
theorem dX6_bringHome_46 : decode cX6_bringHome 46 = .ok (.iadd, 1) := by decide +kernel
theorem dX6_bringHome_47 : decode cX6_bringHome 47 = .ok (.iaload, 1) := by decide +kernel
theorem dX6_bringHome_48 : decode cX6_bringHome 48 = .ok (.invokevirtual 106, 3) := by decide +kernel
theorem dX6_bringHome_51 : decode cX6_bringHome 51 = .ok (.ifCond .eq 36, 3) := by decide +kernel
theorem dX6_bringHome_54 : decode cX6_bringHome 54 = .ok (.iload_n 3, 1) := by decide +kernel
theorem dX6_bringHome_55 : decode cX6_bringHome 55 = .ok (.iconst 5, 1) := by decide +kernel
theorem dX6_bringHome_56 : decode cX6_bringHome 56 = .ok (.imul, 1) := by decide +kernel
theorem dX6_bringHome_57 : decode cX6_bringHome 57 = .ok (.iload 4, 2) := by decide +kernel
theorem dX6_bringHome_59 : decode cX6_bringHome 59 = .ok (.iadd, 1) := by decide +kernel
theorem dX6_bringHome_60 : decode cX6_bringHome 60 = .ok (.istore 5, 2) := by decide +kernel
theorem dX6_bringHome_62 : decode cX6_bringHome 62 = .ok (.aload_n 0, 1) := by decide +kernel
theorem dX6_bringHome_63 : decode cX6_bringHome 63 = .ok (.iload 5, 2) := by decide +kernel
theorem dX6_bringHome_65 : decode cX6_bringHome 65 = .ok (.iconst 1, 1) := by decide +kernel
theorem dX6_bringHome_66 : decode cX6_bringHome 66 = .ok (.invokevirtual 89, 3) := by decide +kernel
theorem dX6_bringHome_69 : decode cX6_bringHome 69 = .ok (.aload_n 0, 1) := by decide +kernel
theorem dX6_bringHome_70 : decode cX6_bringHome 70 = .ok (.getfield 9, 3) := by decide +kernel
theorem dX6_bringHome_73 : decode cX6_bringHome 73 = .ok (.iload 5, 2) := by decide +kernel
theorem dX6_bringHome_75 : decode cX6_bringHome 75 = .ok (.iconst 0, 1) := by decide +kernel
theorem dX6_bringHome_76 : decode cX6_bringHome 76 = .ok (.iastore, 1) := by decide +kernel
theorem dX6_bringHome_77 : decode cX6_bringHome 77 = .ok (.aload_n 0, 1) := by decide +kernel
theorem dX6_bringHome_78 : decode cX6_bringHome 78 = .ok (.iload 5, 2) := by decide +kernel
theorem dX6_bringHome_80 : decode cX6_bringHome 80 = .ok (.iconst 1, 1) := by decide +kernel
theorem dX6_bringHome_81 : decode cX6_bringHome 81 = .ok (.invokevirtual 89, 3) := by decide +kernel
theorem dX6_bringHome_84 : decode cX6_bringHome 84 = .ok (.iinc 2 1, 3) := by decide +kernel
theorem dX6_bringHome_87 : decode cX6_bringHome 87 = .ok (.iinc 3 1, 3) := by decide +kernel
theorem dX6_bringHome_90 : decode cX6_bringHome 90 = .ok (.goto (-86), 3) := by decide +kernel
theorem dX6_bringHome_93 : decode cX6_bringHome 93 = .ok (.iload_n 2, 1) := by decide +kernel
theorem dX6_bringHome_94 : decode cX6_bringHome 94 = .ok (.ireturn, 1) := by decide +kernel
theorem dX6_perform_0 : decode cX6_perform 0 = .ok (.iload_n 1, 1) := by decide +kernel
theorem dX6_perform_1 : decode cX6_perform 1 = .ok (.tableswitch 86 0 4 #[35, 41, 57, 72, 78], 35) := by decide +kernel
theorem dX6_perform_36 : decode cX6_perform 36 = .ok (.aload_n 0, 1) := by decide +kernel
theorem dX6_perform_37 : decode cX6_perform 37 = .ok (.iload_n 2, 1) := by decide +kernel
theorem dX6_perform_38 : decode cX6_perform 38 = .ok (.invokevirtual 118, 3) := by decide +kernel
theorem dX6_perform_41 : decode cX6_perform 41 = .ok (.ireturn, 1) := by decide +kernel
theorem dX6_perform_42 : decode cX6_perform 42 = .ok (.aload_n 0, 1) := by decide +kernel
theorem dX6_perform_43 : decode cX6_perform 43 = .ok (.iload_n 2, 1) := by decide +kernel
theorem dX6_perform_44 : decode cX6_perform 44 = .ok (.iload_n 3, 1) := by decide +kernel
theorem dX6_perform_45 : decode cX6_perform 45 = .ok (.invokevirtual 121, 3) := by decide +kernel
theorem dX6_perform_48 : decode cX6_perform 48 = .ok (.iconst (-1), 1) := by decide +kernel
theorem dX6_perform_49 : decode cX6_perform 49 = .ok (.if_icmp .eq 7, 3) := by decide +kernel
theorem dX6_perform_52 : decode cX6_perform 52 = .ok (.iconst 1, 1) := by decide +kernel
theorem dX6_perform_53 : decode cX6_perform 53 = .ok (.goto 4, 3) := by decide +kernel
theorem dX6_perform_56 : decode cX6_perform 56 = .ok (.iconst 0, 1) := by decide +kernel
theorem dX6_perform_57 : decode cX6_perform 57 = .ok (.ireturn, 1) := by decide +kernel
theorem dX6_perform_58 : decode cX6_perform 58 = .ok (.aload_n 0, 1) := by decide +kernel
theorem dX6_perform_59 : decode cX6_perform 59 = .ok (.iload_n 2, 1) := by decide +kernel
theorem dX6_perform_60 : decode cX6_perform 60 = .ok (.invokevirtual 125, 3) := by decide +kernel
theorem dX6_perform_63 : decode cX6_perform 63 = .ok (.iconst (-1), 1) := by decide +kernel
theorem dX6_perform_64 : decode cX6_perform 64 = .ok (.if_icmp .eq 7, 3) := by decide +kernel
theorem dX6_perform_67 : decode cX6_perform 67 = .ok (.iconst 1, 1) := by decide +kernel
theorem dX6_perform_68 : decode cX6_perform 68 = .ok (.goto 4, 3) := by decide +kernel
theorem dX6_perform_71 : decode cX6_perform 71 = .ok (.iconst 0, 1) := by decide +kernel
theorem dX6_perform_72 : decode cX6_perform 72 = .ok (.ireturn, 1) := by decide +kernel
theorem dX6_perform_73 : decode cX6_perform 73 = .ok (.aload_n 0, 1) := by decide +kernel
theorem dX6_perform_74 : decode cX6_perform 74 = .ok (.iload_n 2, 1) := by decide +kernel
theorem dX6_perform_75 : decode cX6_perform 75 = .ok (.invokevirtual 128, 3) := by decide +kernel
theorem dX6_perform_78 : decode cX6_perform 78 = .ok (.ireturn, 1) := by decide +kernel
theorem dX6_perform_79 : decode cX6_perform 79 = .ok (.aload_n 0, 1) := by decide +kernel
theorem dX6_perform_80 : decode cX6_perform 80 = .ok (.iload_n 2, 1) := by decide +kernel
theorem dX6_perform_81 : decode cX6_perform 81 = .ok (.invokevirtual 131, 3) := by decide +kernel
theorem dX6_perform_84 : decode cX6_perform 84 = .ok (.pop, 1) := by decide +kernel
theorem dX6_perform_85 : decode cX6_perform 85 = .ok (.iconst 1, 1) := by decide +kernel
theorem dX6_perform_86 : decode cX6_perform 86 = .ok (.ireturn, 1) := by decide +kernel
theorem dX6_perform_87 : decode cX6_perform 87 = .ok (.aload_n 0, 1) := by decide +kernel
theorem dX6_perform_88 : decode cX6_perform 88 = .ok (.iload_n 2, 1) := by decide +kernel
theorem dX6_perform_89 : decode cX6_perform 89 = .ok (.invokevirtual 134, 3) := by decide +kernel
theorem dX6_perform_92 : decode cX6_perform 92 = .ok (.pop, 1) := by decide +kernel
theorem dX6_perform_93 : decode cX6_perform 93 = .ok (.iconst 1, 1) := by decide +kernel
theorem dX6_perform_94 : decode cX6_perform 94 = .ok (.ireturn, 1) := by decide +kernel
theorem dX6_unitsThat_0 : decode cX6_unitsThat 0 = .ok (.iconst 0, 1) := by decide +kernel
theorem dX6_unitsThat_1 : decode cX6_unitsThat 1 = .ok (.istore_n 2, 1) := by decide +kernel
theorem dX6_unitsThat_2 : decode cX6_unitsThat 2 = .ok (.iconst 0, 1) := by decide +kernel
theorem dX6_unitsThat_3 : decode cX6_unitsThat 3 = .ok (.istore_n 3, 1) := by decide +kernel
theorem dX6_unitsThat_4 : decode cX6_unitsThat 4 = .ok (.iload_n 3, 1) := by decide +kernel
theorem dX6_unitsThat_5 : decode cX6_unitsThat 5 = .ok (.aload_n 0, 1) := by decide +kernel
theorem dX6_unitsThat_6 : decode cX6_unitsThat 6 = .ok (.getfield 24, 3) := by decide +kernel
theorem dX6_unitsThat_9 : decode cX6_unitsThat 9 = .ok (.getfield 76, 3) := by decide +kernel
theorem dX6_unitsThat_12 : decode cX6_unitsThat 12 = .ok (.if_icmp .ge 50, 3) := by decide +kernel
theorem dX6_unitsThat_15 : decode cX6_unitsThat 15 = .ok (.iconst 0, 1) := by decide +kernel
theorem dX6_unitsThat_16 : decode cX6_unitsThat 16 = .ok (.istore 4, 2) := by decide +kernel
theorem dX6_unitsThat_18 : decode cX6_unitsThat 18 = .ok (.iload 4, 2) := by decide +kernel
theorem dX6_unitsThat_20 : decode cX6_unitsThat 20 = .ok (.aload_n 0, 1) := by decide +kernel
theorem dX6_unitsThat_21 : decode cX6_unitsThat 21 = .ok (.getfield 24, 3) := by decide +kernel
theorem dX6_unitsThat_24 : decode cX6_unitsThat 24 = .ok (.getfield 61, 3) := by decide +kernel
theorem dX6_unitsThat_27 : decode cX6_unitsThat 27 = .ok (.iload_n 3, 1) := by decide +kernel
theorem dX6_unitsThat_28 : decode cX6_unitsThat 28 = .ok (.iaload, 1) := by decide +kernel
theorem dX6_unitsThat_29 : decode cX6_unitsThat 29 = .ok (.if_icmp .ge 27, 3) := by decide +kernel
theorem dX6_unitsThat_32 : decode cX6_unitsThat 32 = .ok (.aload_n 0, 1) := by decide +kernel
theorem dX6_unitsThat_33 : decode cX6_unitsThat 33 = .ok (.getfield 9, 3) := by decide +kernel
theorem dX6_unitsThat_36 : decode cX6_unitsThat 36 = .ok (.iload_n 3, 1) := by decide +kernel
theorem dX6_unitsThat_37 : decode cX6_unitsThat 37 = .ok (.iconst 5, 1) := by decide +kernel
theorem dX6_unitsThat_38 : decode cX6_unitsThat 38 = .ok (.imul, 1) := by decide +kernel
theorem dX6_unitsThat_39 : decode cX6_unitsThat 39 = .ok (.iload 4, 2) := by decide +kernel
theorem dX6_unitsThat_41 : decode cX6_unitsThat 41 = .ok (.iadd, 1) := by decide +kernel
theorem dX6_unitsThat_42 : decode cX6_unitsThat 42 = .ok (.iaload, 1) := by decide +kernel
theorem dX6_unitsThat_43 : decode cX6_unitsThat 43 = .ok (.iload_n 1, 1) := by decide +kernel
theorem dX6_unitsThat_44 : decode cX6_unitsThat 44 = .ok (.if_icmp .ne 6, 3) := by decide +kernel
theorem dX6_unitsThat_47 : decode cX6_unitsThat 47 = .ok (.iinc 2 1, 3) := by decide +kernel
theorem dX6_unitsThat_50 : decode cX6_unitsThat 50 = .ok (.iinc 4 1, 3) := by decide +kernel
theorem dX6_unitsThat_53 : decode cX6_unitsThat 53 = .ok (.goto (-35), 3) := by decide +kernel
theorem dX6_unitsThat_56 : decode cX6_unitsThat 56 = .ok (.iinc 3 1, 3) := by decide +kernel
theorem dX6_unitsThat_59 : decode cX6_unitsThat 59 = .ok (.goto (-55), 3) := by decide +kernel
theorem dX6_unitsThat_62 : decode cX6_unitsThat 62 = .ok (.iload_n 2, 1) := by decide +kernel
theorem dX6_unitsThat_63 : decode cX6_unitsThat 63 = .ok (.ireturn, 1) := by decide +kernel
theorem dX6_lostAt_0 : decode cX6_lostAt 0 = .ok (.iconst 0, 1) := by decide +kernel
theorem dX6_lostAt_1 : decode cX6_lostAt 1 = .ok (.istore_n 2, 1) := by decide +kernel
theorem dX6_lostAt_2 : decode cX6_lostAt 2 = .ok (.iconst 0, 1) := by decide +kernel
theorem dX6_lostAt_3 : decode cX6_lostAt 3 = .ok (.istore_n 3, 1) := by decide +kernel
theorem dX6_lostAt_4 : decode cX6_lostAt 4 = .ok (.iload_n 3, 1) := by decide +kernel
theorem dX6_lostAt_5 : decode cX6_lostAt 5 = .ok (.aload_n 0, 1) := by decide +kernel
theorem dX6_lostAt_6 : decode cX6_lostAt 6 = .ok (.getfield 24, 3) := by decide +kernel
theorem dX6_lostAt_9 : decode cX6_lostAt 9 = .ok (.getfield 76, 3) := by decide +kernel
theorem dX6_lostAt_12 : decode cX6_lostAt 12 = .ok (.if_icmp .ge 62, 3) := by decide +kernel
theorem dX6_lostAt_15 : decode cX6_lostAt 15 = .ok (.iconst 0, 1) := by decide +kernel
theorem dX6_lostAt_16 : decode cX6_lostAt 16 = .ok (.istore 4, 2) := by decide +kernel
theorem dX6_lostAt_18 : decode cX6_lostAt 18 = .ok (.iload 4, 2) := by decide +kernel
theorem dX6_lostAt_20 : decode cX6_lostAt 20 = .ok (.aload_n 0, 1) := by decide +kernel
theorem dX6_lostAt_21 : decode cX6_lostAt 21 = .ok (.getfield 24, 3) := by decide +kernel
theorem dX6_lostAt_24 : decode cX6_lostAt 24 = .ok (.getfield 61, 3) := by decide +kernel
theorem dX6_lostAt_27 : decode cX6_lostAt 27 = .ok (.iload_n 3, 1) := by decide +kernel
theorem dX6_lostAt_28 : decode cX6_lostAt 28 = .ok (.iaload, 1) := by decide +kernel
theorem dX6_lostAt_29 : decode cX6_lostAt 29 = .ok (.if_icmp .ge 39, 3) := by decide +kernel
theorem dX6_lostAt_32 : decode cX6_lostAt 32 = .ok (.aload_n 0, 1) := by decide +kernel
theorem dX6_lostAt_33 : decode cX6_lostAt 33 = .ok (.getfield 9, 3) := by decide +kernel
theorem dX6_lostAt_36 : decode cX6_lostAt 36 = .ok (.iload_n 3, 1) := by decide +kernel
theorem dX6_lostAt_37 : decode cX6_lostAt 37 = .ok (.iconst 5, 1) := by decide +kernel
theorem dX6_lostAt_38 : decode cX6_lostAt 38 = .ok (.imul, 1) := by decide +kernel
theorem dX6_lostAt_39 : decode cX6_lostAt 39 = .ok (.iload 4, 2) := by decide +kernel
theorem dX6_lostAt_41 : decode cX6_lostAt 41 = .ok (.iadd, 1) := by decide +kernel
theorem dX6_lostAt_42 : decode cX6_lostAt 42 = .ok (.iaload, 1) := by decide +kernel
theorem dX6_lostAt_43 : decode cX6_lostAt 43 = .ok (.iconst 2, 1) := by decide +kernel
theorem dX6_lostAt_44 : decode cX6_lostAt 44 = .ok (.if_icmp .ne 18, 3) := by decide +kernel
theorem dX6_lostAt_47 : decode cX6_lostAt 47 = .ok (.iload_n 2, 1) := by decide +kernel
theorem dX6_lostAt_48 : decode cX6_lostAt 48 = .ok (.iload_n 1, 1) := by decide +kernel
theorem dX6_lostAt_49 : decode cX6_lostAt 49 = .ok (.if_icmp .ne 10, 3) := by decide +kernel
theorem dX6_lostAt_52 : decode cX6_lostAt 52 = .ok (.iload_n 3, 1) := by decide +kernel
theorem dX6_lostAt_53 : decode cX6_lostAt 53 = .ok (.iconst 5, 1) := by decide +kernel
theorem dX6_lostAt_54 : decode cX6_lostAt 54 = .ok (.imul, 1) := by decide +kernel
theorem dX6_lostAt_55 : decode cX6_lostAt 55 = .ok (.iload 4, 2) := by decide +kernel
theorem dX6_lostAt_57 : decode cX6_lostAt 57 = .ok (.iadd, 1) := by decide +kernel
theorem dX6_lostAt_58 : decode cX6_lostAt 58 = .ok (.ireturn, 1) := by decide +kernel
theorem dX6_lostAt_59 : decode cX6_lostAt 59 = .ok (.iinc 2 1, 3) := by decide +kernel
theorem dX6_lostAt_62 : decode cX6_lostAt 62 = .ok (.iinc 4 1, 3) := by decide +kernel
theorem dX6_lostAt_65 : decode cX6_lostAt 65 = .ok (.goto (-47), 3) := by decide +kernel
theorem dX6_lostAt_68 : decode cX6_lostAt 68 = .ok (.iinc 3 1, 3) := by decide +kernel
theorem dX6_lostAt_71 : decode cX6_lostAt 71 = .ok (.goto (-67), 3) := by decide +kernel
theorem dX6_lostAt_74 : decode cX6_lostAt 74 = .ok (.iconst (-1), 1) := by decide +kernel
theorem dX6_lostAt_75 : decode cX6_lostAt 75 = .ok (.ireturn, 1) := by decide +kernel
theorem dX6_deadStripes_0 : decode cX6_deadStripes 0 = .ok (.iconst 0, 1) := by decide +kernel
theorem dX6_deadStripes_1 : decode cX6_deadStripes 1 = .ok (.istore_n 1, 1) := by decide +kernel
theorem dX6_deadStripes_2 : decode cX6_deadStripes 2 = .ok (.iconst 0, 1) := by decide +kernel
theorem dX6_deadStripes_3 : decode cX6_deadStripes 3 = .ok (.istore_n 2, 1) := by decide +kernel
theorem dX6_deadStripes_4 : decode cX6_deadStripes 4 = .ok (.iload_n 2, 1) := by decide +kernel
theorem dX6_deadStripes_5 : decode cX6_deadStripes 5 = .ok (.aload_n 0, 1) := by decide +kernel
theorem dX6_deadStripes_6 : decode cX6_deadStripes 6 = .ok (.getfield 24, 3) := by decide +kernel
theorem dX6_deadStripes_9 : decode cX6_deadStripes 9 = .ok (.getfield 76, 3) := by decide +kernel
theorem dX6_deadStripes_12 : decode cX6_deadStripes 12 = .ok (.if_icmp .ge 20, 3) := by decide +kernel
theorem dX6_deadStripes_15 : decode cX6_deadStripes 15 = .ok (.aload_n 0, 1) := by decide +kernel
theorem dX6_deadStripes_16 : decode cX6_deadStripes 16 = .ok (.iload_n 2, 1) := by decide +kernel
theorem dX6_deadStripes_17 : decode cX6_deadStripes 17 = .ok (.invokevirtual 85, 3) := by decide +kernel
theorem dX6_deadStripes_20 : decode cX6_deadStripes 20 = .ok (.ifCond .eq 6, 3) := by decide +kernel
theorem dX6_deadStripes_23 : decode cX6_deadStripes 23 = .ok (.iinc 1 1, 3) := by decide +kernel
theorem dX6_deadStripes_26 : decode cX6_deadStripes 26 = .ok (.iinc 2 1, 3) := by decide +kernel
theorem dX6_deadStripes_29 : decode cX6_deadStripes 29 = .ok (.goto (-25), 3) := by decide +kernel
theorem dX6_deadStripes_32 : decode cX6_deadStripes 32 = .ok (.iload_n 1, 1) := by decide +kernel
theorem dX6_deadStripes_33 : decode cX6_deadStripes 33 = .ok (.ireturn, 1) := by decide +kernel
theorem dX6_allLoads_0 : decode cX6_allLoads 0 = .ok (.iconst 0, 1) := by decide +kernel
theorem dX6_allLoads_1 : decode cX6_allLoads 1 = .ok (.istore_n 1, 1) := by decide +kernel
theorem dX6_allLoads_2 : decode cX6_allLoads 2 = .ok (.iconst 0, 1) := by decide +kernel
theorem dX6_allLoads_3 : decode cX6_allLoads 3 = .ok (.istore_n 2, 1) := by decide +kernel
theorem dX6_allLoads_4 : decode cX6_allLoads 4 = .ok (.iload_n 2, 1) := by decide +kernel
theorem dX6_allLoads_5 : decode cX6_allLoads 5 = .ok (.aload_n 0, 1) := by decide +kernel
theorem dX6_allLoads_6 : decode cX6_allLoads 6 = .ok (.getfield 24, 3) := by decide +kernel
theorem dX6_allLoads_9 : decode cX6_allLoads 9 = .ok (.getfield 28, 3) := by decide +kernel
theorem dX6_allLoads_12 : decode cX6_allLoads 12 = .ok (.if_icmp .ge 18, 3) := by decide +kernel
theorem dX6_allLoads_15 : decode cX6_allLoads 15 = .ok (.iload_n 1, 1) := by decide +kernel
theorem dX6_allLoads_16 : decode cX6_allLoads 16 = .ok (.aload_n 0, 1) := by decide +kernel
theorem dX6_allLoads_17 : decode cX6_allLoads 17 = .ok (.getfield 18, 3) := by decide +kernel
theorem dX6_allLoads_20 : decode cX6_allLoads 20 = .ok (.iload_n 2, 1) := by decide +kernel
theorem dX6_allLoads_21 : decode cX6_allLoads 21 = .ok (.iaload, 1) := by decide +kernel
theorem dX6_allLoads_22 : decode cX6_allLoads 22 = .ok (.iadd, 1) := by decide +kernel
theorem dX6_allLoads_23 : decode cX6_allLoads 23 = .ok (.istore_n 1, 1) := by decide +kernel
theorem dX6_allLoads_24 : decode cX6_allLoads 24 = .ok (.iinc 2 1, 3) := by decide +kernel
theorem dX6_allLoads_27 : decode cX6_allLoads 27 = .ok (.goto (-23), 3) := by decide +kernel
theorem dX6_allLoads_30 : decode cX6_allLoads 30 = .ok (.iload_n 1, 1) := by decide +kernel
theorem dX6_allLoads_31 : decode cX6_allLoads 31 = .ok (.ireturn, 1) := by decide +kernel
theorem dX6_addSeen_0 : decode cX6_addSeen 0 = .ok (.aload_n 0, 1) := by decide +kernel
theorem dX6_addSeen_1 : decode cX6_addSeen 1 = .ok (.getfield 37, 3) := by decide +kernel
theorem dX6_addSeen_4 : decode cX6_addSeen 4 = .ok (.bipush 8, 2) := by decide +kernel
theorem dX6_addSeen_6 : decode cX6_addSeen 6 = .ok (.if_icmp .lt 5, 3) := by decide +kernel
theorem dX6_addSeen_9 : decode cX6_addSeen 9 = .ok (.iconst 0, 1) := by decide +kernel
theorem dX6_addSeen_10 : decode cX6_addSeen 10 = .ok (.ireturn, 1) := by decide +kernel
theorem dX6_addSeen_11 : decode cX6_addSeen 11 = .ok (.aload_n 0, 1) := by decide +kernel
theorem dX6_addSeen_12 : decode cX6_addSeen 12 = .ok (.getfield 21, 3) := by decide +kernel
theorem dX6_addSeen_15 : decode cX6_addSeen 15 = .ok (.aload_n 0, 1) := by decide +kernel
theorem dX6_addSeen_16 : decode cX6_addSeen 16 = .ok (.getfield 37, 3) := by decide +kernel
theorem dX6_addSeen_19 : decode cX6_addSeen 19 = .ok (.iload_n 1, 1) := by decide +kernel
theorem dX6_addSeen_20 : decode cX6_addSeen 20 = .ok (.iastore, 1) := by decide +kernel
theorem dX6_addSeen_21 : decode cX6_addSeen 21 = .ok (.aload_n 0, 1) := by decide +kernel
theorem dX6_addSeen_22 : decode cX6_addSeen 22 = .ok (.dup, 1) := by decide +kernel
theorem dX6_addSeen_23 : decode cX6_addSeen 23 = .ok (.getfield 40, 3) := by decide +kernel
theorem dX6_addSeen_26 : decode cX6_addSeen 26 = .ok (.iload_n 2, 1) := by decide +kernel
theorem dX6_addSeen_27 : decode cX6_addSeen 27 = .ok (.ifCond .eq 12, 3) := by decide +kernel
theorem dX6_addSeen_30 : decode cX6_addSeen 30 = .ok (.iconst 1, 1) := by decide +kernel
theorem dX6_addSeen_31 : decode cX6_addSeen 31 = .ok (.aload_n 0, 1) := by decide +kernel
theorem dX6_addSeen_32 : decode cX6_addSeen 32 = .ok (.getfield 37, 3) := by decide +kernel
theorem dX6_addSeen_35 : decode cX6_addSeen 35 = .ok (.ishl, 1) := by decide +kernel
theorem dX6_addSeen_36 : decode cX6_addSeen 36 = .ok (.goto 4, 3) := by decide +kernel
theorem dX6_addSeen_39 : decode cX6_addSeen 39 = .ok (.iconst 0, 1) := by decide +kernel
theorem dX6_addSeen_40 : decode cX6_addSeen 40 = .ok (.ior, 1) := by decide +kernel
theorem dX6_addSeen_41 : decode cX6_addSeen 41 = .ok (.putfield 40, 3) := by decide +kernel
theorem dX6_addSeen_44 : decode cX6_addSeen 44 = .ok (.aload_n 0, 1) := by decide +kernel
theorem dX6_addSeen_45 : decode cX6_addSeen 45 = .ok (.dup, 1) := by decide +kernel
theorem dX6_addSeen_46 : decode cX6_addSeen 46 = .ok (.getfield 37, 3) := by decide +kernel
theorem dX6_addSeen_49 : decode cX6_addSeen 49 = .ok (.iconst 1, 1) := by decide +kernel
theorem dX6_addSeen_50 : decode cX6_addSeen 50 = .ok (.iadd, 1) := by decide +kernel
theorem dX6_addSeen_51 : decode cX6_addSeen 51 = .ok (.putfield 37, 3) := by decide +kernel
theorem dX6_addSeen_54 : decode cX6_addSeen 54 = .ok (.iconst 1, 1) := by decide +kernel
theorem dX6_addSeen_55 : decode cX6_addSeen 55 = .ok (.ireturn, 1) := by decide +kernel
theorem dX7_init_0 : decode cX7_init 0 = .ok (.aload_n 0, 1) := by decide +kernel
theorem dX7_init_1 : decode cX7_init 1 = .ok (.invokespecial 3, 3) := by decide +kernel
theorem dX7_init_4 : decode cX7_init 4 = .ok (.aload_n 0, 1) := by decide +kernel
theorem dX7_init_5 : decode cX7_init 5 = .ok (.sipush 1000, 3) := by decide +kernel
theorem dX7_init_8 : decode cX7_init 8 = .ok (.newarray .char, 2) := by decide +kernel
theorem dX7_init_10 : decode cX7_init 10 = .ok (.putfield 9, 3) := by decide +kernel
theorem dX7_init_13 : decode cX7_init 13 = .ok (.return_, 1) := by decide +kernel
theorem dX7_append_0 : decode cX7_append 0 = .ok (.bipush 56, 2) := by decide +kernel
theorem dX7_append_2 : decode cX7_append 2 = .ok (.istore_n 3, 1) := by decide +kernel
theorem dX7_append_3 : decode cX7_append 3 = .ok (.iload_n 3, 1) := by decide +kernel
theorem dX7_append_4 : decode cX7_append 4 = .ok (.ifCond .lt 84, 3) := by decide +kernel
theorem dX7_append_7 : decode cX7_append 7 = .ok (.lload_n 1, 1) := by decide +kernel
theorem dX7_append_8 : decode cX7_append 8 = .ok (.iload_n 3, 1) := by decide +kernel
theorem dX7_append_9 : decode cX7_append 9 = .ok (.lushr, 1) := by decide +kernel
theorem dX7_append_10 : decode cX7_append 10 = .ok (.l2i, 1) := by decide +kernel
theorem dX7_append_11 : decode cX7_append 11 = .ok (.sipush 255, 3) := by decide +kernel
theorem dX7_append_14 : decode cX7_append 14 = .ok (.iand, 1) := by decide +kernel
theorem dX7_append_15 : decode cX7_append 15 = .ok (.istore 4, 2) := by decide +kernel
theorem dX7_append_17 : decode cX7_append 17 = .ok (.iload 4, 2) := by decide +kernel
theorem dX7_append_19 : decode cX7_append 19 = .ok (.bipush 10, 2) := by decide +kernel
theorem dX7_append_21 : decode cX7_append 21 = .ok (.if_icmp .eq 17, 3) := by decide +kernel
theorem dX7_append_24 : decode cX7_append 24 = .ok (.iload 4, 2) := by decide +kernel
theorem dX7_append_26 : decode cX7_append 26 = .ok (.bipush 32, 2) := by decide +kernel
theorem dX7_append_28 : decode cX7_append 28 = .ok (.if_icmp .lt 14, 3) := by decide +kernel
theorem dX7_append_31 : decode cX7_append 31 = .ok (.iload 4, 2) := by decide +kernel
theorem dX7_append_33 : decode cX7_append 33 = .ok (.bipush 126, 2) := by decide +kernel
theorem dX7_append_35 : decode cX7_append 35 = .ok (.if_icmp .gt 7, 3) := by decide +kernel
theorem dX7_append_38 : decode cX7_append 38 = .ok (.iconst 1, 1) := by decide +kernel
theorem dX7_append_39 : decode cX7_append 39 = .ok (.goto 4, 3) := by decide +kernel
theorem dX7_append_42 : decode cX7_append 42 = .ok (.iconst 0, 1) := by decide +kernel
theorem dX7_append_43 : decode cX7_append 43 = .ok (.istore 5, 2) := by decide +kernel
theorem dX7_append_45 : decode cX7_append 45 = .ok (.iload 5, 2) := by decide +kernel
theorem dX7_append_47 : decode cX7_append 47 = .ok (.ifCond .eq 35, 3) := by decide +kernel
theorem dX7_append_50 : decode cX7_append 50 = .ok (.aload_n 0, 1) := by decide +kernel
theorem dX7_append_51 : decode cX7_append 51 = .ok (.getfield 15, 3) := by decide +kernel
theorem dX7_append_54 : decode cX7_append 54 = .ok (.sipush 1000, 3) := by decide +kernel
theorem dX7_append_57 : decode cX7_append 57 = .ok (.if_icmp .ge 25, 3) := by decide +kernel
theorem dX7_append_60 : decode cX7_append 60 = .ok (.aload_n 0, 1) := by decide +kernel
theorem dX7_append_61 : decode cX7_append 61 = .ok (.getfield 9, 3) := by decide +kernel
theorem dX7_append_64 : decode cX7_append 64 = .ok (.aload_n 0, 1) := by decide +kernel
theorem dX7_append_65 : decode cX7_append 65 = .ok (.getfield 15, 3) := by decide +kernel
theorem dX7_append_68 : decode cX7_append 68 = .ok (.iload 4, 2) := by decide +kernel
theorem dX7_append_70 : decode cX7_append 70 = .ok (.i2c, 1) := by decide +kernel
theorem dX7_append_71 : decode cX7_append 71 = .ok (.castore, 1) := by decide +kernel
theorem dX7_append_72 : decode cX7_append 72 = .ok (.aload_n 0, 1) := by decide +kernel
theorem dX7_append_73 : decode cX7_append 73 = .ok (.dup, 1) := by decide +kernel
theorem dX7_append_74 : decode cX7_append 74 = .ok (.getfield 15, 3) := by decide +kernel
theorem dX7_append_77 : decode cX7_append 77 = .ok (.iconst 1, 1) := by decide +kernel
theorem dX7_append_78 : decode cX7_append 78 = .ok (.iadd, 1) := by decide +kernel
theorem dX7_append_79 : decode cX7_append 79 = .ok (.putfield 15, 3) := by decide +kernel
theorem dX7_append_82 : decode cX7_append 82 = .ok (.iinc 3 (-8), 3) := by decide +kernel
theorem dX7_append_85 : decode cX7_append 85 = .ok (.goto (-82), 3) := by decide +kernel
theorem dX7_append_88 : decode cX7_append 88 = .ok (.return_, 1) := by decide +kernel
theorem dX7_rewind_0 : decode cX7_rewind 0 = .ok (.aload_n 0, 1) := by decide +kernel
theorem dX7_rewind_1 : decode cX7_rewind 1 = .ok (.iconst 0, 1) := by decide +kernel
theorem dX7_rewind_2 : decode cX7_rewind 2 = .ok (.putfield 19, 3) := by decide +kernel
theorem dX7_rewind_5 : decode cX7_rewind 5 = .ok (.aload_n 0, 1) := by decide +kernel
theorem dX7_rewind_6 : decode cX7_rewind 6 = .ok (.iconst 0, 1) := by decide +kernel
theorem dX7_rewind_7 : decode cX7_rewind 7 = .ok (.putfield 22, 3) := by decide +kernel
theorem dX7_rewind_10 : decode cX7_rewind 10 = .ok (.aload_n 0, 1) := by decide +kernel
theorem dX7_rewind_11 : decode cX7_rewind 11 = .ok (.invokevirtual 25, 3) := by decide +kernel
theorem dX7_rewind_14 : decode cX7_rewind 14 = .ok (.return_, 1) := by decide +kernel
theorem dX7_advance_0 : decode cX7_advance 0 = .ok (.aload_n 0, 1) := by decide +kernel
theorem dX7_advance_1 : decode cX7_advance 1 = .ok (.getfield 22, 3) := by decide +kernel
theorem dX7_advance_4 : decode cX7_advance 4 = .ok (.istore_n 1, 1) := by decide +kernel
theorem dX7_advance_5 : decode cX7_advance 5 = .ok (.iload_n 1, 1) := by decide +kernel
theorem dX7_advance_6 : decode cX7_advance 6 = .ok (.aload_n 0, 1) := by decide +kernel
theorem dX7_advance_7 : decode cX7_advance 7 = .ok (.getfield 15, 3) := by decide +kernel
theorem dX7_advance_10 : decode cX7_advance 10 = .ok (.if_icmp .ge 31, 3) := by decide +kernel
theorem dX7_advance_13 : decode cX7_advance 13 = .ok (.aload_n 0, 1) := by decide +kernel
theorem dX7_advance_14 : decode cX7_advance 14 = .ok (.getfield 9, 3) := by decide +kernel
theorem dX7_advance_17 : decode cX7_advance 17 = .ok (.iload_n 1, 1) := by decide +kernel
theorem dX7_advance_18 : decode cX7_advance 18 = .ok (.caload, 1) := by decide +kernel
theorem dX7_advance_19 : decode cX7_advance 19 = .ok (.bipush 10, 2) := by decide +kernel
theorem dX7_advance_21 : decode cX7_advance 21 = .ok (.if_icmp .eq 14, 3) := by decide +kernel
theorem dX7_advance_24 : decode cX7_advance 24 = .ok (.aload_n 0, 1) := by decide +kernel
theorem dX7_advance_25 : decode cX7_advance 25 = .ok (.getfield 9, 3) := by decide +kernel
theorem dX7_advance_28 : decode cX7_advance 28 = .ok (.iload_n 1, 1) := by decide +kernel
theorem dX7_advance_29 : decode cX7_advance 29 = .ok (.caload, 1) := by decide +kernel
theorem dX7_advance_30 : decode cX7_advance 30 = .ok (.bipush 32, 2) := by decide +kernel
theorem dX7_advance_32 : decode cX7_advance 32 = .ok (.if_icmp .ne 9, 3) := by decide +kernel
theorem dX7_advance_35 : decode cX7_advance 35 = .ok (.iinc 1 1, 3) := by decide +kernel
theorem dX7_advance_38 : decode cX7_advance 38 = .ok (.goto (-33), 3) := by decide +kernel
theorem dX7_advance_41 : decode cX7_advance 41 = .ok (.aload_n 0, 1) := by decide +kernel
theorem dX7_advance_42 : decode cX7_advance 42 = .ok (.iload_n 1, 1) := by decide +kernel
theorem dX7_advance_43 : decode cX7_advance 43 = .ok (.putfield 28, 3) := by decide +kernel
theorem dX7_advance_46 : decode cX7_advance 46 = .ok (.aload_n 0, 1) := by decide +kernel
theorem dX7_advance_47 : decode cX7_advance 47 = .ok (.iconst 0, 1) := by decide +kernel
theorem dX7_advance_48 : decode cX7_advance 48 = .ok (.putfield 31, 3) := by decide +kernel
theorem dX7_advance_51 : decode cX7_advance 51 = .ok (.iload_n 1, 1) := by decide +kernel
theorem dX7_advance_52 : decode cX7_advance 52 = .ok (.aload_n 0, 1) := by decide +kernel
theorem dX7_advance_53 : decode cX7_advance 53 = .ok (.getfield 15, 3) := by decide +kernel
theorem dX7_advance_56 : decode cX7_advance 56 = .ok (.if_icmp .lt 19, 3) := by decide +kernel
theorem dX7_advance_59 : decode cX7_advance 59 = .ok (.aload_n 0, 1) := by decide +kernel
theorem dX7_advance_60 : decode cX7_advance 60 = .ok (.iconst 0, 1) := by decide +kernel
theorem dX7_advance_61 : decode cX7_advance 61 = .ok (.putfield 34, 3) := by decide +kernel
theorem dX7_advance_64 : decode cX7_advance 64 = .ok (.aload_n 0, 1) := by decide +kernel
theorem dX7_advance_65 : decode cX7_advance 65 = .ok (.aload_n 0, 1) := by decide +kernel
theorem dX7_advance_66 : decode cX7_advance 66 = .ok (.getfield 15, 3) := by decide +kernel
theorem dX7_advance_69 : decode cX7_advance 69 = .ok (.putfield 22, 3) := by decide +kernel
theorem dX7_advance_72 : decode cX7_advance 72 = .ok (.goto 156, 3) := by decide +kernel
theorem dX7_advance_75 : decode cX7_advance 75 = .ok (.aload_n 0, 1) := by decide +kernel
theorem dX7_advance_76 : decode cX7_advance 76 = .ok (.getfield 9, 3) := by decide +kernel
theorem dX7_advance_79 : decode cX7_advance 79 = .ok (.iload_n 1, 1) := by decide +kernel
theorem dX7_advance_80 : decode cX7_advance 80 = .ok (.caload, 1) := by decide +kernel
theorem dX7_advance_81 : decode cX7_advance 81 = .ok (.bipush 97, 2) := by decide +kernel
theorem dX7_advance_83 : decode cX7_advance 83 = .ok (.if_icmp .lt 52, 3) := by decide +kernel
theorem dX7_advance_86 : decode cX7_advance 86 = .ok (.aload_n 0, 1) := by decide +kernel
theorem dX7_advance_87 : decode cX7_advance 87 = .ok (.getfield 9, 3) := by decide +kernel
theorem dX7_advance_90 : decode cX7_advance 90 = .ok (.iload_n 1, 1) := by decide +kernel
theorem dX7_advance_91 : decode cX7_advance 91 = .ok (.caload, 1) := by decide +kernel
theorem dX7_advance_92 : decode cX7_advance 92 = .ok (.bipush 122, 2) := by decide +kernel
theorem dX7_advance_94 : decode cX7_advance 94 = .ok (.if_icmp .gt 41, 3) := by decide +kernel
theorem dX7_advance_97 : decode cX7_advance 97 = .ok (.aload_n 0, 1) := by decide +kernel
theorem dX7_advance_98 : decode cX7_advance 98 = .ok (.aload_n 0, 1) := by decide +kernel
theorem dX7_advance_99 : decode cX7_advance 99 = .ok (.bipush 97, 2) := by decide +kernel
theorem dX7_advance_101 : decode cX7_advance 101 = .ok (.bipush 122, 2) := by decide +kernel
theorem dX7_advance_103 : decode cX7_advance 103 = .ok (.invokevirtual 37, 3) := by decide +kernel
theorem dX7_advance_106 : decode cX7_advance 106 = .ok (.putfield 22, 3) := by decide +kernel
theorem dX7_advance_109 : decode cX7_advance 109 = .ok (.aload_n 0, 1) := by decide +kernel
theorem dX7_advance_110 : decode cX7_advance 110 = .ok (.aload_n 0, 1) := by decide +kernel
theorem dX7_advance_111 : decode cX7_advance 111 = .ok (.getfield 22, 3) := by decide +kernel
theorem dX7_advance_114 : decode cX7_advance 114 = .ok (.aload_n 0, 1) := by decide +kernel
theorem dX7_advance_115 : decode cX7_advance 115 = .ok (.getfield 28, 3) := by decide +kernel
theorem dX7_advance_118 : decode cX7_advance 118 = .ok (.isub, 1) := by decide +kernel
theorem dX7_advance_119 : decode cX7_advance 119 = .ok (.bipush 8, 2) := by decide +kernel
theorem dX7_advance_121 : decode cX7_advance 121 = .ok (.if_icmp .gt 7, 3) := by decide +kernel
theorem dX7_advance_124 : decode cX7_advance 124 = .ok (.iconst 2, 1) := by decide +kernel
theorem dX7_advance_125 : decode cX7_advance 125 = .ok (.goto 4, 3) := by decide +kernel
theorem dX7_advance_128 : decode cX7_advance 128 = .ok (.iconst 1, 1) := by decide +kernel
theorem dX7_advance_129 : decode cX7_advance 129 = .ok (.putfield 34, 3) := by decide +kernel
theorem dX7_advance_132 : decode cX7_advance 132 = .ok (.goto 96, 3) := by decide +kernel
theorem dX7_advance_135 : decode cX7_advance 135 = .ok (.aload_n 0, 1) := by decide +kernel
theorem dX7_advance_136 : decode cX7_advance 136 = .ok (.getfield 9, 3) := by decide +kernel
theorem dX7_advance_139 : decode cX7_advance 139 = .ok (.iload_n 1, 1) := by decide +kernel
theorem dX7_advance_140 : decode cX7_advance 140 = .ok (.caload, 1) := by decide +kernel
theorem dX7_advance_141 : decode cX7_advance 141 = .ok (.bipush 48, 2) := by decide +kernel
theorem dX7_advance_143 : decode cX7_advance 143 = .ok (.if_icmp .lt 55, 3) := by decide +kernel
theorem dX7_advance_146 : decode cX7_advance 146 = .ok (.aload_n 0, 1) := by decide +kernel
theorem dX7_advance_147 : decode cX7_advance 147 = .ok (.getfield 9, 3) := by decide +kernel
theorem dX7_advance_150 : decode cX7_advance 150 = .ok (.iload_n 1, 1) := by decide +kernel
theorem dX7_advance_151 : decode cX7_advance 151 = .ok (.caload, 1) := by decide +kernel
theorem dX7_advance_152 : decode cX7_advance 152 = .ok (.bipush 57, 2) := by decide +kernel
theorem dX7_advance_154 : decode cX7_advance 154 = .ok (.if_icmp .gt 44, 3) := by decide +kernel
theorem dX7_advance_157 : decode cX7_advance 157 = .ok (.aload_n 0, 1) := by decide +kernel
theorem dX7_advance_158 : decode cX7_advance 158 = .ok (.aload_n 0, 1) := by decide +kernel
theorem dX7_advance_159 : decode cX7_advance 159 = .ok (.bipush 48, 2) := by decide +kernel
theorem dX7_advance_161 : decode cX7_advance 161 = .ok (.bipush 57, 2) := by decide +kernel
theorem dX7_advance_163 : decode cX7_advance 163 = .ok (.invokevirtual 37, 3) := by decide +kernel
theorem dX7_advance_166 : decode cX7_advance 166 = .ok (.putfield 22, 3) := by decide +kernel
theorem dX7_advance_169 : decode cX7_advance 169 = .ok (.aload_n 0, 1) := by decide +kernel
theorem dX7_advance_170 : decode cX7_advance 170 = .ok (.aload_n 0, 1) := by decide +kernel
theorem dX7_advance_171 : decode cX7_advance 171 = .ok (.getfield 22, 3) := by decide +kernel
theorem dX7_advance_174 : decode cX7_advance 174 = .ok (.aload_n 0, 1) := by decide +kernel
theorem dX7_advance_175 : decode cX7_advance 175 = .ok (.getfield 28, 3) := by decide +kernel
theorem dX7_advance_178 : decode cX7_advance 178 = .ok (.isub, 1) := by decide +kernel
theorem dX7_advance_179 : decode cX7_advance 179 = .ok (.iconst 4, 1) := by decide +kernel
theorem dX7_advance_180 : decode cX7_advance 180 = .ok (.if_icmp .gt 7, 3) := by decide +kernel
theorem dX7_advance_183 : decode cX7_advance 183 = .ok (.iconst 3, 1) := by decide +kernel
theorem dX7_advance_184 : decode cX7_advance 184 = .ok (.goto 4, 3) := by decide +kernel
theorem dX7_advance_187 : decode cX7_advance 187 = .ok (.iconst 1, 1) := by decide +kernel
theorem dX7_advance_188 : decode cX7_advance 188 = .ok (.putfield 34, 3) := by decide +kernel
theorem dX7_advance_191 : decode cX7_advance 191 = .ok (.aload_n 0, 1) := by decide +kernel
theorem dX7_advance_192 : decode cX7_advance 192 = .ok (.invokevirtual 41, 3) := by decide +kernel
theorem dX7_advance_195 : decode cX7_advance 195 = .ok (.goto 33, 3) := by decide +kernel
theorem dX7_advance_198 : decode cX7_advance 198 = .ok (.aload_n 0, 1) := by decide +kernel
theorem dX7_advance_199 : decode cX7_advance 199 = .ok (.iload_n 1, 1) := by decide +kernel
theorem dX7_advance_200 : decode cX7_advance 200 = .ok (.iconst 1, 1) := by decide +kernel
theorem dX7_advance_201 : decode cX7_advance 201 = .ok (.iadd, 1) := by decide +kernel
theorem dX7_advance_202 : decode cX7_advance 202 = .ok (.putfield 22, 3) := by decide +kernel
theorem dX7_advance_205 : decode cX7_advance 205 = .ok (.aload_n 0, 1) := by decide +kernel
theorem dX7_advance_206 : decode cX7_advance 206 = .ok (.ldc 44, 2) := by decide +kernel
theorem dX7_advance_208 : decode cX7_advance 208 = .ok (.aload_n 0, 1) := by decide +kernel
theorem dX7_advance_209 : decode cX7_advance 209 = .ok (.getfield 9, 3) := by decide +kernel
theorem dX7_advance_212 : decode cX7_advance 212 = .ok (.iload_n 1, 1) := by decide +kernel
theorem dX7_advance_213 : decode cX7_advance 213 = .ok (.caload, 1) := by decide +kernel
theorem dX7_advance_214 : decode cX7_advance 214 = .ok (.invokevirtual 46, 3) := by decide +kernel
theorem dX7_advance_217 : decode cX7_advance 217 = .ok (.ifCond .lt 7, 3) := by decide +kernel
theorem dX7_advance_220 : decode cX7_advance 220 = .ok (.iconst 4, 1) := by decide +kernel
theorem dX7_advance_221 : decode cX7_advance 221 = .ok (.goto 4, 3) := by decide +kernel
theorem dX7_advance_224 : decode cX7_advance 224 = .ok (.iconst 1, 1) := by decide +kernel
theorem dX7_advance_225 : decode cX7_advance 225 = .ok (.putfield 34, 3) := by decide +kernel
theorem dX7_advance_228 : decode cX7_advance 228 = .ok (.return_, 1) := by decide +kernel
theorem dX7_endOfRun_0 : decode cX7_endOfRun 0 = .ok (.aload_n 0, 1) := by decide +kernel
theorem dX7_endOfRun_1 : decode cX7_endOfRun 1 = .ok (.getfield 28, 3) := by decide +kernel
theorem dX7_endOfRun_4 : decode cX7_endOfRun 4 = .ok (.istore_n 3, 1) := by decide +kernel
theorem dX7_endOfRun_5 : decode cX7_endOfRun 5 = .ok (.iload_n 3, 1) := by decide +kernel
theorem dX7_endOfRun_6 : decode cX7_endOfRun 6 = .ok (.aload_n 0, 1) := by decide +kernel
theorem dX7_endOfRun_7 : decode cX7_endOfRun 7 = .ok (.getfield 15, 3) := by decide +kernel
theorem dX7_endOfRun_10 : decode cX7_endOfRun 10 = .ok (.if_icmp .ge 29, 3) := by decide +kernel
theorem dX7_endOfRun_13 : decode cX7_endOfRun 13 = .ok (.aload_n 0, 1) := by decide +kernel
theorem dX7_endOfRun_14 : decode cX7_endOfRun 14 = .ok (.getfield 9, 3) := by decide +kernel
theorem dX7_endOfRun_17 : decode cX7_endOfRun 17 = .ok (.iload_n 3, 1) := by decide +kernel
theorem dX7_endOfRun_18 : decode cX7_endOfRun 18 = .ok (.caload, 1) := by decide +kernel
theorem dX7_endOfRun_19 : decode cX7_endOfRun 19 = .ok (.iload_n 1, 1) := by decide +kernel
theorem dX7_endOfRun_20 : decode cX7_endOfRun 20 = .ok (.if_icmp .lt 19, 3) := by decide +kernel
theorem dX7_endOfRun_23 : decode cX7_endOfRun 23 = .ok (.aload_n 0, 1) := by decide +kernel
theorem dX7_endOfRun_24 : decode cX7_endOfRun 24 = .ok (.getfield 9, 3) := by decide +kernel
theorem dX7_endOfRun_27 : decode cX7_endOfRun 27 = .ok (.iload_n 3, 1) := by decide +kernel
theorem dX7_endOfRun_28 : decode cX7_endOfRun 28 = .ok (.caload, 1) := by decide +kernel
theorem dX7_endOfRun_29 : decode cX7_endOfRun 29 = .ok (.iload_n 2, 1) := by decide +kernel
theorem dX7_endOfRun_30 : decode cX7_endOfRun 30 = .ok (.if_icmp .gt 9, 3) := by decide +kernel
theorem dX7_endOfRun_33 : decode cX7_endOfRun 33 = .ok (.iinc 3 1, 3) := by decide +kernel
theorem dX7_endOfRun_36 : decode cX7_endOfRun 36 = .ok (.goto (-31), 3) := by decide +kernel
theorem dX7_endOfRun_39 : decode cX7_endOfRun 39 = .ok (.iload_n 3, 1) := by decide +kernel
theorem dX7_endOfRun_40 : decode cX7_endOfRun 40 = .ok (.ireturn, 1) := by decide +kernel
theorem dX7_readNumber_0 : decode cX7_readNumber 0 = .ok (.aload_n 0, 1) := by decide +kernel
theorem dX7_readNumber_1 : decode cX7_readNumber 1 = .ok (.getfield 28, 3) := by decide +kernel
theorem dX7_readNumber_4 : decode cX7_readNumber 4 = .ok (.istore_n 1, 1) := by decide +kernel
theorem dX7_readNumber_5 : decode cX7_readNumber 5 = .ok (.iload_n 1, 1) := by decide +kernel
theorem dX7_readNumber_6 : decode cX7_readNumber 6 = .ok (.aload_n 0, 1) := by decide +kernel
theorem dX7_readNumber_7 : decode cX7_readNumber 7 = .ok (.getfield 22, 3) := by decide +kernel
theorem dX7_readNumber_10 : decode cX7_readNumber 10 = .ok (.if_icmp .ge 38, 3) := by decide +kernel
theorem dX7_readNumber_13 : decode cX7_readNumber 13 = .ok (.aload_n 0, 1) := by decide +kernel
theorem dX7_readNumber_14 : decode cX7_readNumber 14 = .ok (.getfield 34, 3) := by decide +kernel
theorem dX7_readNumber_17 : decode cX7_readNumber 17 = .ok (.iconst 3, 1) := by decide +kernel
theorem dX7_readNumber_18 : decode cX7_readNumber 18 = .ok (.if_icmp .ne 30, 3) := by decide +kernel
theorem dX7_readNumber_21 : decode cX7_readNumber 21 = .ok (.aload_n 0, 1) := by decide +kernel
theorem dX7_readNumber_22 : decode cX7_readNumber 22 = .ok (.aload_n 0, 1) := by decide +kernel
theorem dX7_readNumber_23 : decode cX7_readNumber 23 = .ok (.getfield 31, 3) := by decide +kernel
theorem dX7_readNumber_26 : decode cX7_readNumber 26 = .ok (.bipush 10, 2) := by decide +kernel
theorem dX7_readNumber_28 : decode cX7_readNumber 28 = .ok (.imul, 1) := by decide +kernel
theorem dX7_readNumber_29 : decode cX7_readNumber 29 = .ok (.aload_n 0, 1) := by decide +kernel
theorem dX7_readNumber_30 : decode cX7_readNumber 30 = .ok (.getfield 9, 3) := by decide +kernel
theorem dX7_readNumber_33 : decode cX7_readNumber 33 = .ok (.iload_n 1, 1) := by decide +kernel
theorem dX7_readNumber_34 : decode cX7_readNumber 34 = .ok (.caload, 1) := by decide +kernel
theorem dX7_readNumber_35 : decode cX7_readNumber 35 = .ok (.iadd, 1) := by decide +kernel
theorem dX7_readNumber_36 : decode cX7_readNumber 36 = .ok (.bipush 48, 2) := by decide +kernel
theorem dX7_readNumber_38 : decode cX7_readNumber 38 = .ok (.isub, 1) := by decide +kernel
theorem dX7_readNumber_39 : decode cX7_readNumber 39 = .ok (.putfield 31, 3) := by decide +kernel
theorem dX7_readNumber_42 : decode cX7_readNumber 42 = .ok (.iinc 1 1, 3) := by decide +kernel
theorem dX7_readNumber_45 : decode cX7_readNumber 45 = .ok (.goto (-40), 3) := by decide +kernel
theorem dX7_readNumber_48 : decode cX7_readNumber 48 = .ok (.return_, 1) := by decide +kernel
theorem dX7_isWord_0 : decode cX7_isWord 0 = .ok (.aload_n 0, 1) := by decide +kernel
theorem dX7_isWord_1 : decode cX7_isWord 1 = .ok (.getfield 34, 3) := by decide +kernel
theorem dX7_isWord_4 : decode cX7_isWord 4 = .ok (.iconst 2, 1) := by decide +kernel
theorem dX7_isWord_5 : decode cX7_isWord 5 = .ok (.if_icmp .ne 19, 3) := by decide +kernel
theorem dX7_isWord_8 : decode cX7_isWord 8 = .ok (.aload_n 0, 1) := by decide +kernel
theorem dX7_isWord_9 : decode cX7_isWord 9 = .ok (.getfield 22, 3) := by decide +kernel
theorem dX7_isWord_12 : decode cX7_isWord 12 = .ok (.aload_n 0, 1) := by decide +kernel
theorem dX7_isWord_13 : decode cX7_isWord 13 = .ok (.getfield 28, 3) := by decide +kernel
theorem dX7_isWord_16 : decode cX7_isWord 16 = .ok (.isub, 1) := by decide +kernel
theorem dX7_isWord_17 : decode cX7_isWord 17 = .ok (.aload_n 1, 1) := by decide +kernel
theorem dX7_isWord_18 : decode cX7_isWord 18 = .ok (.invokevirtual 52, 3) := by decide +kernel
theorem dX7_isWord_21 : decode cX7_isWord 21 = .ok (.if_icmp .eq 5, 3) := by decide +kernel
theorem dX7_isWord_24 : decode cX7_isWord 24 = .ok (.iconst 0, 1) := by decide +kernel
theorem dX7_isWord_25 : decode cX7_isWord 25 = .ok (.ireturn, 1) := by decide +kernel
theorem dX7_isWord_26 : decode cX7_isWord 26 = .ok (.iconst 0, 1) := by decide +kernel
theorem dX7_isWord_27 : decode cX7_isWord 27 = .ok (.istore_n 2, 1) := by decide +kernel
theorem dX7_isWord_28 : decode cX7_isWord 28 = .ok (.iload_n 2, 1) := by decide +kernel
theorem dX7_isWord_29 : decode cX7_isWord 29 = .ok (.aload_n 1, 1) := by decide +kernel
theorem dX7_isWord_30 : decode cX7_isWord 30 = .ok (.invokevirtual 52, 3) := by decide +kernel
theorem dX7_isWord_33 : decode cX7_isWord 33 = .ok (.if_icmp .ge 30, 3) := by decide +kernel
theorem dX7_isWord_36 : decode cX7_isWord 36 = .ok (.aload_n 0, 1) := by decide +kernel
theorem dX7_isWord_37 : decode cX7_isWord 37 = .ok (.getfield 9, 3) := by decide +kernel
theorem dX7_isWord_40 : decode cX7_isWord 40 = .ok (.aload_n 0, 1) := by decide +kernel
theorem dX7_isWord_41 : decode cX7_isWord 41 = .ok (.getfield 28, 3) := by decide +kernel
theorem dX7_isWord_44 : decode cX7_isWord 44 = .ok (.iload_n 2, 1) := by decide +kernel
theorem dX7_isWord_45 : decode cX7_isWord 45 = .ok (.iadd, 1) := by decide +kernel
theorem dX7_isWord_46 : decode cX7_isWord 46 = .ok (.caload, 1) := by decide +kernel
theorem dX7_isWord_47 : decode cX7_isWord 47 = .ok (.aload_n 1, 1) := by decide +kernel
theorem dX7_isWord_48 : decode cX7_isWord 48 = .ok (.iload_n 2, 1) := by decide +kernel
theorem dX7_isWord_49 : decode cX7_isWord 49 = .ok (.invokevirtual 55, 3) := by decide +kernel
theorem dX7_isWord_52 : decode cX7_isWord 52 = .ok (.if_icmp .eq 5, 3) := by decide +kernel
theorem dX7_isWord_55 : decode cX7_isWord 55 = .ok (.iconst 0, 1) := by decide +kernel
theorem dX7_isWord_56 : decode cX7_isWord 56 = .ok (.ireturn, 1) := by decide +kernel
theorem dX7_isWord_57 : decode cX7_isWord 57 = .ok (.iinc 2 1, 3) := by decide +kernel
theorem dX7_isWord_60 : decode cX7_isWord 60 = .ok (.goto (-32), 3) := by decide +kernel
theorem dX7_isWord_63 : decode cX7_isWord 63 = .ok (.iconst 1, 1) := by decide +kernel
theorem dX7_isWord_64 : decode cX7_isWord 64 = .ok (.ireturn, 1) := by decide +kernel
theorem dX7_isSign_0 : decode cX7_isSign 0 = .ok (.aload_n 0, 1) := by decide +kernel
theorem dX7_isSign_1 : decode cX7_isSign 1 = .ok (.getfield 34, 3) := by decide +kernel
theorem dX7_isSign_4 : decode cX7_isSign 4 = .ok (.iconst 4, 1) := by decide +kernel
theorem dX7_isSign_5 : decode cX7_isSign 5 = .ok (.if_icmp .ne 20, 3) := by decide +kernel
theorem dX7_isSign_8 : decode cX7_isSign 8 = .ok (.aload_n 0, 1) := by decide +kernel
theorem dX7_isSign_9 : decode cX7_isSign 9 = .ok (.getfield 9, 3) := by decide +kernel
theorem dX7_isSign_12 : decode cX7_isSign 12 = .ok (.aload_n 0, 1) := by decide +kernel
theorem dX7_isSign_13 : decode cX7_isSign 13 = .ok (.getfield 28, 3) := by decide +kernel
theorem dX7_isSign_16 : decode cX7_isSign 16 = .ok (.caload, 1) := by decide +kernel
theorem dX7_isSign_17 : decode cX7_isSign 17 = .ok (.iload_n 1, 1) := by decide +kernel
theorem dX7_isSign_18 : decode cX7_isSign 18 = .ok (.if_icmp .ne 7, 3) := by decide +kernel
theorem dX7_isSign_21 : decode cX7_isSign 21 = .ok (.iconst 1, 1) := by decide +kernel
theorem dX7_isSign_22 : decode cX7_isSign 22 = .ok (.goto 4, 3) := by decide +kernel
theorem dX7_isSign_25 : decode cX7_isSign 25 = .ok (.iconst 0, 1) := by decide +kernel
theorem dX7_isSign_26 : decode cX7_isSign 26 = .ok (.ireturn, 1) := by decide +kernel
theorem dX7_fail_0 : decode cX7_fail 0 = .ok (.aload_n 0, 1) := by decide +kernel
theorem dX7_fail_1 : decode cX7_fail 1 = .ok (.getfield 19, 3) := by decide +kernel
theorem dX7_fail_4 : decode cX7_fail 4 = .ok (.ifCond .ne 16, 3) := by decide +kernel
theorem dX7_fail_7 : decode cX7_fail 7 = .ok (.aload_n 0, 1) := by decide +kernel
theorem dX7_fail_8 : decode cX7_fail 8 = .ok (.iload_n 1, 1) := by decide +kernel
theorem dX7_fail_9 : decode cX7_fail 9 = .ok (.bipush 16, 2) := by decide +kernel
theorem dX7_fail_11 : decode cX7_fail 11 = .ok (.aload_n 0, 1) := by decide +kernel
theorem dX7_fail_12 : decode cX7_fail 12 = .ok (.getfield 28, 3) := by decide +kernel
theorem dX7_fail_15 : decode cX7_fail 15 = .ok (.imul, 1) := by decide +kernel
theorem dX7_fail_16 : decode cX7_fail 16 = .ok (.iadd, 1) := by decide +kernel
theorem dX7_fail_17 : decode cX7_fail 17 = .ok (.putfield 19, 3) := by decide +kernel
theorem dX7_fail_20 : decode cX7_fail 20 = .ok (.return_, 1) := by decide +kernel
theorem dX7_pass_0 : decode cX7_pass 0 = .ok (.aload_n 0, 1) := by decide +kernel
theorem dX7_pass_1 : decode cX7_pass 1 = .ok (.getfield 19, 3) := by decide +kernel
theorem dX7_pass_4 : decode cX7_pass 4 = .ok (.ifCond .eq 4, 3) := by decide +kernel
theorem dX7_pass_7 : decode cX7_pass 7 = .ok (.return_, 1) := by decide +kernel
theorem dX7_pass_8 : decode cX7_pass 8 = .ok (.aload_n 0, 1) := by decide +kernel
theorem dX7_pass_9 : decode cX7_pass 9 = .ok (.iload_n 1, 1) := by decide +kernel
theorem dX7_pass_10 : decode cX7_pass 10 = .ok (.invokevirtual 59, 3) := by decide +kernel
theorem dX7_pass_13 : decode cX7_pass 13 = .ok (.ifCond .eq 10, 3) := by decide +kernel
theorem dX7_pass_16 : decode cX7_pass 16 = .ok (.aload_n 0, 1) := by decide +kernel
theorem dX7_pass_17 : decode cX7_pass 17 = .ok (.invokevirtual 25, 3) := by decide +kernel
theorem dX7_pass_20 : decode cX7_pass 20 = .ok (.goto 8, 3) := by decide +kernel
theorem dX7_pass_23 : decode cX7_pass 23 = .ok (.aload_n 0, 1) := by decide +kernel
theorem dX7_pass_24 : decode cX7_pass 24 = .ok (.iconst 1, 1) := by decide +kernel
theorem dX7_pass_25 : decode cX7_pass 25 = .ok (.invokevirtual 63, 3) := by decide +kernel
theorem dX7_pass_28 : decode cX7_pass 28 = .ok (.return_, 1) := by decide +kernel
theorem dX7_numberWithin_0 : decode cX7_numberWithin 0 = .ok (.aload_n 0, 1) := by decide +kernel
theorem dX7_numberWithin_1 : decode cX7_numberWithin 1 = .ok (.getfield 19, 3) := by decide +kernel
theorem dX7_numberWithin_4 : decode cX7_numberWithin 4 = .ok (.ifCond .eq 5, 3) := by decide +kernel
theorem dX7_numberWithin_7 : decode cX7_numberWithin 7 = .ok (.iconst 0, 1) := by decide +kernel
theorem dX7_numberWithin_8 : decode cX7_numberWithin 8 = .ok (.ireturn, 1) := by decide +kernel
theorem dX7_numberWithin_9 : decode cX7_numberWithin 9 = .ok (.aload_n 0, 1) := by decide +kernel
theorem dX7_numberWithin_10 : decode cX7_numberWithin 10 = .ok (.getfield 34, 3) := by decide +kernel
theorem dX7_numberWithin_13 : decode cX7_numberWithin 13 = .ok (.iconst 3, 1) := by decide +kernel
theorem dX7_numberWithin_14 : decode cX7_numberWithin 14 = .ok (.if_icmp .eq 10, 3) := by decide +kernel
theorem dX7_numberWithin_17 : decode cX7_numberWithin 17 = .ok (.aload_n 0, 1) := by decide +kernel
theorem dX7_numberWithin_18 : decode cX7_numberWithin 18 = .ok (.iconst 1, 1) := by decide +kernel
theorem dX7_numberWithin_19 : decode cX7_numberWithin 19 = .ok (.invokevirtual 63, 3) := by decide +kernel
theorem dX7_numberWithin_22 : decode cX7_numberWithin 22 = .ok (.iconst 0, 1) := by decide +kernel
theorem dX7_numberWithin_23 : decode cX7_numberWithin 23 = .ok (.ireturn, 1) := by decide +kernel
theorem dX7_numberWithin_24 : decode cX7_numberWithin 24 = .ok (.aload_n 0, 1) := by decide +kernel
theorem dX7_numberWithin_25 : decode cX7_numberWithin 25 = .ok (.getfield 31, 3) := by decide +kernel
theorem dX7_numberWithin_28 : decode cX7_numberWithin 28 = .ok (.iload_n 1, 1) := by decide +kernel
theorem dX7_numberWithin_29 : decode cX7_numberWithin 29 = .ok (.if_icmp .lt 11, 3) := by decide +kernel
theorem dX7_numberWithin_32 : decode cX7_numberWithin 32 = .ok (.aload_n 0, 1) := by decide +kernel
theorem dX7_numberWithin_33 : decode cX7_numberWithin 33 = .ok (.getfield 31, 3) := by decide +kernel
theorem dX7_numberWithin_36 : decode cX7_numberWithin 36 = .ok (.iload_n 2, 1) := by decide +kernel
theorem dX7_numberWithin_37 : decode cX7_numberWithin 37 = .ok (.if_icmp .le 10, 3) := by decide +kernel
theorem dX7_numberWithin_40 : decode cX7_numberWithin 40 = .ok (.aload_n 0, 1) := by decide +kernel
theorem dX7_numberWithin_41 : decode cX7_numberWithin 41 = .ok (.iconst 4, 1) := by decide +kernel
theorem dX7_numberWithin_42 : decode cX7_numberWithin 42 = .ok (.invokevirtual 63, 3) := by decide +kernel
theorem dX7_numberWithin_45 : decode cX7_numberWithin 45 = .ok (.iconst 0, 1) := by decide +kernel
theorem dX7_numberWithin_46 : decode cX7_numberWithin 46 = .ok (.ireturn, 1) := by decide +kernel
theorem dX7_numberWithin_47 : decode cX7_numberWithin 47 = .ok (.aload_n 0, 1) := by decide +kernel
theorem dX7_numberWithin_48 : decode cX7_numberWithin 48 = .ok (.getfield 31, 3) := by decide +kernel
theorem dX7_numberWithin_51 : decode cX7_numberWithin 51 = .ok (.istore_n 3, 1) := by decide +kernel
theorem dX7_numberWithin_52 : decode cX7_numberWithin 52 = .ok (.aload_n 0, 1) := by decide +kernel
theorem dX7_numberWithin_53 : decode cX7_numberWithin 53 = .ok (.invokevirtual 25, 3) := by decide +kernel
theorem dX7_numberWithin_56 : decode cX7_numberWithin 56 = .ok (.iload_n 3, 1) := by decide +kernel
theorem dX7_numberWithin_57 : decode cX7_numberWithin 57 = .ok (.ireturn, 1) := by decide +kernel
theorem dX8_init_0 : decode cX8_init 0 = .ok (.aload_n 0, 1) := by decide +kernel
theorem dX8_init_1 : decode cX8_init 1 = .ok (.invokespecial 3, 3) := by decide +kernel
theorem dX8_init_4 : decode cX8_init 4 = .ok (.aload_n 0, 1) := by decide +kernel
theorem dX8_init_5 : decode cX8_init 5 = .ok (.bipush 6, 2) := by decide +kernel
theorem dX8_init_7 : decode cX8_init 7 = .ok (.newarray .int, 2) := by decide +kernel
theorem dX8_init_9 : decode cX8_init 9 = .ok (.putfield 9, 3) := by decide +kernel
theorem dX8_init_12 : decode cX8_init 12 = .ok (.aload_n 0, 1) := by decide +kernel
theorem dX8_init_13 : decode cX8_init 13 = .ok (.bipush 6, 2) := by decide +kernel
theorem dX8_init_15 : decode cX8_init 15 = .ok (.newarray .int, 2) := by decide +kernel
theorem dX8_init_17 : decode cX8_init 17 = .ok (.putfield 15, 3) := by decide +kernel
theorem dX8_init_20 : decode cX8_init 20 = .ok (.aload_n 0, 1) := by decide +kernel
theorem dX8_init_21 : decode cX8_init 21 = .ok (.bipush 30, 2) := by decide +kernel
theorem dX8_init_23 : decode cX8_init 23 = .ok (.newarray .int, 2) := by decide +kernel
theorem dX8_init_25 : decode cX8_init 25 = .ok (.putfield 18, 3) := by decide +kernel
theorem dX8_init_28 : decode cX8_init 28 = .ok (.aload_n 0, 1) := by decide +kernel
theorem dX8_init_29 : decode cX8_init 29 = .ok (.new 21, 3) := by decide +kernel
theorem dX8_init_32 : decode cX8_init 32 = .ok (.dup, 1) := by decide +kernel
theorem dX8_init_33 : decode cX8_init 33 = .ok (.invokespecial 23, 3) := by decide +kernel
theorem dX8_init_36 : decode cX8_init 36 = .ok (.putfield 24, 3) := by decide +kernel
theorem dX8_init_39 : decode cX8_init 39 = .ok (.return_, 1) := by decide +kernel
theorem dX8_clear_0 : decode cX8_clear 0 = .ok (.aload_n 0, 1) := by decide +kernel
theorem dX8_clear_1 : decode cX8_clear 1 = .ok (.iconst 0, 1) := by decide +kernel
theorem dX8_clear_2 : decode cX8_clear 2 = .ok (.putfield 28, 3) := by decide +kernel
theorem dX8_clear_5 : decode cX8_clear 5 = .ok (.aload_n 0, 1) := by decide +kernel
theorem dX8_clear_6 : decode cX8_clear 6 = .ok (.iconst 0, 1) := by decide +kernel
theorem dX8_clear_7 : decode cX8_clear 7 = .ok (.putfield 32, 3) := by decide +kernel
theorem dX8_clear_10 : decode cX8_clear 10 = .ok (.aload_n 0, 1) := by decide +kernel
theorem dX8_clear_11 : decode cX8_clear 11 = .ok (.iconst 0, 1) := by decide +kernel
theorem dX8_clear_12 : decode cX8_clear 12 = .ok (.putfield 35, 3) := by decide +kernel
theorem dX8_clear_15 : decode cX8_clear 15 = .ok (.aload_n 0, 1) := by decide +kernel
theorem dX8_clear_16 : decode cX8_clear 16 = .ok (.getfield 24, 3) := by decide +kernel
theorem dX8_clear_19 : decode cX8_clear 19 = .ok (.iconst 0, 1) := by decide +kernel
theorem dX8_clear_20 : decode cX8_clear 20 = .ok (.putfield 38, 3) := by decide +kernel
theorem dX8_clear_23 : decode cX8_clear 23 = .ok (.return_, 1) := by decide +kernel
theorem dX8_pace_0 : decode cX8_pace 0 = .ok (.aload_n 0, 1) := by decide +kernel
theorem dX8_pace_1 : decode cX8_pace 1 = .ok (.getfield 32, 3) := by decide +kernel
theorem dX8_pace_4 : decode cX8_pace 4 = .ok (.ifCond .ne 7, 3) := by decide +kernel
theorem dX8_pace_7 : decode cX8_pace 7 = .ok (.iconst 4, 1) := by decide +kernel
theorem dX8_pace_8 : decode cX8_pace 8 = .ok (.goto 7, 3) := by decide +kernel
theorem dX8_pace_11 : decode cX8_pace 11 = .ok (.aload_n 0, 1) := by decide +kernel
theorem dX8_pace_12 : decode cX8_pace 12 = .ok (.getfield 32, 3) := by decide +kernel
theorem dX8_pace_15 : decode cX8_pace 15 = .ok (.ireturn, 1) := by decide +kernel
theorem dX8_bitsOf_0 : decode cX8_bitsOf 0 = .ok (.iconst 0, 1) := by decide +kernel
theorem dX8_bitsOf_1 : decode cX8_bitsOf 1 = .ok (.istore_n 2, 1) := by decide +kernel
theorem dX8_bitsOf_2 : decode cX8_bitsOf 2 = .ok (.iconst 0, 1) := by decide +kernel
theorem dX8_bitsOf_3 : decode cX8_bitsOf 3 = .ok (.istore_n 3, 1) := by decide +kernel
theorem dX8_bitsOf_4 : decode cX8_bitsOf 4 = .ok (.iload_n 3, 1) := by decide +kernel
theorem dX8_bitsOf_5 : decode cX8_bitsOf 5 = .ok (.aload_n 0, 1) := by decide +kernel
theorem dX8_bitsOf_6 : decode cX8_bitsOf 6 = .ok (.getfield 15, 3) := by decide +kernel
theorem dX8_bitsOf_9 : decode cX8_bitsOf 9 = .ok (.iload_n 1, 1) := by decide +kernel
theorem dX8_bitsOf_10 : decode cX8_bitsOf 10 = .ok (.iaload, 1) := by decide +kernel
theorem dX8_bitsOf_11 : decode cX8_bitsOf 11 = .ok (.if_icmp .ge 24, 3) := by decide +kernel
theorem dX8_bitsOf_14 : decode cX8_bitsOf 14 = .ok (.iload_n 2, 1) := by decide +kernel
theorem dX8_bitsOf_15 : decode cX8_bitsOf 15 = .ok (.iconst 1, 1) := by decide +kernel
theorem dX8_bitsOf_16 : decode cX8_bitsOf 16 = .ok (.aload_n 0, 1) := by decide +kernel
theorem dX8_bitsOf_17 : decode cX8_bitsOf 17 = .ok (.getfield 18, 3) := by decide +kernel
theorem dX8_bitsOf_20 : decode cX8_bitsOf 20 = .ok (.iload_n 1, 1) := by decide +kernel
theorem dX8_bitsOf_21 : decode cX8_bitsOf 21 = .ok (.iconst 5, 1) := by decide +kernel
theorem dX8_bitsOf_22 : decode cX8_bitsOf 22 = .ok (.imul, 1) := by decide +kernel
theorem dX8_bitsOf_23 : decode cX8_bitsOf 23 = .ok (.iload_n 3, 1) := by decide +kernel
theorem dX8_bitsOf_24 : decode cX8_bitsOf 24 = .ok (.iadd, 1) := by decide +kernel
theorem dX8_bitsOf_25 : decode cX8_bitsOf 25 = .ok (.iaload, 1) := by decide +kernel
theorem dX8_bitsOf_26 : decode cX8_bitsOf 26 = .ok (.ishl, 1) := by decide +kernel
theorem dX8_bitsOf_27 : decode cX8_bitsOf 27 = .ok (.ior, 1) := by decide +kernel
theorem dX8_bitsOf_28 : decode cX8_bitsOf 28 = .ok (.istore_n 2, 1) := by decide +kernel
theorem dX8_bitsOf_29 : decode cX8_bitsOf 29 = .ok (.iinc 3 1, 3) := by decide +kernel
theorem dX8_bitsOf_32 : decode cX8_bitsOf 32 = .ok (.goto (-28), 3) := by decide +kernel
theorem dX8_bitsOf_35 : decode cX8_bitsOf 35 = .ok (.iload_n 2, 1) := by decide +kernel
theorem dX8_bitsOf_36 : decode cX8_bitsOf 36 = .ok (.ireturn, 1) := by decide +kernel
theorem dX8_stripesOf_0 : decode cX8_stripesOf 0 = .ok (.aload_n 0, 1) := by decide +kernel
theorem dX8_stripesOf_1 : decode cX8_stripesOf 1 = .ok (.getfield 9, 3) := by decide +kernel
theorem dX8_stripesOf_4 : decode cX8_stripesOf 4 = .ok (.iload_n 1, 1) := by decide +kernel
theorem dX8_stripesOf_5 : decode cX8_stripesOf 5 = .ok (.iaload, 1) := by decide +kernel
theorem dX8_stripesOf_6 : decode cX8_stripesOf 6 = .ok (.lookupswitch 30 #[(0, 26), (1, 28)], 26) := by decide +kernel
theorem dX8_stripesOf_32 : decode cX8_stripesOf 32 = .ok (.iconst 1, 1) := by decide +kernel
theorem dX8_stripesOf_33 : decode cX8_stripesOf 33 = .ok (.ireturn, 1) := by decide +kernel
theorem dX8_stripesOf_34 : decode cX8_stripesOf 34 = .ok (.iload_n 2, 1) := by decide +kernel
theorem dX8_stripesOf_35 : decode cX8_stripesOf 35 = .ok (.ireturn, 1) := by decide +kernel
theorem dX8_stripesOf_36 : decode cX8_stripesOf 36 = .ok (.iconst 2, 1) := by decide +kernel
theorem dX8_stripesOf_37 : decode cX8_stripesOf 37 = .ok (.ireturn, 1) := by decide +kernel
theorem dX8_stripesOfAll_0 : decode cX8_stripesOfAll 0 = .ok (.iconst 0, 1) := by decide +kernel
theorem dX8_stripesOfAll_1 : decode cX8_stripesOfAll 1 = .ok (.istore_n 3, 1) := by decide +kernel
theorem dX8_stripesOfAll_2 : decode cX8_stripesOfAll 2 = .ok (.iconst 0, 1) := by decide +kernel
theorem dX8_stripesOfAll_3 : decode cX8_stripesOfAll 3 = .ok (.istore 4, 2) := by decide +kernel
theorem dX8_stripesOfAll_5 : decode cX8_stripesOfAll 5 = .ok (.iload 4, 2) := by decide +kernel
theorem dX8_stripesOfAll_7 : decode cX8_stripesOfAll 7 = .ok (.iload_n 1, 1) := by decide +kernel
theorem dX8_stripesOfAll_8 : decode cX8_stripesOfAll 8 = .ok (.if_icmp .ge 19, 3) := by decide +kernel
theorem dX8_stripesOfAll_11 : decode cX8_stripesOfAll 11 = .ok (.iload_n 3, 1) := by decide +kernel
theorem dX8_stripesOfAll_12 : decode cX8_stripesOfAll 12 = .ok (.aload_n 0, 1) := by decide +kernel
theorem dX8_stripesOfAll_13 : decode cX8_stripesOfAll 13 = .ok (.iload 4, 2) := by decide +kernel
theorem dX8_stripesOfAll_15 : decode cX8_stripesOfAll 15 = .ok (.iload_n 2, 1) := by decide +kernel
theorem dX8_stripesOfAll_16 : decode cX8_stripesOfAll 16 = .ok (.invokevirtual 41, 3) := by decide +kernel
theorem dX8_stripesOfAll_19 : decode cX8_stripesOfAll 19 = .ok (.iadd, 1) := by decide +kernel
theorem dX8_stripesOfAll_20 : decode cX8_stripesOfAll 20 = .ok (.istore_n 3, 1) := by decide +kernel
theorem dX8_stripesOfAll_21 : decode cX8_stripesOfAll 21 = .ok (.iinc 4 1, 3) := by decide +kernel
theorem dX8_stripesOfAll_24 : decode cX8_stripesOfAll 24 = .ok (.goto (-19), 3) := by decide +kernel
theorem dX8_stripesOfAll_27 : decode cX8_stripesOfAll 27 = .ok (.iload_n 3, 1) := by decide +kernel
theorem dX8_stripesOfAll_28 : decode cX8_stripesOfAll 28 = .ok (.ireturn, 1) := by decide +kernel
theorem dX8_diskIn_0 : decode cX8_diskIn 0 = .ok (.aload_n 0, 1) := by decide +kernel
theorem dX8_diskIn_1 : decode cX8_diskIn 1 = .ok (.getfield 18, 3) := by decide +kernel
theorem dX8_diskIn_4 : decode cX8_diskIn 4 = .ok (.iload_n 1, 1) := by decide +kernel
theorem dX8_diskIn_5 : decode cX8_diskIn 5 = .ok (.iconst 5, 1) := by decide +kernel
theorem dX8_diskIn_6 : decode cX8_diskIn 6 = .ok (.imul, 1) := by decide +kernel
theorem dX8_diskIn_7 : decode cX8_diskIn 7 = .ok (.iload_n 2, 1) := by decide +kernel
theorem dX8_diskIn_8 : decode cX8_diskIn 8 = .ok (.iadd, 1) := by decide +kernel
theorem dX8_diskIn_9 : decode cX8_diskIn 9 = .ok (.iaload, 1) := by decide +kernel
theorem dX8_diskIn_10 : decode cX8_diskIn 10 = .ok (.istore 5, 2) := by decide +kernel
theorem dX8_diskIn_12 : decode cX8_diskIn 12 = .ok (.aload_n 0, 1) := by decide +kernel
theorem dX8_diskIn_13 : decode cX8_diskIn 13 = .ok (.getfield 9, 3) := by decide +kernel
theorem dX8_diskIn_16 : decode cX8_diskIn 16 = .ok (.iload_n 1, 1) := by decide +kernel
theorem dX8_diskIn_17 : decode cX8_diskIn 17 = .ok (.iaload, 1) := by decide +kernel
theorem dX8_diskIn_18 : decode cX8_diskIn 18 = .ok (.iconst 1, 1) := by decide +kernel
theorem dX8_diskIn_19 : decode cX8_diskIn 19 = .ok (.if_icmp .ne 16, 3) := by decide +kernel
theorem dX8_diskIn_22 : decode cX8_diskIn 22 = .ok (.iload 4, 2) := by decide +kernel
theorem dX8_diskIn_24 : decode cX8_diskIn 24 = .ok (.ifCond .le 11, 3) := by decide +kernel
theorem dX8_diskIn_27 : decode cX8_diskIn 27 = .ok (.iload 5, 2) := by decide +kernel
theorem dX8_diskIn_29 : decode cX8_diskIn 29 = .ok (.iload_n 3, 1) := by decide +kernel
theorem dX8_diskIn_30 : decode cX8_diskIn 30 = .ok (.iadd, 1) := by decide +kernel
theorem dX8_diskIn_31 : decode cX8_diskIn 31 = .ok (.iload 4, 2) := by decide +kernel
theorem dX8_diskIn_33 : decode cX8_diskIn 33 = .ok (.irem, 1) := by decide +kernel
theorem dX8_diskIn_34 : decode cX8_diskIn 34 = .ok (.ireturn, 1) := by decide +kernel
theorem dX8_diskIn_35 : decode cX8_diskIn 35 = .ok (.aload_n 0, 1) := by decide +kernel
theorem dX8_diskIn_36 : decode cX8_diskIn 36 = .ok (.getfield 9, 3) := by decide +kernel
theorem dX8_diskIn_39 : decode cX8_diskIn 39 = .ok (.iload_n 1, 1) := by decide +kernel
theorem dX8_diskIn_40 : decode cX8_diskIn 40 = .ok (.iaload, 1) := by decide +kernel
theorem dX8_diskIn_41 : decode cX8_diskIn 41 = .ok (.iconst 2, 1) := by decide +kernel
theorem dX8_diskIn_42 : decode cX8_diskIn 42 = .ok (.if_icmp .ne 18, 3) := by decide +kernel
theorem dX8_diskIn_45 : decode cX8_diskIn 45 = .ok (.iload_n 3, 1) := by decide +kernel
theorem dX8_diskIn_46 : decode cX8_diskIn 46 = .ok (.iconst 1, 1) := by decide +kernel
theorem dX8_diskIn_47 : decode cX8_diskIn 47 = .ok (.if_icmp .ne 13, 3) := by decide +kernel
theorem dX8_diskIn_50 : decode cX8_diskIn 50 = .ok (.iload 4, 2) := by decide +kernel
theorem dX8_diskIn_52 : decode cX8_diskIn 52 = .ok (.iconst 1, 1) := by decide +kernel
theorem dX8_diskIn_53 : decode cX8_diskIn 53 = .ok (.isub, 1) := by decide +kernel
theorem dX8_diskIn_54 : decode cX8_diskIn 54 = .ok (.iload 5, 2) := by decide +kernel
theorem dX8_diskIn_56 : decode cX8_diskIn 56 = .ok (.isub, 1) := by decide +kernel
theorem dX8_diskIn_57 : decode cX8_diskIn 57 = .ok (.goto 5, 3) := by decide +kernel
theorem dX8_diskIn_60 : decode cX8_diskIn 60 = .ok (.iload 5, 2) := by decide +kernel
theorem dX8_diskIn_62 : decode cX8_diskIn 62 = .ok (.ireturn, 1) := by decide +kernel
theorem dX9_init_0 : decode cX9_init 0 = .ok (.aload_n 0, 1) := by decide +kernel
theorem dX9_init_1 : decode cX9_init 1 = .ok (.invokespecial 3, 3) := by decide +kernel
theorem dX9_init_4 : decode cX9_init 4 = .ok (.aload_n 0, 1) := by decide +kernel
theorem dX9_init_5 : decode cX9_init 5 = .ok (.bipush 40, 2) := by decide +kernel
theorem dX9_init_7 : decode cX9_init 7 = .ok (.newarray .int, 2) := by decide +kernel
theorem dX9_init_9 : decode cX9_init 9 = .ok (.putfield 9, 3) := by decide +kernel
theorem dX9_init_12 : decode cX9_init 12 = .ok (.aload_n 0, 1) := by decide +kernel
theorem dX9_init_13 : decode cX9_init 13 = .ok (.bipush 40, 2) := by decide +kernel
theorem dX9_init_15 : decode cX9_init 15 = .ok (.newarray .int, 2) := by decide +kernel
theorem dX9_init_17 : decode cX9_init 17 = .ok (.putfield 15, 3) := by decide +kernel
theorem dX9_init_20 : decode cX9_init 20 = .ok (.aload_n 0, 1) := by decide +kernel
theorem dX9_init_21 : decode cX9_init 21 = .ok (.bipush 40, 2) := by decide +kernel
theorem dX9_init_23 : decode cX9_init 23 = .ok (.newarray .int, 2) := by decide +kernel
theorem dX9_init_25 : decode cX9_init 25 = .ok (.putfield 18, 3) := by decide +kernel
theorem dX9_init_28 : decode cX9_init 28 = .ok (.aload_n 0, 1) := by decide +kernel
theorem dX9_init_29 : decode cX9_init 29 = .ok (.aload_n 1, 1) := by decide +kernel
theorem dX9_init_30 : decode cX9_init 30 = .ok (.putfield 21, 3) := by decide +kernel
theorem dX9_init_33 : decode cX9_init 33 = .ok (.return_, 1) := by decide +kernel
theorem dX9_fill_0 : decode cX9_fill 0 = .ok (.aload_n 0, 1) := by decide +kernel
theorem dX9_fill_1 : decode cX9_fill 1 = .ok (.iconst 0, 1) := by decide +kernel
theorem dX9_fill_2 : decode cX9_fill 2 = .ok (.putfield 25, 3) := by decide +kernel
theorem dX9_fill_5 : decode cX9_fill 5 = .ok (.aload_n 0, 1) := by decide +kernel
theorem dX9_fill_6 : decode cX9_fill 6 = .ok (.getfield 21, 3) := by decide +kernel
theorem dX9_fill_9 : decode cX9_fill 9 = .ok (.invokevirtual 29, 3) := by decide +kernel
theorem dX9_fill_12 : decode cX9_fill 12 = .ok (.iconst 0, 1) := by decide +kernel
theorem dX9_fill_13 : decode cX9_fill 13 = .ok (.istore_n 3, 1) := by decide +kernel
theorem dX9_fill_14 : decode cX9_fill 14 = .ok (.iload_n 3, 1) := by decide +kernel
theorem dX9_fill_15 : decode cX9_fill 15 = .ok (.sipush 1000, 3) := by decide +kernel
theorem dX9_fill_18 : decode cX9_fill 18 = .ok (.if_icmp .ge 80, 3) := by decide +kernel
theorem dX9_fill_21 : decode cX9_fill 21 = .ok (.aload_n 0, 1) := by decide +kernel
theorem dX9_fill_22 : decode cX9_fill 22 = .ok (.getfield 21, 3) := by decide +kernel
theorem dX9_fill_25 : decode cX9_fill 25 = .ok (.getfield 34, 3) := by decide +kernel
theorem dX9_fill_28 : decode cX9_fill 28 = .ok (.ifCond .ne 70, 3) := by decide +kernel
theorem dX9_fill_31 : decode cX9_fill 31 = .ok (.aload_n 0, 1) := by decide +kernel
theorem dX9_fill_32 : decode cX9_fill 32 = .ok (.getfield 21, 3) := by decide +kernel
theorem dX9_fill_35 : decode cX9_fill 35 = .ok (.getfield 37, 3) := by decide +kernel
theorem dX9_fill_38 : decode cX9_fill 38 = .ok (.ifCond .eq 60, 3) := by decide +kernel
theorem dX9_fill_41 : decode cX9_fill 41 = .ok (.aload_n 0, 1) := by decide +kernel
theorem dX9_fill_42 : decode cX9_fill 42 = .ok (.invokevirtual 40, 3) := by decide +kernel
theorem dX9_fill_45 : decode cX9_fill 45 = .ok (.istore 4, 2) := by decide +kernel
theorem dX9_fill_47 : decode cX9_fill 47 = .ok (.iload 4, 2) := by decide +kernel
theorem dX9_fill_49 : decode cX9_fill 49 = .ok (.iconst (-1), 1) := by decide +kernel
theorem dX9_fill_50 : decode cX9_fill 50 = .ok (.if_icmp .ne 14, 3) := by decide +kernel
theorem dX9_fill_53 : decode cX9_fill 53 = .ok (.aload_n 0, 1) := by decide +kernel
theorem dX9_fill_54 : decode cX9_fill 54 = .ok (.getfield 21, 3) := by decide +kernel
theorem dX9_fill_57 : decode cX9_fill 57 = .ok (.iconst 1, 1) := by decide +kernel
theorem dX9_fill_58 : decode cX9_fill 58 = .ok (.invokevirtual 44, 3) := by decide +kernel
theorem dX9_fill_61 : decode cX9_fill 61 = .ok (.goto 31, 3) := by decide +kernel
theorem dX9_fill_64 : decode cX9_fill 64 = .ok (.aload_n 0, 1) := by decide +kernel
theorem dX9_fill_65 : decode cX9_fill 65 = .ok (.getfield 25, 3) := by decide +kernel
theorem dX9_fill_68 : decode cX9_fill 68 = .ok (.bipush 40, 2) := by decide +kernel
theorem dX9_fill_70 : decode cX9_fill 70 = .ok (.if_icmp .lt 14, 3) := by decide +kernel
theorem dX9_fill_73 : decode cX9_fill 73 = .ok (.aload_n 0, 1) := by decide +kernel
theorem dX9_fill_74 : decode cX9_fill 74 = .ok (.getfield 21, 3) := by decide +kernel
theorem dX9_fill_77 : decode cX9_fill 77 = .ok (.iconst 5, 1) := by decide +kernel
theorem dX9_fill_78 : decode cX9_fill 78 = .ok (.invokevirtual 44, 3) := by decide +kernel
theorem dX9_fill_81 : decode cX9_fill 81 = .ok (.goto 11, 3) := by decide +kernel
theorem dX9_fill_84 : decode cX9_fill 84 = .ok (.aload_n 0, 1) := by decide +kernel
theorem dX9_fill_85 : decode cX9_fill 85 = .ok (.iload 4, 2) := by decide +kernel
theorem dX9_fill_87 : decode cX9_fill 87 = .ok (.iload_n 1, 1) := by decide +kernel
theorem dX9_fill_88 : decode cX9_fill 88 = .ok (.iload_n 2, 1) := by decide +kernel
theorem dX9_fill_89 : decode cX9_fill 89 = .ok (.invokevirtual 48, 3) := by decide +kernel
theorem dX9_fill_92 : decode cX9_fill 92 = .ok (.iinc 3 1, 3) := by decide +kernel
theorem dX9_fill_95 : decode cX9_fill 95 = .ok (.goto (-81), 3) := by decide +kernel
theorem dX9_fill_98 : decode cX9_fill 98 = .ok (.aload_n 0, 1) := by decide +kernel
theorem dX9_fill_99 : decode cX9_fill 99 = .ok (.getfield 21, 3) := by decide +kernel
theorem dX9_fill_102 : decode cX9_fill 102 = .ok (.getfield 34, 3) := by decide +kernel
theorem dX9_fill_105 : decode cX9_fill 105 = .ok (.ireturn, 1) := by decide +kernel
theorem dX9_addLine_0 : decode cX9_addLine 0 = .ok (.aload_n 0, 1) := by decide +kernel
theorem dX9_addLine_1 : decode cX9_addLine 1 = .ok (.getfield 21, 3) := by decide +kernel
theorem dX9_addLine_4 : decode cX9_addLine 4 = .ok (.invokevirtual 52, 3) := by decide +kernel
theorem dX9_addLine_7 : decode cX9_addLine 7 = .ok (.aload_n 0, 1) := by decide +kernel
theorem dX9_addLine_8 : decode cX9_addLine 8 = .ok (.getfield 9, 3) := by decide +kernel
theorem dX9_addLine_11 : decode cX9_addLine 11 = .ok (.aload_n 0, 1) := by decide +kernel
theorem dX9_addLine_12 : decode cX9_addLine 12 = .ok (.getfield 25, 3) := by decide +kernel
theorem dX9_addLine_15 : decode cX9_addLine 15 = .ok (.iload_n 1, 1) := by decide +kernel
theorem dX9_addLine_16 : decode cX9_addLine 16 = .ok (.iastore, 1) := by decide +kernel
theorem dX9_addLine_17 : decode cX9_addLine 17 = .ok (.aload_n 0, 1) := by decide +kernel
theorem dX9_addLine_18 : decode cX9_addLine 18 = .ok (.getfield 15, 3) := by decide +kernel
theorem dX9_addLine_21 : decode cX9_addLine 21 = .ok (.aload_n 0, 1) := by decide +kernel
theorem dX9_addLine_22 : decode cX9_addLine 22 = .ok (.getfield 25, 3) := by decide +kernel
theorem dX9_addLine_25 : decode cX9_addLine 25 = .ok (.aload_n 0, 1) := by decide +kernel
theorem dX9_addLine_26 : decode cX9_addLine 26 = .ok (.iload_n 1, 1) := by decide +kernel
theorem dX9_addLine_27 : decode cX9_addLine 27 = .ok (.iload_n 2, 1) := by decide +kernel
theorem dX9_addLine_28 : decode cX9_addLine 28 = .ok (.iload_n 3, 1) := by decide +kernel
theorem dX9_addLine_29 : decode cX9_addLine 29 = .ok (.invokevirtual 55, 3) := by decide +kernel
theorem dX9_addLine_32 : decode cX9_addLine 32 = .ok (.iastore, 1) := by decide +kernel
theorem dX9_addLine_33 : decode cX9_addLine 33 = .ok (.aload_n 0, 1) := by decide +kernel
theorem dX9_addLine_34 : decode cX9_addLine 34 = .ok (.getfield 18, 3) := by decide +kernel
theorem dX9_addLine_37 : decode cX9_addLine 37 = .ok (.aload_n 0, 1) := by decide +kernel
theorem dX9_addLine_38 : decode cX9_addLine 38 = .ok (.getfield 25, 3) := by decide +kernel
theorem dX9_addLine_41 : decode cX9_addLine 41 = .ok (.iload_n 1, 1) := by decide +kernel
theorem dX9_addLine_42 : decode cX9_addLine 42 = .ok (.iconst 1, 1) := by decide +kernel
theorem dX9_addLine_43 : decode cX9_addLine 43 = .ok (.if_icmp .ne 17, 3) := by decide +kernel
theorem dX9_addLine_46 : decode cX9_addLine 46 = .ok (.aload_n 0, 1) := by decide +kernel
theorem dX9_addLine_47 : decode cX9_addLine 47 = .ok (.getfield 21, 3) := by decide +kernel
theorem dX9_addLine_50 : decode cX9_addLine 50 = .ok (.iconst 0, 1) := by decide +kernel
theorem dX9_addLine_51 : decode cX9_addLine 51 = .ok (.sipush 255, 3) := by decide +kernel
theorem dX9_addLine_54 : decode cX9_addLine 54 = .ok (.invokevirtual 59, 3) := by decide +kernel
theorem dX9_addLine_57 : decode cX9_addLine 57 = .ok (.goto 4, 3) := by decide +kernel
theorem dX9_addLine_60 : decode cX9_addLine 60 = .ok (.iconst 0, 1) := by decide +kernel
theorem dX9_addLine_61 : decode cX9_addLine 61 = .ok (.iastore, 1) := by decide +kernel
theorem dX9_addLine_62 : decode cX9_addLine 62 = .ok (.aload_n 0, 1) := by decide +kernel
theorem dX9_addLine_63 : decode cX9_addLine 63 = .ok (.getfield 21, 3) := by decide +kernel
theorem dX9_addLine_66 : decode cX9_addLine 66 = .ok (.bipush 59, 2) := by decide +kernel
theorem dX9_addLine_68 : decode cX9_addLine 68 = .ok (.invokevirtual 63, 3) := by decide +kernel
theorem dX9_addLine_71 : decode cX9_addLine 71 = .ok (.aload_n 0, 1) := by decide +kernel
theorem dX9_addLine_72 : decode cX9_addLine 72 = .ok (.dup, 1) := by decide +kernel
theorem dX9_addLine_73 : decode cX9_addLine 73 = .ok (.getfield 25, 3) := by decide +kernel
theorem dX9_addLine_76 : decode cX9_addLine 76 = .ok (.iconst 1, 1) := by decide +kernel
theorem dX9_addLine_77 : decode cX9_addLine 77 = .ok (.iadd, 1) := by decide +kernel
theorem dX9_addLine_78 : decode cX9_addLine 78 = .ok (.putfield 25, 3) := by decide +kernel
theorem dX9_addLine_81 : decode cX9_addLine 81 = .ok (.return_, 1) := by decide +kernel
theorem dX9_objectOf_0 : decode cX9_objectOf 0 = .ok (.iload_n 1, 1) := by decide +kernel
theorem dX9_objectOf_1 : decode cX9_objectOf 1 = .ok (.tableswitch 55 0 3 #[31, 31, 43, 43], 31) := by decide +kernel
theorem dX9_objectOf_32 : decode cX9_objectOf 32 = .ok (.aload_n 0, 1) := by decide +kernel
theorem dX9_objectOf_33 : decode cX9_objectOf 33 = .ok (.getfield 21, 3) := by decide +kernel
theorem dX9_objectOf_36 : decode cX9_objectOf 36 = .ok (.iconst 0, 1) := by decide +kernel
theorem dX9_objectOf_37 : decode cX9_objectOf 37 = .ok (.iload_n 2, 1) := by decide +kernel
theorem dX9_objectOf_38 : decode cX9_objectOf 38 = .ok (.iconst 1, 1) := by decide +kernel
theorem dX9_objectOf_39 : decode cX9_objectOf 39 = .ok (.isub, 1) := by decide +kernel
theorem dX9_objectOf_40 : decode cX9_objectOf 40 = .ok (.invokevirtual 59, 3) := by decide +kernel
theorem dX9_objectOf_43 : decode cX9_objectOf 43 = .ok (.ireturn, 1) := by decide +kernel
theorem dX9_objectOf_44 : decode cX9_objectOf 44 = .ok (.aload_n 0, 1) := by decide +kernel
theorem dX9_objectOf_45 : decode cX9_objectOf 45 = .ok (.getfield 21, 3) := by decide +kernel
theorem dX9_objectOf_48 : decode cX9_objectOf 48 = .ok (.iconst 0, 1) := by decide +kernel
theorem dX9_objectOf_49 : decode cX9_objectOf 49 = .ok (.iload_n 3, 1) := by decide +kernel
theorem dX9_objectOf_50 : decode cX9_objectOf 50 = .ok (.iconst 1, 1) := by decide +kernel
theorem dX9_objectOf_51 : decode cX9_objectOf 51 = .ok (.isub, 1) := by decide +kernel
theorem dX9_objectOf_52 : decode cX9_objectOf 52 = .ok (.invokevirtual 59, 3) := by decide +kernel
theorem dX9_objectOf_55 : decode cX9_objectOf 55 = .ok (.ireturn, 1) := by decide +kernel
theorem dX9_objectOf_56 : decode cX9_objectOf 56 = .ok (.aload_n 0, 1) := by decide +kernel
theorem dX9_objectOf_57 : decode cX9_objectOf 57 = .ok (.getfield 21, 3) := by decide +kernel
theorem dX9_objectOf_60 : decode cX9_objectOf 60 = .ok (.iconst 1, 1) := by decide +kernel
theorem dX9_objectOf_61 : decode cX9_objectOf 61 = .ok (.bipush 40, 2) := by decide +kernel
theorem dX9_objectOf_63 : decode cX9_objectOf 63 = .ok (.invokevirtual 59, 3) := by decide +kernel
theorem dX9_objectOf_66 : decode cX9_objectOf 66 = .ok (.ireturn, 1) := by decide +kernel
theorem dX9_verbInHand_0 : decode cX9_verbInHand 0 = .ok (.aload_n 0, 1) := by decide +kernel
theorem dX9_verbInHand_1 : decode cX9_verbInHand 1 = .ok (.getfield 21, 3) := by decide +kernel
theorem dX9_verbInHand_4 : decode cX9_verbInHand 4 = .ok (.ldc 67, 2) := by decide +kernel
theorem dX9_verbInHand_6 : decode cX9_verbInHand 6 = .ok (.invokevirtual 69, 3) := by decide +kernel
theorem dX9_verbInHand_9 : decode cX9_verbInHand 9 = .ok (.ifCond .eq 5, 3) := by decide +kernel
theorem dX9_verbInHand_12 : decode cX9_verbInHand 12 = .ok (.iconst 0, 1) := by decide +kernel
theorem dX9_verbInHand_13 : decode cX9_verbInHand 13 = .ok (.ireturn, 1) := by decide +kernel
theorem dX9_verbInHand_14 : decode cX9_verbInHand 14 = .ok (.aload_n 0, 1) := by decide +kernel
theorem dX9_verbInHand_15 : decode cX9_verbInHand 15 = .ok (.getfield 21, 3) := by decide +kernel
theorem dX9_verbInHand_18 : decode cX9_verbInHand 18 = .ok (.ldc 73, 2) := by decide +kernel
theorem dX9_verbInHand_20 : decode cX9_verbInHand 20 = .ok (.invokevirtual 69, 3) := by decide +kernel
theorem dX9_verbInHand_23 : decode cX9_verbInHand 23 = .ok (.ifCond .eq 5, 3) := by decide +kernel
theorem dX9_verbInHand_26 : decode cX9_verbInHand 26 = .ok (.iconst 1, 1) := by decide +kernel
theorem dX9_verbInHand_27 : decode cX9_verbInHand 27 = .ok (.ireturn, 1) := by decide +kernel
theorem dX9_verbInHand_28 : decode cX9_verbInHand 28 = .ok (.aload_n 0, 1) := by decide +kernel
theorem dX9_verbInHand_29 : decode cX9_verbInHand 29 = .ok (.getfield 21, 3) := by decide +kernel
theorem dX9_verbInHand_32 : decode cX9_verbInHand 32 = .ok (.ldc 75, 2) := by decide +kernel
theorem dX9_verbInHand_34 : decode cX9_verbInHand 34 = .ok (.invokevirtual 69, 3) := by decide +kernel
theorem dX9_verbInHand_37 : decode cX9_verbInHand 37 = .ok (.ifCond .eq 5, 3) := by decide +kernel
theorem dX9_verbInHand_40 : decode cX9_verbInHand 40 = .ok (.iconst 2, 1) := by decide +kernel
theorem dX9_verbInHand_41 : decode cX9_verbInHand 41 = .ok (.ireturn, 1) := by decide +kernel
theorem dX9_verbInHand_42 : decode cX9_verbInHand 42 = .ok (.aload_n 0, 1) := by decide +kernel
theorem dX9_verbInHand_43 : decode cX9_verbInHand 43 = .ok (.getfield 21, 3) := by decide +kernel
theorem dX9_verbInHand_46 : decode cX9_verbInHand 46 = .ok (.ldc 77, 2) := by decide +kernel
theorem dX9_verbInHand_48 : decode cX9_verbInHand 48 = .ok (.invokevirtual 69, 3) := by decide +kernel
theorem dX9_verbInHand_51 : decode cX9_verbInHand 51 = .ok (.ifCond .eq 5, 3) := by decide +kernel
theorem dX9_verbInHand_54 : decode cX9_verbInHand 54 = .ok (.iconst 3, 1) := by decide +kernel
theorem dX9_verbInHand_55 : decode cX9_verbInHand 55 = .ok (.ireturn, 1) := by decide +kernel
theorem dX9_verbInHand_56 : decode cX9_verbInHand 56 = .ok (.aload_n 0, 1) := by decide +kernel
theorem dX9_verbInHand_57 : decode cX9_verbInHand 57 = .ok (.getfield 21, 3) := by decide +kernel
theorem dX9_verbInHand_60 : decode cX9_verbInHand 60 = .ok (.ldc 79, 2) := by decide +kernel
theorem dX9_verbInHand_62 : decode cX9_verbInHand 62 = .ok (.invokevirtual 69, 3) := by decide +kernel
theorem dX9_verbInHand_65 : decode cX9_verbInHand 65 = .ok (.ifCond .eq 5, 3) := by decide +kernel
theorem dX9_verbInHand_68 : decode cX9_verbInHand 68 = .ok (.iconst 4, 1) := by decide +kernel
theorem dX9_verbInHand_69 : decode cX9_verbInHand 69 = .ok (.ireturn, 1) := by decide +kernel
theorem dX9_verbInHand_70 : decode cX9_verbInHand 70 = .ok (.aload_n 0, 1) := by decide +kernel
theorem dX9_verbInHand_71 : decode cX9_verbInHand 71 = .ok (.getfield 21, 3) := by decide +kernel
theorem dX9_verbInHand_74 : decode cX9_verbInHand 74 = .ok (.ldc 81, 2) := by decide +kernel
theorem dX9_verbInHand_76 : decode cX9_verbInHand 76 = .ok (.invokevirtual 69, 3) := by decide +kernel
theorem dX9_verbInHand_79 : decode cX9_verbInHand 79 = .ok (.ifCond .eq 7, 3) := by decide +kernel
theorem dX9_verbInHand_82 : decode cX9_verbInHand 82 = .ok (.iconst 5, 1) := by decide +kernel
theorem dX9_verbInHand_83 : decode cX9_verbInHand 83 = .ok (.goto 4, 3) := by decide +kernel
theorem dX9_verbInHand_86 : decode cX9_verbInHand 86 = .ok (.iconst (-1), 1) := by decide +kernel
theorem dX9_verbInHand_87 : decode cX9_verbInHand 87 = .ok (.ireturn, 1) := by decide +kernel
theorem dX10_init_0 : decode cX10_init 0 = .ok (.aload_n 0, 1) := by decide +kernel
theorem dX10_init_1 : decode cX10_init 1 = .ok (.invokespecial 3, 3) := by decide +kernel
theorem dX10_init_4 : decode cX10_init 4 = .ok (.aload_n 0, 1) := by decide +kernel
theorem dX10_init_5 : decode cX10_init 5 = .ok (.new 9, 3) := by decide +kernel
theorem dX10_init_8 : decode cX10_init 8 = .ok (.dup, 1) := by decide +kernel
theorem dX10_init_9 : decode cX10_init 9 = .ok (.invokespecial 11, 3) := by decide +kernel
theorem dX10_init_12 : decode cX10_init 12 = .ok (.putfield 12, 3) := by decide +kernel
theorem dX10_init_15 : decode cX10_init 15 = .ok (.aload_n 0, 1) := by decide +kernel
theorem dX10_init_16 : decode cX10_init 16 = .ok (.new 16, 3) := by decide +kernel
theorem dX10_init_19 : decode cX10_init 19 = .ok (.dup, 1) := by decide +kernel
theorem dX10_init_20 : decode cX10_init 20 = .ok (.invokespecial 18, 3) := by decide +kernel
theorem dX10_init_23 : decode cX10_init 23 = .ok (.putfield 19, 3) := by decide +kernel
theorem dX10_init_26 : decode cX10_init 26 = .ok (.aload_n 0, 1) := by decide +kernel
theorem dX10_init_27 : decode cX10_init 27 = .ok (.new 16, 3) := by decide +kernel
theorem dX10_init_30 : decode cX10_init 30 = .ok (.dup, 1) := by decide +kernel
theorem dX10_init_31 : decode cX10_init 31 = .ok (.invokespecial 18, 3) := by decide +kernel
theorem dX10_init_34 : decode cX10_init 34 = .ok (.putfield 23, 3) := by decide +kernel
theorem dX10_init_37 : decode cX10_init 37 = .ok (.aload_n 0, 1) := by decide +kernel
theorem dX10_init_38 : decode cX10_init 38 = .ok (.new 26, 3) := by decide +kernel
theorem dX10_init_41 : decode cX10_init 41 = .ok (.dup, 1) := by decide +kernel
theorem dX10_init_42 : decode cX10_init 42 = .ok (.aload_n 0, 1) := by decide +kernel
theorem dX10_init_43 : decode cX10_init 43 = .ok (.getfield 12, 3) := by decide +kernel
theorem dX10_init_46 : decode cX10_init 46 = .ok (.aload_n 0, 1) := by decide +kernel
theorem dX10_init_47 : decode cX10_init 47 = .ok (.getfield 23, 3) := by decide +kernel
theorem dX10_init_50 : decode cX10_init 50 = .ok (.invokespecial 28, 3) := by decide +kernel
theorem dX10_init_53 : decode cX10_init 53 = .ok (.putfield 31, 3) := by decide +kernel
theorem dX10_init_56 : decode cX10_init 56 = .ok (.aload_n 0, 1) := by decide +kernel
theorem dX10_init_57 : decode cX10_init 57 = .ok (.new 35, 3) := by decide +kernel
theorem dX10_init_60 : decode cX10_init 60 = .ok (.dup, 1) := by decide +kernel
theorem dX10_init_61 : decode cX10_init 61 = .ok (.aload_n 0, 1) := by decide +kernel
theorem dX10_init_62 : decode cX10_init 62 = .ok (.getfield 12, 3) := by decide +kernel
theorem dX10_init_65 : decode cX10_init 65 = .ok (.invokespecial 37, 3) := by decide +kernel
theorem dX10_init_68 : decode cX10_init 68 = .ok (.putfield 40, 3) := by decide +kernel
theorem dX10_init_71 : decode cX10_init 71 = .ok (.aload_n 0, 1) := by decide +kernel
theorem dX10_init_72 : decode cX10_init 72 = .ok (.new 35, 3) := by decide +kernel
theorem dX10_init_75 : decode cX10_init 75 = .ok (.dup, 1) := by decide +kernel
theorem dX10_init_76 : decode cX10_init 76 = .ok (.aload_n 0, 1) := by decide +kernel
theorem dX10_init_77 : decode cX10_init 77 = .ok (.getfield 12, 3) := by decide +kernel
theorem dX10_init_80 : decode cX10_init 80 = .ok (.invokespecial 37, 3) := by decide +kernel
theorem dX10_init_83 : decode cX10_init 83 = .ok (.putfield 44, 3) := by decide +kernel
theorem dX10_init_86 : decode cX10_init 86 = .ok (.aload_n 0, 1) := by decide +kernel
theorem dX10_init_87 : decode cX10_init 87 = .ok (.new 47, 3) := by decide +kernel
theorem dX10_init_90 : decode cX10_init 90 = .ok (.dup, 1) := by decide +kernel
theorem dX10_init_91 : decode cX10_init 91 = .ok (.invokespecial 49, 3) := by decide +kernel
theorem dX10_init_94 : decode cX10_init 94 = .ok (.putfield 50, 3) := by decide +kernel
theorem dX10_init_97 : decode cX10_init 97 = .ok (.aload_n 0, 1) := by decide +kernel
theorem dX10_init_98 : decode cX10_init 98 = .ok (.new 47, 3) := by decide +kernel
theorem dX10_init_101 : decode cX10_init 101 = .ok (.dup, 1) := by decide +kernel
theorem dX10_init_102 : decode cX10_init 102 = .ok (.invokespecial 49, 3) := by decide +kernel
theorem dX10_init_105 : decode cX10_init 105 = .ok (.putfield 54, 3) := by decide +kernel
theorem dX10_init_108 : decode cX10_init 108 = .ok (.aload_n 0, 1) := by decide +kernel
theorem dX10_init_109 : decode cX10_init 109 = .ok (.new 57, 3) := by decide +kernel
theorem dX10_init_112 : decode cX10_init 112 = .ok (.dup, 1) := by decide +kernel
theorem dX10_init_113 : decode cX10_init 113 = .ok (.aload_n 0, 1) := by decide +kernel
theorem dX10_init_114 : decode cX10_init 114 = .ok (.getfield 50, 3) := by decide +kernel
theorem dX10_init_117 : decode cX10_init 117 = .ok (.invokespecial 59, 3) := by decide +kernel
theorem dX10_init_120 : decode cX10_init 120 = .ok (.putfield 62, 3) := by decide +kernel
theorem dX10_init_123 : decode cX10_init 123 = .ok (.aload_n 0, 1) := by decide +kernel
theorem dX10_init_124 : decode cX10_init 124 = .ok (.new 57, 3) := by decide +kernel
theorem dX10_init_127 : decode cX10_init 127 = .ok (.dup, 1) := by decide +kernel
theorem dX10_init_128 : decode cX10_init 128 = .ok (.aload_n 0, 1) := by decide +kernel
theorem dX10_init_129 : decode cX10_init 129 = .ok (.getfield 50, 3) := by decide +kernel
theorem dX10_init_132 : decode cX10_init 132 = .ok (.invokespecial 59, 3) := by decide +kernel
theorem dX10_init_135 : decode cX10_init 135 = .ok (.putfield 66, 3) := by decide +kernel
theorem dX10_init_138 : decode cX10_init 138 = .ok (.aload_n 0, 1) := by decide +kernel
theorem dX10_init_139 : decode cX10_init 139 = .ok (.iconst 2, 1) := by decide +kernel
theorem dX10_init_140 : decode cX10_init 140 = .ok (.anewarray 57, 3) := by decide +kernel
theorem dX10_init_143 : decode cX10_init 143 = .ok (.dup, 1) := by decide +kernel
theorem dX10_init_144 : decode cX10_init 144 = .ok (.iconst 0, 1) := by decide +kernel
theorem dX10_init_145 : decode cX10_init 145 = .ok (.new 57, 3) := by decide +kernel
theorem dX10_init_148 : decode cX10_init 148 = .ok (.dup, 1) := by decide +kernel
theorem dX10_init_149 : decode cX10_init 149 = .ok (.aload_n 0, 1) := by decide +kernel
theorem dX10_init_150 : decode cX10_init 150 = .ok (.getfield 50, 3) := by decide +kernel
theorem dX10_init_153 : decode cX10_init 153 = .ok (.invokespecial 59, 3) := by decide +kernel
theorem dX10_init_156 : decode cX10_init 156 = .ok (.aastore, 1) := by decide +kernel
theorem dX10_init_157 : decode cX10_init 157 = .ok (.dup, 1) := by decide +kernel
theorem dX10_init_158 : decode cX10_init 158 = .ok (.iconst 1, 1) := by decide +kernel
theorem dX10_init_159 : decode cX10_init 159 = .ok (.new 57, 3) := by decide +kernel
theorem dX10_init_162 : decode cX10_init 162 = .ok (.dup, 1) := by decide +kernel
theorem dX10_init_163 : decode cX10_init 163 = .ok (.aload_n 0, 1) := by decide +kernel
theorem dX10_init_164 : decode cX10_init 164 = .ok (.getfield 50, 3) := by decide +kernel
theorem dX10_init_167 : decode cX10_init 167 = .ok (.invokespecial 59, 3) := by decide +kernel
theorem dX10_init_170 : decode cX10_init 170 = .ok (.aastore, 1) := by decide +kernel
theorem dX10_init_171 : decode cX10_init 171 = .ok (.putfield 69, 3) := by decide +kernel
theorem dX10_init_174 : decode cX10_init 174 = .ok (.aload_n 0, 1) := by decide +kernel
theorem dX10_init_175 : decode cX10_init 175 = .ok (.iconst 2, 1) := by decide +kernel
theorem dX10_init_176 : decode cX10_init 176 = .ok (.newarray .boolean, 2) := by decide +kernel
theorem dX10_init_178 : decode cX10_init 178 = .ok (.putfield 73, 3) := by decide +kernel
theorem dX10_init_181 : decode cX10_init 181 = .ok (.aload_n 0, 1) := by decide +kernel
theorem dX10_init_182 : decode cX10_init 182 = .ok (.new 77, 3) := by decide +kernel
theorem dX10_init_185 : decode cX10_init 185 = .ok (.dup, 1) := by decide +kernel
theorem dX10_init_186 : decode cX10_init 186 = .ok (.aload_n 0, 1) := by decide +kernel
theorem dX10_init_187 : decode cX10_init 187 = .ok (.getfield 62, 3) := by decide +kernel
theorem dX10_init_190 : decode cX10_init 190 = .ok (.aload_n 0, 1) := by decide +kernel
theorem dX10_init_191 : decode cX10_init 191 = .ok (.getfield 50, 3) := by decide +kernel
theorem dX10_init_194 : decode cX10_init 194 = .ok (.invokespecial 79, 3) := by decide +kernel
theorem dX10_init_197 : decode cX10_init 197 = .ok (.putfield 82, 3) := by decide +kernel
theorem dX10_init_200 : decode cX10_init 200 = .ok (.return_, 1) := by decide +kernel
theorem dX10_feed_0 : decode cX10_feed 0 = .ok (.aload_n 0, 1) := by decide +kernel
theorem dX10_feed_1 : decode cX10_feed 1 = .ok (.getfield 12, 3) := by decide +kernel
theorem dX10_feed_4 : decode cX10_feed 4 = .ok (.lload_n 1, 1) := by decide +kernel
theorem dX10_feed_5 : decode cX10_feed 5 = .ok (.invokevirtual 86, 3) := by decide +kernel
theorem dX10_feed_8 : decode cX10_feed 8 = .ok (.aload_n 0, 1) := by decide +kernel
theorem dX10_feed_9 : decode cX10_feed 9 = .ok (.getfield 12, 3) := by decide +kernel
theorem dX10_feed_12 : decode cX10_feed 12 = .ok (.lload_n 3, 1) := by decide +kernel
theorem dX10_feed_13 : decode cX10_feed 13 = .ok (.invokevirtual 86, 3) := by decide +kernel
theorem dX10_feed_16 : decode cX10_feed 16 = .ok (.aload_n 0, 1) := by decide +kernel
theorem dX10_feed_17 : decode cX10_feed 17 = .ok (.getfield 12, 3) := by decide +kernel
theorem dX10_feed_20 : decode cX10_feed 20 = .ok (.lload 5, 2) := by decide +kernel
theorem dX10_feed_22 : decode cX10_feed 22 = .ok (.invokevirtual 86, 3) := by decide +kernel
theorem dX10_feed_25 : decode cX10_feed 25 = .ok (.aload_n 0, 1) := by decide +kernel
theorem dX10_feed_26 : decode cX10_feed 26 = .ok (.getfield 12, 3) := by decide +kernel
theorem dX10_feed_29 : decode cX10_feed 29 = .ok (.getfield 90, 3) := by decide +kernel
theorem dX10_feed_32 : decode cX10_feed 32 = .ok (.ireturn, 1) := by decide +kernel
theorem dX10_array_0 : decode cX10_array 0 = .ok (.aload_n 0, 1) := by decide +kernel
theorem dX10_array_1 : decode cX10_array 1 = .ok (.getfield 31, 3) := by decide +kernel
theorem dX10_array_4 : decode cX10_array 4 = .ok (.aload_n 0, 1) := by decide +kernel
theorem dX10_array_5 : decode cX10_array 5 = .ok (.getfield 23, 3) := by decide +kernel
theorem dX10_array_8 : decode cX10_array 8 = .ok (.invokevirtual 94, 3) := by decide +kernel
theorem dX10_array_11 : decode cX10_array 11 = .ok (.istore_n 1, 1) := by decide +kernel
theorem dX10_array_12 : decode cX10_array 12 = .ok (.aload_n 0, 1) := by decide +kernel
theorem dX10_array_13 : decode cX10_array 13 = .ok (.getfield 12, 3) := by decide +kernel
theorem dX10_array_16 : decode cX10_array 16 = .ok (.iconst 0, 1) := by decide +kernel
theorem dX10_array_17 : decode cX10_array 17 = .ok (.putfield 90, 3) := by decide +kernel
theorem dX10_array_20 : decode cX10_array 20 = .ok (.iload_n 1, 1) := by decide +kernel
theorem dX10_array_21 : decode cX10_array 21 = .ok (.ifCond .eq 5, 3) := by decide +kernel
theorem dX10_array_24 : decode cX10_array 24 = .ok (.iload_n 1, 1) := by decide +kernel
theorem dX10_array_25 : decode cX10_array 25 = .ok (.ireturn, 1) := by decide +kernel
theorem dX10_array_26 : decode cX10_array 26 = .ok (.aload_n 0, 1) := by decide +kernel
theorem dX10_array_27 : decode cX10_array 27 = .ok (.getfield 19, 3) := by decide +kernel
theorem dX10_array_30 : decode cX10_array 30 = .ok (.astore_n 2, 1) := by decide +kernel
theorem dX10_array_31 : decode cX10_array 31 = .ok (.aload_n 0, 1) := by decide +kernel
theorem dX10_array_32 : decode cX10_array 32 = .ok (.aload_n 0, 1) := by decide +kernel
theorem dX10_array_33 : decode cX10_array 33 = .ok (.getfield 23, 3) := by decide +kernel
theorem dX10_array_36 : decode cX10_array 36 = .ok (.putfield 19, 3) := by decide +kernel
theorem dX10_array_39 : decode cX10_array 39 = .ok (.aload_n 0, 1) := by decide +kernel
theorem dX10_array_40 : decode cX10_array 40 = .ok (.aload_n 2, 1) := by decide +kernel
theorem dX10_array_41 : decode cX10_array 41 = .ok (.putfield 23, 3) := by decide +kernel
theorem dX10_array_44 : decode cX10_array 44 = .ok (.aload_n 0, 1) := by decide +kernel
theorem dX10_array_45 : decode cX10_array 45 = .ok (.getfield 50, 3) := by decide +kernel
theorem dX10_array_48 : decode cX10_array 48 = .ok (.aload_n 0, 1) := by decide +kernel
theorem dX10_array_49 : decode cX10_array 49 = .ok (.getfield 19, 3) := by decide +kernel
theorem dX10_array_52 : decode cX10_array 52 = .ok (.aload_n 0, 1) := by decide +kernel
theorem dX10_array_53 : decode cX10_array 53 = .ok (.getfield 19, 3) := by decide +kernel
theorem dX10_array_56 : decode cX10_array 56 = .ok (.getfield 98, 3) := by decide +kernel
theorem dX10_array_59 : decode cX10_array 59 = .ok (.invokevirtual 101, 3) := by decide +kernel
theorem dX10_array_62 : decode cX10_array 62 = .ok (.pop, 1) := by decide +kernel
theorem dX10_array_63 : decode cX10_array 63 = .ok (.aload_n 0, 1) := by decide +kernel
theorem dX10_array_64 : decode cX10_array 64 = .ok (.getfield 40, 3) := by decide +kernel
theorem dX10_array_67 : decode cX10_array 67 = .ok (.iconst 0, 1) := by decide +kernel
theorem dX10_array_68 : decode cX10_array 68 = .ok (.putfield 105, 3) := by decide +kernel
theorem dX10_array_71 : decode cX10_array 71 = .ok (.aload_n 0, 1) := by decide +kernel
theorem dX10_array_72 : decode cX10_array 72 = .ok (.getfield 62, 3) := by decide +kernel
theorem dX10_array_75 : decode cX10_array 75 = .ok (.invokevirtual 106, 3) := by decide +kernel
theorem dX10_array_78 : decode cX10_array 78 = .ok (.iconst 0, 1) := by decide +kernel
theorem dX10_array_79 : decode cX10_array 79 = .ok (.istore_n 3, 1) := by decide +kernel
theorem dX10_array_80 : decode cX10_array 80 = .ok (.iload_n 3, 1) := by decide +kernel
theorem dX10_array_81 : decode cX10_array 81 = .ok (.iconst 2, 1) := by decide +kernel
theorem dX10_array_82 : decode cX10_array 82 = .ok (.if_icmp .ge 16, 3) := by decide +kernel
theorem dX10_array_85 : decode cX10_array 85 = .ok (.aload_n 0, 1) := by decide +kernel
theorem dX10_array_86 : decode cX10_array 86 = .ok (.getfield 73, 3) := by decide +kernel
theorem dX10_array_89 : decode cX10_array 89 = .ok (.iload_n 3, 1) := by decide +kernel
theorem dX10_array_90 : decode cX10_array 90 = .ok (.iconst 0, 1) := by decide +kernel
theorem dX10_array_91 : decode cX10_array 91 = .ok (.bastore, 1) := by decide +kernel
theorem dX10_array_92 : decode cX10_array 92 = .ok (.iinc 3 1, 3) := by decide +kernel
theorem dX10_array_95 : decode cX10_array 95 = .ok (.goto (-15), 3) := by decide +kernel
theorem dX10_array_98 : decode cX10_array 98 = .ok (.iconst 0, 1) := by decide +kernel
theorem dX10_array_99 : decode cX10_array 99 = .ok (.ireturn, 1) := by decide +kernel
theorem dX10_work_0 : decode cX10_work 0 = .ok (.aload_n 0, 1) := by decide +kernel
theorem dX10_work_1 : decode cX10_work 1 = .ok (.getfield 44, 3) := by decide +kernel
theorem dX10_work_4 : decode cX10_work 4 = .ok (.aload_n 0, 1) := by decide +kernel
theorem dX10_work_5 : decode cX10_work 5 = .ok (.getfield 50, 3) := by decide +kernel
theorem dX10_work_8 : decode cX10_work 8 = .ok (.getfield 109, 3) := by decide +kernel
theorem dX10_work_11 : decode cX10_work 11 = .ok (.aload_n 0, 1) := by decide +kernel
theorem dX10_work_12 : decode cX10_work 12 = .ok (.getfield 50, 3) := by decide +kernel
theorem dX10_work_15 : decode cX10_work 15 = .ok (.getfield 112, 3) := by decide +kernel
theorem dX10_work_18 : decode cX10_work 18 = .ok (.invokevirtual 113, 3) := by decide +kernel
theorem dX10_work_21 : decode cX10_work 21 = .ok (.istore_n 1, 1) := by decide +kernel
theorem dX10_work_22 : decode cX10_work 22 = .ok (.aload_n 0, 1) := by decide +kernel
theorem dX10_work_23 : decode cX10_work 23 = .ok (.getfield 12, 3) := by decide +kernel
theorem dX10_work_26 : decode cX10_work 26 = .ok (.iconst 0, 1) := by decide +kernel
theorem dX10_work_27 : decode cX10_work 27 = .ok (.putfield 90, 3) := by decide +kernel
theorem dX10_work_30 : decode cX10_work 30 = .ok (.iload_n 1, 1) := by decide +kernel
theorem dX10_work_31 : decode cX10_work 31 = .ok (.ifCond .eq 5, 3) := by decide +kernel
theorem dX10_work_34 : decode cX10_work 34 = .ok (.iload_n 1, 1) := by decide +kernel
theorem dX10_work_35 : decode cX10_work 35 = .ok (.ireturn, 1) := by decide +kernel
theorem dX10_work_36 : decode cX10_work 36 = .ok (.aload_n 0, 1) := by decide +kernel
theorem dX10_work_37 : decode cX10_work 37 = .ok (.getfield 40, 3) := by decide +kernel
theorem dX10_work_40 : decode cX10_work 40 = .ok (.astore_n 2, 1) := by decide +kernel
theorem dX10_work_41 : decode cX10_work 41 = .ok (.aload_n 0, 1) := by decide +kernel
theorem dX10_work_42 : decode cX10_work 42 = .ok (.aload_n 0, 1) := by decide +kernel
theorem dX10_work_43 : decode cX10_work 43 = .ok (.getfield 44, 3) := by decide +kernel
theorem dX10_work_46 : decode cX10_work 46 = .ok (.putfield 40, 3) := by decide +kernel
theorem dX10_work_49 : decode cX10_work 49 = .ok (.aload_n 0, 1) := by decide +kernel
theorem dX10_work_50 : decode cX10_work 50 = .ok (.aload_n 2, 1) := by decide +kernel
theorem dX10_work_51 : decode cX10_work 51 = .ok (.putfield 44, 3) := by decide +kernel
theorem dX10_work_54 : decode cX10_work 54 = .ok (.iconst 0, 1) := by decide +kernel
theorem dX10_work_55 : decode cX10_work 55 = .ok (.ireturn, 1) := by decide +kernel
theorem dX10_stripe_0 : decode cX10_stripe 0 = .ok (.aload_n 0, 1) := by decide +kernel
theorem dX10_stripe_1 : decode cX10_stripe 1 = .ok (.iload_n 1, 1) := by decide +kernel
theorem dX10_stripe_2 : decode cX10_stripe 2 = .ok (.invokevirtual 116, 3) := by decide +kernel
theorem dX10_stripe_5 : decode cX10_stripe 5 = .ok (.ifCond .ne 6, 3) := by decide +kernel
theorem dX10_stripe_8 : decode cX10_stripe 8 = .ok (.bipush (-2), 2) := by decide +kernel
theorem dX10_stripe_10 : decode cX10_stripe 10 = .ok (.ireturn, 1) := by decide +kernel
theorem dX10_stripe_11 : decode cX10_stripe 11 = .ok (.iload_n 2, 1) := by decide +kernel
theorem dX10_stripe_12 : decode cX10_stripe 12 = .ok (.tableswitch 98 0 5 #[40, 50, 60, 70, 80, 89], 40) := by decide +kernel
theorem dX10_stripe_52 : decode cX10_stripe 52 = .ok (.aload_n 0, 1) := by decide +kernel
theorem dX10_stripe_53 : decode cX10_stripe 53 = .ok (.getfield 50, 3) := by decide +kernel
theorem dX10_stripe_56 : decode cX10_stripe 56 = .ok (.getfield 120, 3) := by decide +kernel
theorem dX10_stripe_59 : decode cX10_stripe 59 = .ok (.iload_n 1, 1) := by decide +kernel
theorem dX10_stripe_60 : decode cX10_stripe 60 = .ok (.iaload, 1) := by decide +kernel
theorem dX10_stripe_61 : decode cX10_stripe 61 = .ok (.ireturn, 1) := by decide +kernel
theorem dX10_stripe_62 : decode cX10_stripe 62 = .ok (.aload_n 0, 1) := by decide +kernel
theorem dX10_stripe_63 : decode cX10_stripe 63 = .ok (.getfield 50, 3) := by decide +kernel
theorem dX10_stripe_66 : decode cX10_stripe 66 = .ok (.getfield 124, 3) := by decide +kernel
theorem dX10_stripe_69 : decode cX10_stripe 69 = .ok (.iload_n 1, 1) := by decide +kernel
theorem dX10_stripe_70 : decode cX10_stripe 70 = .ok (.iaload, 1) := by decide +kernel
theorem dX10_stripe_71 : decode cX10_stripe 71 = .ok (.ireturn, 1) := by decide +kernel
theorem dX10_stripe_72 : decode cX10_stripe 72 = .ok (.aload_n 0, 1) := by decide +kernel
theorem dX10_stripe_73 : decode cX10_stripe 73 = .ok (.getfield 50, 3) := by decide +kernel
theorem dX10_stripe_76 : decode cX10_stripe 76 = .ok (.getfield 127, 3) := by decide +kernel
theorem dX10_stripe_79 : decode cX10_stripe 79 = .ok (.iload_n 1, 1) := by decide +kernel
theorem dX10_stripe_80 : decode cX10_stripe 80 = .ok (.iaload, 1) := by decide +kernel
theorem dX10_stripe_81 : decode cX10_stripe 81 = .ok (.ireturn, 1) := by decide +kernel
theorem dX10_stripe_82 : decode cX10_stripe 82 = .ok (.aload_n 0, 1) := by decide +kernel
theorem dX10_stripe_83 : decode cX10_stripe 83 = .ok (.getfield 50, 3) := by decide +kernel
theorem dX10_stripe_86 : decode cX10_stripe 86 = .ok (.getfield 130, 3) := by decide +kernel
theorem dX10_stripe_89 : decode cX10_stripe 89 = .ok (.iload_n 1, 1) := by decide +kernel
theorem dX10_stripe_90 : decode cX10_stripe 90 = .ok (.iaload, 1) := by decide +kernel
theorem dX10_stripe_91 : decode cX10_stripe 91 = .ok (.ireturn, 1) := by decide +kernel
theorem dX10_stripe_92 : decode cX10_stripe 92 = .ok (.aload_n 0, 1) := by decide +kernel
theorem dX10_stripe_93 : decode cX10_stripe 93 = .ok (.getfield 62, 3) := by decide +kernel
theorem dX10_stripe_96 : decode cX10_stripe 96 = .ok (.iload_n 1, 1) := by decide +kernel
theorem dX10_stripe_97 : decode cX10_stripe 97 = .ok (.invokevirtual 133, 3) := by decide +kernel
theorem dX10_stripe_100 : decode cX10_stripe 100 = .ok (.ireturn, 1) := by decide +kernel
theorem dX10_stripe_101 : decode cX10_stripe 101 = .ok (.aload_n 0, 1) := by decide +kernel
theorem dX10_stripe_102 : decode cX10_stripe 102 = .ok (.getfield 62, 3) := by decide +kernel
theorem dX10_stripe_105 : decode cX10_stripe 105 = .ok (.iload_n 1, 1) := by decide +kernel
theorem dX10_stripe_106 : decode cX10_stripe 106 = .ok (.invokevirtual 137, 3) := by decide +kernel
theorem dX10_stripe_109 : decode cX10_stripe 109 = .ok (.ireturn, 1) := by decide +kernel
theorem dX10_stripe_110 : decode cX10_stripe 110 = .ok (.bipush (-2), 2) := by decide +kernel
theorem dX10_stripe_112 : decode cX10_stripe 112 = .ok (.ireturn, 1) := by decide +kernel
theorem dX10_unit_0 : decode cX10_unit 0 = .ok (.aload_n 0, 1) := by decide +kernel
theorem dX10_unit_1 : decode cX10_unit 1 = .ok (.iload_n 1, 1) := by decide +kernel
theorem dX10_unit_2 : decode cX10_unit 2 = .ok (.invokevirtual 116, 3) := by decide +kernel
theorem dX10_unit_5 : decode cX10_unit 5 = .ok (.ifCond .eq 20, 3) := by decide +kernel
theorem dX10_unit_8 : decode cX10_unit 8 = .ok (.iload_n 2, 1) := by decide +kernel
theorem dX10_unit_9 : decode cX10_unit 9 = .ok (.ifCond .lt 16, 3) := by decide +kernel
theorem dX10_unit_12 : decode cX10_unit 12 = .ok (.iload_n 2, 1) := by decide +kernel
theorem dX10_unit_13 : decode cX10_unit 13 = .ok (.aload_n 0, 1) := by decide +kernel
theorem dX10_unit_14 : decode cX10_unit 14 = .ok (.getfield 50, 3) := by decide +kernel
theorem dX10_unit_17 : decode cX10_unit 17 = .ok (.getfield 120, 3) := by decide +kernel
theorem dX10_unit_20 : decode cX10_unit 20 = .ok (.iload_n 1, 1) := by decide +kernel
theorem dX10_unit_21 : decode cX10_unit 21 = .ok (.iaload, 1) := by decide +kernel
theorem dX10_unit_22 : decode cX10_unit 22 = .ok (.if_icmp .lt 6, 3) := by decide +kernel
theorem dX10_unit_25 : decode cX10_unit 25 = .ok (.bipush (-2), 2) := by decide +kernel
theorem dX10_unit_27 : decode cX10_unit 27 = .ok (.ireturn, 1) := by decide +kernel
theorem dX10_unit_28 : decode cX10_unit 28 = .ok (.iload_n 1, 1) := by decide +kernel
theorem dX10_unit_29 : decode cX10_unit 29 = .ok (.iconst 5, 1) := by decide +kernel
theorem dX10_unit_30 : decode cX10_unit 30 = .ok (.imul, 1) := by decide +kernel
theorem dX10_unit_31 : decode cX10_unit 31 = .ok (.iload_n 2, 1) := by decide +kernel
theorem dX10_unit_32 : decode cX10_unit 32 = .ok (.iadd, 1) := by decide +kernel
theorem dX10_unit_33 : decode cX10_unit 33 = .ok (.istore 4, 2) := by decide +kernel
theorem dX10_unit_35 : decode cX10_unit 35 = .ok (.iload_n 3, 1) := by decide +kernel
theorem dX10_unit_36 : decode cX10_unit 36 = .ok (.tableswitch 119 0 4 #[36, 47, 58, 69, 108], 36) := by decide +kernel
theorem dX10_unit_72 : decode cX10_unit 72 = .ok (.aload_n 0, 1) := by decide +kernel
theorem dX10_unit_73 : decode cX10_unit 73 = .ok (.getfield 50, 3) := by decide +kernel
theorem dX10_unit_76 : decode cX10_unit 76 = .ok (.getfield 140, 3) := by decide +kernel
theorem dX10_unit_79 : decode cX10_unit 79 = .ok (.iload 4, 2) := by decide +kernel
theorem dX10_unit_81 : decode cX10_unit 81 = .ok (.iaload, 1) := by decide +kernel
theorem dX10_unit_82 : decode cX10_unit 82 = .ok (.ireturn, 1) := by decide +kernel
theorem dX10_unit_83 : decode cX10_unit 83 = .ok (.aload_n 0, 1) := by decide +kernel
theorem dX10_unit_84 : decode cX10_unit 84 = .ok (.getfield 50, 3) := by decide +kernel
theorem dX10_unit_87 : decode cX10_unit 87 = .ok (.getfield 143, 3) := by decide +kernel
theorem dX10_unit_90 : decode cX10_unit 90 = .ok (.iload 4, 2) := by decide +kernel
theorem dX10_unit_92 : decode cX10_unit 92 = .ok (.iaload, 1) := by decide +kernel
theorem dX10_unit_93 : decode cX10_unit 93 = .ok (.ireturn, 1) := by decide +kernel
theorem dX10_unit_94 : decode cX10_unit 94 = .ok (.aload_n 0, 1) := by decide +kernel
theorem dX10_unit_95 : decode cX10_unit 95 = .ok (.getfield 62, 3) := by decide +kernel
theorem dX10_unit_98 : decode cX10_unit 98 = .ok (.getfield 146, 3) := by decide +kernel
theorem dX10_unit_101 : decode cX10_unit 101 = .ok (.iload 4, 2) := by decide +kernel
theorem dX10_unit_103 : decode cX10_unit 103 = .ok (.iaload, 1) := by decide +kernel
theorem dX10_unit_104 : decode cX10_unit 104 = .ok (.ireturn, 1) := by decide +kernel
theorem dX10_unit_105 : decode cX10_unit 105 = .ok (.aload_n 0, 1) := by decide +kernel
theorem dX10_unit_106 : decode cX10_unit 106 = .ok (.getfield 62, 3) := by decide +kernel
theorem dX10_unit_109 : decode cX10_unit 109 = .ok (.getfield 146, 3) := by decide +kernel
theorem dX10_unit_112 : decode cX10_unit 112 = .ok (.iload 4, 2) := by decide +kernel
theorem dX10_unit_114 : decode cX10_unit 114 = .ok (.iaload, 1) := by decide +kernel
theorem dX10_unit_115 : decode cX10_unit 115 = .ok (.iconst 2, 1) := by decide +kernel
theorem dX10_unit_116 : decode cX10_unit 116 = .ok (.if_icmp .ne 18, 3) := by decide +kernel
theorem dX10_unit_119 : decode cX10_unit 119 = .ok (.aload_n 0, 1) := by decide +kernel
theorem dX10_unit_120 : decode cX10_unit 120 = .ok (.getfield 62, 3) := by decide +kernel
theorem dX10_unit_123 : decode cX10_unit 123 = .ok (.iload_n 1, 1) := by decide +kernel
theorem dX10_unit_124 : decode cX10_unit 124 = .ok (.invokevirtual 149, 3) := by decide +kernel
theorem dX10_unit_127 : decode cX10_unit 127 = .ok (.ifCond .eq 7, 3) := by decide +kernel
theorem dX10_unit_130 : decode cX10_unit 130 = .ok (.iconst (-1), 1) := by decide +kernel
theorem dX10_unit_131 : decode cX10_unit 131 = .ok (.goto 12, 3) := by decide +kernel
theorem dX10_unit_134 : decode cX10_unit 134 = .ok (.aload_n 0, 1) := by decide +kernel
theorem dX10_unit_135 : decode cX10_unit 135 = .ok (.getfield 62, 3) := by decide +kernel
theorem dX10_unit_138 : decode cX10_unit 138 = .ok (.iload 4, 2) := by decide +kernel
theorem dX10_unit_140 : decode cX10_unit 140 = .ok (.invokevirtual 152, 3) := by decide +kernel
theorem dX10_unit_143 : decode cX10_unit 143 = .ok (.ireturn, 1) := by decide +kernel
theorem dX10_unit_144 : decode cX10_unit 144 = .ok (.aload_n 0, 1) := by decide +kernel
theorem dX10_unit_145 : decode cX10_unit 145 = .ok (.getfield 50, 3) := by decide +kernel
theorem dX10_unit_148 : decode cX10_unit 148 = .ok (.getfield 155, 3) := by decide +kernel
theorem dX10_unit_151 : decode cX10_unit 151 = .ok (.iload 4, 2) := by decide +kernel
theorem dX10_unit_153 : decode cX10_unit 153 = .ok (.iaload, 1) := by decide +kernel
theorem dX10_unit_154 : decode cX10_unit 154 = .ok (.ireturn, 1) := by decide +kernel
theorem dX10_unit_155 : decode cX10_unit 155 = .ok (.bipush (-2), 2) := by decide +kernel
theorem dX10_unit_157 : decode cX10_unit 157 = .ok (.ireturn, 1) := by decide +kernel
theorem dX10_datum_0 : decode cX10_datum 0 = .ok (.aload_n 0, 1) := by decide +kernel
theorem dX10_datum_1 : decode cX10_datum 1 = .ok (.iload_n 1, 1) := by decide +kernel
theorem dX10_datum_2 : decode cX10_datum 2 = .ok (.invokevirtual 158, 3) := by decide +kernel
theorem dX10_datum_5 : decode cX10_datum 5 = .ok (.ifCond .ne 6, 3) := by decide +kernel
theorem dX10_datum_8 : decode cX10_datum 8 = .ok (.bipush (-2), 2) := by decide +kernel
theorem dX10_datum_10 : decode cX10_datum 10 = .ok (.ireturn, 1) := by decide +kernel
theorem dX10_datum_11 : decode cX10_datum 11 = .ok (.aload_n 0, 1) := by decide +kernel
theorem dX10_datum_12 : decode cX10_datum 12 = .ok (.getfield 50, 3) := by decide +kernel
theorem dX10_datum_15 : decode cX10_datum 15 = .ok (.getfield 161, 3) := by decide +kernel
theorem dX10_datum_18 : decode cX10_datum 18 = .ok (.iload_n 1, 1) := by decide +kernel
theorem dX10_datum_19 : decode cX10_datum 19 = .ok (.iaload, 1) := by decide +kernel
theorem dX10_datum_20 : decode cX10_datum 20 = .ok (.istore_n 3, 1) := by decide +kernel
theorem dX10_datum_21 : decode cX10_datum 21 = .ok (.iload_n 2, 1) := by decide +kernel
theorem dX10_datum_22 : decode cX10_datum 22 = .ok (.tableswitch 56 0 3 #[30, 34, 38, 47], 30) := by decide +kernel
theorem dX10_datum_52 : decode cX10_datum 52 = .ok (.iload_n 3, 1) := by decide +kernel
theorem dX10_datum_53 : decode cX10_datum 53 = .ok (.iconst 5, 1) := by decide +kernel
theorem dX10_datum_54 : decode cX10_datum 54 = .ok (.idiv, 1) := by decide +kernel
theorem dX10_datum_55 : decode cX10_datum 55 = .ok (.ireturn, 1) := by decide +kernel
theorem dX10_datum_56 : decode cX10_datum 56 = .ok (.iload_n 3, 1) := by decide +kernel
theorem dX10_datum_57 : decode cX10_datum 57 = .ok (.iconst 5, 1) := by decide +kernel
theorem dX10_datum_58 : decode cX10_datum 58 = .ok (.irem, 1) := by decide +kernel
theorem dX10_datum_59 : decode cX10_datum 59 = .ok (.ireturn, 1) := by decide +kernel
theorem dX10_datum_60 : decode cX10_datum 60 = .ok (.aload_n 0, 1) := by decide +kernel
theorem dX10_datum_61 : decode cX10_datum 61 = .ok (.getfield 62, 3) := by decide +kernel
theorem dX10_datum_64 : decode cX10_datum 64 = .ok (.iload_n 3, 1) := by decide +kernel
theorem dX10_datum_65 : decode cX10_datum 65 = .ok (.invokevirtual 164, 3) := by decide +kernel
theorem dX10_datum_68 : decode cX10_datum 68 = .ok (.ireturn, 1) := by decide +kernel
theorem dX10_datum_69 : decode cX10_datum 69 = .ok (.aload_n 0, 1) := by decide +kernel
theorem dX10_datum_70 : decode cX10_datum 70 = .ok (.getfield 62, 3) := by decide +kernel
theorem dX10_datum_73 : decode cX10_datum 73 = .ok (.iload_n 3, 1) := by decide +kernel
theorem dX10_datum_74 : decode cX10_datum 74 = .ok (.invokevirtual 167, 3) := by decide +kernel
theorem dX10_datum_77 : decode cX10_datum 77 = .ok (.ireturn, 1) := by decide +kernel
theorem dX10_datum_78 : decode cX10_datum 78 = .ok (.bipush (-2), 2) := by decide +kernel
theorem dX10_datum_80 : decode cX10_datum 80 = .ok (.ireturn, 1) := by decide +kernel
theorem dX10_at_0 : decode cX10_at 0 = .ok (.aload_n 0, 1) := by decide +kernel
theorem dX10_at_1 : decode cX10_at 1 = .ok (.iload_n 1, 1) := by decide +kernel
theorem dX10_at_2 : decode cX10_at 2 = .ok (.invokevirtual 170, 3) := by decide +kernel
theorem dX10_at_5 : decode cX10_at 5 = .ok (.ifCond .eq 15, 3) := by decide +kernel
theorem dX10_at_8 : decode cX10_at 8 = .ok (.aload_n 0, 1) := by decide +kernel
theorem dX10_at_9 : decode cX10_at 9 = .ok (.getfield 50, 3) := by decide +kernel
theorem dX10_at_12 : decode cX10_at 12 = .ok (.iload_n 1, 1) := by decide +kernel
theorem dX10_at_13 : decode cX10_at 13 = .ok (.iload_n 2, 1) := by decide +kernel
theorem dX10_at_14 : decode cX10_at 14 = .ok (.invokevirtual 173, 3) := by decide +kernel
theorem dX10_at_17 : decode cX10_at 17 = .ok (.goto 4, 3) := by decide +kernel
theorem dX10_at_20 : decode cX10_at 20 = .ok (.iconst (-1), 1) := by decide +kernel
theorem dX10_at_21 : decode cX10_at 21 = .ok (.ireturn, 1) := by decide +kernel
theorem dX10_disk_0 : decode cX10_disk 0 = .ok (.aload_n 0, 1) := by decide +kernel
theorem dX10_disk_1 : decode cX10_disk 1 = .ok (.iload_n 1, 1) := by decide +kernel
theorem dX10_disk_2 : decode cX10_disk 2 = .ok (.invokevirtual 170, 3) := by decide +kernel
theorem dX10_disk_5 : decode cX10_disk 5 = .ok (.ifCond .ne 5, 3) := by decide +kernel
theorem dX10_disk_8 : decode cX10_disk 8 = .ok (.iconst (-1), 1) := by decide +kernel
theorem dX10_disk_9 : decode cX10_disk 9 = .ok (.ireturn, 1) := by decide +kernel
theorem dX10_disk_10 : decode cX10_disk 10 = .ok (.iload_n 2, 1) := by decide +kernel
theorem dX10_disk_11 : decode cX10_disk 11 = .ok (.tableswitch 103 0 5 #[37, 54, 64, 74, 84, 94], 37) := by decide +kernel
theorem dX10_disk_48 : decode cX10_disk 48 = .ok (.aload_n 0, 1) := by decide +kernel
theorem dX10_disk_49 : decode cX10_disk 49 = .ok (.getfield 62, 3) := by decide +kernel
theorem dX10_disk_52 : decode cX10_disk 52 = .ok (.iload_n 1, 1) := by decide +kernel
theorem dX10_disk_53 : decode cX10_disk 53 = .ok (.invokevirtual 176, 3) := by decide +kernel
theorem dX10_disk_56 : decode cX10_disk 56 = .ok (.ifCond .eq 7, 3) := by decide +kernel
theorem dX10_disk_59 : decode cX10_disk 59 = .ok (.iconst 1, 1) := by decide +kernel
theorem dX10_disk_60 : decode cX10_disk 60 = .ok (.goto 4, 3) := by decide +kernel
theorem dX10_disk_63 : decode cX10_disk 63 = .ok (.iconst 0, 1) := by decide +kernel
theorem dX10_disk_64 : decode cX10_disk 64 = .ok (.ireturn, 1) := by decide +kernel
theorem dX10_disk_65 : decode cX10_disk 65 = .ok (.aload_n 0, 1) := by decide +kernel
theorem dX10_disk_66 : decode cX10_disk 66 = .ok (.getfield 50, 3) := by decide +kernel
theorem dX10_disk_69 : decode cX10_disk 69 = .ok (.getfield 179, 3) := by decide +kernel
theorem dX10_disk_72 : decode cX10_disk 72 = .ok (.iload_n 1, 1) := by decide +kernel
theorem dX10_disk_73 : decode cX10_disk 73 = .ok (.iaload, 1) := by decide +kernel
theorem dX10_disk_74 : decode cX10_disk 74 = .ok (.ireturn, 1) := by decide +kernel
theorem dX10_disk_75 : decode cX10_disk 75 = .ok (.aload_n 0, 1) := by decide +kernel
theorem dX10_disk_76 : decode cX10_disk 76 = .ok (.getfield 50, 3) := by decide +kernel
theorem dX10_disk_79 : decode cX10_disk 79 = .ok (.getfield 182, 3) := by decide +kernel
theorem dX10_disk_82 : decode cX10_disk 82 = .ok (.iload_n 1, 1) := by decide +kernel
theorem dX10_disk_83 : decode cX10_disk 83 = .ok (.iaload, 1) := by decide +kernel
theorem dX10_disk_84 : decode cX10_disk 84 = .ok (.ireturn, 1) := by decide +kernel
theorem dX10_disk_85 : decode cX10_disk 85 = .ok (.aload_n 0, 1) := by decide +kernel
theorem dX10_disk_86 : decode cX10_disk 86 = .ok (.getfield 50, 3) := by decide +kernel
theorem dX10_disk_89 : decode cX10_disk 89 = .ok (.getfield 185, 3) := by decide +kernel
theorem dX10_disk_92 : decode cX10_disk 92 = .ok (.iload_n 1, 1) := by decide +kernel
theorem dX10_disk_93 : decode cX10_disk 93 = .ok (.iaload, 1) := by decide +kernel
theorem dX10_disk_94 : decode cX10_disk 94 = .ok (.ireturn, 1) := by decide +kernel
theorem dX10_disk_95 : decode cX10_disk 95 = .ok (.aload_n 0, 1) := by decide +kernel
theorem dX10_disk_96 : decode cX10_disk 96 = .ok (.getfield 62, 3) := by decide +kernel
theorem dX10_disk_99 : decode cX10_disk 99 = .ok (.getfield 188, 3) := by decide +kernel
theorem dX10_disk_102 : decode cX10_disk 102 = .ok (.iload_n 1, 1) := by decide +kernel
theorem dX10_disk_103 : decode cX10_disk 103 = .ok (.iaload, 1) := by decide +kernel
theorem dX10_disk_104 : decode cX10_disk 104 = .ok (.ireturn, 1) := by decide +kernel
theorem dX10_disk_105 : decode cX10_disk 105 = .ok (.aload_n 0, 1) := by decide +kernel
theorem dX10_disk_106 : decode cX10_disk 106 = .ok (.getfield 62, 3) := by decide +kernel
theorem dX10_disk_109 : decode cX10_disk 109 = .ok (.iload_n 1, 1) := by decide +kernel
theorem dX10_disk_110 : decode cX10_disk 110 = .ok (.invokevirtual 191, 3) := by decide +kernel
theorem dX10_disk_113 : decode cX10_disk 113 = .ok (.ireturn, 1) := by decide +kernel
theorem dX10_disk_114 : decode cX10_disk 114 = .ok (.iconst (-1), 1) := by decide +kernel
theorem dX10_disk_115 : decode cX10_disk 115 = .ok (.ireturn, 1) := by decide +kernel
theorem dX10_read_0 : decode cX10_read 0 = .ok (.aload_n 0, 1) := by decide +kernel
theorem dX10_read_1 : decode cX10_read 1 = .ok (.iload_n 1, 1) := by decide +kernel
theorem dX10_read_2 : decode cX10_read 2 = .ok (.invokevirtual 158, 3) := by decide +kernel
theorem dX10_read_5 : decode cX10_read 5 = .ok (.ifCond .eq 33, 3) := by decide +kernel
theorem dX10_read_8 : decode cX10_read 8 = .ok (.aload_n 0, 1) := by decide +kernel
theorem dX10_read_9 : decode cX10_read 9 = .ok (.getfield 62, 3) := by decide +kernel
theorem dX10_read_12 : decode cX10_read 12 = .ok (.iload_n 1, 1) := by decide +kernel
theorem dX10_read_13 : decode cX10_read 13 = .ok (.invokevirtual 194, 3) := by decide +kernel
theorem dX10_read_16 : decode cX10_read 16 = .ok (.ifCond .eq 22, 3) := by decide +kernel
theorem dX10_read_19 : decode cX10_read 19 = .ok (.aload_n 0, 1) := by decide +kernel
theorem dX10_read_20 : decode cX10_read 20 = .ok (.getfield 62, 3) := by decide +kernel
theorem dX10_read_23 : decode cX10_read 23 = .ok (.aload_n 0, 1) := by decide +kernel
theorem dX10_read_24 : decode cX10_read 24 = .ok (.getfield 50, 3) := by decide +kernel
theorem dX10_read_27 : decode cX10_read 27 = .ok (.getfield 161, 3) := by decide +kernel
theorem dX10_read_30 : decode cX10_read 30 = .ok (.iload_n 1, 1) := by decide +kernel
theorem dX10_read_31 : decode cX10_read 31 = .ok (.iaload, 1) := by decide +kernel
theorem dX10_read_32 : decode cX10_read 32 = .ok (.invokevirtual 152, 3) := by decide +kernel
theorem dX10_read_35 : decode cX10_read 35 = .ok (.goto 4, 3) := by decide +kernel
theorem dX10_read_38 : decode cX10_read 38 = .ok (.iconst (-1), 1) := by decide +kernel
theorem dX10_read_39 : decode cX10_read 39 = .ok (.ireturn, 1) := by decide +kernel
theorem dX10_write_0 : decode cX10_write 0 = .ok (.aload_n 0, 1) := by decide +kernel
theorem dX10_write_1 : decode cX10_write 1 = .ok (.iload_n 1, 1) := by decide +kernel
theorem dX10_write_2 : decode cX10_write 2 = .ok (.invokevirtual 158, 3) := by decide +kernel
theorem dX10_write_5 : decode cX10_write 5 = .ok (.ifCond .eq 26, 3) := by decide +kernel
theorem dX10_write_8 : decode cX10_write 8 = .ok (.iload_n 2, 1) := by decide +kernel
theorem dX10_write_9 : decode cX10_write 9 = .ok (.ifCond .lt 22, 3) := by decide +kernel
theorem dX10_write_12 : decode cX10_write 12 = .ok (.iload_n 2, 1) := by decide +kernel
theorem dX10_write_13 : decode cX10_write 13 = .ok (.sipush 255, 3) := by decide +kernel
theorem dX10_write_16 : decode cX10_write 16 = .ok (.if_icmp .gt 15, 3) := by decide +kernel
theorem dX10_write_19 : decode cX10_write 19 = .ok (.aload_n 0, 1) := by decide +kernel
theorem dX10_write_20 : decode cX10_write 20 = .ok (.getfield 62, 3) := by decide +kernel
theorem dX10_write_23 : decode cX10_write 23 = .ok (.iload_n 1, 1) := by decide +kernel
theorem dX10_write_24 : decode cX10_write 24 = .ok (.iload_n 2, 1) := by decide +kernel
theorem dX10_write_25 : decode cX10_write 25 = .ok (.invokevirtual 197, 3) := by decide +kernel
theorem dX10_write_28 : decode cX10_write 28 = .ok (.goto 4, 3) := by decide +kernel
theorem dX10_write_31 : decode cX10_write 31 = .ok (.iconst (-1), 1) := by decide +kernel
theorem dX10_write_32 : decode cX10_write 32 = .ok (.ireturn, 1) := by decide +kernel
theorem dX10_lose_0 : decode cX10_lose 0 = .ok (.aload_n 0, 1) := by decide +kernel
theorem dX10_lose_1 : decode cX10_lose 1 = .ok (.iload_n 1, 1) := by decide +kernel
theorem dX10_lose_2 : decode cX10_lose 2 = .ok (.invokevirtual 170, 3) := by decide +kernel
theorem dX10_lose_5 : decode cX10_lose 5 = .ok (.ifCond .eq 14, 3) := by decide +kernel
theorem dX10_lose_8 : decode cX10_lose 8 = .ok (.aload_n 0, 1) := by decide +kernel
theorem dX10_lose_9 : decode cX10_lose 9 = .ok (.getfield 62, 3) := by decide +kernel
theorem dX10_lose_12 : decode cX10_lose 12 = .ok (.iload_n 1, 1) := by decide +kernel
theorem dX10_lose_13 : decode cX10_lose 13 = .ok (.invokevirtual 200, 3) := by decide +kernel
theorem dX10_lose_16 : decode cX10_lose 16 = .ok (.goto 4, 3) := by decide +kernel
theorem dX10_lose_19 : decode cX10_lose 19 = .ok (.iconst (-1), 1) := by decide +kernel
theorem dX10_lose_20 : decode cX10_lose 20 = .ok (.ireturn, 1) := by decide +kernel
theorem dX10_replace_0 : decode cX10_replace 0 = .ok (.aload_n 0, 1) := by decide +kernel
theorem dX10_replace_1 : decode cX10_replace 1 = .ok (.iload_n 1, 1) := by decide +kernel
theorem dX10_replace_2 : decode cX10_replace 2 = .ok (.invokevirtual 170, 3) := by decide +kernel
theorem dX10_replace_5 : decode cX10_replace 5 = .ok (.ifCond .eq 18, 3) := by decide +kernel
theorem dX10_replace_8 : decode cX10_replace 8 = .ok (.aload_n 0, 1) := by decide +kernel
theorem dX10_replace_9 : decode cX10_replace 9 = .ok (.getfield 62, 3) := by decide +kernel
theorem dX10_replace_12 : decode cX10_replace 12 = .ok (.iload_n 1, 1) := by decide +kernel
theorem dX10_replace_13 : decode cX10_replace 13 = .ok (.invokevirtual 203, 3) := by decide +kernel
theorem dX10_replace_16 : decode cX10_replace 16 = .ok (.ifCond .eq 7, 3) := by decide +kernel
theorem dX10_replace_19 : decode cX10_replace 19 = .ok (.iconst 1, 1) := by decide +kernel
theorem dX10_replace_20 : decode cX10_replace 20 = .ok (.goto 4, 3) := by decide +kernel
theorem dX10_replace_23 : decode cX10_replace 23 = .ok (.iconst 0, 1) := by decide +kernel
theorem dX10_replace_24 : decode cX10_replace 24 = .ok (.ireturn, 1) := by decide +kernel
theorem dX10_rebuild_0 : decode cX10_rebuild 0 = .ok (.iload_n 1, 1) := by decide +kernel
theorem dX10_rebuild_1 : decode cX10_rebuild 1 = .ok (.iconst 1, 1) := by decide +kernel
theorem dX10_rebuild_2 : decode cX10_rebuild 2 = .ok (.if_icmp .lt 20, 3) := by decide +kernel
theorem dX10_rebuild_5 : decode cX10_rebuild 5 = .ok (.iload_n 1, 1) := by decide +kernel
theorem dX10_rebuild_6 : decode cX10_rebuild 6 = .ok (.bipush 40, 2) := by decide +kernel
theorem dX10_rebuild_8 : decode cX10_rebuild 8 = .ok (.if_icmp .gt 14, 3) := by decide +kernel
theorem dX10_rebuild_11 : decode cX10_rebuild 11 = .ok (.aload_n 0, 1) := by decide +kernel
theorem dX10_rebuild_12 : decode cX10_rebuild 12 = .ok (.getfield 62, 3) := by decide +kernel
theorem dX10_rebuild_15 : decode cX10_rebuild 15 = .ok (.iload_n 1, 1) := by decide +kernel
theorem dX10_rebuild_16 : decode cX10_rebuild 16 = .ok (.invokevirtual 206, 3) := by decide +kernel
theorem dX10_rebuild_19 : decode cX10_rebuild 19 = .ok (.goto 4, 3) := by decide +kernel
theorem dX10_rebuild_22 : decode cX10_rebuild 22 = .ok (.iconst (-1), 1) := by decide +kernel
theorem dX10_rebuild_23 : decode cX10_rebuild 23 = .ok (.ireturn, 1) := by decide +kernel
theorem dX10_home_0 : decode cX10_home 0 = .ok (.iload_n 1, 1) := by decide +kernel
theorem dX10_home_1 : decode cX10_home 1 = .ok (.iconst 1, 1) := by decide +kernel
theorem dX10_home_2 : decode cX10_home 2 = .ok (.if_icmp .lt 20, 3) := by decide +kernel
theorem dX10_home_5 : decode cX10_home 5 = .ok (.iload_n 1, 1) := by decide +kernel
theorem dX10_home_6 : decode cX10_home 6 = .ok (.bipush 40, 2) := by decide +kernel
theorem dX10_home_8 : decode cX10_home 8 = .ok (.if_icmp .gt 14, 3) := by decide +kernel
theorem dX10_home_11 : decode cX10_home 11 = .ok (.aload_n 0, 1) := by decide +kernel
theorem dX10_home_12 : decode cX10_home 12 = .ok (.getfield 62, 3) := by decide +kernel
theorem dX10_home_15 : decode cX10_home 15 = .ok (.iload_n 1, 1) := by decide +kernel
theorem dX10_home_16 : decode cX10_home 16 = .ok (.invokevirtual 209, 3) := by decide +kernel
theorem dX10_home_19 : decode cX10_home 19 = .ok (.goto 4, 3) := by decide +kernel
theorem dX10_home_22 : decode cX10_home 22 = .ok (.iconst (-1), 1) := by decide +kernel
theorem dX10_home_23 : decode cX10_home 23 = .ok (.ireturn, 1) := by decide +kernel
theorem dX10_judged_0 : decode cX10_judged 0 = .ok (.iload_n 1, 1) := by decide +kernel
theorem dX10_judged_1 : decode cX10_judged 1 = .ok (.ifCond .lt 8, 3) := by decide +kernel
theorem dX10_judged_4 : decode cX10_judged 4 = .ok (.iload_n 1, 1) := by decide +kernel
theorem dX10_judged_5 : decode cX10_judged 5 = .ok (.iconst 2, 1) := by decide +kernel
theorem dX10_judged_6 : decode cX10_judged 6 = .ok (.if_icmp .le 6, 3) := by decide +kernel
theorem dX10_judged_9 : decode cX10_judged 9 = .ok (.bipush (-2), 2) := by decide +kernel
theorem dX10_judged_11 : decode cX10_judged 11 = .ok (.ireturn, 1) := by decide +kernel
theorem dX10_judged_12 : decode cX10_judged 12 = .ok (.aload_n 0, 1) := by decide +kernel
theorem dX10_judged_13 : decode cX10_judged 13 = .ok (.getfield 66, 3) := by decide +kernel
theorem dX10_judged_16 : decode cX10_judged 16 = .ok (.invokevirtual 106, 3) := by decide +kernel
theorem dX10_judged_19 : decode cX10_judged 19 = .ok (.iconst (-1), 1) := by decide +kernel
theorem dX10_judged_20 : decode cX10_judged 20 = .ok (.istore_n 2, 1) := by decide +kernel
theorem dX10_judged_21 : decode cX10_judged 21 = .ok (.iconst 0, 1) := by decide +kernel
theorem dX10_judged_22 : decode cX10_judged 22 = .ok (.istore_n 3, 1) := by decide +kernel
theorem dX10_judged_23 : decode cX10_judged 23 = .ok (.iload_n 3, 1) := by decide +kernel
theorem dX10_judged_24 : decode cX10_judged 24 = .ok (.aload_n 0, 1) := by decide +kernel
theorem dX10_judged_25 : decode cX10_judged 25 = .ok (.getfield 40, 3) := by decide +kernel
theorem dX10_judged_28 : decode cX10_judged 28 = .ok (.getfield 105, 3) := by decide +kernel
theorem dX10_judged_31 : decode cX10_judged 31 = .ok (.if_icmp .ge 57, 3) := by decide +kernel
theorem dX10_judged_34 : decode cX10_judged 34 = .ok (.aload_n 0, 1) := by decide +kernel
theorem dX10_judged_35 : decode cX10_judged 35 = .ok (.getfield 66, 3) := by decide +kernel
theorem dX10_judged_38 : decode cX10_judged 38 = .ok (.aload_n 0, 1) := by decide +kernel
theorem dX10_judged_39 : decode cX10_judged 39 = .ok (.getfield 40, 3) := by decide +kernel
theorem dX10_judged_42 : decode cX10_judged 42 = .ok (.getfield 212, 3) := by decide +kernel
theorem dX10_judged_45 : decode cX10_judged 45 = .ok (.iload_n 3, 1) := by decide +kernel
theorem dX10_judged_46 : decode cX10_judged 46 = .ok (.iaload, 1) := by decide +kernel
theorem dX10_judged_47 : decode cX10_judged 47 = .ok (.aload_n 0, 1) := by decide +kernel
theorem dX10_judged_48 : decode cX10_judged 48 = .ok (.getfield 40, 3) := by decide +kernel
theorem dX10_judged_51 : decode cX10_judged 51 = .ok (.getfield 215, 3) := by decide +kernel
theorem dX10_judged_54 : decode cX10_judged 54 = .ok (.iload_n 3, 1) := by decide +kernel
theorem dX10_judged_55 : decode cX10_judged 55 = .ok (.iaload, 1) := by decide +kernel
theorem dX10_judged_56 : decode cX10_judged 56 = .ok (.aload_n 0, 1) := by decide +kernel
theorem dX10_judged_57 : decode cX10_judged 57 = .ok (.getfield 40, 3) := by decide +kernel
theorem dX10_judged_60 : decode cX10_judged 60 = .ok (.getfield 218, 3) := by decide +kernel
theorem dX10_judged_63 : decode cX10_judged 63 = .ok (.iload_n 3, 1) := by decide +kernel
theorem dX10_judged_64 : decode cX10_judged 64 = .ok (.iaload, 1) := by decide +kernel
theorem dX10_judged_65 : decode cX10_judged 65 = .ok (.invokevirtual 221, 3) := by decide +kernel
theorem dX10_judged_68 : decode cX10_judged 68 = .ok (.istore 4, 2) := by decide +kernel
theorem dX10_judged_70 : decode cX10_judged 70 = .ok (.iload 4, 2) := by decide +kernel
theorem dX10_judged_72 : decode cX10_judged 72 = .ok (.ifCond .ne 10, 3) := by decide +kernel
theorem dX10_judged_75 : decode cX10_judged 75 = .ok (.iload_n 2, 1) := by decide +kernel
theorem dX10_judged_76 : decode cX10_judged 76 = .ok (.iconst (-1), 1) := by decide +kernel
theorem dX10_judged_77 : decode cX10_judged 77 = .ok (.if_icmp .ne 5, 3) := by decide +kernel
theorem dX10_judged_80 : decode cX10_judged 80 = .ok (.iload_n 3, 1) := by decide +kernel
theorem dX10_judged_81 : decode cX10_judged 81 = .ok (.istore_n 2, 1) := by decide +kernel
theorem dX10_judged_82 : decode cX10_judged 82 = .ok (.iinc 3 1, 3) := by decide +kernel
theorem dX10_judged_85 : decode cX10_judged 85 = .ok (.goto (-62), 3) := by decide +kernel
theorem dX10_judged_88 : decode cX10_judged 88 = .ok (.iload_n 1, 1) := by decide +kernel
theorem dX10_judged_89 : decode cX10_judged 89 = .ok (.ifCond .ne 7, 3) := by decide +kernel
theorem dX10_judged_92 : decode cX10_judged 92 = .ok (.iload_n 2, 1) := by decide +kernel
theorem dX10_judged_93 : decode cX10_judged 93 = .ok (.goto 25, 3) := by decide +kernel
theorem dX10_judged_96 : decode cX10_judged 96 = .ok (.iload_n 1, 1) := by decide +kernel
theorem dX10_judged_97 : decode cX10_judged 97 = .ok (.iconst 1, 1) := by decide +kernel
theorem dX10_judged_98 : decode cX10_judged 98 = .ok (.if_icmp .ne 13, 3) := by decide +kernel
theorem dX10_judged_101 : decode cX10_judged 101 = .ok (.aload_n 0, 1) := by decide +kernel
theorem dX10_judged_102 : decode cX10_judged 102 = .ok (.getfield 66, 3) := by decide +kernel
theorem dX10_judged_105 : decode cX10_judged 105 = .ok (.invokevirtual 225, 3) := by decide +kernel
theorem dX10_judged_108 : decode cX10_judged 108 = .ok (.goto 10, 3) := by decide +kernel
theorem dX10_judged_111 : decode cX10_judged 111 = .ok (.aload_n 0, 1) := by decide +kernel
theorem dX10_judged_112 : decode cX10_judged 112 = .ok (.getfield 66, 3) := by decide +kernel
theorem dX10_judged_115 : decode cX10_judged 115 = .ok (.invokevirtual 229, 3) := by decide +kernel
theorem dX10_judged_118 : decode cX10_judged 118 = .ok (.ireturn, 1) := by decide +kernel
theorem dX10_pairs_0 : decode cX10_pairs 0 = .ok (.aload_n 0, 1) := by decide +kernel
theorem dX10_pairs_1 : decode cX10_pairs 1 = .ok (.iload_n 1, 1) := by decide +kernel
theorem dX10_pairs_2 : decode cX10_pairs 2 = .ok (.invokevirtual 170, 3) := by decide +kernel
theorem dX10_pairs_5 : decode cX10_pairs 5 = .ok (.ifCond .eq 28, 3) := by decide +kernel
theorem dX10_pairs_8 : decode cX10_pairs 8 = .ok (.aload_n 0, 1) := by decide +kernel
theorem dX10_pairs_9 : decode cX10_pairs 9 = .ok (.iload_n 2, 1) := by decide +kernel
theorem dX10_pairs_10 : decode cX10_pairs 10 = .ok (.invokevirtual 170, 3) := by decide +kernel
theorem dX10_pairs_13 : decode cX10_pairs 13 = .ok (.ifCond .eq 20, 3) := by decide +kernel
theorem dX10_pairs_16 : decode cX10_pairs 16 = .ok (.iload_n 1, 1) := by decide +kernel
theorem dX10_pairs_17 : decode cX10_pairs 17 = .ok (.iload_n 2, 1) := by decide +kernel
theorem dX10_pairs_18 : decode cX10_pairs 18 = .ok (.if_icmp .eq 15, 3) := by decide +kernel
theorem dX10_pairs_21 : decode cX10_pairs 21 = .ok (.aload_n 0, 1) := by decide +kernel
theorem dX10_pairs_22 : decode cX10_pairs 22 = .ok (.getfield 50, 3) := by decide +kernel
theorem dX10_pairs_25 : decode cX10_pairs 25 = .ok (.iload_n 1, 1) := by decide +kernel
theorem dX10_pairs_26 : decode cX10_pairs 26 = .ok (.iload_n 2, 1) := by decide +kernel
theorem dX10_pairs_27 : decode cX10_pairs 27 = .ok (.invokevirtual 232, 3) := by decide +kernel
theorem dX10_pairs_30 : decode cX10_pairs 30 = .ok (.goto 4, 3) := by decide +kernel
theorem dX10_pairs_33 : decode cX10_pairs 33 = .ok (.iconst (-1), 1) := by decide +kernel
theorem dX10_pairs_34 : decode cX10_pairs 34 = .ok (.ireturn, 1) := by decide +kernel
theorem dX10_even_0 : decode cX10_even 0 = .ok (.aload_n 0, 1) := by decide +kernel
theorem dX10_even_1 : decode cX10_even 1 = .ok (.getfield 50, 3) := by decide +kernel
theorem dX10_even_4 : decode cX10_even 4 = .ok (.invokevirtual 235, 3) := by decide +kernel
theorem dX10_even_7 : decode cX10_even 7 = .ok (.ireturn, 1) := by decide +kernel
theorem dX10_worst_0 : decode cX10_worst 0 = .ok (.aload_n 0, 1) := by decide +kernel
theorem dX10_worst_1 : decode cX10_worst 1 = .ok (.iload_n 1, 1) := by decide +kernel
theorem dX10_worst_2 : decode cX10_worst 2 = .ok (.invokevirtual 170, 3) := by decide +kernel
theorem dX10_worst_5 : decode cX10_worst 5 = .ok (.ifCond .eq 14, 3) := by decide +kernel
theorem dX10_worst_8 : decode cX10_worst 8 = .ok (.aload_n 0, 1) := by decide +kernel
theorem dX10_worst_9 : decode cX10_worst 9 = .ok (.getfield 50, 3) := by decide +kernel
theorem dX10_worst_12 : decode cX10_worst 12 = .ok (.iload_n 1, 1) := by decide +kernel
theorem dX10_worst_13 : decode cX10_worst 13 = .ok (.invokevirtual 238, 3) := by decide +kernel
theorem dX10_worst_16 : decode cX10_worst 16 = .ok (.goto 4, 3) := by decide +kernel
theorem dX10_worst_19 : decode cX10_worst 19 = .ok (.iconst (-1), 1) := by decide +kernel
theorem dX10_worst_20 : decode cX10_worst 20 = .ok (.ireturn, 1) := by decide +kernel
theorem dX10_spread_0 : decode cX10_spread 0 = .ok (.aload_n 0, 1) := by decide +kernel
theorem dX10_spread_1 : decode cX10_spread 1 = .ok (.getfield 50, 3) := by decide +kernel
theorem dX10_spread_4 : decode cX10_spread 4 = .ok (.getfield 112, 3) := by decide +kernel
theorem dX10_spread_7 : decode cX10_spread 7 = .ok (.ifCond .ne 5, 3) := by decide +kernel
theorem dX10_spread_10 : decode cX10_spread 10 = .ok (.iconst (-1), 1) := by decide +kernel
theorem dX10_spread_11 : decode cX10_spread 11 = .ok (.ireturn, 1) := by decide +kernel
theorem dX10_spread_12 : decode cX10_spread 12 = .ok (.iload_n 1, 1) := by decide +kernel
theorem dX10_spread_13 : decode cX10_spread 13 = .ok (.tableswitch 81 0 2 #[27, 45, 63], 27) := by decide +kernel
theorem dX10_spread_40 : decode cX10_spread 40 = .ok (.aload_n 0, 1) := by decide +kernel
theorem dX10_spread_41 : decode cX10_spread 41 = .ok (.getfield 50, 3) := by decide +kernel
theorem dX10_spread_44 : decode cX10_spread 44 = .ok (.getfield 179, 3) := by decide +kernel
theorem dX10_spread_47 : decode cX10_spread 47 = .ok (.aload_n 0, 1) := by decide +kernel
theorem dX10_spread_48 : decode cX10_spread 48 = .ok (.getfield 50, 3) := by decide +kernel
theorem dX10_spread_51 : decode cX10_spread 51 = .ok (.getfield 112, 3) := by decide +kernel
theorem dX10_spread_54 : decode cX10_spread 54 = .ok (.invokestatic 241, 3) := by decide +kernel
theorem dX10_spread_57 : decode cX10_spread 57 = .ok (.ireturn, 1) := by decide +kernel
theorem dX10_spread_58 : decode cX10_spread 58 = .ok (.aload_n 0, 1) := by decide +kernel
theorem dX10_spread_59 : decode cX10_spread 59 = .ok (.getfield 50, 3) := by decide +kernel
theorem dX10_spread_62 : decode cX10_spread 62 = .ok (.getfield 182, 3) := by decide +kernel
theorem dX10_spread_65 : decode cX10_spread 65 = .ok (.aload_n 0, 1) := by decide +kernel
theorem dX10_spread_66 : decode cX10_spread 66 = .ok (.getfield 50, 3) := by decide +kernel
theorem dX10_spread_69 : decode cX10_spread 69 = .ok (.getfield 112, 3) := by decide +kernel
theorem dX10_spread_72 : decode cX10_spread 72 = .ok (.invokestatic 241, 3) := by decide +kernel
theorem dX10_spread_75 : decode cX10_spread 75 = .ok (.ireturn, 1) := by decide +kernel
theorem dX10_spread_76 : decode cX10_spread 76 = .ok (.aload_n 0, 1) := by decide +kernel
theorem dX10_spread_77 : decode cX10_spread 77 = .ok (.getfield 50, 3) := by decide +kernel
theorem dX10_spread_80 : decode cX10_spread 80 = .ok (.getfield 185, 3) := by decide +kernel
theorem dX10_spread_83 : decode cX10_spread 83 = .ok (.aload_n 0, 1) := by decide +kernel
theorem dX10_spread_84 : decode cX10_spread 84 = .ok (.getfield 50, 3) := by decide +kernel
theorem dX10_spread_87 : decode cX10_spread 87 = .ok (.getfield 112, 3) := by decide +kernel
theorem dX10_spread_90 : decode cX10_spread 90 = .ok (.invokestatic 241, 3) := by decide +kernel
theorem dX10_spread_93 : decode cX10_spread 93 = .ok (.ireturn, 1) := by decide +kernel
theorem dX10_spread_94 : decode cX10_spread 94 = .ok (.iconst (-1), 1) := by decide +kernel
theorem dX10_spread_95 : decode cX10_spread 95 = .ok (.ireturn, 1) := by decide +kernel
theorem dX10_differs_0 : decode cX10_differs 0 = .ok (.iload_n 1, 1) := by decide +kernel
theorem dX10_differs_1 : decode cX10_differs 1 = .ok (.ifCond .lt 34, 3) := by decide +kernel
theorem dX10_differs_4 : decode cX10_differs 4 = .ok (.iload_n 1, 1) := by decide +kernel
theorem dX10_differs_5 : decode cX10_differs 5 = .ok (.aload_n 0, 1) := by decide +kernel
theorem dX10_differs_6 : decode cX10_differs 6 = .ok (.getfield 19, 3) := by decide +kernel
theorem dX10_differs_9 : decode cX10_differs 9 = .ok (.getfield 245, 3) := by decide +kernel
theorem dX10_differs_12 : decode cX10_differs 12 = .ok (.if_icmp .ge 23, 3) := by decide +kernel
theorem dX10_differs_15 : decode cX10_differs 15 = .ok (.iload_n 2, 1) := by decide +kernel
theorem dX10_differs_16 : decode cX10_differs 16 = .ok (.iconst 1, 1) := by decide +kernel
theorem dX10_differs_17 : decode cX10_differs 17 = .ok (.if_icmp .lt 18, 3) := by decide +kernel
theorem dX10_differs_20 : decode cX10_differs 20 = .ok (.iload_n 2, 1) := by decide +kernel
theorem dX10_differs_21 : decode cX10_differs 21 = .ok (.aload_n 0, 1) := by decide +kernel
theorem dX10_differs_22 : decode cX10_differs 22 = .ok (.getfield 19, 3) := by decide +kernel
theorem dX10_differs_25 : decode cX10_differs 25 = .ok (.getfield 98, 3) := by decide +kernel
theorem dX10_differs_28 : decode cX10_differs 28 = .ok (.if_icmp .ge 7, 3) := by decide +kernel
theorem dX10_differs_31 : decode cX10_differs 31 = .ok (.iconst 1, 1) := by decide +kernel
theorem dX10_differs_32 : decode cX10_differs 32 = .ok (.goto 4, 3) := by decide +kernel
theorem dX10_differs_35 : decode cX10_differs 35 = .ok (.iconst 0, 1) := by decide +kernel
theorem dX10_differs_36 : decode cX10_differs 36 = .ok (.istore_n 3, 1) := by decide +kernel
theorem dX10_differs_37 : decode cX10_differs 37 = .ok (.iload_n 3, 1) := by decide +kernel
theorem dX10_differs_38 : decode cX10_differs 38 = .ok (.ifCond .eq 25, 3) := by decide +kernel
theorem dX10_differs_41 : decode cX10_differs 41 = .ok (.aload_n 0, 1) := by decide +kernel
theorem dX10_differs_42 : decode cX10_differs 42 = .ok (.getfield 19, 3) := by decide +kernel
theorem dX10_differs_45 : decode cX10_differs 45 = .ok (.iload_n 1, 1) := by decide +kernel
theorem dX10_differs_46 : decode cX10_differs 46 = .ok (.invokevirtual 248, 3) := by decide +kernel
theorem dX10_differs_49 : decode cX10_differs 49 = .ok (.iload_n 2, 1) := by decide +kernel
theorem dX10_differs_50 : decode cX10_differs 50 = .ok (.aload_n 0, 1) := by decide +kernel
theorem dX10_differs_51 : decode cX10_differs 51 = .ok (.getfield 19, 3) := by decide +kernel
theorem dX10_differs_54 : decode cX10_differs 54 = .ok (.getfield 98, 3) := by decide +kernel
theorem dX10_differs_57 : decode cX10_differs 57 = .ok (.invokestatic 251, 3) := by decide +kernel
theorem dX10_differs_60 : decode cX10_differs 60 = .ok (.goto 4, 3) := by decide +kernel
theorem dX10_differs_63 : decode cX10_differs 63 = .ok (.iconst (-1), 1) := by decide +kernel
theorem dX10_differs_64 : decode cX10_differs 64 = .ok (.ireturn, 1) := by decide +kernel
theorem dX10_family_0 : decode cX10_family 0 = .ok (.aload_n 0, 1) := by decide +kernel
theorem dX10_family_1 : decode cX10_family 1 = .ok (.getfield 19, 3) := by decide +kernel
theorem dX10_family_4 : decode cX10_family 4 = .ok (.invokestatic 257, 3) := by decide +kernel
theorem dX10_family_7 : decode cX10_family 7 = .ok (.ireturn, 1) := by decide +kernel
theorem dX10_seek_0 : decode cX10_seek 0 = .ok (.iload_n 1, 1) := by decide +kernel
theorem dX10_seek_1 : decode cX10_seek 1 = .ok (.iconst 2, 1) := by decide +kernel
theorem dX10_seek_2 : decode cX10_seek 2 = .ok (.if_icmp .lt 22, 3) := by decide +kernel
theorem dX10_seek_5 : decode cX10_seek 5 = .ok (.iload_n 1, 1) := by decide +kernel
theorem dX10_seek_6 : decode cX10_seek 6 = .ok (.iconst 5, 1) := by decide +kernel
theorem dX10_seek_7 : decode cX10_seek 7 = .ok (.if_icmp .gt 17, 3) := by decide +kernel
theorem dX10_seek_10 : decode cX10_seek 10 = .ok (.iload_n 1, 1) := by decide +kernel
theorem dX10_seek_11 : decode cX10_seek 11 = .ok (.aload_n 0, 1) := by decide +kernel
theorem dX10_seek_12 : decode cX10_seek 12 = .ok (.getfield 19, 3) := by decide +kernel
theorem dX10_seek_15 : decode cX10_seek 15 = .ok (.getfield 98, 3) := by decide +kernel
theorem dX10_seek_18 : decode cX10_seek 18 = .ok (.invokestatic 260, 3) := by decide +kernel
theorem dX10_seek_21 : decode cX10_seek 21 = .ok (.goto 4, 3) := by decide +kernel
theorem dX10_seek_24 : decode cX10_seek 24 = .ok (.iconst (-1), 1) := by decide +kernel
theorem dX10_seek_25 : decode cX10_seek 25 = .ok (.ireturn, 1) := by decide +kernel
theorem dX10_cost_0 : decode cX10_cost 0 = .ok (.aload_n 0, 1) := by decide +kernel
theorem dX10_cost_1 : decode cX10_cost 1 = .ok (.iload_n 1, 1) := by decide +kernel
theorem dX10_cost_2 : decode cX10_cost 2 = .ok (.invokevirtual 158, 3) := by decide +kernel
theorem dX10_cost_5 : decode cX10_cost 5 = .ok (.ifCond .eq 22, 3) := by decide +kernel
theorem dX10_cost_8 : decode cX10_cost 8 = .ok (.aload_n 0, 1) := by decide +kernel
theorem dX10_cost_9 : decode cX10_cost 9 = .ok (.getfield 62, 3) := by decide +kernel
theorem dX10_cost_12 : decode cX10_cost 12 = .ok (.aload_n 0, 1) := by decide +kernel
theorem dX10_cost_13 : decode cX10_cost 13 = .ok (.getfield 50, 3) := by decide +kernel
theorem dX10_cost_16 : decode cX10_cost 16 = .ok (.getfield 161, 3) := by decide +kernel
theorem dX10_cost_19 : decode cX10_cost 19 = .ok (.iload_n 1, 1) := by decide +kernel
theorem dX10_cost_20 : decode cX10_cost 20 = .ok (.iaload, 1) := by decide +kernel
theorem dX10_cost_21 : decode cX10_cost 21 = .ok (.invokevirtual 263, 3) := by decide +kernel
theorem dX10_cost_24 : decode cX10_cost 24 = .ok (.goto 4, 3) := by decide +kernel
theorem dX10_cost_27 : decode cX10_cost 27 = .ok (.iconst (-1), 1) := by decide +kernel
theorem dX10_cost_28 : decode cX10_cost 28 = .ok (.ireturn, 1) := by decide +kernel
theorem dX10_price_0 : decode cX10_price 0 = .ok (.aload_n 0, 1) := by decide +kernel
theorem dX10_price_1 : decode cX10_price 1 = .ok (.iload_n 1, 1) := by decide +kernel
theorem dX10_price_2 : decode cX10_price 2 = .ok (.invokevirtual 158, 3) := by decide +kernel
theorem dX10_price_5 : decode cX10_price 5 = .ok (.ifCond .eq 22, 3) := by decide +kernel
theorem dX10_price_8 : decode cX10_price 8 = .ok (.aload_n 0, 1) := by decide +kernel
theorem dX10_price_9 : decode cX10_price 9 = .ok (.getfield 62, 3) := by decide +kernel
theorem dX10_price_12 : decode cX10_price 12 = .ok (.aload_n 0, 1) := by decide +kernel
theorem dX10_price_13 : decode cX10_price 13 = .ok (.getfield 50, 3) := by decide +kernel
theorem dX10_price_16 : decode cX10_price 16 = .ok (.getfield 161, 3) := by decide +kernel
theorem dX10_price_19 : decode cX10_price 19 = .ok (.iload_n 1, 1) := by decide +kernel
theorem dX10_price_20 : decode cX10_price 20 = .ok (.iaload, 1) := by decide +kernel
theorem dX10_price_21 : decode cX10_price 21 = .ok (.invokevirtual 266, 3) := by decide +kernel
theorem dX10_price_24 : decode cX10_price 24 = .ok (.goto 4, 3) := by decide +kernel
theorem dX10_price_27 : decode cX10_price 27 = .ok (.iconst (-1), 1) := by decide +kernel
theorem dX10_price_28 : decode cX10_price 28 = .ok (.ireturn, 1) := by decide +kernel
theorem dX10_would_0 : decode cX10_would 0 = .ok (.aload_n 0, 1) := by decide +kernel
theorem dX10_would_1 : decode cX10_would 1 = .ok (.iload_n 1, 1) := by decide +kernel
theorem dX10_would_2 : decode cX10_would 2 = .ok (.invokevirtual 269, 3) := by decide +kernel
theorem dX10_would_5 : decode cX10_would 5 = .ok (.ifCond .eq 28, 3) := by decide +kernel
theorem dX10_would_8 : decode cX10_would 8 = .ok (.aload_n 0, 1) := by decide +kernel
theorem dX10_would_9 : decode cX10_would 9 = .ok (.iload_n 2, 1) := by decide +kernel
theorem dX10_would_10 : decode cX10_would 10 = .ok (.invokevirtual 269, 3) := by decide +kernel
theorem dX10_would_13 : decode cX10_would 13 = .ok (.ifCond .eq 20, 3) := by decide +kernel
theorem dX10_would_16 : decode cX10_would 16 = .ok (.iload_n 1, 1) := by decide +kernel
theorem dX10_would_17 : decode cX10_would 17 = .ok (.iload_n 2, 1) := by decide +kernel
theorem dX10_would_18 : decode cX10_would 18 = .ok (.if_icmp .eq 15, 3) := by decide +kernel
theorem dX10_would_21 : decode cX10_would 21 = .ok (.aload_n 0, 1) := by decide +kernel
theorem dX10_would_22 : decode cX10_would 22 = .ok (.getfield 82, 3) := by decide +kernel
theorem dX10_would_25 : decode cX10_would 25 = .ok (.iload_n 2, 1) := by decide +kernel
theorem dX10_would_26 : decode cX10_would 26 = .ok (.iload_n 1, 1) := by decide +kernel
theorem dX10_would_27 : decode cX10_would 27 = .ok (.invokevirtual 272, 3) := by decide +kernel
theorem dX10_would_30 : decode cX10_would 30 = .ok (.goto 4, 3) := by decide +kernel
theorem dX10_would_33 : decode cX10_would 33 = .ok (.iconst (-1), 1) := by decide +kernel
theorem dX10_would_34 : decode cX10_would 34 = .ok (.ireturn, 1) := by decide +kernel
theorem dX10_time_0 : decode cX10_time 0 = .ok (.aload_n 0, 1) := by decide +kernel
theorem dX10_time_1 : decode cX10_time 1 = .ok (.iload_n 1, 1) := by decide +kernel
theorem dX10_time_2 : decode cX10_time 2 = .ok (.invokevirtual 269, 3) := by decide +kernel
theorem dX10_time_5 : decode cX10_time 5 = .ok (.ifCond .eq 22, 3) := by decide +kernel
theorem dX10_time_8 : decode cX10_time 8 = .ok (.iload_n 2, 1) := by decide +kernel
theorem dX10_time_9 : decode cX10_time 9 = .ok (.ifCond .lt 18, 3) := by decide +kernel
theorem dX10_time_12 : decode cX10_time 12 = .ok (.iload_n 2, 1) := by decide +kernel
theorem dX10_time_13 : decode cX10_time 13 = .ok (.aload_n 0, 1) := by decide +kernel
theorem dX10_time_14 : decode cX10_time 14 = .ok (.getfield 19, 3) := by decide +kernel
theorem dX10_time_17 : decode cX10_time 17 = .ok (.invokevirtual 275, 3) := by decide +kernel
theorem dX10_time_20 : decode cX10_time 20 = .ok (.if_icmp .ge 7, 3) := by decide +kernel
theorem dX10_time_23 : decode cX10_time 23 = .ok (.iconst 1, 1) := by decide +kernel
theorem dX10_time_24 : decode cX10_time 24 = .ok (.goto 4, 3) := by decide +kernel
theorem dX10_time_27 : decode cX10_time 27 = .ok (.iconst 0, 1) := by decide +kernel
theorem dX10_time_28 : decode cX10_time 28 = .ok (.istore_n 3, 1) := by decide +kernel
theorem dX10_time_29 : decode cX10_time 29 = .ok (.iload_n 3, 1) := by decide +kernel
theorem dX10_time_30 : decode cX10_time 30 = .ok (.ifCond .eq 23, 3) := by decide +kernel
theorem dX10_time_33 : decode cX10_time 33 = .ok (.aload_n 0, 1) := by decide +kernel
theorem dX10_time_34 : decode cX10_time 34 = .ok (.getfield 82, 3) := by decide +kernel
theorem dX10_time_37 : decode cX10_time 37 = .ok (.iload_n 1, 1) := by decide +kernel
theorem dX10_time_38 : decode cX10_time 38 = .ok (.aload_n 0, 1) := by decide +kernel
theorem dX10_time_39 : decode cX10_time 39 = .ok (.getfield 19, 3) := by decide +kernel
theorem dX10_time_42 : decode cX10_time 42 = .ok (.invokevirtual 275, 3) := by decide +kernel
theorem dX10_time_45 : decode cX10_time 45 = .ok (.iload_n 2, 1) := by decide +kernel
theorem dX10_time_46 : decode cX10_time 46 = .ok (.isub, 1) := by decide +kernel
theorem dX10_time_47 : decode cX10_time 47 = .ok (.invokevirtual 278, 3) := by decide +kernel
theorem dX10_time_50 : decode cX10_time 50 = .ok (.goto 4, 3) := by decide +kernel
theorem dX10_time_53 : decode cX10_time 53 = .ok (.iconst (-1), 1) := by decide +kernel
theorem dX10_time_54 : decode cX10_time 54 = .ok (.ireturn, 1) := by decide +kernel
theorem dX10_bears_0 : decode cX10_bears 0 = .ok (.aload_n 0, 1) := by decide +kernel
theorem dX10_bears_1 : decode cX10_bears 1 = .ok (.iload_n 1, 1) := by decide +kernel
theorem dX10_bears_2 : decode cX10_bears 2 = .ok (.invokevirtual 269, 3) := by decide +kernel
theorem dX10_bears_5 : decode cX10_bears 5 = .ok (.ifCond .eq 20, 3) := by decide +kernel
theorem dX10_bears_8 : decode cX10_bears 8 = .ok (.aload_n 0, 1) := by decide +kernel
theorem dX10_bears_9 : decode cX10_bears 9 = .ok (.getfield 82, 3) := by decide +kernel
theorem dX10_bears_12 : decode cX10_bears 12 = .ok (.iconst 1, 1) := by decide +kernel
theorem dX10_bears_13 : decode cX10_bears 13 = .ok (.iload_n 1, 1) := by decide +kernel
theorem dX10_bears_14 : decode cX10_bears 14 = .ok (.ishl, 1) := by decide +kernel
theorem dX10_bears_15 : decode cX10_bears 15 = .ok (.invokevirtual 281, 3) := by decide +kernel
theorem dX10_bears_18 : decode cX10_bears 18 = .ok (.ifCond .ne 7, 3) := by decide +kernel
theorem dX10_bears_21 : decode cX10_bears 21 = .ok (.iconst 1, 1) := by decide +kernel
theorem dX10_bears_22 : decode cX10_bears 22 = .ok (.goto 4, 3) := by decide +kernel
theorem dX10_bears_25 : decode cX10_bears 25 = .ok (.iconst 0, 1) := by decide +kernel
theorem dX10_bears_26 : decode cX10_bears 26 = .ok (.ireturn, 1) := by decide +kernel
theorem dX10_risk_0 : decode cX10_risk 0 = .ok (.aload_n 0, 1) := by decide +kernel
theorem dX10_risk_1 : decode cX10_risk 1 = .ok (.getfield 82, 3) := by decide +kernel
theorem dX10_risk_4 : decode cX10_risk 4 = .ok (.invokevirtual 284, 3) := by decide +kernel
theorem dX10_risk_7 : decode cX10_risk 7 = .ok (.ireturn, 1) := by decide +kernel
theorem dX10_grow_0 : decode cX10_grow 0 = .ok (.aload_n 0, 1) := by decide +kernel
theorem dX10_grow_1 : decode cX10_grow 1 = .ok (.getfield 50, 3) := by decide +kernel
theorem dX10_grow_4 : decode cX10_grow 4 = .ok (.getfield 112, 3) := by decide +kernel
theorem dX10_grow_7 : decode cX10_grow 7 = .ok (.ifCond .eq 22, 3) := by decide +kernel
theorem dX10_grow_10 : decode cX10_grow 10 = .ok (.iload_n 1, 1) := by decide +kernel
theorem dX10_grow_11 : decode cX10_grow 11 = .ok (.iconst 1, 1) := by decide +kernel
theorem dX10_grow_12 : decode cX10_grow 12 = .ok (.if_icmp .lt 17, 3) := by decide +kernel
theorem dX10_grow_15 : decode cX10_grow 15 = .ok (.iload_n 1, 1) := by decide +kernel
theorem dX10_grow_16 : decode cX10_grow 16 = .ok (.iconst 3, 1) := by decide +kernel
theorem dX10_grow_17 : decode cX10_grow 17 = .ok (.if_icmp .gt 12, 3) := by decide +kernel
theorem dX10_grow_20 : decode cX10_grow 20 = .ok (.iload_n 2, 1) := by decide +kernel
theorem dX10_grow_21 : decode cX10_grow 21 = .ok (.ifCond .lt 8, 3) := by decide +kernel
theorem dX10_grow_24 : decode cX10_grow 24 = .ok (.iload_n 2, 1) := by decide +kernel
theorem dX10_grow_25 : decode cX10_grow 25 = .ok (.iconst 1, 1) := by decide +kernel
theorem dX10_grow_26 : decode cX10_grow 26 = .ok (.if_icmp .le 5, 3) := by decide +kernel
theorem dX10_grow_29 : decode cX10_grow 29 = .ok (.iconst (-1), 1) := by decide +kernel
theorem dX10_grow_30 : decode cX10_grow 30 = .ok (.ireturn, 1) := by decide +kernel
theorem dX10_grow_31 : decode cX10_grow 31 = .ok (.aload_n 0, 1) := by decide +kernel
theorem dX10_grow_32 : decode cX10_grow 32 = .ok (.getfield 50, 3) := by decide +kernel
theorem dX10_grow_35 : decode cX10_grow 35 = .ok (.getfield 112, 3) := by decide +kernel
theorem dX10_grow_38 : decode cX10_grow 38 = .ok (.iload_n 1, 1) := by decide +kernel
theorem dX10_grow_39 : decode cX10_grow 39 = .ok (.iadd, 1) := by decide +kernel
theorem dX10_grow_40 : decode cX10_grow 40 = .ok (.istore_n 3, 1) := by decide +kernel
theorem dX10_grow_41 : decode cX10_grow 41 = .ok (.iload_n 3, 1) := by decide +kernel
theorem dX10_grow_42 : decode cX10_grow 42 = .ok (.bipush 13, 2) := by decide +kernel
theorem dX10_grow_44 : decode cX10_grow 44 = .ok (.if_icmp .gt 18, 3) := by decide +kernel
theorem dX10_grow_47 : decode cX10_grow 47 = .ok (.aload_n 0, 1) := by decide +kernel
theorem dX10_grow_48 : decode cX10_grow 48 = .ok (.getfield 54, 3) := by decide +kernel
theorem dX10_grow_51 : decode cX10_grow 51 = .ok (.aload_n 0, 1) := by decide +kernel
theorem dX10_grow_52 : decode cX10_grow 52 = .ok (.getfield 19, 3) := by decide +kernel
theorem dX10_grow_55 : decode cX10_grow 55 = .ok (.iload_n 3, 1) := by decide +kernel
theorem dX10_grow_56 : decode cX10_grow 56 = .ok (.invokevirtual 101, 3) := by decide +kernel
theorem dX10_grow_59 : decode cX10_grow 59 = .ok (.ifCond .ne 5, 3) := by decide +kernel
theorem dX10_grow_62 : decode cX10_grow 62 = .ok (.iconst (-1), 1) := by decide +kernel
theorem dX10_grow_63 : decode cX10_grow 63 = .ok (.ireturn, 1) := by decide +kernel
theorem dX10_grow_64 : decode cX10_grow 64 = .ok (.iload_n 2, 1) := by decide +kernel
theorem dX10_grow_65 : decode cX10_grow 65 = .ok (.ifCond .ne 17, 3) := by decide +kernel
theorem dX10_grow_68 : decode cX10_grow 68 = .ok (.aload_n 0, 1) := by decide +kernel
theorem dX10_grow_69 : decode cX10_grow 69 = .ok (.getfield 50, 3) := by decide +kernel
theorem dX10_grow_72 : decode cX10_grow 72 = .ok (.aload_n 0, 1) := by decide +kernel
theorem dX10_grow_73 : decode cX10_grow 73 = .ok (.getfield 54, 3) := by decide +kernel
theorem dX10_grow_76 : decode cX10_grow 76 = .ok (.invokevirtual 287, 3) := by decide +kernel
theorem dX10_grow_79 : decode cX10_grow 79 = .ok (.goto 14, 3) := by decide +kernel
theorem dX10_grow_82 : decode cX10_grow 82 = .ok (.aload_n 0, 1) := by decide +kernel
theorem dX10_grow_83 : decode cX10_grow 83 = .ok (.getfield 50, 3) := by decide +kernel
theorem dX10_grow_86 : decode cX10_grow 86 = .ok (.invokevirtual 291, 3) := by decide +kernel
theorem dX10_grow_89 : decode cX10_grow 89 = .ok (.iload_n 1, 1) := by decide +kernel
theorem dX10_grow_90 : decode cX10_grow 90 = .ok (.imul, 1) := by decide +kernel
theorem dX10_grow_91 : decode cX10_grow 91 = .ok (.iload_n 3, 1) := by decide +kernel
theorem dX10_grow_92 : decode cX10_grow 92 = .ok (.idiv, 1) := by decide +kernel
theorem dX10_grow_93 : decode cX10_grow 93 = .ok (.ireturn, 1) := by decide +kernel
theorem dX10_lost_0 : decode cX10_lost 0 = .ok (.iload_n 1, 1) := by decide +kernel
theorem dX10_lost_1 : decode cX10_lost 1 = .ok (.ifCond .ge 7, 3) := by decide +kernel
theorem dX10_lost_4 : decode cX10_lost 4 = .ok (.iconst (-1), 1) := by decide +kernel
theorem dX10_lost_5 : decode cX10_lost 5 = .ok (.goto 11, 3) := by decide +kernel
theorem dX10_lost_8 : decode cX10_lost 8 = .ok (.aload_n 0, 1) := by decide +kernel
theorem dX10_lost_9 : decode cX10_lost 9 = .ok (.getfield 62, 3) := by decide +kernel
theorem dX10_lost_12 : decode cX10_lost 12 = .ok (.iload_n 1, 1) := by decide +kernel
theorem dX10_lost_13 : decode cX10_lost 13 = .ok (.invokevirtual 294, 3) := by decide +kernel
theorem dX10_lost_16 : decode cX10_lost 16 = .ok (.istore_n 2, 1) := by decide +kernel
theorem dX10_lost_17 : decode cX10_lost 17 = .ok (.iload_n 2, 1) := by decide +kernel
theorem dX10_lost_18 : decode cX10_lost 18 = .ok (.iconst (-1), 1) := by decide +kernel
theorem dX10_lost_19 : decode cX10_lost 19 = .ok (.if_icmp .ne 14, 3) := by decide +kernel
theorem dX10_lost_22 : decode cX10_lost 22 = .ok (.new 297, 3) := by decide +kernel
theorem dX10_lost_25 : decode cX10_lost 25 = .ok (.dup, 1) := by decide +kernel
theorem dX10_lost_26 : decode cX10_lost 26 = .ok (.ldc_w 299, 3) := by decide +kernel
theorem dX10_lost_29 : decode cX10_lost 29 = .ok (.invokespecial 301, 3) := by decide +kernel
theorem dX10_lost_32 : decode cX10_lost 32 = .ok (.athrow, 1) := by decide +kernel
theorem dX10_lost_33 : decode cX10_lost 33 = .ok (.iload_n 2, 1) := by decide +kernel
theorem dX10_lost_34 : decode cX10_lost 34 = .ok (.iconst 5, 1) := by decide +kernel
theorem dX10_lost_35 : decode cX10_lost 35 = .ok (.idiv, 1) := by decide +kernel
theorem dX10_lost_36 : decode cX10_lost 36 = .ok (.bipush 8, 2) := by decide +kernel
theorem dX10_lost_38 : decode cX10_lost 38 = .ok (.imul, 1) := by decide +kernel
theorem dX10_lost_39 : decode cX10_lost 39 = .ok (.iload_n 2, 1) := by decide +kernel
theorem dX10_lost_40 : decode cX10_lost 40 = .ok (.iconst 5, 1) := by decide +kernel
theorem dX10_lost_41 : decode cX10_lost 41 = .ok (.irem, 1) := by decide +kernel
theorem dX10_lost_42 : decode cX10_lost 42 = .ok (.iadd, 1) := by decide +kernel
theorem dX10_lost_43 : decode cX10_lost 43 = .ok (.ireturn, 1) := by decide +kernel
theorem dX10_see_0 : decode cX10_see 0 = .ok (.aload_n 0, 1) := by decide +kernel
theorem dX10_see_1 : decode cX10_see 1 = .ok (.iload_n 1, 1) := by decide +kernel
theorem dX10_see_2 : decode cX10_see 2 = .ok (.invokevirtual 158, 3) := by decide +kernel
theorem dX10_see_5 : decode cX10_see 5 = .ok (.ifCond .eq 19, 3) := by decide +kernel
theorem dX10_see_8 : decode cX10_see 8 = .ok (.aload_n 0, 1) := by decide +kernel
theorem dX10_see_9 : decode cX10_see 9 = .ok (.getfield 62, 3) := by decide +kernel
theorem dX10_see_12 : decode cX10_see 12 = .ok (.iload_n 1, 1) := by decide +kernel
theorem dX10_see_13 : decode cX10_see 13 = .ok (.iload_n 2, 1) := by decide +kernel
theorem dX10_see_14 : decode cX10_see 14 = .ok (.invokevirtual 304, 3) := by decide +kernel
theorem dX10_see_17 : decode cX10_see 17 = .ok (.ifCond .eq 7, 3) := by decide +kernel
theorem dX10_see_20 : decode cX10_see 20 = .ok (.iconst 1, 1) := by decide +kernel
theorem dX10_see_21 : decode cX10_see 21 = .ok (.goto 4, 3) := by decide +kernel
theorem dX10_see_24 : decode cX10_see 24 = .ok (.iconst 0, 1) := by decide +kernel
theorem dX10_see_25 : decode cX10_see 25 = .ok (.ireturn, 1) := by decide +kernel
theorem dX10_who_0 : decode cX10_who 0 = .ok (.aload_n 0, 1) := by decide +kernel
theorem dX10_who_1 : decode cX10_who 1 = .ok (.getfield 82, 3) := by decide +kernel
theorem dX10_who_4 : decode cX10_who 4 = .ok (.invokevirtual 308, 3) := by decide +kernel
theorem dX10_who_7 : decode cX10_who 7 = .ok (.ireturn, 1) := by decide +kernel
theorem dX10_ask_0 : decode cX10_ask 0 = .ok (.aload_n 0, 1) := by decide +kernel
theorem dX10_ask_1 : decode cX10_ask 1 = .ok (.getfield 82, 3) := by decide +kernel
theorem dX10_ask_4 : decode cX10_ask 4 = .ok (.invokevirtual 311, 3) := by decide +kernel
theorem dX10_ask_7 : decode cX10_ask 7 = .ok (.ireturn, 1) := by decide +kernel
theorem dX10_loads_0 : decode cX10_loads 0 = .ok (.iload_n 1, 1) := by decide +kernel
theorem dX10_loads_1 : decode cX10_loads 1 = .ok (.ifCond .lt 25, 3) := by decide +kernel
theorem dX10_loads_4 : decode cX10_loads 4 = .ok (.iload_n 1, 1) := by decide +kernel
theorem dX10_loads_5 : decode cX10_loads 5 = .ok (.sipush 9999, 3) := by decide +kernel
theorem dX10_loads_8 : decode cX10_loads 8 = .ok (.if_icmp .gt 18, 3) := by decide +kernel
theorem dX10_loads_11 : decode cX10_loads 11 = .ok (.iload_n 2, 1) := by decide +kernel
theorem dX10_loads_12 : decode cX10_loads 12 = .ok (.iconst 1, 1) := by decide +kernel
theorem dX10_loads_13 : decode cX10_loads 13 = .ok (.if_icmp .lt 13, 3) := by decide +kernel
theorem dX10_loads_16 : decode cX10_loads 16 = .ok (.iload_n 2, 1) := by decide +kernel
theorem dX10_loads_17 : decode cX10_loads 17 = .ok (.bipush 99, 2) := by decide +kernel
theorem dX10_loads_19 : decode cX10_loads 19 = .ok (.if_icmp .gt 7, 3) := by decide +kernel
theorem dX10_loads_22 : decode cX10_loads 22 = .ok (.iconst 1, 1) := by decide +kernel
theorem dX10_loads_23 : decode cX10_loads 23 = .ok (.goto 4, 3) := by decide +kernel
theorem dX10_loads_26 : decode cX10_loads 26 = .ok (.iconst 0, 1) := by decide +kernel
theorem dX10_loads_27 : decode cX10_loads 27 = .ok (.istore 4, 2) := by decide +kernel
theorem dX10_loads_29 : decode cX10_loads 29 = .ok (.iload 4, 2) := by decide +kernel
theorem dX10_loads_31 : decode cX10_loads 31 = .ok (.ifCond .eq 12, 3) := by decide +kernel
theorem dX10_loads_34 : decode cX10_loads 34 = .ok (.iload_n 3, 1) := by decide +kernel
theorem dX10_loads_35 : decode cX10_loads 35 = .ok (.ifCond .lt 8, 3) := by decide +kernel
theorem dX10_loads_38 : decode cX10_loads 38 = .ok (.iload_n 3, 1) := by decide +kernel
theorem dX10_loads_39 : decode cX10_loads 39 = .ok (.iconst 2, 1) := by decide +kernel
theorem dX10_loads_40 : decode cX10_loads 40 = .ok (.if_icmp .le 5, 3) := by decide +kernel
theorem dX10_loads_43 : decode cX10_loads 43 = .ok (.iconst (-1), 1) := by decide +kernel
theorem dX10_loads_44 : decode cX10_loads 44 = .ok (.ireturn, 1) := by decide +kernel
theorem dX10_loads_45 : decode cX10_loads 45 = .ok (.aload_n 0, 1) := by decide +kernel
theorem dX10_loads_46 : decode cX10_loads 46 = .ok (.getfield 66, 3) := by decide +kernel
theorem dX10_loads_49 : decode cX10_loads 49 = .ok (.aload_n 0, 1) := by decide +kernel
theorem dX10_loads_50 : decode cX10_loads 50 = .ok (.getfield 62, 3) := by decide +kernel
theorem dX10_loads_53 : decode cX10_loads 53 = .ok (.invokevirtual 314, 3) := by decide +kernel
theorem dX10_loads_56 : decode cX10_loads 56 = .ok (.aload_n 0, 1) := by decide +kernel
theorem dX10_loads_57 : decode cX10_loads 57 = .ok (.getfield 50, 3) := by decide +kernel
theorem dX10_loads_60 : decode cX10_loads 60 = .ok (.getfield 109, 3) := by decide +kernel
theorem dX10_loads_63 : decode cX10_loads 63 = .ok (.ifCond .le 16, 3) := by decide +kernel
theorem dX10_loads_66 : decode cX10_loads 66 = .ok (.aload_n 0, 1) := by decide +kernel
theorem dX10_loads_67 : decode cX10_loads 67 = .ok (.new 318, 3) := by decide +kernel
theorem dX10_loads_70 : decode cX10_loads 70 = .ok (.dup, 1) := by decide +kernel
theorem dX10_loads_71 : decode cX10_loads 71 = .ok (.iload_n 1, 1) := by decide +kernel
theorem dX10_loads_72 : decode cX10_loads 72 = .ok (.invokespecial 320, 3) := by decide +kernel
theorem dX10_loads_75 : decode cX10_loads 75 = .ok (.iload_n 2, 1) := by decide +kernel
theorem dX10_loads_76 : decode cX10_loads 76 = .ok (.invokevirtual 323, 3) := by decide +kernel
theorem dX10_loads_79 : decode cX10_loads 79 = .ok (.iload_n 3, 1) := by decide +kernel
theorem dX10_loads_80 : decode cX10_loads 80 = .ok (.lookupswitch 52 #[(0, 28), (1, 44)], 28) := by decide +kernel
theorem dX10_loads_108 : decode cX10_loads 108 = .ok (.aload_n 0, 1) := by decide +kernel
theorem dX10_loads_109 : decode cX10_loads 109 = .ok (.getfield 66, 3) := by decide +kernel
theorem dX10_loads_112 : decode cX10_loads 112 = .ok (.invokevirtual 225, 3) := by decide +kernel
theorem dX10_loads_115 : decode cX10_loads 115 = .ok (.aload_n 0, 1) := by decide +kernel
theorem dX10_loads_116 : decode cX10_loads 116 = .ok (.getfield 62, 3) := by decide +kernel
theorem dX10_loads_119 : decode cX10_loads 119 = .ok (.invokevirtual 225, 3) := by decide +kernel
theorem dX10_loads_122 : decode cX10_loads 122 = .ok (.isub, 1) := by decide +kernel
theorem dX10_loads_123 : decode cX10_loads 123 = .ok (.ireturn, 1) := by decide +kernel
theorem dX10_loads_124 : decode cX10_loads 124 = .ok (.aload_n 0, 1) := by decide +kernel
theorem dX10_loads_125 : decode cX10_loads 125 = .ok (.getfield 66, 3) := by decide +kernel
theorem dX10_loads_128 : decode cX10_loads 128 = .ok (.invokevirtual 229, 3) := by decide +kernel
theorem dX10_loads_131 : decode cX10_loads 131 = .ok (.ireturn, 1) := by decide +kernel
theorem dX10_loads_132 : decode cX10_loads 132 = .ok (.aload_n 0, 1) := by decide +kernel
theorem dX10_loads_133 : decode cX10_loads 133 = .ok (.getfield 66, 3) := by decide +kernel
theorem dX10_loads_136 : decode cX10_loads 136 = .ok (.getfield 188, 3) := by decide +kernel
theorem dX10_loads_139 : decode cX10_loads 139 = .ok (.aload_n 0, 1) := by decide +kernel
theorem dX10_loads_140 : decode cX10_loads 140 = .ok (.getfield 50, 3) := by decide +kernel
theorem dX10_loads_143 : decode cX10_loads 143 = .ok (.getfield 112, 3) := by decide +kernel
theorem dX10_loads_146 : decode cX10_loads 146 = .ok (.invokestatic 241, 3) := by decide +kernel
theorem dX10_loads_149 : decode cX10_loads 149 = .ok (.ireturn, 1) := by decide +kernel
theorem dX10_mark_0 : decode cX10_mark 0 = .ok (.iload_n 1, 1) := by decide +kernel
theorem dX10_mark_1 : decode cX10_mark 1 = .ok (.ifCond .lt 21, 3) := by decide +kernel
theorem dX10_mark_4 : decode cX10_mark 4 = .ok (.iload_n 1, 1) := by decide +kernel
theorem dX10_mark_5 : decode cX10_mark 5 = .ok (.iconst 2, 1) := by decide +kernel
theorem dX10_mark_6 : decode cX10_mark 6 = .ok (.if_icmp .ge 16, 3) := by decide +kernel
theorem dX10_mark_9 : decode cX10_mark 9 = .ok (.iload_n 2, 1) := by decide +kernel
theorem dX10_mark_10 : decode cX10_mark 10 = .ok (.ifCond .eq 14, 3) := by decide +kernel
theorem dX10_mark_13 : decode cX10_mark 13 = .ok (.aload_n 0, 1) := by decide +kernel
theorem dX10_mark_14 : decode cX10_mark 14 = .ok (.getfield 73, 3) := by decide +kernel
theorem dX10_mark_17 : decode cX10_mark 17 = .ok (.iload_n 1, 1) := by decide +kernel
theorem dX10_mark_18 : decode cX10_mark 18 = .ok (.baload, 1) := by decide +kernel
theorem dX10_mark_19 : decode cX10_mark 19 = .ok (.ifCond .ne 5, 3) := by decide +kernel
theorem dX10_mark_22 : decode cX10_mark 22 = .ok (.iconst 0, 1) := by decide +kernel
theorem dX10_mark_23 : decode cX10_mark 23 = .ok (.ireturn, 1) := by decide +kernel
theorem dX10_mark_24 : decode cX10_mark 24 = .ok (.iload_n 2, 1) := by decide +kernel
theorem dX10_mark_25 : decode cX10_mark 25 = .ok (.ifCond .eq 19, 3) := by decide +kernel
theorem dX10_mark_28 : decode cX10_mark 28 = .ok (.aload_n 0, 1) := by decide +kernel
theorem dX10_mark_29 : decode cX10_mark 29 = .ok (.getfield 62, 3) := by decide +kernel
theorem dX10_mark_32 : decode cX10_mark 32 = .ok (.aload_n 0, 1) := by decide +kernel
theorem dX10_mark_33 : decode cX10_mark 33 = .ok (.getfield 69, 3) := by decide +kernel
theorem dX10_mark_36 : decode cX10_mark 36 = .ok (.iload_n 1, 1) := by decide +kernel
theorem dX10_mark_37 : decode cX10_mark 37 = .ok (.aaload, 1) := by decide +kernel
theorem dX10_mark_38 : decode cX10_mark 38 = .ok (.invokevirtual 314, 3) := by decide +kernel
theorem dX10_mark_41 : decode cX10_mark 41 = .ok (.goto 23, 3) := by decide +kernel
theorem dX10_mark_44 : decode cX10_mark 44 = .ok (.aload_n 0, 1) := by decide +kernel
theorem dX10_mark_45 : decode cX10_mark 45 = .ok (.getfield 69, 3) := by decide +kernel
theorem dX10_mark_48 : decode cX10_mark 48 = .ok (.iload_n 1, 1) := by decide +kernel
theorem dX10_mark_49 : decode cX10_mark 49 = .ok (.aaload, 1) := by decide +kernel
theorem dX10_mark_50 : decode cX10_mark 50 = .ok (.aload_n 0, 1) := by decide +kernel
theorem dX10_mark_51 : decode cX10_mark 51 = .ok (.getfield 62, 3) := by decide +kernel
theorem dX10_mark_54 : decode cX10_mark 54 = .ok (.invokevirtual 314, 3) := by decide +kernel
theorem dX10_mark_57 : decode cX10_mark 57 = .ok (.aload_n 0, 1) := by decide +kernel
theorem dX10_mark_58 : decode cX10_mark 58 = .ok (.getfield 73, 3) := by decide +kernel
theorem dX10_mark_61 : decode cX10_mark 61 = .ok (.iload_n 1, 1) := by decide +kernel
theorem dX10_mark_62 : decode cX10_mark 62 = .ok (.iconst 1, 1) := by decide +kernel
theorem dX10_mark_63 : decode cX10_mark 63 = .ok (.bastore, 1) := by decide +kernel
theorem dX10_mark_64 : decode cX10_mark 64 = .ok (.iconst 1, 1) := by decide +kernel
theorem dX10_mark_65 : decode cX10_mark 65 = .ok (.ireturn, 1) := by decide +kernel
theorem dX10_count_0 : decode cX10_count 0 = .ok (.iload_n 1, 1) := by decide +kernel
theorem dX10_count_1 : decode cX10_count 1 = .ok (.tableswitch 173 0 12 #[67, 75, 83, 91, 99, 107, 116, 125, 133, 141, 149, 157, 165], 67) := by decide +kernel
theorem dX10_count_68 : decode cX10_count 68 = .ok (.aload_n 0, 1) := by decide +kernel
theorem dX10_count_69 : decode cX10_count 69 = .ok (.getfield 50, 3) := by decide +kernel
theorem dX10_count_72 : decode cX10_count 72 = .ok (.getfield 112, 3) := by decide +kernel
theorem dX10_count_75 : decode cX10_count 75 = .ok (.ireturn, 1) := by decide +kernel
theorem dX10_count_76 : decode cX10_count 76 = .ok (.aload_n 0, 1) := by decide +kernel
theorem dX10_count_77 : decode cX10_count 77 = .ok (.getfield 19, 3) := by decide +kernel
theorem dX10_count_80 : decode cX10_count 80 = .ok (.getfield 245, 3) := by decide +kernel
theorem dX10_count_83 : decode cX10_count 83 = .ok (.ireturn, 1) := by decide +kernel
theorem dX10_count_84 : decode cX10_count 84 = .ok (.aload_n 0, 1) := by decide +kernel
theorem dX10_count_85 : decode cX10_count 85 = .ok (.getfield 50, 3) := by decide +kernel
theorem dX10_count_88 : decode cX10_count 88 = .ok (.getfield 327, 3) := by decide +kernel
theorem dX10_count_91 : decode cX10_count 91 = .ok (.ireturn, 1) := by decide +kernel
theorem dX10_count_92 : decode cX10_count 92 = .ok (.aload_n 0, 1) := by decide +kernel
theorem dX10_count_93 : decode cX10_count 93 = .ok (.getfield 50, 3) := by decide +kernel
theorem dX10_count_96 : decode cX10_count 96 = .ok (.getfield 109, 3) := by decide +kernel
theorem dX10_count_99 : decode cX10_count 99 = .ok (.ireturn, 1) := by decide +kernel
theorem dX10_count_100 : decode cX10_count 100 = .ok (.aload_n 0, 1) := by decide +kernel
theorem dX10_count_101 : decode cX10_count 101 = .ok (.getfield 62, 3) := by decide +kernel
theorem dX10_count_104 : decode cX10_count 104 = .ok (.getfield 330, 3) := by decide +kernel
theorem dX10_count_107 : decode cX10_count 107 = .ok (.ireturn, 1) := by decide +kernel
theorem dX10_count_108 : decode cX10_count 108 = .ok (.aload_n 0, 1) := by decide +kernel
theorem dX10_count_109 : decode cX10_count 109 = .ok (.getfield 62, 3) := by decide +kernel
theorem dX10_count_112 : decode cX10_count 112 = .ok (.iconst 2, 1) := by decide +kernel
theorem dX10_count_113 : decode cX10_count 113 = .ok (.invokevirtual 333, 3) := by decide +kernel
theorem dX10_count_116 : decode cX10_count 116 = .ok (.ireturn, 1) := by decide +kernel
theorem dX10_count_117 : decode cX10_count 117 = .ok (.aload_n 0, 1) := by decide +kernel
theorem dX10_count_118 : decode cX10_count 118 = .ok (.getfield 62, 3) := by decide +kernel
theorem dX10_count_121 : decode cX10_count 121 = .ok (.iconst 1, 1) := by decide +kernel
theorem dX10_count_122 : decode cX10_count 122 = .ok (.invokevirtual 333, 3) := by decide +kernel
theorem dX10_count_125 : decode cX10_count 125 = .ok (.ireturn, 1) := by decide +kernel
theorem dX10_count_126 : decode cX10_count 126 = .ok (.aload_n 0, 1) := by decide +kernel
theorem dX10_count_127 : decode cX10_count 127 = .ok (.getfield 62, 3) := by decide +kernel
theorem dX10_count_130 : decode cX10_count 130 = .ok (.invokevirtual 229, 3) := by decide +kernel
theorem dX10_count_133 : decode cX10_count 133 = .ok (.ireturn, 1) := by decide +kernel
theorem dX10_count_134 : decode cX10_count 134 = .ok (.aload_n 0, 1) := by decide +kernel
theorem dX10_count_135 : decode cX10_count 135 = .ok (.getfield 62, 3) := by decide +kernel
theorem dX10_count_138 : decode cX10_count 138 = .ok (.invokevirtual 225, 3) := by decide +kernel
theorem dX10_count_141 : decode cX10_count 141 = .ok (.ireturn, 1) := by decide +kernel
theorem dX10_count_142 : decode cX10_count 142 = .ok (.aload_n 0, 1) := by decide +kernel
theorem dX10_count_143 : decode cX10_count 143 = .ok (.getfield 19, 3) := by decide +kernel
theorem dX10_count_146 : decode cX10_count 146 = .ok (.invokevirtual 275, 3) := by decide +kernel
theorem dX10_count_149 : decode cX10_count 149 = .ok (.ireturn, 1) := by decide +kernel
theorem dX10_count_150 : decode cX10_count 150 = .ok (.aload_n 0, 1) := by decide +kernel
theorem dX10_count_151 : decode cX10_count 151 = .ok (.getfield 40, 3) := by decide +kernel
theorem dX10_count_154 : decode cX10_count 154 = .ok (.getfield 105, 3) := by decide +kernel
theorem dX10_count_157 : decode cX10_count 157 = .ok (.ireturn, 1) := by decide +kernel
theorem dX10_count_158 : decode cX10_count 158 = .ok (.aload_n 0, 1) := by decide +kernel
theorem dX10_count_159 : decode cX10_count 159 = .ok (.getfield 62, 3) := by decide +kernel
theorem dX10_count_162 : decode cX10_count 162 = .ok (.getfield 336, 3) := by decide +kernel
theorem dX10_count_165 : decode cX10_count 165 = .ok (.ireturn, 1) := by decide +kernel
theorem dX10_count_166 : decode cX10_count 166 = .ok (.aload_n 0, 1) := by decide +kernel
theorem dX10_count_167 : decode cX10_count 167 = .ok (.getfield 12, 3) := by decide +kernel
theorem dX10_count_170 : decode cX10_count 170 = .ok (.getfield 90, 3) := by decide +kernel
theorem dX10_count_173 : decode cX10_count 173 = .ok (.ireturn, 1) := by decide +kernel
theorem dX10_count_174 : decode cX10_count 174 = .ok (.iconst (-1), 1) := by decide +kernel
theorem dX10_count_175 : decode cX10_count 175 = .ok (.ireturn, 1) := by decide +kernel
theorem dX10_isStripe_0 : decode cX10_isStripe 0 = .ok (.iload_n 1, 1) := by decide +kernel
theorem dX10_isStripe_1 : decode cX10_isStripe 1 = .ok (.ifCond .lt 18, 3) := by decide +kernel
theorem dX10_isStripe_4 : decode cX10_isStripe 4 = .ok (.iload_n 1, 1) := by decide +kernel
theorem dX10_isStripe_5 : decode cX10_isStripe 5 = .ok (.aload_n 0, 1) := by decide +kernel
theorem dX10_isStripe_6 : decode cX10_isStripe 6 = .ok (.getfield 50, 3) := by decide +kernel
theorem dX10_isStripe_9 : decode cX10_isStripe 9 = .ok (.getfield 327, 3) := by decide +kernel
theorem dX10_isStripe_12 : decode cX10_isStripe 12 = .ok (.if_icmp .ge 7, 3) := by decide +kernel
theorem dX10_isStripe_15 : decode cX10_isStripe 15 = .ok (.iconst 1, 1) := by decide +kernel
theorem dX10_isStripe_16 : decode cX10_isStripe 16 = .ok (.goto 4, 3) := by decide +kernel
theorem dX10_isStripe_19 : decode cX10_isStripe 19 = .ok (.iconst 0, 1) := by decide +kernel
theorem dX10_isStripe_20 : decode cX10_isStripe 20 = .ok (.ireturn, 1) := by decide +kernel
theorem dX10_isDatum_0 : decode cX10_isDatum 0 = .ok (.iload_n 1, 1) := by decide +kernel
theorem dX10_isDatum_1 : decode cX10_isDatum 1 = .ok (.ifCond .lt 18, 3) := by decide +kernel
theorem dX10_isDatum_4 : decode cX10_isDatum 4 = .ok (.iload_n 1, 1) := by decide +kernel
theorem dX10_isDatum_5 : decode cX10_isDatum 5 = .ok (.aload_n 0, 1) := by decide +kernel
theorem dX10_isDatum_6 : decode cX10_isDatum 6 = .ok (.getfield 50, 3) := by decide +kernel
theorem dX10_isDatum_9 : decode cX10_isDatum 9 = .ok (.getfield 109, 3) := by decide +kernel
theorem dX10_isDatum_12 : decode cX10_isDatum 12 = .ok (.if_icmp .ge 7, 3) := by decide +kernel
theorem dX10_isDatum_15 : decode cX10_isDatum 15 = .ok (.iconst 1, 1) := by decide +kernel
theorem dX10_isDatum_16 : decode cX10_isDatum 16 = .ok (.goto 4, 3) := by decide +kernel
theorem dX10_isDatum_19 : decode cX10_isDatum 19 = .ok (.iconst 0, 1) := by decide +kernel
theorem dX10_isDatum_20 : decode cX10_isDatum 20 = .ok (.ireturn, 1) := by decide +kernel
theorem dX10_isDisk_0 : decode cX10_isDisk 0 = .ok (.iload_n 1, 1) := by decide +kernel
theorem dX10_isDisk_1 : decode cX10_isDisk 1 = .ok (.ifCond .lt 18, 3) := by decide +kernel
theorem dX10_isDisk_4 : decode cX10_isDisk 4 = .ok (.iload_n 1, 1) := by decide +kernel
theorem dX10_isDisk_5 : decode cX10_isDisk 5 = .ok (.aload_n 0, 1) := by decide +kernel
theorem dX10_isDisk_6 : decode cX10_isDisk 6 = .ok (.getfield 50, 3) := by decide +kernel
theorem dX10_isDisk_9 : decode cX10_isDisk 9 = .ok (.getfield 112, 3) := by decide +kernel
theorem dX10_isDisk_12 : decode cX10_isDisk 12 = .ok (.if_icmp .ge 7, 3) := by decide +kernel
theorem dX10_isDisk_15 : decode cX10_isDisk 15 = .ok (.iconst 1, 1) := by decide +kernel
theorem dX10_isDisk_16 : decode cX10_isDisk 16 = .ok (.goto 4, 3) := by decide +kernel
theorem dX10_isDisk_19 : decode cX10_isDisk 19 = .ok (.iconst 0, 1) := by decide +kernel
theorem dX10_isDisk_20 : decode cX10_isDisk 20 = .ok (.ireturn, 1) := by decide +kernel
theorem dX10_isUpDisk_0 : decode cX10_isUpDisk 0 = .ok (.aload_n 0, 1) := by decide +kernel
theorem dX10_isUpDisk_1 : decode cX10_isUpDisk 1 = .ok (.iload_n 1, 1) := by decide +kernel
theorem dX10_isUpDisk_2 : decode cX10_isUpDisk 2 = .ok (.invokevirtual 170, 3) := by decide +kernel
theorem dX10_isUpDisk_5 : decode cX10_isUpDisk 5 = .ok (.ifCond .eq 18, 3) := by decide +kernel
theorem dX10_isUpDisk_8 : decode cX10_isUpDisk 8 = .ok (.aload_n 0, 1) := by decide +kernel
theorem dX10_isUpDisk_9 : decode cX10_isUpDisk 9 = .ok (.getfield 62, 3) := by decide +kernel
theorem dX10_isUpDisk_12 : decode cX10_isUpDisk 12 = .ok (.iload_n 1, 1) := by decide +kernel
theorem dX10_isUpDisk_13 : decode cX10_isUpDisk 13 = .ok (.invokevirtual 176, 3) := by decide +kernel
theorem dX10_isUpDisk_16 : decode cX10_isUpDisk 16 = .ok (.ifCond .eq 7, 3) := by decide +kernel
theorem dX10_isUpDisk_19 : decode cX10_isUpDisk 19 = .ok (.iconst 1, 1) := by decide +kernel
theorem dX10_isUpDisk_20 : decode cX10_isUpDisk 20 = .ok (.goto 4, 3) := by decide +kernel
theorem dX10_isUpDisk_23 : decode cX10_isUpDisk 23 = .ok (.iconst 0, 1) := by decide +kernel
theorem dX10_isUpDisk_24 : decode cX10_isUpDisk 24 = .ok (.ireturn, 1) := by decide +kernel
theorem dX10_performDrawn_0 : decode cX10_performDrawn 0 = .ok (.iconst 0, 1) := by decide +kernel
theorem dX10_performDrawn_1 : decode cX10_performDrawn 1 = .ok (.istore_n 3, 1) := by decide +kernel
theorem dX10_performDrawn_2 : decode cX10_performDrawn 2 = .ok (.iload_n 3, 1) := by decide +kernel
theorem dX10_performDrawn_3 : decode cX10_performDrawn 3 = .ok (.iload_n 2, 1) := by decide +kernel
theorem dX10_performDrawn_4 : decode cX10_performDrawn 4 = .ok (.if_icmp .ge 129, 3) := by decide +kernel
theorem dX10_performDrawn_7 : decode cX10_performDrawn 7 = .ok (.aload_n 1, 1) := by decide +kernel
theorem dX10_performDrawn_8 : decode cX10_performDrawn 8 = .ok (.bipush 8, 2) := by decide +kernel
theorem dX10_performDrawn_10 : decode cX10_performDrawn 10 = .ok (.invokevirtual 339, 3) := by decide +kernel
theorem dX10_performDrawn_13 : decode cX10_performDrawn 13 = .ok (.istore 4, 2) := by decide +kernel
theorem dX10_performDrawn_15 : decode cX10_performDrawn 15 = .ok (.iload 4, 2) := by decide +kernel
theorem dX10_performDrawn_17 : decode cX10_performDrawn 17 = .ok (.iconst 4, 1) := by decide +kernel
theorem dX10_performDrawn_18 : decode cX10_performDrawn 18 = .ok (.if_icmp .gt 51, 3) := by decide +kernel
theorem dX10_performDrawn_21 : decode cX10_performDrawn 21 = .ok (.aload_n 1, 1) := by decide +kernel
theorem dX10_performDrawn_22 : decode cX10_performDrawn 22 = .ok (.aload_n 0, 1) := by decide +kernel
theorem dX10_performDrawn_23 : decode cX10_performDrawn 23 = .ok (.getfield 50, 3) := by decide +kernel
theorem dX10_performDrawn_26 : decode cX10_performDrawn 26 = .ok (.getfield 109, 3) := by decide +kernel
theorem dX10_performDrawn_29 : decode cX10_performDrawn 29 = .ok (.invokevirtual 339, 3) := by decide +kernel
theorem dX10_performDrawn_32 : decode cX10_performDrawn 32 = .ok (.istore 5, 2) := by decide +kernel
theorem dX10_performDrawn_34 : decode cX10_performDrawn 34 = .ok (.aload_n 1, 1) := by decide +kernel
theorem dX10_performDrawn_35 : decode cX10_performDrawn 35 = .ok (.sipush 256, 3) := by decide +kernel
theorem dX10_performDrawn_38 : decode cX10_performDrawn 38 = .ok (.invokevirtual 339, 3) := by decide +kernel
theorem dX10_performDrawn_41 : decode cX10_performDrawn 41 = .ok (.istore 6, 2) := by decide +kernel
theorem dX10_performDrawn_43 : decode cX10_performDrawn 43 = .ok (.aload_n 0, 1) := by decide +kernel
theorem dX10_performDrawn_44 : decode cX10_performDrawn 44 = .ok (.getfield 66, 3) := by decide +kernel
theorem dX10_performDrawn_47 : decode cX10_performDrawn 47 = .ok (.iload 4, 2) := by decide +kernel
theorem dX10_performDrawn_49 : decode cX10_performDrawn 49 = .ok (.iconst 2, 1) := by decide +kernel
theorem dX10_performDrawn_50 : decode cX10_performDrawn 50 = .ok (.if_icmp .gt 7, 3) := by decide +kernel
theorem dX10_performDrawn_53 : decode cX10_performDrawn 53 = .ok (.iconst 0, 1) := by decide +kernel
theorem dX10_performDrawn_54 : decode cX10_performDrawn 54 = .ok (.goto 4, 3) := by decide +kernel
theorem dX10_performDrawn_57 : decode cX10_performDrawn 57 = .ok (.iconst 1, 1) := by decide +kernel
theorem dX10_performDrawn_58 : decode cX10_performDrawn 58 = .ok (.iload 5, 2) := by decide +kernel
theorem dX10_performDrawn_60 : decode cX10_performDrawn 60 = .ok (.iload 6, 2) := by decide +kernel
theorem dX10_performDrawn_62 : decode cX10_performDrawn 62 = .ok (.invokevirtual 221, 3) := by decide +kernel
theorem dX10_performDrawn_65 : decode cX10_performDrawn 65 = .ok (.pop, 1) := by decide +kernel
theorem dX10_performDrawn_66 : decode cX10_performDrawn 66 = .ok (.goto 61, 3) := by decide +kernel
theorem dX10_performDrawn_69 : decode cX10_performDrawn 69 = .ok (.iload 4, 2) := by decide +kernel
theorem dX10_performDrawn_71 : decode cX10_performDrawn 71 = .ok (.bipush 6, 2) := by decide +kernel
theorem dX10_performDrawn_73 : decode cX10_performDrawn 73 = .ok (.if_icmp .gt 37, 3) := by decide +kernel
theorem dX10_performDrawn_76 : decode cX10_performDrawn 76 = .ok (.aload_n 0, 1) := by decide +kernel
theorem dX10_performDrawn_77 : decode cX10_performDrawn 77 = .ok (.getfield 66, 3) := by decide +kernel
theorem dX10_performDrawn_80 : decode cX10_performDrawn 80 = .ok (.iload 4, 2) := by decide +kernel
theorem dX10_performDrawn_82 : decode cX10_performDrawn 82 = .ok (.iconst 5, 1) := by decide +kernel
theorem dX10_performDrawn_83 : decode cX10_performDrawn 83 = .ok (.if_icmp .ne 7, 3) := by decide +kernel
theorem dX10_performDrawn_86 : decode cX10_performDrawn 86 = .ok (.iconst 2, 1) := by decide +kernel
theorem dX10_performDrawn_87 : decode cX10_performDrawn 87 = .ok (.goto 4, 3) := by decide +kernel
theorem dX10_performDrawn_90 : decode cX10_performDrawn 90 = .ok (.iconst 3, 1) := by decide +kernel
theorem dX10_performDrawn_91 : decode cX10_performDrawn 91 = .ok (.aload_n 1, 1) := by decide +kernel
theorem dX10_performDrawn_92 : decode cX10_performDrawn 92 = .ok (.aload_n 0, 1) := by decide +kernel
theorem dX10_performDrawn_93 : decode cX10_performDrawn 93 = .ok (.getfield 50, 3) := by decide +kernel
theorem dX10_performDrawn_96 : decode cX10_performDrawn 96 = .ok (.getfield 112, 3) := by decide +kernel
theorem dX10_performDrawn_99 : decode cX10_performDrawn 99 = .ok (.invokevirtual 339, 3) := by decide +kernel
theorem dX10_performDrawn_102 : decode cX10_performDrawn 102 = .ok (.iconst 0, 1) := by decide +kernel
theorem dX10_performDrawn_103 : decode cX10_performDrawn 103 = .ok (.invokevirtual 221, 3) := by decide +kernel
theorem dX10_performDrawn_106 : decode cX10_performDrawn 106 = .ok (.pop, 1) := by decide +kernel
theorem dX10_performDrawn_107 : decode cX10_performDrawn 107 = .ok (.goto 20, 3) := by decide +kernel
theorem dX10_performDrawn_110 : decode cX10_performDrawn 110 = .ok (.aload_n 0, 1) := by decide +kernel
theorem dX10_performDrawn_111 : decode cX10_performDrawn 111 = .ok (.getfield 66, 3) := by decide +kernel
theorem dX10_performDrawn_114 : decode cX10_performDrawn 114 = .ok (.iconst 4, 1) := by decide +kernel
theorem dX10_performDrawn_115 : decode cX10_performDrawn 115 = .ok (.aload_n 1, 1) := by decide +kernel
theorem dX10_performDrawn_116 : decode cX10_performDrawn 116 = .ok (.iconst 4, 1) := by decide +kernel
theorem dX10_performDrawn_117 : decode cX10_performDrawn 117 = .ok (.invokevirtual 339, 3) := by decide +kernel
theorem dX10_performDrawn_120 : decode cX10_performDrawn 120 = .ok (.iconst 1, 1) := by decide +kernel
theorem dX10_performDrawn_121 : decode cX10_performDrawn 121 = .ok (.iadd, 1) := by decide +kernel
theorem dX10_performDrawn_122 : decode cX10_performDrawn 122 = .ok (.iconst 0, 1) := by decide +kernel
theorem dX10_performDrawn_123 : decode cX10_performDrawn 123 = .ok (.invokevirtual 221, 3) := by decide +kernel
theorem dX10_performDrawn_126 : decode cX10_performDrawn 126 = .ok (.pop, 1) := by decide +kernel
theorem dX10_performDrawn_127 : decode cX10_performDrawn 127 = .ok (.iinc 3 1, 3) := by decide +kernel
theorem dX10_performDrawn_130 : decode cX10_performDrawn 130 = .ok (.goto (-128), 3) := by decide +kernel
theorem dX10_performDrawn_133 : decode cX10_performDrawn 133 = .ok (.return_, 1) := by decide +kernel
theorem dX10_spreadOf_0 : decode cX10_spreadOf 0 = .ok (.iload_n 1, 1) := by decide +kernel
theorem dX10_spreadOf_1 : decode cX10_spreadOf 1 = .ok (.iconst 1, 1) := by decide +kernel
theorem dX10_spreadOf_2 : decode cX10_spreadOf 2 = .ok (.if_icmp .lt 9, 3) := by decide +kernel
theorem dX10_spreadOf_5 : decode cX10_spreadOf 5 = .ok (.iload_n 1, 1) := by decide +kernel
theorem dX10_spreadOf_6 : decode cX10_spreadOf 6 = .ok (.aload_n 0, 1) := by decide +kernel
theorem dX10_spreadOf_7 : decode cX10_spreadOf 7 = .ok (.arraylength, 1) := by decide +kernel
theorem dX10_spreadOf_8 : decode cX10_spreadOf 8 = .ok (.if_icmp .le 5, 3) := by decide +kernel
theorem dX10_spreadOf_11 : decode cX10_spreadOf 11 = .ok (.iconst 0, 1) := by decide +kernel
theorem dX10_spreadOf_12 : decode cX10_spreadOf 12 = .ok (.ireturn, 1) := by decide +kernel
theorem dX10_spreadOf_13 : decode cX10_spreadOf 13 = .ok (.aload_n 0, 1) := by decide +kernel
theorem dX10_spreadOf_14 : decode cX10_spreadOf 14 = .ok (.iconst 0, 1) := by decide +kernel
theorem dX10_spreadOf_15 : decode cX10_spreadOf 15 = .ok (.iaload, 1) := by decide +kernel
theorem dX10_spreadOf_16 : decode cX10_spreadOf 16 = .ok (.istore_n 2, 1) := by decide +kernel
theorem dX10_spreadOf_17 : decode cX10_spreadOf 17 = .ok (.aload_n 0, 1) := by decide +kernel
theorem dX10_spreadOf_18 : decode cX10_spreadOf 18 = .ok (.iconst 0, 1) := by decide +kernel
theorem dX10_spreadOf_19 : decode cX10_spreadOf 19 = .ok (.iaload, 1) := by decide +kernel
theorem dX10_spreadOf_20 : decode cX10_spreadOf 20 = .ok (.istore_n 3, 1) := by decide +kernel
theorem dX10_spreadOf_21 : decode cX10_spreadOf 21 = .ok (.iconst 1, 1) := by decide +kernel
theorem dX10_spreadOf_22 : decode cX10_spreadOf 22 = .ok (.istore 4, 2) := by decide +kernel
theorem dX10_spreadOf_24 : decode cX10_spreadOf 24 = .ok (.iload 4, 2) := by decide +kernel
theorem dX10_spreadOf_26 : decode cX10_spreadOf 26 = .ok (.iload_n 1, 1) := by decide +kernel
theorem dX10_spreadOf_27 : decode cX10_spreadOf 27 = .ok (.if_icmp .ge 27, 3) := by decide +kernel
theorem dX10_spreadOf_30 : decode cX10_spreadOf 30 = .ok (.iload_n 2, 1) := by decide +kernel
theorem dX10_spreadOf_31 : decode cX10_spreadOf 31 = .ok (.aload_n 0, 1) := by decide +kernel
theorem dX10_spreadOf_32 : decode cX10_spreadOf 32 = .ok (.iload 4, 2) := by decide +kernel
theorem dX10_spreadOf_34 : decode cX10_spreadOf 34 = .ok (.iaload, 1) := by decide +kernel
theorem dX10_spreadOf_35 : decode cX10_spreadOf 35 = .ok (.invokestatic 342, 3) := by decide +kernel
theorem dX10_spreadOf_38 : decode cX10_spreadOf 38 = .ok (.istore_n 2, 1) := by decide +kernel
theorem dX10_spreadOf_39 : decode cX10_spreadOf 39 = .ok (.iload_n 3, 1) := by decide +kernel
theorem dX10_spreadOf_40 : decode cX10_spreadOf 40 = .ok (.aload_n 0, 1) := by decide +kernel
theorem dX10_spreadOf_41 : decode cX10_spreadOf 41 = .ok (.iload 4, 2) := by decide +kernel
theorem dX10_spreadOf_43 : decode cX10_spreadOf 43 = .ok (.iaload, 1) := by decide +kernel
theorem dX10_spreadOf_44 : decode cX10_spreadOf 44 = .ok (.invokestatic 347, 3) := by decide +kernel
theorem dX10_spreadOf_47 : decode cX10_spreadOf 47 = .ok (.istore_n 3, 1) := by decide +kernel
theorem dX10_spreadOf_48 : decode cX10_spreadOf 48 = .ok (.iinc 4 1, 3) := by decide +kernel
theorem dX10_spreadOf_51 : decode cX10_spreadOf 51 = .ok (.goto (-27), 3) := by decide +kernel
theorem dX10_spreadOf_54 : decode cX10_spreadOf 54 = .ok (.iload_n 2, 1) := by decide +kernel
theorem dX10_spreadOf_55 : decode cX10_spreadOf 55 = .ok (.iload_n 3, 1) := by decide +kernel
theorem dX10_spreadOf_56 : decode cX10_spreadOf 56 = .ok (.isub, 1) := by decide +kernel
theorem dX10_spreadOf_57 : decode cX10_spreadOf 57 = .ok (.ireturn, 1) := by decide +kernel
theorem dX11_init_0 : decode cX11_init 0 = .ok (.aload_n 0, 1) := by decide +kernel
theorem dX11_init_1 : decode cX11_init 1 = .ok (.invokespecial 1, 3) := by decide +kernel
theorem dX11_init_4 : decode cX11_init 4 = .ok (.aload_n 0, 1) := by decide +kernel
theorem dX11_init_5 : decode cX11_init 5 = .ok (.sipush 1000, 3) := by decide +kernel
theorem dX11_init_8 : decode cX11_init 8 = .ok (.newarray .int, 2) := by decide +kernel
theorem dX11_init_10 : decode cX11_init 10 = .ok (.putfield 7, 3) := by decide +kernel
theorem dX11_init_13 : decode cX11_init 13 = .ok (.aload_n 0, 1) := by decide +kernel
theorem dX11_init_14 : decode cX11_init 14 = .ok (.bipush 6, 2) := by decide +kernel
theorem dX11_init_16 : decode cX11_init 16 = .ok (.newarray .int, 2) := by decide +kernel
theorem dX11_init_18 : decode cX11_init 18 = .ok (.putfield 13, 3) := by decide +kernel
theorem dX11_init_21 : decode cX11_init 21 = .ok (.aload_n 0, 1) := by decide +kernel
theorem dX11_init_22 : decode cX11_init 22 = .ok (.bipush 12, 2) := by decide +kernel
theorem dX11_init_24 : decode cX11_init 24 = .ok (.newarray .int, 2) := by decide +kernel
theorem dX11_init_26 : decode cX11_init 26 = .ok (.putfield 16, 3) := by decide +kernel
theorem dX11_init_29 : decode cX11_init 29 = .ok (.aload_n 0, 1) := by decide +kernel
theorem dX11_init_30 : decode cX11_init 30 = .ok (.bipush 12, 2) := by decide +kernel
theorem dX11_init_32 : decode cX11_init 32 = .ok (.newarray .int, 2) := by decide +kernel
theorem dX11_init_34 : decode cX11_init 34 = .ok (.putfield 19, 3) := by decide +kernel
theorem dX11_init_37 : decode cX11_init 37 = .ok (.aload_n 0, 1) := by decide +kernel
theorem dX11_init_38 : decode cX11_init 38 = .ok (.bipush 60, 2) := by decide +kernel
theorem dX11_init_40 : decode cX11_init 40 = .ok (.newarray .int, 2) := by decide +kernel
theorem dX11_init_42 : decode cX11_init 42 = .ok (.putfield 22, 3) := by decide +kernel
theorem dX11_init_45 : decode cX11_init 45 = .ok (.aload_n 0, 1) := by decide +kernel
theorem dX11_init_46 : decode cX11_init 46 = .ok (.iconst 2, 1) := by decide +kernel
theorem dX11_init_47 : decode cX11_init 47 = .ok (.newarray .int, 2) := by decide +kernel
theorem dX11_init_49 : decode cX11_init 49 = .ok (.putfield 25, 3) := by decide +kernel
theorem dX11_init_52 : decode cX11_init 52 = .ok (.aload_n 0, 1) := by decide +kernel
theorem dX11_init_53 : decode cX11_init 53 = .ok (.iconst 2, 1) := by decide +kernel
theorem dX11_init_54 : decode cX11_init 54 = .ok (.newarray .int, 2) := by decide +kernel
theorem dX11_init_56 : decode cX11_init 56 = .ok (.putfield 28, 3) := by decide +kernel
theorem dX11_init_59 : decode cX11_init 59 = .ok (.aload_n 0, 1) := by decide +kernel
theorem dX11_init_60 : decode cX11_init 60 = .ok (.sipush 2000, 3) := by decide +kernel
theorem dX11_init_63 : decode cX11_init 63 = .ok (.newarray .int, 2) := by decide +kernel
theorem dX11_init_65 : decode cX11_init 65 = .ok (.putfield 31, 3) := by decide +kernel
theorem dX11_init_68 : decode cX11_init 68 = .ok (.aload_n 0, 1) := by decide +kernel
theorem dX11_init_69 : decode cX11_init 69 = .ok (.bipush 7, 2) := by decide +kernel
theorem dX11_init_71 : decode cX11_init 71 = .ok (.newarray .int, 2) := by decide +kernel
theorem dX11_init_73 : decode cX11_init 73 = .ok (.putfield 34, 3) := by decide +kernel
theorem dX11_init_76 : decode cX11_init 76 = .ok (.aload_n 0, 1) := by decide +kernel
theorem dX11_init_77 : decode cX11_init 77 = .ok (.bipush 7, 2) := by decide +kernel
theorem dX11_init_79 : decode cX11_init 79 = .ok (.newarray .boolean, 2) := by decide +kernel
theorem dX11_init_81 : decode cX11_init 81 = .ok (.putfield 37, 3) := by decide +kernel
theorem dX11_init_84 : decode cX11_init 84 = .ok (.aload_n 0, 1) := by decide +kernel
theorem dX11_init_85 : decode cX11_init 85 = .ok (.bipush 7, 2) := by decide +kernel
theorem dX11_init_87 : decode cX11_init 87 = .ok (.newarray .int, 2) := by decide +kernel
theorem dX11_init_89 : decode cX11_init 89 = .ok (.putfield 41, 3) := by decide +kernel
theorem dX11_init_92 : decode cX11_init 92 = .ok (.aload_n 0, 1) := by decide +kernel
theorem dX11_init_93 : decode cX11_init 93 = .ok (.bipush 7, 2) := by decide +kernel
theorem dX11_init_95 : decode cX11_init 95 = .ok (.newarray .int, 2) := by decide +kernel
theorem dX11_init_97 : decode cX11_init 97 = .ok (.putfield 44, 3) := by decide +kernel
theorem dX11_init_100 : decode cX11_init 100 = .ok (.aload_n 0, 1) := by decide +kernel
theorem dX11_init_101 : decode cX11_init 101 = .ok (.bipush 7, 2) := by decide +kernel
theorem dX11_init_103 : decode cX11_init 103 = .ok (.newarray .int, 2) := by decide +kernel
theorem dX11_init_105 : decode cX11_init 105 = .ok (.putfield 47, 3) := by decide +kernel
theorem dX11_init_108 : decode cX11_init 108 = .ok (.aload_n 0, 1) := by decide +kernel
theorem dX11_init_109 : decode cX11_init 109 = .ok (.bipush 7, 2) := by decide +kernel
theorem dX11_init_111 : decode cX11_init 111 = .ok (.newarray .int, 2) := by decide +kernel
theorem dX11_init_113 : decode cX11_init 113 = .ok (.putfield 50, 3) := by decide +kernel
theorem dX11_init_116 : decode cX11_init 116 = .ok (.aload_n 0, 1) := by decide +kernel
theorem dX11_init_117 : decode cX11_init 117 = .ok (.bipush 7, 2) := by decide +kernel
theorem dX11_init_119 : decode cX11_init 119 = .ok (.newarray .int, 2) := by decide +kernel
theorem dX11_init_121 : decode cX11_init 121 = .ok (.putfield 53, 3) := by decide +kernel
theorem dX11_init_124 : decode cX11_init 124 = .ok (.aload_n 0, 1) := by decide +kernel
theorem dX11_init_125 : decode cX11_init 125 = .ok (.bipush 7, 2) := by decide +kernel
theorem dX11_init_127 : decode cX11_init 127 = .ok (.newarray .int, 2) := by decide +kernel
theorem dX11_init_129 : decode cX11_init 129 = .ok (.putfield 56, 3) := by decide +kernel
theorem dX11_init_132 : decode cX11_init 132 = .ok (.aload_n 0, 1) := by decide +kernel
theorem dX11_init_133 : decode cX11_init 133 = .ok (.bipush 7, 2) := by decide +kernel
theorem dX11_init_135 : decode cX11_init 135 = .ok (.newarray .int, 2) := by decide +kernel
theorem dX11_init_137 : decode cX11_init 137 = .ok (.putfield 59, 3) := by decide +kernel
theorem dX11_init_140 : decode cX11_init 140 = .ok (.aload_n 0, 1) := by decide +kernel
theorem dX11_init_141 : decode cX11_init 141 = .ok (.bipush 7, 2) := by decide +kernel
theorem dX11_init_143 : decode cX11_init 143 = .ok (.newarray .int, 2) := by decide +kernel
theorem dX11_init_145 : decode cX11_init 145 = .ok (.putfield 62, 3) := by decide +kernel
theorem dX11_init_148 : decode cX11_init 148 = .ok (.aload_n 0, 1) := by decide +kernel
theorem dX11_init_149 : decode cX11_init 149 = .ok (.bipush 7, 2) := by decide +kernel
theorem dX11_init_151 : decode cX11_init 151 = .ok (.newarray .int, 2) := by decide +kernel
theorem dX11_init_153 : decode cX11_init 153 = .ok (.putfield 65, 3) := by decide +kernel
theorem dX11_init_156 : decode cX11_init 156 = .ok (.aload_n 0, 1) := by decide +kernel
theorem dX11_init_157 : decode cX11_init 157 = .ok (.bipush 20, 2) := by decide +kernel
theorem dX11_init_159 : decode cX11_init 159 = .ok (.newarray .int, 2) := by decide +kernel
theorem dX11_init_161 : decode cX11_init 161 = .ok (.putfield 68, 3) := by decide +kernel
theorem dX11_init_164 : decode cX11_init 164 = .ok (.aload_n 0, 1) := by decide +kernel
theorem dX11_init_165 : decode cX11_init 165 = .ok (.iconst 2, 1) := by decide +kernel
theorem dX11_init_166 : decode cX11_init 166 = .ok (.newarray .int, 2) := by decide +kernel
theorem dX11_init_168 : decode cX11_init 168 = .ok (.putfield 71, 3) := by decide +kernel
theorem dX11_init_171 : decode cX11_init 171 = .ok (.aload_n 0, 1) := by decide +kernel
theorem dX11_init_172 : decode cX11_init 172 = .ok (.bipush 80, 2) := by decide +kernel
theorem dX11_init_174 : decode cX11_init 174 = .ok (.newarray .int, 2) := by decide +kernel
theorem dX11_init_176 : decode cX11_init 176 = .ok (.putfield 74, 3) := by decide +kernel
theorem dX11_init_179 : decode cX11_init 179 = .ok (.aload_n 0, 1) := by decide +kernel
theorem dX11_init_180 : decode cX11_init 180 = .ok (.bipush 80, 2) := by decide +kernel
theorem dX11_init_182 : decode cX11_init 182 = .ok (.newarray .int, 2) := by decide +kernel
theorem dX11_init_184 : decode cX11_init 184 = .ok (.putfield 77, 3) := by decide +kernel
theorem dX11_init_187 : decode cX11_init 187 = .ok (.aload_n 0, 1) := by decide +kernel
theorem dX11_init_188 : decode cX11_init 188 = .ok (.bipush 80, 2) := by decide +kernel
theorem dX11_init_190 : decode cX11_init 190 = .ok (.newarray .int, 2) := by decide +kernel
theorem dX11_init_192 : decode cX11_init 192 = .ok (.putfield 80, 3) := by decide +kernel
theorem dX11_init_195 : decode cX11_init 195 = .ok (.aload_n 0, 1) := by decide +kernel
theorem dX11_init_196 : decode cX11_init 196 = .ok (.bipush 80, 2) := by decide +kernel
theorem dX11_init_198 : decode cX11_init 198 = .ok (.newarray .int, 2) := by decide +kernel
theorem dX11_init_200 : decode cX11_init 200 = .ok (.putfield 83, 3) := by decide +kernel
